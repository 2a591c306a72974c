/-! ===== blocks: model0 ===== -/
theorem dX7_row_0 : decode cX7_row 0 = .ok (.iload_n 1, 1) := by decide +kernel
theorem dX7_row_1 : decode cX7_row 1 = .ok (.invokestatic 81, 3) := by decide +kernel
theorem dX7_row_4 : decode cX7_row 4 = .ok (.ifCond .eq 9, 3) := by decide +kernel
theorem dX7_row_7 : decode cX7_row 7 = .ok (.iload_n 2, 1) := by decide +kernel
theorem dX7_row_8 : decode cX7_row 8 = .ok (.bipush 40, 2) := by decide +kernel
theorem dX7_row_10 : decode cX7_row 10 = .ok (.if_icmp .le 5, 3) := by decide +kernel
theorem dX7_row_13 : decode cX7_row 13 = .ok (.iconst (-1), 1) := by decide +kernel
theorem dX7_row_14 : decode cX7_row 14 = .ok (.ireturn, 1) := by decide +kernel
theorem dX7_row_15 : decode cX7_row 15 = .ok (.iload_n 2, 1) := by decide +kernel
theorem dX7_row_16 : decode cX7_row 16 = .ok (.ifCond .ge 9, 3) := by decide +kernel
theorem dX7_row_19 : decode cX7_row 19 = .ok (.aload_n 0, 1) := by decide +kernel
theorem dX7_row_20 : decode cX7_row 20 = .ok (.iconst 5, 1) := by decide +kernel
theorem dX7_row_21 : decode cX7_row 21 = .ok (.invokevirtual 85, 3) := by decide +kernel
theorem dX7_row_24 : decode cX7_row 24 = .ok (.ireturn, 1) := by decide +kernel
theorem dX7_row_25 : decode cX7_row 25 = .ok (.aload_n 0, 1) := by decide +kernel
theorem dX7_row_26 : decode cX7_row 26 = .ok (.getfield 7, 3) := by decide +kernel
theorem dX7_row_29 : decode cX7_row 29 = .ok (.iload_n 1, 1) := by decide +kernel
theorem dX7_row_30 : decode cX7_row 30 = .ok (.iload_n 2, 1) := by decide +kernel
theorem dX7_row_31 : decode cX7_row 31 = .ok (.iastore, 1) := by decide +kernel
theorem dX7_row_32 : decode cX7_row 32 = .ok (.iconst 0, 1) := by decide +kernel
theorem dX7_row_33 : decode cX7_row 33 = .ok (.istore_n 3, 1) := by decide +kernel
theorem dX7_row_34 : decode cX7_row 34 = .ok (.iload_n 3, 1) := by decide +kernel
theorem dX7_row_35 : decode cX7_row 35 = .ok (.bipush 40, 2) := by decide +kernel
theorem dX7_row_37 : decode cX7_row 37 = .ok (.if_icmp .ge 21, 3) := by decide +kernel
theorem dX7_row_40 : decode cX7_row 40 = .ok (.aload_n 0, 1) := by decide +kernel
theorem dX7_row_41 : decode cX7_row 41 = .ok (.getfield 13, 3) := by decide +kernel
theorem dX7_row_44 : decode cX7_row 44 = .ok (.bipush 40, 2) := by decide +kernel
theorem dX7_row_46 : decode cX7_row 46 = .ok (.iload_n 1, 1) := by decide +kernel
theorem dX7_row_47 : decode cX7_row 47 = .ok (.imul, 1) := by decide +kernel
theorem dX7_row_48 : decode cX7_row 48 = .ok (.iload_n 3, 1) := by decide +kernel
theorem dX7_row_49 : decode cX7_row 49 = .ok (.iadd, 1) := by decide +kernel
theorem dX7_row_50 : decode cX7_row 50 = .ok (.iconst 0, 1) := by decide +kernel
theorem dX7_row_51 : decode cX7_row 51 = .ok (.iastore, 1) := by decide +kernel
theorem dX7_row_52 : decode cX7_row 52 = .ok (.iinc 3 1, 3) := by decide +kernel
theorem dX7_row_55 : decode cX7_row 55 = .ok (.goto (-21), 3) := by decide +kernel
theorem dX7_row_58 : decode cX7_row 58 = .ok (.iload_n 2, 1) := by decide +kernel
theorem dX7_row_59 : decode cX7_row 59 = .ok (.ireturn, 1) := by decide +kernel
set_option maxHeartbeats 200000 in
theorem bX7_row_0 {S : pv_S} {x1 x2 : Int32} {a3 : Option Value} : pv_R mX7_row 0 [some (.ref 37), some (.int x1), some (.int x2), a3] [] (pv_em S) = pv_cc (pv_R mX7_isRow 0 [some (.int x1)] [] (pv_em S)) mX7_row 4 [some (.ref 37), some (.int x1), some (.int x2), a3] [] := Eq.trans (pv_Rstp dX7_row_0 rfl rfl rfl) (pv_Rcall (As := [.int x1]) (rest := []) dX7_row_1 rfl mfX7_81 rfl rfl rfl rfl rfl)
set_option maxHeartbeats 200000 in
theorem bX7_row_4 {S : pv_S} {x1 x2 u0 : Int32} {a3 : Option Value} : pv_R mX7_row 4 [some (.ref 37), some (.int x1), some (.int x2), a3] [.int u0] (pv_em S) = if u0 = 0 then pv_R mX7_row 13 [some (.ref 37), some (.int x1), some (.int x2), a3] [] (pv_em S) else pv_R mX7_row 7 [some (.ref 37), some (.int x1), some (.int x2), a3] [] (pv_em S) := pv_Rbr (tgt := 13) dX7_row_4 rfl rfl rfl rfl rfl (by decide)
set_option maxHeartbeats 200000 in
theorem bX7_row_7 {S : pv_S} {x1 x2 : Int32} {a3 : Option Value} : pv_R mX7_row 7 [some (.ref 37), some (.int x1), some (.int x2), a3] [] (pv_em S) = if x2 ≤ 40 then pv_R mX7_row 15 [some (.ref 37), some (.int x1), some (.int x2), a3] [] (pv_em S) else pv_R mX7_row 13 [some (.ref 37), some (.int x1), some (.int x2), a3] [] (pv_em S) := Eq.trans (pv_Rstp dX7_row_7 rfl rfl rfl) (Eq.trans (pv_Rbp dX7_row_8 kb_40) (pv_Rbr (tgt := 15) dX7_row_10 rfl rfl rfl rfl rfl (by decide)))
set_option maxHeartbeats 200000 in
theorem bX7_row_13 {S : pv_S} {x1 x2 : Int32} {a3 : Option Value} : pv_R mX7_row 13 [some (.ref 37), some (.int x1), some (.int x2), a3] [] (pv_em S) = some (some (.int (-1)), pv_em S) := Eq.trans (pv_Ric dX7_row_13 ki_m1) (pv_Rret dX7_row_14 rfl)
set_option maxHeartbeats 200000 in
theorem bX7_row_15 {S : pv_S} {x1 x2 : Int32} {a3 : Option Value} : pv_R mX7_row 15 [some (.ref 37), some (.int x1), some (.int x2), a3] [] (pv_em S) = if 0 ≤ x2 then pv_R mX7_row 25 [some (.ref 37), some (.int x1), some (.int x2), a3] [] (pv_em S) else pv_R mX7_row 19 [some (.ref 37), some (.int x1), some (.int x2), a3] [] (pv_em S) := Eq.trans (pv_Rstp dX7_row_15 rfl rfl rfl) (pv_Rbr (tgt := 25) dX7_row_16 rfl rfl rfl rfl rfl (by decide))
set_option maxHeartbeats 200000 in
theorem bX7_row_19 {S : pv_S} {x1 x2 : Int32} {a3 : Option Value} : pv_R mX7_row 19 [some (.ref 37), some (.int x1), some (.int x2), a3] [] (pv_em S) = pv_cc (pv_R mX7_found 0 [some (.ref 37), some (.int 5)] [] (pv_em S)) mX7_row 24 [some (.ref 37), some (.int x1), some (.int x2), a3] [] := Eq.trans (pv_Rstp dX7_row_19 rfl rfl rfl) (Eq.trans (pv_Ric dX7_row_20 ki_5) (pv_Rcall (As := [.ref 37, .int 5]) (rest := []) dX7_row_21 rfl mfX7_85 rfl rfl rfl rfl rfl))
set_option maxHeartbeats 200000 in
theorem bX7_row_24 {S : pv_S} {x1 x2 u0 : Int32} {a3 : Option Value} : pv_R mX7_row 24 [some (.ref 37), some (.int x1), some (.int x2), a3] [.int u0] (pv_em S) = some (some (.int u0), pv_em S) := pv_Rret dX7_row_24 rfl
set_option maxHeartbeats 200000 in
theorem bX7_row_25 {S : pv_S} {x1 x2 : Int32} {a3 : Option Value} : pv_R mX7_row 25 [some (.ref 37), some (.int x1), some (.int x2), a3] [] (pv_em S) = if x1 < 0 ∨ 6 ≤ x1.toNatClampNeg then none else pv_R mX7_row 34 [some (.ref 37), some (.int x1), some (.int x2), some (.int 0)] [] (pv_em (pv_si S 38 x1.toNatClampNeg x2)) := Eq.trans (pv_Rstp dX7_row_25 rfl rfl rfl) (Eq.trans (pv_Rget dX7_row_26 ffX7_7 (by decide) (pv_ce_37 _ _) rfl) (Eq.trans (pv_Rstp dX7_row_29 rfl rfl rfl) (Eq.trans (pv_Rstp dX7_row_30 rfl rfl rfl) (Eq.trans (pv_Rast dX7_row_31 (by decide) (pv_ce_38 _ _) (pv_em_si rfl)) (pv_iteN (fun h1 => Eq.trans (pv_Ric dX7_row_32 ki_0) (pv_Rstp dX7_row_33 rfl rfl rfl)))))))
set_option maxHeartbeats 200000 in
theorem bX7_row_34 {S : pv_S} {x1 x2 x3 : Int32} : pv_R mX7_row 34 [some (.ref 37), some (.int x1), some (.int x2), some (.int x3)] [] (pv_em S) = if 40 ≤ x3 then pv_R mX7_row 58 [some (.ref 37), some (.int x1), some (.int x2), some (.int x3)] [] (pv_em S) else pv_R mX7_row 40 [some (.ref 37), some (.int x1), some (.int x2), some (.int x3)] [] (pv_em S) := Eq.trans (pv_Rstp dX7_row_34 rfl rfl rfl) (Eq.trans (pv_Rbp dX7_row_35 kb_40) (pv_Rbr (tgt := 58) dX7_row_37 rfl rfl rfl rfl rfl (by decide)))
set_option maxHeartbeats 200000 in
theorem bX7_row_40 {S : pv_S} {x1 x2 x3 : Int32} : pv_R mX7_row 40 [some (.ref 37), some (.int x1), some (.int x2), some (.int x3)] [] (pv_em S) = if ((40 * x1) + x3) < 0 ∨ 240 ≤ (((40 * x1) + x3)).toNatClampNeg then none else pv_R mX7_row 34 [some (.ref 37), some (.int x1), some (.int x2), some (.int (x3 + 1))] [] (pv_em (pv_si S 39 (((40 * x1) + x3)).toNatClampNeg 0)) := Eq.trans (pv_Rstp dX7_row_40 rfl rfl rfl) (Eq.trans (pv_Rget dX7_row_41 ffX7_13 (by decide) (pv_ce_37 _ _) rfl) (Eq.trans (pv_Rbp dX7_row_44 kb_40) (Eq.trans (pv_Rstp dX7_row_46 rfl rfl rfl) (Eq.trans (pv_Rstp dX7_row_47 rfl rfl rfl) (Eq.trans (pv_Rstp dX7_row_48 rfl rfl rfl) (Eq.trans (pv_Rstp dX7_row_49 rfl rfl rfl) (Eq.trans (pv_Ric dX7_row_50 ki_0) (Eq.trans (pv_Rast dX7_row_51 (by decide) (pv_ce_39 _ _) (pv_em_si rfl)) (pv_iteN (fun h1 => Eq.trans (pv_Rinc dX7_row_52 rfl (Nat.le_of_ble_eq_true rfl) ki_1 rfl) (pv_Rgo (tgt := 34) dX7_row_55 rfl (by decide))))))))))))
set_option maxHeartbeats 200000 in
theorem bX7_row_58 {S : pv_S} {x1 x2 x3 : Int32} : pv_R mX7_row 58 [some (.ref 37), some (.int x1), some (.int x2), some (.int x3)] [] (pv_em S) = some (some (.int x2), pv_em S) := Eq.trans (pv_Rstp dX7_row_58 rfl rfl rfl) (pv_Rret dX7_row_59 rfl)
theorem dX7_lay_0 : decode cX7_lay 0 = .ok (.iload_n 1, 1) := by decide +kernel
theorem dX7_lay_1 : decode cX7_lay 1 = .ok (.invokestatic 81, 3) := by decide +kernel
theorem dX7_lay_4 : decode cX7_lay 4 = .ok (.ifCond .ne 5, 3) := by decide +kernel
theorem dX7_lay_7 : decode cX7_lay 7 = .ok (.iconst (-1), 1) := by decide +kernel
theorem dX7_lay_8 : decode cX7_lay 8 = .ok (.ireturn, 1) := by decide +kernel
theorem dX7_lay_9 : decode cX7_lay 9 = .ok (.aload_n 0, 1) := by decide +kernel
theorem dX7_lay_10 : decode cX7_lay 10 = .ok (.getfield 7, 3) := by decide +kernel
theorem dX7_lay_13 : decode cX7_lay 13 = .ok (.iload_n 1, 1) := by decide +kernel
theorem dX7_lay_14 : decode cX7_lay 14 = .ok (.iaload, 1) := by decide +kernel
theorem dX7_lay_15 : decode cX7_lay 15 = .ok (.ifCond .ge 9, 3) := by decide +kernel
theorem dX7_lay_18 : decode cX7_lay 18 = .ok (.aload_n 0, 1) := by decide +kernel
theorem dX7_lay_19 : decode cX7_lay 19 = .ok (.iconst 1, 1) := by decide +kernel
theorem dX7_lay_20 : decode cX7_lay 20 = .ok (.invokevirtual 85, 3) := by decide +kernel
theorem dX7_lay_23 : decode cX7_lay 23 = .ok (.ireturn, 1) := by decide +kernel
theorem dX7_lay_24 : decode cX7_lay 24 = .ok (.iload_n 2, 1) := by decide +kernel
theorem dX7_lay_25 : decode cX7_lay 25 = .ok (.i2l, 1) := by decide +kernel
theorem dX7_lay_26 : decode cX7_lay 26 = .ok (.lconst 0, 1) := by decide +kernel
theorem dX7_lay_27 : decode cX7_lay 27 = .ok (.aload_n 0, 1) := by decide +kernel
theorem dX7_lay_28 : decode cX7_lay 28 = .ok (.getfield 7, 3) := by decide +kernel
theorem dX7_lay_31 : decode cX7_lay 31 = .ok (.iload_n 1, 1) := by decide +kernel
theorem dX7_lay_32 : decode cX7_lay 32 = .ok (.iaload, 1) := by decide +kernel
theorem dX7_lay_33 : decode cX7_lay 33 = .ok (.iconst 1, 1) := by decide +kernel
theorem dX7_lay_34 : decode cX7_lay 34 = .ok (.isub, 1) := by decide +kernel
theorem dX7_lay_35 : decode cX7_lay 35 = .ok (.i2l, 1) := by decide +kernel
theorem dX7_lay_36 : decode cX7_lay 36 = .ok (.invokestatic 75, 3) := by decide +kernel
theorem dX7_lay_39 : decode cX7_lay 39 = .ok (.ifCond .ne 9, 3) := by decide +kernel
theorem dX7_lay_42 : decode cX7_lay 42 = .ok (.aload_n 0, 1) := by decide +kernel
theorem dX7_lay_43 : decode cX7_lay 43 = .ok (.iconst 2, 1) := by decide +kernel
theorem dX7_lay_44 : decode cX7_lay 44 = .ok (.invokevirtual 85, 3) := by decide +kernel
theorem dX7_lay_47 : decode cX7_lay 47 = .ok (.ireturn, 1) := by decide +kernel
theorem dX7_lay_48 : decode cX7_lay 48 = .ok (.aload_n 0, 1) := by decide +kernel
theorem dX7_lay_49 : decode cX7_lay 49 = .ok (.getfield 13, 3) := by decide +kernel
theorem dX7_lay_52 : decode cX7_lay 52 = .ok (.bipush 40, 2) := by decide +kernel
theorem dX7_lay_54 : decode cX7_lay 54 = .ok (.iload_n 1, 1) := by decide +kernel
theorem dX7_lay_55 : decode cX7_lay 55 = .ok (.imul, 1) := by decide +kernel
theorem dX7_lay_56 : decode cX7_lay 56 = .ok (.iload_n 2, 1) := by decide +kernel
theorem dX7_lay_57 : decode cX7_lay 57 = .ok (.iadd, 1) := by decide +kernel
theorem dX7_lay_58 : decode cX7_lay 58 = .ok (.iaload, 1) := by decide +kernel
theorem dX7_lay_59 : decode cX7_lay 59 = .ok (.istore 4, 2) := by decide +kernel
theorem dX7_lay_61 : decode cX7_lay 61 = .ok (.aload_n 0, 1) := by decide +kernel
theorem dX7_lay_62 : decode cX7_lay 62 = .ok (.getfield 13, 3) := by decide +kernel
theorem dX7_lay_65 : decode cX7_lay 65 = .ok (.bipush 40, 2) := by decide +kernel
theorem dX7_lay_67 : decode cX7_lay 67 = .ok (.iload_n 1, 1) := by decide +kernel
theorem dX7_lay_68 : decode cX7_lay 68 = .ok (.imul, 1) := by decide +kernel
theorem dX7_lay_69 : decode cX7_lay 69 = .ok (.iload_n 2, 1) := by decide +kernel
theorem dX7_lay_70 : decode cX7_lay 70 = .ok (.iadd, 1) := by decide +kernel
theorem dX7_lay_71 : decode cX7_lay 71 = .ok (.iload_n 3, 1) := by decide +kernel
theorem dX7_lay_72 : decode cX7_lay 72 = .ok (.iastore, 1) := by decide +kernel
theorem dX7_lay_73 : decode cX7_lay 73 = .ok (.aload_n 0, 1) := by decide +kernel
theorem dX7_lay_74 : decode cX7_lay 74 = .ok (.iload 4, 2) := by decide +kernel
theorem dX7_lay_76 : decode cX7_lay 76 = .ok (.invokevirtual 89, 3) := by decide +kernel
theorem dX7_lay_79 : decode cX7_lay 79 = .ok (.ireturn, 1) := by decide +kernel
set_option maxHeartbeats 200000 in
theorem bX7_lay_0 {S : pv_S} {x1 x2 x3 : Int32} {a4 : Option Value} : pv_R mX7_lay 0 [some (.ref 37), some (.int x1), some (.int x2), some (.int x3), a4] [] (pv_em S) = pv_cc (pv_R mX7_isRow 0 [some (.int x1)] [] (pv_em S)) mX7_lay 4 [some (.ref 37), some (.int x1), some (.int x2), some (.int x3), a4] [] := Eq.trans (pv_Rstp dX7_lay_0 rfl rfl rfl) (pv_Rcall (As := [.int x1]) (rest := []) dX7_lay_1 rfl mfX7_81 rfl rfl rfl rfl rfl)
set_option maxHeartbeats 200000 in
theorem bX7_lay_4 {S : pv_S} {x1 x2 x3 u0 : Int32} {a4 : Option Value} : pv_R mX7_lay 4 [some (.ref 37), some (.int x1), some (.int x2), some (.int x3), a4] [.int u0] (pv_em S) = if ¬ u0 = 0 then pv_R mX7_lay 9 [some (.ref 37), some (.int x1), some (.int x2), some (.int x3), a4] [] (pv_em S) else pv_R mX7_lay 7 [some (.ref 37), some (.int x1), some (.int x2), some (.int x3), a4] [] (pv_em S) := pv_Rbr (tgt := 9) dX7_lay_4 rfl rfl rfl rfl rfl (by decide)
set_option maxHeartbeats 200000 in
theorem bX7_lay_7 {S : pv_S} {x1 x2 x3 : Int32} {a4 : Option Value} : pv_R mX7_lay 7 [some (.ref 37), some (.int x1), some (.int x2), some (.int x3), a4] [] (pv_em S) = some (some (.int (-1)), pv_em S) := Eq.trans (pv_Ric dX7_lay_7 ki_m1) (pv_Rret dX7_lay_8 rfl)
set_option maxHeartbeats 200000 in
theorem bX7_lay_9 {S : pv_S} {x1 x2 x3 : Int32} {a4 : Option Value} : pv_R mX7_lay 9 [some (.ref 37), some (.int x1), some (.int x2), some (.int x3), a4] [] (pv_em S) = if x1 < 0 ∨ 6 ≤ x1.toNatClampNeg then none else if 0 ≤ (S.1 38 x1.toNatClampNeg) then pv_R mX7_lay 24 [some (.ref 37), some (.int x1), some (.int x2), some (.int x3), a4] [] (pv_em S) else pv_R mX7_lay 18 [some (.ref 37), some (.int x1), some (.int x2), some (.int x3), a4] [] (pv_em S) := Eq.trans (pv_Rstp dX7_lay_9 rfl rfl rfl) (Eq.trans (pv_Rget dX7_lay_10 ffX7_7 (by decide) (pv_ce_37 _ _) rfl) (Eq.trans (pv_Rstp dX7_lay_13 rfl rfl rfl) (Eq.trans (pv_Rald dX7_lay_14 (by decide) (pv_ce_38 _ _)) (pv_iteN (fun h1 => pv_Rbr (tgt := 24) dX7_lay_15 rfl rfl rfl rfl rfl (by decide))))))
set_option maxHeartbeats 200000 in
theorem bX7_lay_18 {S : pv_S} {x1 x2 x3 : Int32} {a4 : Option Value} : pv_R mX7_lay 18 [some (.ref 37), some (.int x1), some (.int x2), some (.int x3), a4] [] (pv_em S) = pv_cc (pv_R mX7_found 0 [some (.ref 37), some (.int 1)] [] (pv_em S)) mX7_lay 23 [some (.ref 37), some (.int x1), some (.int x2), some (.int x3), a4] [] := Eq.trans (pv_Rstp dX7_lay_18 rfl rfl rfl) (Eq.trans (pv_Ric dX7_lay_19 ki_1) (pv_Rcall (As := [.ref 37, .int 1]) (rest := []) dX7_lay_20 rfl mfX7_85 rfl rfl rfl rfl rfl))
set_option maxHeartbeats 200000 in
theorem bX7_lay_23 {S : pv_S} {x1 x2 x3 u0 : Int32} {a4 : Option Value} : pv_R mX7_lay 23 [some (.ref 37), some (.int x1), some (.int x2), some (.int x3), a4] [.int u0] (pv_em S) = some (some (.int u0), pv_em S) := pv_Rret dX7_lay_23 rfl
set_option maxHeartbeats 200000 in
theorem bX7_lay_24 {S : pv_S} {x1 x2 x3 : Int32} {a4 : Option Value} : pv_R mX7_lay 24 [some (.ref 37), some (.int x1), some (.int x2), some (.int x3), a4] [] (pv_em S) = if x1 < 0 ∨ 6 ≤ x1.toNatClampNeg then none else pv_cc (pv_R mX7_in 0 [some (.long (Int32.toInt64 x2)), none, some (.long 0), none, some (.long (Int32.toInt64 ((S.1 38 x1.toNatClampNeg) - 1))), none] [] (pv_em S)) mX7_lay 39 [some (.ref 37), some (.int x1), some (.int x2), some (.int x3), a4] [] := Eq.trans (pv_Rstp dX7_lay_24 rfl rfl rfl) (Eq.trans (pv_Rstp dX7_lay_25 rfl rfl rfl) (Eq.trans (pv_Rlc dX7_lay_26 kl_0) (Eq.trans (pv_Rstp dX7_lay_27 rfl rfl rfl) (Eq.trans (pv_Rget dX7_lay_28 ffX7_7 (by decide) (pv_ce_37 _ _) rfl) (Eq.trans (pv_Rstp dX7_lay_31 rfl rfl rfl) (Eq.trans (pv_Rald dX7_lay_32 (by decide) (pv_ce_38 _ _)) (pv_iteN (fun h1 => Eq.trans (pv_Ric dX7_lay_33 ki_1) (Eq.trans (pv_Rstp dX7_lay_34 rfl rfl rfl) (Eq.trans (pv_Rstp dX7_lay_35 rfl rfl rfl) (pv_Rcall (As := [.long (Int32.toInt64 x2), .long 0, .long (Int32.toInt64 ((S.1 38 x1.toNatClampNeg) - 1))]) (rest := []) dX7_lay_36 rfl mfX7_75 rfl rfl rfl rfl rfl)))))))))))
set_option maxHeartbeats 200000 in
theorem bX7_lay_39 {S : pv_S} {x1 x2 x3 u0 : Int32} {a4 : Option Value} : pv_R mX7_lay 39 [some (.ref 37), some (.int x1), some (.int x2), some (.int x3), a4] [.int u0] (pv_em S) = if ¬ u0 = 0 then pv_R mX7_lay 48 [some (.ref 37), some (.int x1), some (.int x2), some (.int x3), a4] [] (pv_em S) else pv_R mX7_lay 42 [some (.ref 37), some (.int x1), some (.int x2), some (.int x3), a4] [] (pv_em S) := pv_Rbr (tgt := 48) dX7_lay_39 rfl rfl rfl rfl rfl (by decide)
set_option maxHeartbeats 200000 in
theorem bX7_lay_42 {S : pv_S} {x1 x2 x3 : Int32} {a4 : Option Value} : pv_R mX7_lay 42 [some (.ref 37), some (.int x1), some (.int x2), some (.int x3), a4] [] (pv_em S) = pv_cc (pv_R mX7_found 0 [some (.ref 37), some (.int 2)] [] (pv_em S)) mX7_lay 47 [some (.ref 37), some (.int x1), some (.int x2), some (.int x3), a4] [] := Eq.trans (pv_Rstp dX7_lay_42 rfl rfl rfl) (Eq.trans (pv_Ric dX7_lay_43 ki_2) (pv_Rcall (As := [.ref 37, .int 2]) (rest := []) dX7_lay_44 rfl mfX7_85 rfl rfl rfl rfl rfl))
set_option maxHeartbeats 200000 in
theorem bX7_lay_47 {S : pv_S} {x1 x2 x3 u0 : Int32} {a4 : Option Value} : pv_R mX7_lay 47 [some (.ref 37), some (.int x1), some (.int x2), some (.int x3), a4] [.int u0] (pv_em S) = some (some (.int u0), pv_em S) := pv_Rret dX7_lay_47 rfl
set_option maxHeartbeats 200000 in
theorem bX7_lay_48 {S : pv_S} {x1 x2 x3 : Int32} {a4 : Option Value} : pv_R mX7_lay 48 [some (.ref 37), some (.int x1), some (.int x2), some (.int x3), a4] [] (pv_em S) = if ((40 * x1) + x2) < 0 ∨ 240 ≤ (((40 * x1) + x2)).toNatClampNeg then none else if ((40 * x1) + x2) < 0 ∨ 240 ≤ (((40 * x1) + x2)).toNatClampNeg then none else pv_cc (pv_R mX7_tell 0 [some (.ref 37), some (.int (S.1 39 (((40 * x1) + x2)).toNatClampNeg))] [] (pv_em (pv_si S 39 (((40 * x1) + x2)).toNatClampNeg x3))) mX7_lay 79 [some (.ref 37), some (.int x1), some (.int x2), some (.int x3), some (.int (S.1 39 (((40 * x1) + x2)).toNatClampNeg))] [] := Eq.trans (pv_Rstp dX7_lay_48 rfl rfl rfl) (Eq.trans (pv_Rget dX7_lay_49 ffX7_13 (by decide) (pv_ce_37 _ _) rfl) (Eq.trans (pv_Rbp dX7_lay_52 kb_40) (Eq.trans (pv_Rstp dX7_lay_54 rfl rfl rfl) (Eq.trans (pv_Rstp dX7_lay_55 rfl rfl rfl) (Eq.trans (pv_Rstp dX7_lay_56 rfl rfl rfl) (Eq.trans (pv_Rstp dX7_lay_57 rfl rfl rfl) (Eq.trans (pv_Rald dX7_lay_58 (by decide) (pv_ce_39 _ _)) (pv_iteN (fun h1 => Eq.trans (pv_Rstp dX7_lay_59 rfl rfl rfl) (Eq.trans (pv_Rstp dX7_lay_61 rfl rfl rfl) (Eq.trans (pv_Rget dX7_lay_62 ffX7_13 (by decide) (pv_ce_37 _ _) rfl) (Eq.trans (pv_Rbp dX7_lay_65 kb_40) (Eq.trans (pv_Rstp dX7_lay_67 rfl rfl rfl) (Eq.trans (pv_Rstp dX7_lay_68 rfl rfl rfl) (Eq.trans (pv_Rstp dX7_lay_69 rfl rfl rfl) (Eq.trans (pv_Rstp dX7_lay_70 rfl rfl rfl) (Eq.trans (pv_Rstp dX7_lay_71 rfl rfl rfl) (Eq.trans (pv_Rast dX7_lay_72 (by decide) (pv_ce_39 _ _) (pv_em_si rfl)) (pv_iteN (fun h2 => Eq.trans (pv_Rstp dX7_lay_73 rfl rfl rfl) (Eq.trans (pv_Rstp dX7_lay_74 rfl rfl rfl) (pv_Rcall (As := [.ref 37, .int (S.1 39 (((40 * x1) + x2)).toNatClampNeg)]) (rest := []) dX7_lay_76 rfl mfX7_89 rfl rfl rfl rfl rfl))))))))))))))))))))))
set_option maxHeartbeats 200000 in
theorem bX7_lay_79 {S : pv_S} {x1 x2 x3 x4 u0 : Int32} : pv_R mX7_lay 79 [some (.ref 37), some (.int x1), some (.int x2), some (.int x3), some (.int x4)] [.int u0] (pv_em S) = some (some (.int u0), pv_em S) := pv_Rret dX7_lay_79 rfl
theorem dX7_at_0 : decode cX7_at 0 = .ok (.iload_n 1, 1) := by decide +kernel
theorem dX7_at_1 : decode cX7_at 1 = .ok (.invokestatic 81, 3) := by decide +kernel
theorem dX7_at_4 : decode cX7_at 4 = .ok (.ifCond .ne 5, 3) := by decide +kernel
theorem dX7_at_7 : decode cX7_at 7 = .ok (.iconst (-1), 1) := by decide +kernel
theorem dX7_at_8 : decode cX7_at 8 = .ok (.ireturn, 1) := by decide +kernel
theorem dX7_at_9 : decode cX7_at 9 = .ok (.aload_n 0, 1) := by decide +kernel
theorem dX7_at_10 : decode cX7_at 10 = .ok (.getfield 7, 3) := by decide +kernel
theorem dX7_at_13 : decode cX7_at 13 = .ok (.iload_n 1, 1) := by decide +kernel
theorem dX7_at_14 : decode cX7_at 14 = .ok (.iaload, 1) := by decide +kernel
theorem dX7_at_15 : decode cX7_at 15 = .ok (.ifCond .ge 9, 3) := by decide +kernel
theorem dX7_at_18 : decode cX7_at 18 = .ok (.aload_n 0, 1) := by decide +kernel
theorem dX7_at_19 : decode cX7_at 19 = .ok (.iconst 1, 1) := by decide +kernel
theorem dX7_at_20 : decode cX7_at 20 = .ok (.invokevirtual 85, 3) := by decide +kernel
theorem dX7_at_23 : decode cX7_at 23 = .ok (.ireturn, 1) := by decide +kernel
theorem dX7_at_24 : decode cX7_at 24 = .ok (.iload_n 2, 1) := by decide +kernel
theorem dX7_at_25 : decode cX7_at 25 = .ok (.i2l, 1) := by decide +kernel
theorem dX7_at_26 : decode cX7_at 26 = .ok (.lconst 0, 1) := by decide +kernel
theorem dX7_at_27 : decode cX7_at 27 = .ok (.aload_n 0, 1) := by decide +kernel
theorem dX7_at_28 : decode cX7_at 28 = .ok (.getfield 7, 3) := by decide +kernel
theorem dX7_at_31 : decode cX7_at 31 = .ok (.iload_n 1, 1) := by decide +kernel
theorem dX7_at_32 : decode cX7_at 32 = .ok (.iaload, 1) := by decide +kernel
theorem dX7_at_33 : decode cX7_at 33 = .ok (.iconst 1, 1) := by decide +kernel
theorem dX7_at_34 : decode cX7_at 34 = .ok (.isub, 1) := by decide +kernel
theorem dX7_at_35 : decode cX7_at 35 = .ok (.i2l, 1) := by decide +kernel
theorem dX7_at_36 : decode cX7_at 36 = .ok (.invokestatic 75, 3) := by decide +kernel
theorem dX7_at_39 : decode cX7_at 39 = .ok (.ifCond .eq 21, 3) := by decide +kernel
theorem dX7_at_42 : decode cX7_at 42 = .ok (.aload_n 0, 1) := by decide +kernel
theorem dX7_at_43 : decode cX7_at 43 = .ok (.aload_n 0, 1) := by decide +kernel
theorem dX7_at_44 : decode cX7_at 44 = .ok (.getfield 13, 3) := by decide +kernel
theorem dX7_at_47 : decode cX7_at 47 = .ok (.bipush 40, 2) := by decide +kernel
theorem dX7_at_49 : decode cX7_at 49 = .ok (.iload_n 1, 1) := by decide +kernel
theorem dX7_at_50 : decode cX7_at 50 = .ok (.imul, 1) := by decide +kernel
theorem dX7_at_51 : decode cX7_at 51 = .ok (.iload_n 2, 1) := by decide +kernel
theorem dX7_at_52 : decode cX7_at 52 = .ok (.iadd, 1) := by decide +kernel
theorem dX7_at_53 : decode cX7_at 53 = .ok (.iaload, 1) := by decide +kernel
theorem dX7_at_54 : decode cX7_at 54 = .ok (.invokevirtual 89, 3) := by decide +kernel
theorem dX7_at_57 : decode cX7_at 57 = .ok (.goto 8, 3) := by decide +kernel
theorem dX7_at_60 : decode cX7_at 60 = .ok (.aload_n 0, 1) := by decide +kernel
theorem dX7_at_61 : decode cX7_at 61 = .ok (.iconst 2, 1) := by decide +kernel
theorem dX7_at_62 : decode cX7_at 62 = .ok (.invokevirtual 85, 3) := by decide +kernel
theorem dX7_at_65 : decode cX7_at 65 = .ok (.ireturn, 1) := by decide +kernel
set_option maxHeartbeats 200000 in
theorem bX7_at_0 {S : pv_S} {x1 x2 : Int32} : pv_R mX7_at 0 [some (.ref 37), some (.int x1), some (.int x2)] [] (pv_em S) = pv_cc (pv_R mX7_isRow 0 [some (.int x1)] [] (pv_em S)) mX7_at 4 [some (.ref 37), some (.int x1), some (.int x2)] [] := Eq.trans (pv_Rstp dX7_at_0 rfl rfl rfl) (pv_Rcall (As := [.int x1]) (rest := []) dX7_at_1 rfl mfX7_81 rfl rfl rfl rfl rfl)
set_option maxHeartbeats 200000 in
theorem bX7_at_4 {S : pv_S} {x1 x2 u0 : Int32} : pv_R mX7_at 4 [some (.ref 37), some (.int x1), some (.int x2)] [.int u0] (pv_em S) = if ¬ u0 = 0 then pv_R mX7_at 9 [some (.ref 37), some (.int x1), some (.int x2)] [] (pv_em S) else pv_R mX7_at 7 [some (.ref 37), some (.int x1), some (.int x2)] [] (pv_em S) := pv_Rbr (tgt := 9) dX7_at_4 rfl rfl rfl rfl rfl (by decide)
set_option maxHeartbeats 200000 in
theorem bX7_at_7 {S : pv_S} {x1 x2 : Int32} : pv_R mX7_at 7 [some (.ref 37), some (.int x1), some (.int x2)] [] (pv_em S) = some (some (.int (-1)), pv_em S) := Eq.trans (pv_Ric dX7_at_7 ki_m1) (pv_Rret dX7_at_8 rfl)
set_option maxHeartbeats 200000 in
theorem bX7_at_9 {S : pv_S} {x1 x2 : Int32} : pv_R mX7_at 9 [some (.ref 37), some (.int x1), some (.int x2)] [] (pv_em S) = if x1 < 0 ∨ 6 ≤ x1.toNatClampNeg then none else if 0 ≤ (S.1 38 x1.toNatClampNeg) then pv_R mX7_at 24 [some (.ref 37), some (.int x1), some (.int x2)] [] (pv_em S) else pv_R mX7_at 18 [some (.ref 37), some (.int x1), some (.int x2)] [] (pv_em S) := Eq.trans (pv_Rstp dX7_at_9 rfl rfl rfl) (Eq.trans (pv_Rget dX7_at_10 ffX7_7 (by decide) (pv_ce_37 _ _) rfl) (Eq.trans (pv_Rstp dX7_at_13 rfl rfl rfl) (Eq.trans (pv_Rald dX7_at_14 (by decide) (pv_ce_38 _ _)) (pv_iteN (fun h1 => pv_Rbr (tgt := 24) dX7_at_15 rfl rfl rfl rfl rfl (by decide))))))
set_option maxHeartbeats 200000 in
theorem bX7_at_18 {S : pv_S} {x1 x2 : Int32} : pv_R mX7_at 18 [some (.ref 37), some (.int x1), some (.int x2)] [] (pv_em S) = pv_cc (pv_R mX7_found 0 [some (.ref 37), some (.int 1)] [] (pv_em S)) mX7_at 23 [some (.ref 37), some (.int x1), some (.int x2)] [] := Eq.trans (pv_Rstp dX7_at_18 rfl rfl rfl) (Eq.trans (pv_Ric dX7_at_19 ki_1) (pv_Rcall (As := [.ref 37, .int 1]) (rest := []) dX7_at_20 rfl mfX7_85 rfl rfl rfl rfl rfl))
set_option maxHeartbeats 200000 in
theorem bX7_at_23 {S : pv_S} {x1 x2 u0 : Int32} : pv_R mX7_at 23 [some (.ref 37), some (.int x1), some (.int x2)] [.int u0] (pv_em S) = some (some (.int u0), pv_em S) := pv_Rret dX7_at_23 rfl
set_option maxHeartbeats 200000 in
theorem bX7_at_24 {S : pv_S} {x1 x2 : Int32} : pv_R mX7_at 24 [some (.ref 37), some (.int x1), some (.int x2)] [] (pv_em S) = if x1 < 0 ∨ 6 ≤ x1.toNatClampNeg then none else pv_cc (pv_R mX7_in 0 [some (.long (Int32.toInt64 x2)), none, some (.long 0), none, some (.long (Int32.toInt64 ((S.1 38 x1.toNatClampNeg) - 1))), none] [] (pv_em S)) mX7_at 39 [some (.ref 37), some (.int x1), some (.int x2)] [] := Eq.trans (pv_Rstp dX7_at_24 rfl rfl rfl) (Eq.trans (pv_Rstp dX7_at_25 rfl rfl rfl) (Eq.trans (pv_Rlc dX7_at_26 kl_0) (Eq.trans (pv_Rstp dX7_at_27 rfl rfl rfl) (Eq.trans (pv_Rget dX7_at_28 ffX7_7 (by decide) (pv_ce_37 _ _) rfl) (Eq.trans (pv_Rstp dX7_at_31 rfl rfl rfl) (Eq.trans (pv_Rald dX7_at_32 (by decide) (pv_ce_38 _ _)) (pv_iteN (fun h1 => Eq.trans (pv_Ric dX7_at_33 ki_1) (Eq.trans (pv_Rstp dX7_at_34 rfl rfl rfl) (Eq.trans (pv_Rstp dX7_at_35 rfl rfl rfl) (pv_Rcall (As := [.long (Int32.toInt64 x2), .long 0, .long (Int32.toInt64 ((S.1 38 x1.toNatClampNeg) - 1))]) (rest := []) dX7_at_36 rfl mfX7_75 rfl rfl rfl rfl rfl)))))))))))
set_option maxHeartbeats 200000 in
theorem bX7_at_39 {S : pv_S} {x1 x2 u0 : Int32} : pv_R mX7_at 39 [some (.ref 37), some (.int x1), some (.int x2)] [.int u0] (pv_em S) = if u0 = 0 then pv_R mX7_at 60 [some (.ref 37), some (.int x1), some (.int x2)] [] (pv_em S) else pv_R mX7_at 42 [some (.ref 37), some (.int x1), some (.int x2)] [] (pv_em S) := pv_Rbr (tgt := 60) dX7_at_39 rfl rfl rfl rfl rfl (by decide)
set_option maxHeartbeats 200000 in
theorem bX7_at_42 {S : pv_S} {x1 x2 : Int32} : pv_R mX7_at 42 [some (.ref 37), some (.int x1), some (.int x2)] [] (pv_em S) = if ((40 * x1) + x2) < 0 ∨ 240 ≤ (((40 * x1) + x2)).toNatClampNeg then none else pv_cc (pv_R mX7_tell 0 [some (.ref 37), some (.int (S.1 39 (((40 * x1) + x2)).toNatClampNeg))] [] (pv_em S)) mX7_at 57 [some (.ref 37), some (.int x1), some (.int x2)] [] := Eq.trans (pv_Rstp dX7_at_42 rfl rfl rfl) (Eq.trans (pv_Rstp dX7_at_43 rfl rfl rfl) (Eq.trans (pv_Rget dX7_at_44 ffX7_13 (by decide) (pv_ce_37 _ _) rfl) (Eq.trans (pv_Rbp dX7_at_47 kb_40) (Eq.trans (pv_Rstp dX7_at_49 rfl rfl rfl) (Eq.trans (pv_Rstp dX7_at_50 rfl rfl rfl) (Eq.trans (pv_Rstp dX7_at_51 rfl rfl rfl) (Eq.trans (pv_Rstp dX7_at_52 rfl rfl rfl) (Eq.trans (pv_Rald dX7_at_53 (by decide) (pv_ce_39 _ _)) (pv_iteN (fun h1 => pv_Rcall (As := [.ref 37, .int (S.1 39 (((40 * x1) + x2)).toNatClampNeg)]) (rest := []) dX7_at_54 rfl mfX7_89 rfl rfl rfl rfl rfl))))))))))
set_option maxHeartbeats 200000 in
theorem bX7_at_57 {S : pv_S} {x1 x2 u0 : Int32} : pv_R mX7_at 57 [some (.ref 37), some (.int x1), some (.int x2)] [.int u0] (pv_em S) = pv_R mX7_at 65 [some (.ref 37), some (.int x1), some (.int x2)] [.int u0] (pv_em S) := pv_Rgo (tgt := 65) dX7_at_57 rfl (by decide)
set_option maxHeartbeats 200000 in
theorem bX7_at_60 {S : pv_S} {x1 x2 : Int32} : pv_R mX7_at 60 [some (.ref 37), some (.int x1), some (.int x2)] [] (pv_em S) = pv_cc (pv_R mX7_found 0 [some (.ref 37), some (.int 2)] [] (pv_em S)) mX7_at 65 [some (.ref 37), some (.int x1), some (.int x2)] [] := Eq.trans (pv_Rstp dX7_at_60 rfl rfl rfl) (Eq.trans (pv_Ric dX7_at_61 ki_2) (pv_Rcall (As := [.ref 37, .int 2]) (rest := []) dX7_at_62 rfl mfX7_85 rfl rfl rfl rfl rfl))
set_option maxHeartbeats 200000 in
theorem bX7_at_65 {S : pv_S} {x1 x2 u0 : Int32} : pv_R mX7_at 65 [some (.ref 37), some (.int x1), some (.int x2)] [.int u0] (pv_em S) = some (some (.int u0), pv_em S) := pv_Rret dX7_at_65 rfl
theorem dX7_tear_0 : decode cX7_tear 0 = .ok (.iload_n 1, 1) := by decide +kernel
theorem dX7_tear_1 : decode cX7_tear 1 = .ok (.invokestatic 81, 3) := by decide +kernel
theorem dX7_tear_4 : decode cX7_tear 4 = .ok (.ifCond .ne 5, 3) := by decide +kernel
theorem dX7_tear_7 : decode cX7_tear 7 = .ok (.iconst (-1), 1) := by decide +kernel
theorem dX7_tear_8 : decode cX7_tear 8 = .ok (.ireturn, 1) := by decide +kernel
theorem dX7_tear_9 : decode cX7_tear 9 = .ok (.aload_n 0, 1) := by decide +kernel
theorem dX7_tear_10 : decode cX7_tear 10 = .ok (.getfield 7, 3) := by decide +kernel
theorem dX7_tear_13 : decode cX7_tear 13 = .ok (.iload_n 1, 1) := by decide +kernel
theorem dX7_tear_14 : decode cX7_tear 14 = .ok (.iaload, 1) := by decide +kernel
theorem dX7_tear_15 : decode cX7_tear 15 = .ok (.ifCond .ge 9, 3) := by decide +kernel
theorem dX7_tear_18 : decode cX7_tear 18 = .ok (.aload_n 0, 1) := by decide +kernel
theorem dX7_tear_19 : decode cX7_tear 19 = .ok (.iconst 1, 1) := by decide +kernel
theorem dX7_tear_20 : decode cX7_tear 20 = .ok (.invokevirtual 85, 3) := by decide +kernel
theorem dX7_tear_23 : decode cX7_tear 23 = .ok (.ireturn, 1) := by decide +kernel
theorem dX7_tear_24 : decode cX7_tear 24 = .ok (.aload_n 0, 1) := by decide +kernel
theorem dX7_tear_25 : decode cX7_tear 25 = .ok (.getfield 7, 3) := by decide +kernel
theorem dX7_tear_28 : decode cX7_tear 28 = .ok (.iload_n 1, 1) := by decide +kernel
theorem dX7_tear_29 : decode cX7_tear 29 = .ok (.iconst (-1), 1) := by decide +kernel
theorem dX7_tear_30 : decode cX7_tear 30 = .ok (.iastore, 1) := by decide +kernel
theorem dX7_tear_31 : decode cX7_tear 31 = .ok (.iconst 1, 1) := by decide +kernel
theorem dX7_tear_32 : decode cX7_tear 32 = .ok (.ireturn, 1) := by decide +kernel
set_option maxHeartbeats 200000 in
theorem bX7_tear_0 {S : pv_S} {x1 : Int32} : pv_R mX7_tear 0 [some (.ref 37), some (.int x1)] [] (pv_em S) = pv_cc (pv_R mX7_isRow 0 [some (.int x1)] [] (pv_em S)) mX7_tear 4 [some (.ref 37), some (.int x1)] [] := Eq.trans (pv_Rstp dX7_tear_0 rfl rfl rfl) (pv_Rcall (As := [.int x1]) (rest := []) dX7_tear_1 rfl mfX7_81 rfl rfl rfl rfl rfl)
set_option maxHeartbeats 200000 in
theorem bX7_tear_4 {S : pv_S} {x1 u0 : Int32} : pv_R mX7_tear 4 [some (.ref 37), some (.int x1)] [.int u0] (pv_em S) = if ¬ u0 = 0 then pv_R mX7_tear 9 [some (.ref 37), some (.int x1)] [] (pv_em S) else pv_R mX7_tear 7 [some (.ref 37), some (.int x1)] [] (pv_em S) := pv_Rbr (tgt := 9) dX7_tear_4 rfl rfl rfl rfl rfl (by decide)
set_option maxHeartbeats 200000 in
theorem bX7_tear_7 {S : pv_S} {x1 : Int32} : pv_R mX7_tear 7 [some (.ref 37), some (.int x1)] [] (pv_em S) = some (some (.int (-1)), pv_em S) := Eq.trans (pv_Ric dX7_tear_7 ki_m1) (pv_Rret dX7_tear_8 rfl)
set_option maxHeartbeats 200000 in
theorem bX7_tear_9 {S : pv_S} {x1 : Int32} : pv_R mX7_tear 9 [some (.ref 37), some (.int x1)] [] (pv_em S) = if x1 < 0 ∨ 6 ≤ x1.toNatClampNeg then none else if 0 ≤ (S.1 38 x1.toNatClampNeg) then pv_R mX7_tear 24 [some (.ref 37), some (.int x1)] [] (pv_em S) else pv_R mX7_tear 18 [some (.ref 37), some (.int x1)] [] (pv_em S) := Eq.trans (pv_Rstp dX7_tear_9 rfl rfl rfl) (Eq.trans (pv_Rget dX7_tear_10 ffX7_7 (by decide) (pv_ce_37 _ _) rfl) (Eq.trans (pv_Rstp dX7_tear_13 rfl rfl rfl) (Eq.trans (pv_Rald dX7_tear_14 (by decide) (pv_ce_38 _ _)) (pv_iteN (fun h1 => pv_Rbr (tgt := 24) dX7_tear_15 rfl rfl rfl rfl rfl (by decide))))))
set_option maxHeartbeats 200000 in
theorem bX7_tear_18 {S : pv_S} {x1 : Int32} : pv_R mX7_tear 18 [some (.ref 37), some (.int x1)] [] (pv_em S) = pv_cc (pv_R mX7_found 0 [some (.ref 37), some (.int 1)] [] (pv_em S)) mX7_tear 23 [some (.ref 37), some (.int x1)] [] := Eq.trans (pv_Rstp dX7_tear_18 rfl rfl rfl) (Eq.trans (pv_Ric dX7_tear_19 ki_1) (pv_Rcall (As := [.ref 37, .int 1]) (rest := []) dX7_tear_20 rfl mfX7_85 rfl rfl rfl rfl rfl))
set_option maxHeartbeats 200000 in
theorem bX7_tear_23 {S : pv_S} {x1 u0 : Int32} : pv_R mX7_tear 23 [some (.ref 37), some (.int x1)] [.int u0] (pv_em S) = some (some (.int u0), pv_em S) := pv_Rret dX7_tear_23 rfl
set_option maxHeartbeats 200000 in
theorem bX7_tear_24 {S : pv_S} {x1 : Int32} : pv_R mX7_tear 24 [some (.ref 37), some (.int x1)] [] (pv_em S) = if x1 < 0 ∨ 6 ≤ x1.toNatClampNeg then none else some (some (.int 1), pv_em (pv_si S 38 x1.toNatClampNeg (-1))) := Eq.trans (pv_Rstp dX7_tear_24 rfl rfl rfl) (Eq.trans (pv_Rget dX7_tear_25 ffX7_7 (by decide) (pv_ce_37 _ _) rfl) (Eq.trans (pv_Rstp dX7_tear_28 rfl rfl rfl) (Eq.trans (pv_Ric dX7_tear_29 ki_m1) (Eq.trans (pv_Rast dX7_tear_30 (by decide) (pv_ce_38 _ _) (pv_em_si rfl)) (pv_iteN (fun h1 => Eq.trans (pv_Ric dX7_tear_31 ki_1) (pv_Rret dX7_tear_32 rfl)))))))
theorem dX7_copy_0 : decode cX7_copy 0 = .ok (.iload_n 1, 1) := by decide +kernel
theorem dX7_copy_1 : decode cX7_copy 1 = .ok (.invokestatic 81, 3) := by decide +kernel
theorem dX7_copy_4 : decode cX7_copy 4 = .ok (.ifCond .eq 10, 3) := by decide +kernel
theorem dX7_copy_7 : decode cX7_copy 7 = .ok (.iload_n 3, 1) := by decide +kernel
theorem dX7_copy_8 : decode cX7_copy 8 = .ok (.invokestatic 81, 3) := by decide +kernel
theorem dX7_copy_11 : decode cX7_copy 11 = .ok (.ifCond .ne 5, 3) := by decide +kernel
theorem dX7_copy_14 : decode cX7_copy 14 = .ok (.iconst (-1), 1) := by decide +kernel
theorem dX7_copy_15 : decode cX7_copy 15 = .ok (.ireturn, 1) := by decide +kernel
theorem dX7_copy_16 : decode cX7_copy 16 = .ok (.iload 5, 2) := by decide +kernel
theorem dX7_copy_18 : decode cX7_copy 18 = .ok (.ifCond .ge 9, 3) := by decide +kernel
theorem dX7_copy_21 : decode cX7_copy 21 = .ok (.aload_n 0, 1) := by decide +kernel
theorem dX7_copy_22 : decode cX7_copy 22 = .ok (.iconst 5, 1) := by decide +kernel
theorem dX7_copy_23 : decode cX7_copy 23 = .ok (.invokevirtual 85, 3) := by decide +kernel
theorem dX7_copy_26 : decode cX7_copy 26 = .ok (.ireturn, 1) := by decide +kernel
theorem dX7_copy_27 : decode cX7_copy 27 = .ok (.aload_n 0, 1) := by decide +kernel
theorem dX7_copy_28 : decode cX7_copy 28 = .ok (.getfield 7, 3) := by decide +kernel
theorem dX7_copy_31 : decode cX7_copy 31 = .ok (.iload_n 1, 1) := by decide +kernel
theorem dX7_copy_32 : decode cX7_copy 32 = .ok (.iaload, 1) := by decide +kernel
theorem dX7_copy_33 : decode cX7_copy 33 = .ok (.ifCond .lt 12, 3) := by decide +kernel
theorem dX7_copy_36 : decode cX7_copy 36 = .ok (.aload_n 0, 1) := by decide +kernel
theorem dX7_copy_37 : decode cX7_copy 37 = .ok (.getfield 7, 3) := by decide +kernel
theorem dX7_copy_40 : decode cX7_copy 40 = .ok (.iload_n 3, 1) := by decide +kernel
theorem dX7_copy_41 : decode cX7_copy 41 = .ok (.iaload, 1) := by decide +kernel
theorem dX7_copy_42 : decode cX7_copy 42 = .ok (.ifCond .ge 9, 3) := by decide +kernel
theorem dX7_copy_45 : decode cX7_copy 45 = .ok (.aload_n 0, 1) := by decide +kernel
theorem dX7_copy_46 : decode cX7_copy 46 = .ok (.iconst 1, 1) := by decide +kernel
theorem dX7_copy_47 : decode cX7_copy 47 = .ok (.invokevirtual 85, 3) := by decide +kernel
theorem dX7_copy_50 : decode cX7_copy 50 = .ok (.ireturn, 1) := by decide +kernel
theorem dX7_copy_51 : decode cX7_copy 51 = .ok (.iload_n 2, 1) := by decide +kernel
theorem dX7_copy_52 : decode cX7_copy 52 = .ok (.ifCond .lt 43, 3) := by decide +kernel
theorem dX7_copy_55 : decode cX7_copy 55 = .ok (.iload 4, 2) := by decide +kernel
theorem dX7_copy_57 : decode cX7_copy 57 = .ok (.ifCond .lt 38, 3) := by decide +kernel
theorem dX7_copy_60 : decode cX7_copy 60 = .ok (.iload_n 2, 1) := by decide +kernel
theorem dX7_copy_61 : decode cX7_copy 61 = .ok (.i2l, 1) := by decide +kernel
theorem dX7_copy_62 : decode cX7_copy 62 = .ok (.iload 5, 2) := by decide +kernel
theorem dX7_copy_64 : decode cX7_copy 64 = .ok (.i2l, 1) := by decide +kernel
theorem dX7_copy_65 : decode cX7_copy 65 = .ok (.ladd, 1) := by decide +kernel
theorem dX7_copy_66 : decode cX7_copy 66 = .ok (.aload_n 0, 1) := by decide +kernel
theorem dX7_copy_67 : decode cX7_copy 67 = .ok (.getfield 7, 3) := by decide +kernel
theorem dX7_copy_70 : decode cX7_copy 70 = .ok (.iload_n 1, 1) := by decide +kernel
theorem dX7_copy_71 : decode cX7_copy 71 = .ok (.iaload, 1) := by decide +kernel
theorem dX7_copy_72 : decode cX7_copy 72 = .ok (.i2l, 1) := by decide +kernel
theorem dX7_copy_73 : decode cX7_copy 73 = .ok (.lcmp, 1) := by decide +kernel
theorem dX7_copy_74 : decode cX7_copy 74 = .ok (.ifCond .gt 21, 3) := by decide +kernel
theorem dX7_copy_77 : decode cX7_copy 77 = .ok (.iload 4, 2) := by decide +kernel
theorem dX7_copy_79 : decode cX7_copy 79 = .ok (.i2l, 1) := by decide +kernel
theorem dX7_copy_80 : decode cX7_copy 80 = .ok (.iload 5, 2) := by decide +kernel
theorem dX7_copy_82 : decode cX7_copy 82 = .ok (.i2l, 1) := by decide +kernel
theorem dX7_copy_83 : decode cX7_copy 83 = .ok (.ladd, 1) := by decide +kernel
theorem dX7_copy_84 : decode cX7_copy 84 = .ok (.aload_n 0, 1) := by decide +kernel
theorem dX7_copy_85 : decode cX7_copy 85 = .ok (.getfield 7, 3) := by decide +kernel
theorem dX7_copy_88 : decode cX7_copy 88 = .ok (.iload_n 3, 1) := by decide +kernel
theorem dX7_copy_89 : decode cX7_copy 89 = .ok (.iaload, 1) := by decide +kernel
theorem dX7_copy_90 : decode cX7_copy 90 = .ok (.i2l, 1) := by decide +kernel
theorem dX7_copy_91 : decode cX7_copy 91 = .ok (.lcmp, 1) := by decide +kernel
theorem dX7_copy_92 : decode cX7_copy 92 = .ok (.ifCond .le 9, 3) := by decide +kernel
theorem dX7_copy_95 : decode cX7_copy 95 = .ok (.aload_n 0, 1) := by decide +kernel
theorem dX7_copy_96 : decode cX7_copy 96 = .ok (.iconst 2, 1) := by decide +kernel
theorem dX7_copy_97 : decode cX7_copy 97 = .ok (.invokevirtual 85, 3) := by decide +kernel
theorem dX7_copy_100 : decode cX7_copy 100 = .ok (.ireturn, 1) := by decide +kernel
theorem dX7_copy_101 : decode cX7_copy 101 = .ok (.iconst 0, 1) := by decide +kernel
theorem dX7_copy_102 : decode cX7_copy 102 = .ok (.istore 6, 2) := by decide +kernel
theorem dX7_copy_104 : decode cX7_copy 104 = .ok (.iload 6, 2) := by decide +kernel
theorem dX7_copy_106 : decode cX7_copy 106 = .ok (.iload 5, 2) := by decide +kernel
theorem dX7_copy_108 : decode cX7_copy 108 = .ok (.if_icmp .ge 58, 3) := by decide +kernel
theorem dX7_copy_111 : decode cX7_copy 111 = .ok (.iload 4, 2) := by decide +kernel
theorem dX7_copy_113 : decode cX7_copy 113 = .ok (.iload_n 2, 1) := by decide +kernel
theorem dX7_copy_114 : decode cX7_copy 114 = .ok (.if_icmp .le 13, 3) := by decide +kernel
theorem dX7_copy_117 : decode cX7_copy 117 = .ok (.iload 5, 2) := by decide +kernel
theorem dX7_copy_119 : decode cX7_copy 119 = .ok (.iconst 1, 1) := by decide +kernel
theorem dX7_copy_120 : decode cX7_copy 120 = .ok (.isub, 1) := by decide +kernel
theorem dX7_copy_121 : decode cX7_copy 121 = .ok (.iload 6, 2) := by decide +kernel
theorem dX7_copy_123 : decode cX7_copy 123 = .ok (.isub, 1) := by decide +kernel
theorem dX7_copy_124 : decode cX7_copy 124 = .ok (.goto 5, 3) := by decide +kernel
theorem dX7_copy_127 : decode cX7_copy 127 = .ok (.iload 6, 2) := by decide +kernel
theorem dX7_copy_129 : decode cX7_copy 129 = .ok (.istore 7, 2) := by decide +kernel
theorem dX7_copy_131 : decode cX7_copy 131 = .ok (.aload_n 0, 1) := by decide +kernel
theorem dX7_copy_132 : decode cX7_copy 132 = .ok (.getfield 13, 3) := by decide +kernel
theorem dX7_copy_135 : decode cX7_copy 135 = .ok (.bipush 40, 2) := by decide +kernel
theorem dX7_copy_137 : decode cX7_copy 137 = .ok (.iload_n 3, 1) := by decide +kernel
theorem dX7_copy_138 : decode cX7_copy 138 = .ok (.imul, 1) := by decide +kernel
theorem dX7_copy_139 : decode cX7_copy 139 = .ok (.iload 4, 2) := by decide +kernel
theorem dX7_copy_141 : decode cX7_copy 141 = .ok (.iadd, 1) := by decide +kernel
theorem dX7_copy_142 : decode cX7_copy 142 = .ok (.iload 7, 2) := by decide +kernel
theorem dX7_copy_144 : decode cX7_copy 144 = .ok (.iadd, 1) := by decide +kernel
theorem dX7_copy_145 : decode cX7_copy 145 = .ok (.aload_n 0, 1) := by decide +kernel
theorem dX7_copy_146 : decode cX7_copy 146 = .ok (.getfield 13, 3) := by decide +kernel
theorem dX7_copy_149 : decode cX7_copy 149 = .ok (.bipush 40, 2) := by decide +kernel
theorem dX7_copy_151 : decode cX7_copy 151 = .ok (.iload_n 1, 1) := by decide +kernel
theorem dX7_copy_152 : decode cX7_copy 152 = .ok (.imul, 1) := by decide +kernel
theorem dX7_copy_153 : decode cX7_copy 153 = .ok (.iload_n 2, 1) := by decide +kernel
theorem dX7_copy_154 : decode cX7_copy 154 = .ok (.iadd, 1) := by decide +kernel
theorem dX7_copy_155 : decode cX7_copy 155 = .ok (.iload 7, 2) := by decide +kernel
theorem dX7_copy_157 : decode cX7_copy 157 = .ok (.iadd, 1) := by decide +kernel
theorem dX7_copy_158 : decode cX7_copy 158 = .ok (.iaload, 1) := by decide +kernel
theorem dX7_copy_159 : decode cX7_copy 159 = .ok (.iastore, 1) := by decide +kernel
theorem dX7_copy_160 : decode cX7_copy 160 = .ok (.iinc 6 1, 3) := by decide +kernel
theorem dX7_copy_163 : decode cX7_copy 163 = .ok (.goto (-59), 3) := by decide +kernel
theorem dX7_copy_166 : decode cX7_copy 166 = .ok (.iconst 1, 1) := by decide +kernel
theorem dX7_copy_167 : decode cX7_copy 167 = .ok (.ireturn, 1) := by decide +kernel
set_option maxHeartbeats 200000 in
theorem bX7_copy_0 {S : pv_S} {x1 x2 x3 x4 x5 : Int32} {a6 a7 : Option Value} : pv_R mX7_copy 0 [some (.ref 37), some (.int x1), some (.int x2), some (.int x3), some (.int x4), some (.int x5), a6, a7] [] (pv_em S) = pv_cc (pv_R mX7_isRow 0 [some (.int x1)] [] (pv_em S)) mX7_copy 4 [some (.ref 37), some (.int x1), some (.int x2), some (.int x3), some (.int x4), some (.int x5), a6, a7] [] := Eq.trans (pv_Rstp dX7_copy_0 rfl rfl rfl) (pv_Rcall (As := [.int x1]) (rest := []) dX7_copy_1 rfl mfX7_81 rfl rfl rfl rfl rfl)
set_option maxHeartbeats 200000 in
theorem bX7_copy_4 {S : pv_S} {x1 x2 x3 x4 x5 u0 : Int32} {a6 a7 : Option Value} : pv_R mX7_copy 4 [some (.ref 37), some (.int x1), some (.int x2), some (.int x3), some (.int x4), some (.int x5), a6, a7] [.int u0] (pv_em S) = if u0 = 0 then pv_R mX7_copy 14 [some (.ref 37), some (.int x1), some (.int x2), some (.int x3), some (.int x4), some (.int x5), a6, a7] [] (pv_em S) else pv_R mX7_copy 7 [some (.ref 37), some (.int x1), some (.int x2), some (.int x3), some (.int x4), some (.int x5), a6, a7] [] (pv_em S) := pv_Rbr (tgt := 14) dX7_copy_4 rfl rfl rfl rfl rfl (by decide)
set_option maxHeartbeats 200000 in
theorem bX7_copy_7 {S : pv_S} {x1 x2 x3 x4 x5 : Int32} {a6 a7 : Option Value} : pv_R mX7_copy 7 [some (.ref 37), some (.int x1), some (.int x2), some (.int x3), some (.int x4), some (.int x5), a6, a7] [] (pv_em S) = pv_cc (pv_R mX7_isRow 0 [some (.int x3)] [] (pv_em S)) mX7_copy 11 [some (.ref 37), some (.int x1), some (.int x2), some (.int x3), some (.int x4), some (.int x5), a6, a7] [] := Eq.trans (pv_Rstp dX7_copy_7 rfl rfl rfl) (pv_Rcall (As := [.int x3]) (rest := []) dX7_copy_8 rfl mfX7_81 rfl rfl rfl rfl rfl)
set_option maxHeartbeats 200000 in
theorem bX7_copy_11 {S : pv_S} {x1 x2 x3 x4 x5 u0 : Int32} {a6 a7 : Option Value} : pv_R mX7_copy 11 [some (.ref 37), some (.int x1), some (.int x2), some (.int x3), some (.int x4), some (.int x5), a6, a7] [.int u0] (pv_em S) = if ¬ u0 = 0 then pv_R mX7_copy 16 [some (.ref 37), some (.int x1), some (.int x2), some (.int x3), some (.int x4), some (.int x5), a6, a7] [] (pv_em S) else pv_R mX7_copy 14 [some (.ref 37), some (.int x1), some (.int x2), some (.int x3), some (.int x4), some (.int x5), a6, a7] [] (pv_em S) := pv_Rbr (tgt := 16) dX7_copy_11 rfl rfl rfl rfl rfl (by decide)
set_option maxHeartbeats 200000 in
theorem bX7_copy_14 {S : pv_S} {x1 x2 x3 x4 x5 : Int32} {a6 a7 : Option Value} : pv_R mX7_copy 14 [some (.ref 37), some (.int x1), some (.int x2), some (.int x3), some (.int x4), some (.int x5), a6, a7] [] (pv_em S) = some (some (.int (-1)), pv_em S) := Eq.trans (pv_Ric dX7_copy_14 ki_m1) (pv_Rret dX7_copy_15 rfl)
set_option maxHeartbeats 200000 in
theorem bX7_copy_16 {S : pv_S} {x1 x2 x3 x4 x5 : Int32} {a6 a7 : Option Value} : pv_R mX7_copy 16 [some (.ref 37), some (.int x1), some (.int x2), some (.int x3), some (.int x4), some (.int x5), a6, a7] [] (pv_em S) = if 0 ≤ x5 then pv_R mX7_copy 27 [some (.ref 37), some (.int x1), some (.int x2), some (.int x3), some (.int x4), some (.int x5), a6, a7] [] (pv_em S) else pv_R mX7_copy 21 [some (.ref 37), some (.int x1), some (.int x2), some (.int x3), some (.int x4), some (.int x5), a6, a7] [] (pv_em S) := Eq.trans (pv_Rstp dX7_copy_16 rfl rfl rfl) (pv_Rbr (tgt := 27) dX7_copy_18 rfl rfl rfl rfl rfl (by decide))
set_option maxHeartbeats 200000 in
theorem bX7_copy_21 {S : pv_S} {x1 x2 x3 x4 x5 : Int32} {a6 a7 : Option Value} : pv_R mX7_copy 21 [some (.ref 37), some (.int x1), some (.int x2), some (.int x3), some (.int x4), some (.int x5), a6, a7] [] (pv_em S) = pv_cc (pv_R mX7_found 0 [some (.ref 37), some (.int 5)] [] (pv_em S)) mX7_copy 26 [some (.ref 37), some (.int x1), some (.int x2), some (.int x3), some (.int x4), some (.int x5), a6, a7] [] := Eq.trans (pv_Rstp dX7_copy_21 rfl rfl rfl) (Eq.trans (pv_Ric dX7_copy_22 ki_5) (pv_Rcall (As := [.ref 37, .int 5]) (rest := []) dX7_copy_23 rfl mfX7_85 rfl rfl rfl rfl rfl))
set_option maxHeartbeats 200000 in
theorem bX7_copy_26 {S : pv_S} {x1 x2 x3 x4 x5 u0 : Int32} {a6 a7 : Option Value} : pv_R mX7_copy 26 [some (.ref 37), some (.int x1), some (.int x2), some (.int x3), some (.int x4), some (.int x5), a6, a7] [.int u0] (pv_em S) = some (some (.int u0), pv_em S) := pv_Rret dX7_copy_26 rfl
set_option maxHeartbeats 200000 in
theorem bX7_copy_27 {S : pv_S} {x1 x2 x3 x4 x5 : Int32} {a6 a7 : Option Value} : pv_R mX7_copy 27 [some (.ref 37), some (.int x1), some (.int x2), some (.int x3), some (.int x4), some (.int x5), a6, a7] [] (pv_em S) = if x1 < 0 ∨ 6 ≤ x1.toNatClampNeg then none else if (S.1 38 x1.toNatClampNeg) < 0 then pv_R mX7_copy 45 [some (.ref 37), some (.int x1), some (.int x2), some (.int x3), some (.int x4), some (.int x5), a6, a7] [] (pv_em S) else pv_R mX7_copy 36 [some (.ref 37), some (.int x1), some (.int x2), some (.int x3), some (.int x4), some (.int x5), a6, a7] [] (pv_em S) := Eq.trans (pv_Rstp dX7_copy_27 rfl rfl rfl) (Eq.trans (pv_Rget dX7_copy_28 ffX7_7 (by decide) (pv_ce_37 _ _) rfl) (Eq.trans (pv_Rstp dX7_copy_31 rfl rfl rfl) (Eq.trans (pv_Rald dX7_copy_32 (by decide) (pv_ce_38 _ _)) (pv_iteN (fun h1 => pv_Rbr (tgt := 45) dX7_copy_33 rfl rfl rfl rfl rfl (by decide))))))
set_option maxHeartbeats 200000 in
theorem bX7_copy_36 {S : pv_S} {x1 x2 x3 x4 x5 : Int32} {a6 a7 : Option Value} : pv_R mX7_copy 36 [some (.ref 37), some (.int x1), some (.int x2), some (.int x3), some (.int x4), some (.int x5), a6, a7] [] (pv_em S) = if x3 < 0 ∨ 6 ≤ x3.toNatClampNeg then none else if 0 ≤ (S.1 38 x3.toNatClampNeg) then pv_R mX7_copy 51 [some (.ref 37), some (.int x1), some (.int x2), some (.int x3), some (.int x4), some (.int x5), a6, a7] [] (pv_em S) else pv_R mX7_copy 45 [some (.ref 37), some (.int x1), some (.int x2), some (.int x3), some (.int x4), some (.int x5), a6, a7] [] (pv_em S) := Eq.trans (pv_Rstp dX7_copy_36 rfl rfl rfl) (Eq.trans (pv_Rget dX7_copy_37 ffX7_7 (by decide) (pv_ce_37 _ _) rfl) (Eq.trans (pv_Rstp dX7_copy_40 rfl rfl rfl) (Eq.trans (pv_Rald dX7_copy_41 (by decide) (pv_ce_38 _ _)) (pv_iteN (fun h1 => pv_Rbr (tgt := 51) dX7_copy_42 rfl rfl rfl rfl rfl (by decide))))))
set_option maxHeartbeats 200000 in
theorem bX7_copy_45 {S : pv_S} {x1 x2 x3 x4 x5 : Int32} {a6 a7 : Option Value} : pv_R mX7_copy 45 [some (.ref 37), some (.int x1), some (.int x2), some (.int x3), some (.int x4), some (.int x5), a6, a7] [] (pv_em S) = pv_cc (pv_R mX7_found 0 [some (.ref 37), some (.int 1)] [] (pv_em S)) mX7_copy 50 [some (.ref 37), some (.int x1), some (.int x2), some (.int x3), some (.int x4), some (.int x5), a6, a7] [] := Eq.trans (pv_Rstp dX7_copy_45 rfl rfl rfl) (Eq.trans (pv_Ric dX7_copy_46 ki_1) (pv_Rcall (As := [.ref 37, .int 1]) (rest := []) dX7_copy_47 rfl mfX7_85 rfl rfl rfl rfl rfl))
set_option maxHeartbeats 200000 in
theorem bX7_copy_50 {S : pv_S} {x1 x2 x3 x4 x5 u0 : Int32} {a6 a7 : Option Value} : pv_R mX7_copy 50 [some (.ref 37), some (.int x1), some (.int x2), some (.int x3), some (.int x4), some (.int x5), a6, a7] [.int u0] (pv_em S) = some (some (.int u0), pv_em S) := pv_Rret dX7_copy_50 rfl
set_option maxHeartbeats 200000 in
theorem bX7_copy_51 {S : pv_S} {x1 x2 x3 x4 x5 : Int32} {a6 a7 : Option Value} : pv_R mX7_copy 51 [some (.ref 37), some (.int x1), some (.int x2), some (.int x3), some (.int x4), some (.int x5), a6, a7] [] (pv_em S) = if x2 < 0 then pv_R mX7_copy 95 [some (.ref 37), some (.int x1), some (.int x2), some (.int x3), some (.int x4), some (.int x5), a6, a7] [] (pv_em S) else pv_R mX7_copy 55 [some (.ref 37), some (.int x1), some (.int x2), some (.int x3), some (.int x4), some (.int x5), a6, a7] [] (pv_em S) := Eq.trans (pv_Rstp dX7_copy_51 rfl rfl rfl) (pv_Rbr (tgt := 95) dX7_copy_52 rfl rfl rfl rfl rfl (by decide))
set_option maxHeartbeats 200000 in
theorem bX7_copy_55 {S : pv_S} {x1 x2 x3 x4 x5 : Int32} {a6 a7 : Option Value} : pv_R mX7_copy 55 [some (.ref 37), some (.int x1), some (.int x2), some (.int x3), some (.int x4), some (.int x5), a6, a7] [] (pv_em S) = if x4 < 0 then pv_R mX7_copy 95 [some (.ref 37), some (.int x1), some (.int x2), some (.int x3), some (.int x4), some (.int x5), a6, a7] [] (pv_em S) else pv_R mX7_copy 60 [some (.ref 37), some (.int x1), some (.int x2), some (.int x3), some (.int x4), some (.int x5), a6, a7] [] (pv_em S) := Eq.trans (pv_Rstp dX7_copy_55 rfl rfl rfl) (pv_Rbr (tgt := 95) dX7_copy_57 rfl rfl rfl rfl rfl (by decide))
set_option maxHeartbeats 200000 in
theorem bX7_copy_60 {S : pv_S} {x1 x2 x3 x4 x5 : Int32} {a6 a7 : Option Value} : pv_R mX7_copy 60 [some (.ref 37), some (.int x1), some (.int x2), some (.int x3), some (.int x4), some (.int x5), a6, a7] [] (pv_em S) = if x1 < 0 ∨ 6 ≤ x1.toNatClampNeg then none else if 0 < (lg_cmp ((Int32.toInt64 x2) + (Int32.toInt64 x5)) (Int32.toInt64 (S.1 38 x1.toNatClampNeg))) then pv_R mX7_copy 95 [some (.ref 37), some (.int x1), some (.int x2), some (.int x3), some (.int x4), some (.int x5), a6, a7] [] (pv_em S) else pv_R mX7_copy 77 [some (.ref 37), some (.int x1), some (.int x2), some (.int x3), some (.int x4), some (.int x5), a6, a7] [] (pv_em S) := Eq.trans (pv_Rstp dX7_copy_60 rfl rfl rfl) (Eq.trans (pv_Rstp dX7_copy_61 rfl rfl rfl) (Eq.trans (pv_Rstp dX7_copy_62 rfl rfl rfl) (Eq.trans (pv_Rstp dX7_copy_64 rfl rfl rfl) (Eq.trans (pv_Rstp dX7_copy_65 rfl rfl rfl) (Eq.trans (pv_Rstp dX7_copy_66 rfl rfl rfl) (Eq.trans (pv_Rget dX7_copy_67 ffX7_7 (by decide) (pv_ce_37 _ _) rfl) (Eq.trans (pv_Rstp dX7_copy_70 rfl rfl rfl) (Eq.trans (pv_Rald dX7_copy_71 (by decide) (pv_ce_38 _ _)) (pv_iteN (fun h1 => Eq.trans (pv_Rstp dX7_copy_72 rfl rfl rfl) (Eq.trans (pv_Rstp dX7_copy_73 rfl rfl rfl) (pv_Rbr (tgt := 95) dX7_copy_74 rfl rfl rfl rfl rfl (by decide)))))))))))))
set_option maxHeartbeats 200000 in
theorem bX7_copy_77 {S : pv_S} {x1 x2 x3 x4 x5 : Int32} {a6 a7 : Option Value} : pv_R mX7_copy 77 [some (.ref 37), some (.int x1), some (.int x2), some (.int x3), some (.int x4), some (.int x5), a6, a7] [] (pv_em S) = if x3 < 0 ∨ 6 ≤ x3.toNatClampNeg then none else if (lg_cmp ((Int32.toInt64 x4) + (Int32.toInt64 x5)) (Int32.toInt64 (S.1 38 x3.toNatClampNeg))) ≤ 0 then pv_R mX7_copy 101 [some (.ref 37), some (.int x1), some (.int x2), some (.int x3), some (.int x4), some (.int x5), a6, a7] [] (pv_em S) else pv_R mX7_copy 95 [some (.ref 37), some (.int x1), some (.int x2), some (.int x3), some (.int x4), some (.int x5), a6, a7] [] (pv_em S) := Eq.trans (pv_Rstp dX7_copy_77 rfl rfl rfl) (Eq.trans (pv_Rstp dX7_copy_79 rfl rfl rfl) (Eq.trans (pv_Rstp dX7_copy_80 rfl rfl rfl) (Eq.trans (pv_Rstp dX7_copy_82 rfl rfl rfl) (Eq.trans (pv_Rstp dX7_copy_83 rfl rfl rfl) (Eq.trans (pv_Rstp dX7_copy_84 rfl rfl rfl) (Eq.trans (pv_Rget dX7_copy_85 ffX7_7 (by decide) (pv_ce_37 _ _) rfl) (Eq.trans (pv_Rstp dX7_copy_88 rfl rfl rfl) (Eq.trans (pv_Rald dX7_copy_89 (by decide) (pv_ce_38 _ _)) (pv_iteN (fun h1 => Eq.trans (pv_Rstp dX7_copy_90 rfl rfl rfl) (Eq.trans (pv_Rstp dX7_copy_91 rfl rfl rfl) (pv_Rbr (tgt := 101) dX7_copy_92 rfl rfl rfl rfl rfl (by decide)))))))))))))
set_option maxHeartbeats 200000 in
theorem bX7_copy_95 {S : pv_S} {x1 x2 x3 x4 x5 : Int32} {a6 a7 : Option Value} : pv_R mX7_copy 95 [some (.ref 37), some (.int x1), some (.int x2), some (.int x3), some (.int x4), some (.int x5), a6, a7] [] (pv_em S) = pv_cc (pv_R mX7_found 0 [some (.ref 37), some (.int 2)] [] (pv_em S)) mX7_copy 100 [some (.ref 37), some (.int x1), some (.int x2), some (.int x3), some (.int x4), some (.int x5), a6, a7] [] := Eq.trans (pv_Rstp dX7_copy_95 rfl rfl rfl) (Eq.trans (pv_Ric dX7_copy_96 ki_2) (pv_Rcall (As := [.ref 37, .int 2]) (rest := []) dX7_copy_97 rfl mfX7_85 rfl rfl rfl rfl rfl))
set_option maxHeartbeats 200000 in
theorem bX7_copy_100 {S : pv_S} {x1 x2 x3 x4 x5 u0 : Int32} {a6 a7 : Option Value} : pv_R mX7_copy 100 [some (.ref 37), some (.int x1), some (.int x2), some (.int x3), some (.int x4), some (.int x5), a6, a7] [.int u0] (pv_em S) = some (some (.int u0), pv_em S) := pv_Rret dX7_copy_100 rfl
set_option maxHeartbeats 200000 in
theorem bX7_copy_101 {S : pv_S} {x1 x2 x3 x4 x5 : Int32} {a6 a7 : Option Value} : pv_R mX7_copy 101 [some (.ref 37), some (.int x1), some (.int x2), some (.int x3), some (.int x4), some (.int x5), a6, a7] [] (pv_em S) = pv_R mX7_copy 104 [some (.ref 37), some (.int x1), some (.int x2), some (.int x3), some (.int x4), some (.int x5), some (.int 0), a7] [] (pv_em S) := Eq.trans (pv_Ric dX7_copy_101 ki_0) (pv_Rstp dX7_copy_102 rfl rfl rfl)
set_option maxHeartbeats 200000 in
theorem bX7_copy_104 {S : pv_S} {x1 x2 x3 x4 x5 x6 : Int32} {a7 : Option Value} : pv_R mX7_copy 104 [some (.ref 37), some (.int x1), some (.int x2), some (.int x3), some (.int x4), some (.int x5), some (.int x6), a7] [] (pv_em S) = if x5 ≤ x6 then pv_R mX7_copy 166 [some (.ref 37), some (.int x1), some (.int x2), some (.int x3), some (.int x4), some (.int x5), some (.int x6), a7] [] (pv_em S) else pv_R mX7_copy 111 [some (.ref 37), some (.int x1), some (.int x2), some (.int x3), some (.int x4), some (.int x5), some (.int x6), a7] [] (pv_em S) := Eq.trans (pv_Rstp dX7_copy_104 rfl rfl rfl) (Eq.trans (pv_Rstp dX7_copy_106 rfl rfl rfl) (pv_Rbr (tgt := 166) dX7_copy_108 rfl rfl rfl rfl rfl (by decide)))
set_option maxHeartbeats 200000 in
theorem bX7_copy_111 {S : pv_S} {x1 x2 x3 x4 x5 x6 : Int32} {a7 : Option Value} : pv_R mX7_copy 111 [some (.ref 37), some (.int x1), some (.int x2), some (.int x3), some (.int x4), some (.int x5), some (.int x6), a7] [] (pv_em S) = if x4 ≤ x2 then pv_R mX7_copy 127 [some (.ref 37), some (.int x1), some (.int x2), some (.int x3), some (.int x4), some (.int x5), some (.int x6), a7] [] (pv_em S) else pv_R mX7_copy 117 [some (.ref 37), some (.int x1), some (.int x2), some (.int x3), some (.int x4), some (.int x5), some (.int x6), a7] [] (pv_em S) := Eq.trans (pv_Rstp dX7_copy_111 rfl rfl rfl) (Eq.trans (pv_Rstp dX7_copy_113 rfl rfl rfl) (pv_Rbr (tgt := 127) dX7_copy_114 rfl rfl rfl rfl rfl (by decide)))
set_option maxHeartbeats 200000 in
theorem bX7_copy_117 {S : pv_S} {x1 x2 x3 x4 x5 x6 : Int32} {a7 : Option Value} : pv_R mX7_copy 117 [some (.ref 37), some (.int x1), some (.int x2), some (.int x3), some (.int x4), some (.int x5), some (.int x6), a7] [] (pv_em S) = pv_R mX7_copy 129 [some (.ref 37), some (.int x1), some (.int x2), some (.int x3), some (.int x4), some (.int x5), some (.int x6), a7] [.int ((x5 - 1) - x6)] (pv_em S) := Eq.trans (pv_Rstp dX7_copy_117 rfl rfl rfl) (Eq.trans (pv_Ric dX7_copy_119 ki_1) (Eq.trans (pv_Rstp dX7_copy_120 rfl rfl rfl) (Eq.trans (pv_Rstp dX7_copy_121 rfl rfl rfl) (Eq.trans (pv_Rstp dX7_copy_123 rfl rfl rfl) (pv_Rgo (tgt := 129) dX7_copy_124 rfl (by decide))))))
set_option maxHeartbeats 200000 in
theorem bX7_copy_127 {S : pv_S} {x1 x2 x3 x4 x5 x6 : Int32} {a7 : Option Value} : pv_R mX7_copy 127 [some (.ref 37), some (.int x1), some (.int x2), some (.int x3), some (.int x4), some (.int x5), some (.int x6), a7] [] (pv_em S) = pv_R mX7_copy 129 [some (.ref 37), some (.int x1), some (.int x2), some (.int x3), some (.int x4), some (.int x5), some (.int x6), a7] [.int x6] (pv_em S) := pv_Rstp dX7_copy_127 rfl rfl rfl
set_option maxHeartbeats 200000 in
theorem bX7_copy_129 {S : pv_S} {x1 x2 x3 x4 x5 x6 u0 : Int32} {a7 : Option Value} : pv_R mX7_copy 129 [some (.ref 37), some (.int x1), some (.int x2), some (.int x3), some (.int x4), some (.int x5), some (.int x6), a7] [.int u0] (pv_em S) = if (((40 * x1) + x2) + u0) < 0 ∨ 240 ≤ ((((40 * x1) + x2) + u0)).toNatClampNeg then none else if (((40 * x3) + x4) + u0) < 0 ∨ 240 ≤ ((((40 * x3) + x4) + u0)).toNatClampNeg then none else pv_R mX7_copy 104 [some (.ref 37), some (.int x1), some (.int x2), some (.int x3), some (.int x4), some (.int x5), some (.int (x6 + 1)), some (.int u0)] [] (pv_em (pv_si S 39 ((((40 * x3) + x4) + u0)).toNatClampNeg (S.1 39 ((((40 * x1) + x2) + u0)).toNatClampNeg))) := Eq.trans (pv_Rstp dX7_copy_129 rfl rfl rfl) (Eq.trans (pv_Rstp dX7_copy_131 rfl rfl rfl) (Eq.trans (pv_Rget dX7_copy_132 ffX7_13 (by decide) (pv_ce_37 _ _) rfl) (Eq.trans (pv_Rbp dX7_copy_135 kb_40) (Eq.trans (pv_Rstp dX7_copy_137 rfl rfl rfl) (Eq.trans (pv_Rstp dX7_copy_138 rfl rfl rfl) (Eq.trans (pv_Rstp dX7_copy_139 rfl rfl rfl) (Eq.trans (pv_Rstp dX7_copy_141 rfl rfl rfl) (Eq.trans (pv_Rstp dX7_copy_142 rfl rfl rfl) (Eq.trans (pv_Rstp dX7_copy_144 rfl rfl rfl) (Eq.trans (pv_Rstp dX7_copy_145 rfl rfl rfl) (Eq.trans (pv_Rget dX7_copy_146 ffX7_13 (by decide) (pv_ce_37 _ _) rfl) (Eq.trans (pv_Rbp dX7_copy_149 kb_40) (Eq.trans (pv_Rstp dX7_copy_151 rfl rfl rfl) (Eq.trans (pv_Rstp dX7_copy_152 rfl rfl rfl) (Eq.trans (pv_Rstp dX7_copy_153 rfl rfl rfl) (Eq.trans (pv_Rstp dX7_copy_154 rfl rfl rfl) (Eq.trans (pv_Rstp dX7_copy_155 rfl rfl rfl) (Eq.trans (pv_Rstp dX7_copy_157 rfl rfl rfl) (Eq.trans (pv_Rald dX7_copy_158 (by decide) (pv_ce_39 _ _)) (pv_iteN (fun h1 => Eq.trans (pv_Rast dX7_copy_159 (by decide) (pv_ce_39 _ _) (pv_em_si rfl)) (pv_iteN (fun h2 => Eq.trans (pv_Rinc dX7_copy_160 rfl (Nat.le_of_ble_eq_true rfl) ki_1 rfl) (pv_Rgo (tgt := 104) dX7_copy_163 rfl (by decide)))))))))))))))))))))))))
set_option maxHeartbeats 200000 in
theorem bX7_copy_166 {S : pv_S} {x1 x2 x3 x4 x5 x6 : Int32} {a7 : Option Value} : pv_R mX7_copy 166 [some (.ref 37), some (.int x1), some (.int x2), some (.int x3), some (.int x4), some (.int x5), some (.int x6), a7] [] (pv_em S) = some (some (.int 1), pv_em S) := Eq.trans (pv_Ric dX7_copy_166 ki_1) (pv_Rret dX7_copy_167 rfl)
theorem dX7_mean_0 : decode cX7_mean 0 = .ok (.iload_n 1, 1) := by decide +kernel
theorem dX7_mean_1 : decode cX7_mean 1 = .ok (.invokestatic 81, 3) := by decide +kernel
theorem dX7_mean_4 : decode cX7_mean 4 = .ok (.ifCond .ne 5, 3) := by decide +kernel
theorem dX7_mean_7 : decode cX7_mean 7 = .ok (.iconst (-1), 1) := by decide +kernel
theorem dX7_mean_8 : decode cX7_mean 8 = .ok (.ireturn, 1) := by decide +kernel
theorem dX7_mean_9 : decode cX7_mean 9 = .ok (.aload_n 0, 1) := by decide +kernel
theorem dX7_mean_10 : decode cX7_mean 10 = .ok (.getfield 7, 3) := by decide +kernel
theorem dX7_mean_13 : decode cX7_mean 13 = .ok (.iload_n 1, 1) := by decide +kernel
theorem dX7_mean_14 : decode cX7_mean 14 = .ok (.iaload, 1) := by decide +kernel
theorem dX7_mean_15 : decode cX7_mean 15 = .ok (.ifCond .ge 9, 3) := by decide +kernel
theorem dX7_mean_18 : decode cX7_mean 18 = .ok (.aload_n 0, 1) := by decide +kernel
theorem dX7_mean_19 : decode cX7_mean 19 = .ok (.iconst 1, 1) := by decide +kernel
theorem dX7_mean_20 : decode cX7_mean 20 = .ok (.invokevirtual 85, 3) := by decide +kernel
theorem dX7_mean_23 : decode cX7_mean 23 = .ok (.ireturn, 1) := by decide +kernel
theorem dX7_mean_24 : decode cX7_mean 24 = .ok (.aload_n 0, 1) := by decide +kernel
theorem dX7_mean_25 : decode cX7_mean 25 = .ok (.getfield 7, 3) := by decide +kernel
theorem dX7_mean_28 : decode cX7_mean 28 = .ok (.iload_n 1, 1) := by decide +kernel
theorem dX7_mean_29 : decode cX7_mean 29 = .ok (.iaload, 1) := by decide +kernel
theorem dX7_mean_30 : decode cX7_mean 30 = .ok (.ifCond .ne 9, 3) := by decide +kernel
theorem dX7_mean_33 : decode cX7_mean 33 = .ok (.aload_n 0, 1) := by decide +kernel
theorem dX7_mean_34 : decode cX7_mean 34 = .ok (.iconst 4, 1) := by decide +kernel
theorem dX7_mean_35 : decode cX7_mean 35 = .ok (.invokevirtual 85, 3) := by decide +kernel
theorem dX7_mean_38 : decode cX7_mean 38 = .ok (.ireturn, 1) := by decide +kernel
theorem dX7_mean_39 : decode cX7_mean 39 = .ok (.lconst 0, 1) := by decide +kernel
theorem dX7_mean_40 : decode cX7_mean 40 = .ok (.lstore_n 2, 1) := by decide +kernel
theorem dX7_mean_41 : decode cX7_mean 41 = .ok (.iconst 0, 1) := by decide +kernel
theorem dX7_mean_42 : decode cX7_mean 42 = .ok (.istore 4, 2) := by decide +kernel
theorem dX7_mean_44 : decode cX7_mean 44 = .ok (.iload 4, 2) := by decide +kernel
theorem dX7_mean_46 : decode cX7_mean 46 = .ok (.aload_n 0, 1) := by decide +kernel
theorem dX7_mean_47 : decode cX7_mean 47 = .ok (.getfield 7, 3) := by decide +kernel
theorem dX7_mean_50 : decode cX7_mean 50 = .ok (.iload_n 1, 1) := by decide +kernel
theorem dX7_mean_51 : decode cX7_mean 51 = .ok (.iaload, 1) := by decide +kernel
theorem dX7_mean_52 : decode cX7_mean 52 = .ok (.if_icmp .ge 25, 3) := by decide +kernel
theorem dX7_mean_55 : decode cX7_mean 55 = .ok (.lload_n 2, 1) := by decide +kernel
theorem dX7_mean_56 : decode cX7_mean 56 = .ok (.aload_n 0, 1) := by decide +kernel
theorem dX7_mean_57 : decode cX7_mean 57 = .ok (.getfield 13, 3) := by decide +kernel
theorem dX7_mean_60 : decode cX7_mean 60 = .ok (.bipush 40, 2) := by decide +kernel
theorem dX7_mean_62 : decode cX7_mean 62 = .ok (.iload_n 1, 1) := by decide +kernel
theorem dX7_mean_63 : decode cX7_mean 63 = .ok (.imul, 1) := by decide +kernel
theorem dX7_mean_64 : decode cX7_mean 64 = .ok (.iload 4, 2) := by decide +kernel
theorem dX7_mean_66 : decode cX7_mean 66 = .ok (.iadd, 1) := by decide +kernel
theorem dX7_mean_67 : decode cX7_mean 67 = .ok (.iaload, 1) := by decide +kernel
theorem dX7_mean_68 : decode cX7_mean 68 = .ok (.i2l, 1) := by decide +kernel
theorem dX7_mean_69 : decode cX7_mean 69 = .ok (.ladd, 1) := by decide +kernel
theorem dX7_mean_70 : decode cX7_mean 70 = .ok (.lstore_n 2, 1) := by decide +kernel
theorem dX7_mean_71 : decode cX7_mean 71 = .ok (.iinc 4 1, 3) := by decide +kernel
theorem dX7_mean_74 : decode cX7_mean 74 = .ok (.goto (-30), 3) := by decide +kernel
theorem dX7_mean_77 : decode cX7_mean 77 = .ok (.aload_n 0, 1) := by decide +kernel
theorem dX7_mean_78 : decode cX7_mean 78 = .ok (.lload_n 2, 1) := by decide +kernel
theorem dX7_mean_79 : decode cX7_mean 79 = .ok (.aload_n 0, 1) := by decide +kernel
theorem dX7_mean_80 : decode cX7_mean 80 = .ok (.getfield 7, 3) := by decide +kernel
theorem dX7_mean_83 : decode cX7_mean 83 = .ok (.iload_n 1, 1) := by decide +kernel
theorem dX7_mean_84 : decode cX7_mean 84 = .ok (.iaload, 1) := by decide +kernel
theorem dX7_mean_85 : decode cX7_mean 85 = .ok (.i2l, 1) := by decide +kernel
theorem dX7_mean_86 : decode cX7_mean 86 = .ok (.ldiv, 1) := by decide +kernel
theorem dX7_mean_87 : decode cX7_mean 87 = .ok (.l2i, 1) := by decide +kernel
theorem dX7_mean_88 : decode cX7_mean 88 = .ok (.invokevirtual 89, 3) := by decide +kernel
theorem dX7_mean_91 : decode cX7_mean 91 = .ok (.ireturn, 1) := by decide +kernel
set_option maxHeartbeats 200000 in
theorem bX7_mean_0 {S : pv_S} {x1 : Int32} {a2 a3 a4 : Option Value} : pv_R mX7_mean 0 [some (.ref 37), some (.int x1), a2, a3, a4] [] (pv_em S) = pv_cc (pv_R mX7_isRow 0 [some (.int x1)] [] (pv_em S)) mX7_mean 4 [some (.ref 37), some (.int x1), a2, a3, a4] [] := Eq.trans (pv_Rstp dX7_mean_0 rfl rfl rfl) (pv_Rcall (As := [.int x1]) (rest := []) dX7_mean_1 rfl mfX7_81 rfl rfl rfl rfl rfl)
set_option maxHeartbeats 200000 in
theorem bX7_mean_4 {S : pv_S} {x1 u0 : Int32} {a2 a3 a4 : Option Value} : pv_R mX7_mean 4 [some (.ref 37), some (.int x1), a2, a3, a4] [.int u0] (pv_em S) = if ¬ u0 = 0 then pv_R mX7_mean 9 [some (.ref 37), some (.int x1), a2, a3, a4] [] (pv_em S) else pv_R mX7_mean 7 [some (.ref 37), some (.int x1), a2, a3, a4] [] (pv_em S) := pv_Rbr (tgt := 9) dX7_mean_4 rfl rfl rfl rfl rfl (by decide)
set_option maxHeartbeats 200000 in
theorem bX7_mean_7 {S : pv_S} {x1 : Int32} {a2 a3 a4 : Option Value} : pv_R mX7_mean 7 [some (.ref 37), some (.int x1), a2, a3, a4] [] (pv_em S) = some (some (.int (-1)), pv_em S) := Eq.trans (pv_Ric dX7_mean_7 ki_m1) (pv_Rret dX7_mean_8 rfl)
set_option maxHeartbeats 200000 in
theorem bX7_mean_9 {S : pv_S} {x1 : Int32} {a2 a3 a4 : Option Value} : pv_R mX7_mean 9 [some (.ref 37), some (.int x1), a2, a3, a4] [] (pv_em S) = if x1 < 0 ∨ 6 ≤ x1.toNatClampNeg then none else if 0 ≤ (S.1 38 x1.toNatClampNeg) then pv_R mX7_mean 24 [some (.ref 37), some (.int x1), a2, a3, a4] [] (pv_em S) else pv_R mX7_mean 18 [some (.ref 37), some (.int x1), a2, a3, a4] [] (pv_em S) := Eq.trans (pv_Rstp dX7_mean_9 rfl rfl rfl) (Eq.trans (pv_Rget dX7_mean_10 ffX7_7 (by decide) (pv_ce_37 _ _) rfl) (Eq.trans (pv_Rstp dX7_mean_13 rfl rfl rfl) (Eq.trans (pv_Rald dX7_mean_14 (by decide) (pv_ce_38 _ _)) (pv_iteN (fun h1 => pv_Rbr (tgt := 24) dX7_mean_15 rfl rfl rfl rfl rfl (by decide))))))
set_option maxHeartbeats 200000 in
theorem bX7_mean_18 {S : pv_S} {x1 : Int32} {a2 a3 a4 : Option Value} : pv_R mX7_mean 18 [some (.ref 37), some (.int x1), a2, a3, a4] [] (pv_em S) = pv_cc (pv_R mX7_found 0 [some (.ref 37), some (.int 1)] [] (pv_em S)) mX7_mean 23 [some (.ref 37), some (.int x1), a2, a3, a4] [] := Eq.trans (pv_Rstp dX7_mean_18 rfl rfl rfl) (Eq.trans (pv_Ric dX7_mean_19 ki_1) (pv_Rcall (As := [.ref 37, .int 1]) (rest := []) dX7_mean_20 rfl mfX7_85 rfl rfl rfl rfl rfl))
set_option maxHeartbeats 200000 in
theorem bX7_mean_23 {S : pv_S} {x1 u0 : Int32} {a2 a3 a4 : Option Value} : pv_R mX7_mean 23 [some (.ref 37), some (.int x1), a2, a3, a4] [.int u0] (pv_em S) = some (some (.int u0), pv_em S) := pv_Rret dX7_mean_23 rfl
set_option maxHeartbeats 200000 in
theorem bX7_mean_24 {S : pv_S} {x1 : Int32} {a2 a3 a4 : Option Value} : pv_R mX7_mean 24 [some (.ref 37), some (.int x1), a2, a3, a4] [] (pv_em S) = if x1 < 0 ∨ 6 ≤ x1.toNatClampNeg then none else if ¬ (S.1 38 x1.toNatClampNeg) = 0 then pv_R mX7_mean 39 [some (.ref 37), some (.int x1), a2, a3, a4] [] (pv_em S) else pv_R mX7_mean 33 [some (.ref 37), some (.int x1), a2, a3, a4] [] (pv_em S) := Eq.trans (pv_Rstp dX7_mean_24 rfl rfl rfl) (Eq.trans (pv_Rget dX7_mean_25 ffX7_7 (by decide) (pv_ce_37 _ _) rfl) (Eq.trans (pv_Rstp dX7_mean_28 rfl rfl rfl) (Eq.trans (pv_Rald dX7_mean_29 (by decide) (pv_ce_38 _ _)) (pv_iteN (fun h1 => pv_Rbr (tgt := 39) dX7_mean_30 rfl rfl rfl rfl rfl (by decide))))))
set_option maxHeartbeats 200000 in
theorem bX7_mean_33 {S : pv_S} {x1 : Int32} {a2 a3 a4 : Option Value} : pv_R mX7_mean 33 [some (.ref 37), some (.int x1), a2, a3, a4] [] (pv_em S) = pv_cc (pv_R mX7_found 0 [some (.ref 37), some (.int 4)] [] (pv_em S)) mX7_mean 38 [some (.ref 37), some (.int x1), a2, a3, a4] [] := Eq.trans (pv_Rstp dX7_mean_33 rfl rfl rfl) (Eq.trans (pv_Ric dX7_mean_34 ki_4) (pv_Rcall (As := [.ref 37, .int 4]) (rest := []) dX7_mean_35 rfl mfX7_85 rfl rfl rfl rfl rfl))
set_option maxHeartbeats 200000 in
theorem bX7_mean_38 {S : pv_S} {x1 u0 : Int32} {a2 a3 a4 : Option Value} : pv_R mX7_mean 38 [some (.ref 37), some (.int x1), a2, a3, a4] [.int u0] (pv_em S) = some (some (.int u0), pv_em S) := pv_Rret dX7_mean_38 rfl
set_option maxHeartbeats 200000 in
theorem bX7_mean_39 {S : pv_S} {x1 : Int32} {a2 a3 a4 : Option Value} : pv_R mX7_mean 39 [some (.ref 37), some (.int x1), a2, a3, a4] [] (pv_em S) = pv_R mX7_mean 44 [some (.ref 37), some (.int x1), some (.long 0), none, some (.int 0)] [] (pv_em S) := Eq.trans (pv_Rlc dX7_mean_39 kl_0) (Eq.trans (pv_Rstp dX7_mean_40 rfl rfl rfl) (Eq.trans (pv_Ric dX7_mean_41 ki_0) (pv_Rstp dX7_mean_42 rfl rfl rfl)))
set_option maxHeartbeats 200000 in
theorem bX7_mean_44 {S : pv_S} {x1 x4 : Int32} {x2 : Int64} {a3 : Option Value} : pv_R mX7_mean 44 [some (.ref 37), some (.int x1), some (.long x2), a3, some (.int x4)] [] (pv_em S) = if x1 < 0 ∨ 6 ≤ x1.toNatClampNeg then none else if (S.1 38 x1.toNatClampNeg) ≤ x4 then pv_R mX7_mean 77 [some (.ref 37), some (.int x1), some (.long x2), a3, some (.int x4)] [] (pv_em S) else pv_R mX7_mean 55 [some (.ref 37), some (.int x1), some (.long x2), a3, some (.int x4)] [] (pv_em S) := Eq.trans (pv_Rstp dX7_mean_44 rfl rfl rfl) (Eq.trans (pv_Rstp dX7_mean_46 rfl rfl rfl) (Eq.trans (pv_Rget dX7_mean_47 ffX7_7 (by decide) (pv_ce_37 _ _) rfl) (Eq.trans (pv_Rstp dX7_mean_50 rfl rfl rfl) (Eq.trans (pv_Rald dX7_mean_51 (by decide) (pv_ce_38 _ _)) (pv_iteN (fun h1 => pv_Rbr (tgt := 77) dX7_mean_52 rfl rfl rfl rfl rfl (by decide)))))))
set_option maxHeartbeats 200000 in
theorem bX7_mean_55 {S : pv_S} {x1 x4 : Int32} {x2 : Int64} {a3 : Option Value} : pv_R mX7_mean 55 [some (.ref 37), some (.int x1), some (.long x2), a3, some (.int x4)] [] (pv_em S) = if ((40 * x1) + x4) < 0 ∨ 240 ≤ (((40 * x1) + x4)).toNatClampNeg then none else pv_R mX7_mean 44 [some (.ref 37), some (.int x1), some (.long (x2 + (Int32.toInt64 (S.1 39 (((40 * x1) + x4)).toNatClampNeg)))), none, some (.int (x4 + 1))] [] (pv_em S) := Eq.trans (pv_Rstp dX7_mean_55 rfl rfl rfl) (Eq.trans (pv_Rstp dX7_mean_56 rfl rfl rfl) (Eq.trans (pv_Rget dX7_mean_57 ffX7_13 (by decide) (pv_ce_37 _ _) rfl) (Eq.trans (pv_Rbp dX7_mean_60 kb_40) (Eq.trans (pv_Rstp dX7_mean_62 rfl rfl rfl) (Eq.trans (pv_Rstp dX7_mean_63 rfl rfl rfl) (Eq.trans (pv_Rstp dX7_mean_64 rfl rfl rfl) (Eq.trans (pv_Rstp dX7_mean_66 rfl rfl rfl) (Eq.trans (pv_Rald dX7_mean_67 (by decide) (pv_ce_39 _ _)) (pv_iteN (fun h1 => Eq.trans (pv_Rstp dX7_mean_68 rfl rfl rfl) (Eq.trans (pv_Rstp dX7_mean_69 rfl rfl rfl) (Eq.trans (pv_Rstp dX7_mean_70 rfl rfl rfl) (Eq.trans (pv_Rinc dX7_mean_71 rfl (Nat.le_of_ble_eq_true rfl) ki_1 rfl) (pv_Rgo (tgt := 44) dX7_mean_74 rfl (by decide)))))))))))))))
set_option maxHeartbeats 200000 in
theorem bX7_mean_77 {S : pv_S} {x1 x4 : Int32} {x2 : Int64} {a3 : Option Value} : pv_R mX7_mean 77 [some (.ref 37), some (.int x1), some (.long x2), a3, some (.int x4)] [] (pv_em S) = if x1 < 0 ∨ 6 ≤ x1.toNatClampNeg then none else if (Int32.toInt64 (S.1 38 x1.toNatClampNeg)) = 0 then none else pv_cc (pv_R mX7_tell 0 [some (.ref 37), some (.int (Int64.toInt32 (x2 / (Int32.toInt64 (S.1 38 x1.toNatClampNeg)))))] [] (pv_em S)) mX7_mean 91 [some (.ref 37), some (.int x1), some (.long x2), a3, some (.int x4)] [] := Eq.trans (pv_Rstp dX7_mean_77 rfl rfl rfl) (Eq.trans (pv_Rstp dX7_mean_78 rfl rfl rfl) (Eq.trans (pv_Rstp dX7_mean_79 rfl rfl rfl) (Eq.trans (pv_Rget dX7_mean_80 ffX7_7 (by decide) (pv_ce_37 _ _) rfl) (Eq.trans (pv_Rstp dX7_mean_83 rfl rfl rfl) (Eq.trans (pv_Rald dX7_mean_84 (by decide) (pv_ce_38 _ _)) (pv_iteN (fun h1 => Eq.trans (pv_Rstp dX7_mean_85 rfl rfl rfl) (Eq.trans (pv_Rldiv dX7_mean_86) (pv_iteN (fun h2 => Eq.trans (pv_Rstp dX7_mean_87 rfl rfl rfl) (pv_Rcall (As := [.ref 37, .int (Int64.toInt32 (x2 / (Int32.toInt64 (S.1 38 x1.toNatClampNeg))))]) (rest := []) dX7_mean_88 rfl mfX7_89 rfl rfl rfl rfl rfl)))))))))))
set_option maxHeartbeats 200000 in
theorem bX7_mean_91 {S : pv_S} {x1 x4 u0 : Int32} {x2 : Int64} {a3 : Option Value} : pv_R mX7_mean 91 [some (.ref 37), some (.int x1), some (.long x2), a3, some (.int x4)] [.int u0] (pv_em S) = some (some (.int u0), pv_em S) := pv_Rret dX7_mean_91 rfl
theorem dX7_text_0 : decode cX7_text 0 = .ok (.iload_n 1, 1) := by decide +kernel
theorem dX7_text_1 : decode cX7_text 1 = .ok (.invokestatic 92, 3) := by decide +kernel
theorem dX7_text_4 : decode cX7_text 4 = .ok (.ifCond .eq 9, 3) := by decide +kernel
theorem dX7_text_7 : decode cX7_text 7 = .ok (.iload_n 2, 1) := by decide +kernel
theorem dX7_text_8 : decode cX7_text 8 = .ok (.bipush 60, 2) := by decide +kernel
theorem dX7_text_10 : decode cX7_text 10 = .ok (.if_icmp .le 5, 3) := by decide +kernel
theorem dX7_text_13 : decode cX7_text 13 = .ok (.iconst (-1), 1) := by decide +kernel
theorem dX7_text_14 : decode cX7_text 14 = .ok (.ireturn, 1) := by decide +kernel
theorem dX7_text_15 : decode cX7_text 15 = .ok (.iload_n 2, 1) := by decide +kernel
theorem dX7_text_16 : decode cX7_text 16 = .ok (.ifCond .ge 9, 3) := by decide +kernel
theorem dX7_text_19 : decode cX7_text 19 = .ok (.aload_n 0, 1) := by decide +kernel
theorem dX7_text_20 : decode cX7_text 20 = .ok (.iconst 5, 1) := by decide +kernel
theorem dX7_text_21 : decode cX7_text 21 = .ok (.invokevirtual 85, 3) := by decide +kernel
theorem dX7_text_24 : decode cX7_text 24 = .ok (.ireturn, 1) := by decide +kernel
theorem dX7_text_25 : decode cX7_text 25 = .ok (.aload_n 0, 1) := by decide +kernel
theorem dX7_text_26 : decode cX7_text 26 = .ok (.getfield 16, 3) := by decide +kernel
theorem dX7_text_29 : decode cX7_text 29 = .ok (.iload_n 1, 1) := by decide +kernel
theorem dX7_text_30 : decode cX7_text 30 = .ok (.iload_n 2, 1) := by decide +kernel
theorem dX7_text_31 : decode cX7_text 31 = .ok (.iastore, 1) := by decide +kernel
theorem dX7_text_32 : decode cX7_text 32 = .ok (.iconst 0, 1) := by decide +kernel
theorem dX7_text_33 : decode cX7_text 33 = .ok (.istore_n 3, 1) := by decide +kernel
theorem dX7_text_34 : decode cX7_text 34 = .ok (.iload_n 3, 1) := by decide +kernel
theorem dX7_text_35 : decode cX7_text 35 = .ok (.bipush 60, 2) := by decide +kernel
theorem dX7_text_37 : decode cX7_text 37 = .ok (.if_icmp .ge 22, 3) := by decide +kernel
theorem dX7_text_40 : decode cX7_text 40 = .ok (.aload_n 0, 1) := by decide +kernel
theorem dX7_text_41 : decode cX7_text 41 = .ok (.getfield 19, 3) := by decide +kernel
theorem dX7_text_44 : decode cX7_text 44 = .ok (.bipush 60, 2) := by decide +kernel
theorem dX7_text_46 : decode cX7_text 46 = .ok (.iload_n 1, 1) := by decide +kernel
theorem dX7_text_47 : decode cX7_text 47 = .ok (.imul, 1) := by decide +kernel
theorem dX7_text_48 : decode cX7_text 48 = .ok (.iload_n 3, 1) := by decide +kernel
theorem dX7_text_49 : decode cX7_text 49 = .ok (.iadd, 1) := by decide +kernel
theorem dX7_text_50 : decode cX7_text 50 = .ok (.bipush 32, 2) := by decide +kernel
theorem dX7_text_52 : decode cX7_text 52 = .ok (.iastore, 1) := by decide +kernel
theorem dX7_text_53 : decode cX7_text 53 = .ok (.iinc 3 1, 3) := by decide +kernel
theorem dX7_text_56 : decode cX7_text 56 = .ok (.goto (-22), 3) := by decide +kernel
theorem dX7_text_59 : decode cX7_text 59 = .ok (.iload_n 2, 1) := by decide +kernel
theorem dX7_text_60 : decode cX7_text 60 = .ok (.ireturn, 1) := by decide +kernel
set_option maxHeartbeats 200000 in
theorem bX7_text_0 {S : pv_S} {x1 x2 : Int32} {a3 : Option Value} : pv_R mX7_text 0 [some (.ref 37), some (.int x1), some (.int x2), a3] [] (pv_em S) = pv_cc (pv_R mX7_isText 0 [some (.int x1)] [] (pv_em S)) mX7_text 4 [some (.ref 37), some (.int x1), some (.int x2), a3] [] := Eq.trans (pv_Rstp dX7_text_0 rfl rfl rfl) (pv_Rcall (As := [.int x1]) (rest := []) dX7_text_1 rfl mfX7_92 rfl rfl rfl rfl rfl)
set_option maxHeartbeats 200000 in
theorem bX7_text_4 {S : pv_S} {x1 x2 u0 : Int32} {a3 : Option Value} : pv_R mX7_text 4 [some (.ref 37), some (.int x1), some (.int x2), a3] [.int u0] (pv_em S) = if u0 = 0 then pv_R mX7_text 13 [some (.ref 37), some (.int x1), some (.int x2), a3] [] (pv_em S) else pv_R mX7_text 7 [some (.ref 37), some (.int x1), some (.int x2), a3] [] (pv_em S) := pv_Rbr (tgt := 13) dX7_text_4 rfl rfl rfl rfl rfl (by decide)
set_option maxHeartbeats 200000 in
theorem bX7_text_7 {S : pv_S} {x1 x2 : Int32} {a3 : Option Value} : pv_R mX7_text 7 [some (.ref 37), some (.int x1), some (.int x2), a3] [] (pv_em S) = if x2 ≤ 60 then pv_R mX7_text 15 [some (.ref 37), some (.int x1), some (.int x2), a3] [] (pv_em S) else pv_R mX7_text 13 [some (.ref 37), some (.int x1), some (.int x2), a3] [] (pv_em S) := Eq.trans (pv_Rstp dX7_text_7 rfl rfl rfl) (Eq.trans (pv_Rbp dX7_text_8 kb_60) (pv_Rbr (tgt := 15) dX7_text_10 rfl rfl rfl rfl rfl (by decide)))
set_option maxHeartbeats 200000 in
theorem bX7_text_13 {S : pv_S} {x1 x2 : Int32} {a3 : Option Value} : pv_R mX7_text 13 [some (.ref 37), some (.int x1), some (.int x2), a3] [] (pv_em S) = some (some (.int (-1)), pv_em S) := Eq.trans (pv_Ric dX7_text_13 ki_m1) (pv_Rret dX7_text_14 rfl)
set_option maxHeartbeats 200000 in
theorem bX7_text_15 {S : pv_S} {x1 x2 : Int32} {a3 : Option Value} : pv_R mX7_text 15 [some (.ref 37), some (.int x1), some (.int x2), a3] [] (pv_em S) = if 0 ≤ x2 then pv_R mX7_text 25 [some (.ref 37), some (.int x1), some (.int x2), a3] [] (pv_em S) else pv_R mX7_text 19 [some (.ref 37), some (.int x1), some (.int x2), a3] [] (pv_em S) := Eq.trans (pv_Rstp dX7_text_15 rfl rfl rfl) (pv_Rbr (tgt := 25) dX7_text_16 rfl rfl rfl rfl rfl (by decide))
set_option maxHeartbeats 200000 in
theorem bX7_text_19 {S : pv_S} {x1 x2 : Int32} {a3 : Option Value} : pv_R mX7_text 19 [some (.ref 37), some (.int x1), some (.int x2), a3] [] (pv_em S) = pv_cc (pv_R mX7_found 0 [some (.ref 37), some (.int 5)] [] (pv_em S)) mX7_text 24 [some (.ref 37), some (.int x1), some (.int x2), a3] [] := Eq.trans (pv_Rstp dX7_text_19 rfl rfl rfl) (Eq.trans (pv_Ric dX7_text_20 ki_5) (pv_Rcall (As := [.ref 37, .int 5]) (rest := []) dX7_text_21 rfl mfX7_85 rfl rfl rfl rfl rfl))
set_option maxHeartbeats 200000 in
theorem bX7_text_24 {S : pv_S} {x1 x2 u0 : Int32} {a3 : Option Value} : pv_R mX7_text 24 [some (.ref 37), some (.int x1), some (.int x2), a3] [.int u0] (pv_em S) = some (some (.int u0), pv_em S) := pv_Rret dX7_text_24 rfl
set_option maxHeartbeats 200000 in
theorem bX7_text_25 {S : pv_S} {x1 x2 : Int32} {a3 : Option Value} : pv_R mX7_text 25 [some (.ref 37), some (.int x1), some (.int x2), a3] [] (pv_em S) = if x1 < 0 ∨ 4 ≤ x1.toNatClampNeg then none else pv_R mX7_text 34 [some (.ref 37), some (.int x1), some (.int x2), some (.int 0)] [] (pv_em (pv_si S 40 x1.toNatClampNeg x2)) := Eq.trans (pv_Rstp dX7_text_25 rfl rfl rfl) (Eq.trans (pv_Rget dX7_text_26 ffX7_16 (by decide) (pv_ce_37 _ _) rfl) (Eq.trans (pv_Rstp dX7_text_29 rfl rfl rfl) (Eq.trans (pv_Rstp dX7_text_30 rfl rfl rfl) (Eq.trans (pv_Rast dX7_text_31 (by decide) (pv_ce_40 _ _) (pv_em_si rfl)) (pv_iteN (fun h1 => Eq.trans (pv_Ric dX7_text_32 ki_0) (pv_Rstp dX7_text_33 rfl rfl rfl)))))))
set_option maxHeartbeats 200000 in
theorem bX7_text_34 {S : pv_S} {x1 x2 x3 : Int32} : pv_R mX7_text 34 [some (.ref 37), some (.int x1), some (.int x2), some (.int x3)] [] (pv_em S) = if 60 ≤ x3 then pv_R mX7_text 59 [some (.ref 37), some (.int x1), some (.int x2), some (.int x3)] [] (pv_em S) else pv_R mX7_text 40 [some (.ref 37), some (.int x1), some (.int x2), some (.int x3)] [] (pv_em S) := Eq.trans (pv_Rstp dX7_text_34 rfl rfl rfl) (Eq.trans (pv_Rbp dX7_text_35 kb_60) (pv_Rbr (tgt := 59) dX7_text_37 rfl rfl rfl rfl rfl (by decide)))
set_option maxHeartbeats 200000 in
theorem bX7_text_40 {S : pv_S} {x1 x2 x3 : Int32} : pv_R mX7_text 40 [some (.ref 37), some (.int x1), some (.int x2), some (.int x3)] [] (pv_em S) = if ((60 * x1) + x3) < 0 ∨ 240 ≤ (((60 * x1) + x3)).toNatClampNeg then none else pv_R mX7_text 34 [some (.ref 37), some (.int x1), some (.int x2), some (.int (x3 + 1))] [] (pv_em (pv_si S 41 (((60 * x1) + x3)).toNatClampNeg 32)) := Eq.trans (pv_Rstp dX7_text_40 rfl rfl rfl) (Eq.trans (pv_Rget dX7_text_41 ffX7_19 (by decide) (pv_ce_37 _ _) rfl) (Eq.trans (pv_Rbp dX7_text_44 kb_60) (Eq.trans (pv_Rstp dX7_text_46 rfl rfl rfl) (Eq.trans (pv_Rstp dX7_text_47 rfl rfl rfl) (Eq.trans (pv_Rstp dX7_text_48 rfl rfl rfl) (Eq.trans (pv_Rstp dX7_text_49 rfl rfl rfl) (Eq.trans (pv_Rbp dX7_text_50 kb_32) (Eq.trans (pv_Rast dX7_text_52 (by decide) (pv_ce_41 _ _) (pv_em_si rfl)) (pv_iteN (fun h1 => Eq.trans (pv_Rinc dX7_text_53 rfl (Nat.le_of_ble_eq_true rfl) ki_1 rfl) (pv_Rgo (tgt := 34) dX7_text_56 rfl (by decide))))))))))))
set_option maxHeartbeats 200000 in
theorem bX7_text_59 {S : pv_S} {x1 x2 x3 : Int32} : pv_R mX7_text 59 [some (.ref 37), some (.int x1), some (.int x2), some (.int x3)] [] (pv_em S) = some (some (.int x2), pv_em S) := Eq.trans (pv_Rstp dX7_text_59 rfl rfl rfl) (pv_Rret dX7_text_60 rfl)
theorem dX7_put_0 : decode cX7_put 0 = .ok (.iload_n 1, 1) := by decide +kernel
theorem dX7_put_1 : decode cX7_put 1 = .ok (.invokestatic 92, 3) := by decide +kernel
theorem dX7_put_4 : decode cX7_put 4 = .ok (.ifCond .ne 5, 3) := by decide +kernel
theorem dX7_put_7 : decode cX7_put 7 = .ok (.iconst (-1), 1) := by decide +kernel
theorem dX7_put_8 : decode cX7_put 8 = .ok (.ireturn, 1) := by decide +kernel
theorem dX7_put_9 : decode cX7_put 9 = .ok (.aload_n 0, 1) := by decide +kernel
theorem dX7_put_10 : decode cX7_put 10 = .ok (.getfield 16, 3) := by decide +kernel
theorem dX7_put_13 : decode cX7_put 13 = .ok (.iload_n 1, 1) := by decide +kernel
theorem dX7_put_14 : decode cX7_put 14 = .ok (.iaload, 1) := by decide +kernel
theorem dX7_put_15 : decode cX7_put 15 = .ok (.ifCond .ge 9, 3) := by decide +kernel
theorem dX7_put_18 : decode cX7_put 18 = .ok (.aload_n 0, 1) := by decide +kernel
theorem dX7_put_19 : decode cX7_put 19 = .ok (.iconst 1, 1) := by decide +kernel
theorem dX7_put_20 : decode cX7_put 20 = .ok (.invokevirtual 85, 3) := by decide +kernel
theorem dX7_put_23 : decode cX7_put 23 = .ok (.ireturn, 1) := by decide +kernel
theorem dX7_put_24 : decode cX7_put 24 = .ok (.iload_n 2, 1) := by decide +kernel
theorem dX7_put_25 : decode cX7_put 25 = .ok (.i2l, 1) := by decide +kernel
theorem dX7_put_26 : decode cX7_put 26 = .ok (.lconst 0, 1) := by decide +kernel
theorem dX7_put_27 : decode cX7_put 27 = .ok (.aload_n 0, 1) := by decide +kernel
theorem dX7_put_28 : decode cX7_put 28 = .ok (.getfield 16, 3) := by decide +kernel
theorem dX7_put_31 : decode cX7_put 31 = .ok (.iload_n 1, 1) := by decide +kernel
theorem dX7_put_32 : decode cX7_put 32 = .ok (.iaload, 1) := by decide +kernel
theorem dX7_put_33 : decode cX7_put 33 = .ok (.iconst 1, 1) := by decide +kernel
theorem dX7_put_34 : decode cX7_put 34 = .ok (.isub, 1) := by decide +kernel
theorem dX7_put_35 : decode cX7_put 35 = .ok (.i2l, 1) := by decide +kernel
theorem dX7_put_36 : decode cX7_put 36 = .ok (.invokestatic 75, 3) := by decide +kernel
theorem dX7_put_39 : decode cX7_put 39 = .ok (.ifCond .ne 9, 3) := by decide +kernel
theorem dX7_put_42 : decode cX7_put 42 = .ok (.aload_n 0, 1) := by decide +kernel
theorem dX7_put_43 : decode cX7_put 43 = .ok (.iconst 2, 1) := by decide +kernel
theorem dX7_put_44 : decode cX7_put 44 = .ok (.invokevirtual 85, 3) := by decide +kernel
theorem dX7_put_47 : decode cX7_put 47 = .ok (.ireturn, 1) := by decide +kernel
theorem dX7_put_48 : decode cX7_put 48 = .ok (.aload_n 0, 1) := by decide +kernel
theorem dX7_put_49 : decode cX7_put 49 = .ok (.getfield 19, 3) := by decide +kernel
theorem dX7_put_52 : decode cX7_put 52 = .ok (.bipush 60, 2) := by decide +kernel
theorem dX7_put_54 : decode cX7_put 54 = .ok (.iload_n 1, 1) := by decide +kernel
theorem dX7_put_55 : decode cX7_put 55 = .ok (.imul, 1) := by decide +kernel
theorem dX7_put_56 : decode cX7_put 56 = .ok (.iload_n 2, 1) := by decide +kernel
theorem dX7_put_57 : decode cX7_put 57 = .ok (.iadd, 1) := by decide +kernel
theorem dX7_put_58 : decode cX7_put 58 = .ok (.iaload, 1) := by decide +kernel
theorem dX7_put_59 : decode cX7_put 59 = .ok (.istore 4, 2) := by decide +kernel
theorem dX7_put_61 : decode cX7_put 61 = .ok (.aload_n 0, 1) := by decide +kernel
theorem dX7_put_62 : decode cX7_put 62 = .ok (.getfield 19, 3) := by decide +kernel
theorem dX7_put_65 : decode cX7_put 65 = .ok (.bipush 60, 2) := by decide +kernel
theorem dX7_put_67 : decode cX7_put 67 = .ok (.iload_n 1, 1) := by decide +kernel
theorem dX7_put_68 : decode cX7_put 68 = .ok (.imul, 1) := by decide +kernel
theorem dX7_put_69 : decode cX7_put 69 = .ok (.iload_n 2, 1) := by decide +kernel
theorem dX7_put_70 : decode cX7_put 70 = .ok (.iadd, 1) := by decide +kernel
theorem dX7_put_71 : decode cX7_put 71 = .ok (.iload_n 3, 1) := by decide +kernel
theorem dX7_put_72 : decode cX7_put 72 = .ok (.i2b, 1) := by decide +kernel
theorem dX7_put_73 : decode cX7_put 73 = .ok (.iastore, 1) := by decide +kernel
theorem dX7_put_74 : decode cX7_put 74 = .ok (.iload 4, 2) := by decide +kernel
theorem dX7_put_76 : decode cX7_put 76 = .ok (.sipush 1000, 3) := by decide +kernel
theorem dX7_put_79 : decode cX7_put 79 = .ok (.iadd, 1) := by decide +kernel
theorem dX7_put_80 : decode cX7_put 80 = .ok (.ireturn, 1) := by decide +kernel
set_option maxHeartbeats 200000 in
theorem bX7_put_0 {S : pv_S} {x1 x2 x3 : Int32} {a4 : Option Value} : pv_R mX7_put 0 [some (.ref 37), some (.int x1), some (.int x2), some (.int x3), a4] [] (pv_em S) = pv_cc (pv_R mX7_isText 0 [some (.int x1)] [] (pv_em S)) mX7_put 4 [some (.ref 37), some (.int x1), some (.int x2), some (.int x3), a4] [] := Eq.trans (pv_Rstp dX7_put_0 rfl rfl rfl) (pv_Rcall (As := [.int x1]) (rest := []) dX7_put_1 rfl mfX7_92 rfl rfl rfl rfl rfl)
set_option maxHeartbeats 200000 in
theorem bX7_put_4 {S : pv_S} {x1 x2 x3 u0 : Int32} {a4 : Option Value} : pv_R mX7_put 4 [some (.ref 37), some (.int x1), some (.int x2), some (.int x3), a4] [.int u0] (pv_em S) = if ¬ u0 = 0 then pv_R mX7_put 9 [some (.ref 37), some (.int x1), some (.int x2), some (.int x3), a4] [] (pv_em S) else pv_R mX7_put 7 [some (.ref 37), some (.int x1), some (.int x2), some (.int x3), a4] [] (pv_em S) := pv_Rbr (tgt := 9) dX7_put_4 rfl rfl rfl rfl rfl (by decide)
set_option maxHeartbeats 200000 in
theorem bX7_put_7 {S : pv_S} {x1 x2 x3 : Int32} {a4 : Option Value} : pv_R mX7_put 7 [some (.ref 37), some (.int x1), some (.int x2), some (.int x3), a4] [] (pv_em S) = some (some (.int (-1)), pv_em S) := Eq.trans (pv_Ric dX7_put_7 ki_m1) (pv_Rret dX7_put_8 rfl)
set_option maxHeartbeats 200000 in
theorem bX7_put_9 {S : pv_S} {x1 x2 x3 : Int32} {a4 : Option Value} : pv_R mX7_put 9 [some (.ref 37), some (.int x1), some (.int x2), some (.int x3), a4] [] (pv_em S) = if x1 < 0 ∨ 4 ≤ x1.toNatClampNeg then none else if 0 ≤ (S.1 40 x1.toNatClampNeg) then pv_R mX7_put 24 [some (.ref 37), some (.int x1), some (.int x2), some (.int x3), a4] [] (pv_em S) else pv_R mX7_put 18 [some (.ref 37), some (.int x1), some (.int x2), some (.int x3), a4] [] (pv_em S) := Eq.trans (pv_Rstp dX7_put_9 rfl rfl rfl) (Eq.trans (pv_Rget dX7_put_10 ffX7_16 (by decide) (pv_ce_37 _ _) rfl) (Eq.trans (pv_Rstp dX7_put_13 rfl rfl rfl) (Eq.trans (pv_Rald dX7_put_14 (by decide) (pv_ce_40 _ _)) (pv_iteN (fun h1 => pv_Rbr (tgt := 24) dX7_put_15 rfl rfl rfl rfl rfl (by decide))))))
set_option maxHeartbeats 200000 in
theorem bX7_put_18 {S : pv_S} {x1 x2 x3 : Int32} {a4 : Option Value} : pv_R mX7_put 18 [some (.ref 37), some (.int x1), some (.int x2), some (.int x3), a4] [] (pv_em S) = pv_cc (pv_R mX7_found 0 [some (.ref 37), some (.int 1)] [] (pv_em S)) mX7_put 23 [some (.ref 37), some (.int x1), some (.int x2), some (.int x3), a4] [] := Eq.trans (pv_Rstp dX7_put_18 rfl rfl rfl) (Eq.trans (pv_Ric dX7_put_19 ki_1) (pv_Rcall (As := [.ref 37, .int 1]) (rest := []) dX7_put_20 rfl mfX7_85 rfl rfl rfl rfl rfl))
set_option maxHeartbeats 200000 in
theorem bX7_put_23 {S : pv_S} {x1 x2 x3 u0 : Int32} {a4 : Option Value} : pv_R mX7_put 23 [some (.ref 37), some (.int x1), some (.int x2), some (.int x3), a4] [.int u0] (pv_em S) = some (some (.int u0), pv_em S) := pv_Rret dX7_put_23 rfl
set_option maxHeartbeats 200000 in
theorem bX7_put_24 {S : pv_S} {x1 x2 x3 : Int32} {a4 : Option Value} : pv_R mX7_put 24 [some (.ref 37), some (.int x1), some (.int x2), some (.int x3), a4] [] (pv_em S) = if x1 < 0 ∨ 4 ≤ x1.toNatClampNeg then none else pv_cc (pv_R mX7_in 0 [some (.long (Int32.toInt64 x2)), none, some (.long 0), none, some (.long (Int32.toInt64 ((S.1 40 x1.toNatClampNeg) - 1))), none] [] (pv_em S)) mX7_put 39 [some (.ref 37), some (.int x1), some (.int x2), some (.int x3), a4] [] := Eq.trans (pv_Rstp dX7_put_24 rfl rfl rfl) (Eq.trans (pv_Rstp dX7_put_25 rfl rfl rfl) (Eq.trans (pv_Rlc dX7_put_26 kl_0) (Eq.trans (pv_Rstp dX7_put_27 rfl rfl rfl) (Eq.trans (pv_Rget dX7_put_28 ffX7_16 (by decide) (pv_ce_37 _ _) rfl) (Eq.trans (pv_Rstp dX7_put_31 rfl rfl rfl) (Eq.trans (pv_Rald dX7_put_32 (by decide) (pv_ce_40 _ _)) (pv_iteN (fun h1 => Eq.trans (pv_Ric dX7_put_33 ki_1) (Eq.trans (pv_Rstp dX7_put_34 rfl rfl rfl) (Eq.trans (pv_Rstp dX7_put_35 rfl rfl rfl) (pv_Rcall (As := [.long (Int32.toInt64 x2), .long 0, .long (Int32.toInt64 ((S.1 40 x1.toNatClampNeg) - 1))]) (rest := []) dX7_put_36 rfl mfX7_75 rfl rfl rfl rfl rfl)))))))))))
set_option maxHeartbeats 200000 in
theorem bX7_put_39 {S : pv_S} {x1 x2 x3 u0 : Int32} {a4 : Option Value} : pv_R mX7_put 39 [some (.ref 37), some (.int x1), some (.int x2), some (.int x3), a4] [.int u0] (pv_em S) = if ¬ u0 = 0 then pv_R mX7_put 48 [some (.ref 37), some (.int x1), some (.int x2), some (.int x3), a4] [] (pv_em S) else pv_R mX7_put 42 [some (.ref 37), some (.int x1), some (.int x2), some (.int x3), a4] [] (pv_em S) := pv_Rbr (tgt := 48) dX7_put_39 rfl rfl rfl rfl rfl (by decide)
set_option maxHeartbeats 200000 in
theorem bX7_put_42 {S : pv_S} {x1 x2 x3 : Int32} {a4 : Option Value} : pv_R mX7_put 42 [some (.ref 37), some (.int x1), some (.int x2), some (.int x3), a4] [] (pv_em S) = pv_cc (pv_R mX7_found 0 [some (.ref 37), some (.int 2)] [] (pv_em S)) mX7_put 47 [some (.ref 37), some (.int x1), some (.int x2), some (.int x3), a4] [] := Eq.trans (pv_Rstp dX7_put_42 rfl rfl rfl) (Eq.trans (pv_Ric dX7_put_43 ki_2) (pv_Rcall (As := [.ref 37, .int 2]) (rest := []) dX7_put_44 rfl mfX7_85 rfl rfl rfl rfl rfl))
set_option maxHeartbeats 200000 in
theorem bX7_put_47 {S : pv_S} {x1 x2 x3 u0 : Int32} {a4 : Option Value} : pv_R mX7_put 47 [some (.ref 37), some (.int x1), some (.int x2), some (.int x3), a4] [.int u0] (pv_em S) = some (some (.int u0), pv_em S) := pv_Rret dX7_put_47 rfl
set_option maxHeartbeats 200000 in
theorem bX7_put_48 {S : pv_S} {x1 x2 x3 : Int32} {a4 : Option Value} : pv_R mX7_put 48 [some (.ref 37), some (.int x1), some (.int x2), some (.int x3), a4] [] (pv_em S) = if ((60 * x1) + x2) < 0 ∨ 240 ≤ (((60 * x1) + x2)).toNatClampNeg then none else if ((60 * x1) + x2) < 0 ∨ 240 ≤ (((60 * x1) + x2)).toNatClampNeg then none else some (some (.int ((S.1 41 (((60 * x1) + x2)).toNatClampNeg) + 1000)), pv_em (pv_si S 41 (((60 * x1) + x2)).toNatClampNeg (Int8.toInt32 (Int32.toInt8 x3)))) := Eq.trans (pv_Rstp dX7_put_48 rfl rfl rfl) (Eq.trans (pv_Rget dX7_put_49 ffX7_19 (by decide) (pv_ce_37 _ _) rfl) (Eq.trans (pv_Rbp dX7_put_52 kb_60) (Eq.trans (pv_Rstp dX7_put_54 rfl rfl rfl) (Eq.trans (pv_Rstp dX7_put_55 rfl rfl rfl) (Eq.trans (pv_Rstp dX7_put_56 rfl rfl rfl) (Eq.trans (pv_Rstp dX7_put_57 rfl rfl rfl) (Eq.trans (pv_Rald dX7_put_58 (by decide) (pv_ce_41 _ _)) (pv_iteN (fun h1 => Eq.trans (pv_Rstp dX7_put_59 rfl rfl rfl) (Eq.trans (pv_Rstp dX7_put_61 rfl rfl rfl) (Eq.trans (pv_Rget dX7_put_62 ffX7_19 (by decide) (pv_ce_37 _ _) rfl) (Eq.trans (pv_Rbp dX7_put_65 kb_60) (Eq.trans (pv_Rstp dX7_put_67 rfl rfl rfl) (Eq.trans (pv_Rstp dX7_put_68 rfl rfl rfl) (Eq.trans (pv_Rstp dX7_put_69 rfl rfl rfl) (Eq.trans (pv_Rstp dX7_put_70 rfl rfl rfl) (Eq.trans (pv_Rstp dX7_put_71 rfl rfl rfl) (Eq.trans (pv_Rstp dX7_put_72 rfl rfl rfl) (Eq.trans (pv_Rast dX7_put_73 (by decide) (pv_ce_41 _ _) (pv_em_si rfl)) (pv_iteN (fun h2 => Eq.trans (pv_Rstp dX7_put_74 rfl rfl rfl) (Eq.trans (pv_Rsp dX7_put_76 ks_1000) (Eq.trans (pv_Rstp dX7_put_79 rfl rfl rfl) (pv_Rret dX7_put_80 rfl))))))))))))))))))))))))
theorem dX7_fault_0 : decode cX7_fault 0 = .ok (.iload_n 1, 1) := by decide +kernel
theorem dX7_fault_1 : decode cX7_fault 1 = .ok (.invokestatic 92, 3) := by decide +kernel
theorem dX7_fault_4 : decode cX7_fault 4 = .ok (.ifCond .ne 5, 3) := by decide +kernel
theorem dX7_fault_7 : decode cX7_fault 7 = .ok (.iconst (-1), 1) := by decide +kernel
theorem dX7_fault_8 : decode cX7_fault 8 = .ok (.ireturn, 1) := by decide +kernel
theorem dX7_fault_9 : decode cX7_fault 9 = .ok (.aload_n 0, 1) := by decide +kernel
theorem dX7_fault_10 : decode cX7_fault 10 = .ok (.getfield 16, 3) := by decide +kernel
theorem dX7_fault_13 : decode cX7_fault 13 = .ok (.iload_n 1, 1) := by decide +kernel
theorem dX7_fault_14 : decode cX7_fault 14 = .ok (.iaload, 1) := by decide +kernel
theorem dX7_fault_15 : decode cX7_fault 15 = .ok (.ifCond .ge 11, 3) := by decide +kernel
theorem dX7_fault_18 : decode cX7_fault 18 = .ok (.aload_n 0, 1) := by decide +kernel
theorem dX7_fault_19 : decode cX7_fault 19 = .ok (.iconst 1, 1) := by decide +kernel
theorem dX7_fault_20 : decode cX7_fault 20 = .ok (.invokevirtual 85, 3) := by decide +kernel
theorem dX7_fault_23 : decode cX7_fault 23 = .ok (.goto 8, 3) := by decide +kernel
theorem dX7_fault_26 : decode cX7_fault 26 = .ok (.aload_n 0, 1) := by decide +kernel
theorem dX7_fault_27 : decode cX7_fault 27 = .ok (.iload_n 1, 1) := by decide +kernel
theorem dX7_fault_28 : decode cX7_fault 28 = .ok (.invokevirtual 135, 3) := by decide +kernel
theorem dX7_fault_31 : decode cX7_fault 31 = .ok (.ireturn, 1) := by decide +kernel
set_option maxHeartbeats 200000 in
theorem bX7_fault_0 {S : pv_S} {x1 : Int32} : pv_R mX7_fault 0 [some (.ref 37), some (.int x1)] [] (pv_em S) = pv_cc (pv_R mX7_isText 0 [some (.int x1)] [] (pv_em S)) mX7_fault 4 [some (.ref 37), some (.int x1)] [] := Eq.trans (pv_Rstp dX7_fault_0 rfl rfl rfl) (pv_Rcall (As := [.int x1]) (rest := []) dX7_fault_1 rfl mfX7_92 rfl rfl rfl rfl rfl)
set_option maxHeartbeats 200000 in
theorem bX7_fault_4 {S : pv_S} {x1 u0 : Int32} : pv_R mX7_fault 4 [some (.ref 37), some (.int x1)] [.int u0] (pv_em S) = if ¬ u0 = 0 then pv_R mX7_fault 9 [some (.ref 37), some (.int x1)] [] (pv_em S) else pv_R mX7_fault 7 [some (.ref 37), some (.int x1)] [] (pv_em S) := pv_Rbr (tgt := 9) dX7_fault_4 rfl rfl rfl rfl rfl (by decide)
set_option maxHeartbeats 200000 in
theorem bX7_fault_7 {S : pv_S} {x1 : Int32} : pv_R mX7_fault 7 [some (.ref 37), some (.int x1)] [] (pv_em S) = some (some (.int (-1)), pv_em S) := Eq.trans (pv_Ric dX7_fault_7 ki_m1) (pv_Rret dX7_fault_8 rfl)
set_option maxHeartbeats 200000 in
theorem bX7_fault_9 {S : pv_S} {x1 : Int32} : pv_R mX7_fault 9 [some (.ref 37), some (.int x1)] [] (pv_em S) = if x1 < 0 ∨ 4 ≤ x1.toNatClampNeg then none else if 0 ≤ (S.1 40 x1.toNatClampNeg) then pv_R mX7_fault 26 [some (.ref 37), some (.int x1)] [] (pv_em S) else pv_R mX7_fault 18 [some (.ref 37), some (.int x1)] [] (pv_em S) := Eq.trans (pv_Rstp dX7_fault_9 rfl rfl rfl) (Eq.trans (pv_Rget dX7_fault_10 ffX7_16 (by decide) (pv_ce_37 _ _) rfl) (Eq.trans (pv_Rstp dX7_fault_13 rfl rfl rfl) (Eq.trans (pv_Rald dX7_fault_14 (by decide) (pv_ce_40 _ _)) (pv_iteN (fun h1 => pv_Rbr (tgt := 26) dX7_fault_15 rfl rfl rfl rfl rfl (by decide))))))
set_option maxHeartbeats 200000 in
theorem bX7_fault_18 {S : pv_S} {x1 : Int32} : pv_R mX7_fault 18 [some (.ref 37), some (.int x1)] [] (pv_em S) = pv_cc (pv_R mX7_found 0 [some (.ref 37), some (.int 1)] [] (pv_em S)) mX7_fault 23 [some (.ref 37), some (.int x1)] [] := Eq.trans (pv_Rstp dX7_fault_18 rfl rfl rfl) (Eq.trans (pv_Ric dX7_fault_19 ki_1) (pv_Rcall (As := [.ref 37, .int 1]) (rest := []) dX7_fault_20 rfl mfX7_85 rfl rfl rfl rfl rfl))
set_option maxHeartbeats 200000 in
theorem bX7_fault_23 {S : pv_S} {x1 u0 : Int32} : pv_R mX7_fault 23 [some (.ref 37), some (.int x1)] [.int u0] (pv_em S) = pv_R mX7_fault 31 [some (.ref 37), some (.int x1)] [.int u0] (pv_em S) := pv_Rgo (tgt := 31) dX7_fault_23 rfl (by decide)
set_option maxHeartbeats 200000 in
theorem bX7_fault_26 {S : pv_S} {x1 : Int32} : pv_R mX7_fault 26 [some (.ref 37), some (.int x1)] [] (pv_em S) = pv_cc (pv_R mX7_faultOf 0 [some (.ref 37), some (.int x1), none] [] (pv_em S)) mX7_fault 31 [some (.ref 37), some (.int x1)] [] := Eq.trans (pv_Rstp dX7_fault_26 rfl rfl rfl) (Eq.trans (pv_Rstp dX7_fault_27 rfl rfl rfl) (pv_Rcall (As := [.ref 37, .int x1]) (rest := []) dX7_fault_28 rfl mfX7_135 rfl rfl rfl rfl rfl))
set_option maxHeartbeats 200000 in
theorem bX7_fault_31 {S : pv_S} {x1 u0 : Int32} : pv_R mX7_fault 31 [some (.ref 37), some (.int x1)] [.int u0] (pv_em S) = some (some (.int u0), pv_em S) := pv_Rret dX7_fault_31 rfl
theorem dX7_town_0 : decode cX7_town 0 = .ok (.iload_n 1, 1) := by decide +kernel
theorem dX7_town_1 : decode cX7_town 1 = .ok (.invokestatic 92, 3) := by decide +kernel
theorem dX7_town_4 : decode cX7_town 4 = .ok (.ifCond .ne 5, 3) := by decide +kernel
theorem dX7_town_7 : decode cX7_town 7 = .ok (.iconst (-1), 1) := by decide +kernel
theorem dX7_town_8 : decode cX7_town 8 = .ok (.ireturn, 1) := by decide +kernel
theorem dX7_town_9 : decode cX7_town 9 = .ok (.aload_n 0, 1) := by decide +kernel
theorem dX7_town_10 : decode cX7_town 10 = .ok (.getfield 16, 3) := by decide +kernel
theorem dX7_town_13 : decode cX7_town 13 = .ok (.iload_n 1, 1) := by decide +kernel
theorem dX7_town_14 : decode cX7_town 14 = .ok (.iaload, 1) := by decide +kernel
theorem dX7_town_15 : decode cX7_town 15 = .ok (.ifCond .ge 9, 3) := by decide +kernel
theorem dX7_town_18 : decode cX7_town 18 = .ok (.aload_n 0, 1) := by decide +kernel
theorem dX7_town_19 : decode cX7_town 19 = .ok (.iconst 1, 1) := by decide +kernel
theorem dX7_town_20 : decode cX7_town 20 = .ok (.invokevirtual 85, 3) := by decide +kernel
theorem dX7_town_23 : decode cX7_town 23 = .ok (.ireturn, 1) := by decide +kernel
theorem dX7_town_24 : decode cX7_town 24 = .ok (.aload_n 0, 1) := by decide +kernel
theorem dX7_town_25 : decode cX7_town 25 = .ok (.iload_n 1, 1) := by decide +kernel
theorem dX7_town_26 : decode cX7_town 26 = .ok (.invokevirtual 135, 3) := by decide +kernel
theorem dX7_town_29 : decode cX7_town 29 = .ok (.bipush (-9), 2) := by decide +kernel
theorem dX7_town_31 : decode cX7_town 31 = .ok (.if_icmp .eq 6, 3) := by decide +kernel
theorem dX7_town_34 : decode cX7_town 34 = .ok (.bipush (-4), 2) := by decide +kernel
theorem dX7_town_36 : decode cX7_town 36 = .ok (.ireturn, 1) := by decide +kernel
theorem dX7_town_37 : decode cX7_town 37 = .ok (.aload_n 0, 1) := by decide +kernel
theorem dX7_town_38 : decode cX7_town 38 = .ok (.aload_n 0, 1) := by decide +kernel
theorem dX7_town_39 : decode cX7_town 39 = .ok (.getfield 122, 3) := by decide +kernel
theorem dX7_town_42 : decode cX7_town 42 = .ok (.putfield 138, 3) := by decide +kernel
theorem dX7_town_45 : decode cX7_town 45 = .ok (.aload_n 0, 1) := by decide +kernel
theorem dX7_town_46 : decode cX7_town 46 = .ok (.aload_n 0, 1) := by decide +kernel
theorem dX7_town_47 : decode cX7_town 47 = .ok (.getfield 116, 3) := by decide +kernel
theorem dX7_town_50 : decode cX7_town 50 = .ok (.putfield 141, 3) := by decide +kernel
theorem dX7_town_53 : decode cX7_town 53 = .ok (.iconst 0, 1) := by decide +kernel
theorem dX7_town_54 : decode cX7_town 54 = .ok (.istore_n 2, 1) := by decide +kernel
theorem dX7_town_55 : decode cX7_town 55 = .ok (.iload_n 2, 1) := by decide +kernel
theorem dX7_town_56 : decode cX7_town 56 = .ok (.bipush 10, 2) := by decide +kernel
theorem dX7_town_58 : decode cX7_town 58 = .ok (.if_icmp .ge 16, 3) := by decide +kernel
theorem dX7_town_61 : decode cX7_town 61 = .ok (.aload_n 0, 1) := by decide +kernel
theorem dX7_town_62 : decode cX7_town 62 = .ok (.getfield 28, 3) := by decide +kernel
theorem dX7_town_65 : decode cX7_town 65 = .ok (.iload_n 2, 1) := by decide +kernel
theorem dX7_town_66 : decode cX7_town 66 = .ok (.iconst 0, 1) := by decide +kernel
theorem dX7_town_67 : decode cX7_town 67 = .ok (.iastore, 1) := by decide +kernel
theorem dX7_town_68 : decode cX7_town 68 = .ok (.iinc 2 1, 3) := by decide +kernel
theorem dX7_town_71 : decode cX7_town 71 = .ok (.goto (-16), 3) := by decide +kernel
theorem dX7_town_74 : decode cX7_town 74 = .ok (.iconst 0, 1) := by decide +kernel
theorem dX7_town_75 : decode cX7_town 75 = .ok (.istore_n 2, 1) := by decide +kernel
theorem dX7_town_76 : decode cX7_town 76 = .ok (.iload_n 2, 1) := by decide +kernel
theorem dX7_town_77 : decode cX7_town 77 = .ok (.aload_n 0, 1) := by decide +kernel
theorem dX7_town_78 : decode cX7_town 78 = .ok (.getfield 138, 3) := by decide +kernel
theorem dX7_town_81 : decode cX7_town 81 = .ok (.if_icmp .ge 57, 3) := by decide +kernel
theorem dX7_town_84 : decode cX7_town 84 = .ok (.aload_n 0, 1) := by decide +kernel
theorem dX7_town_85 : decode cX7_town 85 = .ok (.getfield 22, 3) := by decide +kernel
theorem dX7_town_88 : decode cX7_town 88 = .ok (.iload_n 2, 1) := by decide +kernel
theorem dX7_town_89 : decode cX7_town 89 = .ok (.aload_n 0, 1) := by decide +kernel
theorem dX7_town_90 : decode cX7_town 90 = .ok (.getfield 48, 3) := by decide +kernel
theorem dX7_town_93 : decode cX7_town 93 = .ok (.iconst 3, 1) := by decide +kernel
theorem dX7_town_94 : decode cX7_town 94 = .ok (.iload_n 2, 1) := by decide +kernel
theorem dX7_town_95 : decode cX7_town 95 = .ok (.imul, 1) := by decide +kernel
theorem dX7_town_96 : decode cX7_town 96 = .ok (.iaload, 1) := by decide +kernel
theorem dX7_town_97 : decode cX7_town 97 = .ok (.iastore, 1) := by decide +kernel
theorem dX7_town_98 : decode cX7_town 98 = .ok (.aload_n 0, 1) := by decide +kernel
theorem dX7_town_99 : decode cX7_town 99 = .ok (.getfield 28, 3) := by decide +kernel
theorem dX7_town_102 : decode cX7_town 102 = .ok (.iconst 0, 1) := by decide +kernel
theorem dX7_town_103 : decode cX7_town 103 = .ok (.iload_n 2, 1) := by decide +kernel
theorem dX7_town_104 : decode cX7_town 104 = .ok (.iadd, 1) := by decide +kernel
theorem dX7_town_105 : decode cX7_town 105 = .ok (.aload_n 0, 1) := by decide +kernel
theorem dX7_town_106 : decode cX7_town 106 = .ok (.getfield 48, 3) := by decide +kernel
theorem dX7_town_109 : decode cX7_town 109 = .ok (.iconst 3, 1) := by decide +kernel
theorem dX7_town_110 : decode cX7_town 110 = .ok (.iload_n 2, 1) := by decide +kernel
theorem dX7_town_111 : decode cX7_town 111 = .ok (.imul, 1) := by decide +kernel
theorem dX7_town_112 : decode cX7_town 112 = .ok (.iconst 1, 1) := by decide +kernel
theorem dX7_town_113 : decode cX7_town 113 = .ok (.iadd, 1) := by decide +kernel
theorem dX7_town_114 : decode cX7_town 114 = .ok (.iaload, 1) := by decide +kernel
theorem dX7_town_115 : decode cX7_town 115 = .ok (.iastore, 1) := by decide +kernel
theorem dX7_town_116 : decode cX7_town 116 = .ok (.aload_n 0, 1) := by decide +kernel
theorem dX7_town_117 : decode cX7_town 117 = .ok (.getfield 25, 3) := by decide +kernel
theorem dX7_town_120 : decode cX7_town 120 = .ok (.iload_n 2, 1) := by decide +kernel
theorem dX7_town_121 : decode cX7_town 121 = .ok (.aload_n 0, 1) := by decide +kernel
theorem dX7_town_122 : decode cX7_town 122 = .ok (.getfield 48, 3) := by decide +kernel
theorem dX7_town_125 : decode cX7_town 125 = .ok (.iconst 3, 1) := by decide +kernel
theorem dX7_town_126 : decode cX7_town 126 = .ok (.iload_n 2, 1) := by decide +kernel
theorem dX7_town_127 : decode cX7_town 127 = .ok (.imul, 1) := by decide +kernel
theorem dX7_town_128 : decode cX7_town 128 = .ok (.iconst 2, 1) := by decide +kernel
theorem dX7_town_129 : decode cX7_town 129 = .ok (.iadd, 1) := by decide +kernel
theorem dX7_town_130 : decode cX7_town 130 = .ok (.iaload, 1) := by decide +kernel
theorem dX7_town_131 : decode cX7_town 131 = .ok (.iastore, 1) := by decide +kernel
theorem dX7_town_132 : decode cX7_town 132 = .ok (.iinc 2 1, 3) := by decide +kernel
theorem dX7_town_135 : decode cX7_town 135 = .ok (.goto (-59), 3) := by decide +kernel
theorem dX7_town_138 : decode cX7_town 138 = .ok (.aload_n 0, 1) := by decide +kernel
theorem dX7_town_139 : decode cX7_town 139 = .ok (.iconst 0, 1) := by decide +kernel
theorem dX7_town_140 : decode cX7_town 140 = .ok (.putfield 144, 3) := by decide +kernel
theorem dX7_town_143 : decode cX7_town 143 = .ok (.iconst 0, 1) := by decide +kernel
theorem dX7_town_144 : decode cX7_town 144 = .ok (.istore_n 2, 1) := by decide +kernel
theorem dX7_town_145 : decode cX7_town 145 = .ok (.iload_n 2, 1) := by decide +kernel
theorem dX7_town_146 : decode cX7_town 146 = .ok (.iconst 3, 1) := by decide +kernel
theorem dX7_town_147 : decode cX7_town 147 = .ok (.if_icmp .ge 16, 3) := by decide +kernel
theorem dX7_town_150 : decode cX7_town 150 = .ok (.aload_n 0, 1) := by decide +kernel
theorem dX7_town_151 : decode cX7_town 151 = .ok (.getfield 37, 3) := by decide +kernel
theorem dX7_town_154 : decode cX7_town 154 = .ok (.iload_n 2, 1) := by decide +kernel
theorem dX7_town_155 : decode cX7_town 155 = .ok (.iconst 0, 1) := by decide +kernel
theorem dX7_town_156 : decode cX7_town 156 = .ok (.bastore, 1) := by decide +kernel
theorem dX7_town_157 : decode cX7_town 157 = .ok (.iinc 2 1, 3) := by decide +kernel
theorem dX7_town_160 : decode cX7_town 160 = .ok (.goto (-15), 3) := by decide +kernel
theorem dX7_town_163 : decode cX7_town 163 = .ok (.aload_n 0, 1) := by decide +kernel
theorem dX7_town_164 : decode cX7_town 164 = .ok (.getfield 138, 3) := by decide +kernel
theorem dX7_town_167 : decode cX7_town 167 = .ok (.ireturn, 1) := by decide +kernel
set_option maxHeartbeats 200000 in
theorem bX7_town_0 {S : pv_S} {x1 : Int32} {a2 : Option Value} : pv_R mX7_town 0 [some (.ref 37), some (.int x1), a2] [] (pv_em S) = pv_cc (pv_R mX7_isText 0 [some (.int x1)] [] (pv_em S)) mX7_town 4 [some (.ref 37), some (.int x1), a2] [] := Eq.trans (pv_Rstp dX7_town_0 rfl rfl rfl) (pv_Rcall (As := [.int x1]) (rest := []) dX7_town_1 rfl mfX7_92 rfl rfl rfl rfl rfl)
set_option maxHeartbeats 200000 in
theorem bX7_town_4 {S : pv_S} {x1 u0 : Int32} {a2 : Option Value} : pv_R mX7_town 4 [some (.ref 37), some (.int x1), a2] [.int u0] (pv_em S) = if ¬ u0 = 0 then pv_R mX7_town 9 [some (.ref 37), some (.int x1), a2] [] (pv_em S) else pv_R mX7_town 7 [some (.ref 37), some (.int x1), a2] [] (pv_em S) := pv_Rbr (tgt := 9) dX7_town_4 rfl rfl rfl rfl rfl (by decide)
set_option maxHeartbeats 200000 in
theorem bX7_town_7 {S : pv_S} {x1 : Int32} {a2 : Option Value} : pv_R mX7_town 7 [some (.ref 37), some (.int x1), a2] [] (pv_em S) = some (some (.int (-1)), pv_em S) := Eq.trans (pv_Ric dX7_town_7 ki_m1) (pv_Rret dX7_town_8 rfl)
set_option maxHeartbeats 200000 in
theorem bX7_town_9 {S : pv_S} {x1 : Int32} {a2 : Option Value} : pv_R mX7_town 9 [some (.ref 37), some (.int x1), a2] [] (pv_em S) = if x1 < 0 ∨ 4 ≤ x1.toNatClampNeg then none else if 0 ≤ (S.1 40 x1.toNatClampNeg) then pv_R mX7_town 24 [some (.ref 37), some (.int x1), a2] [] (pv_em S) else pv_R mX7_town 18 [some (.ref 37), some (.int x1), a2] [] (pv_em S) := Eq.trans (pv_Rstp dX7_town_9 rfl rfl rfl) (Eq.trans (pv_Rget dX7_town_10 ffX7_16 (by decide) (pv_ce_37 _ _) rfl) (Eq.trans (pv_Rstp dX7_town_13 rfl rfl rfl) (Eq.trans (pv_Rald dX7_town_14 (by decide) (pv_ce_40 _ _)) (pv_iteN (fun h1 => pv_Rbr (tgt := 24) dX7_town_15 rfl rfl rfl rfl rfl (by decide))))))
set_option maxHeartbeats 200000 in
theorem bX7_town_18 {S : pv_S} {x1 : Int32} {a2 : Option Value} : pv_R mX7_town 18 [some (.ref 37), some (.int x1), a2] [] (pv_em S) = pv_cc (pv_R mX7_found 0 [some (.ref 37), some (.int 1)] [] (pv_em S)) mX7_town 23 [some (.ref 37), some (.int x1), a2] [] := Eq.trans (pv_Rstp dX7_town_18 rfl rfl rfl) (Eq.trans (pv_Ric dX7_town_19 ki_1) (pv_Rcall (As := [.ref 37, .int 1]) (rest := []) dX7_town_20 rfl mfX7_85 rfl rfl rfl rfl rfl))
set_option maxHeartbeats 200000 in
theorem bX7_town_23 {S : pv_S} {x1 u0 : Int32} {a2 : Option Value} : pv_R mX7_town 23 [some (.ref 37), some (.int x1), a2] [.int u0] (pv_em S) = some (some (.int u0), pv_em S) := pv_Rret dX7_town_23 rfl
set_option maxHeartbeats 200000 in
theorem bX7_town_24 {S : pv_S} {x1 : Int32} {a2 : Option Value} : pv_R mX7_town 24 [some (.ref 37), some (.int x1), a2] [] (pv_em S) = pv_cc (pv_R mX7_faultOf 0 [some (.ref 37), some (.int x1), none] [] (pv_em S)) mX7_town 29 [some (.ref 37), some (.int x1), a2] [] := Eq.trans (pv_Rstp dX7_town_24 rfl rfl rfl) (Eq.trans (pv_Rstp dX7_town_25 rfl rfl rfl) (pv_Rcall (As := [.ref 37, .int x1]) (rest := []) dX7_town_26 rfl mfX7_135 rfl rfl rfl rfl rfl))
set_option maxHeartbeats 200000 in
theorem bX7_town_29 {S : pv_S} {x1 u0 : Int32} {a2 : Option Value} : pv_R mX7_town 29 [some (.ref 37), some (.int x1), a2] [.int u0] (pv_em S) = if u0 = (-9) then pv_R mX7_town 37 [some (.ref 37), some (.int x1), a2] [] (pv_em S) else pv_R mX7_town 34 [some (.ref 37), some (.int x1), a2] [] (pv_em S) := Eq.trans (pv_Rbp dX7_town_29 kb_m9) (pv_Rbr (tgt := 37) dX7_town_31 rfl rfl rfl rfl rfl (by decide))
set_option maxHeartbeats 200000 in
theorem bX7_town_34 {S : pv_S} {x1 : Int32} {a2 : Option Value} : pv_R mX7_town 34 [some (.ref 37), some (.int x1), a2] [] (pv_em S) = some (some (.int (-4)), pv_em S) := Eq.trans (pv_Rbp dX7_town_34 kb_m4) (pv_Rret dX7_town_36 rfl)
set_option maxHeartbeats 200000 in
theorem bX7_town_37 {S : pv_S} {x1 : Int32} {a2 : Option Value} : pv_R mX7_town 37 [some (.ref 37), some (.int x1), a2] [] (pv_em S) = pv_R mX7_town 55 [some (.ref 37), some (.int x1), some (.int 0)] [] (pv_em (pv_si (pv_si S 37 4 (S.1 37 20)) 37 5 ((pv_si S 37 4 (S.1 37 20)).1 37 19))) := Eq.trans (pv_Rstp dX7_town_37 rfl rfl rfl) (Eq.trans (pv_Rstp dX7_town_38 rfl rfl rfl) (Eq.trans (pv_Rget dX7_town_39 ffX7_122 (by decide) (pv_ce_37 _ _) rfl) (Eq.trans (pv_Rput dX7_town_42 ffX7_138 rfl rfl rfl (by decide) (pv_ce_37 _ _) (Nat.le_of_ble_eq_true rfl) (pv_em_si rfl)) (Eq.trans (pv_Rstp dX7_town_45 rfl rfl rfl) (Eq.trans (pv_Rstp dX7_town_46 rfl rfl rfl) (Eq.trans (pv_Rget dX7_town_47 ffX7_116 (by decide) (pv_ce_37 _ _) rfl) (Eq.trans (pv_Rput dX7_town_50 ffX7_141 rfl rfl rfl (by decide) (pv_ce_37 _ _) (Nat.le_of_ble_eq_true rfl) (pv_em_si rfl)) (Eq.trans (pv_Ric dX7_town_53 ki_0) (pv_Rstp dX7_town_54 rfl rfl rfl)))))))))
set_option maxHeartbeats 200000 in
theorem bX7_town_55 {S : pv_S} {x1 x2 : Int32} : pv_R mX7_town 55 [some (.ref 37), some (.int x1), some (.int x2)] [] (pv_em S) = if 10 ≤ x2 then pv_R mX7_town 74 [some (.ref 37), some (.int x1), some (.int x2)] [] (pv_em S) else pv_R mX7_town 61 [some (.ref 37), some (.int x1), some (.int x2)] [] (pv_em S) := Eq.trans (pv_Rstp dX7_town_55 rfl rfl rfl) (Eq.trans (pv_Rbp dX7_town_56 kb_10) (pv_Rbr (tgt := 74) dX7_town_58 rfl rfl rfl rfl rfl (by decide)))
set_option maxHeartbeats 200000 in
theorem bX7_town_61 {S : pv_S} {x1 x2 : Int32} : pv_R mX7_town 61 [some (.ref 37), some (.int x1), some (.int x2)] [] (pv_em S) = if x2 < 0 ∨ 10 ≤ x2.toNatClampNeg then none else pv_R mX7_town 55 [some (.ref 37), some (.int x1), some (.int (x2 + 1))] [] (pv_em (pv_si S 44 x2.toNatClampNeg 0)) := Eq.trans (pv_Rstp dX7_town_61 rfl rfl rfl) (Eq.trans (pv_Rget dX7_town_62 ffX7_28 (by decide) (pv_ce_37 _ _) rfl) (Eq.trans (pv_Rstp dX7_town_65 rfl rfl rfl) (Eq.trans (pv_Ric dX7_town_66 ki_0) (Eq.trans (pv_Rast dX7_town_67 (by decide) (pv_ce_44 _ _) (pv_em_si rfl)) (pv_iteN (fun h1 => Eq.trans (pv_Rinc dX7_town_68 rfl (Nat.le_of_ble_eq_true rfl) ki_1 rfl) (pv_Rgo (tgt := 55) dX7_town_71 rfl (by decide))))))))
set_option maxHeartbeats 200000 in
theorem bX7_town_74 {S : pv_S} {x1 x2 : Int32} : pv_R mX7_town 74 [some (.ref 37), some (.int x1), some (.int x2)] [] (pv_em S) = pv_R mX7_town 76 [some (.ref 37), some (.int x1), some (.int 0)] [] (pv_em S) := Eq.trans (pv_Ric dX7_town_74 ki_0) (pv_Rstp dX7_town_75 rfl rfl rfl)
set_option maxHeartbeats 200000 in
theorem bX7_town_76 {S : pv_S} {x1 x2 : Int32} : pv_R mX7_town 76 [some (.ref 37), some (.int x1), some (.int x2)] [] (pv_em S) = if (S.1 37 4) ≤ x2 then pv_R mX7_town 138 [some (.ref 37), some (.int x1), some (.int x2)] [] (pv_em S) else pv_R mX7_town 84 [some (.ref 37), some (.int x1), some (.int x2)] [] (pv_em S) := Eq.trans (pv_Rstp dX7_town_76 rfl rfl rfl) (Eq.trans (pv_Rstp dX7_town_77 rfl rfl rfl) (Eq.trans (pv_Rget dX7_town_78 ffX7_138 (by decide) (pv_ce_37 _ _) rfl) (pv_Rbr (tgt := 138) dX7_town_81 rfl rfl rfl rfl rfl (by decide))))
set_option maxHeartbeats 200000 in
theorem bX7_town_84 {S : pv_S} {x1 x2 : Int32} : pv_R mX7_town 84 [some (.ref 37), some (.int x1), some (.int x2)] [] (pv_em S) = if (3 * x2) < 0 ∨ 18 ≤ (3 * x2).toNatClampNeg then none else if x2 < 0 ∨ 6 ≤ x2.toNatClampNeg then none else if ((3 * x2) + 1) < 0 ∨ 18 ≤ (((3 * x2) + 1)).toNatClampNeg then none else if (0 + x2) < 0 ∨ 10 ≤ (0 + x2).toNatClampNeg then none else if ((3 * x2) + 2) < 0 ∨ 18 ≤ (((3 * x2) + 2)).toNatClampNeg then none else if x2 < 0 ∨ 6 ≤ x2.toNatClampNeg then none else pv_R mX7_town 76 [some (.ref 37), some (.int x1), some (.int (x2 + 1))] [] (pv_em (pv_si (pv_si (pv_si S 42 x2.toNatClampNeg (S.1 49 (3 * x2).toNatClampNeg)) 44 (0 + x2).toNatClampNeg ((pv_si S 42 x2.toNatClampNeg (S.1 49 (3 * x2).toNatClampNeg)).1 49 (((3 * x2) + 1)).toNatClampNeg)) 43 x2.toNatClampNeg ((pv_si (pv_si S 42 x2.toNatClampNeg (S.1 49 (3 * x2).toNatClampNeg)) 44 (0 + x2).toNatClampNeg ((pv_si S 42 x2.toNatClampNeg (S.1 49 (3 * x2).toNatClampNeg)).1 49 (((3 * x2) + 1)).toNatClampNeg)).1 49 (((3 * x2) + 2)).toNatClampNeg))) := Eq.trans (pv_Rstp dX7_town_84 rfl rfl rfl) (Eq.trans (pv_Rget dX7_town_85 ffX7_22 (by decide) (pv_ce_37 _ _) rfl) (Eq.trans (pv_Rstp dX7_town_88 rfl rfl rfl) (Eq.trans (pv_Rstp dX7_town_89 rfl rfl rfl) (Eq.trans (pv_Rget dX7_town_90 ffX7_48 (by decide) (pv_ce_37 _ _) rfl) (Eq.trans (pv_Ric dX7_town_93 ki_3) (Eq.trans (pv_Rstp dX7_town_94 rfl rfl rfl) (Eq.trans (pv_Rstp dX7_town_95 rfl rfl rfl) (Eq.trans (pv_Rald dX7_town_96 (by decide) (pv_ce_49 _ _)) (pv_iteN (fun h1 => Eq.trans (pv_Rast dX7_town_97 (by decide) (pv_ce_42 _ _) (pv_em_si rfl)) (pv_iteN (fun h2 => Eq.trans (pv_Rstp dX7_town_98 rfl rfl rfl) (Eq.trans (pv_Rget dX7_town_99 ffX7_28 (by decide) (pv_ce_37 _ _) rfl) (Eq.trans (pv_Ric dX7_town_102 ki_0) (Eq.trans (pv_Rstp dX7_town_103 rfl rfl rfl) (Eq.trans (pv_Rstp dX7_town_104 rfl rfl rfl) (Eq.trans (pv_Rstp dX7_town_105 rfl rfl rfl) (Eq.trans (pv_Rget dX7_town_106 ffX7_48 (by decide) (pv_ce_37 _ _) rfl) (Eq.trans (pv_Ric dX7_town_109 ki_3) (Eq.trans (pv_Rstp dX7_town_110 rfl rfl rfl) (Eq.trans (pv_Rstp dX7_town_111 rfl rfl rfl) (Eq.trans (pv_Ric dX7_town_112 ki_1) (Eq.trans (pv_Rstp dX7_town_113 rfl rfl rfl) (Eq.trans (pv_Rald dX7_town_114 (by decide) (pv_ce_49 _ _)) (pv_iteN (fun h3 => Eq.trans (pv_Rast dX7_town_115 (by decide) (pv_ce_44 _ _) (pv_em_si rfl)) (pv_iteN (fun h4 => Eq.trans (pv_Rstp dX7_town_116 rfl rfl rfl) (Eq.trans (pv_Rget dX7_town_117 ffX7_25 (by decide) (pv_ce_37 _ _) rfl) (Eq.trans (pv_Rstp dX7_town_120 rfl rfl rfl) (Eq.trans (pv_Rstp dX7_town_121 rfl rfl rfl) (Eq.trans (pv_Rget dX7_town_122 ffX7_48 (by decide) (pv_ce_37 _ _) rfl) (Eq.trans (pv_Ric dX7_town_125 ki_3) (Eq.trans (pv_Rstp dX7_town_126 rfl rfl rfl) (Eq.trans (pv_Rstp dX7_town_127 rfl rfl rfl) (Eq.trans (pv_Ric dX7_town_128 ki_2) (Eq.trans (pv_Rstp dX7_town_129 rfl rfl rfl) (Eq.trans (pv_Rald dX7_town_130 (by decide) (pv_ce_49 _ _)) (pv_iteN (fun h5 => Eq.trans (pv_Rast dX7_town_131 (by decide) (pv_ce_43 _ _) (pv_em_si rfl)) (pv_iteN (fun h6 => Eq.trans (pv_Rinc dX7_town_132 rfl (Nat.le_of_ble_eq_true rfl) ki_1 rfl) (pv_Rgo (tgt := 76) dX7_town_135 rfl (by decide))))))))))))))))))))))))))))))))))))))))))))
set_option maxHeartbeats 200000 in
theorem bX7_town_138 {S : pv_S} {x1 x2 : Int32} : pv_R mX7_town 138 [some (.ref 37), some (.int x1), some (.int x2)] [] (pv_em S) = pv_R mX7_town 145 [some (.ref 37), some (.int x1), some (.int 0)] [] (pv_em (pv_si S 37 9 0)) := Eq.trans (pv_Rstp dX7_town_138 rfl rfl rfl) (Eq.trans (pv_Ric dX7_town_139 ki_0) (Eq.trans (pv_Rput dX7_town_140 ffX7_144 rfl rfl rfl (by decide) (pv_ce_37 _ _) (Nat.le_of_ble_eq_true rfl) (pv_em_si rfl)) (Eq.trans (pv_Ric dX7_town_143 ki_0) (pv_Rstp dX7_town_144 rfl rfl rfl))))
set_option maxHeartbeats 200000 in
theorem bX7_town_145 {S : pv_S} {x1 x2 : Int32} : pv_R mX7_town 145 [some (.ref 37), some (.int x1), some (.int x2)] [] (pv_em S) = if 3 ≤ x2 then pv_R mX7_town 163 [some (.ref 37), some (.int x1), some (.int x2)] [] (pv_em S) else pv_R mX7_town 150 [some (.ref 37), some (.int x1), some (.int x2)] [] (pv_em S) := Eq.trans (pv_Rstp dX7_town_145 rfl rfl rfl) (Eq.trans (pv_Ric dX7_town_146 ki_3) (pv_Rbr (tgt := 163) dX7_town_147 rfl rfl rfl rfl rfl (by decide)))
set_option maxHeartbeats 200000 in
theorem bX7_town_150 {S : pv_S} {x1 x2 : Int32} : pv_R mX7_town 150 [some (.ref 37), some (.int x1), some (.int x2)] [] (pv_em S) = if x2 < 0 ∨ 3 ≤ x2.toNatClampNeg then none else pv_R mX7_town 145 [some (.ref 37), some (.int x1), some (.int (x2 + 1))] [] (pv_em (pv_si S 47 x2.toNatClampNeg (vp_nar .boolean 0))) := Eq.trans (pv_Rstp dX7_town_150 rfl rfl rfl) (Eq.trans (pv_Rget dX7_town_151 ffX7_37 (by decide) (pv_ce_37 _ _) rfl) (Eq.trans (pv_Rstp dX7_town_154 rfl rfl rfl) (Eq.trans (pv_Ric dX7_town_155 ki_0) (Eq.trans (pv_Rzast dX7_town_156 (by decide) (pv_ce_47 _ _) (pv_em_si rfl)) (pv_iteN (fun h1 => Eq.trans (pv_Rinc dX7_town_157 rfl (Nat.le_of_ble_eq_true rfl) ki_1 rfl) (pv_Rgo (tgt := 145) dX7_town_160 rfl (by decide))))))))
set_option maxHeartbeats 200000 in
theorem bX7_town_163 {S : pv_S} {x1 x2 : Int32} : pv_R mX7_town 163 [some (.ref 37), some (.int x1), some (.int x2)] [] (pv_em S) = some (some (.int (S.1 37 4)), pv_em S) := Eq.trans (pv_Rstp dX7_town_163 rfl rfl rfl) (Eq.trans (pv_Rget dX7_town_164 ffX7_138 (by decide) (pv_ce_37 _ _) rfl) (pv_Rret dX7_town_167 rfl))
theorem dX7_cat_0 : decode cX7_cat 0 = .ok (.aload_n 0, 1) := by decide +kernel
theorem dX7_cat_1 : decode cX7_cat 1 = .ok (.iload_n 1, 1) := by decide +kernel
theorem dX7_cat_2 : decode cX7_cat 2 = .ok (.invokevirtual 165, 3) := by decide +kernel
theorem dX7_cat_5 : decode cX7_cat 5 = .ok (.ifCond .eq 28, 3) := by decide +kernel
theorem dX7_cat_8 : decode cX7_cat 8 = .ok (.iload_n 2, 1) := by decide +kernel
theorem dX7_cat_9 : decode cX7_cat 9 = .ok (.i2l, 1) := by decide +kernel
theorem dX7_cat_10 : decode cX7_cat 10 = .ok (.lconst 0, 1) := by decide +kernel
theorem dX7_cat_11 : decode cX7_cat 11 = .ok (.ldc2_w 168, 3) := by decide +kernel
theorem dX7_cat_14 : decode cX7_cat 14 = .ok (.invokestatic 75, 3) := by decide +kernel
theorem dX7_cat_17 : decode cX7_cat 17 = .ok (.ifCond .eq 16, 3) := by decide +kernel
theorem dX7_cat_20 : decode cX7_cat 20 = .ok (.aload_n 0, 1) := by decide +kernel
theorem dX7_cat_21 : decode cX7_cat 21 = .ok (.aload_n 0, 1) := by decide +kernel
theorem dX7_cat_22 : decode cX7_cat 22 = .ok (.iload_n 1, 1) := by decide +kernel
theorem dX7_cat_23 : decode cX7_cat 23 = .ok (.iload_n 2, 1) := by decide +kernel
theorem dX7_cat_24 : decode cX7_cat 24 = .ok (.invokevirtual 170, 3) := by decide +kernel
theorem dX7_cat_27 : decode cX7_cat 27 = .ok (.invokevirtual 89, 3) := by decide +kernel
theorem dX7_cat_30 : decode cX7_cat 30 = .ok (.goto 4, 3) := by decide +kernel
theorem dX7_cat_33 : decode cX7_cat 33 = .ok (.iconst (-1), 1) := by decide +kernel
theorem dX7_cat_34 : decode cX7_cat 34 = .ok (.ireturn, 1) := by decide +kernel
set_option maxHeartbeats 200000 in
theorem bX7_cat_0 {S : pv_S} {x1 x2 : Int32} : pv_R mX7_cat 0 [some (.ref 37), some (.int x1), some (.int x2)] [] (pv_em S) = pv_cc (pv_R mX7_isCat 0 [some (.ref 37), some (.int x1)] [] (pv_em S)) mX7_cat 5 [some (.ref 37), some (.int x1), some (.int x2)] [] := Eq.trans (pv_Rstp dX7_cat_0 rfl rfl rfl) (Eq.trans (pv_Rstp dX7_cat_1 rfl rfl rfl) (pv_Rcall (As := [.ref 37, .int x1]) (rest := []) dX7_cat_2 rfl mfX7_165 rfl rfl rfl rfl rfl))
set_option maxHeartbeats 200000 in
theorem bX7_cat_5 {S : pv_S} {x1 x2 u0 : Int32} : pv_R mX7_cat 5 [some (.ref 37), some (.int x1), some (.int x2)] [.int u0] (pv_em S) = if u0 = 0 then pv_R mX7_cat 33 [some (.ref 37), some (.int x1), some (.int x2)] [] (pv_em S) else pv_R mX7_cat 8 [some (.ref 37), some (.int x1), some (.int x2)] [] (pv_em S) := pv_Rbr (tgt := 33) dX7_cat_5 rfl rfl rfl rfl rfl (by decide)
set_option maxHeartbeats 200000 in
theorem bX7_cat_8 {S : pv_S} {x1 x2 : Int32} : pv_R mX7_cat 8 [some (.ref 37), some (.int x1), some (.int x2)] [] (pv_em S) = pv_cc (pv_R mX7_in 0 [some (.long (Int32.toInt64 x2)), none, some (.long 0), none, some (.long 4), none] [] (pv_em S)) mX7_cat 17 [some (.ref 37), some (.int x1), some (.int x2)] [] := Eq.trans (pv_Rstp dX7_cat_8 rfl rfl rfl) (Eq.trans (pv_Rstp dX7_cat_9 rfl rfl rfl) (Eq.trans (pv_Rlc dX7_cat_10 kl_0) (Eq.trans (pv_Rstp dX7_cat_11 rfl rfl rfl) (pv_Rcall (As := [.long (Int32.toInt64 x2), .long 0, .long 4]) (rest := []) dX7_cat_14 rfl mfX7_75 rfl rfl rfl rfl rfl))))
set_option maxHeartbeats 200000 in
theorem bX7_cat_17 {S : pv_S} {x1 x2 u0 : Int32} : pv_R mX7_cat 17 [some (.ref 37), some (.int x1), some (.int x2)] [.int u0] (pv_em S) = if u0 = 0 then pv_R mX7_cat 33 [some (.ref 37), some (.int x1), some (.int x2)] [] (pv_em S) else pv_R mX7_cat 20 [some (.ref 37), some (.int x1), some (.int x2)] [] (pv_em S) := pv_Rbr (tgt := 33) dX7_cat_17 rfl rfl rfl rfl rfl (by decide)
set_option maxHeartbeats 200000 in
theorem bX7_cat_20 {S : pv_S} {x1 x2 : Int32} : pv_R mX7_cat 20 [some (.ref 37), some (.int x1), some (.int x2)] [] (pv_em S) = pv_cc (pv_R mX7_told 0 [some (.ref 37), some (.int x1), some (.int x2)] [] (pv_em S)) mX7_cat 27 [some (.ref 37), some (.int x1), some (.int x2)] [.ref 37] := Eq.trans (pv_Rstp dX7_cat_20 rfl rfl rfl) (Eq.trans (pv_Rstp dX7_cat_21 rfl rfl rfl) (Eq.trans (pv_Rstp dX7_cat_22 rfl rfl rfl) (Eq.trans (pv_Rstp dX7_cat_23 rfl rfl rfl) (pv_Rcall (As := [.ref 37, .int x1, .int x2]) (rest := [.ref 37]) dX7_cat_24 rfl mfX7_170 rfl rfl rfl rfl rfl))))
set_option maxHeartbeats 200000 in
theorem bX7_cat_27 {S : pv_S} {x1 x2 u0 : Int32} : pv_R mX7_cat 27 [some (.ref 37), some (.int x1), some (.int x2)] [.int u0, .ref 37] (pv_em S) = pv_cc (pv_R mX7_tell 0 [some (.ref 37), some (.int u0)] [] (pv_em S)) mX7_cat 30 [some (.ref 37), some (.int x1), some (.int x2)] [] := pv_Rcall (As := [.ref 37, .int u0]) (rest := []) dX7_cat_27 rfl mfX7_89 rfl rfl rfl rfl rfl
set_option maxHeartbeats 200000 in
theorem bX7_cat_30 {S : pv_S} {x1 x2 u0 : Int32} : pv_R mX7_cat 30 [some (.ref 37), some (.int x1), some (.int x2)] [.int u0] (pv_em S) = pv_R mX7_cat 34 [some (.ref 37), some (.int x1), some (.int x2)] [.int u0] (pv_em S) := pv_Rgo (tgt := 34) dX7_cat_30 rfl (by decide)
set_option maxHeartbeats 200000 in
theorem bX7_cat_33 {S : pv_S} {x1 x2 : Int32} : pv_R mX7_cat 33 [some (.ref 37), some (.int x1), some (.int x2)] [] (pv_em S) = pv_R mX7_cat 34 [some (.ref 37), some (.int x1), some (.int x2)] [.int (-1)] (pv_em S) := pv_Ric dX7_cat_33 ki_m1
set_option maxHeartbeats 200000 in
theorem bX7_cat_34 {S : pv_S} {x1 x2 u0 : Int32} : pv_R mX7_cat 34 [some (.ref 37), some (.int x1), some (.int x2)] [.int u0] (pv_em S) = some (some (.int u0), pv_em S) := pv_Rret dX7_cat_34 rfl
theorem dX7_mark_0 : decode cX7_mark 0 = .ok (.aload_n 0, 1) := by decide +kernel
theorem dX7_mark_1 : decode cX7_mark 1 = .ok (.iload_n 1, 1) := by decide +kernel
theorem dX7_mark_2 : decode cX7_mark 2 = .ok (.invokevirtual 165, 3) := by decide +kernel
theorem dX7_mark_5 : decode cX7_mark 5 = .ok (.ifCond .eq 15, 3) := by decide +kernel
theorem dX7_mark_8 : decode cX7_mark 8 = .ok (.iload_n 2, 1) := by decide +kernel
theorem dX7_mark_9 : decode cX7_mark 9 = .ok (.i2l, 1) := by decide +kernel
theorem dX7_mark_10 : decode cX7_mark 10 = .ok (.lconst 1, 1) := by decide +kernel
theorem dX7_mark_11 : decode cX7_mark 11 = .ok (.ldc2_w 73, 3) := by decide +kernel
theorem dX7_mark_14 : decode cX7_mark 14 = .ok (.invokestatic 75, 3) := by decide +kernel
theorem dX7_mark_17 : decode cX7_mark 17 = .ok (.ifCond .ne 5, 3) := by decide +kernel
theorem dX7_mark_20 : decode cX7_mark 20 = .ok (.iconst (-1), 1) := by decide +kernel
theorem dX7_mark_21 : decode cX7_mark 21 = .ok (.ireturn, 1) := by decide +kernel
theorem dX7_mark_22 : decode cX7_mark 22 = .ok (.aload_n 0, 1) := by decide +kernel
theorem dX7_mark_23 : decode cX7_mark 23 = .ok (.getfield 22, 3) := by decide +kernel
theorem dX7_mark_26 : decode cX7_mark 26 = .ok (.iload_n 1, 1) := by decide +kernel
theorem dX7_mark_27 : decode cX7_mark 27 = .ok (.iaload, 1) := by decide +kernel
theorem dX7_mark_28 : decode cX7_mark 28 = .ok (.iload_n 2, 1) := by decide +kernel
theorem dX7_mark_29 : decode cX7_mark 29 = .ok (.invokestatic 173, 3) := by decide +kernel
theorem dX7_mark_32 : decode cX7_mark 32 = .ok (.ifCond .ne 9, 3) := by decide +kernel
theorem dX7_mark_35 : decode cX7_mark 35 = .ok (.aload_n 0, 1) := by decide +kernel
theorem dX7_mark_36 : decode cX7_mark 36 = .ok (.iconst 3, 1) := by decide +kernel
theorem dX7_mark_37 : decode cX7_mark 37 = .ok (.invokevirtual 85, 3) := by decide +kernel
theorem dX7_mark_40 : decode cX7_mark 40 = .ok (.ireturn, 1) := by decide +kernel
theorem dX7_mark_41 : decode cX7_mark 41 = .ok (.iload_n 2, 1) := by decide +kernel
theorem dX7_mark_42 : decode cX7_mark 42 = .ok (.tableswitch 86 1 4 #[30, 42, 56, 79], 30) := by decide +kernel
theorem dX7_mark_72 : decode cX7_mark 72 = .ok (.iconst 1, 1) := by decide +kernel
theorem dX7_mark_73 : decode cX7_mark 73 = .ok (.aload_n 0, 1) := by decide +kernel
theorem dX7_mark_74 : decode cX7_mark 74 = .ok (.getfield 28, 3) := by decide +kernel
theorem dX7_mark_77 : decode cX7_mark 77 = .ok (.bipush 6, 2) := by decide +kernel
theorem dX7_mark_79 : decode cX7_mark 79 = .ok (.iaload, 1) := by decide +kernel
theorem dX7_mark_80 : decode cX7_mark 80 = .ok (.iconst 2, 1) := by decide +kernel
theorem dX7_mark_81 : decode cX7_mark 81 = .ok (.irem, 1) := by decide +kernel
theorem dX7_mark_82 : decode cX7_mark 82 = .ok (.isub, 1) := by decide +kernel
theorem dX7_mark_83 : decode cX7_mark 83 = .ok (.ireturn, 1) := by decide +kernel
theorem dX7_mark_84 : decode cX7_mark 84 = .ok (.iconst 4, 1) := by decide +kernel
theorem dX7_mark_85 : decode cX7_mark 85 = .ok (.aload_n 0, 1) := by decide +kernel
theorem dX7_mark_86 : decode cX7_mark 86 = .ok (.getfield 28, 3) := by decide +kernel
theorem dX7_mark_89 : decode cX7_mark 89 = .ok (.bipush 6, 2) := by decide +kernel
theorem dX7_mark_91 : decode cX7_mark 91 = .ok (.iaload, 1) := by decide +kernel
theorem dX7_mark_92 : decode cX7_mark 92 = .ok (.iconst 4, 1) := by decide +kernel
theorem dX7_mark_93 : decode cX7_mark 93 = .ok (.irem, 1) := by decide +kernel
theorem dX7_mark_94 : decode cX7_mark 94 = .ok (.isub, 1) := by decide +kernel
theorem dX7_mark_95 : decode cX7_mark 95 = .ok (.iconst 4, 1) := by decide +kernel
theorem dX7_mark_96 : decode cX7_mark 96 = .ok (.irem, 1) := by decide +kernel
theorem dX7_mark_97 : decode cX7_mark 97 = .ok (.ireturn, 1) := by decide +kernel
theorem dX7_mark_98 : decode cX7_mark 98 = .ok (.aload_n 0, 1) := by decide +kernel
theorem dX7_mark_99 : decode cX7_mark 99 = .ok (.getfield 25, 3) := by decide +kernel
theorem dX7_mark_102 : decode cX7_mark 102 = .ok (.iload_n 1, 1) := by decide +kernel
theorem dX7_mark_103 : decode cX7_mark 103 = .ok (.iaload, 1) := by decide +kernel
theorem dX7_mark_104 : decode cX7_mark 104 = .ok (.aload_n 0, 1) := by decide +kernel
theorem dX7_mark_105 : decode cX7_mark 105 = .ok (.getfield 22, 3) := by decide +kernel
theorem dX7_mark_108 : decode cX7_mark 108 = .ok (.iload_n 1, 1) := by decide +kernel
theorem dX7_mark_109 : decode cX7_mark 109 = .ok (.iaload, 1) := by decide +kernel
theorem dX7_mark_110 : decode cX7_mark 110 = .ok (.aload_n 0, 1) := by decide +kernel
theorem dX7_mark_111 : decode cX7_mark 111 = .ok (.getfield 25, 3) := by decide +kernel
theorem dX7_mark_114 : decode cX7_mark 114 = .ok (.iload_n 1, 1) := by decide +kernel
theorem dX7_mark_115 : decode cX7_mark 115 = .ok (.iaload, 1) := by decide +kernel
theorem dX7_mark_116 : decode cX7_mark 116 = .ok (.invokestatic 162, 3) := by decide +kernel
theorem dX7_mark_119 : decode cX7_mark 119 = .ok (.isub, 1) := by decide +kernel
theorem dX7_mark_120 : decode cX7_mark 120 = .ok (.ireturn, 1) := by decide +kernel
theorem dX7_mark_121 : decode cX7_mark 121 = .ok (.aload_n 0, 1) := by decide +kernel
theorem dX7_mark_122 : decode cX7_mark 122 = .ok (.getfield 25, 3) := by decide +kernel
theorem dX7_mark_125 : decode cX7_mark 125 = .ok (.iload_n 1, 1) := by decide +kernel
theorem dX7_mark_126 : decode cX7_mark 126 = .ok (.iaload, 1) := by decide +kernel
theorem dX7_mark_127 : decode cX7_mark 127 = .ok (.ireturn, 1) := by decide +kernel
theorem dX7_mark_128 : decode cX7_mark 128 = .ok (.aload_n 0, 1) := by decide +kernel
theorem dX7_mark_129 : decode cX7_mark 129 = .ok (.iconst 3, 1) := by decide +kernel
theorem dX7_mark_130 : decode cX7_mark 130 = .ok (.invokevirtual 176, 3) := by decide +kernel
theorem dX7_mark_133 : decode cX7_mark 133 = .ok (.iconst 1, 1) := by decide +kernel
theorem dX7_mark_134 : decode cX7_mark 134 = .ok (.isub, 1) := by decide +kernel
theorem dX7_mark_135 : decode cX7_mark 135 = .ok (.ireturn, 1) := by decide +kernel
set_option maxHeartbeats 200000 in
theorem bX7_mark_0 {S : pv_S} {x1 x2 : Int32} : pv_R mX7_mark 0 [some (.ref 37), some (.int x1), some (.int x2)] [] (pv_em S) = pv_cc (pv_R mX7_isCat 0 [some (.ref 37), some (.int x1)] [] (pv_em S)) mX7_mark 5 [some (.ref 37), some (.int x1), some (.int x2)] [] := Eq.trans (pv_Rstp dX7_mark_0 rfl rfl rfl) (Eq.trans (pv_Rstp dX7_mark_1 rfl rfl rfl) (pv_Rcall (As := [.ref 37, .int x1]) (rest := []) dX7_mark_2 rfl mfX7_165 rfl rfl rfl rfl rfl))
set_option maxHeartbeats 200000 in
theorem bX7_mark_5 {S : pv_S} {x1 x2 u0 : Int32} : pv_R mX7_mark 5 [some (.ref 37), some (.int x1), some (.int x2)] [.int u0] (pv_em S) = if u0 = 0 then pv_R mX7_mark 20 [some (.ref 37), some (.int x1), some (.int x2)] [] (pv_em S) else pv_R mX7_mark 8 [some (.ref 37), some (.int x1), some (.int x2)] [] (pv_em S) := pv_Rbr (tgt := 20) dX7_mark_5 rfl rfl rfl rfl rfl (by decide)
set_option maxHeartbeats 200000 in
theorem bX7_mark_8 {S : pv_S} {x1 x2 : Int32} : pv_R mX7_mark 8 [some (.ref 37), some (.int x1), some (.int x2)] [] (pv_em S) = pv_cc (pv_R mX7_in 0 [some (.long (Int32.toInt64 x2)), none, some (.long 1), none, some (.long 5), none] [] (pv_em S)) mX7_mark 17 [some (.ref 37), some (.int x1), some (.int x2)] [] := Eq.trans (pv_Rstp dX7_mark_8 rfl rfl rfl) (Eq.trans (pv_Rstp dX7_mark_9 rfl rfl rfl) (Eq.trans (pv_Rlc dX7_mark_10 kl_1) (Eq.trans (pv_Rstp dX7_mark_11 rfl rfl rfl) (pv_Rcall (As := [.long (Int32.toInt64 x2), .long 1, .long 5]) (rest := []) dX7_mark_14 rfl mfX7_75 rfl rfl rfl rfl rfl))))
set_option maxHeartbeats 200000 in
theorem bX7_mark_17 {S : pv_S} {x1 x2 u0 : Int32} : pv_R mX7_mark 17 [some (.ref 37), some (.int x1), some (.int x2)] [.int u0] (pv_em S) = if ¬ u0 = 0 then pv_R mX7_mark 22 [some (.ref 37), some (.int x1), some (.int x2)] [] (pv_em S) else pv_R mX7_mark 20 [some (.ref 37), some (.int x1), some (.int x2)] [] (pv_em S) := pv_Rbr (tgt := 22) dX7_mark_17 rfl rfl rfl rfl rfl (by decide)
set_option maxHeartbeats 200000 in
theorem bX7_mark_20 {S : pv_S} {x1 x2 : Int32} : pv_R mX7_mark 20 [some (.ref 37), some (.int x1), some (.int x2)] [] (pv_em S) = some (some (.int (-1)), pv_em S) := Eq.trans (pv_Ric dX7_mark_20 ki_m1) (pv_Rret dX7_mark_21 rfl)
set_option maxHeartbeats 200000 in
theorem bX7_mark_22 {S : pv_S} {x1 x2 : Int32} : pv_R mX7_mark 22 [some (.ref 37), some (.int x1), some (.int x2)] [] (pv_em S) = if x1 < 0 ∨ 6 ≤ x1.toNatClampNeg then none else pv_cc (pv_R mX7_isOf 0 [some (.int (S.1 42 x1.toNatClampNeg)), some (.int x2)] [] (pv_em S)) mX7_mark 32 [some (.ref 37), some (.int x1), some (.int x2)] [] := Eq.trans (pv_Rstp dX7_mark_22 rfl rfl rfl) (Eq.trans (pv_Rget dX7_mark_23 ffX7_22 (by decide) (pv_ce_37 _ _) rfl) (Eq.trans (pv_Rstp dX7_mark_26 rfl rfl rfl) (Eq.trans (pv_Rald dX7_mark_27 (by decide) (pv_ce_42 _ _)) (pv_iteN (fun h1 => Eq.trans (pv_Rstp dX7_mark_28 rfl rfl rfl) (pv_Rcall (As := [.int (S.1 42 x1.toNatClampNeg), .int x2]) (rest := []) dX7_mark_29 rfl mfX7_173 rfl rfl rfl rfl rfl))))))
set_option maxHeartbeats 200000 in
theorem bX7_mark_32 {S : pv_S} {x1 x2 u0 : Int32} : pv_R mX7_mark 32 [some (.ref 37), some (.int x1), some (.int x2)] [.int u0] (pv_em S) = if ¬ u0 = 0 then pv_R mX7_mark 41 [some (.ref 37), some (.int x1), some (.int x2)] [] (pv_em S) else pv_R mX7_mark 35 [some (.ref 37), some (.int x1), some (.int x2)] [] (pv_em S) := pv_Rbr (tgt := 41) dX7_mark_32 rfl rfl rfl rfl rfl (by decide)
set_option maxHeartbeats 200000 in
theorem bX7_mark_35 {S : pv_S} {x1 x2 : Int32} : pv_R mX7_mark 35 [some (.ref 37), some (.int x1), some (.int x2)] [] (pv_em S) = pv_cc (pv_R mX7_found 0 [some (.ref 37), some (.int 3)] [] (pv_em S)) mX7_mark 40 [some (.ref 37), some (.int x1), some (.int x2)] [] := Eq.trans (pv_Rstp dX7_mark_35 rfl rfl rfl) (Eq.trans (pv_Ric dX7_mark_36 ki_3) (pv_Rcall (As := [.ref 37, .int 3]) (rest := []) dX7_mark_37 rfl mfX7_85 rfl rfl rfl rfl rfl))
set_option maxHeartbeats 200000 in
theorem bX7_mark_40 {S : pv_S} {x1 x2 u0 : Int32} : pv_R mX7_mark 40 [some (.ref 37), some (.int x1), some (.int x2)] [.int u0] (pv_em S) = some (some (.int u0), pv_em S) := pv_Rret dX7_mark_40 rfl
set_option maxHeartbeats 200000 in
theorem bX7_mark_41 {S : pv_S} {x1 x2 : Int32} : pv_R mX7_mark 41 [some (.ref 37), some (.int x1), some (.int x2)] [] (pv_em S) = pv_R mX7_mark (pv_swt (Int32.toInt x2) 1 [72, 84, 98, 121] 128) [some (.ref 37), some (.int x1), some (.int x2)] [] (pv_em S) := Eq.trans (pv_Rstp dX7_mark_41 rfl rfl rfl) (pv_Rtab (lo := 1) (tg := [72, 84, 98, 121]) (dt := 128) dX7_mark_42 (by decide))
set_option maxHeartbeats 200000 in
theorem bX7_mark_72 {S : pv_S} {x1 x2 : Int32} : pv_R mX7_mark 72 [some (.ref 37), some (.int x1), some (.int x2)] [] (pv_em S) = some (some (.int (1 - ((S.1 44 (6 : Int32).toNatClampNeg) - (S.1 44 (6 : Int32).toNatClampNeg) / 2 * 2))), pv_em S) := Eq.trans (pv_Ric dX7_mark_72 ki_1) (Eq.trans (pv_Rstp dX7_mark_73 rfl rfl rfl) (Eq.trans (pv_Rget dX7_mark_74 ffX7_28 (by decide) (pv_ce_37 _ _) rfl) (Eq.trans (pv_Rbp dX7_mark_77 kb_6) (Eq.trans (pv_Rald dX7_mark_79 (by decide) (pv_ce_44 _ _)) (Eq.trans (if_neg (by decide +kernel)) (Eq.trans (pv_Ric dX7_mark_80 ki_2) (Eq.trans (pv_Rrem dX7_mark_81) (Eq.trans (if_neg (by decide)) (Eq.trans (pv_Rstp dX7_mark_82 rfl rfl rfl) (pv_Rret dX7_mark_83 rfl))))))))))
set_option maxHeartbeats 200000 in
theorem bX7_mark_84 {S : pv_S} {x1 x2 : Int32} : pv_R mX7_mark 84 [some (.ref 37), some (.int x1), some (.int x2)] [] (pv_em S) = some (some (.int ((4 - ((S.1 44 (6 : Int32).toNatClampNeg) - (S.1 44 (6 : Int32).toNatClampNeg) / 4 * 4)) - (4 - ((S.1 44 (6 : Int32).toNatClampNeg) - (S.1 44 (6 : Int32).toNatClampNeg) / 4 * 4)) / 4 * 4)), pv_em S) := Eq.trans (pv_Ric dX7_mark_84 ki_4) (Eq.trans (pv_Rstp dX7_mark_85 rfl rfl rfl) (Eq.trans (pv_Rget dX7_mark_86 ffX7_28 (by decide) (pv_ce_37 _ _) rfl) (Eq.trans (pv_Rbp dX7_mark_89 kb_6) (Eq.trans (pv_Rald dX7_mark_91 (by decide) (pv_ce_44 _ _)) (Eq.trans (if_neg (by decide +kernel)) (Eq.trans (pv_Ric dX7_mark_92 ki_4) (Eq.trans (pv_Rrem dX7_mark_93) (Eq.trans (if_neg (by decide)) (Eq.trans (pv_Rstp dX7_mark_94 rfl rfl rfl) (Eq.trans (pv_Ric dX7_mark_95 ki_4) (Eq.trans (pv_Rrem dX7_mark_96) (Eq.trans (if_neg (by decide)) (pv_Rret dX7_mark_97 rfl)))))))))))))
set_option maxHeartbeats 200000 in
theorem bX7_mark_98 {S : pv_S} {x1 x2 : Int32} : pv_R mX7_mark 98 [some (.ref 37), some (.int x1), some (.int x2)] [] (pv_em S) = if x1 < 0 ∨ 6 ≤ x1.toNatClampNeg then none else if x1 < 0 ∨ 6 ≤ x1.toNatClampNeg then none else if x1 < 0 ∨ 6 ≤ x1.toNatClampNeg then none else pv_cc (pv_R mX7_meal 0 [some (.int (S.1 42 x1.toNatClampNeg)), some (.int (S.1 43 x1.toNatClampNeg))] [] (pv_em S)) mX7_mark 119 [some (.ref 37), some (.int x1), some (.int x2)] [.int (S.1 43 x1.toNatClampNeg)] := Eq.trans (pv_Rstp dX7_mark_98 rfl rfl rfl) (Eq.trans (pv_Rget dX7_mark_99 ffX7_25 (by decide) (pv_ce_37 _ _) rfl) (Eq.trans (pv_Rstp dX7_mark_102 rfl rfl rfl) (Eq.trans (pv_Rald dX7_mark_103 (by decide) (pv_ce_43 _ _)) (pv_iteN (fun h1 => Eq.trans (pv_Rstp dX7_mark_104 rfl rfl rfl) (Eq.trans (pv_Rget dX7_mark_105 ffX7_22 (by decide) (pv_ce_37 _ _) rfl) (Eq.trans (pv_Rstp dX7_mark_108 rfl rfl rfl) (Eq.trans (pv_Rald dX7_mark_109 (by decide) (pv_ce_42 _ _)) (pv_iteN (fun h2 => Eq.trans (pv_Rstp dX7_mark_110 rfl rfl rfl) (Eq.trans (pv_Rget dX7_mark_111 ffX7_25 (by decide) (pv_ce_37 _ _) rfl) (Eq.trans (pv_Rstp dX7_mark_114 rfl rfl rfl) (Eq.trans (pv_Rald dX7_mark_115 (by decide) (pv_ce_43 _ _)) (pv_iteN (fun h3 => pv_Rcall (As := [.int (S.1 42 x1.toNatClampNeg), .int (S.1 43 x1.toNatClampNeg)]) (rest := [.int (S.1 43 x1.toNatClampNeg)]) dX7_mark_116 rfl mfX7_162 rfl rfl rfl rfl rfl)))))))))))))))
set_option maxHeartbeats 200000 in
theorem bX7_mark_119 {S : pv_S} {x1 x2 u0 u1 : Int32} : pv_R mX7_mark 119 [some (.ref 37), some (.int x1), some (.int x2)] [.int u0, .int u1] (pv_em S) = some (some (.int (u1 - u0)), pv_em S) := Eq.trans (pv_Rstp dX7_mark_119 rfl rfl rfl) (pv_Rret dX7_mark_120 rfl)
set_option maxHeartbeats 200000 in
theorem bX7_mark_121 {S : pv_S} {x1 x2 : Int32} : pv_R mX7_mark 121 [some (.ref 37), some (.int x1), some (.int x2)] [] (pv_em S) = if x1 < 0 ∨ 6 ≤ x1.toNatClampNeg then none else some (some (.int (S.1 43 x1.toNatClampNeg)), pv_em S) := Eq.trans (pv_Rstp dX7_mark_121 rfl rfl rfl) (Eq.trans (pv_Rget dX7_mark_122 ffX7_25 (by decide) (pv_ce_37 _ _) rfl) (Eq.trans (pv_Rstp dX7_mark_125 rfl rfl rfl) (Eq.trans (pv_Rald dX7_mark_126 (by decide) (pv_ce_43 _ _)) (pv_iteN (fun h1 => pv_Rret dX7_mark_127 rfl)))))
set_option maxHeartbeats 200000 in
theorem bX7_mark_128 {S : pv_S} {x1 x2 : Int32} : pv_R mX7_mark 128 [some (.ref 37), some (.int x1), some (.int x2)] [] (pv_em S) = pv_cc (pv_R mX7_kindsOf 0 [some (.ref 37), some (.int 3), none, none] [] (pv_em S)) mX7_mark 133 [some (.ref 37), some (.int x1), some (.int x2)] [] := Eq.trans (pv_Rstp dX7_mark_128 rfl rfl rfl) (Eq.trans (pv_Ric dX7_mark_129 ki_3) (pv_Rcall (As := [.ref 37, .int 3]) (rest := []) dX7_mark_130 rfl mfX7_176 rfl rfl rfl rfl rfl))
set_option maxHeartbeats 200000 in
theorem bX7_mark_133 {S : pv_S} {x1 x2 u0 : Int32} : pv_R mX7_mark 133 [some (.ref 37), some (.int x1), some (.int x2)] [.int u0] (pv_em S) = some (some (.int (u0 - 1)), pv_em S) := Eq.trans (pv_Ric dX7_mark_133 ki_1) (Eq.trans (pv_Rstp dX7_mark_134 rfl rfl rfl) (pv_Rret dX7_mark_135 rfl))
theorem dX7_hour_0 : decode cX7_hour 0 = .ok (.aload_n 0, 1) := by decide +kernel
theorem dX7_hour_1 : decode cX7_hour 1 = .ok (.getfield 138, 3) := by decide +kernel
theorem dX7_hour_4 : decode cX7_hour 4 = .ok (.ifCond .ne 6, 3) := by decide +kernel
theorem dX7_hour_7 : decode cX7_hour 7 = .ok (.bipush (-4), 2) := by decide +kernel
theorem dX7_hour_9 : decode cX7_hour 9 = .ok (.ireturn, 1) := by decide +kernel
theorem dX7_hour_10 : decode cX7_hour 10 = .ok (.aload_n 0, 1) := by decide +kernel
theorem dX7_hour_11 : decode cX7_hour 11 = .ok (.getfield 144, 3) := by decide +kernel
theorem dX7_hour_14 : decode cX7_hour 14 = .ok (.bipush 40, 2) := by decide +kernel
theorem dX7_hour_16 : decode cX7_hour 16 = .ok (.if_icmp .ne 6, 3) := by decide +kernel
theorem dX7_hour_19 : decode cX7_hour 19 = .ok (.bipush (-2), 2) := by decide +kernel
theorem dX7_hour_21 : decode cX7_hour 21 = .ok (.ireturn, 1) := by decide +kernel
theorem dX7_hour_22 : decode cX7_hour 22 = .ok (.aload_n 0, 1) := by decide +kernel
theorem dX7_hour_23 : decode cX7_hour 23 = .ok (.invokevirtual 190, 3) := by decide +kernel
theorem dX7_hour_26 : decode cX7_hour 26 = .ok (.aload_n 0, 1) := by decide +kernel
theorem dX7_hour_27 : decode cX7_hour 27 = .ok (.invokevirtual 186, 3) := by decide +kernel
theorem dX7_hour_30 : decode cX7_hour 30 = .ok (.ireturn, 1) := by decide +kernel
set_option maxHeartbeats 200000 in
theorem bX7_hour_0 {S : pv_S} : pv_R mX7_hour 0 [some (.ref 37)] [] (pv_em S) = if ¬ (S.1 37 4) = 0 then pv_R mX7_hour 10 [some (.ref 37)] [] (pv_em S) else pv_R mX7_hour 7 [some (.ref 37)] [] (pv_em S) := Eq.trans (pv_Rstp dX7_hour_0 rfl rfl rfl) (Eq.trans (pv_Rget dX7_hour_1 ffX7_138 (by decide) (pv_ce_37 _ _) rfl) (pv_Rbr (tgt := 10) dX7_hour_4 rfl rfl rfl rfl rfl (by decide)))
set_option maxHeartbeats 200000 in
theorem bX7_hour_7 {S : pv_S} : pv_R mX7_hour 7 [some (.ref 37)] [] (pv_em S) = some (some (.int (-4)), pv_em S) := Eq.trans (pv_Rbp dX7_hour_7 kb_m4) (pv_Rret dX7_hour_9 rfl)
set_option maxHeartbeats 200000 in
theorem bX7_hour_10 {S : pv_S} : pv_R mX7_hour 10 [some (.ref 37)] [] (pv_em S) = if ¬ (S.1 37 9) = 40 then pv_R mX7_hour 22 [some (.ref 37)] [] (pv_em S) else pv_R mX7_hour 19 [some (.ref 37)] [] (pv_em S) := Eq.trans (pv_Rstp dX7_hour_10 rfl rfl rfl) (Eq.trans (pv_Rget dX7_hour_11 ffX7_144 (by decide) (pv_ce_37 _ _) rfl) (Eq.trans (pv_Rbp dX7_hour_14 kb_40) (pv_Rbr (tgt := 22) dX7_hour_16 rfl rfl rfl rfl rfl (by decide))))
set_option maxHeartbeats 200000 in
theorem bX7_hour_19 {S : pv_S} : pv_R mX7_hour 19 [some (.ref 37)] [] (pv_em S) = some (some (.int (-2)), pv_em S) := Eq.trans (pv_Rbp dX7_hour_19 kb_m2) (pv_Rret dX7_hour_21 rfl)
set_option maxHeartbeats 200000 in
theorem bX7_hour_22 {S : pv_S} : pv_R mX7_hour 22 [some (.ref 37)] [] (pv_em S) = pv_cc (pv_R mX7_hourGoes 0 [some (.ref 37), none] [] (pv_em S)) mX7_hour 26 [some (.ref 37)] [] := Eq.trans (pv_Rstp dX7_hour_22 rfl rfl rfl) (pv_Rcall (As := [.ref 37]) (rest := []) dX7_hour_23 rfl mfX7_190 rfl rfl rfl rfl rfl)
set_option maxHeartbeats 200000 in
theorem bX7_hour_26 {S : pv_S} : pv_R mX7_hour 26 [some (.ref 37)] [] (pv_em S) = pv_cc (pv_R mX7_pound 0 [some (.ref 37)] [] (pv_em S)) mX7_hour 30 [some (.ref 37)] [] := Eq.trans (pv_Rstp dX7_hour_26 rfl rfl rfl) (pv_Rcall (As := [.ref 37]) (rest := []) dX7_hour_27 rfl mfX7_186 rfl rfl rfl rfl rfl)
set_option maxHeartbeats 200000 in
theorem bX7_hour_30 {S : pv_S} {u0 : Int32} : pv_R mX7_hour 30 [some (.ref 37)] [.int u0] (pv_em S) = some (some (.int u0), pv_em S) := pv_Rret dX7_hour_30 rfl
theorem dX7_feed_0 : decode cX7_feed 0 = .ok (.aload_n 0, 1) := by decide +kernel
theorem dX7_feed_1 : decode cX7_feed 1 = .ok (.iload_n 1, 1) := by decide +kernel
theorem dX7_feed_2 : decode cX7_feed 2 = .ok (.invokevirtual 165, 3) := by decide +kernel
theorem dX7_feed_5 : decode cX7_feed 5 = .ok (.ifCond .ne 5, 3) := by decide +kernel
theorem dX7_feed_8 : decode cX7_feed 8 = .ok (.iconst (-1), 1) := by decide +kernel
theorem dX7_feed_9 : decode cX7_feed 9 = .ok (.ireturn, 1) := by decide +kernel
theorem dX7_feed_10 : decode cX7_feed 10 = .ok (.aload_n 0, 1) := by decide +kernel
theorem dX7_feed_11 : decode cX7_feed 11 = .ok (.getfield 144, 3) := by decide +kernel
theorem dX7_feed_14 : decode cX7_feed 14 = .ok (.bipush 40, 2) := by decide +kernel
theorem dX7_feed_16 : decode cX7_feed 16 = .ok (.if_icmp .ne 6, 3) := by decide +kernel
theorem dX7_feed_19 : decode cX7_feed 19 = .ok (.bipush (-2), 2) := by decide +kernel
theorem dX7_feed_21 : decode cX7_feed 21 = .ok (.ireturn, 1) := by decide +kernel
theorem dX7_feed_22 : decode cX7_feed 22 = .ok (.aload_n 0, 1) := by decide +kernel
theorem dX7_feed_23 : decode cX7_feed 23 = .ok (.iload_n 1, 1) := by decide +kernel
theorem dX7_feed_24 : decode cX7_feed 24 = .ok (.invokevirtual 193, 3) := by decide +kernel
theorem dX7_feed_27 : decode cX7_feed 27 = .ok (.aload_n 0, 1) := by decide +kernel
theorem dX7_feed_28 : decode cX7_feed 28 = .ok (.getfield 28, 3) := by decide +kernel
theorem dX7_feed_31 : decode cX7_feed 31 = .ok (.iconst 0, 1) := by decide +kernel
theorem dX7_feed_32 : decode cX7_feed 32 = .ok (.iload_n 1, 1) := by decide +kernel
theorem dX7_feed_33 : decode cX7_feed 33 = .ok (.iadd, 1) := by decide +kernel
theorem dX7_feed_34 : decode cX7_feed 34 = .ok (.iaload, 1) := by decide +kernel
theorem dX7_feed_35 : decode cX7_feed 35 = .ok (.ireturn, 1) := by decide +kernel
set_option maxHeartbeats 200000 in
theorem bX7_feed_0 {S : pv_S} {x1 : Int32} : pv_R mX7_feed 0 [some (.ref 37), some (.int x1)] [] (pv_em S) = pv_cc (pv_R mX7_isCat 0 [some (.ref 37), some (.int x1)] [] (pv_em S)) mX7_feed 5 [some (.ref 37), some (.int x1)] [] := Eq.trans (pv_Rstp dX7_feed_0 rfl rfl rfl) (Eq.trans (pv_Rstp dX7_feed_1 rfl rfl rfl) (pv_Rcall (As := [.ref 37, .int x1]) (rest := []) dX7_feed_2 rfl mfX7_165 rfl rfl rfl rfl rfl))
set_option maxHeartbeats 200000 in
theorem bX7_feed_5 {S : pv_S} {x1 u0 : Int32} : pv_R mX7_feed 5 [some (.ref 37), some (.int x1)] [.int u0] (pv_em S) = if ¬ u0 = 0 then pv_R mX7_feed 10 [some (.ref 37), some (.int x1)] [] (pv_em S) else pv_R mX7_feed 8 [some (.ref 37), some (.int x1)] [] (pv_em S) := pv_Rbr (tgt := 10) dX7_feed_5 rfl rfl rfl rfl rfl (by decide)
set_option maxHeartbeats 200000 in
theorem bX7_feed_8 {S : pv_S} {x1 : Int32} : pv_R mX7_feed 8 [some (.ref 37), some (.int x1)] [] (pv_em S) = some (some (.int (-1)), pv_em S) := Eq.trans (pv_Ric dX7_feed_8 ki_m1) (pv_Rret dX7_feed_9 rfl)
set_option maxHeartbeats 200000 in
theorem bX7_feed_10 {S : pv_S} {x1 : Int32} : pv_R mX7_feed 10 [some (.ref 37), some (.int x1)] [] (pv_em S) = if ¬ (S.1 37 9) = 40 then pv_R mX7_feed 22 [some (.ref 37), some (.int x1)] [] (pv_em S) else pv_R mX7_feed 19 [some (.ref 37), some (.int x1)] [] (pv_em S) := Eq.trans (pv_Rstp dX7_feed_10 rfl rfl rfl) (Eq.trans (pv_Rget dX7_feed_11 ffX7_144 (by decide) (pv_ce_37 _ _) rfl) (Eq.trans (pv_Rbp dX7_feed_14 kb_40) (pv_Rbr (tgt := 22) dX7_feed_16 rfl rfl rfl rfl rfl (by decide))))
set_option maxHeartbeats 200000 in
theorem bX7_feed_19 {S : pv_S} {x1 : Int32} : pv_R mX7_feed 19 [some (.ref 37), some (.int x1)] [] (pv_em S) = some (some (.int (-2)), pv_em S) := Eq.trans (pv_Rbp dX7_feed_19 kb_m2) (pv_Rret dX7_feed_21 rfl)
set_option maxHeartbeats 200000 in
theorem bX7_feed_22 {S : pv_S} {x1 : Int32} : pv_R mX7_feed 22 [some (.ref 37), some (.int x1)] [] (pv_em S) = pv_cc (pv_R mX7_eats 0 [some (.ref 37), some (.int x1)] [] (pv_em S)) mX7_feed 27 [some (.ref 37), some (.int x1)] [] := Eq.trans (pv_Rstp dX7_feed_22 rfl rfl rfl) (Eq.trans (pv_Rstp dX7_feed_23 rfl rfl rfl) (pv_Rcall (As := [.ref 37, .int x1]) (rest := []) dX7_feed_24 rfl mfX7_193 rfl rfl rfl rfl rfl))
set_option maxHeartbeats 200000 in
theorem bX7_feed_27 {S : pv_S} {x1 : Int32} : pv_R mX7_feed 27 [some (.ref 37), some (.int x1)] [] (pv_em S) = if (0 + x1) < 0 ∨ 10 ≤ (0 + x1).toNatClampNeg then none else some (some (.int (S.1 44 (0 + x1).toNatClampNeg)), pv_em S) := Eq.trans (pv_Rstp dX7_feed_27 rfl rfl rfl) (Eq.trans (pv_Rget dX7_feed_28 ffX7_28 (by decide) (pv_ce_37 _ _) rfl) (Eq.trans (pv_Ric dX7_feed_31 ki_0) (Eq.trans (pv_Rstp dX7_feed_32 rfl rfl rfl) (Eq.trans (pv_Rstp dX7_feed_33 rfl rfl rfl) (Eq.trans (pv_Rald dX7_feed_34 (by decide) (pv_ce_44 _ _)) (pv_iteN (fun h1 => pv_Rret dX7_feed_35 rfl)))))))
theorem dX7_buy_0 : decode cX7_buy 0 = .ok (.iload_n 1, 1) := by decide +kernel
theorem dX7_buy_1 : decode cX7_buy 1 = .ok (.i2l, 1) := by decide +kernel
theorem dX7_buy_2 : decode cX7_buy 2 = .ok (.lconst 1, 1) := by decide +kernel
theorem dX7_buy_3 : decode cX7_buy 3 = .ok (.ldc2_w 104, 3) := by decide +kernel
theorem dX7_buy_6 : decode cX7_buy 6 = .ok (.invokestatic 75, 3) := by decide +kernel
theorem dX7_buy_9 : decode cX7_buy 9 = .ok (.ifCond .ne 5, 3) := by decide +kernel
theorem dX7_buy_12 : decode cX7_buy 12 = .ok (.iconst (-1), 1) := by decide +kernel
theorem dX7_buy_13 : decode cX7_buy 13 = .ok (.ireturn, 1) := by decide +kernel
theorem dX7_buy_14 : decode cX7_buy 14 = .ok (.aload_n 0, 1) := by decide +kernel
theorem dX7_buy_15 : decode cX7_buy 15 = .ok (.getfield 138, 3) := by decide +kernel
theorem dX7_buy_18 : decode cX7_buy 18 = .ok (.ifCond .ne 6, 3) := by decide +kernel
theorem dX7_buy_21 : decode cX7_buy 21 = .ok (.bipush (-4), 2) := by decide +kernel
theorem dX7_buy_23 : decode cX7_buy 23 = .ok (.ireturn, 1) := by decide +kernel
theorem dX7_buy_24 : decode cX7_buy 24 = .ok (.aload_n 0, 1) := by decide +kernel
theorem dX7_buy_25 : decode cX7_buy 25 = .ok (.getfield 144, 3) := by decide +kernel
theorem dX7_buy_28 : decode cX7_buy 28 = .ok (.bipush 40, 2) := by decide +kernel
theorem dX7_buy_30 : decode cX7_buy 30 = .ok (.if_icmp .ne 6, 3) := by decide +kernel
theorem dX7_buy_33 : decode cX7_buy 33 = .ok (.bipush (-2), 2) := by decide +kernel
theorem dX7_buy_35 : decode cX7_buy 35 = .ok (.ireturn, 1) := by decide +kernel
theorem dX7_buy_36 : decode cX7_buy 36 = .ok (.aload_n 0, 1) := by decide +kernel
theorem dX7_buy_37 : decode cX7_buy 37 = .ok (.iload_n 1, 1) := by decide +kernel
theorem dX7_buy_38 : decode cX7_buy 38 = .ok (.invokevirtual 196, 3) := by decide +kernel
theorem dX7_buy_41 : decode cX7_buy 41 = .ok (.aload_n 0, 1) := by decide +kernel
theorem dX7_buy_42 : decode cX7_buy 42 = .ok (.getfield 28, 3) := by decide +kernel
theorem dX7_buy_45 : decode cX7_buy 45 = .ok (.bipush 8, 2) := by decide +kernel
theorem dX7_buy_47 : decode cX7_buy 47 = .ok (.iaload, 1) := by decide +kernel
theorem dX7_buy_48 : decode cX7_buy 48 = .ok (.ireturn, 1) := by decide +kernel
set_option maxHeartbeats 200000 in
theorem bX7_buy_0 {S : pv_S} {x1 : Int32} : pv_R mX7_buy 0 [some (.ref 37), some (.int x1)] [] (pv_em S) = pv_cc (pv_R mX7_in 0 [some (.long (Int32.toInt64 x1)), none, some (.long 1), none, some (.long 9), none] [] (pv_em S)) mX7_buy 9 [some (.ref 37), some (.int x1)] [] := Eq.trans (pv_Rstp dX7_buy_0 rfl rfl rfl) (Eq.trans (pv_Rstp dX7_buy_1 rfl rfl rfl) (Eq.trans (pv_Rlc dX7_buy_2 kl_1) (Eq.trans (pv_Rstp dX7_buy_3 rfl rfl rfl) (pv_Rcall (As := [.long (Int32.toInt64 x1), .long 1, .long 9]) (rest := []) dX7_buy_6 rfl mfX7_75 rfl rfl rfl rfl rfl))))
set_option maxHeartbeats 200000 in
theorem bX7_buy_9 {S : pv_S} {x1 u0 : Int32} : pv_R mX7_buy 9 [some (.ref 37), some (.int x1)] [.int u0] (pv_em S) = if ¬ u0 = 0 then pv_R mX7_buy 14 [some (.ref 37), some (.int x1)] [] (pv_em S) else pv_R mX7_buy 12 [some (.ref 37), some (.int x1)] [] (pv_em S) := pv_Rbr (tgt := 14) dX7_buy_9 rfl rfl rfl rfl rfl (by decide)
set_option maxHeartbeats 200000 in
theorem bX7_buy_12 {S : pv_S} {x1 : Int32} : pv_R mX7_buy 12 [some (.ref 37), some (.int x1)] [] (pv_em S) = some (some (.int (-1)), pv_em S) := Eq.trans (pv_Ric dX7_buy_12 ki_m1) (pv_Rret dX7_buy_13 rfl)
set_option maxHeartbeats 200000 in
theorem bX7_buy_14 {S : pv_S} {x1 : Int32} : pv_R mX7_buy 14 [some (.ref 37), some (.int x1)] [] (pv_em S) = if ¬ (S.1 37 4) = 0 then pv_R mX7_buy 24 [some (.ref 37), some (.int x1)] [] (pv_em S) else pv_R mX7_buy 21 [some (.ref 37), some (.int x1)] [] (pv_em S) := Eq.trans (pv_Rstp dX7_buy_14 rfl rfl rfl) (Eq.trans (pv_Rget dX7_buy_15 ffX7_138 (by decide) (pv_ce_37 _ _) rfl) (pv_Rbr (tgt := 24) dX7_buy_18 rfl rfl rfl rfl rfl (by decide)))
set_option maxHeartbeats 200000 in
theorem bX7_buy_21 {S : pv_S} {x1 : Int32} : pv_R mX7_buy 21 [some (.ref 37), some (.int x1)] [] (pv_em S) = some (some (.int (-4)), pv_em S) := Eq.trans (pv_Rbp dX7_buy_21 kb_m4) (pv_Rret dX7_buy_23 rfl)
set_option maxHeartbeats 200000 in
theorem bX7_buy_24 {S : pv_S} {x1 : Int32} : pv_R mX7_buy 24 [some (.ref 37), some (.int x1)] [] (pv_em S) = if ¬ (S.1 37 9) = 40 then pv_R mX7_buy 36 [some (.ref 37), some (.int x1)] [] (pv_em S) else pv_R mX7_buy 33 [some (.ref 37), some (.int x1)] [] (pv_em S) := Eq.trans (pv_Rstp dX7_buy_24 rfl rfl rfl) (Eq.trans (pv_Rget dX7_buy_25 ffX7_144 (by decide) (pv_ce_37 _ _) rfl) (Eq.trans (pv_Rbp dX7_buy_28 kb_40) (pv_Rbr (tgt := 36) dX7_buy_30 rfl rfl rfl rfl rfl (by decide))))
set_option maxHeartbeats 200000 in
theorem bX7_buy_33 {S : pv_S} {x1 : Int32} : pv_R mX7_buy 33 [some (.ref 37), some (.int x1)] [] (pv_em S) = some (some (.int (-2)), pv_em S) := Eq.trans (pv_Rbp dX7_buy_33 kb_m2) (pv_Rret dX7_buy_35 rfl)
set_option maxHeartbeats 200000 in
theorem bX7_buy_36 {S : pv_S} {x1 : Int32} : pv_R mX7_buy 36 [some (.ref 37), some (.int x1)] [] (pv_em S) = pv_cc (pv_R mX7_buys 0 [some (.ref 37), some (.int x1)] [] (pv_em S)) mX7_buy 41 [some (.ref 37), some (.int x1)] [] := Eq.trans (pv_Rstp dX7_buy_36 rfl rfl rfl) (Eq.trans (pv_Rstp dX7_buy_37 rfl rfl rfl) (pv_Rcall (As := [.ref 37, .int x1]) (rest := []) dX7_buy_38 rfl mfX7_196 rfl rfl rfl rfl rfl))
set_option maxHeartbeats 200000 in
theorem bX7_buy_41 {S : pv_S} {x1 : Int32} : pv_R mX7_buy 41 [some (.ref 37), some (.int x1)] [] (pv_em S) = some (some (.int (S.1 44 (8 : Int32).toNatClampNeg)), pv_em S) := Eq.trans (pv_Rstp dX7_buy_41 rfl rfl rfl) (Eq.trans (pv_Rget dX7_buy_42 ffX7_28 (by decide) (pv_ce_37 _ _) rfl) (Eq.trans (pv_Rbp dX7_buy_45 kb_8) (Eq.trans (pv_Rald dX7_buy_47 (by decide) (pv_ce_44 _ _)) (Eq.trans (if_neg (by decide +kernel)) (pv_Rret dX7_buy_48 rfl)))))
theorem dX7_sell_0 : decode cX7_sell 0 = .ok (.iload_n 1, 1) := by decide +kernel
theorem dX7_sell_1 : decode cX7_sell 1 = .ok (.i2l, 1) := by decide +kernel
theorem dX7_sell_2 : decode cX7_sell 2 = .ok (.lconst 1, 1) := by decide +kernel
theorem dX7_sell_3 : decode cX7_sell 3 = .ok (.ldc2_w 104, 3) := by decide +kernel
theorem dX7_sell_6 : decode cX7_sell 6 = .ok (.invokestatic 75, 3) := by decide +kernel
theorem dX7_sell_9 : decode cX7_sell 9 = .ok (.ifCond .ne 5, 3) := by decide +kernel
theorem dX7_sell_12 : decode cX7_sell 12 = .ok (.iconst (-1), 1) := by decide +kernel
theorem dX7_sell_13 : decode cX7_sell 13 = .ok (.ireturn, 1) := by decide +kernel
theorem dX7_sell_14 : decode cX7_sell 14 = .ok (.aload_n 0, 1) := by decide +kernel
theorem dX7_sell_15 : decode cX7_sell 15 = .ok (.getfield 138, 3) := by decide +kernel
theorem dX7_sell_18 : decode cX7_sell 18 = .ok (.ifCond .ne 6, 3) := by decide +kernel
theorem dX7_sell_21 : decode cX7_sell 21 = .ok (.bipush (-4), 2) := by decide +kernel
theorem dX7_sell_23 : decode cX7_sell 23 = .ok (.ireturn, 1) := by decide +kernel
theorem dX7_sell_24 : decode cX7_sell 24 = .ok (.aload_n 0, 1) := by decide +kernel
theorem dX7_sell_25 : decode cX7_sell 25 = .ok (.getfield 28, 3) := by decide +kernel
theorem dX7_sell_28 : decode cX7_sell 28 = .ok (.bipush 8, 2) := by decide +kernel
theorem dX7_sell_30 : decode cX7_sell 30 = .ok (.iaload, 1) := by decide +kernel
theorem dX7_sell_31 : decode cX7_sell 31 = .ok (.iload_n 1, 1) := by decide +kernel
theorem dX7_sell_32 : decode cX7_sell 32 = .ok (.aload_n 0, 1) := by decide +kernel
theorem dX7_sell_33 : decode cX7_sell 33 = .ok (.invokevirtual 186, 3) := by decide +kernel
theorem dX7_sell_36 : decode cX7_sell 36 = .ok (.imul, 1) := by decide +kernel
theorem dX7_sell_37 : decode cX7_sell 37 = .ok (.if_icmp .ge 6, 3) := by decide +kernel
theorem dX7_sell_40 : decode cX7_sell 40 = .ok (.bipush (-6), 2) := by decide +kernel
theorem dX7_sell_42 : decode cX7_sell 42 = .ok (.ireturn, 1) := by decide +kernel
theorem dX7_sell_43 : decode cX7_sell 43 = .ok (.aload_n 0, 1) := by decide +kernel
theorem dX7_sell_44 : decode cX7_sell 44 = .ok (.getfield 144, 3) := by decide +kernel
theorem dX7_sell_47 : decode cX7_sell 47 = .ok (.bipush 40, 2) := by decide +kernel
theorem dX7_sell_49 : decode cX7_sell 49 = .ok (.if_icmp .ne 6, 3) := by decide +kernel
theorem dX7_sell_52 : decode cX7_sell 52 = .ok (.bipush (-2), 2) := by decide +kernel
theorem dX7_sell_54 : decode cX7_sell 54 = .ok (.ireturn, 1) := by decide +kernel
theorem dX7_sell_55 : decode cX7_sell 55 = .ok (.aload_n 0, 1) := by decide +kernel
theorem dX7_sell_56 : decode cX7_sell 56 = .ok (.iload_n 1, 1) := by decide +kernel
theorem dX7_sell_57 : decode cX7_sell 57 = .ok (.ineg, 1) := by decide +kernel
theorem dX7_sell_58 : decode cX7_sell 58 = .ok (.invokevirtual 196, 3) := by decide +kernel
theorem dX7_sell_61 : decode cX7_sell 61 = .ok (.aload_n 0, 1) := by decide +kernel
theorem dX7_sell_62 : decode cX7_sell 62 = .ok (.getfield 28, 3) := by decide +kernel
theorem dX7_sell_65 : decode cX7_sell 65 = .ok (.bipush 8, 2) := by decide +kernel
theorem dX7_sell_67 : decode cX7_sell 67 = .ok (.iaload, 1) := by decide +kernel
theorem dX7_sell_68 : decode cX7_sell 68 = .ok (.ireturn, 1) := by decide +kernel
set_option maxHeartbeats 200000 in
theorem bX7_sell_0 {S : pv_S} {x1 : Int32} : pv_R mX7_sell 0 [some (.ref 37), some (.int x1)] [] (pv_em S) = pv_cc (pv_R mX7_in 0 [some (.long (Int32.toInt64 x1)), none, some (.long 1), none, some (.long 9), none] [] (pv_em S)) mX7_sell 9 [some (.ref 37), some (.int x1)] [] := Eq.trans (pv_Rstp dX7_sell_0 rfl rfl rfl) (Eq.trans (pv_Rstp dX7_sell_1 rfl rfl rfl) (Eq.trans (pv_Rlc dX7_sell_2 kl_1) (Eq.trans (pv_Rstp dX7_sell_3 rfl rfl rfl) (pv_Rcall (As := [.long (Int32.toInt64 x1), .long 1, .long 9]) (rest := []) dX7_sell_6 rfl mfX7_75 rfl rfl rfl rfl rfl))))
set_option maxHeartbeats 200000 in
theorem bX7_sell_9 {S : pv_S} {x1 u0 : Int32} : pv_R mX7_sell 9 [some (.ref 37), some (.int x1)] [.int u0] (pv_em S) = if ¬ u0 = 0 then pv_R mX7_sell 14 [some (.ref 37), some (.int x1)] [] (pv_em S) else pv_R mX7_sell 12 [some (.ref 37), some (.int x1)] [] (pv_em S) := pv_Rbr (tgt := 14) dX7_sell_9 rfl rfl rfl rfl rfl (by decide)
set_option maxHeartbeats 200000 in
theorem bX7_sell_12 {S : pv_S} {x1 : Int32} : pv_R mX7_sell 12 [some (.ref 37), some (.int x1)] [] (pv_em S) = some (some (.int (-1)), pv_em S) := Eq.trans (pv_Ric dX7_sell_12 ki_m1) (pv_Rret dX7_sell_13 rfl)
set_option maxHeartbeats 200000 in
theorem bX7_sell_14 {S : pv_S} {x1 : Int32} : pv_R mX7_sell 14 [some (.ref 37), some (.int x1)] [] (pv_em S) = if ¬ (S.1 37 4) = 0 then pv_R mX7_sell 24 [some (.ref 37), some (.int x1)] [] (pv_em S) else pv_R mX7_sell 21 [some (.ref 37), some (.int x1)] [] (pv_em S) := Eq.trans (pv_Rstp dX7_sell_14 rfl rfl rfl) (Eq.trans (pv_Rget dX7_sell_15 ffX7_138 (by decide) (pv_ce_37 _ _) rfl) (pv_Rbr (tgt := 24) dX7_sell_18 rfl rfl rfl rfl rfl (by decide)))
set_option maxHeartbeats 200000 in
theorem bX7_sell_21 {S : pv_S} {x1 : Int32} : pv_R mX7_sell 21 [some (.ref 37), some (.int x1)] [] (pv_em S) = some (some (.int (-4)), pv_em S) := Eq.trans (pv_Rbp dX7_sell_21 kb_m4) (pv_Rret dX7_sell_23 rfl)
set_option maxHeartbeats 200000 in
theorem bX7_sell_24 {S : pv_S} {x1 : Int32} : pv_R mX7_sell 24 [some (.ref 37), some (.int x1)] [] (pv_em S) = pv_cc (pv_R mX7_pound 0 [some (.ref 37)] [] (pv_em S)) mX7_sell 36 [some (.ref 37), some (.int x1)] [.int x1, .int (S.1 44 (8 : Int32).toNatClampNeg)] := Eq.trans (pv_Rstp dX7_sell_24 rfl rfl rfl) (Eq.trans (pv_Rget dX7_sell_25 ffX7_28 (by decide) (pv_ce_37 _ _) rfl) (Eq.trans (pv_Rbp dX7_sell_28 kb_8) (Eq.trans (pv_Rald dX7_sell_30 (by decide) (pv_ce_44 _ _)) (Eq.trans (if_neg (by decide +kernel)) (Eq.trans (pv_Rstp dX7_sell_31 rfl rfl rfl) (Eq.trans (pv_Rstp dX7_sell_32 rfl rfl rfl) (pv_Rcall (As := [.ref 37]) (rest := [.int x1, .int (S.1 44 (8 : Int32).toNatClampNeg)]) dX7_sell_33 rfl mfX7_186 rfl rfl rfl rfl rfl)))))))
set_option maxHeartbeats 200000 in
theorem bX7_sell_36 {S : pv_S} {x1 u0 u1 u2 : Int32} : pv_R mX7_sell 36 [some (.ref 37), some (.int x1)] [.int u0, .int u1, .int u2] (pv_em S) = if (u1 * u0) ≤ u2 then pv_R mX7_sell 43 [some (.ref 37), some (.int x1)] [] (pv_em S) else pv_R mX7_sell 40 [some (.ref 37), some (.int x1)] [] (pv_em S) := Eq.trans (pv_Rstp dX7_sell_36 rfl rfl rfl) (pv_Rbr (tgt := 43) dX7_sell_37 rfl rfl rfl rfl rfl (by decide))
set_option maxHeartbeats 200000 in
theorem bX7_sell_40 {S : pv_S} {x1 : Int32} : pv_R mX7_sell 40 [some (.ref 37), some (.int x1)] [] (pv_em S) = some (some (.int (-6)), pv_em S) := Eq.trans (pv_Rbp dX7_sell_40 kb_m6) (pv_Rret dX7_sell_42 rfl)
set_option maxHeartbeats 200000 in
theorem bX7_sell_43 {S : pv_S} {x1 : Int32} : pv_R mX7_sell 43 [some (.ref 37), some (.int x1)] [] (pv_em S) = if ¬ (S.1 37 9) = 40 then pv_R mX7_sell 55 [some (.ref 37), some (.int x1)] [] (pv_em S) else pv_R mX7_sell 52 [some (.ref 37), some (.int x1)] [] (pv_em S) := Eq.trans (pv_Rstp dX7_sell_43 rfl rfl rfl) (Eq.trans (pv_Rget dX7_sell_44 ffX7_144 (by decide) (pv_ce_37 _ _) rfl) (Eq.trans (pv_Rbp dX7_sell_47 kb_40) (pv_Rbr (tgt := 55) dX7_sell_49 rfl rfl rfl rfl rfl (by decide))))
set_option maxHeartbeats 200000 in
theorem bX7_sell_52 {S : pv_S} {x1 : Int32} : pv_R mX7_sell 52 [some (.ref 37), some (.int x1)] [] (pv_em S) = some (some (.int (-2)), pv_em S) := Eq.trans (pv_Rbp dX7_sell_52 kb_m2) (pv_Rret dX7_sell_54 rfl)
set_option maxHeartbeats 200000 in
theorem bX7_sell_55 {S : pv_S} {x1 : Int32} : pv_R mX7_sell 55 [some (.ref 37), some (.int x1)] [] (pv_em S) = pv_cc (pv_R mX7_buys 0 [some (.ref 37), some (.int (-x1))] [] (pv_em S)) mX7_sell 61 [some (.ref 37), some (.int x1)] [] := Eq.trans (pv_Rstp dX7_sell_55 rfl rfl rfl) (Eq.trans (pv_Rstp dX7_sell_56 rfl rfl rfl) (Eq.trans (pv_Rstp dX7_sell_57 rfl rfl rfl) (pv_Rcall (As := [.ref 37, .int (-x1)]) (rest := []) dX7_sell_58 rfl mfX7_196 rfl rfl rfl rfl rfl)))
set_option maxHeartbeats 200000 in
theorem bX7_sell_61 {S : pv_S} {x1 : Int32} : pv_R mX7_sell 61 [some (.ref 37), some (.int x1)] [] (pv_em S) = some (some (.int (S.1 44 (8 : Int32).toNatClampNeg)), pv_em S) := Eq.trans (pv_Rstp dX7_sell_61 rfl rfl rfl) (Eq.trans (pv_Rget dX7_sell_62 ffX7_28 (by decide) (pv_ce_37 _ _) rfl) (Eq.trans (pv_Rbp dX7_sell_65 kb_8) (Eq.trans (pv_Rald dX7_sell_67 (by decide) (pv_ce_44 _ _)) (Eq.trans (if_neg (by decide +kernel)) (pv_Rret dX7_sell_68 rfl)))))
theorem dX7_rule_0 : decode cX7_rule 0 = .ok (.aload_n 0, 1) := by decide +kernel
theorem dX7_rule_1 : decode cX7_rule 1 = .ok (.iload_n 1, 1) := by decide +kernel
theorem dX7_rule_2 : decode cX7_rule 2 = .ok (.invokevirtual 165, 3) := by decide +kernel
theorem dX7_rule_5 : decode cX7_rule 5 = .ok (.ifCond .ne 5, 3) := by decide +kernel
theorem dX7_rule_8 : decode cX7_rule 8 = .ok (.iconst (-1), 1) := by decide +kernel
theorem dX7_rule_9 : decode cX7_rule 9 = .ok (.ireturn, 1) := by decide +kernel
theorem dX7_rule_10 : decode cX7_rule 10 = .ok (.aload_n 0, 1) := by decide +kernel
theorem dX7_rule_11 : decode cX7_rule 11 = .ok (.getfield 28, 3) := by decide +kernel
theorem dX7_rule_14 : decode cX7_rule 14 = .ok (.bipush 9, 2) := by decide +kernel
theorem dX7_rule_16 : decode cX7_rule 16 = .ok (.iaload, 1) := by decide +kernel
theorem dX7_rule_17 : decode cX7_rule 17 = .ok (.iload_n 1, 1) := by decide +kernel
theorem dX7_rule_18 : decode cX7_rule 18 = .ok (.if_icmp .ne 6, 3) := by decide +kernel
theorem dX7_rule_21 : decode cX7_rule 21 = .ok (.bipush (-4), 2) := by decide +kernel
theorem dX7_rule_23 : decode cX7_rule 23 = .ok (.ireturn, 1) := by decide +kernel
theorem dX7_rule_24 : decode cX7_rule 24 = .ok (.aload_n 0, 1) := by decide +kernel
theorem dX7_rule_25 : decode cX7_rule 25 = .ok (.getfield 144, 3) := by decide +kernel
theorem dX7_rule_28 : decode cX7_rule 28 = .ok (.bipush 40, 2) := by decide +kernel
theorem dX7_rule_30 : decode cX7_rule 30 = .ok (.if_icmp .ne 6, 3) := by decide +kernel
theorem dX7_rule_33 : decode cX7_rule 33 = .ok (.bipush (-2), 2) := by decide +kernel
theorem dX7_rule_35 : decode cX7_rule 35 = .ok (.ireturn, 1) := by decide +kernel
theorem dX7_rule_36 : decode cX7_rule 36 = .ok (.aload_n 0, 1) := by decide +kernel
theorem dX7_rule_37 : decode cX7_rule 37 = .ok (.invokevirtual 183, 3) := by decide +kernel
theorem dX7_rule_40 : decode cX7_rule 40 = .ok (.aload_n 0, 1) := by decide +kernel
theorem dX7_rule_41 : decode cX7_rule 41 = .ok (.getfield 28, 3) := by decide +kernel
theorem dX7_rule_44 : decode cX7_rule 44 = .ok (.bipush 9, 2) := by decide +kernel
theorem dX7_rule_46 : decode cX7_rule 46 = .ok (.iload_n 1, 1) := by decide +kernel
theorem dX7_rule_47 : decode cX7_rule 47 = .ok (.iastore, 1) := by decide +kernel
theorem dX7_rule_48 : decode cX7_rule 48 = .ok (.aload_n 0, 1) := by decide +kernel
theorem dX7_rule_49 : decode cX7_rule 49 = .ok (.invokevirtual 186, 3) := by decide +kernel
theorem dX7_rule_52 : decode cX7_rule 52 = .ok (.ireturn, 1) := by decide +kernel
set_option maxHeartbeats 200000 in
theorem bX7_rule_0 {S : pv_S} {x1 : Int32} : pv_R mX7_rule 0 [some (.ref 37), some (.int x1)] [] (pv_em S) = pv_cc (pv_R mX7_isCat 0 [some (.ref 37), some (.int x1)] [] (pv_em S)) mX7_rule 5 [some (.ref 37), some (.int x1)] [] := Eq.trans (pv_Rstp dX7_rule_0 rfl rfl rfl) (Eq.trans (pv_Rstp dX7_rule_1 rfl rfl rfl) (pv_Rcall (As := [.ref 37, .int x1]) (rest := []) dX7_rule_2 rfl mfX7_165 rfl rfl rfl rfl rfl))
set_option maxHeartbeats 200000 in
theorem bX7_rule_5 {S : pv_S} {x1 u0 : Int32} : pv_R mX7_rule 5 [some (.ref 37), some (.int x1)] [.int u0] (pv_em S) = if ¬ u0 = 0 then pv_R mX7_rule 10 [some (.ref 37), some (.int x1)] [] (pv_em S) else pv_R mX7_rule 8 [some (.ref 37), some (.int x1)] [] (pv_em S) := pv_Rbr (tgt := 10) dX7_rule_5 rfl rfl rfl rfl rfl (by decide)
set_option maxHeartbeats 200000 in
theorem bX7_rule_8 {S : pv_S} {x1 : Int32} : pv_R mX7_rule 8 [some (.ref 37), some (.int x1)] [] (pv_em S) = some (some (.int (-1)), pv_em S) := Eq.trans (pv_Ric dX7_rule_8 ki_m1) (pv_Rret dX7_rule_9 rfl)
set_option maxHeartbeats 200000 in
theorem bX7_rule_10 {S : pv_S} {x1 : Int32} : pv_R mX7_rule 10 [some (.ref 37), some (.int x1)] [] (pv_em S) = if ¬ (S.1 44 (9 : Int32).toNatClampNeg) = x1 then pv_R mX7_rule 24 [some (.ref 37), some (.int x1)] [] (pv_em S) else pv_R mX7_rule 21 [some (.ref 37), some (.int x1)] [] (pv_em S) := Eq.trans (pv_Rstp dX7_rule_10 rfl rfl rfl) (Eq.trans (pv_Rget dX7_rule_11 ffX7_28 (by decide) (pv_ce_37 _ _) rfl) (Eq.trans (pv_Rbp dX7_rule_14 kb_9) (Eq.trans (pv_Rald dX7_rule_16 (by decide) (pv_ce_44 _ _)) (Eq.trans (if_neg (by decide +kernel)) (Eq.trans (pv_Rstp dX7_rule_17 rfl rfl rfl) (pv_Rbr (tgt := 24) dX7_rule_18 rfl rfl rfl rfl rfl (by decide)))))))
set_option maxHeartbeats 200000 in
theorem bX7_rule_21 {S : pv_S} {x1 : Int32} : pv_R mX7_rule 21 [some (.ref 37), some (.int x1)] [] (pv_em S) = some (some (.int (-4)), pv_em S) := Eq.trans (pv_Rbp dX7_rule_21 kb_m4) (pv_Rret dX7_rule_23 rfl)
set_option maxHeartbeats 200000 in
theorem bX7_rule_24 {S : pv_S} {x1 : Int32} : pv_R mX7_rule 24 [some (.ref 37), some (.int x1)] [] (pv_em S) = if ¬ (S.1 37 9) = 40 then pv_R mX7_rule 36 [some (.ref 37), some (.int x1)] [] (pv_em S) else pv_R mX7_rule 33 [some (.ref 37), some (.int x1)] [] (pv_em S) := Eq.trans (pv_Rstp dX7_rule_24 rfl rfl rfl) (Eq.trans (pv_Rget dX7_rule_25 ffX7_144 (by decide) (pv_ce_37 _ _) rfl) (Eq.trans (pv_Rbp dX7_rule_28 kb_40) (pv_Rbr (tgt := 36) dX7_rule_30 rfl rfl rfl rfl rfl (by decide))))
set_option maxHeartbeats 200000 in
theorem bX7_rule_33 {S : pv_S} {x1 : Int32} : pv_R mX7_rule 33 [some (.ref 37), some (.int x1)] [] (pv_em S) = some (some (.int (-2)), pv_em S) := Eq.trans (pv_Rbp dX7_rule_33 kb_m2) (pv_Rret dX7_rule_35 rfl)
set_option maxHeartbeats 200000 in
theorem bX7_rule_36 {S : pv_S} {x1 : Int32} : pv_R mX7_rule 36 [some (.ref 37), some (.int x1)] [] (pv_em S) = pv_cc (pv_R mX7_remember 0 [some (.ref 37)] [] (pv_em S)) mX7_rule 40 [some (.ref 37), some (.int x1)] [] := Eq.trans (pv_Rstp dX7_rule_36 rfl rfl rfl) (pv_Rcall (As := [.ref 37]) (rest := []) dX7_rule_37 rfl mfX7_183 rfl rfl rfl rfl rfl)
set_option maxHeartbeats 200000 in
theorem bX7_rule_40 {S : pv_S} {x1 : Int32} : pv_R mX7_rule 40 [some (.ref 37), some (.int x1)] [] (pv_em S) = pv_cc (pv_R mX7_pound 0 [some (.ref 37)] [] (pv_em (pv_si S 44 (9 : Int32).toNatClampNeg x1))) mX7_rule 52 [some (.ref 37), some (.int x1)] [] := Eq.trans (pv_Rstp dX7_rule_40 rfl rfl rfl) (Eq.trans (pv_Rget dX7_rule_41 ffX7_28 (by decide) (pv_ce_37 _ _) rfl) (Eq.trans (pv_Rbp dX7_rule_44 kb_9) (Eq.trans (pv_Rstp dX7_rule_46 rfl rfl rfl) (Eq.trans (pv_Rast dX7_rule_47 (by decide) (pv_ce_44 _ _) (pv_em_si rfl)) (Eq.trans (if_neg (by decide +kernel)) (Eq.trans (pv_Rstp dX7_rule_48 rfl rfl rfl) (pv_Rcall (As := [.ref 37]) (rest := []) dX7_rule_49 rfl mfX7_186 rfl rfl rfl rfl rfl)))))))
set_option maxHeartbeats 200000 in
theorem bX7_rule_52 {S : pv_S} {x1 u0 : Int32} : pv_R mX7_rule 52 [some (.ref 37), some (.int x1)] [.int u0] (pv_em S) = some (some (.int u0), pv_em S) := pv_Rret dX7_rule_52 rfl
theorem dX7_undo_0 : decode cX7_undo 0 = .ok (.iload_n 1, 1) := by decide +kernel
theorem dX7_undo_1 : decode cX7_undo 1 = .ok (.i2l, 1) := by decide +kernel
theorem dX7_undo_2 : decode cX7_undo 2 = .ok (.lconst 0, 1) := by decide +kernel
theorem dX7_undo_3 : decode cX7_undo 3 = .ok (.aload_n 0, 1) := by decide +kernel
theorem dX7_undo_4 : decode cX7_undo 4 = .ok (.getfield 144, 3) := by decide +kernel
theorem dX7_undo_7 : decode cX7_undo 7 = .ok (.i2l, 1) := by decide +kernel
theorem dX7_undo_8 : decode cX7_undo 8 = .ok (.invokestatic 75, 3) := by decide +kernel
theorem dX7_undo_11 : decode cX7_undo 11 = .ok (.ifCond .ne 5, 3) := by decide +kernel
theorem dX7_undo_14 : decode cX7_undo 14 = .ok (.iconst (-1), 1) := by decide +kernel
theorem dX7_undo_15 : decode cX7_undo 15 = .ok (.ireturn, 1) := by decide +kernel
theorem dX7_undo_16 : decode cX7_undo 16 = .ok (.aload_n 0, 1) := by decide +kernel
theorem dX7_undo_17 : decode cX7_undo 17 = .ok (.getfield 144, 3) := by decide +kernel
theorem dX7_undo_20 : decode cX7_undo 20 = .ok (.iload_n 1, 1) := by decide +kernel
theorem dX7_undo_21 : decode cX7_undo 21 = .ok (.isub, 1) := by decide +kernel
theorem dX7_undo_22 : decode cX7_undo 22 = .ok (.istore_n 2, 1) := by decide +kernel
theorem dX7_undo_23 : decode cX7_undo 23 = .ok (.iload_n 2, 1) := by decide +kernel
theorem dX7_undo_24 : decode cX7_undo 24 = .ok (.ifCond .le 21, 3) := by decide +kernel
theorem dX7_undo_27 : decode cX7_undo 27 = .ok (.aload_n 0, 1) := by decide +kernel
theorem dX7_undo_28 : decode cX7_undo 28 = .ok (.getfield 31, 3) := by decide +kernel
theorem dX7_undo_31 : decode cX7_undo 31 = .ok (.bipush 10, 2) := by decide +kernel
theorem dX7_undo_33 : decode cX7_undo 33 = .ok (.iload_n 1, 1) := by decide +kernel
theorem dX7_undo_34 : decode cX7_undo 34 = .ok (.imul, 1) := by decide +kernel
theorem dX7_undo_35 : decode cX7_undo 35 = .ok (.aload_n 0, 1) := by decide +kernel
theorem dX7_undo_36 : decode cX7_undo 36 = .ok (.getfield 28, 3) := by decide +kernel
theorem dX7_undo_39 : decode cX7_undo 39 = .ok (.iconst 0, 1) := by decide +kernel
theorem dX7_undo_40 : decode cX7_undo 40 = .ok (.bipush 10, 2) := by decide +kernel
theorem dX7_undo_42 : decode cX7_undo 42 = .ok (.invokestatic 179, 3) := by decide +kernel
theorem dX7_undo_45 : decode cX7_undo 45 = .ok (.aload_n 0, 1) := by decide +kernel
theorem dX7_undo_46 : decode cX7_undo 46 = .ok (.iload_n 1, 1) := by decide +kernel
theorem dX7_undo_47 : decode cX7_undo 47 = .ok (.putfield 144, 3) := by decide +kernel
theorem dX7_undo_50 : decode cX7_undo 50 = .ok (.iload_n 2, 1) := by decide +kernel
theorem dX7_undo_51 : decode cX7_undo 51 = .ok (.ireturn, 1) := by decide +kernel
set_option maxHeartbeats 200000 in
theorem bX7_undo_0 {S : pv_S} {x1 : Int32} {a2 : Option Value} : pv_R mX7_undo 0 [some (.ref 37), some (.int x1), a2] [] (pv_em S) = pv_cc (pv_R mX7_in 0 [some (.long (Int32.toInt64 x1)), none, some (.long 0), none, some (.long (Int32.toInt64 (S.1 37 9))), none] [] (pv_em S)) mX7_undo 11 [some (.ref 37), some (.int x1), a2] [] := Eq.trans (pv_Rstp dX7_undo_0 rfl rfl rfl) (Eq.trans (pv_Rstp dX7_undo_1 rfl rfl rfl) (Eq.trans (pv_Rlc dX7_undo_2 kl_0) (Eq.trans (pv_Rstp dX7_undo_3 rfl rfl rfl) (Eq.trans (pv_Rget dX7_undo_4 ffX7_144 (by decide) (pv_ce_37 _ _) rfl) (Eq.trans (pv_Rstp dX7_undo_7 rfl rfl rfl) (pv_Rcall (As := [.long (Int32.toInt64 x1), .long 0, .long (Int32.toInt64 (S.1 37 9))]) (rest := []) dX7_undo_8 rfl mfX7_75 rfl rfl rfl rfl rfl))))))
set_option maxHeartbeats 200000 in
theorem bX7_undo_11 {S : pv_S} {x1 u0 : Int32} {a2 : Option Value} : pv_R mX7_undo 11 [some (.ref 37), some (.int x1), a2] [.int u0] (pv_em S) = if ¬ u0 = 0 then pv_R mX7_undo 16 [some (.ref 37), some (.int x1), a2] [] (pv_em S) else pv_R mX7_undo 14 [some (.ref 37), some (.int x1), a2] [] (pv_em S) := pv_Rbr (tgt := 16) dX7_undo_11 rfl rfl rfl rfl rfl (by decide)
set_option maxHeartbeats 200000 in
theorem bX7_undo_14 {S : pv_S} {x1 : Int32} {a2 : Option Value} : pv_R mX7_undo 14 [some (.ref 37), some (.int x1), a2] [] (pv_em S) = some (some (.int (-1)), pv_em S) := Eq.trans (pv_Ric dX7_undo_14 ki_m1) (pv_Rret dX7_undo_15 rfl)
set_option maxHeartbeats 200000 in
theorem bX7_undo_16 {S : pv_S} {x1 : Int32} {a2 : Option Value} : pv_R mX7_undo 16 [some (.ref 37), some (.int x1), a2] [] (pv_em S) = if ((S.1 37 9) - x1) ≤ 0 then pv_R mX7_undo 45 [some (.ref 37), some (.int x1), some (.int ((S.1 37 9) - x1))] [] (pv_em S) else pv_R mX7_undo 27 [some (.ref 37), some (.int x1), some (.int ((S.1 37 9) - x1))] [] (pv_em S) := Eq.trans (pv_Rstp dX7_undo_16 rfl rfl rfl) (Eq.trans (pv_Rget dX7_undo_17 ffX7_144 (by decide) (pv_ce_37 _ _) rfl) (Eq.trans (pv_Rstp dX7_undo_20 rfl rfl rfl) (Eq.trans (pv_Rstp dX7_undo_21 rfl rfl rfl) (Eq.trans (pv_Rstp dX7_undo_22 rfl rfl rfl) (Eq.trans (pv_Rstp dX7_undo_23 rfl rfl rfl) (pv_Rbr (tgt := 45) dX7_undo_24 rfl rfl rfl rfl rfl (by decide)))))))
set_option maxHeartbeats 200000 in
theorem bX7_undo_27 {S : pv_S} {x1 x2 : Int32} : pv_R mX7_undo 27 [some (.ref 37), some (.int x1), some (.int x2)] [] (pv_em S) = pv_cc (pv_R mX7_copies 0 [some (.ref 45), some (.int (10 * x1)), some (.ref 44), some (.int 0), some (.int 10), none] [] (pv_em S)) mX7_undo 45 [some (.ref 37), some (.int x1), some (.int x2)] [] := Eq.trans (pv_Rstp dX7_undo_27 rfl rfl rfl) (Eq.trans (pv_Rget dX7_undo_28 ffX7_31 (by decide) (pv_ce_37 _ _) rfl) (Eq.trans (pv_Rbp dX7_undo_31 kb_10) (Eq.trans (pv_Rstp dX7_undo_33 rfl rfl rfl) (Eq.trans (pv_Rstp dX7_undo_34 rfl rfl rfl) (Eq.trans (pv_Rstp dX7_undo_35 rfl rfl rfl) (Eq.trans (pv_Rget dX7_undo_36 ffX7_28 (by decide) (pv_ce_37 _ _) rfl) (Eq.trans (pv_Ric dX7_undo_39 ki_0) (Eq.trans (pv_Rbp dX7_undo_40 kb_10) (pv_Rcall (As := [.ref 45, .int (10 * x1), .ref 44, .int 0, .int 10]) (rest := []) dX7_undo_42 rfl mfX7_179 rfl rfl rfl rfl rfl)))))))))
set_option maxHeartbeats 200000 in
theorem bX7_undo_45 {S : pv_S} {x1 x2 : Int32} : pv_R mX7_undo 45 [some (.ref 37), some (.int x1), some (.int x2)] [] (pv_em S) = some (some (.int x2), pv_em (pv_si S 37 9 x1)) := Eq.trans (pv_Rstp dX7_undo_45 rfl rfl rfl) (Eq.trans (pv_Rstp dX7_undo_46 rfl rfl rfl) (Eq.trans (pv_Rput dX7_undo_47 ffX7_144 rfl rfl rfl (by decide) (pv_ce_37 _ _) (Nat.le_of_ble_eq_true rfl) (pv_em_si rfl)) (Eq.trans (pv_Rstp dX7_undo_50 rfl rfl rfl) (pv_Rret dX7_undo_51 rfl))))
theorem dX7_keep_0 : decode cX7_keep 0 = .ok (.iload_n 1, 1) := by decide +kernel
theorem dX7_keep_1 : decode cX7_keep 1 = .ok (.i2l, 1) := by decide +kernel
theorem dX7_keep_2 : decode cX7_keep 2 = .ok (.lconst 0, 1) := by decide +kernel
theorem dX7_keep_3 : decode cX7_keep 3 = .ok (.ldc2_w 199, 3) := by decide +kernel
theorem dX7_keep_6 : decode cX7_keep 6 = .ok (.invokestatic 75, 3) := by decide +kernel
theorem dX7_keep_9 : decode cX7_keep 9 = .ok (.ifCond .ne 5, 3) := by decide +kernel
theorem dX7_keep_12 : decode cX7_keep 12 = .ok (.iconst (-1), 1) := by decide +kernel
theorem dX7_keep_13 : decode cX7_keep 13 = .ok (.ireturn, 1) := by decide +kernel
theorem dX7_keep_14 : decode cX7_keep 14 = .ok (.aload_n 0, 1) := by decide +kernel
theorem dX7_keep_15 : decode cX7_keep 15 = .ok (.getfield 138, 3) := by decide +kernel
theorem dX7_keep_18 : decode cX7_keep 18 = .ok (.ifCond .ne 6, 3) := by decide +kernel
theorem dX7_keep_21 : decode cX7_keep 21 = .ok (.bipush (-4), 2) := by decide +kernel
theorem dX7_keep_23 : decode cX7_keep 23 = .ok (.ireturn, 1) := by decide +kernel
theorem dX7_keep_24 : decode cX7_keep 24 = .ok (.aload_n 0, 1) := by decide +kernel
theorem dX7_keep_25 : decode cX7_keep 25 = .ok (.getfield 28, 3) := by decide +kernel
theorem dX7_keep_28 : decode cX7_keep 28 = .ok (.iconst 0, 1) := by decide +kernel
theorem dX7_keep_29 : decode cX7_keep 29 = .ok (.aload_n 0, 1) := by decide +kernel
theorem dX7_keep_30 : decode cX7_keep 30 = .ok (.getfield 34, 3) := by decide +kernel
theorem dX7_keep_33 : decode cX7_keep 33 = .ok (.sipush 411, 3) := by decide +kernel
theorem dX7_keep_36 : decode cX7_keep 36 = .ok (.iload_n 1, 1) := by decide +kernel
theorem dX7_keep_37 : decode cX7_keep 37 = .ok (.imul, 1) := by decide +kernel
theorem dX7_keep_38 : decode cX7_keep 38 = .ok (.bipush 10, 2) := by decide +kernel
theorem dX7_keep_40 : decode cX7_keep 40 = .ok (.invokestatic 179, 3) := by decide +kernel
theorem dX7_keep_43 : decode cX7_keep 43 = .ok (.aload_n 0, 1) := by decide +kernel
theorem dX7_keep_44 : decode cX7_keep 44 = .ok (.getfield 31, 3) := by decide +kernel
theorem dX7_keep_47 : decode cX7_keep 47 = .ok (.iconst 0, 1) := by decide +kernel
theorem dX7_keep_48 : decode cX7_keep 48 = .ok (.aload_n 0, 1) := by decide +kernel
theorem dX7_keep_49 : decode cX7_keep 49 = .ok (.getfield 34, 3) := by decide +kernel
theorem dX7_keep_52 : decode cX7_keep 52 = .ok (.sipush 411, 3) := by decide +kernel
theorem dX7_keep_55 : decode cX7_keep 55 = .ok (.iload_n 1, 1) := by decide +kernel
theorem dX7_keep_56 : decode cX7_keep 56 = .ok (.imul, 1) := by decide +kernel
theorem dX7_keep_57 : decode cX7_keep 57 = .ok (.bipush 10, 2) := by decide +kernel
theorem dX7_keep_59 : decode cX7_keep 59 = .ok (.iadd, 1) := by decide +kernel
theorem dX7_keep_60 : decode cX7_keep 60 = .ok (.sipush 400, 3) := by decide +kernel
theorem dX7_keep_63 : decode cX7_keep 63 = .ok (.invokestatic 179, 3) := by decide +kernel
theorem dX7_keep_66 : decode cX7_keep 66 = .ok (.aload_n 0, 1) := by decide +kernel
theorem dX7_keep_67 : decode cX7_keep 67 = .ok (.getfield 34, 3) := by decide +kernel
theorem dX7_keep_70 : decode cX7_keep 70 = .ok (.sipush 411, 3) := by decide +kernel
theorem dX7_keep_73 : decode cX7_keep 73 = .ok (.iload_n 1, 1) := by decide +kernel
theorem dX7_keep_74 : decode cX7_keep 74 = .ok (.imul, 1) := by decide +kernel
theorem dX7_keep_75 : decode cX7_keep 75 = .ok (.sipush 410, 3) := by decide +kernel
theorem dX7_keep_78 : decode cX7_keep 78 = .ok (.iadd, 1) := by decide +kernel
theorem dX7_keep_79 : decode cX7_keep 79 = .ok (.aload_n 0, 1) := by decide +kernel
theorem dX7_keep_80 : decode cX7_keep 80 = .ok (.getfield 144, 3) := by decide +kernel
theorem dX7_keep_83 : decode cX7_keep 83 = .ok (.iastore, 1) := by decide +kernel
theorem dX7_keep_84 : decode cX7_keep 84 = .ok (.aload_n 0, 1) := by decide +kernel
theorem dX7_keep_85 : decode cX7_keep 85 = .ok (.getfield 37, 3) := by decide +kernel
theorem dX7_keep_88 : decode cX7_keep 88 = .ok (.iload_n 1, 1) := by decide +kernel
theorem dX7_keep_89 : decode cX7_keep 89 = .ok (.iconst 1, 1) := by decide +kernel
theorem dX7_keep_90 : decode cX7_keep 90 = .ok (.bastore, 1) := by decide +kernel
theorem dX7_keep_91 : decode cX7_keep 91 = .ok (.aload_n 0, 1) := by decide +kernel
theorem dX7_keep_92 : decode cX7_keep 92 = .ok (.getfield 144, 3) := by decide +kernel
theorem dX7_keep_95 : decode cX7_keep 95 = .ok (.ireturn, 1) := by decide +kernel
set_option maxHeartbeats 200000 in
theorem bX7_keep_0 {S : pv_S} {x1 : Int32} : pv_R mX7_keep 0 [some (.ref 37), some (.int x1)] [] (pv_em S) = pv_cc (pv_R mX7_in 0 [some (.long (Int32.toInt64 x1)), none, some (.long 0), none, some (.long 2), none] [] (pv_em S)) mX7_keep 9 [some (.ref 37), some (.int x1)] [] := Eq.trans (pv_Rstp dX7_keep_0 rfl rfl rfl) (Eq.trans (pv_Rstp dX7_keep_1 rfl rfl rfl) (Eq.trans (pv_Rlc dX7_keep_2 kl_0) (Eq.trans (pv_Rstp dX7_keep_3 rfl rfl rfl) (pv_Rcall (As := [.long (Int32.toInt64 x1), .long 0, .long 2]) (rest := []) dX7_keep_6 rfl mfX7_75 rfl rfl rfl rfl rfl))))
set_option maxHeartbeats 200000 in
theorem bX7_keep_9 {S : pv_S} {x1 u0 : Int32} : pv_R mX7_keep 9 [some (.ref 37), some (.int x1)] [.int u0] (pv_em S) = if ¬ u0 = 0 then pv_R mX7_keep 14 [some (.ref 37), some (.int x1)] [] (pv_em S) else pv_R mX7_keep 12 [some (.ref 37), some (.int x1)] [] (pv_em S) := pv_Rbr (tgt := 14) dX7_keep_9 rfl rfl rfl rfl rfl (by decide)
set_option maxHeartbeats 200000 in
theorem bX7_keep_12 {S : pv_S} {x1 : Int32} : pv_R mX7_keep 12 [some (.ref 37), some (.int x1)] [] (pv_em S) = some (some (.int (-1)), pv_em S) := Eq.trans (pv_Ric dX7_keep_12 ki_m1) (pv_Rret dX7_keep_13 rfl)
set_option maxHeartbeats 200000 in
theorem bX7_keep_14 {S : pv_S} {x1 : Int32} : pv_R mX7_keep 14 [some (.ref 37), some (.int x1)] [] (pv_em S) = if ¬ (S.1 37 4) = 0 then pv_R mX7_keep 24 [some (.ref 37), some (.int x1)] [] (pv_em S) else pv_R mX7_keep 21 [some (.ref 37), some (.int x1)] [] (pv_em S) := Eq.trans (pv_Rstp dX7_keep_14 rfl rfl rfl) (Eq.trans (pv_Rget dX7_keep_15 ffX7_138 (by decide) (pv_ce_37 _ _) rfl) (pv_Rbr (tgt := 24) dX7_keep_18 rfl rfl rfl rfl rfl (by decide)))
set_option maxHeartbeats 200000 in
theorem bX7_keep_21 {S : pv_S} {x1 : Int32} : pv_R mX7_keep 21 [some (.ref 37), some (.int x1)] [] (pv_em S) = some (some (.int (-4)), pv_em S) := Eq.trans (pv_Rbp dX7_keep_21 kb_m4) (pv_Rret dX7_keep_23 rfl)
set_option maxHeartbeats 200000 in
theorem bX7_keep_24 {S : pv_S} {x1 : Int32} : pv_R mX7_keep 24 [some (.ref 37), some (.int x1)] [] (pv_em S) = pv_cc (pv_R mX7_copies 0 [some (.ref 44), some (.int 0), some (.ref 46), some (.int (411 * x1)), some (.int 10), none] [] (pv_em S)) mX7_keep 43 [some (.ref 37), some (.int x1)] [] := Eq.trans (pv_Rstp dX7_keep_24 rfl rfl rfl) (Eq.trans (pv_Rget dX7_keep_25 ffX7_28 (by decide) (pv_ce_37 _ _) rfl) (Eq.trans (pv_Ric dX7_keep_28 ki_0) (Eq.trans (pv_Rstp dX7_keep_29 rfl rfl rfl) (Eq.trans (pv_Rget dX7_keep_30 ffX7_34 (by decide) (pv_ce_37 _ _) rfl) (Eq.trans (pv_Rsp dX7_keep_33 ks_411) (Eq.trans (pv_Rstp dX7_keep_36 rfl rfl rfl) (Eq.trans (pv_Rstp dX7_keep_37 rfl rfl rfl) (Eq.trans (pv_Rbp dX7_keep_38 kb_10) (pv_Rcall (As := [.ref 44, .int 0, .ref 46, .int (411 * x1), .int 10]) (rest := []) dX7_keep_40 rfl mfX7_179 rfl rfl rfl rfl rfl)))))))))
set_option maxHeartbeats 200000 in
theorem bX7_keep_43 {S : pv_S} {x1 : Int32} : pv_R mX7_keep 43 [some (.ref 37), some (.int x1)] [] (pv_em S) = pv_cc (pv_R mX7_copies 0 [some (.ref 45), some (.int 0), some (.ref 46), some (.int ((411 * x1) + 10)), some (.int 400), none] [] (pv_em S)) mX7_keep 66 [some (.ref 37), some (.int x1)] [] := Eq.trans (pv_Rstp dX7_keep_43 rfl rfl rfl) (Eq.trans (pv_Rget dX7_keep_44 ffX7_31 (by decide) (pv_ce_37 _ _) rfl) (Eq.trans (pv_Ric dX7_keep_47 ki_0) (Eq.trans (pv_Rstp dX7_keep_48 rfl rfl rfl) (Eq.trans (pv_Rget dX7_keep_49 ffX7_34 (by decide) (pv_ce_37 _ _) rfl) (Eq.trans (pv_Rsp dX7_keep_52 ks_411) (Eq.trans (pv_Rstp dX7_keep_55 rfl rfl rfl) (Eq.trans (pv_Rstp dX7_keep_56 rfl rfl rfl) (Eq.trans (pv_Rbp dX7_keep_57 kb_10) (Eq.trans (pv_Rstp dX7_keep_59 rfl rfl rfl) (Eq.trans (pv_Rsp dX7_keep_60 ks_400) (pv_Rcall (As := [.ref 45, .int 0, .ref 46, .int ((411 * x1) + 10), .int 400]) (rest := []) dX7_keep_63 rfl mfX7_179 rfl rfl rfl rfl rfl)))))))))))
set_option maxHeartbeats 200000 in
theorem bX7_keep_66 {S : pv_S} {x1 : Int32} : pv_R mX7_keep 66 [some (.ref 37), some (.int x1)] [] (pv_em S) = if ((411 * x1) + 410) < 0 ∨ 1233 ≤ (((411 * x1) + 410)).toNatClampNeg then none else if x1 < 0 ∨ 3 ≤ x1.toNatClampNeg then none else some (some (.int ((pv_si (pv_si S 46 (((411 * x1) + 410)).toNatClampNeg (S.1 37 9)) 47 x1.toNatClampNeg (vp_nar .boolean 1)).1 37 9)), pv_em (pv_si (pv_si S 46 (((411 * x1) + 410)).toNatClampNeg (S.1 37 9)) 47 x1.toNatClampNeg (vp_nar .boolean 1))) := Eq.trans (pv_Rstp dX7_keep_66 rfl rfl rfl) (Eq.trans (pv_Rget dX7_keep_67 ffX7_34 (by decide) (pv_ce_37 _ _) rfl) (Eq.trans (pv_Rsp dX7_keep_70 ks_411) (Eq.trans (pv_Rstp dX7_keep_73 rfl rfl rfl) (Eq.trans (pv_Rstp dX7_keep_74 rfl rfl rfl) (Eq.trans (pv_Rsp dX7_keep_75 ks_410) (Eq.trans (pv_Rstp dX7_keep_78 rfl rfl rfl) (Eq.trans (pv_Rstp dX7_keep_79 rfl rfl rfl) (Eq.trans (pv_Rget dX7_keep_80 ffX7_144 (by decide) (pv_ce_37 _ _) rfl) (Eq.trans (pv_Rast dX7_keep_83 (by decide) (pv_ce_46 _ _) (pv_em_si rfl)) (pv_iteN (fun h1 => Eq.trans (pv_Rstp dX7_keep_84 rfl rfl rfl) (Eq.trans (pv_Rget dX7_keep_85 ffX7_37 (by decide) (pv_ce_37 _ _) rfl) (Eq.trans (pv_Rstp dX7_keep_88 rfl rfl rfl) (Eq.trans (pv_Ric dX7_keep_89 ki_1) (Eq.trans (pv_Rzast dX7_keep_90 (by decide) (pv_ce_47 _ _) (pv_em_si rfl)) (pv_iteN (fun h2 => Eq.trans (pv_Rstp dX7_keep_91 rfl rfl rfl) (Eq.trans (pv_Rget dX7_keep_92 ffX7_144 (by decide) (pv_ce_37 _ _) rfl) (pv_Rret dX7_keep_95 rfl)))))))))))))))))))
theorem dX7_on_0 : decode cX7_on 0 = .ok (.iload_n 1, 1) := by decide +kernel
theorem dX7_on_1 : decode cX7_on 1 = .ok (.i2l, 1) := by decide +kernel
theorem dX7_on_2 : decode cX7_on 2 = .ok (.lconst 0, 1) := by decide +kernel
theorem dX7_on_3 : decode cX7_on 3 = .ok (.ldc2_w 199, 3) := by decide +kernel
theorem dX7_on_6 : decode cX7_on 6 = .ok (.invokestatic 75, 3) := by decide +kernel
theorem dX7_on_9 : decode cX7_on 9 = .ok (.ifCond .ne 5, 3) := by decide +kernel
theorem dX7_on_12 : decode cX7_on 12 = .ok (.iconst (-1), 1) := by decide +kernel
theorem dX7_on_13 : decode cX7_on 13 = .ok (.ireturn, 1) := by decide +kernel
theorem dX7_on_14 : decode cX7_on 14 = .ok (.aload_n 0, 1) := by decide +kernel
theorem dX7_on_15 : decode cX7_on 15 = .ok (.getfield 37, 3) := by decide +kernel
theorem dX7_on_18 : decode cX7_on 18 = .ok (.iload_n 1, 1) := by decide +kernel
theorem dX7_on_19 : decode cX7_on 19 = .ok (.baload, 1) := by decide +kernel
theorem dX7_on_20 : decode cX7_on 20 = .ok (.ifCond .ne 9, 3) := by decide +kernel
theorem dX7_on_23 : decode cX7_on 23 = .ok (.aload_n 0, 1) := by decide +kernel
theorem dX7_on_24 : decode cX7_on 24 = .ok (.iconst 1, 1) := by decide +kernel
theorem dX7_on_25 : decode cX7_on 25 = .ok (.invokevirtual 85, 3) := by decide +kernel
theorem dX7_on_28 : decode cX7_on 28 = .ok (.ireturn, 1) := by decide +kernel
theorem dX7_on_29 : decode cX7_on 29 = .ok (.aload_n 0, 1) := by decide +kernel
theorem dX7_on_30 : decode cX7_on 30 = .ok (.getfield 34, 3) := by decide +kernel
theorem dX7_on_33 : decode cX7_on 33 = .ok (.sipush 411, 3) := by decide +kernel
theorem dX7_on_36 : decode cX7_on 36 = .ok (.iload_n 1, 1) := by decide +kernel
theorem dX7_on_37 : decode cX7_on 37 = .ok (.imul, 1) := by decide +kernel
theorem dX7_on_38 : decode cX7_on 38 = .ok (.aload_n 0, 1) := by decide +kernel
theorem dX7_on_39 : decode cX7_on 39 = .ok (.getfield 28, 3) := by decide +kernel
theorem dX7_on_42 : decode cX7_on 42 = .ok (.iconst 0, 1) := by decide +kernel
theorem dX7_on_43 : decode cX7_on 43 = .ok (.bipush 10, 2) := by decide +kernel
theorem dX7_on_45 : decode cX7_on 45 = .ok (.invokestatic 179, 3) := by decide +kernel
theorem dX7_on_48 : decode cX7_on 48 = .ok (.aload_n 0, 1) := by decide +kernel
theorem dX7_on_49 : decode cX7_on 49 = .ok (.getfield 34, 3) := by decide +kernel
theorem dX7_on_52 : decode cX7_on 52 = .ok (.sipush 411, 3) := by decide +kernel
theorem dX7_on_55 : decode cX7_on 55 = .ok (.iload_n 1, 1) := by decide +kernel
theorem dX7_on_56 : decode cX7_on 56 = .ok (.imul, 1) := by decide +kernel
theorem dX7_on_57 : decode cX7_on 57 = .ok (.bipush 10, 2) := by decide +kernel
theorem dX7_on_59 : decode cX7_on 59 = .ok (.iadd, 1) := by decide +kernel
theorem dX7_on_60 : decode cX7_on 60 = .ok (.aload_n 0, 1) := by decide +kernel
theorem dX7_on_61 : decode cX7_on 61 = .ok (.getfield 31, 3) := by decide +kernel
theorem dX7_on_64 : decode cX7_on 64 = .ok (.iconst 0, 1) := by decide +kernel
theorem dX7_on_65 : decode cX7_on 65 = .ok (.sipush 400, 3) := by decide +kernel
theorem dX7_on_68 : decode cX7_on 68 = .ok (.invokestatic 179, 3) := by decide +kernel
theorem dX7_on_71 : decode cX7_on 71 = .ok (.aload_n 0, 1) := by decide +kernel
theorem dX7_on_72 : decode cX7_on 72 = .ok (.aload_n 0, 1) := by decide +kernel
theorem dX7_on_73 : decode cX7_on 73 = .ok (.getfield 34, 3) := by decide +kernel
theorem dX7_on_76 : decode cX7_on 76 = .ok (.sipush 411, 3) := by decide +kernel
theorem dX7_on_79 : decode cX7_on 79 = .ok (.iload_n 1, 1) := by decide +kernel
theorem dX7_on_80 : decode cX7_on 80 = .ok (.imul, 1) := by decide +kernel
theorem dX7_on_81 : decode cX7_on 81 = .ok (.sipush 410, 3) := by decide +kernel
theorem dX7_on_84 : decode cX7_on 84 = .ok (.iadd, 1) := by decide +kernel
theorem dX7_on_85 : decode cX7_on 85 = .ok (.iaload, 1) := by decide +kernel
theorem dX7_on_86 : decode cX7_on 86 = .ok (.putfield 144, 3) := by decide +kernel
theorem dX7_on_89 : decode cX7_on 89 = .ok (.aload_n 0, 1) := by decide +kernel
theorem dX7_on_90 : decode cX7_on 90 = .ok (.getfield 144, 3) := by decide +kernel
theorem dX7_on_93 : decode cX7_on 93 = .ok (.ireturn, 1) := by decide +kernel
set_option maxHeartbeats 200000 in
theorem bX7_on_0 {S : pv_S} {x1 : Int32} : pv_R mX7_on 0 [some (.ref 37), some (.int x1)] [] (pv_em S) = pv_cc (pv_R mX7_in 0 [some (.long (Int32.toInt64 x1)), none, some (.long 0), none, some (.long 2), none] [] (pv_em S)) mX7_on 9 [some (.ref 37), some (.int x1)] [] := Eq.trans (pv_Rstp dX7_on_0 rfl rfl rfl) (Eq.trans (pv_Rstp dX7_on_1 rfl rfl rfl) (Eq.trans (pv_Rlc dX7_on_2 kl_0) (Eq.trans (pv_Rstp dX7_on_3 rfl rfl rfl) (pv_Rcall (As := [.long (Int32.toInt64 x1), .long 0, .long 2]) (rest := []) dX7_on_6 rfl mfX7_75 rfl rfl rfl rfl rfl))))
set_option maxHeartbeats 200000 in
theorem bX7_on_9 {S : pv_S} {x1 u0 : Int32} : pv_R mX7_on 9 [some (.ref 37), some (.int x1)] [.int u0] (pv_em S) = if ¬ u0 = 0 then pv_R mX7_on 14 [some (.ref 37), some (.int x1)] [] (pv_em S) else pv_R mX7_on 12 [some (.ref 37), some (.int x1)] [] (pv_em S) := pv_Rbr (tgt := 14) dX7_on_9 rfl rfl rfl rfl rfl (by decide)
set_option maxHeartbeats 200000 in
theorem bX7_on_12 {S : pv_S} {x1 : Int32} : pv_R mX7_on 12 [some (.ref 37), some (.int x1)] [] (pv_em S) = some (some (.int (-1)), pv_em S) := Eq.trans (pv_Ric dX7_on_12 ki_m1) (pv_Rret dX7_on_13 rfl)
set_option maxHeartbeats 200000 in
theorem bX7_on_14 {S : pv_S} {x1 : Int32} : pv_R mX7_on 14 [some (.ref 37), some (.int x1)] [] (pv_em S) = if x1 < 0 ∨ 3 ≤ x1.toNatClampNeg then none else if ¬ (S.1 47 x1.toNatClampNeg) = 0 then pv_R mX7_on 29 [some (.ref 37), some (.int x1)] [] (pv_em S) else pv_R mX7_on 23 [some (.ref 37), some (.int x1)] [] (pv_em S) := Eq.trans (pv_Rstp dX7_on_14 rfl rfl rfl) (Eq.trans (pv_Rget dX7_on_15 ffX7_37 (by decide) (pv_ce_37 _ _) rfl) (Eq.trans (pv_Rstp dX7_on_18 rfl rfl rfl) (Eq.trans (pv_Rzald dX7_on_19 (by decide) (pv_ce_47 _ _)) (pv_iteN (fun h1 => pv_Rbr (tgt := 29) dX7_on_20 rfl rfl rfl rfl rfl (by decide))))))
set_option maxHeartbeats 200000 in
theorem bX7_on_23 {S : pv_S} {x1 : Int32} : pv_R mX7_on 23 [some (.ref 37), some (.int x1)] [] (pv_em S) = pv_cc (pv_R mX7_found 0 [some (.ref 37), some (.int 1)] [] (pv_em S)) mX7_on 28 [some (.ref 37), some (.int x1)] [] := Eq.trans (pv_Rstp dX7_on_23 rfl rfl rfl) (Eq.trans (pv_Ric dX7_on_24 ki_1) (pv_Rcall (As := [.ref 37, .int 1]) (rest := []) dX7_on_25 rfl mfX7_85 rfl rfl rfl rfl rfl))
set_option maxHeartbeats 200000 in
theorem bX7_on_28 {S : pv_S} {x1 u0 : Int32} : pv_R mX7_on 28 [some (.ref 37), some (.int x1)] [.int u0] (pv_em S) = some (some (.int u0), pv_em S) := pv_Rret dX7_on_28 rfl
set_option maxHeartbeats 200000 in
theorem bX7_on_29 {S : pv_S} {x1 : Int32} : pv_R mX7_on 29 [some (.ref 37), some (.int x1)] [] (pv_em S) = pv_cc (pv_R mX7_copies 0 [some (.ref 46), some (.int (411 * x1)), some (.ref 44), some (.int 0), some (.int 10), none] [] (pv_em S)) mX7_on 48 [some (.ref 37), some (.int x1)] [] := Eq.trans (pv_Rstp dX7_on_29 rfl rfl rfl) (Eq.trans (pv_Rget dX7_on_30 ffX7_34 (by decide) (pv_ce_37 _ _) rfl) (Eq.trans (pv_Rsp dX7_on_33 ks_411) (Eq.trans (pv_Rstp dX7_on_36 rfl rfl rfl) (Eq.trans (pv_Rstp dX7_on_37 rfl rfl rfl) (Eq.trans (pv_Rstp dX7_on_38 rfl rfl rfl) (Eq.trans (pv_Rget dX7_on_39 ffX7_28 (by decide) (pv_ce_37 _ _) rfl) (Eq.trans (pv_Ric dX7_on_42 ki_0) (Eq.trans (pv_Rbp dX7_on_43 kb_10) (pv_Rcall (As := [.ref 46, .int (411 * x1), .ref 44, .int 0, .int 10]) (rest := []) dX7_on_45 rfl mfX7_179 rfl rfl rfl rfl rfl)))))))))
set_option maxHeartbeats 200000 in
theorem bX7_on_48 {S : pv_S} {x1 : Int32} : pv_R mX7_on 48 [some (.ref 37), some (.int x1)] [] (pv_em S) = pv_cc (pv_R mX7_copies 0 [some (.ref 46), some (.int ((411 * x1) + 10)), some (.ref 45), some (.int 0), some (.int 400), none] [] (pv_em S)) mX7_on 71 [some (.ref 37), some (.int x1)] [] := Eq.trans (pv_Rstp dX7_on_48 rfl rfl rfl) (Eq.trans (pv_Rget dX7_on_49 ffX7_34 (by decide) (pv_ce_37 _ _) rfl) (Eq.trans (pv_Rsp dX7_on_52 ks_411) (Eq.trans (pv_Rstp dX7_on_55 rfl rfl rfl) (Eq.trans (pv_Rstp dX7_on_56 rfl rfl rfl) (Eq.trans (pv_Rbp dX7_on_57 kb_10) (Eq.trans (pv_Rstp dX7_on_59 rfl rfl rfl) (Eq.trans (pv_Rstp dX7_on_60 rfl rfl rfl) (Eq.trans (pv_Rget dX7_on_61 ffX7_31 (by decide) (pv_ce_37 _ _) rfl) (Eq.trans (pv_Ric dX7_on_64 ki_0) (Eq.trans (pv_Rsp dX7_on_65 ks_400) (pv_Rcall (As := [.ref 46, .int ((411 * x1) + 10), .ref 45, .int 0, .int 400]) (rest := []) dX7_on_68 rfl mfX7_179 rfl rfl rfl rfl rfl)))))))))))
set_option maxHeartbeats 200000 in
theorem bX7_on_71 {S : pv_S} {x1 : Int32} : pv_R mX7_on 71 [some (.ref 37), some (.int x1)] [] (pv_em S) = if ((411 * x1) + 410) < 0 ∨ 1233 ≤ (((411 * x1) + 410)).toNatClampNeg then none else some (some (.int ((pv_si S 37 9 (S.1 46 (((411 * x1) + 410)).toNatClampNeg)).1 37 9)), pv_em (pv_si S 37 9 (S.1 46 (((411 * x1) + 410)).toNatClampNeg))) := Eq.trans (pv_Rstp dX7_on_71 rfl rfl rfl) (Eq.trans (pv_Rstp dX7_on_72 rfl rfl rfl) (Eq.trans (pv_Rget dX7_on_73 ffX7_34 (by decide) (pv_ce_37 _ _) rfl) (Eq.trans (pv_Rsp dX7_on_76 ks_411) (Eq.trans (pv_Rstp dX7_on_79 rfl rfl rfl) (Eq.trans (pv_Rstp dX7_on_80 rfl rfl rfl) (Eq.trans (pv_Rsp dX7_on_81 ks_410) (Eq.trans (pv_Rstp dX7_on_84 rfl rfl rfl) (Eq.trans (pv_Rald dX7_on_85 (by decide) (pv_ce_46 _ _)) (pv_iteN (fun h1 => Eq.trans (pv_Rput dX7_on_86 ffX7_144 rfl rfl rfl (by decide) (pv_ce_37 _ _) (Nat.le_of_ble_eq_true rfl) (pv_em_si rfl)) (Eq.trans (pv_Rstp dX7_on_89 rfl rfl rfl) (Eq.trans (pv_Rget dX7_on_90 ffX7_144 (by decide) (pv_ce_37 _ _) rfl) (pv_Rret dX7_on_93 rfl)))))))))))))
