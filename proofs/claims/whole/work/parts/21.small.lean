/-! ===== blocks: small ===== -/
theorem dX3_get_0 : decode cX3_get 0 = .ok (.aload_n 0, 1) := by decide +kernel
theorem dX3_get_1 : decode cX3_get 1 = .ok (.getfield 19, 3) := by decide +kernel
theorem dX3_get_4 : decode cX3_get 4 = .ok (.iload_n 1, 1) := by decide +kernel
theorem dX3_get_5 : decode cX3_get 5 = .ok (.aaload, 1) := by decide +kernel
theorem dX3_get_6 : decode cX3_get 6 = .ok (.iload_n 2, 1) := by decide +kernel
theorem dX3_get_7 : decode cX3_get 7 = .ok (.iaload, 1) := by decide +kernel
theorem dX3_get_8 : decode cX3_get 8 = .ok (.ireturn, 1) := by decide +kernel
set_option maxHeartbeats 200000 in
theorem bX3_getr_0 {S : pv_S} {x1 x2 : Int32} : pv_R mX3_get 0 [some (.ref 1), some (.int x1), some (.int x2)] [] (pv_em S) = if x1 < 0 ∨ 6 ≤ x1.toNatClampNeg then none else if x2 < 0 ∨ 40 ≤ x2.toNatClampNeg then none else some (some (.int (S.1 (4 + x1.toNatClampNeg) x2.toNatClampNeg)), pv_em S) := Eq.trans (pv_Rstp dX3_get_0 rfl rfl rfl) (Eq.trans (pv_Rget dX3_get_1 ffX3_19 (by decide) (pv_ce_1 _ _) rfl) (Eq.trans (pv_Rstp dX3_get_4 rfl rfl rfl) (Eq.trans (pv_Raald dX3_get_5 (by decide) (pv_ce_3 _ _)) (pv_iteN (fun h1 => Eq.trans (pv_Rstp dX3_get_6 rfl rfl rfl) (Eq.trans (pv_Rald dX3_get_7 (pv_fal_4 (Nat.not_le.mp fun z => h1 (Or.inr z))) (pv_fam_4 (Nat.not_le.mp fun z => h1 (Or.inr z)) _ _)) (pv_iteN (fun h2 => pv_Rret dX3_get_8 rfl))))))))
theorem dX3_set_0 : decode cX3_set 0 = .ok (.aload_n 0, 1) := by decide +kernel
theorem dX3_set_1 : decode cX3_set 1 = .ok (.getfield 19, 3) := by decide +kernel
theorem dX3_set_4 : decode cX3_set 4 = .ok (.iload_n 1, 1) := by decide +kernel
theorem dX3_set_5 : decode cX3_set 5 = .ok (.aaload, 1) := by decide +kernel
theorem dX3_set_6 : decode cX3_set 6 = .ok (.iload_n 2, 1) := by decide +kernel
theorem dX3_set_7 : decode cX3_set 7 = .ok (.iload_n 3, 1) := by decide +kernel
theorem dX3_set_8 : decode cX3_set 8 = .ok (.iastore, 1) := by decide +kernel
theorem dX3_set_9 : decode cX3_set 9 = .ok (.return_, 1) := by decide +kernel
set_option maxHeartbeats 200000 in
theorem bX3_setr_0 {S : pv_S} {x1 x2 x3 : Int32} : pv_R mX3_set 0 [some (.ref 1), some (.int x1), some (.int x2), some (.int x3)] [] (pv_em S) = if x1 < 0 ∨ 6 ≤ x1.toNatClampNeg then none else if x2 < 0 ∨ 40 ≤ x2.toNatClampNeg then none else some (none, pv_em (pv_si S (4 + x1.toNatClampNeg) x2.toNatClampNeg x3)) := Eq.trans (pv_Rstp dX3_set_0 rfl rfl rfl) (Eq.trans (pv_Rget dX3_set_1 ffX3_19 (by decide) (pv_ce_1 _ _) rfl) (Eq.trans (pv_Rstp dX3_set_4 rfl rfl rfl) (Eq.trans (pv_Raald dX3_set_5 (by decide) (pv_ce_3 _ _)) (pv_iteN (fun h1 => Eq.trans (pv_Rstp dX3_set_6 rfl rfl rfl) (Eq.trans (pv_Rstp dX3_set_7 rfl rfl rfl) (Eq.trans (pv_Rast dX3_set_8 (pv_fal_4 (Nat.not_le.mp fun z => h1 (Or.inr z))) (pv_fam_4 (Nat.not_le.mp fun z => h1 (Or.inr z)) _ _) (pv_em_si (pv_fam_4 (Nat.not_le.mp fun z => h1 (Or.inr z)) _ _))) (pv_iteN (fun h2 => pv_Rret dX3_set_9 rfl)))))))))
theorem dX3_remove_0 : decode cX3_remove 0 = .ok (.aload_n 0, 1) := by decide +kernel
theorem dX3_remove_1 : decode cX3_remove 1 = .ok (.getfield 13, 3) := by decide +kernel
theorem dX3_remove_4 : decode cX3_remove 4 = .ok (.iload_n 1, 1) := by decide +kernel
theorem dX3_remove_5 : decode cX3_remove 5 = .ok (.iconst (-1), 1) := by decide +kernel
theorem dX3_remove_6 : decode cX3_remove 6 = .ok (.iastore, 1) := by decide +kernel
theorem dX3_remove_7 : decode cX3_remove 7 = .ok (.return_, 1) := by decide +kernel
set_option maxHeartbeats 200000 in
theorem bX3_remover_0 {S : pv_S} {x1 : Int32} : pv_R mX3_remove 0 [some (.ref 1), some (.int x1)] [] (pv_em S) = if x1 < 0 ∨ 6 ≤ x1.toNatClampNeg then none else some (none, pv_em (pv_si S 2 x1.toNatClampNeg (-1))) := Eq.trans (pv_Rstp dX3_remove_0 rfl rfl rfl) (Eq.trans (pv_Rget dX3_remove_1 ffX3_13 (by decide) (pv_ce_1 _ _) rfl) (Eq.trans (pv_Rstp dX3_remove_4 rfl rfl rfl) (Eq.trans (pv_Ric dX3_remove_5 ki_m1) (Eq.trans (pv_Rast dX3_remove_6 (by decide) (pv_ce_2 _ _) (pv_em_si rfl)) (pv_iteN (fun h1 => pv_Rret dX3_remove_7 rfl))))))
theorem dX3_hasNumber_0 : decode cX3_hasNumber 0 = .ok (.iload_n 1, 1) := by decide +kernel
theorem dX3_hasNumber_1 : decode cX3_hasNumber 1 = .ok (.ifCond .lt 16, 3) := by decide +kernel
theorem dX3_hasNumber_4 : decode cX3_hasNumber 4 = .ok (.iload_n 1, 1) := by decide +kernel
theorem dX3_hasNumber_5 : decode cX3_hasNumber 5 = .ok (.aload_n 0, 1) := by decide +kernel
theorem dX3_hasNumber_6 : decode cX3_hasNumber 6 = .ok (.getfield 13, 3) := by decide +kernel
theorem dX3_hasNumber_9 : decode cX3_hasNumber 9 = .ok (.arraylength, 1) := by decide +kernel
theorem dX3_hasNumber_10 : decode cX3_hasNumber 10 = .ok (.if_icmp .ge 7, 3) := by decide +kernel
theorem dX3_hasNumber_13 : decode cX3_hasNumber 13 = .ok (.iconst 1, 1) := by decide +kernel
theorem dX3_hasNumber_14 : decode cX3_hasNumber 14 = .ok (.goto 4, 3) := by decide +kernel
theorem dX3_hasNumber_17 : decode cX3_hasNumber 17 = .ok (.iconst 0, 1) := by decide +kernel
theorem dX3_hasNumber_18 : decode cX3_hasNumber 18 = .ok (.ireturn, 1) := by decide +kernel
set_option maxHeartbeats 200000 in
theorem bX3_hasNumberr_0 {S : pv_S} {x1 : Int32} : pv_R mX3_hasNumber 0 [some (.ref 1), some (.int x1)] [] (pv_em S) = if x1 < 0 then pv_R mX3_hasNumber 17 [some (.ref 1), some (.int x1)] [] (pv_em S) else pv_R mX3_hasNumber 4 [some (.ref 1), some (.int x1)] [] (pv_em S) := Eq.trans (pv_Rstp dX3_hasNumber_0 rfl rfl rfl) (pv_Rbr (tgt := 17) dX3_hasNumber_1 rfl rfl rfl rfl rfl (by decide))
set_option maxHeartbeats 200000 in
theorem bX3_hasNumberr_4 {S : pv_S} {x1 : Int32} : pv_R mX3_hasNumber 4 [some (.ref 1), some (.int x1)] [] (pv_em S) = if 6 ≤ x1 then pv_R mX3_hasNumber 17 [some (.ref 1), some (.int x1)] [] (pv_em S) else pv_R mX3_hasNumber 13 [some (.ref 1), some (.int x1)] [] (pv_em S) := Eq.trans (pv_Rstp dX3_hasNumber_4 rfl rfl rfl) (Eq.trans (pv_Rstp dX3_hasNumber_5 rfl rfl rfl) (Eq.trans (pv_Rget dX3_hasNumber_6 ffX3_13 (by decide) (pv_ce_1 _ _) rfl) (Eq.trans (pv_Rstp dX3_hasNumber_9 rfl rfl rfl) (pv_Rbr (tgt := 17) dX3_hasNumber_10 rfl rfl rfl rfl rfl (by decide)))))
set_option maxHeartbeats 200000 in
theorem bX3_hasNumberr_13 {S : pv_S} {x1 : Int32} : pv_R mX3_hasNumber 13 [some (.ref 1), some (.int x1)] [] (pv_em S) = pv_R mX3_hasNumber 18 [some (.ref 1), some (.int x1)] [.int 1] (pv_em S) := Eq.trans (pv_Ric dX3_hasNumber_13 ki_1) (pv_Rgo (tgt := 18) dX3_hasNumber_14 rfl (by decide))
set_option maxHeartbeats 200000 in
theorem bX3_hasNumberr_17 {S : pv_S} {x1 : Int32} : pv_R mX3_hasNumber 17 [some (.ref 1), some (.int x1)] [] (pv_em S) = pv_R mX3_hasNumber 18 [some (.ref 1), some (.int x1)] [.int 0] (pv_em S) := pv_Ric dX3_hasNumber_17 ki_0
set_option maxHeartbeats 200000 in
theorem bX3_hasNumberr_18 {S : pv_S} {x1 u0 : Int32} : pv_R mX3_hasNumber 18 [some (.ref 1), some (.int x1)] [.int u0] (pv_em S) = if vp_nar .boolean u0 = u0 then some (some (.int u0), pv_em S) else none := pv_Rzret dX3_hasNumber_18 rfl
theorem dX3_hasRun_0 : decode cX3_hasRun 0 = .ok (.iload_n 2, 1) := by decide +kernel
theorem dX3_hasRun_1 : decode cX3_hasRun 1 = .ok (.ifCond .lt 29, 3) := by decide +kernel
theorem dX3_hasRun_4 : decode cX3_hasRun 4 = .ok (.iload_n 3, 1) := by decide +kernel
theorem dX3_hasRun_5 : decode cX3_hasRun 5 = .ok (.aload_n 0, 1) := by decide +kernel
theorem dX3_hasRun_6 : decode cX3_hasRun 6 = .ok (.getfield 13, 3) := by decide +kernel
theorem dX3_hasRun_9 : decode cX3_hasRun 9 = .ok (.iload_n 1, 1) := by decide +kernel
theorem dX3_hasRun_10 : decode cX3_hasRun 10 = .ok (.iaload, 1) := by decide +kernel
theorem dX3_hasRun_11 : decode cX3_hasRun 11 = .ok (.if_icmp .gt 19, 3) := by decide +kernel
theorem dX3_hasRun_14 : decode cX3_hasRun 14 = .ok (.iload_n 2, 1) := by decide +kernel
theorem dX3_hasRun_15 : decode cX3_hasRun 15 = .ok (.aload_n 0, 1) := by decide +kernel
theorem dX3_hasRun_16 : decode cX3_hasRun 16 = .ok (.getfield 13, 3) := by decide +kernel
theorem dX3_hasRun_19 : decode cX3_hasRun 19 = .ok (.iload_n 1, 1) := by decide +kernel
theorem dX3_hasRun_20 : decode cX3_hasRun 20 = .ok (.iaload, 1) := by decide +kernel
theorem dX3_hasRun_21 : decode cX3_hasRun 21 = .ok (.iload_n 3, 1) := by decide +kernel
theorem dX3_hasRun_22 : decode cX3_hasRun 22 = .ok (.isub, 1) := by decide +kernel
theorem dX3_hasRun_23 : decode cX3_hasRun 23 = .ok (.if_icmp .gt 7, 3) := by decide +kernel
theorem dX3_hasRun_26 : decode cX3_hasRun 26 = .ok (.iconst 1, 1) := by decide +kernel
theorem dX3_hasRun_27 : decode cX3_hasRun 27 = .ok (.goto 4, 3) := by decide +kernel
theorem dX3_hasRun_30 : decode cX3_hasRun 30 = .ok (.iconst 0, 1) := by decide +kernel
theorem dX3_hasRun_31 : decode cX3_hasRun 31 = .ok (.ireturn, 1) := by decide +kernel
set_option maxHeartbeats 200000 in
theorem bX3_hasRunr_0 {S : pv_S} {x1 x2 x3 : Int32} : pv_R mX3_hasRun 0 [some (.ref 1), some (.int x1), some (.int x2), some (.int x3)] [] (pv_em S) = if x2 < 0 then pv_R mX3_hasRun 30 [some (.ref 1), some (.int x1), some (.int x2), some (.int x3)] [] (pv_em S) else pv_R mX3_hasRun 4 [some (.ref 1), some (.int x1), some (.int x2), some (.int x3)] [] (pv_em S) := Eq.trans (pv_Rstp dX3_hasRun_0 rfl rfl rfl) (pv_Rbr (tgt := 30) dX3_hasRun_1 rfl rfl rfl rfl rfl (by decide))
set_option maxHeartbeats 200000 in
theorem bX3_hasRunr_4 {S : pv_S} {x1 x2 x3 : Int32} : pv_R mX3_hasRun 4 [some (.ref 1), some (.int x1), some (.int x2), some (.int x3)] [] (pv_em S) = if x1 < 0 ∨ 6 ≤ x1.toNatClampNeg then none else if (S.1 2 x1.toNatClampNeg) < x3 then pv_R mX3_hasRun 30 [some (.ref 1), some (.int x1), some (.int x2), some (.int x3)] [] (pv_em S) else pv_R mX3_hasRun 14 [some (.ref 1), some (.int x1), some (.int x2), some (.int x3)] [] (pv_em S) := Eq.trans (pv_Rstp dX3_hasRun_4 rfl rfl rfl) (Eq.trans (pv_Rstp dX3_hasRun_5 rfl rfl rfl) (Eq.trans (pv_Rget dX3_hasRun_6 ffX3_13 (by decide) (pv_ce_1 _ _) rfl) (Eq.trans (pv_Rstp dX3_hasRun_9 rfl rfl rfl) (Eq.trans (pv_Rald dX3_hasRun_10 (by decide) (pv_ce_2 _ _)) (pv_iteN (fun h1 => pv_Rbr (tgt := 30) dX3_hasRun_11 rfl rfl rfl rfl rfl (by decide)))))))
set_option maxHeartbeats 200000 in
theorem bX3_hasRunr_14 {S : pv_S} {x1 x2 x3 : Int32} : pv_R mX3_hasRun 14 [some (.ref 1), some (.int x1), some (.int x2), some (.int x3)] [] (pv_em S) = if x1 < 0 ∨ 6 ≤ x1.toNatClampNeg then none else if ((S.1 2 x1.toNatClampNeg) - x3) < x2 then pv_R mX3_hasRun 30 [some (.ref 1), some (.int x1), some (.int x2), some (.int x3)] [] (pv_em S) else pv_R mX3_hasRun 26 [some (.ref 1), some (.int x1), some (.int x2), some (.int x3)] [] (pv_em S) := Eq.trans (pv_Rstp dX3_hasRun_14 rfl rfl rfl) (Eq.trans (pv_Rstp dX3_hasRun_15 rfl rfl rfl) (Eq.trans (pv_Rget dX3_hasRun_16 ffX3_13 (by decide) (pv_ce_1 _ _) rfl) (Eq.trans (pv_Rstp dX3_hasRun_19 rfl rfl rfl) (Eq.trans (pv_Rald dX3_hasRun_20 (by decide) (pv_ce_2 _ _)) (pv_iteN (fun h1 => Eq.trans (pv_Rstp dX3_hasRun_21 rfl rfl rfl) (Eq.trans (pv_Rstp dX3_hasRun_22 rfl rfl rfl) (pv_Rbr (tgt := 30) dX3_hasRun_23 rfl rfl rfl rfl rfl (by decide)))))))))
set_option maxHeartbeats 200000 in
theorem bX3_hasRunr_26 {S : pv_S} {x1 x2 x3 : Int32} : pv_R mX3_hasRun 26 [some (.ref 1), some (.int x1), some (.int x2), some (.int x3)] [] (pv_em S) = pv_R mX3_hasRun 31 [some (.ref 1), some (.int x1), some (.int x2), some (.int x3)] [.int 1] (pv_em S) := Eq.trans (pv_Ric dX3_hasRun_26 ki_1) (pv_Rgo (tgt := 31) dX3_hasRun_27 rfl (by decide))
set_option maxHeartbeats 200000 in
theorem bX3_hasRunr_30 {S : pv_S} {x1 x2 x3 : Int32} : pv_R mX3_hasRun 30 [some (.ref 1), some (.int x1), some (.int x2), some (.int x3)] [] (pv_em S) = pv_R mX3_hasRun 31 [some (.ref 1), some (.int x1), some (.int x2), some (.int x3)] [.int 0] (pv_em S) := pv_Ric dX3_hasRun_30 ki_0
set_option maxHeartbeats 200000 in
theorem bX3_hasRunr_31 {S : pv_S} {x1 x2 x3 u0 : Int32} : pv_R mX3_hasRun 31 [some (.ref 1), some (.int x1), some (.int x2), some (.int x3)] [.int u0] (pv_em S) = if vp_nar .boolean u0 = u0 then some (some (.int u0), pv_em S) else none := pv_Rzret dX3_hasRun_31 rfl
theorem dX3_isThere_0 : decode cX3_isThere 0 = .ok (.aload_n 0, 1) := by decide +kernel
theorem dX3_isThere_1 : decode cX3_isThere 1 = .ok (.getfield 13, 3) := by decide +kernel
theorem dX3_isThere_4 : decode cX3_isThere 4 = .ok (.iload_n 1, 1) := by decide +kernel
theorem dX3_isThere_5 : decode cX3_isThere 5 = .ok (.iaload, 1) := by decide +kernel
theorem dX3_isThere_6 : decode cX3_isThere 6 = .ok (.ifCond .lt 7, 3) := by decide +kernel
theorem dX3_isThere_9 : decode cX3_isThere 9 = .ok (.iconst 1, 1) := by decide +kernel
theorem dX3_isThere_10 : decode cX3_isThere 10 = .ok (.goto 4, 3) := by decide +kernel
theorem dX3_isThere_13 : decode cX3_isThere 13 = .ok (.iconst 0, 1) := by decide +kernel
theorem dX3_isThere_14 : decode cX3_isThere 14 = .ok (.ireturn, 1) := by decide +kernel
set_option maxHeartbeats 200000 in
theorem bX3_isTherer_0 {S : pv_S} {x1 : Int32} : pv_R mX3_isThere 0 [some (.ref 1), some (.int x1)] [] (pv_em S) = if x1 < 0 ∨ 6 ≤ x1.toNatClampNeg then none else if (S.1 2 x1.toNatClampNeg) < 0 then pv_R mX3_isThere 13 [some (.ref 1), some (.int x1)] [] (pv_em S) else pv_R mX3_isThere 9 [some (.ref 1), some (.int x1)] [] (pv_em S) := Eq.trans (pv_Rstp dX3_isThere_0 rfl rfl rfl) (Eq.trans (pv_Rget dX3_isThere_1 ffX3_13 (by decide) (pv_ce_1 _ _) rfl) (Eq.trans (pv_Rstp dX3_isThere_4 rfl rfl rfl) (Eq.trans (pv_Rald dX3_isThere_5 (by decide) (pv_ce_2 _ _)) (pv_iteN (fun h1 => pv_Rbr (tgt := 13) dX3_isThere_6 rfl rfl rfl rfl rfl (by decide))))))
set_option maxHeartbeats 200000 in
theorem bX3_isTherer_9 {S : pv_S} {x1 : Int32} : pv_R mX3_isThere 9 [some (.ref 1), some (.int x1)] [] (pv_em S) = pv_R mX3_isThere 14 [some (.ref 1), some (.int x1)] [.int 1] (pv_em S) := Eq.trans (pv_Ric dX3_isThere_9 ki_1) (pv_Rgo (tgt := 14) dX3_isThere_10 rfl (by decide))
set_option maxHeartbeats 200000 in
theorem bX3_isTherer_13 {S : pv_S} {x1 : Int32} : pv_R mX3_isThere 13 [some (.ref 1), some (.int x1)] [] (pv_em S) = pv_R mX3_isThere 14 [some (.ref 1), some (.int x1)] [.int 0] (pv_em S) := pv_Ric dX3_isThere_13 ki_0
set_option maxHeartbeats 200000 in
theorem bX3_isTherer_14 {S : pv_S} {x1 u0 : Int32} : pv_R mX3_isThere 14 [some (.ref 1), some (.int x1)] [.int u0] (pv_em S) = if vp_nar .boolean u0 = u0 then some (some (.int u0), pv_em S) else none := pv_Rzret dX3_isThere_14 rfl
theorem dX3_move_0 : decode cX3_move 0 = .ok (.aload_n 0, 1) := by decide +kernel
theorem dX3_move_1 : decode cX3_move 1 = .ok (.getfield 19, 3) := by decide +kernel
theorem dX3_move_4 : decode cX3_move 4 = .ok (.iload_n 1, 1) := by decide +kernel
theorem dX3_move_5 : decode cX3_move 5 = .ok (.aaload, 1) := by decide +kernel
theorem dX3_move_6 : decode cX3_move 6 = .ok (.iload_n 2, 1) := by decide +kernel
theorem dX3_move_7 : decode cX3_move 7 = .ok (.aload_n 0, 1) := by decide +kernel
theorem dX3_move_8 : decode cX3_move 8 = .ok (.getfield 19, 3) := by decide +kernel
theorem dX3_move_11 : decode cX3_move 11 = .ok (.iload_n 3, 1) := by decide +kernel
theorem dX3_move_12 : decode cX3_move 12 = .ok (.aaload, 1) := by decide +kernel
theorem dX3_move_13 : decode cX3_move 13 = .ok (.iload 4, 2) := by decide +kernel
theorem dX3_move_15 : decode cX3_move 15 = .ok (.iload 5, 2) := by decide +kernel
theorem dX3_move_17 : decode cX3_move 17 = .ok (.invokestatic 22, 3) := by decide +kernel
theorem dX3_move_20 : decode cX3_move 20 = .ok (.return_, 1) := by decide +kernel
-- bX3_mover_0: arraycopy
theorem dX4_answerFinding_0 : decode cX4_answerFinding 0 = .ok (.aload_n 0, 1) := by decide +kernel
theorem dX4_answerFinding_1 : decode cX4_answerFinding 1 = .ok (.iload_n 1, 1) := by decide +kernel
theorem dX4_answerFinding_2 : decode cX4_answerFinding 2 = .ok (.putfield 19, 3) := by decide +kernel
theorem dX4_answerFinding_5 : decode cX4_answerFinding 5 = .ok (.iload_n 1, 1) := by decide +kernel
theorem dX4_answerFinding_6 : decode cX4_answerFinding 6 = .ok (.iconst 1, 1) := by decide +kernel
theorem dX4_answerFinding_7 : decode cX4_answerFinding 7 = .ok (.if_icmp .lt 18, 3) := by decide +kernel
theorem dX4_answerFinding_10 : decode cX4_answerFinding 10 = .ok (.iload_n 1, 1) := by decide +kernel
theorem dX4_answerFinding_11 : decode cX4_answerFinding 11 = .ok (.iconst 5, 1) := by decide +kernel
theorem dX4_answerFinding_12 : decode cX4_answerFinding 12 = .ok (.if_icmp .gt 13, 3) := by decide +kernel
theorem dX4_answerFinding_15 : decode cX4_answerFinding 15 = .ok (.aload_n 0, 1) := by decide +kernel
theorem dX4_answerFinding_16 : decode cX4_answerFinding 16 = .ok (.getfield 9, 3) := by decide +kernel
theorem dX4_answerFinding_19 : decode cX4_answerFinding 19 = .ok (.iload_n 1, 1) := by decide +kernel
theorem dX4_answerFinding_20 : decode cX4_answerFinding 20 = .ok (.dup2, 1) := by decide +kernel
theorem dX4_answerFinding_21 : decode cX4_answerFinding 21 = .ok (.iaload, 1) := by decide +kernel
theorem dX4_answerFinding_22 : decode cX4_answerFinding 22 = .ok (.iconst 1, 1) := by decide +kernel
theorem dX4_answerFinding_23 : decode cX4_answerFinding 23 = .ok (.iadd, 1) := by decide +kernel
theorem dX4_answerFinding_24 : decode cX4_answerFinding 24 = .ok (.iastore, 1) := by decide +kernel
theorem dX4_answerFinding_25 : decode cX4_answerFinding 25 = .ok (.bipush (-3), 2) := by decide +kernel
theorem dX4_answerFinding_27 : decode cX4_answerFinding 27 = .ok (.ireturn, 1) := by decide +kernel
set_option maxHeartbeats 200000 in
theorem bX4_answerFinding_0 {S : pv_S} {x1 : Int32} : pv_R mX4_answerFinding 0 [some (.ref 35), some (.int x1)] [] (pv_em S) = if x1 < 1 then pv_R mX4_answerFinding 25 [some (.ref 35), some (.int x1)] [] (pv_em (pv_si S 35 4 x1)) else pv_R mX4_answerFinding 10 [some (.ref 35), some (.int x1)] [] (pv_em (pv_si S 35 4 x1)) := Eq.trans (pv_Rstp dX4_answerFinding_0 rfl rfl rfl) (Eq.trans (pv_Rstp dX4_answerFinding_1 rfl rfl rfl) (Eq.trans (pv_Rput dX4_answerFinding_2 ffX4_19 rfl rfl rfl (by decide) (pv_ce_35 _ _) (Nat.le_of_ble_eq_true rfl) (pv_em_si rfl)) (Eq.trans (pv_Rstp dX4_answerFinding_5 rfl rfl rfl) (Eq.trans (pv_Ric dX4_answerFinding_6 ki_1) (pv_Rbr (tgt := 25) dX4_answerFinding_7 rfl rfl rfl rfl rfl (by decide))))))
set_option maxHeartbeats 200000 in
theorem bX4_answerFinding_10 {S : pv_S} {x1 : Int32} : pv_R mX4_answerFinding 10 [some (.ref 35), some (.int x1)] [] (pv_em S) = if 5 < x1 then pv_R mX4_answerFinding 25 [some (.ref 35), some (.int x1)] [] (pv_em S) else pv_R mX4_answerFinding 15 [some (.ref 35), some (.int x1)] [] (pv_em S) := Eq.trans (pv_Rstp dX4_answerFinding_10 rfl rfl rfl) (Eq.trans (pv_Ric dX4_answerFinding_11 ki_5) (pv_Rbr (tgt := 25) dX4_answerFinding_12 rfl rfl rfl rfl rfl (by decide)))
set_option maxHeartbeats 200000 in
theorem bX4_answerFinding_15 {S : pv_S} {x1 : Int32} : pv_R mX4_answerFinding 15 [some (.ref 35), some (.int x1)] [] (pv_em S) = if x1 < 0 ∨ 6 ≤ x1.toNatClampNeg then none else if x1 < 0 ∨ 6 ≤ x1.toNatClampNeg then none else pv_R mX4_answerFinding 25 [some (.ref 35), some (.int x1)] [] (pv_em (pv_si S 36 x1.toNatClampNeg ((S.1 36 x1.toNatClampNeg) + 1))) := Eq.trans (pv_Rstp dX4_answerFinding_15 rfl rfl rfl) (Eq.trans (pv_Rget dX4_answerFinding_16 ffX4_9 (by decide) (pv_ce_35 _ _) rfl) (Eq.trans (pv_Rstp dX4_answerFinding_19 rfl rfl rfl) (Eq.trans (pv_Rstp dX4_answerFinding_20 rfl rfl rfl) (Eq.trans (pv_Rald dX4_answerFinding_21 (by decide) (pv_ce_36 _ _)) (pv_iteN (fun h1 => Eq.trans (pv_Ric dX4_answerFinding_22 ki_1) (Eq.trans (pv_Rstp dX4_answerFinding_23 rfl rfl rfl) (Eq.trans (pv_Rast dX4_answerFinding_24 (by decide) (pv_ce_36 _ _) (pv_em_si rfl)) (pv_iteN (fun h2 => rfl))))))))))
set_option maxHeartbeats 200000 in
theorem bX4_answerFinding_25 {S : pv_S} {x1 : Int32} : pv_R mX4_answerFinding 25 [some (.ref 35), some (.int x1)] [] (pv_em S) = some (some (.int (-3)), pv_em S) := Eq.trans (pv_Rbp dX4_answerFinding_25 kb_m3) (pv_Rret dX4_answerFinding_27 rfl)
theorem dX3_sizeOf_0 : decode cX3_sizeOf 0 = .ok (.aload_n 0, 1) := by decide +kernel
theorem dX3_sizeOf_1 : decode cX3_sizeOf 1 = .ok (.getfield 13, 3) := by decide +kernel
theorem dX3_sizeOf_4 : decode cX3_sizeOf 4 = .ok (.iload_n 1, 1) := by decide +kernel
theorem dX3_sizeOf_5 : decode cX3_sizeOf 5 = .ok (.iaload, 1) := by decide +kernel
theorem dX3_sizeOf_6 : decode cX3_sizeOf 6 = .ok (.ireturn, 1) := by decide +kernel
set_option maxHeartbeats 200000 in
theorem bX3_sizeOfr_0 {S : pv_S} {x1 : Int32} : pv_R mX3_sizeOf 0 [some (.ref 1), some (.int x1)] [] (pv_em S) = if x1 < 0 ∨ 6 ≤ x1.toNatClampNeg then none else some (some (.int (S.1 2 x1.toNatClampNeg)), pv_em S) := Eq.trans (pv_Rstp dX3_sizeOf_0 rfl rfl rfl) (Eq.trans (pv_Rget dX3_sizeOf_1 ffX3_13 (by decide) (pv_ce_1 _ _) rfl) (Eq.trans (pv_Rstp dX3_sizeOf_4 rfl rfl rfl) (Eq.trans (pv_Rald dX3_sizeOf_5 (by decide) (pv_ce_2 _ _)) (pv_iteN (fun h1 => pv_Rret dX3_sizeOf_6 rfl)))))
theorem dX3_sumOf_0 : decode cX3_sumOf 0 = .ok (.lconst 0, 1) := by decide +kernel
theorem dX3_sumOf_1 : decode cX3_sumOf 1 = .ok (.lstore_n 2, 1) := by decide +kernel
theorem dX3_sumOf_2 : decode cX3_sumOf 2 = .ok (.iconst 0, 1) := by decide +kernel
theorem dX3_sumOf_3 : decode cX3_sumOf 3 = .ok (.istore 4, 2) := by decide +kernel
theorem dX3_sumOf_5 : decode cX3_sumOf 5 = .ok (.iload 4, 2) := by decide +kernel
theorem dX3_sumOf_7 : decode cX3_sumOf 7 = .ok (.aload_n 0, 1) := by decide +kernel
theorem dX3_sumOf_8 : decode cX3_sumOf 8 = .ok (.getfield 13, 3) := by decide +kernel
theorem dX3_sumOf_11 : decode cX3_sumOf 11 = .ok (.iload_n 1, 1) := by decide +kernel
theorem dX3_sumOf_12 : decode cX3_sumOf 12 = .ok (.iaload, 1) := by decide +kernel
theorem dX3_sumOf_13 : decode cX3_sumOf 13 = .ok (.if_icmp .ge 22, 3) := by decide +kernel
theorem dX3_sumOf_16 : decode cX3_sumOf 16 = .ok (.lload_n 2, 1) := by decide +kernel
theorem dX3_sumOf_17 : decode cX3_sumOf 17 = .ok (.aload_n 0, 1) := by decide +kernel
theorem dX3_sumOf_18 : decode cX3_sumOf 18 = .ok (.getfield 19, 3) := by decide +kernel
theorem dX3_sumOf_21 : decode cX3_sumOf 21 = .ok (.iload_n 1, 1) := by decide +kernel
theorem dX3_sumOf_22 : decode cX3_sumOf 22 = .ok (.aaload, 1) := by decide +kernel
theorem dX3_sumOf_23 : decode cX3_sumOf 23 = .ok (.iload 4, 2) := by decide +kernel
theorem dX3_sumOf_25 : decode cX3_sumOf 25 = .ok (.iaload, 1) := by decide +kernel
theorem dX3_sumOf_26 : decode cX3_sumOf 26 = .ok (.i2l, 1) := by decide +kernel
theorem dX3_sumOf_27 : decode cX3_sumOf 27 = .ok (.ladd, 1) := by decide +kernel
theorem dX3_sumOf_28 : decode cX3_sumOf 28 = .ok (.lstore_n 2, 1) := by decide +kernel
theorem dX3_sumOf_29 : decode cX3_sumOf 29 = .ok (.iinc 4 1, 3) := by decide +kernel
theorem dX3_sumOf_32 : decode cX3_sumOf 32 = .ok (.goto (-27), 3) := by decide +kernel
theorem dX3_sumOf_35 : decode cX3_sumOf 35 = .ok (.lload_n 2, 1) := by decide +kernel
theorem dX3_sumOf_36 : decode cX3_sumOf 36 = .ok (.lreturn, 1) := by decide +kernel
set_option maxHeartbeats 200000 in
theorem bX3_sumOfr_0 {S : pv_S} {x1 : Int32} {a2 a3 a4 : Option Value} : pv_R mX3_sumOf 0 [some (.ref 1), some (.int x1), a2, a3, a4] [] (pv_em S) = pv_R mX3_sumOf 5 [some (.ref 1), some (.int x1), some (.long 0), none, some (.int 0)] [] (pv_em S) := Eq.trans (pv_Rlc dX3_sumOf_0 kl_0) (Eq.trans (pv_Rstp dX3_sumOf_1 rfl rfl rfl) (Eq.trans (pv_Ric dX3_sumOf_2 ki_0) (pv_Rstp dX3_sumOf_3 rfl rfl rfl)))
set_option maxHeartbeats 200000 in
theorem bX3_sumOfr_5 {S : pv_S} {x1 x4 : Int32} {x2 : Int64} {a3 : Option Value} : pv_R mX3_sumOf 5 [some (.ref 1), some (.int x1), some (.long x2), a3, some (.int x4)] [] (pv_em S) = if x1 < 0 ∨ 6 ≤ x1.toNatClampNeg then none else if (S.1 2 x1.toNatClampNeg) ≤ x4 then pv_R mX3_sumOf 35 [some (.ref 1), some (.int x1), some (.long x2), a3, some (.int x4)] [] (pv_em S) else pv_R mX3_sumOf 16 [some (.ref 1), some (.int x1), some (.long x2), a3, some (.int x4)] [] (pv_em S) := Eq.trans (pv_Rstp dX3_sumOf_5 rfl rfl rfl) (Eq.trans (pv_Rstp dX3_sumOf_7 rfl rfl rfl) (Eq.trans (pv_Rget dX3_sumOf_8 ffX3_13 (by decide) (pv_ce_1 _ _) rfl) (Eq.trans (pv_Rstp dX3_sumOf_11 rfl rfl rfl) (Eq.trans (pv_Rald dX3_sumOf_12 (by decide) (pv_ce_2 _ _)) (pv_iteN (fun h1 => pv_Rbr (tgt := 35) dX3_sumOf_13 rfl rfl rfl rfl rfl (by decide)))))))
set_option maxHeartbeats 200000 in
theorem bX3_sumOfr_16 {S : pv_S} {x1 x4 : Int32} {x2 : Int64} {a3 : Option Value} : pv_R mX3_sumOf 16 [some (.ref 1), some (.int x1), some (.long x2), a3, some (.int x4)] [] (pv_em S) = if x1 < 0 ∨ 6 ≤ x1.toNatClampNeg then none else if x4 < 0 ∨ 40 ≤ x4.toNatClampNeg then none else pv_R mX3_sumOf 5 [some (.ref 1), some (.int x1), some (.long (x2 + (Int32.toInt64 (S.1 (4 + x1.toNatClampNeg) x4.toNatClampNeg)))), none, some (.int (x4 + 1))] [] (pv_em S) := Eq.trans (pv_Rstp dX3_sumOf_16 rfl rfl rfl) (Eq.trans (pv_Rstp dX3_sumOf_17 rfl rfl rfl) (Eq.trans (pv_Rget dX3_sumOf_18 ffX3_19 (by decide) (pv_ce_1 _ _) rfl) (Eq.trans (pv_Rstp dX3_sumOf_21 rfl rfl rfl) (Eq.trans (pv_Raald dX3_sumOf_22 (by decide) (pv_ce_3 _ _)) (pv_iteN (fun h1 => Eq.trans (pv_Rstp dX3_sumOf_23 rfl rfl rfl) (Eq.trans (pv_Rald dX3_sumOf_25 (pv_fal_4 (Nat.not_le.mp fun z => h1 (Or.inr z))) (pv_fam_4 (Nat.not_le.mp fun z => h1 (Or.inr z)) _ _)) (pv_iteN (fun h2 => Eq.trans (pv_Rstp dX3_sumOf_26 rfl rfl rfl) (Eq.trans (pv_Rstp dX3_sumOf_27 rfl rfl rfl) (Eq.trans (pv_Rstp dX3_sumOf_28 rfl rfl rfl) (Eq.trans (pv_Rinc dX3_sumOf_29 rfl (Nat.le_of_ble_eq_true rfl) ki_1 rfl) (pv_Rgo (tgt := 5) dX3_sumOf_32 rfl (by decide))))))))))))))
set_option maxHeartbeats 200000 in
theorem bX3_sumOfr_35 {S : pv_S} {x1 x4 : Int32} {x2 : Int64} {a3 : Option Value} : pv_R mX3_sumOf 35 [some (.ref 1), some (.int x1), some (.long x2), a3, some (.int x4)] [] (pv_em S) = some (some (.long x2), pv_em S) := Eq.trans (pv_Rstp dX3_sumOf_35 rfl rfl rfl) (pv_Rret dX3_sumOf_36 rfl)
set_option maxHeartbeats 200000 in
theorem bX3_gett_0 {S : pv_S} {x1 x2 : Int32} : pv_R mX3_get 0 [some (.ref 10), some (.int x1), some (.int x2)] [] (pv_em S) = if x1 < 0 ∨ 4 ≤ x1.toNatClampNeg then none else if x2 < 0 ∨ 60 ≤ x2.toNatClampNeg then none else some (some (.int (S.1 (13 + x1.toNatClampNeg) x2.toNatClampNeg)), pv_em S) := Eq.trans (pv_Rstp dX3_get_0 rfl rfl rfl) (Eq.trans (pv_Rget dX3_get_1 ffX3_19 (by decide) (pv_ce_10 _ _) rfl) (Eq.trans (pv_Rstp dX3_get_4 rfl rfl rfl) (Eq.trans (pv_Raald dX3_get_5 (by decide) (pv_ce_12 _ _)) (pv_iteN (fun h1 => Eq.trans (pv_Rstp dX3_get_6 rfl rfl rfl) (Eq.trans (pv_Rald dX3_get_7 (pv_fal_13 (Nat.not_le.mp fun z => h1 (Or.inr z))) (pv_fam_13 (Nat.not_le.mp fun z => h1 (Or.inr z)) _ _)) (pv_iteN (fun h2 => pv_Rret dX3_get_8 rfl))))))))
set_option maxHeartbeats 200000 in
theorem bX3_sett_0 {S : pv_S} {x1 x2 x3 : Int32} : pv_R mX3_set 0 [some (.ref 10), some (.int x1), some (.int x2), some (.int x3)] [] (pv_em S) = if x1 < 0 ∨ 4 ≤ x1.toNatClampNeg then none else if x2 < 0 ∨ 60 ≤ x2.toNatClampNeg then none else some (none, pv_em (pv_si S (13 + x1.toNatClampNeg) x2.toNatClampNeg x3)) := Eq.trans (pv_Rstp dX3_set_0 rfl rfl rfl) (Eq.trans (pv_Rget dX3_set_1 ffX3_19 (by decide) (pv_ce_10 _ _) rfl) (Eq.trans (pv_Rstp dX3_set_4 rfl rfl rfl) (Eq.trans (pv_Raald dX3_set_5 (by decide) (pv_ce_12 _ _)) (pv_iteN (fun h1 => Eq.trans (pv_Rstp dX3_set_6 rfl rfl rfl) (Eq.trans (pv_Rstp dX3_set_7 rfl rfl rfl) (Eq.trans (pv_Rast dX3_set_8 (pv_fal_13 (Nat.not_le.mp fun z => h1 (Or.inr z))) (pv_fam_13 (Nat.not_le.mp fun z => h1 (Or.inr z)) _ _) (pv_em_si (pv_fam_13 (Nat.not_le.mp fun z => h1 (Or.inr z)) _ _))) (pv_iteN (fun h2 => pv_Rret dX3_set_9 rfl)))))))))
theorem dX1_weightIn_0 : decode cX1_weightIn 0 = .ok (.iload_n 1, 1) := by decide +kernel
theorem dX1_weightIn_1 : decode cX1_weightIn 1 = .ok (.ifCond .lt 20, 3) := by decide +kernel
theorem dX1_weightIn_4 : decode cX1_weightIn 4 = .ok (.iload_n 1, 1) := by decide +kernel
theorem dX1_weightIn_5 : decode cX1_weightIn 5 = .ok (.aload_n 0, 1) := by decide +kernel
theorem dX1_weightIn_6 : decode cX1_weightIn 6 = .ok (.getfield 27, 3) := by decide +kernel
theorem dX1_weightIn_9 : decode cX1_weightIn 9 = .ok (.if_icmp .gt 12, 3) := by decide +kernel
theorem dX1_weightIn_12 : decode cX1_weightIn 12 = .ok (.aload_n 0, 1) := by decide +kernel
theorem dX1_weightIn_13 : decode cX1_weightIn 13 = .ok (.getfield 9, 3) := by decide +kernel
theorem dX1_weightIn_16 : decode cX1_weightIn 16 = .ok (.iload_n 1, 1) := by decide +kernel
theorem dX1_weightIn_17 : decode cX1_weightIn 17 = .ok (.iaload, 1) := by decide +kernel
theorem dX1_weightIn_18 : decode cX1_weightIn 18 = .ok (.goto 4, 3) := by decide +kernel
theorem dX1_weightIn_21 : decode cX1_weightIn 21 = .ok (.iconst 0, 1) := by decide +kernel
theorem dX1_weightIn_22 : decode cX1_weightIn 22 = .ok (.ireturn, 1) := by decide +kernel
set_option maxHeartbeats 200000 in
theorem bX1_weightIn_0 {S : pv_S} {x1 : Int32} : pv_R mX1_weightIn 0 [some (.ref 32), some (.int x1)] [] (pv_em S) = if x1 < 0 then pv_R mX1_weightIn 21 [some (.ref 32), some (.int x1)] [] (pv_em S) else pv_R mX1_weightIn 4 [some (.ref 32), some (.int x1)] [] (pv_em S) := Eq.trans (pv_Rstp dX1_weightIn_0 rfl rfl rfl) (pv_Rbr (tgt := 21) dX1_weightIn_1 rfl rfl rfl rfl rfl (by decide))
set_option maxHeartbeats 200000 in
theorem bX1_weightIn_4 {S : pv_S} {x1 : Int32} : pv_R mX1_weightIn 4 [some (.ref 32), some (.int x1)] [] (pv_em S) = if (S.1 32 2) < x1 then pv_R mX1_weightIn 21 [some (.ref 32), some (.int x1)] [] (pv_em S) else pv_R mX1_weightIn 12 [some (.ref 32), some (.int x1)] [] (pv_em S) := Eq.trans (pv_Rstp dX1_weightIn_4 rfl rfl rfl) (Eq.trans (pv_Rstp dX1_weightIn_5 rfl rfl rfl) (Eq.trans (pv_Rget dX1_weightIn_6 ffX1_27 (by decide) (pv_ce_32 _ _) rfl) (pv_Rbr (tgt := 21) dX1_weightIn_9 rfl rfl rfl rfl rfl (by decide))))
set_option maxHeartbeats 200000 in
theorem bX1_weightIn_12 {S : pv_S} {x1 : Int32} : pv_R mX1_weightIn 12 [some (.ref 32), some (.int x1)] [] (pv_em S) = if x1 < 0 ∨ 61 ≤ x1.toNatClampNeg then none else pv_R mX1_weightIn 22 [some (.ref 32), some (.int x1)] [.int (S.1 33 x1.toNatClampNeg)] (pv_em S) := Eq.trans (pv_Rstp dX1_weightIn_12 rfl rfl rfl) (Eq.trans (pv_Rget dX1_weightIn_13 ffX1_9 (by decide) (pv_ce_32 _ _) rfl) (Eq.trans (pv_Rstp dX1_weightIn_16 rfl rfl rfl) (Eq.trans (pv_Rald dX1_weightIn_17 (by decide) (pv_ce_33 _ _)) (pv_iteN (fun h1 => pv_Rgo (tgt := 22) dX1_weightIn_18 rfl (by decide))))))
set_option maxHeartbeats 200000 in
theorem bX1_weightIn_21 {S : pv_S} {x1 : Int32} : pv_R mX1_weightIn 21 [some (.ref 32), some (.int x1)] [] (pv_em S) = pv_R mX1_weightIn 22 [some (.ref 32), some (.int x1)] [.int 0] (pv_em S) := pv_Ric dX1_weightIn_21 ki_0
set_option maxHeartbeats 200000 in
theorem bX1_weightIn_22 {S : pv_S} {x1 u0 : Int32} : pv_R mX1_weightIn 22 [some (.ref 32), some (.int x1)] [.int u0] (pv_em S) = some (some (.int u0), pv_em S) := pv_Rret dX1_weightIn_22 rfl
theorem dX1_firstWith_0 : decode cX1_firstWith 0 = .ok (.iconst 0, 1) := by decide +kernel
theorem dX1_firstWith_1 : decode cX1_firstWith 1 = .ok (.istore_n 2, 1) := by decide +kernel
theorem dX1_firstWith_2 : decode cX1_firstWith 2 = .ok (.iload_n 2, 1) := by decide +kernel
theorem dX1_firstWith_3 : decode cX1_firstWith 3 = .ok (.aload_n 0, 1) := by decide +kernel
theorem dX1_firstWith_4 : decode cX1_firstWith 4 = .ok (.getfield 27, 3) := by decide +kernel
theorem dX1_firstWith_7 : decode cX1_firstWith 7 = .ok (.if_icmp .gt 21, 3) := by decide +kernel
theorem dX1_firstWith_10 : decode cX1_firstWith 10 = .ok (.aload_n 0, 1) := by decide +kernel
theorem dX1_firstWith_11 : decode cX1_firstWith 11 = .ok (.getfield 9, 3) := by decide +kernel
theorem dX1_firstWith_14 : decode cX1_firstWith 14 = .ok (.iload_n 2, 1) := by decide +kernel
theorem dX1_firstWith_15 : decode cX1_firstWith 15 = .ok (.iaload, 1) := by decide +kernel
theorem dX1_firstWith_16 : decode cX1_firstWith 16 = .ok (.iload_n 1, 1) := by decide +kernel
theorem dX1_firstWith_17 : decode cX1_firstWith 17 = .ok (.if_icmp .ne 5, 3) := by decide +kernel
theorem dX1_firstWith_20 : decode cX1_firstWith 20 = .ok (.iload_n 2, 1) := by decide +kernel
theorem dX1_firstWith_21 : decode cX1_firstWith 21 = .ok (.ireturn, 1) := by decide +kernel
theorem dX1_firstWith_22 : decode cX1_firstWith 22 = .ok (.iinc 2 1, 3) := by decide +kernel
theorem dX1_firstWith_25 : decode cX1_firstWith 25 = .ok (.goto (-23), 3) := by decide +kernel
theorem dX1_firstWith_28 : decode cX1_firstWith 28 = .ok (.bipush (-9), 2) := by decide +kernel
theorem dX1_firstWith_30 : decode cX1_firstWith 30 = .ok (.ireturn, 1) := by decide +kernel
set_option maxHeartbeats 200000 in
theorem bX1_firstWith_0 {S : pv_S} {x1 : Int32} {a2 : Option Value} : pv_R mX1_firstWith 0 [some (.ref 32), some (.int x1), a2] [] (pv_em S) = pv_R mX1_firstWith 2 [some (.ref 32), some (.int x1), some (.int 0)] [] (pv_em S) := Eq.trans (pv_Ric dX1_firstWith_0 ki_0) (pv_Rstp dX1_firstWith_1 rfl rfl rfl)
set_option maxHeartbeats 200000 in
theorem bX1_firstWith_2 {S : pv_S} {x1 x2 : Int32} : pv_R mX1_firstWith 2 [some (.ref 32), some (.int x1), some (.int x2)] [] (pv_em S) = if (S.1 32 2) < x2 then pv_R mX1_firstWith 28 [some (.ref 32), some (.int x1), some (.int x2)] [] (pv_em S) else pv_R mX1_firstWith 10 [some (.ref 32), some (.int x1), some (.int x2)] [] (pv_em S) := Eq.trans (pv_Rstp dX1_firstWith_2 rfl rfl rfl) (Eq.trans (pv_Rstp dX1_firstWith_3 rfl rfl rfl) (Eq.trans (pv_Rget dX1_firstWith_4 ffX1_27 (by decide) (pv_ce_32 _ _) rfl) (pv_Rbr (tgt := 28) dX1_firstWith_7 rfl rfl rfl rfl rfl (by decide))))
set_option maxHeartbeats 200000 in
theorem bX1_firstWith_10 {S : pv_S} {x1 x2 : Int32} : pv_R mX1_firstWith 10 [some (.ref 32), some (.int x1), some (.int x2)] [] (pv_em S) = if x2 < 0 ∨ 61 ≤ x2.toNatClampNeg then none else if ¬ (S.1 33 x2.toNatClampNeg) = x1 then pv_R mX1_firstWith 22 [some (.ref 32), some (.int x1), some (.int x2)] [] (pv_em S) else pv_R mX1_firstWith 20 [some (.ref 32), some (.int x1), some (.int x2)] [] (pv_em S) := Eq.trans (pv_Rstp dX1_firstWith_10 rfl rfl rfl) (Eq.trans (pv_Rget dX1_firstWith_11 ffX1_9 (by decide) (pv_ce_32 _ _) rfl) (Eq.trans (pv_Rstp dX1_firstWith_14 rfl rfl rfl) (Eq.trans (pv_Rald dX1_firstWith_15 (by decide) (pv_ce_33 _ _)) (pv_iteN (fun h1 => Eq.trans (pv_Rstp dX1_firstWith_16 rfl rfl rfl) (pv_Rbr (tgt := 22) dX1_firstWith_17 rfl rfl rfl rfl rfl (by decide)))))))
set_option maxHeartbeats 200000 in
theorem bX1_firstWith_20 {S : pv_S} {x1 x2 : Int32} : pv_R mX1_firstWith 20 [some (.ref 32), some (.int x1), some (.int x2)] [] (pv_em S) = some (some (.int x2), pv_em S) := Eq.trans (pv_Rstp dX1_firstWith_20 rfl rfl rfl) (pv_Rret dX1_firstWith_21 rfl)
set_option maxHeartbeats 200000 in
theorem bX1_firstWith_22 {S : pv_S} {x1 x2 : Int32} : pv_R mX1_firstWith 22 [some (.ref 32), some (.int x1), some (.int x2)] [] (pv_em S) = pv_R mX1_firstWith 2 [some (.ref 32), some (.int x1), some (.int (x2 + 1))] [] (pv_em S) := Eq.trans (pv_Rinc dX1_firstWith_22 rfl (Nat.le_of_ble_eq_true rfl) ki_1 rfl) (pv_Rgo (tgt := 2) dX1_firstWith_25 rfl (by decide))
set_option maxHeartbeats 200000 in
theorem bX1_firstWith_28 {S : pv_S} {x1 x2 : Int32} : pv_R mX1_firstWith 28 [some (.ref 32), some (.int x1), some (.int x2)] [] (pv_em S) = some (some (.int (-9)), pv_em S) := Eq.trans (pv_Rbp dX1_firstWith_28 kb_m9) (pv_Rret dX1_firstWith_30 rfl)
theorem dX1_spread_0 : decode cX1_spread 0 = .ok (.aload_n 0, 1) := by decide +kernel
theorem dX1_spread_1 : decode cX1_spread 1 = .ok (.getfield 9, 3) := by decide +kernel
theorem dX1_spread_4 : decode cX1_spread 4 = .ok (.iconst 0, 1) := by decide +kernel
theorem dX1_spread_5 : decode cX1_spread 5 = .ok (.iaload, 1) := by decide +kernel
theorem dX1_spread_6 : decode cX1_spread 6 = .ok (.istore_n 1, 1) := by decide +kernel
theorem dX1_spread_7 : decode cX1_spread 7 = .ok (.aload_n 0, 1) := by decide +kernel
theorem dX1_spread_8 : decode cX1_spread 8 = .ok (.getfield 9, 3) := by decide +kernel
theorem dX1_spread_11 : decode cX1_spread 11 = .ok (.iconst 0, 1) := by decide +kernel
theorem dX1_spread_12 : decode cX1_spread 12 = .ok (.iaload, 1) := by decide +kernel
theorem dX1_spread_13 : decode cX1_spread 13 = .ok (.istore_n 2, 1) := by decide +kernel
theorem dX1_spread_14 : decode cX1_spread 14 = .ok (.iconst 1, 1) := by decide +kernel
theorem dX1_spread_15 : decode cX1_spread 15 = .ok (.istore_n 3, 1) := by decide +kernel
theorem dX1_spread_16 : decode cX1_spread 16 = .ok (.iload_n 3, 1) := by decide +kernel
theorem dX1_spread_17 : decode cX1_spread 17 = .ok (.aload_n 0, 1) := by decide +kernel
theorem dX1_spread_18 : decode cX1_spread 18 = .ok (.getfield 27, 3) := by decide +kernel
theorem dX1_spread_21 : decode cX1_spread 21 = .ok (.if_icmp .gt 31, 3) := by decide +kernel
theorem dX1_spread_24 : decode cX1_spread 24 = .ok (.iload_n 1, 1) := by decide +kernel
theorem dX1_spread_25 : decode cX1_spread 25 = .ok (.aload_n 0, 1) := by decide +kernel
theorem dX1_spread_26 : decode cX1_spread 26 = .ok (.getfield 9, 3) := by decide +kernel
theorem dX1_spread_29 : decode cX1_spread 29 = .ok (.iload_n 3, 1) := by decide +kernel
theorem dX1_spread_30 : decode cX1_spread 30 = .ok (.iaload, 1) := by decide +kernel
theorem dX1_spread_31 : decode cX1_spread 31 = .ok (.invokestatic 18, 3) := by decide +kernel
theorem dX1_spread_34 : decode cX1_spread 34 = .ok (.istore_n 1, 1) := by decide +kernel
theorem dX1_spread_35 : decode cX1_spread 35 = .ok (.iload_n 2, 1) := by decide +kernel
theorem dX1_spread_36 : decode cX1_spread 36 = .ok (.aload_n 0, 1) := by decide +kernel
theorem dX1_spread_37 : decode cX1_spread 37 = .ok (.getfield 9, 3) := by decide +kernel
theorem dX1_spread_40 : decode cX1_spread 40 = .ok (.iload_n 3, 1) := by decide +kernel
theorem dX1_spread_41 : decode cX1_spread 41 = .ok (.iaload, 1) := by decide +kernel
theorem dX1_spread_42 : decode cX1_spread 42 = .ok (.invokestatic 24, 3) := by decide +kernel
theorem dX1_spread_45 : decode cX1_spread 45 = .ok (.istore_n 2, 1) := by decide +kernel
theorem dX1_spread_46 : decode cX1_spread 46 = .ok (.iinc 3 1, 3) := by decide +kernel
theorem dX1_spread_49 : decode cX1_spread 49 = .ok (.goto (-33), 3) := by decide +kernel
theorem dX1_spread_52 : decode cX1_spread 52 = .ok (.iload_n 2, 1) := by decide +kernel
theorem dX1_spread_53 : decode cX1_spread 53 = .ok (.iload_n 1, 1) := by decide +kernel
theorem dX1_spread_54 : decode cX1_spread 54 = .ok (.isub, 1) := by decide +kernel
theorem dX1_spread_55 : decode cX1_spread 55 = .ok (.ireturn, 1) := by decide +kernel
set_option maxHeartbeats 200000 in
theorem bX1_spread_0 {S : pv_S} {a1 a2 a3 : Option Value} : pv_R mX1_spread 0 [some (.ref 32), a1, a2, a3] [] (pv_em S) = pv_R mX1_spread 16 [some (.ref 32), some (.int (S.1 33 (0 : Int32).toNatClampNeg)), some (.int (S.1 33 (0 : Int32).toNatClampNeg)), some (.int 1)] [] (pv_em S) := Eq.trans (pv_Rstp dX1_spread_0 rfl rfl rfl) (Eq.trans (pv_Rget dX1_spread_1 ffX1_9 (by decide) (pv_ce_32 _ _) rfl) (Eq.trans (pv_Ric dX1_spread_4 ki_0) (Eq.trans (pv_Rald dX1_spread_5 (by decide) (pv_ce_33 _ _)) (Eq.trans (if_neg (by decide +kernel)) (Eq.trans (pv_Rstp dX1_spread_6 rfl rfl rfl) (Eq.trans (pv_Rstp dX1_spread_7 rfl rfl rfl) (Eq.trans (pv_Rget dX1_spread_8 ffX1_9 (by decide) (pv_ce_32 _ _) rfl) (Eq.trans (pv_Ric dX1_spread_11 ki_0) (Eq.trans (pv_Rald dX1_spread_12 (by decide) (pv_ce_33 _ _)) (Eq.trans (if_neg (by decide +kernel)) (Eq.trans (pv_Rstp dX1_spread_13 rfl rfl rfl) (Eq.trans (pv_Ric dX1_spread_14 ki_1) (pv_Rstp dX1_spread_15 rfl rfl rfl)))))))))))))
set_option maxHeartbeats 200000 in
theorem bX1_spread_16 {S : pv_S} {x1 x2 x3 : Int32} : pv_R mX1_spread 16 [some (.ref 32), some (.int x1), some (.int x2), some (.int x3)] [] (pv_em S) = if (S.1 32 2) < x3 then pv_R mX1_spread 52 [some (.ref 32), some (.int x1), some (.int x2), some (.int x3)] [] (pv_em S) else pv_R mX1_spread 24 [some (.ref 32), some (.int x1), some (.int x2), some (.int x3)] [] (pv_em S) := Eq.trans (pv_Rstp dX1_spread_16 rfl rfl rfl) (Eq.trans (pv_Rstp dX1_spread_17 rfl rfl rfl) (Eq.trans (pv_Rget dX1_spread_18 ffX1_27 (by decide) (pv_ce_32 _ _) rfl) (pv_Rbr (tgt := 52) dX1_spread_21 rfl rfl rfl rfl rfl (by decide))))
set_option maxHeartbeats 200000 in
theorem bX1_spread_24 {S : pv_S} {x1 x2 x3 : Int32} : pv_R mX1_spread 24 [some (.ref 32), some (.int x1), some (.int x2), some (.int x3)] [] (pv_em S) = if x3 < 0 ∨ 61 ≤ x3.toNatClampNeg then none else if x3 < 0 ∨ 61 ≤ x3.toNatClampNeg then none else pv_R mX1_spread 16 [some (.ref 32), some (.int (if (S.1 33 x3.toNatClampNeg) < x1 then (S.1 33 x3.toNatClampNeg) else x1)), some (.int (if x2 < (S.1 33 x3.toNatClampNeg) then (S.1 33 x3.toNatClampNeg) else x2)), some (.int (x3 + 1))] [] (pv_em S) := Eq.trans (pv_Rstp dX1_spread_24 rfl rfl rfl) (Eq.trans (pv_Rstp dX1_spread_25 rfl rfl rfl) (Eq.trans (pv_Rget dX1_spread_26 ffX1_9 (by decide) (pv_ce_32 _ _) rfl) (Eq.trans (pv_Rstp dX1_spread_29 rfl rfl rfl) (Eq.trans (pv_Rald dX1_spread_30 (by decide) (pv_ce_33 _ _)) (pv_iteN (fun h1 => Eq.trans (pv_Rmx dX1_spread_31 mfX1_18 rfl rfl) (Eq.trans (pv_Rstp dX1_spread_34 rfl rfl rfl) (Eq.trans (pv_Rstp dX1_spread_35 rfl rfl rfl) (Eq.trans (pv_Rstp dX1_spread_36 rfl rfl rfl) (Eq.trans (pv_Rget dX1_spread_37 ffX1_9 (by decide) (pv_ce_32 _ _) rfl) (Eq.trans (pv_Rstp dX1_spread_40 rfl rfl rfl) (Eq.trans (pv_Rald dX1_spread_41 (by decide) (pv_ce_33 _ _)) (pv_iteN (fun h2 => Eq.trans (pv_Rmx dX1_spread_42 mfX1_24 rfl rfl) (Eq.trans (pv_Rstp dX1_spread_45 rfl rfl rfl) (Eq.trans (pv_Rinc dX1_spread_46 rfl (Nat.le_of_ble_eq_true rfl) ki_1 rfl) (pv_Rgo (tgt := 16) dX1_spread_49 rfl (by decide))))))))))))))))))
set_option maxHeartbeats 200000 in
theorem bX1_spread_52 {S : pv_S} {x1 x2 x3 : Int32} : pv_R mX1_spread 52 [some (.ref 32), some (.int x1), some (.int x2), some (.int x3)] [] (pv_em S) = some (some (.int (x2 - x1)), pv_em S) := Eq.trans (pv_Rstp dX1_spread_52 rfl rfl rfl) (Eq.trans (pv_Rstp dX1_spread_53 rfl rfl rfl) (Eq.trans (pv_Rstp dX1_spread_54 rfl rfl rfl) (pv_Rret dX1_spread_55 rfl)))
theorem dX1_fill_0 : decode cX1_fill 0 = .ok (.aload_n 0, 1) := by decide +kernel
theorem dX1_fill_1 : decode cX1_fill 1 = .ok (.iconst 0, 1) := by decide +kernel
theorem dX1_fill_2 : decode cX1_fill 2 = .ok (.iload 4, 2) := by decide +kernel
theorem dX1_fill_4 : decode cX1_fill 4 = .ok (.bipush 60, 2) := by decide +kernel
theorem dX1_fill_6 : decode cX1_fill 6 = .ok (.invokestatic 18, 3) := by decide +kernel
theorem dX1_fill_9 : decode cX1_fill 9 = .ok (.invokestatic 24, 3) := by decide +kernel
theorem dX1_fill_12 : decode cX1_fill 12 = .ok (.putfield 27, 3) := by decide +kernel
theorem dX1_fill_15 : decode cX1_fill 15 = .ok (.aload_n 0, 1) := by decide +kernel
theorem dX1_fill_16 : decode cX1_fill 16 = .ok (.getfield 9, 3) := by decide +kernel
theorem dX1_fill_19 : decode cX1_fill 19 = .ok (.iconst 0, 1) := by decide +kernel
theorem dX1_fill_20 : decode cX1_fill 20 = .ok (.iload_n 2, 1) := by decide +kernel
theorem dX1_fill_21 : decode cX1_fill 21 = .ok (.iastore, 1) := by decide +kernel
theorem dX1_fill_22 : decode cX1_fill 22 = .ok (.iconst 0, 1) := by decide +kernel
theorem dX1_fill_23 : decode cX1_fill 23 = .ok (.istore 5, 2) := by decide +kernel
theorem dX1_fill_25 : decode cX1_fill 25 = .ok (.iload 5, 2) := by decide +kernel
theorem dX1_fill_27 : decode cX1_fill 27 = .ok (.aload_n 0, 1) := by decide +kernel
theorem dX1_fill_28 : decode cX1_fill 28 = .ok (.getfield 27, 3) := by decide +kernel
theorem dX1_fill_31 : decode cX1_fill 31 = .ok (.if_icmp .ge 33, 3) := by decide +kernel
theorem dX1_fill_34 : decode cX1_fill 34 = .ok (.aload_n 0, 1) := by decide +kernel
theorem dX1_fill_35 : decode cX1_fill 35 = .ok (.getfield 9, 3) := by decide +kernel
theorem dX1_fill_38 : decode cX1_fill 38 = .ok (.iload 5, 2) := by decide +kernel
theorem dX1_fill_40 : decode cX1_fill 40 = .ok (.iconst 1, 1) := by decide +kernel
theorem dX1_fill_41 : decode cX1_fill 41 = .ok (.iadd, 1) := by decide +kernel
theorem dX1_fill_42 : decode cX1_fill 42 = .ok (.iload_n 1, 1) := by decide +kernel
theorem dX1_fill_43 : decode cX1_fill 43 = .ok (.aload_n 0, 1) := by decide +kernel
theorem dX1_fill_44 : decode cX1_fill 44 = .ok (.getfield 9, 3) := by decide +kernel
theorem dX1_fill_47 : decode cX1_fill 47 = .ok (.iload 5, 2) := by decide +kernel
theorem dX1_fill_49 : decode cX1_fill 49 = .ok (.iaload, 1) := by decide +kernel
theorem dX1_fill_50 : decode cX1_fill 50 = .ok (.iload_n 3, 1) := by decide +kernel
theorem dX1_fill_51 : decode cX1_fill 51 = .ok (.iload 5, 2) := by decide +kernel
theorem dX1_fill_53 : decode cX1_fill 53 = .ok (.iadd, 1) := by decide +kernel
theorem dX1_fill_54 : decode cX1_fill 54 = .ok (.invokestatic 31, 3) := by decide +kernel
theorem dX1_fill_57 : decode cX1_fill 57 = .ok (.iastore, 1) := by decide +kernel
theorem dX1_fill_58 : decode cX1_fill 58 = .ok (.iinc 5 1, 3) := by decide +kernel
theorem dX1_fill_61 : decode cX1_fill 61 = .ok (.goto (-36), 3) := by decide +kernel
theorem dX1_fill_64 : decode cX1_fill 64 = .ok (.return_, 1) := by decide +kernel
set_option maxHeartbeats 200000 in
theorem bX1_fill_0 {S : pv_S} {x1 x2 x3 x4 : Int32} {a5 : Option Value} : pv_R mX1_fill 0 [some (.ref 32), some (.int x1), some (.int x2), some (.int x3), some (.int x4), a5] [] (pv_em S) = pv_R mX1_fill 25 [some (.ref 32), some (.int x1), some (.int x2), some (.int x3), some (.int x4), some (.int 0)] [] (pv_em (pv_si (pv_si S 32 2 (if 0 < (if 60 < x4 then 60 else x4) then (if 60 < x4 then 60 else x4) else 0)) 33 (0 : Int32).toNatClampNeg x2)) := Eq.trans (pv_Rstp dX1_fill_0 rfl rfl rfl) (Eq.trans (pv_Ric dX1_fill_1 ki_0) (Eq.trans (pv_Rstp dX1_fill_2 rfl rfl rfl) (Eq.trans (pv_Rbp dX1_fill_4 kb_60) (Eq.trans (pv_Rmx dX1_fill_6 mfX1_18 rfl rfl) (Eq.trans (pv_Rmx dX1_fill_9 mfX1_24 rfl rfl) (Eq.trans (pv_Rput dX1_fill_12 ffX1_27 rfl rfl rfl (by decide) (pv_ce_32 _ _) (Nat.le_of_ble_eq_true rfl) (pv_em_si rfl)) (Eq.trans (pv_Rstp dX1_fill_15 rfl rfl rfl) (Eq.trans (pv_Rget dX1_fill_16 ffX1_9 (by decide) (pv_ce_32 _ _) rfl) (Eq.trans (pv_Ric dX1_fill_19 ki_0) (Eq.trans (pv_Rstp dX1_fill_20 rfl rfl rfl) (Eq.trans (pv_Rast dX1_fill_21 (by decide) (pv_ce_33 _ _) (pv_em_si rfl)) (Eq.trans (if_neg (by decide +kernel)) (Eq.trans (pv_Ric dX1_fill_22 ki_0) (pv_Rstp dX1_fill_23 rfl rfl rfl))))))))))))))
set_option maxHeartbeats 200000 in
theorem bX1_fill_25 {S : pv_S} {x1 x2 x3 x4 x5 : Int32} : pv_R mX1_fill 25 [some (.ref 32), some (.int x1), some (.int x2), some (.int x3), some (.int x4), some (.int x5)] [] (pv_em S) = if (S.1 32 2) ≤ x5 then pv_R mX1_fill 64 [some (.ref 32), some (.int x1), some (.int x2), some (.int x3), some (.int x4), some (.int x5)] [] (pv_em S) else pv_R mX1_fill 34 [some (.ref 32), some (.int x1), some (.int x2), some (.int x3), some (.int x4), some (.int x5)] [] (pv_em S) := Eq.trans (pv_Rstp dX1_fill_25 rfl rfl rfl) (Eq.trans (pv_Rstp dX1_fill_27 rfl rfl rfl) (Eq.trans (pv_Rget dX1_fill_28 ffX1_27 (by decide) (pv_ce_32 _ _) rfl) (pv_Rbr (tgt := 64) dX1_fill_31 rfl rfl rfl rfl rfl (by decide))))
set_option maxHeartbeats 200000 in
theorem bX1_fill_34 {S : pv_S} {x1 x2 x3 x4 x5 : Int32} : pv_R mX1_fill 34 [some (.ref 32), some (.int x1), some (.int x2), some (.int x3), some (.int x4), some (.int x5)] [] (pv_em S) = if x5 < 0 ∨ 61 ≤ x5.toNatClampNeg then none else pv_cc (pv_R mX0_afterHour 0 [some (.int x1), some (.int (S.1 33 x5.toNatClampNeg)), some (.int (x3 + x5))] [] (pv_em S)) mX1_fill 57 [some (.ref 32), some (.int x1), some (.int x2), some (.int x3), some (.int x4), some (.int x5)] [.int (x5 + 1), .ref 33] := Eq.trans (pv_Rstp dX1_fill_34 rfl rfl rfl) (Eq.trans (pv_Rget dX1_fill_35 ffX1_9 (by decide) (pv_ce_32 _ _) rfl) (Eq.trans (pv_Rstp dX1_fill_38 rfl rfl rfl) (Eq.trans (pv_Ric dX1_fill_40 ki_1) (Eq.trans (pv_Rstp dX1_fill_41 rfl rfl rfl) (Eq.trans (pv_Rstp dX1_fill_42 rfl rfl rfl) (Eq.trans (pv_Rstp dX1_fill_43 rfl rfl rfl) (Eq.trans (pv_Rget dX1_fill_44 ffX1_9 (by decide) (pv_ce_32 _ _) rfl) (Eq.trans (pv_Rstp dX1_fill_47 rfl rfl rfl) (Eq.trans (pv_Rald dX1_fill_49 (by decide) (pv_ce_33 _ _)) (pv_iteN (fun h1 => Eq.trans (pv_Rstp dX1_fill_50 rfl rfl rfl) (Eq.trans (pv_Rstp dX1_fill_51 rfl rfl rfl) (Eq.trans (pv_Rstp dX1_fill_53 rfl rfl rfl) (pv_Rcall (As := [.int x1, .int (S.1 33 x5.toNatClampNeg), .int (x3 + x5)]) (rest := [.int (x5 + 1), .ref 33]) dX1_fill_54 rfl mfX1_31 rfl rfl rfl rfl rfl))))))))))))))
set_option maxHeartbeats 200000 in
theorem bX1_fill_57 {S : pv_S} {x1 x2 x3 x4 x5 u0 u1 : Int32} : pv_R mX1_fill 57 [some (.ref 32), some (.int x1), some (.int x2), some (.int x3), some (.int x4), some (.int x5)] [.int u0, .int u1, .ref 33] (pv_em S) = if u1 < 0 ∨ 61 ≤ u1.toNatClampNeg then none else pv_R mX1_fill 25 [some (.ref 32), some (.int x1), some (.int x2), some (.int x3), some (.int x4), some (.int (x5 + 1))] [] (pv_em (pv_si S 33 u1.toNatClampNeg u0)) := Eq.trans (pv_Rast dX1_fill_57 (by decide) (pv_ce_33 _ _) (pv_em_si rfl)) (pv_iteN (fun h1 => Eq.trans (pv_Rinc dX1_fill_58 rfl (Nat.le_of_ble_eq_true rfl) ki_1 rfl) (pv_Rgo (tgt := 25) dX1_fill_61 rfl (by decide))))
set_option maxHeartbeats 200000 in
theorem bX1_fill_64 {S : pv_S} {x1 x2 x3 x4 x5 : Int32} : pv_R mX1_fill 64 [some (.ref 32), some (.int x1), some (.int x2), some (.int x3), some (.int x4), some (.int x5)] [] (pv_em S) = some (none, pv_em S) := pv_Rret dX1_fill_64 rfl
theorem dX1_poundsThen_0 : decode cX1_poundsThen 0 = .ok (.aload_n 0, 1) := by decide +kernel
theorem dX1_poundsThen_1 : decode cX1_poundsThen 1 = .ok (.iload_n 3, 1) := by decide +kernel
theorem dX1_poundsThen_2 : decode cX1_poundsThen 2 = .ok (.invokevirtual 37, 3) := by decide +kernel
theorem dX1_poundsThen_5 : decode cX1_poundsThen 5 = .ok (.istore 4, 2) := by decide +kernel
theorem dX1_poundsThen_7 : decode cX1_poundsThen 7 = .ok (.iload 4, 2) := by decide +kernel
theorem dX1_poundsThen_9 : decode cX1_poundsThen 9 = .ok (.ifCond .le 16, 3) := by decide +kernel
theorem dX1_poundsThen_12 : decode cX1_poundsThen 12 = .ok (.iload_n 1, 1) := by decide +kernel
theorem dX1_poundsThen_13 : decode cX1_poundsThen 13 = .ok (.aload_n 0, 1) := by decide +kernel
theorem dX1_poundsThen_14 : decode cX1_poundsThen 14 = .ok (.iload_n 2, 1) := by decide +kernel
theorem dX1_poundsThen_15 : decode cX1_poundsThen 15 = .ok (.invokevirtual 37, 3) := by decide +kernel
theorem dX1_poundsThen_18 : decode cX1_poundsThen 18 = .ok (.imul, 1) := by decide +kernel
theorem dX1_poundsThen_19 : decode cX1_poundsThen 19 = .ok (.iload 4, 2) := by decide +kernel
theorem dX1_poundsThen_21 : decode cX1_poundsThen 21 = .ok (.idiv, 1) := by decide +kernel
theorem dX1_poundsThen_22 : decode cX1_poundsThen 22 = .ok (.goto 4, 3) := by decide +kernel
theorem dX1_poundsThen_25 : decode cX1_poundsThen 25 = .ok (.iconst 0, 1) := by decide +kernel
theorem dX1_poundsThen_26 : decode cX1_poundsThen 26 = .ok (.ireturn, 1) := by decide +kernel
set_option maxHeartbeats 200000 in
theorem bX1_poundsThen_0 {S : pv_S} {x1 x2 x3 : Int32} {a4 : Option Value} : pv_R mX1_poundsThen 0 [some (.ref 32), some (.int x1), some (.int x2), some (.int x3), a4] [] (pv_em S) = pv_cc (pv_R mX1_weightIn 0 [some (.ref 32), some (.int x3)] [] (pv_em S)) mX1_poundsThen 5 [some (.ref 32), some (.int x1), some (.int x2), some (.int x3), a4] [] := Eq.trans (pv_Rstp dX1_poundsThen_0 rfl rfl rfl) (Eq.trans (pv_Rstp dX1_poundsThen_1 rfl rfl rfl) (pv_Rcall (As := [.ref 32, .int x3]) (rest := []) dX1_poundsThen_2 rfl mfX1_37 rfl rfl rfl rfl rfl))
set_option maxHeartbeats 200000 in
theorem bX1_poundsThen_5 {S : pv_S} {x1 x2 x3 u0 : Int32} {a4 : Option Value} : pv_R mX1_poundsThen 5 [some (.ref 32), some (.int x1), some (.int x2), some (.int x3), a4] [.int u0] (pv_em S) = if u0 ≤ 0 then pv_R mX1_poundsThen 25 [some (.ref 32), some (.int x1), some (.int x2), some (.int x3), some (.int u0)] [] (pv_em S) else pv_R mX1_poundsThen 12 [some (.ref 32), some (.int x1), some (.int x2), some (.int x3), some (.int u0)] [] (pv_em S) := Eq.trans (pv_Rstp dX1_poundsThen_5 rfl rfl rfl) (Eq.trans (pv_Rstp dX1_poundsThen_7 rfl rfl rfl) (pv_Rbr (tgt := 25) dX1_poundsThen_9 rfl rfl rfl rfl rfl (by decide)))
set_option maxHeartbeats 200000 in
theorem bX1_poundsThen_12 {S : pv_S} {x1 x2 x3 x4 : Int32} : pv_R mX1_poundsThen 12 [some (.ref 32), some (.int x1), some (.int x2), some (.int x3), some (.int x4)] [] (pv_em S) = pv_cc (pv_R mX1_weightIn 0 [some (.ref 32), some (.int x2)] [] (pv_em S)) mX1_poundsThen 18 [some (.ref 32), some (.int x1), some (.int x2), some (.int x3), some (.int x4)] [.int x1] := Eq.trans (pv_Rstp dX1_poundsThen_12 rfl rfl rfl) (Eq.trans (pv_Rstp dX1_poundsThen_13 rfl rfl rfl) (Eq.trans (pv_Rstp dX1_poundsThen_14 rfl rfl rfl) (pv_Rcall (As := [.ref 32, .int x2]) (rest := [.int x1]) dX1_poundsThen_15 rfl mfX1_37 rfl rfl rfl rfl rfl)))
set_option maxHeartbeats 200000 in
theorem bX1_poundsThen_18 {S : pv_S} {x1 x2 x3 x4 u0 u1 : Int32} : pv_R mX1_poundsThen 18 [some (.ref 32), some (.int x1), some (.int x2), some (.int x3), some (.int x4)] [.int u0, .int u1] (pv_em S) = if x4 = 0 then none else pv_R mX1_poundsThen 26 [some (.ref 32), some (.int x1), some (.int x2), some (.int x3), some (.int x4)] [.int ((u1 * u0) / x4)] (pv_em S) := Eq.trans (pv_Rstp dX1_poundsThen_18 rfl rfl rfl) (Eq.trans (pv_Rstp dX1_poundsThen_19 rfl rfl rfl) (Eq.trans (pv_Rdiv dX1_poundsThen_21) (pv_iteN (fun h1 => pv_Rgo (tgt := 26) dX1_poundsThen_22 rfl (by decide)))))
set_option maxHeartbeats 200000 in
theorem bX1_poundsThen_25 {S : pv_S} {x1 x2 x3 x4 : Int32} : pv_R mX1_poundsThen 25 [some (.ref 32), some (.int x1), some (.int x2), some (.int x3), some (.int x4)] [] (pv_em S) = pv_R mX1_poundsThen 26 [some (.ref 32), some (.int x1), some (.int x2), some (.int x3), some (.int x4)] [.int 0] (pv_em S) := pv_Ric dX1_poundsThen_25 ki_0
set_option maxHeartbeats 200000 in
theorem bX1_poundsThen_26 {S : pv_S} {x1 x2 x3 x4 u0 : Int32} : pv_R mX1_poundsThen 26 [some (.ref 32), some (.int x1), some (.int x2), some (.int x3), some (.int x4)] [.int u0] (pv_em S) = some (some (.int u0), pv_em S) := pv_Rret dX1_poundsThen_26 rfl
theorem dX3_make_0 : decode cX3_make 0 = .ok (.aload_n 0, 1) := by decide +kernel
theorem dX3_make_1 : decode cX3_make 1 = .ok (.getfield 13, 3) := by decide +kernel
theorem dX3_make_4 : decode cX3_make 4 = .ok (.iload_n 1, 1) := by decide +kernel
theorem dX3_make_5 : decode cX3_make 5 = .ok (.iload_n 2, 1) := by decide +kernel
theorem dX3_make_6 : decode cX3_make 6 = .ok (.iastore, 1) := by decide +kernel
theorem dX3_make_7 : decode cX3_make 7 = .ok (.iconst 0, 1) := by decide +kernel
theorem dX3_make_8 : decode cX3_make 8 = .ok (.istore 4, 2) := by decide +kernel
theorem dX3_make_10 : decode cX3_make 10 = .ok (.iload 4, 2) := by decide +kernel
theorem dX3_make_12 : decode cX3_make 12 = .ok (.iload_n 2, 1) := by decide +kernel
theorem dX3_make_13 : decode cX3_make 13 = .ok (.if_icmp .ge 19, 3) := by decide +kernel
theorem dX3_make_16 : decode cX3_make 16 = .ok (.aload_n 0, 1) := by decide +kernel
theorem dX3_make_17 : decode cX3_make 17 = .ok (.getfield 19, 3) := by decide +kernel
theorem dX3_make_20 : decode cX3_make 20 = .ok (.iload_n 1, 1) := by decide +kernel
theorem dX3_make_21 : decode cX3_make 21 = .ok (.aaload, 1) := by decide +kernel
theorem dX3_make_22 : decode cX3_make 22 = .ok (.iload 4, 2) := by decide +kernel
theorem dX3_make_24 : decode cX3_make 24 = .ok (.iload_n 3, 1) := by decide +kernel
theorem dX3_make_25 : decode cX3_make 25 = .ok (.iastore, 1) := by decide +kernel
theorem dX3_make_26 : decode cX3_make 26 = .ok (.iinc 4 1, 3) := by decide +kernel
theorem dX3_make_29 : decode cX3_make 29 = .ok (.goto (-19), 3) := by decide +kernel
theorem dX3_make_32 : decode cX3_make 32 = .ok (.return_, 1) := by decide +kernel
set_option maxHeartbeats 200000 in
theorem bX3_maker_0 {S : pv_S} {x1 x2 x3 : Int32} {a4 : Option Value} : pv_R mX3_make 0 [some (.ref 1), some (.int x1), some (.int x2), some (.int x3), a4] [] (pv_em S) = if x1 < 0 ∨ 6 ≤ x1.toNatClampNeg then none else pv_R mX3_make 10 [some (.ref 1), some (.int x1), some (.int x2), some (.int x3), some (.int 0)] [] (pv_em (pv_si S 2 x1.toNatClampNeg x2)) := Eq.trans (pv_Rstp dX3_make_0 rfl rfl rfl) (Eq.trans (pv_Rget dX3_make_1 ffX3_13 (by decide) (pv_ce_1 _ _) rfl) (Eq.trans (pv_Rstp dX3_make_4 rfl rfl rfl) (Eq.trans (pv_Rstp dX3_make_5 rfl rfl rfl) (Eq.trans (pv_Rast dX3_make_6 (by decide) (pv_ce_2 _ _) (pv_em_si rfl)) (pv_iteN (fun h1 => Eq.trans (pv_Ric dX3_make_7 ki_0) (pv_Rstp dX3_make_8 rfl rfl rfl)))))))
set_option maxHeartbeats 200000 in
theorem bX3_maker_10 {S : pv_S} {x1 x2 x3 x4 : Int32} : pv_R mX3_make 10 [some (.ref 1), some (.int x1), some (.int x2), some (.int x3), some (.int x4)] [] (pv_em S) = if x2 ≤ x4 then pv_R mX3_make 32 [some (.ref 1), some (.int x1), some (.int x2), some (.int x3), some (.int x4)] [] (pv_em S) else pv_R mX3_make 16 [some (.ref 1), some (.int x1), some (.int x2), some (.int x3), some (.int x4)] [] (pv_em S) := Eq.trans (pv_Rstp dX3_make_10 rfl rfl rfl) (Eq.trans (pv_Rstp dX3_make_12 rfl rfl rfl) (pv_Rbr (tgt := 32) dX3_make_13 rfl rfl rfl rfl rfl (by decide)))
set_option maxHeartbeats 200000 in
theorem bX3_maker_16 {S : pv_S} {x1 x2 x3 x4 : Int32} : pv_R mX3_make 16 [some (.ref 1), some (.int x1), some (.int x2), some (.int x3), some (.int x4)] [] (pv_em S) = if x1 < 0 ∨ 6 ≤ x1.toNatClampNeg then none else if x4 < 0 ∨ 40 ≤ x4.toNatClampNeg then none else pv_R mX3_make 10 [some (.ref 1), some (.int x1), some (.int x2), some (.int x3), some (.int (x4 + 1))] [] (pv_em (pv_si S (4 + x1.toNatClampNeg) x4.toNatClampNeg x3)) := Eq.trans (pv_Rstp dX3_make_16 rfl rfl rfl) (Eq.trans (pv_Rget dX3_make_17 ffX3_19 (by decide) (pv_ce_1 _ _) rfl) (Eq.trans (pv_Rstp dX3_make_20 rfl rfl rfl) (Eq.trans (pv_Raald dX3_make_21 (by decide) (pv_ce_3 _ _)) (pv_iteN (fun h1 => Eq.trans (pv_Rstp dX3_make_22 rfl rfl rfl) (Eq.trans (pv_Rstp dX3_make_24 rfl rfl rfl) (Eq.trans (pv_Rast dX3_make_25 (pv_fal_4 (Nat.not_le.mp fun z => h1 (Or.inr z))) (pv_fam_4 (Nat.not_le.mp fun z => h1 (Or.inr z)) _ _) (pv_em_si (pv_fam_4 (Nat.not_le.mp fun z => h1 (Or.inr z)) _ _))) (pv_iteN (fun h2 => Eq.trans (pv_Rinc dX3_make_26 rfl (Nat.le_of_ble_eq_true rfl) ki_1 rfl) (pv_Rgo (tgt := 10) dX3_make_29 rfl (by decide)))))))))))
set_option maxHeartbeats 200000 in
theorem bX3_maker_32 {S : pv_S} {x1 x2 x3 x4 : Int32} : pv_R mX3_make 32 [some (.ref 1), some (.int x1), some (.int x2), some (.int x3), some (.int x4)] [] (pv_em S) = some (none, pv_em S) := pv_Rret dX3_make_32 rfl
theorem dX4_tell_0 : decode cX4_tell 0 = .ok (.lload_n 1, 1) := by decide +kernel
theorem dX4_tell_1 : decode cX4_tell 1 = .ok (.lload_n 3, 1) := by decide +kernel
theorem dX4_tell_2 : decode cX4_tell 2 = .ok (.invokestatic 23, 3) := by decide +kernel
theorem dX4_tell_5 : decode cX4_tell 5 = .ok (.lstore 5, 2) := by decide +kernel
theorem dX4_tell_7 : decode cX4_tell 7 = .ok (.aload_n 0, 1) := by decide +kernel
theorem dX4_tell_8 : decode cX4_tell 8 = .ok (.lload 5, 2) := by decide +kernel
theorem dX4_tell_10 : decode cX4_tell 10 = .ok (.lconst 0, 1) := by decide +kernel
theorem dX4_tell_11 : decode cX4_tell 11 = .ok (.lcmp, 1) := by decide +kernel
theorem dX4_tell_12 : decode cX4_tell 12 = .ok (.ifCond .le 10, 3) := by decide +kernel
theorem dX4_tell_15 : decode cX4_tell 15 = .ok (.lload_n 1, 1) := by decide +kernel
theorem dX4_tell_16 : decode cX4_tell 16 = .ok (.lload 5, 2) := by decide +kernel
theorem dX4_tell_18 : decode cX4_tell 18 = .ok (.ldiv, 1) := by decide +kernel
theorem dX4_tell_19 : decode cX4_tell 19 = .ok (.goto 4, 3) := by decide +kernel
theorem dX4_tell_22 : decode cX4_tell 22 = .ok (.lconst 0, 1) := by decide +kernel
theorem dX4_tell_23 : decode cX4_tell 23 = .ok (.putfield 27, 3) := by decide +kernel
theorem dX4_tell_26 : decode cX4_tell 26 = .ok (.aload_n 0, 1) := by decide +kernel
theorem dX4_tell_27 : decode cX4_tell 27 = .ok (.lload 5, 2) := by decide +kernel
theorem dX4_tell_29 : decode cX4_tell 29 = .ok (.lconst 0, 1) := by decide +kernel
theorem dX4_tell_30 : decode cX4_tell 30 = .ok (.lcmp, 1) := by decide +kernel
theorem dX4_tell_31 : decode cX4_tell 31 = .ok (.ifCond .le 10, 3) := by decide +kernel
theorem dX4_tell_34 : decode cX4_tell 34 = .ok (.lload_n 3, 1) := by decide +kernel
theorem dX4_tell_35 : decode cX4_tell 35 = .ok (.lload 5, 2) := by decide +kernel
theorem dX4_tell_37 : decode cX4_tell 37 = .ok (.ldiv, 1) := by decide +kernel
theorem dX4_tell_38 : decode cX4_tell 38 = .ok (.goto 4, 3) := by decide +kernel
theorem dX4_tell_41 : decode cX4_tell 41 = .ok (.lconst 1, 1) := by decide +kernel
theorem dX4_tell_42 : decode cX4_tell 42 = .ok (.putfield 15, 3) := by decide +kernel
theorem dX4_tell_45 : decode cX4_tell 45 = .ok (.return_, 1) := by decide +kernel
set_option maxHeartbeats 200000 in
theorem bX4_tell_0 {S : pv_S} {x1 x3 : Int64} {a2 a4 a5 a6 : Option Value} : pv_R mX4_tell 0 [some (.ref 35), some (.long x1), a2, some (.long x3), a4, a5, a6] [] (pv_em S) = pv_cc (pv_R mX4_greatestDivisor 0 [some (.long x1), none, some (.long x3), none, none, none, none] [] (pv_em S)) mX4_tell 5 [some (.ref 35), some (.long x1), a2, some (.long x3), a4, a5, a6] [] := Eq.trans (pv_Rstp dX4_tell_0 rfl rfl rfl) (Eq.trans (pv_Rstp dX4_tell_1 rfl rfl rfl) (pv_Rcall (As := [.long x1, .long x3]) (rest := []) dX4_tell_2 rfl mfX4_23 rfl rfl rfl rfl rfl))
set_option maxHeartbeats 200000 in
theorem bX4_tell_5 {S : pv_S} {x1 x3 u0 : Int64} {a2 a4 a5 a6 : Option Value} : pv_R mX4_tell 5 [some (.ref 35), some (.long x1), a2, some (.long x3), a4, a5, a6] [.long u0] (pv_em S) = if (lg_cmp u0 0) ≤ 0 then pv_R mX4_tell 22 [some (.ref 35), some (.long x1), a2, some (.long x3), (pv_nl a4), some (.long u0), none] [.ref 35] (pv_em S) else pv_R mX4_tell 15 [some (.ref 35), some (.long x1), a2, some (.long x3), (pv_nl a4), some (.long u0), none] [.ref 35] (pv_em S) := Eq.trans (pv_Rstp dX4_tell_5 rfl rfl rfl) (Eq.trans (pv_Rstp dX4_tell_7 rfl rfl rfl) (Eq.trans (pv_Rstp dX4_tell_8 rfl rfl rfl) (Eq.trans (pv_Rlc dX4_tell_10 kl_0) (Eq.trans (pv_Rstp dX4_tell_11 rfl rfl rfl) (pv_Rbr (tgt := 22) dX4_tell_12 rfl rfl rfl rfl rfl (by decide))))))
set_option maxHeartbeats 200000 in
theorem bX4_tell_15 {S : pv_S} {x1 x3 x5 : Int64} {a2 a4 a6 : Option Value} : pv_R mX4_tell 15 [some (.ref 35), some (.long x1), a2, some (.long x3), a4, some (.long x5), a6] [.ref 35] (pv_em S) = if x5 = 0 then none else pv_R mX4_tell 23 [some (.ref 35), some (.long x1), a2, some (.long x3), a4, some (.long x5), a6] [.long (x1 / x5), .ref 35] (pv_em S) := Eq.trans (pv_Rstp dX4_tell_15 rfl rfl rfl) (Eq.trans (pv_Rstp dX4_tell_16 rfl rfl rfl) (Eq.trans (pv_Rldiv dX4_tell_18) (pv_iteN (fun h1 => pv_Rgo (tgt := 23) dX4_tell_19 rfl (by decide)))))
set_option maxHeartbeats 200000 in
theorem bX4_tell_22 {S : pv_S} {x1 x3 x5 : Int64} {a2 a4 a6 : Option Value} : pv_R mX4_tell 22 [some (.ref 35), some (.long x1), a2, some (.long x3), a4, some (.long x5), a6] [.ref 35] (pv_em S) = pv_R mX4_tell 23 [some (.ref 35), some (.long x1), a2, some (.long x3), a4, some (.long x5), a6] [.long 0, .ref 35] (pv_em S) := pv_Rlc dX4_tell_22 kl_0
set_option maxHeartbeats 200000 in
theorem bX4_tell_23 {S : pv_S} {x1 x3 x5 u0 : Int64} {a2 a4 a6 : Option Value} : pv_R mX4_tell 23 [some (.ref 35), some (.long x1), a2, some (.long x3), a4, some (.long x5), a6] [.long u0, .ref 35] (pv_em S) = if (lg_cmp x5 0) ≤ 0 then pv_R mX4_tell 41 [some (.ref 35), some (.long x1), a2, some (.long x3), a4, some (.long x5), a6] [.ref 35] (pv_em (pv_sj S 35 2 u0)) else pv_R mX4_tell 34 [some (.ref 35), some (.long x1), a2, some (.long x3), a4, some (.long x5), a6] [.ref 35] (pv_em (pv_sj S 35 2 u0)) := Eq.trans (pv_Rput dX4_tell_23 ffX4_27 rfl rfl rfl (by decide) (pv_ce_35 _ _) (Nat.le_of_ble_eq_true rfl) (pv_em_sj rfl)) (Eq.trans (pv_Rstp dX4_tell_26 rfl rfl rfl) (Eq.trans (pv_Rstp dX4_tell_27 rfl rfl rfl) (Eq.trans (pv_Rlc dX4_tell_29 kl_0) (Eq.trans (pv_Rstp dX4_tell_30 rfl rfl rfl) (pv_Rbr (tgt := 41) dX4_tell_31 rfl rfl rfl rfl rfl (by decide))))))
set_option maxHeartbeats 200000 in
theorem bX4_tell_34 {S : pv_S} {x1 x3 x5 : Int64} {a2 a4 a6 : Option Value} : pv_R mX4_tell 34 [some (.ref 35), some (.long x1), a2, some (.long x3), a4, some (.long x5), a6] [.ref 35] (pv_em S) = if x5 = 0 then none else pv_R mX4_tell 42 [some (.ref 35), some (.long x1), a2, some (.long x3), a4, some (.long x5), a6] [.long (x3 / x5), .ref 35] (pv_em S) := Eq.trans (pv_Rstp dX4_tell_34 rfl rfl rfl) (Eq.trans (pv_Rstp dX4_tell_35 rfl rfl rfl) (Eq.trans (pv_Rldiv dX4_tell_37) (pv_iteN (fun h1 => pv_Rgo (tgt := 42) dX4_tell_38 rfl (by decide)))))
set_option maxHeartbeats 200000 in
theorem bX4_tell_41 {S : pv_S} {x1 x3 x5 : Int64} {a2 a4 a6 : Option Value} : pv_R mX4_tell 41 [some (.ref 35), some (.long x1), a2, some (.long x3), a4, some (.long x5), a6] [.ref 35] (pv_em S) = pv_R mX4_tell 42 [some (.ref 35), some (.long x1), a2, some (.long x3), a4, some (.long x5), a6] [.long 1, .ref 35] (pv_em S) := pv_Rlc dX4_tell_41 kl_1
set_option maxHeartbeats 200000 in
theorem bX4_tell_42 {S : pv_S} {x1 x3 x5 u0 : Int64} {a2 a4 a6 : Option Value} : pv_R mX4_tell 42 [some (.ref 35), some (.long x1), a2, some (.long x3), a4, some (.long x5), a6] [.long u0, .ref 35] (pv_em S) = some (none, pv_em (pv_sj S 35 3 u0)) := Eq.trans (pv_Rput dX4_tell_42 ffX4_15 rfl rfl rfl (by decide) (pv_ce_35 _ _) (Nat.le_of_ble_eq_true rfl) (pv_em_sj rfl)) (pv_Rret dX4_tell_45 rfl)
theorem dX1_greatestPart_0 : decode cX1_greatestPart 0 = .ok (.iconst 0, 1) := by decide +kernel
theorem dX1_greatestPart_1 : decode cX1_greatestPart 1 = .ok (.istore_n 2, 1) := by decide +kernel
theorem dX1_greatestPart_2 : decode cX1_greatestPart 2 = .ok (.iconst 0, 1) := by decide +kernel
theorem dX1_greatestPart_3 : decode cX1_greatestPart 3 = .ok (.istore_n 3, 1) := by decide +kernel
theorem dX1_greatestPart_4 : decode cX1_greatestPart 4 = .ok (.iload_n 3, 1) := by decide +kernel
theorem dX1_greatestPart_5 : decode cX1_greatestPart 5 = .ok (.bipush 6, 2) := by decide +kernel
theorem dX1_greatestPart_7 : decode cX1_greatestPart 7 = .ok (.if_icmp .ge 28, 3) := by decide +kernel
theorem dX1_greatestPart_10 : decode cX1_greatestPart 10 = .ok (.iload_n 1, 1) := by decide +kernel
theorem dX1_greatestPart_11 : decode cX1_greatestPart 11 = .ok (.iload_n 3, 1) := by decide +kernel
theorem dX1_greatestPart_12 : decode cX1_greatestPart 12 = .ok (.ishr, 1) := by decide +kernel
theorem dX1_greatestPart_13 : decode cX1_greatestPart 13 = .ok (.iconst 1, 1) := by decide +kernel
theorem dX1_greatestPart_14 : decode cX1_greatestPart 14 = .ok (.iand, 1) := by decide +kernel
theorem dX1_greatestPart_15 : decode cX1_greatestPart 15 = .ok (.ifCond .eq 14, 3) := by decide +kernel
theorem dX1_greatestPart_18 : decode cX1_greatestPart 18 = .ok (.iload_n 2, 1) := by decide +kernel
theorem dX1_greatestPart_19 : decode cX1_greatestPart 19 = .ok (.aload_n 0, 1) := by decide +kernel
theorem dX1_greatestPart_20 : decode cX1_greatestPart 20 = .ok (.iload_n 3, 1) := by decide +kernel
theorem dX1_greatestPart_21 : decode cX1_greatestPart 21 = .ok (.iload_n 1, 1) := by decide +kernel
theorem dX1_greatestPart_22 : decode cX1_greatestPart 22 = .ok (.invokevirtual 41, 3) := by decide +kernel
theorem dX1_greatestPart_25 : decode cX1_greatestPart 25 = .ok (.invokestatic 24, 3) := by decide +kernel
theorem dX1_greatestPart_28 : decode cX1_greatestPart 28 = .ok (.istore_n 2, 1) := by decide +kernel
theorem dX1_greatestPart_29 : decode cX1_greatestPart 29 = .ok (.iinc 3 1, 3) := by decide +kernel
theorem dX1_greatestPart_32 : decode cX1_greatestPart 32 = .ok (.goto (-28), 3) := by decide +kernel
theorem dX1_greatestPart_35 : decode cX1_greatestPart 35 = .ok (.iload_n 2, 1) := by decide +kernel
theorem dX1_greatestPart_36 : decode cX1_greatestPart 36 = .ok (.ireturn, 1) := by decide +kernel
set_option maxHeartbeats 200000 in
theorem bX1_greatestPart_0 {S : pv_S} {x1 : Int32} {a2 a3 : Option Value} : pv_R mX1_greatestPart 0 [some (.ref 32), some (.int x1), a2, a3] [] (pv_em S) = pv_R mX1_greatestPart 4 [some (.ref 32), some (.int x1), some (.int 0), some (.int 0)] [] (pv_em S) := Eq.trans (pv_Ric dX1_greatestPart_0 ki_0) (Eq.trans (pv_Rstp dX1_greatestPart_1 rfl rfl rfl) (Eq.trans (pv_Ric dX1_greatestPart_2 ki_0) (pv_Rstp dX1_greatestPart_3 rfl rfl rfl)))
set_option maxHeartbeats 200000 in
theorem bX1_greatestPart_4 {S : pv_S} {x1 x2 x3 : Int32} : pv_R mX1_greatestPart 4 [some (.ref 32), some (.int x1), some (.int x2), some (.int x3)] [] (pv_em S) = if 6 ≤ x3 then pv_R mX1_greatestPart 35 [some (.ref 32), some (.int x1), some (.int x2), some (.int x3)] [] (pv_em S) else pv_R mX1_greatestPart 10 [some (.ref 32), some (.int x1), some (.int x2), some (.int x3)] [] (pv_em S) := Eq.trans (pv_Rstp dX1_greatestPart_4 rfl rfl rfl) (Eq.trans (pv_Rbp dX1_greatestPart_5 kb_6) (pv_Rbr (tgt := 35) dX1_greatestPart_7 rfl rfl rfl rfl rfl (by decide)))
set_option maxHeartbeats 200000 in
theorem bX1_greatestPart_10 {S : pv_S} {x1 x2 x3 : Int32} : pv_R mX1_greatestPart 10 [some (.ref 32), some (.int x1), some (.int x2), some (.int x3)] [] (pv_em S) = if ((x1 >>> (x3 &&& 31)) &&& 1) = 0 then pv_R mX1_greatestPart 29 [some (.ref 32), some (.int x1), some (.int x2), some (.int x3)] [] (pv_em S) else pv_R mX1_greatestPart 18 [some (.ref 32), some (.int x1), some (.int x2), some (.int x3)] [] (pv_em S) := Eq.trans (pv_Rstp dX1_greatestPart_10 rfl rfl rfl) (Eq.trans (pv_Rstp dX1_greatestPart_11 rfl rfl rfl) (Eq.trans (pv_Rstp dX1_greatestPart_12 rfl rfl rfl) (Eq.trans (pv_Ric dX1_greatestPart_13 ki_1) (Eq.trans (pv_Rstp dX1_greatestPart_14 rfl rfl rfl) (pv_Rbr (tgt := 29) dX1_greatestPart_15 rfl rfl rfl rfl rfl (by decide))))))
set_option maxHeartbeats 200000 in
theorem bX1_greatestPart_18 {S : pv_S} {x1 x2 x3 : Int32} : pv_R mX1_greatestPart 18 [some (.ref 32), some (.int x1), some (.int x2), some (.int x3)] [] (pv_em S) = pv_cc (pv_R mX1_alikeTo 0 [some (.ref 32), some (.int x3), some (.int x1), none, none] [] (pv_em S)) mX1_greatestPart 25 [some (.ref 32), some (.int x1), some (.int x2), some (.int x3)] [.int x2] := Eq.trans (pv_Rstp dX1_greatestPart_18 rfl rfl rfl) (Eq.trans (pv_Rstp dX1_greatestPart_19 rfl rfl rfl) (Eq.trans (pv_Rstp dX1_greatestPart_20 rfl rfl rfl) (Eq.trans (pv_Rstp dX1_greatestPart_21 rfl rfl rfl) (pv_Rcall (As := [.ref 32, .int x3, .int x1]) (rest := [.int x2]) dX1_greatestPart_22 rfl mfX1_41 rfl rfl rfl rfl rfl))))
set_option maxHeartbeats 200000 in
theorem bX1_greatestPart_25 {S : pv_S} {x1 x2 x3 u0 u1 : Int32} : pv_R mX1_greatestPart 25 [some (.ref 32), some (.int x1), some (.int x2), some (.int x3)] [.int u0, .int u1] (pv_em S) = pv_R mX1_greatestPart 29 [some (.ref 32), some (.int x1), some (.int (if u1 < u0 then u0 else u1)), some (.int x3)] [] (pv_em S) := Eq.trans (pv_Rmx dX1_greatestPart_25 mfX1_24 rfl rfl) (pv_Rstp dX1_greatestPart_28 rfl rfl rfl)
set_option maxHeartbeats 200000 in
theorem bX1_greatestPart_29 {S : pv_S} {x1 x2 x3 : Int32} : pv_R mX1_greatestPart 29 [some (.ref 32), some (.int x1), some (.int x2), some (.int x3)] [] (pv_em S) = pv_R mX1_greatestPart 4 [some (.ref 32), some (.int x1), some (.int x2), some (.int (x3 + 1))] [] (pv_em S) := Eq.trans (pv_Rinc dX1_greatestPart_29 rfl (Nat.le_of_ble_eq_true rfl) ki_1 rfl) (pv_Rgo (tgt := 4) dX1_greatestPart_32 rfl (by decide))
set_option maxHeartbeats 200000 in
theorem bX1_greatestPart_35 {S : pv_S} {x1 x2 x3 : Int32} : pv_R mX1_greatestPart 35 [some (.ref 32), some (.int x1), some (.int x2), some (.int x3)] [] (pv_em S) = some (some (.int x2), pv_em S) := Eq.trans (pv_Rstp dX1_greatestPart_35 rfl rfl rfl) (pv_Rret dX1_greatestPart_36 rfl)
theorem dX1_passKinds_0 : decode cX1_passKinds 0 = .ok (.iconst 0, 1) := by decide +kernel
theorem dX1_passKinds_1 : decode cX1_passKinds 1 = .ok (.istore_n 2, 1) := by decide +kernel
theorem dX1_passKinds_2 : decode cX1_passKinds 2 = .ok (.iload_n 2, 1) := by decide +kernel
theorem dX1_passKinds_3 : decode cX1_passKinds 3 = .ok (.bipush 6, 2) := by decide +kernel
theorem dX1_passKinds_5 : decode cX1_passKinds 5 = .ok (.if_icmp .ge 26, 3) := by decide +kernel
theorem dX1_passKinds_8 : decode cX1_passKinds 8 = .ok (.aload_n 0, 1) := by decide +kernel
theorem dX1_passKinds_9 : decode cX1_passKinds 9 = .ok (.getfield 15, 3) := by decide +kernel
theorem dX1_passKinds_12 : decode cX1_passKinds 12 = .ok (.iload_n 2, 1) := by decide +kernel
theorem dX1_passKinds_13 : decode cX1_passKinds 13 = .ok (.iload_n 2, 1) := by decide +kernel
theorem dX1_passKinds_14 : decode cX1_passKinds 14 = .ok (.aload_n 0, 1) := by decide +kernel
theorem dX1_passKinds_15 : decode cX1_passKinds 15 = .ok (.getfield 15, 3) := by decide +kernel
theorem dX1_passKinds_18 : decode cX1_passKinds 18 = .ok (.iload_n 2, 1) := by decide +kernel
theorem dX1_passKinds_19 : decode cX1_passKinds 19 = .ok (.iaload, 1) := by decide +kernel
theorem dX1_passKinds_20 : decode cX1_passKinds 20 = .ok (.iload_n 1, 1) := by decide +kernel
theorem dX1_passKinds_21 : decode cX1_passKinds 21 = .ok (.invokestatic 31, 3) := by decide +kernel
theorem dX1_passKinds_24 : decode cX1_passKinds 24 = .ok (.iastore, 1) := by decide +kernel
theorem dX1_passKinds_25 : decode cX1_passKinds 25 = .ok (.iinc 2 1, 3) := by decide +kernel
theorem dX1_passKinds_28 : decode cX1_passKinds 28 = .ok (.goto (-26), 3) := by decide +kernel
theorem dX1_passKinds_31 : decode cX1_passKinds 31 = .ok (.return_, 1) := by decide +kernel
set_option maxHeartbeats 200000 in
theorem bX1_passKinds_0 {S : pv_S} {x1 : Int32} {a2 : Option Value} : pv_R mX1_passKinds 0 [some (.ref 32), some (.int x1), a2] [] (pv_em S) = pv_R mX1_passKinds 2 [some (.ref 32), some (.int x1), some (.int 0)] [] (pv_em S) := Eq.trans (pv_Ric dX1_passKinds_0 ki_0) (pv_Rstp dX1_passKinds_1 rfl rfl rfl)
set_option maxHeartbeats 200000 in
theorem bX1_passKinds_2 {S : pv_S} {x1 x2 : Int32} : pv_R mX1_passKinds 2 [some (.ref 32), some (.int x1), some (.int x2)] [] (pv_em S) = if 6 ≤ x2 then pv_R mX1_passKinds 31 [some (.ref 32), some (.int x1), some (.int x2)] [] (pv_em S) else pv_R mX1_passKinds 8 [some (.ref 32), some (.int x1), some (.int x2)] [] (pv_em S) := Eq.trans (pv_Rstp dX1_passKinds_2 rfl rfl rfl) (Eq.trans (pv_Rbp dX1_passKinds_3 kb_6) (pv_Rbr (tgt := 31) dX1_passKinds_5 rfl rfl rfl rfl rfl (by decide)))
set_option maxHeartbeats 200000 in
theorem bX1_passKinds_8 {S : pv_S} {x1 x2 : Int32} : pv_R mX1_passKinds 8 [some (.ref 32), some (.int x1), some (.int x2)] [] (pv_em S) = if x2 < 0 ∨ 6 ≤ x2.toNatClampNeg then none else pv_cc (pv_R mX0_afterHour 0 [some (.int x2), some (.int (S.1 34 x2.toNatClampNeg)), some (.int x1)] [] (pv_em S)) mX1_passKinds 24 [some (.ref 32), some (.int x1), some (.int x2)] [.int x2, .ref 34] := Eq.trans (pv_Rstp dX1_passKinds_8 rfl rfl rfl) (Eq.trans (pv_Rget dX1_passKinds_9 ffX1_15 (by decide) (pv_ce_32 _ _) rfl) (Eq.trans (pv_Rstp dX1_passKinds_12 rfl rfl rfl) (Eq.trans (pv_Rstp dX1_passKinds_13 rfl rfl rfl) (Eq.trans (pv_Rstp dX1_passKinds_14 rfl rfl rfl) (Eq.trans (pv_Rget dX1_passKinds_15 ffX1_15 (by decide) (pv_ce_32 _ _) rfl) (Eq.trans (pv_Rstp dX1_passKinds_18 rfl rfl rfl) (Eq.trans (pv_Rald dX1_passKinds_19 (by decide) (pv_ce_34 _ _)) (pv_iteN (fun h1 => Eq.trans (pv_Rstp dX1_passKinds_20 rfl rfl rfl) (pv_Rcall (As := [.int x2, .int (S.1 34 x2.toNatClampNeg), .int x1]) (rest := [.int x2, .ref 34]) dX1_passKinds_21 rfl mfX1_31 rfl rfl rfl rfl rfl))))))))))
set_option maxHeartbeats 200000 in
theorem bX1_passKinds_24 {S : pv_S} {x1 x2 u0 u1 : Int32} : pv_R mX1_passKinds 24 [some (.ref 32), some (.int x1), some (.int x2)] [.int u0, .int u1, .ref 34] (pv_em S) = if u1 < 0 ∨ 6 ≤ u1.toNatClampNeg then none else pv_R mX1_passKinds 2 [some (.ref 32), some (.int x1), some (.int (x2 + 1))] [] (pv_em (pv_si S 34 u1.toNatClampNeg u0)) := Eq.trans (pv_Rast dX1_passKinds_24 (by decide) (pv_ce_34 _ _) (pv_em_si rfl)) (pv_iteN (fun h1 => Eq.trans (pv_Rinc dX1_passKinds_25 rfl (Nat.le_of_ble_eq_true rfl) ki_1 rfl) (pv_Rgo (tgt := 2) dX1_passKinds_28 rfl (by decide))))
set_option maxHeartbeats 200000 in
theorem bX1_passKinds_31 {S : pv_S} {x1 x2 : Int32} : pv_R mX1_passKinds 31 [some (.ref 32), some (.int x1), some (.int x2)] [] (pv_em S) = some (none, pv_em S) := pv_Rret dX1_passKinds_31 rfl
theorem dX1_startKinds_0 : decode cX1_startKinds 0 = .ok (.iconst 0, 1) := by decide +kernel
theorem dX1_startKinds_1 : decode cX1_startKinds 1 = .ok (.istore_n 2, 1) := by decide +kernel
theorem dX1_startKinds_2 : decode cX1_startKinds 2 = .ok (.iload_n 2, 1) := by decide +kernel
theorem dX1_startKinds_3 : decode cX1_startKinds 3 = .ok (.bipush 6, 2) := by decide +kernel
theorem dX1_startKinds_5 : decode cX1_startKinds 5 = .ok (.if_icmp .ge 16, 3) := by decide +kernel
theorem dX1_startKinds_8 : decode cX1_startKinds 8 = .ok (.aload_n 0, 1) := by decide +kernel
theorem dX1_startKinds_9 : decode cX1_startKinds 9 = .ok (.getfield 15, 3) := by decide +kernel
theorem dX1_startKinds_12 : decode cX1_startKinds 12 = .ok (.iload_n 2, 1) := by decide +kernel
theorem dX1_startKinds_13 : decode cX1_startKinds 13 = .ok (.iload_n 1, 1) := by decide +kernel
theorem dX1_startKinds_14 : decode cX1_startKinds 14 = .ok (.iastore, 1) := by decide +kernel
theorem dX1_startKinds_15 : decode cX1_startKinds 15 = .ok (.iinc 2 1, 3) := by decide +kernel
theorem dX1_startKinds_18 : decode cX1_startKinds 18 = .ok (.goto (-16), 3) := by decide +kernel
theorem dX1_startKinds_21 : decode cX1_startKinds 21 = .ok (.return_, 1) := by decide +kernel
set_option maxHeartbeats 200000 in
theorem bX1_startKinds_0 {S : pv_S} {x1 : Int32} {a2 : Option Value} : pv_R mX1_startKinds 0 [some (.ref 32), some (.int x1), a2] [] (pv_em S) = pv_R mX1_startKinds 2 [some (.ref 32), some (.int x1), some (.int 0)] [] (pv_em S) := Eq.trans (pv_Ric dX1_startKinds_0 ki_0) (pv_Rstp dX1_startKinds_1 rfl rfl rfl)
set_option maxHeartbeats 200000 in
theorem bX1_startKinds_2 {S : pv_S} {x1 x2 : Int32} : pv_R mX1_startKinds 2 [some (.ref 32), some (.int x1), some (.int x2)] [] (pv_em S) = if 6 ≤ x2 then pv_R mX1_startKinds 21 [some (.ref 32), some (.int x1), some (.int x2)] [] (pv_em S) else pv_R mX1_startKinds 8 [some (.ref 32), some (.int x1), some (.int x2)] [] (pv_em S) := Eq.trans (pv_Rstp dX1_startKinds_2 rfl rfl rfl) (Eq.trans (pv_Rbp dX1_startKinds_3 kb_6) (pv_Rbr (tgt := 21) dX1_startKinds_5 rfl rfl rfl rfl rfl (by decide)))
set_option maxHeartbeats 200000 in
theorem bX1_startKinds_8 {S : pv_S} {x1 x2 : Int32} : pv_R mX1_startKinds 8 [some (.ref 32), some (.int x1), some (.int x2)] [] (pv_em S) = if x2 < 0 ∨ 6 ≤ x2.toNatClampNeg then none else pv_R mX1_startKinds 2 [some (.ref 32), some (.int x1), some (.int (x2 + 1))] [] (pv_em (pv_si S 34 x2.toNatClampNeg x1)) := Eq.trans (pv_Rstp dX1_startKinds_8 rfl rfl rfl) (Eq.trans (pv_Rget dX1_startKinds_9 ffX1_15 (by decide) (pv_ce_32 _ _) rfl) (Eq.trans (pv_Rstp dX1_startKinds_12 rfl rfl rfl) (Eq.trans (pv_Rstp dX1_startKinds_13 rfl rfl rfl) (Eq.trans (pv_Rast dX1_startKinds_14 (by decide) (pv_ce_34 _ _) (pv_em_si rfl)) (pv_iteN (fun h1 => Eq.trans (pv_Rinc dX1_startKinds_15 rfl (Nat.le_of_ble_eq_true rfl) ki_1 rfl) (pv_Rgo (tgt := 2) dX1_startKinds_18 rfl (by decide))))))))
set_option maxHeartbeats 200000 in
theorem bX1_startKinds_21 {S : pv_S} {x1 x2 : Int32} : pv_R mX1_startKinds 21 [some (.ref 32), some (.int x1), some (.int x2)] [] (pv_em S) = some (none, pv_em S) := pv_Rret dX1_startKinds_21 rfl
theorem dX3_thereCount_0 : decode cX3_thereCount 0 = .ok (.iconst 0, 1) := by decide +kernel
theorem dX3_thereCount_1 : decode cX3_thereCount 1 = .ok (.istore_n 1, 1) := by decide +kernel
theorem dX3_thereCount_2 : decode cX3_thereCount 2 = .ok (.iconst 0, 1) := by decide +kernel
theorem dX3_thereCount_3 : decode cX3_thereCount 3 = .ok (.istore_n 2, 1) := by decide +kernel
theorem dX3_thereCount_4 : decode cX3_thereCount 4 = .ok (.iload_n 2, 1) := by decide +kernel
theorem dX3_thereCount_5 : decode cX3_thereCount 5 = .ok (.aload_n 0, 1) := by decide +kernel
theorem dX3_thereCount_6 : decode cX3_thereCount 6 = .ok (.getfield 13, 3) := by decide +kernel
theorem dX3_thereCount_9 : decode cX3_thereCount 9 = .ok (.arraylength, 1) := by decide +kernel
theorem dX3_thereCount_10 : decode cX3_thereCount 10 = .ok (.if_icmp .ge 20, 3) := by decide +kernel
theorem dX3_thereCount_13 : decode cX3_thereCount 13 = .ok (.aload_n 0, 1) := by decide +kernel
theorem dX3_thereCount_14 : decode cX3_thereCount 14 = .ok (.iload_n 2, 1) := by decide +kernel
theorem dX3_thereCount_15 : decode cX3_thereCount 15 = .ok (.invokevirtual 28, 3) := by decide +kernel
theorem dX3_thereCount_18 : decode cX3_thereCount 18 = .ok (.ifCond .eq 6, 3) := by decide +kernel
theorem dX3_thereCount_21 : decode cX3_thereCount 21 = .ok (.iinc 1 1, 3) := by decide +kernel
theorem dX3_thereCount_24 : decode cX3_thereCount 24 = .ok (.iinc 2 1, 3) := by decide +kernel
theorem dX3_thereCount_27 : decode cX3_thereCount 27 = .ok (.goto (-23), 3) := by decide +kernel
theorem dX3_thereCount_30 : decode cX3_thereCount 30 = .ok (.iload_n 1, 1) := by decide +kernel
theorem dX3_thereCount_31 : decode cX3_thereCount 31 = .ok (.ireturn, 1) := by decide +kernel
set_option maxHeartbeats 200000 in
theorem bX3_thereCountr_0 {S : pv_S} {a1 a2 : Option Value} : pv_R mX3_thereCount 0 [some (.ref 1), a1, a2] [] (pv_em S) = pv_R mX3_thereCount 4 [some (.ref 1), some (.int 0), some (.int 0)] [] (pv_em S) := Eq.trans (pv_Ric dX3_thereCount_0 ki_0) (Eq.trans (pv_Rstp dX3_thereCount_1 rfl rfl rfl) (Eq.trans (pv_Ric dX3_thereCount_2 ki_0) (pv_Rstp dX3_thereCount_3 rfl rfl rfl)))
set_option maxHeartbeats 200000 in
theorem bX3_thereCountr_4 {S : pv_S} {x1 x2 : Int32} : pv_R mX3_thereCount 4 [some (.ref 1), some (.int x1), some (.int x2)] [] (pv_em S) = if 6 ≤ x2 then pv_R mX3_thereCount 30 [some (.ref 1), some (.int x1), some (.int x2)] [] (pv_em S) else pv_R mX3_thereCount 13 [some (.ref 1), some (.int x1), some (.int x2)] [] (pv_em S) := Eq.trans (pv_Rstp dX3_thereCount_4 rfl rfl rfl) (Eq.trans (pv_Rstp dX3_thereCount_5 rfl rfl rfl) (Eq.trans (pv_Rget dX3_thereCount_6 ffX3_13 (by decide) (pv_ce_1 _ _) rfl) (Eq.trans (pv_Rstp dX3_thereCount_9 rfl rfl rfl) (pv_Rbr (tgt := 30) dX3_thereCount_10 rfl rfl rfl rfl rfl (by decide)))))
set_option maxHeartbeats 200000 in
theorem bX3_thereCountr_13 {S : pv_S} {x1 x2 : Int32} : pv_R mX3_thereCount 13 [some (.ref 1), some (.int x1), some (.int x2)] [] (pv_em S) = pv_cc (pv_R mX3_isThere 0 [some (.ref 1), some (.int x2)] [] (pv_em S)) mX3_thereCount 18 [some (.ref 1), some (.int x1), some (.int x2)] [] := Eq.trans (pv_Rstp dX3_thereCount_13 rfl rfl rfl) (Eq.trans (pv_Rstp dX3_thereCount_14 rfl rfl rfl) (pv_Rcall (As := [.ref 1, .int x2]) (rest := []) dX3_thereCount_15 rfl mfX3_28 rfl rfl rfl rfl rfl))
set_option maxHeartbeats 200000 in
theorem bX3_thereCountr_18 {S : pv_S} {x1 x2 u0 : Int32} : pv_R mX3_thereCount 18 [some (.ref 1), some (.int x1), some (.int x2)] [.int u0] (pv_em S) = if u0 = 0 then pv_R mX3_thereCount 24 [some (.ref 1), some (.int x1), some (.int x2)] [] (pv_em S) else pv_R mX3_thereCount 21 [some (.ref 1), some (.int x1), some (.int x2)] [] (pv_em S) := pv_Rbr (tgt := 24) dX3_thereCount_18 rfl rfl rfl rfl rfl (by decide)
set_option maxHeartbeats 200000 in
theorem bX3_thereCountr_21 {S : pv_S} {x1 x2 : Int32} : pv_R mX3_thereCount 21 [some (.ref 1), some (.int x1), some (.int x2)] [] (pv_em S) = pv_R mX3_thereCount 24 [some (.ref 1), some (.int (x1 + 1)), some (.int x2)] [] (pv_em S) := pv_Rinc dX3_thereCount_21 rfl (Nat.le_of_ble_eq_true rfl) ki_1 rfl
set_option maxHeartbeats 200000 in
theorem bX3_thereCountr_24 {S : pv_S} {x1 x2 : Int32} : pv_R mX3_thereCount 24 [some (.ref 1), some (.int x1), some (.int x2)] [] (pv_em S) = pv_R mX3_thereCount 4 [some (.ref 1), some (.int x1), some (.int (x2 + 1))] [] (pv_em S) := Eq.trans (pv_Rinc dX3_thereCount_24 rfl (Nat.le_of_ble_eq_true rfl) ki_1 rfl) (pv_Rgo (tgt := 4) dX3_thereCount_27 rfl (by decide))
set_option maxHeartbeats 200000 in
theorem bX3_thereCountr_30 {S : pv_S} {x1 x2 : Int32} : pv_R mX3_thereCount 30 [some (.ref 1), some (.int x1), some (.int x2)] [] (pv_em S) = some (some (.int x1), pv_em S) := Eq.trans (pv_Rstp dX3_thereCount_30 rfl rfl rfl) (pv_Rret dX3_thereCount_31 rfl)
set_option maxHeartbeats 200000 in
theorem bX3_thereCountt_0 {S : pv_S} {a1 a2 : Option Value} : pv_R mX3_thereCount 0 [some (.ref 10), a1, a2] [] (pv_em S) = pv_R mX3_thereCount 4 [some (.ref 10), some (.int 0), some (.int 0)] [] (pv_em S) := Eq.trans (pv_Ric dX3_thereCount_0 ki_0) (Eq.trans (pv_Rstp dX3_thereCount_1 rfl rfl rfl) (Eq.trans (pv_Ric dX3_thereCount_2 ki_0) (pv_Rstp dX3_thereCount_3 rfl rfl rfl)))
set_option maxHeartbeats 200000 in
theorem bX3_thereCountt_4 {S : pv_S} {x1 x2 : Int32} : pv_R mX3_thereCount 4 [some (.ref 10), some (.int x1), some (.int x2)] [] (pv_em S) = if 4 ≤ x2 then pv_R mX3_thereCount 30 [some (.ref 10), some (.int x1), some (.int x2)] [] (pv_em S) else pv_R mX3_thereCount 13 [some (.ref 10), some (.int x1), some (.int x2)] [] (pv_em S) := Eq.trans (pv_Rstp dX3_thereCount_4 rfl rfl rfl) (Eq.trans (pv_Rstp dX3_thereCount_5 rfl rfl rfl) (Eq.trans (pv_Rget dX3_thereCount_6 ffX3_13 (by decide) (pv_ce_10 _ _) rfl) (Eq.trans (pv_Rstp dX3_thereCount_9 rfl rfl rfl) (pv_Rbr (tgt := 30) dX3_thereCount_10 rfl rfl rfl rfl rfl (by decide)))))
set_option maxHeartbeats 200000 in
theorem bX3_thereCountt_13 {S : pv_S} {x1 x2 : Int32} : pv_R mX3_thereCount 13 [some (.ref 10), some (.int x1), some (.int x2)] [] (pv_em S) = pv_cc (pv_R mX3_isThere 0 [some (.ref 10), some (.int x2)] [] (pv_em S)) mX3_thereCount 18 [some (.ref 10), some (.int x1), some (.int x2)] [] := Eq.trans (pv_Rstp dX3_thereCount_13 rfl rfl rfl) (Eq.trans (pv_Rstp dX3_thereCount_14 rfl rfl rfl) (pv_Rcall (As := [.ref 10, .int x2]) (rest := []) dX3_thereCount_15 rfl mfX3_28 rfl rfl rfl rfl rfl))
set_option maxHeartbeats 200000 in
theorem bX3_thereCountt_18 {S : pv_S} {x1 x2 u0 : Int32} : pv_R mX3_thereCount 18 [some (.ref 10), some (.int x1), some (.int x2)] [.int u0] (pv_em S) = if u0 = 0 then pv_R mX3_thereCount 24 [some (.ref 10), some (.int x1), some (.int x2)] [] (pv_em S) else pv_R mX3_thereCount 21 [some (.ref 10), some (.int x1), some (.int x2)] [] (pv_em S) := pv_Rbr (tgt := 24) dX3_thereCount_18 rfl rfl rfl rfl rfl (by decide)
set_option maxHeartbeats 200000 in
theorem bX3_thereCountt_21 {S : pv_S} {x1 x2 : Int32} : pv_R mX3_thereCount 21 [some (.ref 10), some (.int x1), some (.int x2)] [] (pv_em S) = pv_R mX3_thereCount 24 [some (.ref 10), some (.int (x1 + 1)), some (.int x2)] [] (pv_em S) := pv_Rinc dX3_thereCount_21 rfl (Nat.le_of_ble_eq_true rfl) ki_1 rfl
set_option maxHeartbeats 200000 in
theorem bX3_thereCountt_24 {S : pv_S} {x1 x2 : Int32} : pv_R mX3_thereCount 24 [some (.ref 10), some (.int x1), some (.int x2)] [] (pv_em S) = pv_R mX3_thereCount 4 [some (.ref 10), some (.int x1), some (.int (x2 + 1))] [] (pv_em S) := Eq.trans (pv_Rinc dX3_thereCount_24 rfl (Nat.le_of_ble_eq_true rfl) ki_1 rfl) (pv_Rgo (tgt := 4) dX3_thereCount_27 rfl (by decide))
set_option maxHeartbeats 200000 in
theorem bX3_thereCountt_30 {S : pv_S} {x1 x2 : Int32} : pv_R mX3_thereCount 30 [some (.ref 10), some (.int x1), some (.int x2)] [] (pv_em S) = some (some (.int x1), pv_em S) := Eq.trans (pv_Rstp dX3_thereCount_30 rfl rfl rfl) (pv_Rret dX3_thereCount_31 rfl)
theorem dX3_mixInto_0 : decode cX3_mixInto 0 = .ok (.iconst 0, 1) := by decide +kernel
theorem dX3_mixInto_1 : decode cX3_mixInto 1 = .ok (.istore_n 3, 1) := by decide +kernel
theorem dX3_mixInto_2 : decode cX3_mixInto 2 = .ok (.iload_n 3, 1) := by decide +kernel
theorem dX3_mixInto_3 : decode cX3_mixInto 3 = .ok (.aload_n 0, 1) := by decide +kernel
theorem dX3_mixInto_4 : decode cX3_mixInto 4 = .ok (.getfield 13, 3) := by decide +kernel
theorem dX3_mixInto_7 : decode cX3_mixInto 7 = .ok (.arraylength, 1) := by decide +kernel
theorem dX3_mixInto_8 : decode cX3_mixInto 8 = .ok (.if_icmp .ge 60, 3) := by decide +kernel
theorem dX3_mixInto_11 : decode cX3_mixInto 11 = .ok (.ldc2_w 32, 3) := by decide +kernel
theorem dX3_mixInto_14 : decode cX3_mixInto 14 = .ok (.lload_n 1, 1) := by decide +kernel
theorem dX3_mixInto_15 : decode cX3_mixInto 15 = .ok (.lmul, 1) := by decide +kernel
theorem dX3_mixInto_16 : decode cX3_mixInto 16 = .ok (.aload_n 0, 1) := by decide +kernel
theorem dX3_mixInto_17 : decode cX3_mixInto 17 = .ok (.getfield 13, 3) := by decide +kernel
theorem dX3_mixInto_20 : decode cX3_mixInto 20 = .ok (.iload_n 3, 1) := by decide +kernel
theorem dX3_mixInto_21 : decode cX3_mixInto 21 = .ok (.iaload, 1) := by decide +kernel
theorem dX3_mixInto_22 : decode cX3_mixInto 22 = .ok (.i2l, 1) := by decide +kernel
theorem dX3_mixInto_23 : decode cX3_mixInto 23 = .ok (.ladd, 1) := by decide +kernel
theorem dX3_mixInto_24 : decode cX3_mixInto 24 = .ok (.lstore_n 1, 1) := by decide +kernel
theorem dX3_mixInto_25 : decode cX3_mixInto 25 = .ok (.iconst 0, 1) := by decide +kernel
theorem dX3_mixInto_26 : decode cX3_mixInto 26 = .ok (.istore 4, 2) := by decide +kernel
theorem dX3_mixInto_28 : decode cX3_mixInto 28 = .ok (.iload 4, 2) := by decide +kernel
theorem dX3_mixInto_30 : decode cX3_mixInto 30 = .ok (.aload_n 0, 1) := by decide +kernel
theorem dX3_mixInto_31 : decode cX3_mixInto 31 = .ok (.getfield 13, 3) := by decide +kernel
theorem dX3_mixInto_34 : decode cX3_mixInto 34 = .ok (.iload_n 3, 1) := by decide +kernel
theorem dX3_mixInto_35 : decode cX3_mixInto 35 = .ok (.iaload, 1) := by decide +kernel
theorem dX3_mixInto_36 : decode cX3_mixInto 36 = .ok (.if_icmp .ge 26, 3) := by decide +kernel
theorem dX3_mixInto_39 : decode cX3_mixInto 39 = .ok (.ldc2_w 32, 3) := by decide +kernel
theorem dX3_mixInto_42 : decode cX3_mixInto 42 = .ok (.lload_n 1, 1) := by decide +kernel
theorem dX3_mixInto_43 : decode cX3_mixInto 43 = .ok (.lmul, 1) := by decide +kernel
theorem dX3_mixInto_44 : decode cX3_mixInto 44 = .ok (.aload_n 0, 1) := by decide +kernel
theorem dX3_mixInto_45 : decode cX3_mixInto 45 = .ok (.getfield 19, 3) := by decide +kernel
theorem dX3_mixInto_48 : decode cX3_mixInto 48 = .ok (.iload_n 3, 1) := by decide +kernel
theorem dX3_mixInto_49 : decode cX3_mixInto 49 = .ok (.aaload, 1) := by decide +kernel
theorem dX3_mixInto_50 : decode cX3_mixInto 50 = .ok (.iload 4, 2) := by decide +kernel
theorem dX3_mixInto_52 : decode cX3_mixInto 52 = .ok (.iaload, 1) := by decide +kernel
theorem dX3_mixInto_53 : decode cX3_mixInto 53 = .ok (.i2l, 1) := by decide +kernel
theorem dX3_mixInto_54 : decode cX3_mixInto 54 = .ok (.ladd, 1) := by decide +kernel
theorem dX3_mixInto_55 : decode cX3_mixInto 55 = .ok (.lstore_n 1, 1) := by decide +kernel
theorem dX3_mixInto_56 : decode cX3_mixInto 56 = .ok (.iinc 4 1, 3) := by decide +kernel
theorem dX3_mixInto_59 : decode cX3_mixInto 59 = .ok (.goto (-31), 3) := by decide +kernel
theorem dX3_mixInto_62 : decode cX3_mixInto 62 = .ok (.iinc 3 1, 3) := by decide +kernel
theorem dX3_mixInto_65 : decode cX3_mixInto 65 = .ok (.goto (-63), 3) := by decide +kernel
theorem dX3_mixInto_68 : decode cX3_mixInto 68 = .ok (.lload_n 1, 1) := by decide +kernel
theorem dX3_mixInto_69 : decode cX3_mixInto 69 = .ok (.lreturn, 1) := by decide +kernel
set_option maxHeartbeats 200000 in
theorem bX3_mixIntor_0 {S : pv_S} {x1 : Int64} {a2 a3 a4 : Option Value} : pv_R mX3_mixInto 0 [some (.ref 1), some (.long x1), a2, a3, a4] [] (pv_em S) = pv_R mX3_mixInto 2 [some (.ref 1), some (.long x1), (pv_nl a2), some (.int 0), a4] [] (pv_em S) := Eq.trans (pv_Ric dX3_mixInto_0 ki_0) (pv_Rstp dX3_mixInto_1 rfl rfl rfl)
set_option maxHeartbeats 200000 in
theorem bX3_mixIntor_2 {S : pv_S} {x1 : Int64} {a2 a4 : Option Value} {x3 : Int32} : pv_R mX3_mixInto 2 [some (.ref 1), some (.long x1), a2, some (.int x3), a4] [] (pv_em S) = if 6 ≤ x3 then pv_R mX3_mixInto 68 [some (.ref 1), some (.long x1), a2, some (.int x3), a4] [] (pv_em S) else pv_R mX3_mixInto 11 [some (.ref 1), some (.long x1), a2, some (.int x3), a4] [] (pv_em S) := Eq.trans (pv_Rstp dX3_mixInto_2 rfl rfl rfl) (Eq.trans (pv_Rstp dX3_mixInto_3 rfl rfl rfl) (Eq.trans (pv_Rget dX3_mixInto_4 ffX3_13 (by decide) (pv_ce_1 _ _) rfl) (Eq.trans (pv_Rstp dX3_mixInto_7 rfl rfl rfl) (pv_Rbr (tgt := 68) dX3_mixInto_8 rfl rfl rfl rfl rfl (by decide)))))
set_option maxHeartbeats 200000 in
theorem bX3_mixIntor_11 {S : pv_S} {x1 : Int64} {a2 a4 : Option Value} {x3 : Int32} : pv_R mX3_mixInto 11 [some (.ref 1), some (.long x1), a2, some (.int x3), a4] [] (pv_em S) = if x3 < 0 ∨ 6 ≤ x3.toNatClampNeg then none else pv_R mX3_mixInto 28 [some (.ref 1), some (.long ((31 * x1) + (Int32.toInt64 (S.1 2 x3.toNatClampNeg)))), none, some (.int x3), some (.int 0)] [] (pv_em S) := Eq.trans (pv_Rstp dX3_mixInto_11 rfl rfl rfl) (Eq.trans (pv_Rstp dX3_mixInto_14 rfl rfl rfl) (Eq.trans (pv_Rstp dX3_mixInto_15 rfl rfl rfl) (Eq.trans (pv_Rstp dX3_mixInto_16 rfl rfl rfl) (Eq.trans (pv_Rget dX3_mixInto_17 ffX3_13 (by decide) (pv_ce_1 _ _) rfl) (Eq.trans (pv_Rstp dX3_mixInto_20 rfl rfl rfl) (Eq.trans (pv_Rald dX3_mixInto_21 (by decide) (pv_ce_2 _ _)) (pv_iteN (fun h1 => Eq.trans (pv_Rstp dX3_mixInto_22 rfl rfl rfl) (Eq.trans (pv_Rstp dX3_mixInto_23 rfl rfl rfl) (Eq.trans (pv_Rstp dX3_mixInto_24 rfl rfl rfl) (Eq.trans (pv_Ric dX3_mixInto_25 ki_0) (pv_Rstp dX3_mixInto_26 rfl rfl rfl))))))))))))
set_option maxHeartbeats 200000 in
theorem bX3_mixIntor_28 {S : pv_S} {x1 : Int64} {a2 : Option Value} {x3 x4 : Int32} : pv_R mX3_mixInto 28 [some (.ref 1), some (.long x1), a2, some (.int x3), some (.int x4)] [] (pv_em S) = if x3 < 0 ∨ 6 ≤ x3.toNatClampNeg then none else if (S.1 2 x3.toNatClampNeg) ≤ x4 then pv_R mX3_mixInto 62 [some (.ref 1), some (.long x1), a2, some (.int x3), some (.int x4)] [] (pv_em S) else pv_R mX3_mixInto 39 [some (.ref 1), some (.long x1), a2, some (.int x3), some (.int x4)] [] (pv_em S) := Eq.trans (pv_Rstp dX3_mixInto_28 rfl rfl rfl) (Eq.trans (pv_Rstp dX3_mixInto_30 rfl rfl rfl) (Eq.trans (pv_Rget dX3_mixInto_31 ffX3_13 (by decide) (pv_ce_1 _ _) rfl) (Eq.trans (pv_Rstp dX3_mixInto_34 rfl rfl rfl) (Eq.trans (pv_Rald dX3_mixInto_35 (by decide) (pv_ce_2 _ _)) (pv_iteN (fun h1 => pv_Rbr (tgt := 62) dX3_mixInto_36 rfl rfl rfl rfl rfl (by decide)))))))
set_option maxHeartbeats 200000 in
theorem bX3_mixIntor_39 {S : pv_S} {x1 : Int64} {a2 : Option Value} {x3 x4 : Int32} : pv_R mX3_mixInto 39 [some (.ref 1), some (.long x1), a2, some (.int x3), some (.int x4)] [] (pv_em S) = if x3 < 0 ∨ 6 ≤ x3.toNatClampNeg then none else if x4 < 0 ∨ 40 ≤ x4.toNatClampNeg then none else pv_R mX3_mixInto 28 [some (.ref 1), some (.long ((31 * x1) + (Int32.toInt64 (S.1 (4 + x3.toNatClampNeg) x4.toNatClampNeg)))), none, some (.int x3), some (.int (x4 + 1))] [] (pv_em S) := Eq.trans (pv_Rstp dX3_mixInto_39 rfl rfl rfl) (Eq.trans (pv_Rstp dX3_mixInto_42 rfl rfl rfl) (Eq.trans (pv_Rstp dX3_mixInto_43 rfl rfl rfl) (Eq.trans (pv_Rstp dX3_mixInto_44 rfl rfl rfl) (Eq.trans (pv_Rget dX3_mixInto_45 ffX3_19 (by decide) (pv_ce_1 _ _) rfl) (Eq.trans (pv_Rstp dX3_mixInto_48 rfl rfl rfl) (Eq.trans (pv_Raald dX3_mixInto_49 (by decide) (pv_ce_3 _ _)) (pv_iteN (fun h1 => Eq.trans (pv_Rstp dX3_mixInto_50 rfl rfl rfl) (Eq.trans (pv_Rald dX3_mixInto_52 (pv_fal_4 (Nat.not_le.mp fun z => h1 (Or.inr z))) (pv_fam_4 (Nat.not_le.mp fun z => h1 (Or.inr z)) _ _)) (pv_iteN (fun h2 => Eq.trans (pv_Rstp dX3_mixInto_53 rfl rfl rfl) (Eq.trans (pv_Rstp dX3_mixInto_54 rfl rfl rfl) (Eq.trans (pv_Rstp dX3_mixInto_55 rfl rfl rfl) (Eq.trans (pv_Rinc dX3_mixInto_56 rfl (Nat.le_of_ble_eq_true rfl) ki_1 rfl) (pv_Rgo (tgt := 28) dX3_mixInto_59 rfl (by decide))))))))))))))))
set_option maxHeartbeats 200000 in
theorem bX3_mixIntor_62 {S : pv_S} {x1 : Int64} {a2 : Option Value} {x3 x4 : Int32} : pv_R mX3_mixInto 62 [some (.ref 1), some (.long x1), a2, some (.int x3), some (.int x4)] [] (pv_em S) = pv_R mX3_mixInto 2 [some (.ref 1), some (.long x1), (pv_nl a2), some (.int (x3 + 1)), some (.int x4)] [] (pv_em S) := Eq.trans (pv_Rinc dX3_mixInto_62 rfl (Nat.le_of_ble_eq_true rfl) ki_1 rfl) (pv_Rgo (tgt := 2) dX3_mixInto_65 rfl (by decide))
set_option maxHeartbeats 200000 in
theorem bX3_mixIntor_68 {S : pv_S} {x1 : Int64} {a2 a4 : Option Value} {x3 : Int32} : pv_R mX3_mixInto 68 [some (.ref 1), some (.long x1), a2, some (.int x3), a4] [] (pv_em S) = some (some (.long x1), pv_em S) := Eq.trans (pv_Rstp dX3_mixInto_68 rfl rfl rfl) (pv_Rret dX3_mixInto_69 rfl)
set_option maxHeartbeats 200000 in
theorem bX3_mixIntot_0 {S : pv_S} {x1 : Int64} {a2 a3 a4 : Option Value} : pv_R mX3_mixInto 0 [some (.ref 10), some (.long x1), a2, a3, a4] [] (pv_em S) = pv_R mX3_mixInto 2 [some (.ref 10), some (.long x1), (pv_nl a2), some (.int 0), a4] [] (pv_em S) := Eq.trans (pv_Ric dX3_mixInto_0 ki_0) (pv_Rstp dX3_mixInto_1 rfl rfl rfl)
set_option maxHeartbeats 200000 in
theorem bX3_mixIntot_2 {S : pv_S} {x1 : Int64} {a2 a4 : Option Value} {x3 : Int32} : pv_R mX3_mixInto 2 [some (.ref 10), some (.long x1), a2, some (.int x3), a4] [] (pv_em S) = if 4 ≤ x3 then pv_R mX3_mixInto 68 [some (.ref 10), some (.long x1), a2, some (.int x3), a4] [] (pv_em S) else pv_R mX3_mixInto 11 [some (.ref 10), some (.long x1), a2, some (.int x3), a4] [] (pv_em S) := Eq.trans (pv_Rstp dX3_mixInto_2 rfl rfl rfl) (Eq.trans (pv_Rstp dX3_mixInto_3 rfl rfl rfl) (Eq.trans (pv_Rget dX3_mixInto_4 ffX3_13 (by decide) (pv_ce_10 _ _) rfl) (Eq.trans (pv_Rstp dX3_mixInto_7 rfl rfl rfl) (pv_Rbr (tgt := 68) dX3_mixInto_8 rfl rfl rfl rfl rfl (by decide)))))
set_option maxHeartbeats 200000 in
theorem bX3_mixIntot_11 {S : pv_S} {x1 : Int64} {a2 a4 : Option Value} {x3 : Int32} : pv_R mX3_mixInto 11 [some (.ref 10), some (.long x1), a2, some (.int x3), a4] [] (pv_em S) = if x3 < 0 ∨ 4 ≤ x3.toNatClampNeg then none else pv_R mX3_mixInto 28 [some (.ref 10), some (.long ((31 * x1) + (Int32.toInt64 (S.1 11 x3.toNatClampNeg)))), none, some (.int x3), some (.int 0)] [] (pv_em S) := Eq.trans (pv_Rstp dX3_mixInto_11 rfl rfl rfl) (Eq.trans (pv_Rstp dX3_mixInto_14 rfl rfl rfl) (Eq.trans (pv_Rstp dX3_mixInto_15 rfl rfl rfl) (Eq.trans (pv_Rstp dX3_mixInto_16 rfl rfl rfl) (Eq.trans (pv_Rget dX3_mixInto_17 ffX3_13 (by decide) (pv_ce_10 _ _) rfl) (Eq.trans (pv_Rstp dX3_mixInto_20 rfl rfl rfl) (Eq.trans (pv_Rald dX3_mixInto_21 (by decide) (pv_ce_11 _ _)) (pv_iteN (fun h1 => Eq.trans (pv_Rstp dX3_mixInto_22 rfl rfl rfl) (Eq.trans (pv_Rstp dX3_mixInto_23 rfl rfl rfl) (Eq.trans (pv_Rstp dX3_mixInto_24 rfl rfl rfl) (Eq.trans (pv_Ric dX3_mixInto_25 ki_0) (pv_Rstp dX3_mixInto_26 rfl rfl rfl))))))))))))
set_option maxHeartbeats 200000 in
theorem bX3_mixIntot_28 {S : pv_S} {x1 : Int64} {a2 : Option Value} {x3 x4 : Int32} : pv_R mX3_mixInto 28 [some (.ref 10), some (.long x1), a2, some (.int x3), some (.int x4)] [] (pv_em S) = if x3 < 0 ∨ 4 ≤ x3.toNatClampNeg then none else if (S.1 11 x3.toNatClampNeg) ≤ x4 then pv_R mX3_mixInto 62 [some (.ref 10), some (.long x1), a2, some (.int x3), some (.int x4)] [] (pv_em S) else pv_R mX3_mixInto 39 [some (.ref 10), some (.long x1), a2, some (.int x3), some (.int x4)] [] (pv_em S) := Eq.trans (pv_Rstp dX3_mixInto_28 rfl rfl rfl) (Eq.trans (pv_Rstp dX3_mixInto_30 rfl rfl rfl) (Eq.trans (pv_Rget dX3_mixInto_31 ffX3_13 (by decide) (pv_ce_10 _ _) rfl) (Eq.trans (pv_Rstp dX3_mixInto_34 rfl rfl rfl) (Eq.trans (pv_Rald dX3_mixInto_35 (by decide) (pv_ce_11 _ _)) (pv_iteN (fun h1 => pv_Rbr (tgt := 62) dX3_mixInto_36 rfl rfl rfl rfl rfl (by decide)))))))
set_option maxHeartbeats 200000 in
theorem bX3_mixIntot_39 {S : pv_S} {x1 : Int64} {a2 : Option Value} {x3 x4 : Int32} : pv_R mX3_mixInto 39 [some (.ref 10), some (.long x1), a2, some (.int x3), some (.int x4)] [] (pv_em S) = if x3 < 0 ∨ 4 ≤ x3.toNatClampNeg then none else if x4 < 0 ∨ 60 ≤ x4.toNatClampNeg then none else pv_R mX3_mixInto 28 [some (.ref 10), some (.long ((31 * x1) + (Int32.toInt64 (S.1 (13 + x3.toNatClampNeg) x4.toNatClampNeg)))), none, some (.int x3), some (.int (x4 + 1))] [] (pv_em S) := Eq.trans (pv_Rstp dX3_mixInto_39 rfl rfl rfl) (Eq.trans (pv_Rstp dX3_mixInto_42 rfl rfl rfl) (Eq.trans (pv_Rstp dX3_mixInto_43 rfl rfl rfl) (Eq.trans (pv_Rstp dX3_mixInto_44 rfl rfl rfl) (Eq.trans (pv_Rget dX3_mixInto_45 ffX3_19 (by decide) (pv_ce_10 _ _) rfl) (Eq.trans (pv_Rstp dX3_mixInto_48 rfl rfl rfl) (Eq.trans (pv_Raald dX3_mixInto_49 (by decide) (pv_ce_12 _ _)) (pv_iteN (fun h1 => Eq.trans (pv_Rstp dX3_mixInto_50 rfl rfl rfl) (Eq.trans (pv_Rald dX3_mixInto_52 (pv_fal_13 (Nat.not_le.mp fun z => h1 (Or.inr z))) (pv_fam_13 (Nat.not_le.mp fun z => h1 (Or.inr z)) _ _)) (pv_iteN (fun h2 => Eq.trans (pv_Rstp dX3_mixInto_53 rfl rfl rfl) (Eq.trans (pv_Rstp dX3_mixInto_54 rfl rfl rfl) (Eq.trans (pv_Rstp dX3_mixInto_55 rfl rfl rfl) (Eq.trans (pv_Rinc dX3_mixInto_56 rfl (Nat.le_of_ble_eq_true rfl) ki_1 rfl) (pv_Rgo (tgt := 28) dX3_mixInto_59 rfl (by decide))))))))))))))))
set_option maxHeartbeats 200000 in
theorem bX3_mixIntot_62 {S : pv_S} {x1 : Int64} {a2 : Option Value} {x3 x4 : Int32} : pv_R mX3_mixInto 62 [some (.ref 10), some (.long x1), a2, some (.int x3), some (.int x4)] [] (pv_em S) = pv_R mX3_mixInto 2 [some (.ref 10), some (.long x1), (pv_nl a2), some (.int (x3 + 1)), some (.int x4)] [] (pv_em S) := Eq.trans (pv_Rinc dX3_mixInto_62 rfl (Nat.le_of_ble_eq_true rfl) ki_1 rfl) (pv_Rgo (tgt := 2) dX3_mixInto_65 rfl (by decide))
set_option maxHeartbeats 200000 in
theorem bX3_mixIntot_68 {S : pv_S} {x1 : Int64} {a2 a4 : Option Value} {x3 : Int32} : pv_R mX3_mixInto 68 [some (.ref 10), some (.long x1), a2, some (.int x3), a4] [] (pv_em S) = some (some (.long x1), pv_em S) := Eq.trans (pv_Rstp dX3_mixInto_68 rfl rfl rfl) (pv_Rret dX3_mixInto_69 rfl)
set_option maxHeartbeats 200000 in
theorem bX3_hasNumbert_0 {S : pv_S} {x1 : Int32} : pv_R mX3_hasNumber 0 [some (.ref 10), some (.int x1)] [] (pv_em S) = if x1 < 0 then pv_R mX3_hasNumber 17 [some (.ref 10), some (.int x1)] [] (pv_em S) else pv_R mX3_hasNumber 4 [some (.ref 10), some (.int x1)] [] (pv_em S) := Eq.trans (pv_Rstp dX3_hasNumber_0 rfl rfl rfl) (pv_Rbr (tgt := 17) dX3_hasNumber_1 rfl rfl rfl rfl rfl (by decide))
set_option maxHeartbeats 200000 in
theorem bX3_hasNumbert_4 {S : pv_S} {x1 : Int32} : pv_R mX3_hasNumber 4 [some (.ref 10), some (.int x1)] [] (pv_em S) = if 4 ≤ x1 then pv_R mX3_hasNumber 17 [some (.ref 10), some (.int x1)] [] (pv_em S) else pv_R mX3_hasNumber 13 [some (.ref 10), some (.int x1)] [] (pv_em S) := Eq.trans (pv_Rstp dX3_hasNumber_4 rfl rfl rfl) (Eq.trans (pv_Rstp dX3_hasNumber_5 rfl rfl rfl) (Eq.trans (pv_Rget dX3_hasNumber_6 ffX3_13 (by decide) (pv_ce_10 _ _) rfl) (Eq.trans (pv_Rstp dX3_hasNumber_9 rfl rfl rfl) (pv_Rbr (tgt := 17) dX3_hasNumber_10 rfl rfl rfl rfl rfl (by decide)))))
set_option maxHeartbeats 200000 in
theorem bX3_hasNumbert_13 {S : pv_S} {x1 : Int32} : pv_R mX3_hasNumber 13 [some (.ref 10), some (.int x1)] [] (pv_em S) = pv_R mX3_hasNumber 18 [some (.ref 10), some (.int x1)] [.int 1] (pv_em S) := Eq.trans (pv_Ric dX3_hasNumber_13 ki_1) (pv_Rgo (tgt := 18) dX3_hasNumber_14 rfl (by decide))
set_option maxHeartbeats 200000 in
theorem bX3_hasNumbert_17 {S : pv_S} {x1 : Int32} : pv_R mX3_hasNumber 17 [some (.ref 10), some (.int x1)] [] (pv_em S) = pv_R mX3_hasNumber 18 [some (.ref 10), some (.int x1)] [.int 0] (pv_em S) := pv_Ric dX3_hasNumber_17 ki_0
set_option maxHeartbeats 200000 in
theorem bX3_hasNumbert_18 {S : pv_S} {x1 u0 : Int32} : pv_R mX3_hasNumber 18 [some (.ref 10), some (.int x1)] [.int u0] (pv_em S) = if vp_nar .boolean u0 = u0 then some (some (.int u0), pv_em S) else none := pv_Rzret dX3_hasNumber_18 rfl
set_option maxHeartbeats 200000 in
theorem bX3_maket_0 {S : pv_S} {x1 x2 x3 : Int32} {a4 : Option Value} : pv_R mX3_make 0 [some (.ref 10), some (.int x1), some (.int x2), some (.int x3), a4] [] (pv_em S) = if x1 < 0 ∨ 4 ≤ x1.toNatClampNeg then none else pv_R mX3_make 10 [some (.ref 10), some (.int x1), some (.int x2), some (.int x3), some (.int 0)] [] (pv_em (pv_si S 11 x1.toNatClampNeg x2)) := Eq.trans (pv_Rstp dX3_make_0 rfl rfl rfl) (Eq.trans (pv_Rget dX3_make_1 ffX3_13 (by decide) (pv_ce_10 _ _) rfl) (Eq.trans (pv_Rstp dX3_make_4 rfl rfl rfl) (Eq.trans (pv_Rstp dX3_make_5 rfl rfl rfl) (Eq.trans (pv_Rast dX3_make_6 (by decide) (pv_ce_11 _ _) (pv_em_si rfl)) (pv_iteN (fun h1 => Eq.trans (pv_Ric dX3_make_7 ki_0) (pv_Rstp dX3_make_8 rfl rfl rfl)))))))
set_option maxHeartbeats 200000 in
theorem bX3_maket_10 {S : pv_S} {x1 x2 x3 x4 : Int32} : pv_R mX3_make 10 [some (.ref 10), some (.int x1), some (.int x2), some (.int x3), some (.int x4)] [] (pv_em S) = if x2 ≤ x4 then pv_R mX3_make 32 [some (.ref 10), some (.int x1), some (.int x2), some (.int x3), some (.int x4)] [] (pv_em S) else pv_R mX3_make 16 [some (.ref 10), some (.int x1), some (.int x2), some (.int x3), some (.int x4)] [] (pv_em S) := Eq.trans (pv_Rstp dX3_make_10 rfl rfl rfl) (Eq.trans (pv_Rstp dX3_make_12 rfl rfl rfl) (pv_Rbr (tgt := 32) dX3_make_13 rfl rfl rfl rfl rfl (by decide)))
set_option maxHeartbeats 200000 in
theorem bX3_maket_16 {S : pv_S} {x1 x2 x3 x4 : Int32} : pv_R mX3_make 16 [some (.ref 10), some (.int x1), some (.int x2), some (.int x3), some (.int x4)] [] (pv_em S) = if x1 < 0 ∨ 4 ≤ x1.toNatClampNeg then none else if x4 < 0 ∨ 60 ≤ x4.toNatClampNeg then none else pv_R mX3_make 10 [some (.ref 10), some (.int x1), some (.int x2), some (.int x3), some (.int (x4 + 1))] [] (pv_em (pv_si S (13 + x1.toNatClampNeg) x4.toNatClampNeg x3)) := Eq.trans (pv_Rstp dX3_make_16 rfl rfl rfl) (Eq.trans (pv_Rget dX3_make_17 ffX3_19 (by decide) (pv_ce_10 _ _) rfl) (Eq.trans (pv_Rstp dX3_make_20 rfl rfl rfl) (Eq.trans (pv_Raald dX3_make_21 (by decide) (pv_ce_12 _ _)) (pv_iteN (fun h1 => Eq.trans (pv_Rstp dX3_make_22 rfl rfl rfl) (Eq.trans (pv_Rstp dX3_make_24 rfl rfl rfl) (Eq.trans (pv_Rast dX3_make_25 (pv_fal_13 (Nat.not_le.mp fun z => h1 (Or.inr z))) (pv_fam_13 (Nat.not_le.mp fun z => h1 (Or.inr z)) _ _) (pv_em_si (pv_fam_13 (Nat.not_le.mp fun z => h1 (Or.inr z)) _ _))) (pv_iteN (fun h2 => Eq.trans (pv_Rinc dX3_make_26 rfl (Nat.le_of_ble_eq_true rfl) ki_1 rfl) (pv_Rgo (tgt := 10) dX3_make_29 rfl (by decide)))))))))))
set_option maxHeartbeats 200000 in
theorem bX3_maket_32 {S : pv_S} {x1 x2 x3 x4 : Int32} : pv_R mX3_make 32 [some (.ref 10), some (.int x1), some (.int x2), some (.int x3), some (.int x4)] [] (pv_em S) = some (none, pv_em S) := pv_Rret dX3_make_32 rfl
set_option maxHeartbeats 200000 in
theorem bX3_hasRunt_0 {S : pv_S} {x1 x2 x3 : Int32} : pv_R mX3_hasRun 0 [some (.ref 10), some (.int x1), some (.int x2), some (.int x3)] [] (pv_em S) = if x2 < 0 then pv_R mX3_hasRun 30 [some (.ref 10), some (.int x1), some (.int x2), some (.int x3)] [] (pv_em S) else pv_R mX3_hasRun 4 [some (.ref 10), some (.int x1), some (.int x2), some (.int x3)] [] (pv_em S) := Eq.trans (pv_Rstp dX3_hasRun_0 rfl rfl rfl) (pv_Rbr (tgt := 30) dX3_hasRun_1 rfl rfl rfl rfl rfl (by decide))
set_option maxHeartbeats 200000 in
theorem bX3_hasRunt_4 {S : pv_S} {x1 x2 x3 : Int32} : pv_R mX3_hasRun 4 [some (.ref 10), some (.int x1), some (.int x2), some (.int x3)] [] (pv_em S) = if x1 < 0 ∨ 4 ≤ x1.toNatClampNeg then none else if (S.1 11 x1.toNatClampNeg) < x3 then pv_R mX3_hasRun 30 [some (.ref 10), some (.int x1), some (.int x2), some (.int x3)] [] (pv_em S) else pv_R mX3_hasRun 14 [some (.ref 10), some (.int x1), some (.int x2), some (.int x3)] [] (pv_em S) := Eq.trans (pv_Rstp dX3_hasRun_4 rfl rfl rfl) (Eq.trans (pv_Rstp dX3_hasRun_5 rfl rfl rfl) (Eq.trans (pv_Rget dX3_hasRun_6 ffX3_13 (by decide) (pv_ce_10 _ _) rfl) (Eq.trans (pv_Rstp dX3_hasRun_9 rfl rfl rfl) (Eq.trans (pv_Rald dX3_hasRun_10 (by decide) (pv_ce_11 _ _)) (pv_iteN (fun h1 => pv_Rbr (tgt := 30) dX3_hasRun_11 rfl rfl rfl rfl rfl (by decide)))))))
set_option maxHeartbeats 200000 in
theorem bX3_hasRunt_14 {S : pv_S} {x1 x2 x3 : Int32} : pv_R mX3_hasRun 14 [some (.ref 10), some (.int x1), some (.int x2), some (.int x3)] [] (pv_em S) = if x1 < 0 ∨ 4 ≤ x1.toNatClampNeg then none else if ((S.1 11 x1.toNatClampNeg) - x3) < x2 then pv_R mX3_hasRun 30 [some (.ref 10), some (.int x1), some (.int x2), some (.int x3)] [] (pv_em S) else pv_R mX3_hasRun 26 [some (.ref 10), some (.int x1), some (.int x2), some (.int x3)] [] (pv_em S) := Eq.trans (pv_Rstp dX3_hasRun_14 rfl rfl rfl) (Eq.trans (pv_Rstp dX3_hasRun_15 rfl rfl rfl) (Eq.trans (pv_Rget dX3_hasRun_16 ffX3_13 (by decide) (pv_ce_10 _ _) rfl) (Eq.trans (pv_Rstp dX3_hasRun_19 rfl rfl rfl) (Eq.trans (pv_Rald dX3_hasRun_20 (by decide) (pv_ce_11 _ _)) (pv_iteN (fun h1 => Eq.trans (pv_Rstp dX3_hasRun_21 rfl rfl rfl) (Eq.trans (pv_Rstp dX3_hasRun_22 rfl rfl rfl) (pv_Rbr (tgt := 30) dX3_hasRun_23 rfl rfl rfl rfl rfl (by decide)))))))))
set_option maxHeartbeats 200000 in
theorem bX3_hasRunt_26 {S : pv_S} {x1 x2 x3 : Int32} : pv_R mX3_hasRun 26 [some (.ref 10), some (.int x1), some (.int x2), some (.int x3)] [] (pv_em S) = pv_R mX3_hasRun 31 [some (.ref 10), some (.int x1), some (.int x2), some (.int x3)] [.int 1] (pv_em S) := Eq.trans (pv_Ric dX3_hasRun_26 ki_1) (pv_Rgo (tgt := 31) dX3_hasRun_27 rfl (by decide))
set_option maxHeartbeats 200000 in
theorem bX3_hasRunt_30 {S : pv_S} {x1 x2 x3 : Int32} : pv_R mX3_hasRun 30 [some (.ref 10), some (.int x1), some (.int x2), some (.int x3)] [] (pv_em S) = pv_R mX3_hasRun 31 [some (.ref 10), some (.int x1), some (.int x2), some (.int x3)] [.int 0] (pv_em S) := pv_Ric dX3_hasRun_30 ki_0
set_option maxHeartbeats 200000 in
theorem bX3_hasRunt_31 {S : pv_S} {x1 x2 x3 u0 : Int32} : pv_R mX3_hasRun 31 [some (.ref 10), some (.int x1), some (.int x2), some (.int x3)] [.int u0] (pv_em S) = if vp_nar .boolean u0 = u0 then some (some (.int u0), pv_em S) else none := pv_Rzret dX3_hasRun_31 rfl
set_option maxHeartbeats 200000 in
theorem bX3_sizeOft_0 {S : pv_S} {x1 : Int32} : pv_R mX3_sizeOf 0 [some (.ref 10), some (.int x1)] [] (pv_em S) = if x1 < 0 ∨ 4 ≤ x1.toNatClampNeg then none else some (some (.int (S.1 11 x1.toNatClampNeg)), pv_em S) := Eq.trans (pv_Rstp dX3_sizeOf_0 rfl rfl rfl) (Eq.trans (pv_Rget dX3_sizeOf_1 ffX3_13 (by decide) (pv_ce_10 _ _) rfl) (Eq.trans (pv_Rstp dX3_sizeOf_4 rfl rfl rfl) (Eq.trans (pv_Rald dX3_sizeOf_5 (by decide) (pv_ce_11 _ _)) (pv_iteN (fun h1 => pv_Rret dX3_sizeOf_6 rfl)))))
set_option maxHeartbeats 200000 in
theorem bX3_isTheret_0 {S : pv_S} {x1 : Int32} : pv_R mX3_isThere 0 [some (.ref 10), some (.int x1)] [] (pv_em S) = if x1 < 0 ∨ 4 ≤ x1.toNatClampNeg then none else if (S.1 11 x1.toNatClampNeg) < 0 then pv_R mX3_isThere 13 [some (.ref 10), some (.int x1)] [] (pv_em S) else pv_R mX3_isThere 9 [some (.ref 10), some (.int x1)] [] (pv_em S) := Eq.trans (pv_Rstp dX3_isThere_0 rfl rfl rfl) (Eq.trans (pv_Rget dX3_isThere_1 ffX3_13 (by decide) (pv_ce_10 _ _) rfl) (Eq.trans (pv_Rstp dX3_isThere_4 rfl rfl rfl) (Eq.trans (pv_Rald dX3_isThere_5 (by decide) (pv_ce_11 _ _)) (pv_iteN (fun h1 => pv_Rbr (tgt := 13) dX3_isThere_6 rfl rfl rfl rfl rfl (by decide))))))
set_option maxHeartbeats 200000 in
theorem bX3_isTheret_9 {S : pv_S} {x1 : Int32} : pv_R mX3_isThere 9 [some (.ref 10), some (.int x1)] [] (pv_em S) = pv_R mX3_isThere 14 [some (.ref 10), some (.int x1)] [.int 1] (pv_em S) := Eq.trans (pv_Ric dX3_isThere_9 ki_1) (pv_Rgo (tgt := 14) dX3_isThere_10 rfl (by decide))
set_option maxHeartbeats 200000 in
theorem bX3_isTheret_13 {S : pv_S} {x1 : Int32} : pv_R mX3_isThere 13 [some (.ref 10), some (.int x1)] [] (pv_em S) = pv_R mX3_isThere 14 [some (.ref 10), some (.int x1)] [.int 0] (pv_em S) := pv_Ric dX3_isThere_13 ki_0
set_option maxHeartbeats 200000 in
theorem bX3_isTheret_14 {S : pv_S} {x1 u0 : Int32} : pv_R mX3_isThere 14 [some (.ref 10), some (.int x1)] [.int u0] (pv_em S) = if vp_nar .boolean u0 = u0 then some (some (.int u0), pv_em S) else none := pv_Rzret dX3_isThere_14 rfl
theorem dX4_greatestDivisor_0 : decode cX4_greatestDivisor 0 = .ok (.iconst 0, 1) := by decide +kernel
theorem dX4_greatestDivisor_1 : decode cX4_greatestDivisor 1 = .ok (.istore 4, 2) := by decide +kernel
theorem dX4_greatestDivisor_3 : decode cX4_greatestDivisor 3 = .ok (.iload 4, 2) := by decide +kernel
theorem dX4_greatestDivisor_5 : decode cX4_greatestDivisor 5 = .ok (.sipush 200, 3) := by decide +kernel
theorem dX4_greatestDivisor_8 : decode cX4_greatestDivisor 8 = .ok (.if_icmp .ge 25, 3) := by decide +kernel
theorem dX4_greatestDivisor_11 : decode cX4_greatestDivisor 11 = .ok (.lload_n 2, 1) := by decide +kernel
theorem dX4_greatestDivisor_12 : decode cX4_greatestDivisor 12 = .ok (.lconst 0, 1) := by decide +kernel
theorem dX4_greatestDivisor_13 : decode cX4_greatestDivisor 13 = .ok (.lcmp, 1) := by decide +kernel
theorem dX4_greatestDivisor_14 : decode cX4_greatestDivisor 14 = .ok (.ifCond .eq 19, 3) := by decide +kernel
theorem dX4_greatestDivisor_17 : decode cX4_greatestDivisor 17 = .ok (.lload_n 0, 1) := by decide +kernel
theorem dX4_greatestDivisor_18 : decode cX4_greatestDivisor 18 = .ok (.lload_n 2, 1) := by decide +kernel
theorem dX4_greatestDivisor_19 : decode cX4_greatestDivisor 19 = .ok (.lrem, 1) := by decide +kernel
theorem dX4_greatestDivisor_20 : decode cX4_greatestDivisor 20 = .ok (.lstore 5, 2) := by decide +kernel
theorem dX4_greatestDivisor_22 : decode cX4_greatestDivisor 22 = .ok (.lload_n 2, 1) := by decide +kernel
theorem dX4_greatestDivisor_23 : decode cX4_greatestDivisor 23 = .ok (.lstore_n 0, 1) := by decide +kernel
theorem dX4_greatestDivisor_24 : decode cX4_greatestDivisor 24 = .ok (.lload 5, 2) := by decide +kernel
theorem dX4_greatestDivisor_26 : decode cX4_greatestDivisor 26 = .ok (.lstore_n 2, 1) := by decide +kernel
theorem dX4_greatestDivisor_27 : decode cX4_greatestDivisor 27 = .ok (.iinc 4 1, 3) := by decide +kernel
theorem dX4_greatestDivisor_30 : decode cX4_greatestDivisor 30 = .ok (.goto (-27), 3) := by decide +kernel
theorem dX4_greatestDivisor_33 : decode cX4_greatestDivisor 33 = .ok (.lload_n 0, 1) := by decide +kernel
theorem dX4_greatestDivisor_34 : decode cX4_greatestDivisor 34 = .ok (.lreturn, 1) := by decide +kernel
set_option maxHeartbeats 200000 in
theorem bX4_greatestDivisor_0 {S : pv_S} {x0 x2 : Int64} {a1 a3 a4 a5 a6 : Option Value} : pv_R mX4_greatestDivisor 0 [some (.long x0), a1, some (.long x2), a3, a4, a5, a6] [] (pv_em S) = pv_R mX4_greatestDivisor 3 [some (.long x0), a1, some (.long x2), (pv_nl a3), some (.int 0), a5, a6] [] (pv_em S) := Eq.trans (pv_Ric dX4_greatestDivisor_0 ki_0) (pv_Rstp dX4_greatestDivisor_1 rfl rfl rfl)
set_option maxHeartbeats 200000 in
theorem bX4_greatestDivisor_3 {S : pv_S} {x0 x2 : Int64} {a1 a3 a5 a6 : Option Value} {x4 : Int32} : pv_R mX4_greatestDivisor 3 [some (.long x0), a1, some (.long x2), a3, some (.int x4), a5, a6] [] (pv_em S) = if 200 ≤ x4 then pv_R mX4_greatestDivisor 33 [some (.long x0), a1, some (.long x2), a3, some (.int x4), a5, a6] [] (pv_em S) else pv_R mX4_greatestDivisor 11 [some (.long x0), a1, some (.long x2), a3, some (.int x4), a5, a6] [] (pv_em S) := Eq.trans (pv_Rstp dX4_greatestDivisor_3 rfl rfl rfl) (Eq.trans (pv_Rsp dX4_greatestDivisor_5 ks_200) (pv_Rbr (tgt := 33) dX4_greatestDivisor_8 rfl rfl rfl rfl rfl (by decide)))
set_option maxHeartbeats 200000 in
theorem bX4_greatestDivisor_11 {S : pv_S} {x0 x2 : Int64} {a1 a3 a5 a6 : Option Value} {x4 : Int32} : pv_R mX4_greatestDivisor 11 [some (.long x0), a1, some (.long x2), a3, some (.int x4), a5, a6] [] (pv_em S) = if (lg_cmp x2 0) = 0 then pv_R mX4_greatestDivisor 33 [some (.long x0), a1, some (.long x2), a3, some (.int x4), a5, a6] [] (pv_em S) else pv_R mX4_greatestDivisor 17 [some (.long x0), a1, some (.long x2), a3, some (.int x4), a5, a6] [] (pv_em S) := Eq.trans (pv_Rstp dX4_greatestDivisor_11 rfl rfl rfl) (Eq.trans (pv_Rlc dX4_greatestDivisor_12 kl_0) (Eq.trans (pv_Rstp dX4_greatestDivisor_13 rfl rfl rfl) (pv_Rbr (tgt := 33) dX4_greatestDivisor_14 rfl rfl rfl rfl rfl (by decide))))
set_option maxHeartbeats 200000 in
theorem bX4_greatestDivisor_17 {S : pv_S} {x0 x2 : Int64} {a1 a3 a5 a6 : Option Value} {x4 : Int32} : pv_R mX4_greatestDivisor 17 [some (.long x0), a1, some (.long x2), a3, some (.int x4), a5, a6] [] (pv_em S) = if x2 = 0 then none else pv_R mX4_greatestDivisor 3 [some (.long x2), none, some (.long (x0 - x0 / x2 * x2)), none, some (.int (x4 + 1)), some (.long (x0 - x0 / x2 * x2)), none] [] (pv_em S) := Eq.trans (pv_Rstp dX4_greatestDivisor_17 rfl rfl rfl) (Eq.trans (pv_Rstp dX4_greatestDivisor_18 rfl rfl rfl) (Eq.trans (pv_Rlrem dX4_greatestDivisor_19) (pv_iteN (fun h1 => Eq.trans (pv_Rstp dX4_greatestDivisor_20 rfl rfl rfl) (Eq.trans (pv_Rstp dX4_greatestDivisor_22 rfl rfl rfl) (Eq.trans (pv_Rstp dX4_greatestDivisor_23 rfl rfl rfl) (Eq.trans (pv_Rstp dX4_greatestDivisor_24 rfl rfl rfl) (Eq.trans (pv_Rstp dX4_greatestDivisor_26 rfl rfl rfl) (Eq.trans (pv_Rinc dX4_greatestDivisor_27 rfl (Nat.le_of_ble_eq_true rfl) ki_1 rfl) (pv_Rgo (tgt := 3) dX4_greatestDivisor_30 rfl (by decide)))))))))))
set_option maxHeartbeats 200000 in
theorem bX4_greatestDivisor_33 {S : pv_S} {x0 x2 : Int64} {a1 a3 a5 a6 : Option Value} {x4 : Int32} : pv_R mX4_greatestDivisor 33 [some (.long x0), a1, some (.long x2), a3, some (.int x4), a5, a6] [] (pv_em S) = some (some (.long x0), pv_em S) := Eq.trans (pv_Rstp dX4_greatestDivisor_33 rfl rfl rfl) (pv_Rret dX4_greatestDivisor_34 rfl)
theorem dX1_alikeTo_0 : decode cX1_alikeTo 0 = .ok (.iconst 0, 1) := by decide +kernel
theorem dX1_alikeTo_1 : decode cX1_alikeTo 1 = .ok (.istore_n 3, 1) := by decide +kernel
theorem dX1_alikeTo_2 : decode cX1_alikeTo 2 = .ok (.iconst 0, 1) := by decide +kernel
theorem dX1_alikeTo_3 : decode cX1_alikeTo 3 = .ok (.istore 4, 2) := by decide +kernel
theorem dX1_alikeTo_5 : decode cX1_alikeTo 5 = .ok (.iload 4, 2) := by decide +kernel
theorem dX1_alikeTo_7 : decode cX1_alikeTo 7 = .ok (.bipush 6, 2) := by decide +kernel
theorem dX1_alikeTo_9 : decode cX1_alikeTo 9 = .ok (.if_icmp .ge 37, 3) := by decide +kernel
theorem dX1_alikeTo_12 : decode cX1_alikeTo 12 = .ok (.iload_n 2, 1) := by decide +kernel
theorem dX1_alikeTo_13 : decode cX1_alikeTo 13 = .ok (.iload 4, 2) := by decide +kernel
theorem dX1_alikeTo_15 : decode cX1_alikeTo 15 = .ok (.ishr, 1) := by decide +kernel
theorem dX1_alikeTo_16 : decode cX1_alikeTo 16 = .ok (.iconst 1, 1) := by decide +kernel
theorem dX1_alikeTo_17 : decode cX1_alikeTo 17 = .ok (.iand, 1) := by decide +kernel
theorem dX1_alikeTo_18 : decode cX1_alikeTo 18 = .ok (.ifCond .eq 22, 3) := by decide +kernel
theorem dX1_alikeTo_21 : decode cX1_alikeTo 21 = .ok (.aload_n 0, 1) := by decide +kernel
theorem dX1_alikeTo_22 : decode cX1_alikeTo 22 = .ok (.getfield 15, 3) := by decide +kernel
theorem dX1_alikeTo_25 : decode cX1_alikeTo 25 = .ok (.iload 4, 2) := by decide +kernel
theorem dX1_alikeTo_27 : decode cX1_alikeTo 27 = .ok (.iaload, 1) := by decide +kernel
theorem dX1_alikeTo_28 : decode cX1_alikeTo 28 = .ok (.aload_n 0, 1) := by decide +kernel
theorem dX1_alikeTo_29 : decode cX1_alikeTo 29 = .ok (.getfield 15, 3) := by decide +kernel
theorem dX1_alikeTo_32 : decode cX1_alikeTo 32 = .ok (.iload_n 1, 1) := by decide +kernel
theorem dX1_alikeTo_33 : decode cX1_alikeTo 33 = .ok (.iaload, 1) := by decide +kernel
theorem dX1_alikeTo_34 : decode cX1_alikeTo 34 = .ok (.if_icmp .ne 6, 3) := by decide +kernel
theorem dX1_alikeTo_37 : decode cX1_alikeTo 37 = .ok (.iinc 3 1, 3) := by decide +kernel
theorem dX1_alikeTo_40 : decode cX1_alikeTo 40 = .ok (.iinc 4 1, 3) := by decide +kernel
theorem dX1_alikeTo_43 : decode cX1_alikeTo 43 = .ok (.goto (-38), 3) := by decide +kernel
theorem dX1_alikeTo_46 : decode cX1_alikeTo 46 = .ok (.iload_n 3, 1) := by decide +kernel
theorem dX1_alikeTo_47 : decode cX1_alikeTo 47 = .ok (.ireturn, 1) := by decide +kernel
set_option maxHeartbeats 200000 in
theorem bX1_alikeTo_0 {S : pv_S} {x1 x2 : Int32} {a3 a4 : Option Value} : pv_R mX1_alikeTo 0 [some (.ref 32), some (.int x1), some (.int x2), a3, a4] [] (pv_em S) = pv_R mX1_alikeTo 5 [some (.ref 32), some (.int x1), some (.int x2), some (.int 0), some (.int 0)] [] (pv_em S) := Eq.trans (pv_Ric dX1_alikeTo_0 ki_0) (Eq.trans (pv_Rstp dX1_alikeTo_1 rfl rfl rfl) (Eq.trans (pv_Ric dX1_alikeTo_2 ki_0) (pv_Rstp dX1_alikeTo_3 rfl rfl rfl)))
set_option maxHeartbeats 200000 in
theorem bX1_alikeTo_5 {S : pv_S} {x1 x2 x3 x4 : Int32} : pv_R mX1_alikeTo 5 [some (.ref 32), some (.int x1), some (.int x2), some (.int x3), some (.int x4)] [] (pv_em S) = if 6 ≤ x4 then pv_R mX1_alikeTo 46 [some (.ref 32), some (.int x1), some (.int x2), some (.int x3), some (.int x4)] [] (pv_em S) else pv_R mX1_alikeTo 12 [some (.ref 32), some (.int x1), some (.int x2), some (.int x3), some (.int x4)] [] (pv_em S) := Eq.trans (pv_Rstp dX1_alikeTo_5 rfl rfl rfl) (Eq.trans (pv_Rbp dX1_alikeTo_7 kb_6) (pv_Rbr (tgt := 46) dX1_alikeTo_9 rfl rfl rfl rfl rfl (by decide)))
set_option maxHeartbeats 200000 in
theorem bX1_alikeTo_12 {S : pv_S} {x1 x2 x3 x4 : Int32} : pv_R mX1_alikeTo 12 [some (.ref 32), some (.int x1), some (.int x2), some (.int x3), some (.int x4)] [] (pv_em S) = if ((x2 >>> (x4 &&& 31)) &&& 1) = 0 then pv_R mX1_alikeTo 40 [some (.ref 32), some (.int x1), some (.int x2), some (.int x3), some (.int x4)] [] (pv_em S) else pv_R mX1_alikeTo 21 [some (.ref 32), some (.int x1), some (.int x2), some (.int x3), some (.int x4)] [] (pv_em S) := Eq.trans (pv_Rstp dX1_alikeTo_12 rfl rfl rfl) (Eq.trans (pv_Rstp dX1_alikeTo_13 rfl rfl rfl) (Eq.trans (pv_Rstp dX1_alikeTo_15 rfl rfl rfl) (Eq.trans (pv_Ric dX1_alikeTo_16 ki_1) (Eq.trans (pv_Rstp dX1_alikeTo_17 rfl rfl rfl) (pv_Rbr (tgt := 40) dX1_alikeTo_18 rfl rfl rfl rfl rfl (by decide))))))
set_option maxHeartbeats 200000 in
theorem bX1_alikeTo_21 {S : pv_S} {x1 x2 x3 x4 : Int32} : pv_R mX1_alikeTo 21 [some (.ref 32), some (.int x1), some (.int x2), some (.int x3), some (.int x4)] [] (pv_em S) = if x4 < 0 ∨ 6 ≤ x4.toNatClampNeg then none else if x1 < 0 ∨ 6 ≤ x1.toNatClampNeg then none else if ¬ (S.1 34 x4.toNatClampNeg) = (S.1 34 x1.toNatClampNeg) then pv_R mX1_alikeTo 40 [some (.ref 32), some (.int x1), some (.int x2), some (.int x3), some (.int x4)] [] (pv_em S) else pv_R mX1_alikeTo 37 [some (.ref 32), some (.int x1), some (.int x2), some (.int x3), some (.int x4)] [] (pv_em S) := Eq.trans (pv_Rstp dX1_alikeTo_21 rfl rfl rfl) (Eq.trans (pv_Rget dX1_alikeTo_22 ffX1_15 (by decide) (pv_ce_32 _ _) rfl) (Eq.trans (pv_Rstp dX1_alikeTo_25 rfl rfl rfl) (Eq.trans (pv_Rald dX1_alikeTo_27 (by decide) (pv_ce_34 _ _)) (pv_iteN (fun h1 => Eq.trans (pv_Rstp dX1_alikeTo_28 rfl rfl rfl) (Eq.trans (pv_Rget dX1_alikeTo_29 ffX1_15 (by decide) (pv_ce_32 _ _) rfl) (Eq.trans (pv_Rstp dX1_alikeTo_32 rfl rfl rfl) (Eq.trans (pv_Rald dX1_alikeTo_33 (by decide) (pv_ce_34 _ _)) (pv_iteN (fun h2 => pv_Rbr (tgt := 40) dX1_alikeTo_34 rfl rfl rfl rfl rfl (by decide)))))))))))
set_option maxHeartbeats 200000 in
theorem bX1_alikeTo_37 {S : pv_S} {x1 x2 x3 x4 : Int32} : pv_R mX1_alikeTo 37 [some (.ref 32), some (.int x1), some (.int x2), some (.int x3), some (.int x4)] [] (pv_em S) = pv_R mX1_alikeTo 40 [some (.ref 32), some (.int x1), some (.int x2), some (.int (x3 + 1)), some (.int x4)] [] (pv_em S) := pv_Rinc dX1_alikeTo_37 rfl (Nat.le_of_ble_eq_true rfl) ki_1 rfl
set_option maxHeartbeats 200000 in
theorem bX1_alikeTo_40 {S : pv_S} {x1 x2 x3 x4 : Int32} : pv_R mX1_alikeTo 40 [some (.ref 32), some (.int x1), some (.int x2), some (.int x3), some (.int x4)] [] (pv_em S) = pv_R mX1_alikeTo 5 [some (.ref 32), some (.int x1), some (.int x2), some (.int x3), some (.int (x4 + 1))] [] (pv_em S) := Eq.trans (pv_Rinc dX1_alikeTo_40 rfl (Nat.le_of_ble_eq_true rfl) ki_1 rfl) (pv_Rgo (tgt := 5) dX1_alikeTo_43 rfl (by decide))
set_option maxHeartbeats 200000 in
theorem bX1_alikeTo_46 {S : pv_S} {x1 x2 x3 x4 : Int32} : pv_R mX1_alikeTo 46 [some (.ref 32), some (.int x1), some (.int x2), some (.int x3), some (.int x4)] [] (pv_em S) = some (some (.int x3), pv_em S) := Eq.trans (pv_Rstp dX1_alikeTo_46 rfl rfl rfl) (pv_Rret dX1_alikeTo_47 rfl)
