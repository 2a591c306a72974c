/-! ===== blocks: kind ===== -/
theorem dX0_hasMice_0 : decode cX0_hasMice 0 = .ok (.iload_n 0, 1) := by decide +kernel
theorem dX0_hasMice_1 : decode cX0_hasMice 1 = .ok (.iconst 2, 1) := by decide +kernel
theorem dX0_hasMice_2 : decode cX0_hasMice 2 = .ok (.irem, 1) := by decide +kernel
theorem dX0_hasMice_3 : decode cX0_hasMice 3 = .ok (.ifCond .eq 7, 3) := by decide +kernel
theorem dX0_hasMice_6 : decode cX0_hasMice 6 = .ok (.iconst 1, 1) := by decide +kernel
theorem dX0_hasMice_7 : decode cX0_hasMice 7 = .ok (.goto 4, 3) := by decide +kernel
theorem dX0_hasMice_10 : decode cX0_hasMice 10 = .ok (.iconst 0, 1) := by decide +kernel
theorem dX0_hasMice_11 : decode cX0_hasMice 11 = .ok (.ireturn, 1) := by decide +kernel
set_option maxHeartbeats 200000 in
theorem bX0_hasMice_0 {S : pv_S} {x0 : Int32} : pv_R mX0_hasMice 0 [some (.int x0)] [] (pv_em S) = if (x0 - x0 / 2 * 2) = 0 then pv_R mX0_hasMice 10 [some (.int x0)] [] (pv_em S) else pv_R mX0_hasMice 6 [some (.int x0)] [] (pv_em S) := Eq.trans (pv_Rstp dX0_hasMice_0 rfl rfl rfl) (Eq.trans (pv_Ric dX0_hasMice_1 ki_2) (Eq.trans (pv_Rrem dX0_hasMice_2) (Eq.trans (if_neg (by decide)) (pv_Rbr (tgt := 10) dX0_hasMice_3 rfl rfl rfl rfl rfl (by decide)))))
set_option maxHeartbeats 200000 in
theorem bX0_hasMice_6 {S : pv_S} {x0 : Int32} : pv_R mX0_hasMice 6 [some (.int x0)] [] (pv_em S) = pv_R mX0_hasMice 11 [some (.int x0)] [.int 1] (pv_em S) := Eq.trans (pv_Ric dX0_hasMice_6 ki_1) (pv_Rgo (tgt := 11) dX0_hasMice_7 rfl (by decide))
set_option maxHeartbeats 200000 in
theorem bX0_hasMice_10 {S : pv_S} {x0 : Int32} : pv_R mX0_hasMice 10 [some (.int x0)] [] (pv_em S) = pv_R mX0_hasMice 11 [some (.int x0)] [.int 0] (pv_em S) := pv_Ric dX0_hasMice_10 ki_0
set_option maxHeartbeats 200000 in
theorem bX0_hasMice_11 {S : pv_S} {x0 u0 : Int32} : pv_R mX0_hasMice 11 [some (.int x0)] [.int u0] (pv_em S) = if vp_nar .boolean u0 = u0 then some (some (.int u0), pv_em S) else none := pv_Rzret dX0_hasMice_11 rfl
theorem dX0_hoursToMoult_0 : decode cX0_hoursToMoult 0 = .ok (.iconst 4, 1) := by decide +kernel
theorem dX0_hoursToMoult_1 : decode cX0_hoursToMoult 1 = .ok (.iload_n 0, 1) := by decide +kernel
theorem dX0_hoursToMoult_2 : decode cX0_hoursToMoult 2 = .ok (.iconst 4, 1) := by decide +kernel
theorem dX0_hoursToMoult_3 : decode cX0_hoursToMoult 3 = .ok (.irem, 1) := by decide +kernel
theorem dX0_hoursToMoult_4 : decode cX0_hoursToMoult 4 = .ok (.isub, 1) := by decide +kernel
theorem dX0_hoursToMoult_5 : decode cX0_hoursToMoult 5 = .ok (.iconst 4, 1) := by decide +kernel
theorem dX0_hoursToMoult_6 : decode cX0_hoursToMoult 6 = .ok (.irem, 1) := by decide +kernel
theorem dX0_hoursToMoult_7 : decode cX0_hoursToMoult 7 = .ok (.ireturn, 1) := by decide +kernel
set_option maxHeartbeats 200000 in
theorem bX0_hoursToMoult_0 {S : pv_S} {x0 : Int32} : pv_R mX0_hoursToMoult 0 [some (.int x0)] [] (pv_em S) = some (some (.int ((4 - (x0 - x0 / 4 * 4)) - (4 - (x0 - x0 / 4 * 4)) / 4 * 4)), pv_em S) := Eq.trans (pv_Ric dX0_hoursToMoult_0 ki_4) (Eq.trans (pv_Rstp dX0_hoursToMoult_1 rfl rfl rfl) (Eq.trans (pv_Ric dX0_hoursToMoult_2 ki_4) (Eq.trans (pv_Rrem dX0_hoursToMoult_3) (Eq.trans (if_neg (by decide)) (Eq.trans (pv_Rstp dX0_hoursToMoult_4 rfl rfl rfl) (Eq.trans (pv_Ric dX0_hoursToMoult_5 ki_4) (Eq.trans (pv_Rrem dX0_hoursToMoult_6) (Eq.trans (if_neg (by decide)) (pv_Rret dX0_hoursToMoult_7 rfl)))))))))
theorem dX0_isOf_0 : decode cX0_isOf 0 = .ok (.iload_n 0, 1) := by decide +kernel
theorem dX0_isOf_1 : decode cX0_isOf 1 = .ok (.iload_n 1, 1) := by decide +kernel
theorem dX0_isOf_2 : decode cX0_isOf 2 = .ok (.if_icmp .eq 27, 3) := by decide +kernel
theorem dX0_isOf_5 : decode cX0_isOf 5 = .ok (.iload_n 1, 1) := by decide +kernel
theorem dX0_isOf_6 : decode cX0_isOf 6 = .ok (.ifCond .eq 23, 3) := by decide +kernel
theorem dX0_isOf_9 : decode cX0_isOf 9 = .ok (.iload_n 0, 1) := by decide +kernel
theorem dX0_isOf_10 : decode cX0_isOf 10 = .ok (.iconst 4, 1) := by decide +kernel
theorem dX0_isOf_11 : decode cX0_isOf 11 = .ok (.if_icmp .ne 8, 3) := by decide +kernel
theorem dX0_isOf_14 : decode cX0_isOf 14 = .ok (.iload_n 1, 1) := by decide +kernel
theorem dX0_isOf_15 : decode cX0_isOf 15 = .ok (.iconst 1, 1) := by decide +kernel
theorem dX0_isOf_16 : decode cX0_isOf 16 = .ok (.if_icmp .eq 13, 3) := by decide +kernel
theorem dX0_isOf_19 : decode cX0_isOf 19 = .ok (.iload_n 0, 1) := by decide +kernel
theorem dX0_isOf_20 : decode cX0_isOf 20 = .ok (.iconst 5, 1) := by decide +kernel
theorem dX0_isOf_21 : decode cX0_isOf 21 = .ok (.if_icmp .ne 12, 3) := by decide +kernel
theorem dX0_isOf_24 : decode cX0_isOf 24 = .ok (.iload_n 1, 1) := by decide +kernel
theorem dX0_isOf_25 : decode cX0_isOf 25 = .ok (.iconst 3, 1) := by decide +kernel
theorem dX0_isOf_26 : decode cX0_isOf 26 = .ok (.if_icmp .ne 7, 3) := by decide +kernel
theorem dX0_isOf_29 : decode cX0_isOf 29 = .ok (.iconst 1, 1) := by decide +kernel
theorem dX0_isOf_30 : decode cX0_isOf 30 = .ok (.goto 4, 3) := by decide +kernel
theorem dX0_isOf_33 : decode cX0_isOf 33 = .ok (.iconst 0, 1) := by decide +kernel
theorem dX0_isOf_34 : decode cX0_isOf 34 = .ok (.ireturn, 1) := by decide +kernel
set_option maxHeartbeats 200000 in
theorem bX0_isOf_0 {S : pv_S} {x0 x1 : Int32} : pv_R mX0_isOf 0 [some (.int x0), some (.int x1)] [] (pv_em S) = if x0 = x1 then pv_R mX0_isOf 29 [some (.int x0), some (.int x1)] [] (pv_em S) else pv_R mX0_isOf 5 [some (.int x0), some (.int x1)] [] (pv_em S) := Eq.trans (pv_Rstp dX0_isOf_0 rfl rfl rfl) (Eq.trans (pv_Rstp dX0_isOf_1 rfl rfl rfl) (pv_Rbr (tgt := 29) dX0_isOf_2 rfl rfl rfl rfl rfl (by decide)))
set_option maxHeartbeats 200000 in
theorem bX0_isOf_5 {S : pv_S} {x0 x1 : Int32} : pv_R mX0_isOf 5 [some (.int x0), some (.int x1)] [] (pv_em S) = if x1 = 0 then pv_R mX0_isOf 29 [some (.int x0), some (.int x1)] [] (pv_em S) else pv_R mX0_isOf 9 [some (.int x0), some (.int x1)] [] (pv_em S) := Eq.trans (pv_Rstp dX0_isOf_5 rfl rfl rfl) (pv_Rbr (tgt := 29) dX0_isOf_6 rfl rfl rfl rfl rfl (by decide))
set_option maxHeartbeats 200000 in
theorem bX0_isOf_9 {S : pv_S} {x0 x1 : Int32} : pv_R mX0_isOf 9 [some (.int x0), some (.int x1)] [] (pv_em S) = if ¬ x0 = 4 then pv_R mX0_isOf 19 [some (.int x0), some (.int x1)] [] (pv_em S) else pv_R mX0_isOf 14 [some (.int x0), some (.int x1)] [] (pv_em S) := Eq.trans (pv_Rstp dX0_isOf_9 rfl rfl rfl) (Eq.trans (pv_Ric dX0_isOf_10 ki_4) (pv_Rbr (tgt := 19) dX0_isOf_11 rfl rfl rfl rfl rfl (by decide)))
set_option maxHeartbeats 200000 in
theorem bX0_isOf_14 {S : pv_S} {x0 x1 : Int32} : pv_R mX0_isOf 14 [some (.int x0), some (.int x1)] [] (pv_em S) = if x1 = 1 then pv_R mX0_isOf 29 [some (.int x0), some (.int x1)] [] (pv_em S) else pv_R mX0_isOf 19 [some (.int x0), some (.int x1)] [] (pv_em S) := Eq.trans (pv_Rstp dX0_isOf_14 rfl rfl rfl) (Eq.trans (pv_Ric dX0_isOf_15 ki_1) (pv_Rbr (tgt := 29) dX0_isOf_16 rfl rfl rfl rfl rfl (by decide)))
set_option maxHeartbeats 200000 in
theorem bX0_isOf_19 {S : pv_S} {x0 x1 : Int32} : pv_R mX0_isOf 19 [some (.int x0), some (.int x1)] [] (pv_em S) = if ¬ x0 = 5 then pv_R mX0_isOf 33 [some (.int x0), some (.int x1)] [] (pv_em S) else pv_R mX0_isOf 24 [some (.int x0), some (.int x1)] [] (pv_em S) := Eq.trans (pv_Rstp dX0_isOf_19 rfl rfl rfl) (Eq.trans (pv_Ric dX0_isOf_20 ki_5) (pv_Rbr (tgt := 33) dX0_isOf_21 rfl rfl rfl rfl rfl (by decide)))
set_option maxHeartbeats 200000 in
theorem bX0_isOf_24 {S : pv_S} {x0 x1 : Int32} : pv_R mX0_isOf 24 [some (.int x0), some (.int x1)] [] (pv_em S) = if ¬ x1 = 3 then pv_R mX0_isOf 33 [some (.int x0), some (.int x1)] [] (pv_em S) else pv_R mX0_isOf 29 [some (.int x0), some (.int x1)] [] (pv_em S) := Eq.trans (pv_Rstp dX0_isOf_24 rfl rfl rfl) (Eq.trans (pv_Ric dX0_isOf_25 ki_3) (pv_Rbr (tgt := 33) dX0_isOf_26 rfl rfl rfl rfl rfl (by decide)))
set_option maxHeartbeats 200000 in
theorem bX0_isOf_29 {S : pv_S} {x0 x1 : Int32} : pv_R mX0_isOf 29 [some (.int x0), some (.int x1)] [] (pv_em S) = pv_R mX0_isOf 34 [some (.int x0), some (.int x1)] [.int 1] (pv_em S) := Eq.trans (pv_Ric dX0_isOf_29 ki_1) (pv_Rgo (tgt := 34) dX0_isOf_30 rfl (by decide))
set_option maxHeartbeats 200000 in
theorem bX0_isOf_33 {S : pv_S} {x0 x1 : Int32} : pv_R mX0_isOf 33 [some (.int x0), some (.int x1)] [] (pv_em S) = pv_R mX0_isOf 34 [some (.int x0), some (.int x1)] [.int 0] (pv_em S) := pv_Ric dX0_isOf_33 ki_0
set_option maxHeartbeats 200000 in
theorem bX0_isOf_34 {S : pv_S} {x0 x1 u0 : Int32} : pv_R mX0_isOf 34 [some (.int x0), some (.int x1)] [.int u0] (pv_em S) = if vp_nar .boolean u0 = u0 then some (some (.int u0), pv_em S) else none := pv_Rzret dX0_isOf_34 rfl
theorem dX0_mealAdds_0 : decode cX0_mealAdds 0 = .ok (.iload_n 0, 1) := by decide +kernel
theorem dX0_mealAdds_1 : decode cX0_mealAdds 1 = .ok (.tableswitch 37 3 5 #[27, 31, 35], 27) := by decide +kernel
theorem dX0_mealAdds_28 : decode cX0_mealAdds 28 = .ok (.iload_n 1, 1) := by decide +kernel
theorem dX0_mealAdds_29 : decode cX0_mealAdds 29 = .ok (.iconst 2, 1) := by decide +kernel
theorem dX0_mealAdds_30 : decode cX0_mealAdds 30 = .ok (.idiv, 1) := by decide +kernel
theorem dX0_mealAdds_31 : decode cX0_mealAdds 31 = .ok (.ireturn, 1) := by decide +kernel
theorem dX0_mealAdds_32 : decode cX0_mealAdds 32 = .ok (.iconst 2, 1) := by decide +kernel
theorem dX0_mealAdds_33 : decode cX0_mealAdds 33 = .ok (.iload_n 1, 1) := by decide +kernel
theorem dX0_mealAdds_34 : decode cX0_mealAdds 34 = .ok (.imul, 1) := by decide +kernel
theorem dX0_mealAdds_35 : decode cX0_mealAdds 35 = .ok (.ireturn, 1) := by decide +kernel
theorem dX0_mealAdds_36 : decode cX0_mealAdds 36 = .ok (.iconst 0, 1) := by decide +kernel
theorem dX0_mealAdds_37 : decode cX0_mealAdds 37 = .ok (.ireturn, 1) := by decide +kernel
theorem dX0_mealAdds_38 : decode cX0_mealAdds 38 = .ok (.iload_n 1, 1) := by decide +kernel
theorem dX0_mealAdds_39 : decode cX0_mealAdds 39 = .ok (.ireturn, 1) := by decide +kernel
set_option maxHeartbeats 200000 in
theorem bX0_mealAdds_0 {S : pv_S} {x0 x1 : Int32} : pv_R mX0_mealAdds 0 [some (.int x0), some (.int x1)] [] (pv_em S) = pv_R mX0_mealAdds (pv_swt (Int32.toInt x0) 3 [28, 32, 36] 38) [some (.int x0), some (.int x1)] [] (pv_em S) := Eq.trans (pv_Rstp dX0_mealAdds_0 rfl rfl rfl) (pv_Rtab (lo := 3) (tg := [28, 32, 36]) (dt := 38) dX0_mealAdds_1 (by decide))
set_option maxHeartbeats 200000 in
theorem bX0_mealAdds_28 {S : pv_S} {x0 x1 : Int32} : pv_R mX0_mealAdds 28 [some (.int x0), some (.int x1)] [] (pv_em S) = some (some (.int (x1 / 2)), pv_em S) := Eq.trans (pv_Rstp dX0_mealAdds_28 rfl rfl rfl) (Eq.trans (pv_Ric dX0_mealAdds_29 ki_2) (Eq.trans (pv_Rdiv dX0_mealAdds_30) (Eq.trans (if_neg (by decide)) (pv_Rret dX0_mealAdds_31 rfl))))
set_option maxHeartbeats 200000 in
theorem bX0_mealAdds_32 {S : pv_S} {x0 x1 : Int32} : pv_R mX0_mealAdds 32 [some (.int x0), some (.int x1)] [] (pv_em S) = some (some (.int (2 * x1)), pv_em S) := Eq.trans (pv_Ric dX0_mealAdds_32 ki_2) (Eq.trans (pv_Rstp dX0_mealAdds_33 rfl rfl rfl) (Eq.trans (pv_Rstp dX0_mealAdds_34 rfl rfl rfl) (pv_Rret dX0_mealAdds_35 rfl)))
set_option maxHeartbeats 200000 in
theorem bX0_mealAdds_36 {S : pv_S} {x0 x1 : Int32} : pv_R mX0_mealAdds 36 [some (.int x0), some (.int x1)] [] (pv_em S) = some (some (.int 0), pv_em S) := Eq.trans (pv_Ric dX0_mealAdds_36 ki_0) (pv_Rret dX0_mealAdds_37 rfl)
set_option maxHeartbeats 200000 in
theorem bX0_mealAdds_38 {S : pv_S} {x0 x1 : Int32} : pv_R mX0_mealAdds 38 [some (.int x0), some (.int x1)] [] (pv_em S) = some (some (.int x1), pv_em S) := Eq.trans (pv_Rstp dX0_mealAdds_38 rfl rfl rfl) (pv_Rret dX0_mealAdds_39 rfl)
theorem dX0_held_0 : decode cX0_held 0 = .ok (.iconst 1, 1) := by decide +kernel
theorem dX0_held_1 : decode cX0_held 1 = .ok (.sipush 200, 3) := by decide +kernel
theorem dX0_held_4 : decode cX0_held 4 = .ok (.iload_n 0, 1) := by decide +kernel
theorem dX0_held_5 : decode cX0_held 5 = .ok (.invokestatic 19, 3) := by decide +kernel
theorem dX0_held_8 : decode cX0_held 8 = .ok (.invokestatic 25, 3) := by decide +kernel
theorem dX0_held_11 : decode cX0_held 11 = .ok (.ireturn, 1) := by decide +kernel
set_option maxHeartbeats 200000 in
theorem bX0_held_0 {S : pv_S} {x0 : Int32} : pv_R mX0_held 0 [some (.int x0)] [] (pv_em S) = some (some (.int (if 1 < (if x0 < 200 then x0 else 200) then (if x0 < 200 then x0 else 200) else 1)), pv_em S) := Eq.trans (pv_Ric dX0_held_0 ki_1) (Eq.trans (pv_Rsp dX0_held_1 ks_200) (Eq.trans (pv_Rstp dX0_held_4 rfl rfl rfl) (Eq.trans (pv_Rmx dX0_held_5 mfX0_19 rfl rfl) (Eq.trans (pv_Rmx dX0_held_8 mfX0_25 rfl rfl) (pv_Rret dX0_held_11 rfl)))))
theorem dX0_afterHour_0 : decode cX0_afterHour 0 = .ok (.iload_n 1, 1) := by decide +kernel
theorem dX0_afterHour_1 : decode cX0_afterHour 1 = .ok (.iload_n 0, 1) := by decide +kernel
theorem dX0_afterHour_2 : decode cX0_afterHour 2 = .ok (.iload_n 2, 1) := by decide +kernel
theorem dX0_afterHour_3 : decode cX0_afterHour 3 = .ok (.invokestatic 28, 3) := by decide +kernel
theorem dX0_afterHour_6 : decode cX0_afterHour 6 = .ok (.iadd, 1) := by decide +kernel
theorem dX0_afterHour_7 : decode cX0_afterHour 7 = .ok (.invokestatic 31, 3) := by decide +kernel
theorem dX0_afterHour_10 : decode cX0_afterHour 10 = .ok (.ireturn, 1) := by decide +kernel
set_option maxHeartbeats 200000 in
theorem bX0_afterHour_0 {S : pv_S} {x0 x1 x2 : Int32} : pv_R mX0_afterHour 0 [some (.int x0), some (.int x1), some (.int x2)] [] (pv_em S) = pv_cc (pv_R mX0_hourAdds 0 [some (.int x0), some (.int x2)] [] (pv_em S)) mX0_afterHour 6 [some (.int x0), some (.int x1), some (.int x2)] [.int x1] := Eq.trans (pv_Rstp dX0_afterHour_0 rfl rfl rfl) (Eq.trans (pv_Rstp dX0_afterHour_1 rfl rfl rfl) (Eq.trans (pv_Rstp dX0_afterHour_2 rfl rfl rfl) (pv_Rcall (As := [.int x0, .int x2]) (rest := [.int x1]) dX0_afterHour_3 rfl mfX0_28 rfl rfl rfl rfl rfl)))
set_option maxHeartbeats 200000 in
theorem bX0_afterHour_6 {S : pv_S} {x0 x1 x2 u0 u1 : Int32} : pv_R mX0_afterHour 6 [some (.int x0), some (.int x1), some (.int x2)] [.int u0, .int u1] (pv_em S) = pv_cc (pv_R mX0_held 0 [some (.int (u1 + u0))] [] (pv_em S)) mX0_afterHour 10 [some (.int x0), some (.int x1), some (.int x2)] [] := Eq.trans (pv_Rstp dX0_afterHour_6 rfl rfl rfl) (pv_Rcall (As := [.int (u1 + u0)]) (rest := []) dX0_afterHour_7 rfl mfX0_31 rfl rfl rfl rfl rfl)
set_option maxHeartbeats 200000 in
theorem bX0_afterHour_10 {S : pv_S} {x0 x1 x2 u0 : Int32} : pv_R mX0_afterHour 10 [some (.int x0), some (.int x1), some (.int x2)] [.int u0] (pv_em S) = some (some (.int u0), pv_em S) := pv_Rret dX0_afterHour_10 rfl
theorem dX0_hourAdds_0 : decode cX0_hourAdds 0 = .ok (.iload_n 0, 1) := by decide +kernel
theorem dX0_hourAdds_1 : decode cX0_hourAdds 1 = .ok (.tableswitch 66 1 5 #[35, 48, 62, 35, 64], 35) := by decide +kernel
theorem dX0_hourAdds_36 : decode cX0_hourAdds 36 = .ok (.iload_n 1, 1) := by decide +kernel
theorem dX0_hourAdds_37 : decode cX0_hourAdds 37 = .ok (.invokestatic 9, 3) := by decide +kernel
theorem dX0_hourAdds_40 : decode cX0_hourAdds 40 = .ok (.ifCond .eq 7, 3) := by decide +kernel
theorem dX0_hourAdds_43 : decode cX0_hourAdds 43 = .ok (.iconst 2, 1) := by decide +kernel
theorem dX0_hourAdds_44 : decode cX0_hourAdds 44 = .ok (.goto 4, 3) := by decide +kernel
theorem dX0_hourAdds_47 : decode cX0_hourAdds 47 = .ok (.iconst (-1), 1) := by decide +kernel
theorem dX0_hourAdds_48 : decode cX0_hourAdds 48 = .ok (.ireturn, 1) := by decide +kernel
theorem dX0_hourAdds_49 : decode cX0_hourAdds 49 = .ok (.iload_n 1, 1) := by decide +kernel
theorem dX0_hourAdds_50 : decode cX0_hourAdds 50 = .ok (.invokestatic 15, 3) := by decide +kernel
theorem dX0_hourAdds_53 : decode cX0_hourAdds 53 = .ok (.ifCond .ne 8, 3) := by decide +kernel
theorem dX0_hourAdds_56 : decode cX0_hourAdds 56 = .ok (.bipush (-2), 2) := by decide +kernel
theorem dX0_hourAdds_58 : decode cX0_hourAdds 58 = .ok (.goto 4, 3) := by decide +kernel
theorem dX0_hourAdds_61 : decode cX0_hourAdds 61 = .ok (.iconst (-1), 1) := by decide +kernel
theorem dX0_hourAdds_62 : decode cX0_hourAdds 62 = .ok (.ireturn, 1) := by decide +kernel
theorem dX0_hourAdds_63 : decode cX0_hourAdds 63 = .ok (.iconst 2, 1) := by decide +kernel
theorem dX0_hourAdds_64 : decode cX0_hourAdds 64 = .ok (.ireturn, 1) := by decide +kernel
theorem dX0_hourAdds_65 : decode cX0_hourAdds 65 = .ok (.iconst 0, 1) := by decide +kernel
theorem dX0_hourAdds_66 : decode cX0_hourAdds 66 = .ok (.ireturn, 1) := by decide +kernel
theorem dX0_hourAdds_67 : decode cX0_hourAdds 67 = .ok (.iconst (-1), 1) := by decide +kernel
theorem dX0_hourAdds_68 : decode cX0_hourAdds 68 = .ok (.ireturn, 1) := by decide +kernel
set_option maxHeartbeats 200000 in
theorem bX0_hourAdds_0 {S : pv_S} {x0 x1 : Int32} : pv_R mX0_hourAdds 0 [some (.int x0), some (.int x1)] [] (pv_em S) = pv_R mX0_hourAdds (pv_swt (Int32.toInt x0) 1 [36, 49, 63, 36, 65] 67) [some (.int x0), some (.int x1)] [] (pv_em S) := Eq.trans (pv_Rstp dX0_hourAdds_0 rfl rfl rfl) (pv_Rtab (lo := 1) (tg := [36, 49, 63, 36, 65]) (dt := 67) dX0_hourAdds_1 (by decide))
set_option maxHeartbeats 200000 in
theorem bX0_hourAdds_36 {S : pv_S} {x0 x1 : Int32} : pv_R mX0_hourAdds 36 [some (.int x0), some (.int x1)] [] (pv_em S) = pv_cc (pv_R mX0_hasMice 0 [some (.int x1)] [] (pv_em S)) mX0_hourAdds 40 [some (.int x0), some (.int x1)] [] := Eq.trans (pv_Rstp dX0_hourAdds_36 rfl rfl rfl) (pv_Rcall (As := [.int x1]) (rest := []) dX0_hourAdds_37 rfl mfX0_9 rfl rfl rfl rfl rfl)
set_option maxHeartbeats 200000 in
theorem bX0_hourAdds_40 {S : pv_S} {x0 x1 u0 : Int32} : pv_R mX0_hourAdds 40 [some (.int x0), some (.int x1)] [.int u0] (pv_em S) = if u0 = 0 then pv_R mX0_hourAdds 47 [some (.int x0), some (.int x1)] [] (pv_em S) else pv_R mX0_hourAdds 43 [some (.int x0), some (.int x1)] [] (pv_em S) := pv_Rbr (tgt := 47) dX0_hourAdds_40 rfl rfl rfl rfl rfl (by decide)
set_option maxHeartbeats 200000 in
theorem bX0_hourAdds_43 {S : pv_S} {x0 x1 : Int32} : pv_R mX0_hourAdds 43 [some (.int x0), some (.int x1)] [] (pv_em S) = pv_R mX0_hourAdds 48 [some (.int x0), some (.int x1)] [.int 2] (pv_em S) := Eq.trans (pv_Ric dX0_hourAdds_43 ki_2) (pv_Rgo (tgt := 48) dX0_hourAdds_44 rfl (by decide))
set_option maxHeartbeats 200000 in
theorem bX0_hourAdds_47 {S : pv_S} {x0 x1 : Int32} : pv_R mX0_hourAdds 47 [some (.int x0), some (.int x1)] [] (pv_em S) = pv_R mX0_hourAdds 48 [some (.int x0), some (.int x1)] [.int (-1)] (pv_em S) := pv_Ric dX0_hourAdds_47 ki_m1
set_option maxHeartbeats 200000 in
theorem bX0_hourAdds_48 {S : pv_S} {x0 x1 u0 : Int32} : pv_R mX0_hourAdds 48 [some (.int x0), some (.int x1)] [.int u0] (pv_em S) = some (some (.int u0), pv_em S) := pv_Rret dX0_hourAdds_48 rfl
set_option maxHeartbeats 200000 in
theorem bX0_hourAdds_49 {S : pv_S} {x0 x1 : Int32} : pv_R mX0_hourAdds 49 [some (.int x0), some (.int x1)] [] (pv_em S) = pv_cc (pv_R mX0_hoursToMoult 0 [some (.int x1)] [] (pv_em S)) mX0_hourAdds 53 [some (.int x0), some (.int x1)] [] := Eq.trans (pv_Rstp dX0_hourAdds_49 rfl rfl rfl) (pv_Rcall (As := [.int x1]) (rest := []) dX0_hourAdds_50 rfl mfX0_15 rfl rfl rfl rfl rfl)
set_option maxHeartbeats 200000 in
theorem bX0_hourAdds_53 {S : pv_S} {x0 x1 u0 : Int32} : pv_R mX0_hourAdds 53 [some (.int x0), some (.int x1)] [.int u0] (pv_em S) = if ¬ u0 = 0 then pv_R mX0_hourAdds 61 [some (.int x0), some (.int x1)] [] (pv_em S) else pv_R mX0_hourAdds 56 [some (.int x0), some (.int x1)] [] (pv_em S) := pv_Rbr (tgt := 61) dX0_hourAdds_53 rfl rfl rfl rfl rfl (by decide)
set_option maxHeartbeats 200000 in
theorem bX0_hourAdds_56 {S : pv_S} {x0 x1 : Int32} : pv_R mX0_hourAdds 56 [some (.int x0), some (.int x1)] [] (pv_em S) = pv_R mX0_hourAdds 62 [some (.int x0), some (.int x1)] [.int (-2)] (pv_em S) := Eq.trans (pv_Rbp dX0_hourAdds_56 kb_m2) (pv_Rgo (tgt := 62) dX0_hourAdds_58 rfl (by decide))
set_option maxHeartbeats 200000 in
theorem bX0_hourAdds_61 {S : pv_S} {x0 x1 : Int32} : pv_R mX0_hourAdds 61 [some (.int x0), some (.int x1)] [] (pv_em S) = pv_R mX0_hourAdds 62 [some (.int x0), some (.int x1)] [.int (-1)] (pv_em S) := pv_Ric dX0_hourAdds_61 ki_m1
set_option maxHeartbeats 200000 in
theorem bX0_hourAdds_62 {S : pv_S} {x0 x1 u0 : Int32} : pv_R mX0_hourAdds 62 [some (.int x0), some (.int x1)] [.int u0] (pv_em S) = some (some (.int u0), pv_em S) := pv_Rret dX0_hourAdds_62 rfl
set_option maxHeartbeats 200000 in
theorem bX0_hourAdds_63 {S : pv_S} {x0 x1 : Int32} : pv_R mX0_hourAdds 63 [some (.int x0), some (.int x1)] [] (pv_em S) = some (some (.int 2), pv_em S) := Eq.trans (pv_Ric dX0_hourAdds_63 ki_2) (pv_Rret dX0_hourAdds_64 rfl)
set_option maxHeartbeats 200000 in
theorem bX0_hourAdds_65 {S : pv_S} {x0 x1 : Int32} : pv_R mX0_hourAdds 65 [some (.int x0), some (.int x1)] [] (pv_em S) = some (some (.int 0), pv_em S) := Eq.trans (pv_Ric dX0_hourAdds_65 ki_0) (pv_Rret dX0_hourAdds_66 rfl)
set_option maxHeartbeats 200000 in
theorem bX0_hourAdds_67 {S : pv_S} {x0 x1 : Int32} : pv_R mX0_hourAdds 67 [some (.int x0), some (.int x1)] [] (pv_em S) = some (some (.int (-1)), pv_em S) := Eq.trans (pv_Ric dX0_hourAdds_67 ki_m1) (pv_Rret dX0_hourAdds_68 rfl)
theorem dX0_byLetter_0 : decode cX0_byLetter 0 = .ok (.iload_n 0, 1) := by decide +kernel
theorem dX0_byLetter_1 : decode cX0_byLetter 1 = .ok (.tableswitch 95 99 115 #[83, 95, 95, 95, 95, 91, 95, 95, 89, 95, 85, 95, 87, 95, 95, 95, 93], 83) := by decide +kernel
theorem dX0_byLetter_84 : decode cX0_byLetter 84 = .ok (.iconst 0, 1) := by decide +kernel
theorem dX0_byLetter_85 : decode cX0_byLetter 85 = .ok (.ireturn, 1) := by decide +kernel
theorem dX0_byLetter_86 : decode cX0_byLetter 86 = .ok (.iconst 1, 1) := by decide +kernel
theorem dX0_byLetter_87 : decode cX0_byLetter 87 = .ok (.ireturn, 1) := by decide +kernel
theorem dX0_byLetter_88 : decode cX0_byLetter 88 = .ok (.iconst 2, 1) := by decide +kernel
theorem dX0_byLetter_89 : decode cX0_byLetter 89 = .ok (.ireturn, 1) := by decide +kernel
theorem dX0_byLetter_90 : decode cX0_byLetter 90 = .ok (.iconst 3, 1) := by decide +kernel
theorem dX0_byLetter_91 : decode cX0_byLetter 91 = .ok (.ireturn, 1) := by decide +kernel
theorem dX0_byLetter_92 : decode cX0_byLetter 92 = .ok (.iconst 4, 1) := by decide +kernel
theorem dX0_byLetter_93 : decode cX0_byLetter 93 = .ok (.ireturn, 1) := by decide +kernel
theorem dX0_byLetter_94 : decode cX0_byLetter 94 = .ok (.iconst 5, 1) := by decide +kernel
theorem dX0_byLetter_95 : decode cX0_byLetter 95 = .ok (.ireturn, 1) := by decide +kernel
theorem dX0_byLetter_96 : decode cX0_byLetter 96 = .ok (.iconst (-1), 1) := by decide +kernel
theorem dX0_byLetter_97 : decode cX0_byLetter 97 = .ok (.ireturn, 1) := by decide +kernel
set_option maxHeartbeats 200000 in
theorem bX0_byLetter_0 {S : pv_S} {x0 : Int32} : pv_R mX0_byLetter 0 [some (.int x0)] [] (pv_em S) = pv_R mX0_byLetter (pv_swt (Int32.toInt x0) 99 [84, 96, 96, 96, 96, 92, 96, 96, 90, 96, 86, 96, 88, 96, 96, 96, 94] 96) [some (.int x0)] [] (pv_em S) := Eq.trans (pv_Rstp dX0_byLetter_0 rfl rfl rfl) (pv_Rtab (lo := 99) (tg := [84, 96, 96, 96, 96, 92, 96, 96, 90, 96, 86, 96, 88, 96, 96, 96, 94]) (dt := 96) dX0_byLetter_1 (by decide))
set_option maxHeartbeats 200000 in
theorem bX0_byLetter_84 {S : pv_S} {x0 : Int32} : pv_R mX0_byLetter 84 [some (.int x0)] [] (pv_em S) = some (some (.int 0), pv_em S) := Eq.trans (pv_Ric dX0_byLetter_84 ki_0) (pv_Rret dX0_byLetter_85 rfl)
set_option maxHeartbeats 200000 in
theorem bX0_byLetter_86 {S : pv_S} {x0 : Int32} : pv_R mX0_byLetter 86 [some (.int x0)] [] (pv_em S) = some (some (.int 1), pv_em S) := Eq.trans (pv_Ric dX0_byLetter_86 ki_1) (pv_Rret dX0_byLetter_87 rfl)
set_option maxHeartbeats 200000 in
theorem bX0_byLetter_88 {S : pv_S} {x0 : Int32} : pv_R mX0_byLetter 88 [some (.int x0)] [] (pv_em S) = some (some (.int 2), pv_em S) := Eq.trans (pv_Ric dX0_byLetter_88 ki_2) (pv_Rret dX0_byLetter_89 rfl)
set_option maxHeartbeats 200000 in
theorem bX0_byLetter_90 {S : pv_S} {x0 : Int32} : pv_R mX0_byLetter 90 [some (.int x0)] [] (pv_em S) = some (some (.int 3), pv_em S) := Eq.trans (pv_Ric dX0_byLetter_90 ki_3) (pv_Rret dX0_byLetter_91 rfl)
set_option maxHeartbeats 200000 in
theorem bX0_byLetter_92 {S : pv_S} {x0 : Int32} : pv_R mX0_byLetter 92 [some (.int x0)] [] (pv_em S) = some (some (.int 4), pv_em S) := Eq.trans (pv_Ric dX0_byLetter_92 ki_4) (pv_Rret dX0_byLetter_93 rfl)
set_option maxHeartbeats 200000 in
theorem bX0_byLetter_94 {S : pv_S} {x0 : Int32} : pv_R mX0_byLetter 94 [some (.int x0)] [] (pv_em S) = some (some (.int 5), pv_em S) := Eq.trans (pv_Ric dX0_byLetter_94 ki_5) (pv_Rret dX0_byLetter_95 rfl)
set_option maxHeartbeats 200000 in
theorem bX0_byLetter_96 {S : pv_S} {x0 : Int32} : pv_R mX0_byLetter 96 [some (.int x0)] [] (pv_em S) = some (some (.int (-1)), pv_em S) := Eq.trans (pv_Ric dX0_byLetter_96 ki_m1) (pv_Rret dX0_byLetter_97 rfl)
