/-! ===== the law: links, decode rows ===== -/
def lw_LM_0 : List (Nat × Nat × Nat × Nat × Nat × Nat × Nat × Nat × Nat) := [(9, 9, 2, 63, 73, 74, 0, 61, 75), (9, 12, 2, 128, 771, 772, 0, 67, 773), (9, 13, 0, 64, 251, 252, 253, 61, 254), (9, 17, 0, 136, 864, 865, 866, 67, 867), (9, 18, 0, 65, 271, 272, 273, 61, 274), (9, 22, 0, 137, 879, 880, 881, 67, 882), (9, 23, 0, 66, 299, 300, 301, 61, 302), (9, 26, 0, 138, 887, 888, 889, 67, 890), (9, 27, 0, 67, 303, 304, 305, 61, 306), (9, 31, 0, 139, 891, 892, 893, 67, 894), (9, 32, 0, 68, 311, 312, 313, 61, 314), (9, 36, 0, 140, 895, 896, 897, 67, 898), (9, 37, 0, 69, 322, 323, 324, 61, 325), (9, 40, 0, 141, 899, 900, 901, 67, 902), (9, 41, 0, 70, 334, 335, 336, 61, 337)]
set_option maxRecDepth 100000 in
theorem lw_LM_ok_0 : ∀ e ∈ lw_LM_0, pv_mOk e = true := by decide +kernel
def lw_LM_1 : List (Nat × Nat × Nat × Nat × Nat × Nat × Nat × Nat × Nat) := [(9, 44, 0, 142, 903, 904, 905, 67, 906), (9, 45, 0, 71, 338, 339, 340, 61, 341), (9, 48, 0, 143, 911, 912, 913, 67, 914), (9, 49, 0, 72, 342, 343, 344, 61, 345), (9, 52, 0, 152, 915, 916, 917, 67, 918), (9, 53, 0, 73, 379, 380, 381, 61, 382), (9, 56, 0, 153, 951, 952, 953, 67, 954), (9, 57, 0, 74, 436, 437, 438, 61, 439), (9, 60, 0, 164, 955, 956, 957, 67, 958), (9, 61, 0, 75, 448, 449, 450, 61, 451), (9, 64, 0, 167, 985, 986, 987, 67, 988), (9, 65, 0, 76, 464, 465, 466, 61, 467), (9, 69, 0, 173, 996, 997, 998, 67, 999), (9, 70, 0, 77, 478, 479, 480, 61, 481), (9, 73, 0, 174, 1015, 1016, 1017, 67, 1018)]
set_option maxRecDepth 100000 in
theorem lw_LM_ok_1 : ∀ e ∈ lw_LM_1, pv_mOk e = true := by decide +kernel
def lw_LM_2 : List (Nat × Nat × Nat × Nat × Nat × Nat × Nat × Nat × Nat) := [(9, 74, 0, 78, 482, 483, 484, 61, 485), (9, 77, 0, 175, 1023, 1024, 1025, 67, 1026), (9, 78, 0, 79, 486, 487, 488, 61, 489), (9, 81, 0, 176, 1031, 1032, 1033, 67, 1034), (9, 82, 0, 80, 494, 495, 496, 61, 497), (9, 85, 0, 177, 1035, 1036, 1037, 67, 1038), (9, 86, 0, 81, 498, 499, 500, 61, 501), (9, 89, 0, 178, 1039, 1040, 1041, 67, 1042), (9, 90, 0, 82, 503, 504, 505, 61, 506), (9, 93, 0, 179, 1043, 1044, 1045, 67, 1046), (9, 94, 0, 83, 515, 516, 517, 61, 518), (9, 97, 0, 180, 1048, 1049, 1050, 67, 1051), (9, 98, 0, 84, 523, 524, 525, 61, 526), (9, 101, 0, 181, 1052, 1053, 1054, 67, 1055), (9, 102, 0, 85, 542, 543, 544, 61, 545)]
set_option maxRecDepth 100000 in
theorem lw_LM_ok_2 : ∀ e ∈ lw_LM_2, pv_mOk e = true := by decide +kernel
def lw_LM_3 : List (Nat × Nat × Nat × Nat × Nat × Nat × Nat × Nat × Nat) := [(9, 105, 0, 182, 1057, 1058, 1059, 67, 1060), (9, 106, 0, 86, 550, 551, 552, 61, 553), (9, 109, 0, 183, 1062, 1063, 1064, 67, 1065), (9, 110, 0, 87, 558, 559, 560, 61, 561), (9, 113, 0, 184, 1071, 1072, 1073, 67, 1074), (9, 114, 0, 88, 563, 564, 565, 61, 566), (9, 117, 0, 185, 1076, 1077, 1078, 67, 1079), (9, 118, 0, 89, 580, 581, 582, 61, 583), (9, 121, 0, 186, 1084, 1085, 1086, 67, 1087), (9, 122, 0, 90, 587, 588, 589, 61, 590), (9, 125, 0, 188, 1091, 1092, 1093, 67, 1094), (9, 126, 0, 91, 603, 604, 605, 61, 606), (9, 129, 0, 192, 1100, 1101, 1102, 67, 1103), (9, 130, 0, 92, 626, 627, 628, 61, 629), (9, 133, 0, 193, 1120, 1121, 1122, 67, 1123)]
set_option maxRecDepth 100000 in
theorem lw_LM_ok_3 : ∀ e ∈ lw_LM_3, pv_mOk e = true := by decide +kernel
def lw_LM_4 : List (Nat × Nat × Nat × Nat × Nat × Nat × Nat × Nat × Nat) := [(9, 134, 0, 93, 634, 635, 636, 61, 637), (9, 137, 0, 194, 1124, 1125, 1126, 67, 1127), (9, 138, 0, 94, 639, 640, 641, 61, 642), (9, 141, 0, 198, 1128, 1129, 1130, 67, 1131), (9, 142, 0, 95, 659, 660, 661, 61, 662), (9, 145, 0, 199, 1145, 1146, 1147, 67, 1148), (9, 146, 0, 96, 663, 664, 665, 61, 666), (9, 149, 0, 201, 1149, 1150, 1151, 67, 1152), (9, 150, 0, 97, 683, 684, 685, 61, 686), (9, 153, 0, 205, 1157, 1158, 1159, 67, 1160), (9, 154, 0, 98, 687, 688, 689, 61, 690), (9, 158, 0, 207, 1173, 1174, 1175, 67, 1176), (9, 159, 0, 99, 703, 704, 705, 61, 706), (9, 162, 0, 208, 1183, 1184, 1185, 67, 1186), (9, 163, 0, 100, 707, 708, 709, 61, 710)]
set_option maxRecDepth 100000 in
theorem lw_LM_ok_4 : ∀ e ∈ lw_LM_4, pv_mOk e = true := by decide +kernel
def lw_LM_5 : List (Nat × Nat × Nat × Nat × Nat × Nat × Nat × Nat × Nat) := [(9, 166, 0, 210, 1187, 1188, 1189, 67, 1190), (9, 167, 0, 101, 720, 721, 722, 61, 723), (9, 170, 0, 211, 1199, 1200, 1201, 67, 1202), (9, 171, 0, 102, 724, 725, 726, 61, 727), (9, 175, 0, 212, 1203, 1204, 1205, 67, 1206), (9, 176, 0, 103, 728, 729, 730, 61, 731), (9, 179, 0, 213, 1207, 1208, 1209, 67, 1210), (9, 180, 0, 104, 732, 733, 734, 61, 735), (9, 183, 0, 214, 1211, 1212, 1213, 67, 1214), (9, 184, 0, 105, 736, 737, 738, 61, 739), (9, 187, 0, 216, 1215, 1216, 1217, 67, 1218), (9, 188, 0, 106, 749, 750, 751, 61, 752), (9, 191, 0, 217, 1224, 1225, 1226, 67, 1227), (9, 192, 0, 107, 753, 754, 755, 61, 756), (9, 195, 0, 218, 1228, 1229, 1230, 67, 1231)]
set_option maxRecDepth 100000 in
theorem lw_LM_ok_5 : ∀ e ∈ lw_LM_5, pv_mOk e = true := by decide +kernel
def lw_LM_6 : List (Nat × Nat × Nat × Nat × Nat × Nat × Nat × Nat × Nat) := [(9, 196, 0, 108, 757, 758, 759, 61, 760), (9, 199, 0, 219, 1232, 1233, 1234, 67, 1235)]
set_option maxRecDepth 100000 in
theorem lw_LM_ok_6 : ∀ e ∈ lw_LM_6, pv_mOk e = true := by decide +kernel
theorem lw_e_9 : pv_mOk (9, 9, 2, 63, 73, 74, 0, 61, 75) = true := lw_LM_ok_0 _ (List.mem_of_getElem? (i := 0) rfl)
theorem lw_e_12 : pv_mOk (9, 12, 2, 128, 771, 772, 0, 67, 773) = true := lw_LM_ok_0 _ (List.mem_of_getElem? (i := 1) rfl)
theorem lw_e_13 : pv_mOk (9, 13, 0, 64, 251, 252, 253, 61, 254) = true := lw_LM_ok_0 _ (List.mem_of_getElem? (i := 2) rfl)
theorem lw_e_17 : pv_mOk (9, 17, 0, 136, 864, 865, 866, 67, 867) = true := lw_LM_ok_0 _ (List.mem_of_getElem? (i := 3) rfl)
theorem lw_e_18 : pv_mOk (9, 18, 0, 65, 271, 272, 273, 61, 274) = true := lw_LM_ok_0 _ (List.mem_of_getElem? (i := 4) rfl)
theorem lw_e_22 : pv_mOk (9, 22, 0, 137, 879, 880, 881, 67, 882) = true := lw_LM_ok_0 _ (List.mem_of_getElem? (i := 5) rfl)
theorem lw_e_23 : pv_mOk (9, 23, 0, 66, 299, 300, 301, 61, 302) = true := lw_LM_ok_0 _ (List.mem_of_getElem? (i := 6) rfl)
theorem lw_e_26 : pv_mOk (9, 26, 0, 138, 887, 888, 889, 67, 890) = true := lw_LM_ok_0 _ (List.mem_of_getElem? (i := 7) rfl)
theorem lw_e_27 : pv_mOk (9, 27, 0, 67, 303, 304, 305, 61, 306) = true := lw_LM_ok_0 _ (List.mem_of_getElem? (i := 8) rfl)
theorem lw_e_31 : pv_mOk (9, 31, 0, 139, 891, 892, 893, 67, 894) = true := lw_LM_ok_0 _ (List.mem_of_getElem? (i := 9) rfl)
theorem lw_e_32 : pv_mOk (9, 32, 0, 68, 311, 312, 313, 61, 314) = true := lw_LM_ok_0 _ (List.mem_of_getElem? (i := 10) rfl)
theorem lw_e_36 : pv_mOk (9, 36, 0, 140, 895, 896, 897, 67, 898) = true := lw_LM_ok_0 _ (List.mem_of_getElem? (i := 11) rfl)
theorem lw_e_37 : pv_mOk (9, 37, 0, 69, 322, 323, 324, 61, 325) = true := lw_LM_ok_0 _ (List.mem_of_getElem? (i := 12) rfl)
theorem lw_e_40 : pv_mOk (9, 40, 0, 141, 899, 900, 901, 67, 902) = true := lw_LM_ok_0 _ (List.mem_of_getElem? (i := 13) rfl)
theorem lw_e_41 : pv_mOk (9, 41, 0, 70, 334, 335, 336, 61, 337) = true := lw_LM_ok_0 _ (List.mem_of_getElem? (i := 14) rfl)
theorem lw_e_44 : pv_mOk (9, 44, 0, 142, 903, 904, 905, 67, 906) = true := lw_LM_ok_1 _ (List.mem_of_getElem? (i := 0) rfl)
theorem lw_e_45 : pv_mOk (9, 45, 0, 71, 338, 339, 340, 61, 341) = true := lw_LM_ok_1 _ (List.mem_of_getElem? (i := 1) rfl)
theorem lw_e_48 : pv_mOk (9, 48, 0, 143, 911, 912, 913, 67, 914) = true := lw_LM_ok_1 _ (List.mem_of_getElem? (i := 2) rfl)
theorem lw_e_49 : pv_mOk (9, 49, 0, 72, 342, 343, 344, 61, 345) = true := lw_LM_ok_1 _ (List.mem_of_getElem? (i := 3) rfl)
theorem lw_e_52 : pv_mOk (9, 52, 0, 152, 915, 916, 917, 67, 918) = true := lw_LM_ok_1 _ (List.mem_of_getElem? (i := 4) rfl)
theorem lw_e_53 : pv_mOk (9, 53, 0, 73, 379, 380, 381, 61, 382) = true := lw_LM_ok_1 _ (List.mem_of_getElem? (i := 5) rfl)
theorem lw_e_56 : pv_mOk (9, 56, 0, 153, 951, 952, 953, 67, 954) = true := lw_LM_ok_1 _ (List.mem_of_getElem? (i := 6) rfl)
theorem lw_e_57 : pv_mOk (9, 57, 0, 74, 436, 437, 438, 61, 439) = true := lw_LM_ok_1 _ (List.mem_of_getElem? (i := 7) rfl)
theorem lw_e_60 : pv_mOk (9, 60, 0, 164, 955, 956, 957, 67, 958) = true := lw_LM_ok_1 _ (List.mem_of_getElem? (i := 8) rfl)
theorem lw_e_61 : pv_mOk (9, 61, 0, 75, 448, 449, 450, 61, 451) = true := lw_LM_ok_1 _ (List.mem_of_getElem? (i := 9) rfl)
theorem lw_e_64 : pv_mOk (9, 64, 0, 167, 985, 986, 987, 67, 988) = true := lw_LM_ok_1 _ (List.mem_of_getElem? (i := 10) rfl)
theorem lw_e_65 : pv_mOk (9, 65, 0, 76, 464, 465, 466, 61, 467) = true := lw_LM_ok_1 _ (List.mem_of_getElem? (i := 11) rfl)
theorem lw_e_69 : pv_mOk (9, 69, 0, 173, 996, 997, 998, 67, 999) = true := lw_LM_ok_1 _ (List.mem_of_getElem? (i := 12) rfl)
theorem lw_e_70 : pv_mOk (9, 70, 0, 77, 478, 479, 480, 61, 481) = true := lw_LM_ok_1 _ (List.mem_of_getElem? (i := 13) rfl)
theorem lw_e_73 : pv_mOk (9, 73, 0, 174, 1015, 1016, 1017, 67, 1018) = true := lw_LM_ok_1 _ (List.mem_of_getElem? (i := 14) rfl)
theorem lw_e_74 : pv_mOk (9, 74, 0, 78, 482, 483, 484, 61, 485) = true := lw_LM_ok_2 _ (List.mem_of_getElem? (i := 0) rfl)
theorem lw_e_77 : pv_mOk (9, 77, 0, 175, 1023, 1024, 1025, 67, 1026) = true := lw_LM_ok_2 _ (List.mem_of_getElem? (i := 1) rfl)
theorem lw_e_78 : pv_mOk (9, 78, 0, 79, 486, 487, 488, 61, 489) = true := lw_LM_ok_2 _ (List.mem_of_getElem? (i := 2) rfl)
theorem lw_e_81 : pv_mOk (9, 81, 0, 176, 1031, 1032, 1033, 67, 1034) = true := lw_LM_ok_2 _ (List.mem_of_getElem? (i := 3) rfl)
theorem lw_e_82 : pv_mOk (9, 82, 0, 80, 494, 495, 496, 61, 497) = true := lw_LM_ok_2 _ (List.mem_of_getElem? (i := 4) rfl)
theorem lw_e_85 : pv_mOk (9, 85, 0, 177, 1035, 1036, 1037, 67, 1038) = true := lw_LM_ok_2 _ (List.mem_of_getElem? (i := 5) rfl)
theorem lw_e_86 : pv_mOk (9, 86, 0, 81, 498, 499, 500, 61, 501) = true := lw_LM_ok_2 _ (List.mem_of_getElem? (i := 6) rfl)
theorem lw_e_89 : pv_mOk (9, 89, 0, 178, 1039, 1040, 1041, 67, 1042) = true := lw_LM_ok_2 _ (List.mem_of_getElem? (i := 7) rfl)
theorem lw_e_90 : pv_mOk (9, 90, 0, 82, 503, 504, 505, 61, 506) = true := lw_LM_ok_2 _ (List.mem_of_getElem? (i := 8) rfl)
theorem lw_e_93 : pv_mOk (9, 93, 0, 179, 1043, 1044, 1045, 67, 1046) = true := lw_LM_ok_2 _ (List.mem_of_getElem? (i := 9) rfl)
theorem lw_e_94 : pv_mOk (9, 94, 0, 83, 515, 516, 517, 61, 518) = true := lw_LM_ok_2 _ (List.mem_of_getElem? (i := 10) rfl)
theorem lw_e_97 : pv_mOk (9, 97, 0, 180, 1048, 1049, 1050, 67, 1051) = true := lw_LM_ok_2 _ (List.mem_of_getElem? (i := 11) rfl)
theorem lw_e_98 : pv_mOk (9, 98, 0, 84, 523, 524, 525, 61, 526) = true := lw_LM_ok_2 _ (List.mem_of_getElem? (i := 12) rfl)
theorem lw_e_101 : pv_mOk (9, 101, 0, 181, 1052, 1053, 1054, 67, 1055) = true := lw_LM_ok_2 _ (List.mem_of_getElem? (i := 13) rfl)
theorem lw_e_102 : pv_mOk (9, 102, 0, 85, 542, 543, 544, 61, 545) = true := lw_LM_ok_2 _ (List.mem_of_getElem? (i := 14) rfl)
theorem lw_e_105 : pv_mOk (9, 105, 0, 182, 1057, 1058, 1059, 67, 1060) = true := lw_LM_ok_3 _ (List.mem_of_getElem? (i := 0) rfl)
theorem lw_e_106 : pv_mOk (9, 106, 0, 86, 550, 551, 552, 61, 553) = true := lw_LM_ok_3 _ (List.mem_of_getElem? (i := 1) rfl)
theorem lw_e_109 : pv_mOk (9, 109, 0, 183, 1062, 1063, 1064, 67, 1065) = true := lw_LM_ok_3 _ (List.mem_of_getElem? (i := 2) rfl)
theorem lw_e_110 : pv_mOk (9, 110, 0, 87, 558, 559, 560, 61, 561) = true := lw_LM_ok_3 _ (List.mem_of_getElem? (i := 3) rfl)
theorem lw_e_113 : pv_mOk (9, 113, 0, 184, 1071, 1072, 1073, 67, 1074) = true := lw_LM_ok_3 _ (List.mem_of_getElem? (i := 4) rfl)
theorem lw_e_114 : pv_mOk (9, 114, 0, 88, 563, 564, 565, 61, 566) = true := lw_LM_ok_3 _ (List.mem_of_getElem? (i := 5) rfl)
theorem lw_e_117 : pv_mOk (9, 117, 0, 185, 1076, 1077, 1078, 67, 1079) = true := lw_LM_ok_3 _ (List.mem_of_getElem? (i := 6) rfl)
theorem lw_e_118 : pv_mOk (9, 118, 0, 89, 580, 581, 582, 61, 583) = true := lw_LM_ok_3 _ (List.mem_of_getElem? (i := 7) rfl)
theorem lw_e_121 : pv_mOk (9, 121, 0, 186, 1084, 1085, 1086, 67, 1087) = true := lw_LM_ok_3 _ (List.mem_of_getElem? (i := 8) rfl)
theorem lw_e_122 : pv_mOk (9, 122, 0, 90, 587, 588, 589, 61, 590) = true := lw_LM_ok_3 _ (List.mem_of_getElem? (i := 9) rfl)
theorem lw_e_125 : pv_mOk (9, 125, 0, 188, 1091, 1092, 1093, 67, 1094) = true := lw_LM_ok_3 _ (List.mem_of_getElem? (i := 10) rfl)
theorem lw_e_126 : pv_mOk (9, 126, 0, 91, 603, 604, 605, 61, 606) = true := lw_LM_ok_3 _ (List.mem_of_getElem? (i := 11) rfl)
theorem lw_e_129 : pv_mOk (9, 129, 0, 192, 1100, 1101, 1102, 67, 1103) = true := lw_LM_ok_3 _ (List.mem_of_getElem? (i := 12) rfl)
theorem lw_e_130 : pv_mOk (9, 130, 0, 92, 626, 627, 628, 61, 629) = true := lw_LM_ok_3 _ (List.mem_of_getElem? (i := 13) rfl)
theorem lw_e_133 : pv_mOk (9, 133, 0, 193, 1120, 1121, 1122, 67, 1123) = true := lw_LM_ok_3 _ (List.mem_of_getElem? (i := 14) rfl)
theorem lw_e_134 : pv_mOk (9, 134, 0, 93, 634, 635, 636, 61, 637) = true := lw_LM_ok_4 _ (List.mem_of_getElem? (i := 0) rfl)
theorem lw_e_137 : pv_mOk (9, 137, 0, 194, 1124, 1125, 1126, 67, 1127) = true := lw_LM_ok_4 _ (List.mem_of_getElem? (i := 1) rfl)
theorem lw_e_138 : pv_mOk (9, 138, 0, 94, 639, 640, 641, 61, 642) = true := lw_LM_ok_4 _ (List.mem_of_getElem? (i := 2) rfl)
theorem lw_e_141 : pv_mOk (9, 141, 0, 198, 1128, 1129, 1130, 67, 1131) = true := lw_LM_ok_4 _ (List.mem_of_getElem? (i := 3) rfl)
theorem lw_e_142 : pv_mOk (9, 142, 0, 95, 659, 660, 661, 61, 662) = true := lw_LM_ok_4 _ (List.mem_of_getElem? (i := 4) rfl)
theorem lw_e_145 : pv_mOk (9, 145, 0, 199, 1145, 1146, 1147, 67, 1148) = true := lw_LM_ok_4 _ (List.mem_of_getElem? (i := 5) rfl)
theorem lw_e_146 : pv_mOk (9, 146, 0, 96, 663, 664, 665, 61, 666) = true := lw_LM_ok_4 _ (List.mem_of_getElem? (i := 6) rfl)
theorem lw_e_149 : pv_mOk (9, 149, 0, 201, 1149, 1150, 1151, 67, 1152) = true := lw_LM_ok_4 _ (List.mem_of_getElem? (i := 7) rfl)
theorem lw_e_150 : pv_mOk (9, 150, 0, 97, 683, 684, 685, 61, 686) = true := lw_LM_ok_4 _ (List.mem_of_getElem? (i := 8) rfl)
theorem lw_e_153 : pv_mOk (9, 153, 0, 205, 1157, 1158, 1159, 67, 1160) = true := lw_LM_ok_4 _ (List.mem_of_getElem? (i := 9) rfl)
theorem lw_e_154 : pv_mOk (9, 154, 0, 98, 687, 688, 689, 61, 690) = true := lw_LM_ok_4 _ (List.mem_of_getElem? (i := 10) rfl)
theorem lw_e_158 : pv_mOk (9, 158, 0, 207, 1173, 1174, 1175, 67, 1176) = true := lw_LM_ok_4 _ (List.mem_of_getElem? (i := 11) rfl)
theorem lw_e_159 : pv_mOk (9, 159, 0, 99, 703, 704, 705, 61, 706) = true := lw_LM_ok_4 _ (List.mem_of_getElem? (i := 12) rfl)
theorem lw_e_162 : pv_mOk (9, 162, 0, 208, 1183, 1184, 1185, 67, 1186) = true := lw_LM_ok_4 _ (List.mem_of_getElem? (i := 13) rfl)
theorem lw_e_163 : pv_mOk (9, 163, 0, 100, 707, 708, 709, 61, 710) = true := lw_LM_ok_4 _ (List.mem_of_getElem? (i := 14) rfl)
theorem lw_e_166 : pv_mOk (9, 166, 0, 210, 1187, 1188, 1189, 67, 1190) = true := lw_LM_ok_5 _ (List.mem_of_getElem? (i := 0) rfl)
theorem lw_e_167 : pv_mOk (9, 167, 0, 101, 720, 721, 722, 61, 723) = true := lw_LM_ok_5 _ (List.mem_of_getElem? (i := 1) rfl)
theorem lw_e_170 : pv_mOk (9, 170, 0, 211, 1199, 1200, 1201, 67, 1202) = true := lw_LM_ok_5 _ (List.mem_of_getElem? (i := 2) rfl)
theorem lw_e_171 : pv_mOk (9, 171, 0, 102, 724, 725, 726, 61, 727) = true := lw_LM_ok_5 _ (List.mem_of_getElem? (i := 3) rfl)
theorem lw_e_175 : pv_mOk (9, 175, 0, 212, 1203, 1204, 1205, 67, 1206) = true := lw_LM_ok_5 _ (List.mem_of_getElem? (i := 4) rfl)
theorem lw_e_176 : pv_mOk (9, 176, 0, 103, 728, 729, 730, 61, 731) = true := lw_LM_ok_5 _ (List.mem_of_getElem? (i := 5) rfl)
theorem lw_e_179 : pv_mOk (9, 179, 0, 213, 1207, 1208, 1209, 67, 1210) = true := lw_LM_ok_5 _ (List.mem_of_getElem? (i := 6) rfl)
theorem lw_e_180 : pv_mOk (9, 180, 0, 104, 732, 733, 734, 61, 735) = true := lw_LM_ok_5 _ (List.mem_of_getElem? (i := 7) rfl)
theorem lw_e_183 : pv_mOk (9, 183, 0, 214, 1211, 1212, 1213, 67, 1214) = true := lw_LM_ok_5 _ (List.mem_of_getElem? (i := 8) rfl)
theorem lw_e_184 : pv_mOk (9, 184, 0, 105, 736, 737, 738, 61, 739) = true := lw_LM_ok_5 _ (List.mem_of_getElem? (i := 9) rfl)
theorem lw_e_187 : pv_mOk (9, 187, 0, 216, 1215, 1216, 1217, 67, 1218) = true := lw_LM_ok_5 _ (List.mem_of_getElem? (i := 10) rfl)
theorem lw_e_188 : pv_mOk (9, 188, 0, 106, 749, 750, 751, 61, 752) = true := lw_LM_ok_5 _ (List.mem_of_getElem? (i := 11) rfl)
theorem lw_e_191 : pv_mOk (9, 191, 0, 217, 1224, 1225, 1226, 67, 1227) = true := lw_LM_ok_5 _ (List.mem_of_getElem? (i := 12) rfl)
theorem lw_e_192 : pv_mOk (9, 192, 0, 107, 753, 754, 755, 61, 756) = true := lw_LM_ok_5 _ (List.mem_of_getElem? (i := 13) rfl)
theorem lw_e_195 : pv_mOk (9, 195, 0, 218, 1228, 1229, 1230, 67, 1231) = true := lw_LM_ok_5 _ (List.mem_of_getElem? (i := 14) rfl)
theorem lw_e_196 : pv_mOk (9, 196, 0, 108, 757, 758, 759, 61, 760) = true := lw_LM_ok_6 _ (List.mem_of_getElem? (i := 0) rfl)
theorem lw_e_199 : pv_mOk (9, 199, 0, 219, 1232, 1233, 1234, 67, 1235) = true := lw_LM_ok_6 _ (List.mem_of_getElem? (i := 1) rfl)
set_option maxRecDepth 100000 in
theorem lw_z_9 : pv_tab[63]? = some mX6_init := by rfl
set_option maxRecDepth 100000 in
theorem lw_z_12 : pv_tab[128]? = some mX7_init := by rfl
set_option maxRecDepth 100000 in
theorem lw_z_13 : pv_tab[64]? = some mX6_row := by rfl
set_option maxRecDepth 100000 in
theorem lw_z_17 : pv_tab[136]? = some mX7_row := by rfl
set_option maxRecDepth 100000 in
theorem lw_z_18 : pv_tab[65]? = some mX6_lay := by rfl
set_option maxRecDepth 100000 in
theorem lw_z_22 : pv_tab[137]? = some mX7_lay := by rfl
set_option maxRecDepth 100000 in
theorem lw_z_23 : pv_tab[66]? = some mX6_at := by rfl
set_option maxRecDepth 100000 in
theorem lw_z_26 : pv_tab[138]? = some mX7_at := by rfl
set_option maxRecDepth 100000 in
theorem lw_z_27 : pv_tab[67]? = some mX6_tear := by rfl
set_option maxRecDepth 100000 in
theorem lw_z_31 : pv_tab[139]? = some mX7_tear := by rfl
set_option maxRecDepth 100000 in
theorem lw_z_32 : pv_tab[68]? = some mX6_copy := by rfl
set_option maxRecDepth 100000 in
theorem lw_z_36 : pv_tab[140]? = some mX7_copy := by rfl
set_option maxRecDepth 100000 in
theorem lw_z_37 : pv_tab[69]? = some mX6_mean := by rfl
set_option maxRecDepth 100000 in
theorem lw_z_40 : pv_tab[141]? = some mX7_mean := by rfl
set_option maxRecDepth 100000 in
theorem lw_z_41 : pv_tab[70]? = some mX6_text := by rfl
set_option maxRecDepth 100000 in
theorem lw_z_44 : pv_tab[142]? = some mX7_text := by rfl
set_option maxRecDepth 100000 in
theorem lw_z_45 : pv_tab[71]? = some mX6_put := by rfl
set_option maxRecDepth 100000 in
theorem lw_z_48 : pv_tab[143]? = some mX7_put := by rfl
set_option maxRecDepth 100000 in
theorem lw_z_49 : pv_tab[72]? = some mX6_fault := by rfl
set_option maxRecDepth 100000 in
theorem lw_z_52 : pv_tab[152]? = some mX7_fault := by rfl
set_option maxRecDepth 100000 in
theorem lw_z_53 : pv_tab[73]? = some mX6_town := by rfl
set_option maxRecDepth 100000 in
theorem lw_z_56 : pv_tab[153]? = some mX7_town := by rfl
set_option maxRecDepth 100000 in
theorem lw_z_57 : pv_tab[74]? = some mX6_cat := by rfl
set_option maxRecDepth 100000 in
theorem lw_z_60 : pv_tab[164]? = some mX7_cat := by rfl
set_option maxRecDepth 100000 in
theorem lw_z_61 : pv_tab[75]? = some mX6_mark := by rfl
set_option maxRecDepth 100000 in
theorem lw_z_64 : pv_tab[167]? = some mX7_mark := by rfl
set_option maxRecDepth 100000 in
theorem lw_z_65 : pv_tab[76]? = some mX6_hour := by rfl
set_option maxRecDepth 100000 in
theorem lw_z_69 : pv_tab[173]? = some mX7_hour := by rfl
set_option maxRecDepth 100000 in
theorem lw_z_70 : pv_tab[77]? = some mX6_feed := by rfl
set_option maxRecDepth 100000 in
theorem lw_z_73 : pv_tab[174]? = some mX7_feed := by rfl
set_option maxRecDepth 100000 in
theorem lw_z_74 : pv_tab[78]? = some mX6_buy := by rfl
set_option maxRecDepth 100000 in
theorem lw_z_77 : pv_tab[175]? = some mX7_buy := by rfl
set_option maxRecDepth 100000 in
theorem lw_z_78 : pv_tab[79]? = some mX6_sell := by rfl
set_option maxRecDepth 100000 in
theorem lw_z_81 : pv_tab[176]? = some mX7_sell := by rfl
set_option maxRecDepth 100000 in
theorem lw_z_82 : pv_tab[80]? = some mX6_rule := by rfl
set_option maxRecDepth 100000 in
theorem lw_z_85 : pv_tab[177]? = some mX7_rule := by rfl
set_option maxRecDepth 100000 in
theorem lw_z_86 : pv_tab[81]? = some mX6_undo := by rfl
set_option maxRecDepth 100000 in
theorem lw_z_89 : pv_tab[178]? = some mX7_undo := by rfl
set_option maxRecDepth 100000 in
theorem lw_z_90 : pv_tab[82]? = some mX6_keep := by rfl
set_option maxRecDepth 100000 in
theorem lw_z_93 : pv_tab[179]? = some mX7_keep := by rfl
set_option maxRecDepth 100000 in
theorem lw_z_94 : pv_tab[83]? = some mX6_on := by rfl
set_option maxRecDepth 100000 in
theorem lw_z_97 : pv_tab[180]? = some mX7_on := by rfl
set_option maxRecDepth 100000 in
theorem lw_z_98 : pv_tab[84]? = some mX6_weighs := by rfl
set_option maxRecDepth 100000 in
theorem lw_z_101 : pv_tab[181]? = some mX7_weighs := by rfl
set_option maxRecDepth 100000 in
theorem lw_z_102 : pv_tab[85]? = some mX6_when := by rfl
set_option maxRecDepth 100000 in
theorem lw_z_105 : pv_tab[182]? = some mX7_when := by rfl
set_option maxRecDepth 100000 in
theorem lw_z_106 : pv_tab[86]? = some mX6_steady := by rfl
set_option maxRecDepth 100000 in
theorem lw_z_109 : pv_tab[183]? = some mX7_steady := by rfl
set_option maxRecDepth 100000 in
theorem lw_z_110 : pv_tab[87]? = some mX6_meals := by rfl
set_option maxRecDepth 100000 in
theorem lw_z_113 : pv_tab[184]? = some mX7_meals := by rfl
set_option maxRecDepth 100000 in
theorem lw_z_114 : pv_tab[88]? = some mX6_gain := by rfl
set_option maxRecDepth 100000 in
theorem lw_z_117 : pv_tab[185]? = some mX7_gain := by rfl
set_option maxRecDepth 100000 in
theorem lw_z_118 : pv_tab[89]? = some mX6_ring := by rfl
set_option maxRecDepth 100000 in
theorem lw_z_121 : pv_tab[186]? = some mX7_ring := by rfl
set_option maxRecDepth 100000 in
theorem lw_z_122 : pv_tab[90]? = some mX6_plan := by rfl
set_option maxRecDepth 100000 in
theorem lw_z_125 : pv_tab[188]? = some mX7_plan := by rfl
set_option maxRecDepth 100000 in
theorem lw_z_126 : pv_tab[91]? = some mX6_sacks := by rfl
set_option maxRecDepth 100000 in
theorem lw_z_129 : pv_tab[192]? = some mX7_sacks := by rfl
set_option maxRecDepth 100000 in
theorem lw_z_130 : pv_tab[92]? = some mX6_sure := by rfl
set_option maxRecDepth 100000 in
theorem lw_z_133 : pv_tab[193]? = some mX7_sure := by rfl
set_option maxRecDepth 100000 in
theorem lw_z_134 : pv_tab[93]? = some mX6_ask := by rfl
set_option maxRecDepth 100000 in
theorem lw_z_137 : pv_tab[194]? = some mX7_ask := by rfl
set_option maxRecDepth 100000 in
theorem lw_z_138 : pv_tab[94]? = some mX6_kinds := by rfl
set_option maxRecDepth 100000 in
theorem lw_z_141 : pv_tab[198]? = some mX7_kinds := by rfl
set_option maxRecDepth 100000 in
theorem lw_z_142 : pv_tab[95]? = some mX6_weights := by rfl
set_option maxRecDepth 100000 in
theorem lw_z_145 : pv_tab[199]? = some mX7_weights := by rfl
set_option maxRecDepth 100000 in
theorem lw_z_146 : pv_tab[96]? = some mX6_test := by rfl
set_option maxRecDepth 100000 in
theorem lw_z_149 : pv_tab[201]? = some mX7_test := by rfl
set_option maxRecDepth 100000 in
theorem lw_z_150 : pv_tab[97]? = some mX6_fright := by rfl
set_option maxRecDepth 100000 in
theorem lw_z_153 : pv_tab[205]? = some mX7_fright := by rfl
set_option maxRecDepth 100000 in
theorem lw_z_154 : pv_tab[98]? = some mX6_odds := by rfl
set_option maxRecDepth 100000 in
theorem lw_z_158 : pv_tab[207]? = some mX7_odds := by rfl
set_option maxRecDepth 100000 in
theorem lw_z_159 : pv_tab[99]? = some mX6_mid := by rfl
set_option maxRecDepth 100000 in
theorem lw_z_162 : pv_tab[208]? = some mX7_mid := by rfl
set_option maxRecDepth 100000 in
theorem lw_z_163 : pv_tab[100]? = some mX6_lots := by rfl
set_option maxRecDepth 100000 in
theorem lw_z_166 : pv_tab[210]? = some mX7_lots := by rfl
set_option maxRecDepth 100000 in
theorem lw_z_167 : pv_tab[101]? = some mX6_asked := by rfl
set_option maxRecDepth 100000 in
theorem lw_z_170 : pv_tab[211]? = some mX7_asked := by rfl
set_option maxRecDepth 100000 in
theorem lw_z_171 : pv_tab[102]? = some mX6_upper := by rfl
set_option maxRecDepth 100000 in
theorem lw_z_175 : pv_tab[212]? = some mX7_upper := by rfl
set_option maxRecDepth 100000 in
theorem lw_z_176 : pv_tab[103]? = some mX6_lower := by rfl
set_option maxRecDepth 100000 in
theorem lw_z_179 : pv_tab[213]? = some mX7_lower := by rfl
set_option maxRecDepth 100000 in
theorem lw_z_180 : pv_tab[104]? = some mX6_pence := by rfl
set_option maxRecDepth 100000 in
theorem lw_z_183 : pv_tab[214]? = some mX7_pence := by rfl
set_option maxRecDepth 100000 in
theorem lw_z_184 : pv_tab[105]? = some mX6_count := by rfl
set_option maxRecDepth 100000 in
theorem lw_z_187 : pv_tab[216]? = some mX7_count := by rfl
set_option maxRecDepth 100000 in
theorem lw_z_188 : pv_tab[106]? = some mX6_finding := by rfl
set_option maxRecDepth 100000 in
theorem lw_z_191 : pv_tab[217]? = some mX7_finding := by rfl
set_option maxRecDepth 100000 in
theorem lw_z_192 : pv_tab[107]? = some mX6_findings := by rfl
set_option maxRecDepth 100000 in
theorem lw_z_195 : pv_tab[218]? = some mX7_findings := by rfl
set_option maxRecDepth 100000 in
theorem lw_z_196 : pv_tab[108]? = some mX6_digest := by rfl
set_option maxRecDepth 100000 in
theorem lw_z_199 : pv_tab[219]? = some mX7_digest := by rfl
