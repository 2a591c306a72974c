section
-- ===== PART A: goes FIRST, ahead of the names: the tables' words, and 'selects' of the private methods out of them =====
/-- a private method of a class that the tables say can be made, by its rows of tables_1 -/
def lw_okq (q : MethodName × Nat) : Prop := (q.1.cls ≠ "java/lang/invoke/MethodHandle" ∧ q.1.cls ≠ "java/lang/invoke/VarHandle") ∧ Cond.instantiable q.1.cls q.2 ∈ tables_1 ∧ Cond.privateMethod q.1 ∈ tables_1 ∧ Cond.instanceMethod q.1 ∈ tables_1
theorem lw_p0 : lw_okq (⟨"PoundCat", "makeAnew", "(LPoundCat$Shelf;III)I"⟩, 6) := ⟨⟨by decide +kernel, by decide +kernel⟩, List.mem_of_getElem? (i := 12) (by decide +kernel), List.mem_of_getElem? (i := 196) (by decide +kernel), List.mem_of_getElem? (i := 197) (by decide +kernel)⟩
theorem lw_p1 : lw_okq (⟨"PoundCat", "refusePlace", "(LPoundCat$Shelf;II)I"⟩, 6) := ⟨⟨by decide +kernel, by decide +kernel⟩, List.mem_of_getElem? (i := 12) (by decide +kernel), List.mem_of_getElem? (i := 216) (by decide +kernel), List.mem_of_getElem? (i := 217) (by decide +kernel)⟩
theorem lw_p2 : lw_okq (⟨"PoundCat", "refuseMissing", "(LPoundCat$Shelf;I)I"⟩, 6) := ⟨⟨by decide +kernel, by decide +kernel⟩, List.mem_of_getElem? (i := 12) (by decide +kernel), List.mem_of_getElem? (i := 220) (by decide +kernel), List.mem_of_getElem? (i := 221) (by decide +kernel)⟩
theorem lw_p3 : lw_okq (⟨"PoundCat$Reader", "skipBlanks", "(LPoundCat$Shelf;I)V"⟩, 6) := ⟨⟨by decide +kernel, by decide +kernel⟩, List.mem_of_getElem? (i := 40) (by decide +kernel), List.mem_of_getElem? (i := 292) (by decide +kernel), List.mem_of_getElem? (i := 293) (by decide +kernel)⟩
theorem lw_p4 : lw_okq (⟨"PoundCat$Reader", "signAt", "(LPoundCat$Shelf;I)I"⟩, 6) := ⟨⟨by decide +kernel, by decide +kernel⟩, List.mem_of_getElem? (i := 40) (by decide +kernel), List.mem_of_getElem? (i := 296) (by decide +kernel), List.mem_of_getElem? (i := 297) (by decide +kernel)⟩
theorem lw_p5 : lw_okq (⟨"PoundCat$Reader", "takeDog", "(LPoundCat$Shelf;I)Z"⟩, 6) := ⟨⟨by decide +kernel, by decide +kernel⟩, List.mem_of_getElem? (i := 40) (by decide +kernel), List.mem_of_getElem? (i := 301) (by decide +kernel), List.mem_of_getElem? (i := 302) (by decide +kernel)⟩
theorem lw_p6 : lw_okq (⟨"PoundCat$Reader", "takeWeight", "(LPoundCat$Shelf;I)I"⟩, 6) := ⟨⟨by decide +kernel, by decide +kernel⟩, List.mem_of_getElem? (i := 40) (by decide +kernel), List.mem_of_getElem? (i := 305) (by decide +kernel), List.mem_of_getElem? (i := 306) (by decide +kernel)⟩
theorem lw_p7 : lw_okq (⟨"PoundCat$Reader", "figureAt", "(LPoundCat$Shelf;I)I"⟩, 6) := ⟨⟨by decide +kernel, by decide +kernel⟩, List.mem_of_getElem? (i := 40) (by decide +kernel), List.mem_of_getElem? (i := 309) (by decide +kernel), List.mem_of_getElem? (i := 310) (by decide +kernel)⟩
theorem lw_p8 : lw_okq (⟨"PoundCat$Reader", "takeCat", "(LPoundCat$Shelf;I)Z"⟩, 6) := ⟨⟨by decide +kernel, by decide +kernel⟩, List.mem_of_getElem? (i := 40) (by decide +kernel), List.mem_of_getElem? (i := 313) (by decide +kernel), List.mem_of_getElem? (i := 314) (by decide +kernel)⟩
theorem lw_p9 : lw_okq (⟨"PoundCat$Town", "act", "(I)V"⟩, 14) := ⟨⟨by decide +kernel, by decide +kernel⟩, List.mem_of_getElem? (i := 70) (by decide +kernel), List.mem_of_getElem? (i := 332) (by decide +kernel), List.mem_of_getElem? (i := 333) (by decide +kernel)⟩
theorem lw_p10 : lw_okq (⟨"PoundCat$Town", "passHour", "()V"⟩, 14) := ⟨⟨by decide +kernel, by decide +kernel⟩, List.mem_of_getElem? (i := 70) (by decide +kernel), List.mem_of_getElem? (i := 336) (by decide +kernel), List.mem_of_getElem? (i := 337) (by decide +kernel)⟩
theorem lw_p11 : lw_okq (⟨"PoundCat", "lookAhead", "(II)V"⟩, 6) := ⟨⟨by decide +kernel, by decide +kernel⟩, List.mem_of_getElem? (i := 12) (by decide +kernel), List.mem_of_getElem? (i := 468) (by decide +kernel), List.mem_of_getElem? (i := 469) (by decide +kernel)⟩
theorem lw_p12 : lw_okq (⟨"PoundCat", "lookAtPound", "(I)V"⟩, 6) := ⟨⟨by decide +kernel, by decide +kernel⟩, List.mem_of_getElem? (i := 12) (by decide +kernel), List.mem_of_getElem? (i := 508) (by decide +kernel), List.mem_of_getElem? (i := 509) (by decide +kernel)⟩
theorem lw_p13 : lw_okq (⟨"PoundCat", "planWorth", "(II)I"⟩, 6) := ⟨⟨by decide +kernel, by decide +kernel⟩, List.mem_of_getElem? (i := 12) (by decide +kernel), List.mem_of_getElem? (i := 532) (by decide +kernel), List.mem_of_getElem? (i := 533) (by decide +kernel)⟩
theorem lw_p14 : lw_okq (⟨"PoundCat", "setCount", "()I"⟩, 6) := ⟨⟨by decide +kernel, by decide +kernel⟩, List.mem_of_getElem? (i := 12) (by decide +kernel), List.mem_of_getElem? (i := 548) (by decide +kernel), List.mem_of_getElem? (i := 549) (by decide +kernel)⟩
theorem lw_p15 : lw_okq (⟨"PoundCat", "setsOf", "(I)I"⟩, 6) := ⟨⟨by decide +kernel, by decide +kernel⟩, List.mem_of_getElem? (i := 12) (by decide +kernel), List.mem_of_getElem? (i := 556) (by decide +kernel), List.mem_of_getElem? (i := 557) (by decide +kernel)⟩
def lw_privs_1 : List (MethodName × Nat) := [(⟨"PoundCat", "makeAnew", "(LPoundCat$Shelf;III)I"⟩, 6), (⟨"PoundCat", "refusePlace", "(LPoundCat$Shelf;II)I"⟩, 6), (⟨"PoundCat", "refuseMissing", "(LPoundCat$Shelf;I)I"⟩, 6), (⟨"PoundCat$Reader", "skipBlanks", "(LPoundCat$Shelf;I)V"⟩, 6), (⟨"PoundCat$Reader", "signAt", "(LPoundCat$Shelf;I)I"⟩, 6), (⟨"PoundCat$Reader", "takeDog", "(LPoundCat$Shelf;I)Z"⟩, 6), (⟨"PoundCat$Reader", "takeWeight", "(LPoundCat$Shelf;I)I"⟩, 6), (⟨"PoundCat$Reader", "figureAt", "(LPoundCat$Shelf;I)I"⟩, 6), (⟨"PoundCat$Reader", "takeCat", "(LPoundCat$Shelf;I)Z"⟩, 6), (⟨"PoundCat$Town", "act", "(I)V"⟩, 14), (⟨"PoundCat$Town", "passHour", "()V"⟩, 14), (⟨"PoundCat", "lookAhead", "(II)V"⟩, 6), (⟨"PoundCat", "lookAtPound", "(I)V"⟩, 6), (⟨"PoundCat", "planWorth", "(II)I"⟩, 6), (⟨"PoundCat", "setCount", "()I"⟩, 6), (⟨"PoundCat", "setsOf", "(I)I"⟩, 6)]
theorem lw_r1 : ∀ q ∈ lw_privs_1, lw_okq q := List.forall_mem_cons.mpr ⟨lw_p0, List.forall_mem_cons.mpr ⟨lw_p1, List.forall_mem_cons.mpr ⟨lw_p2, List.forall_mem_cons.mpr ⟨lw_p3, List.forall_mem_cons.mpr ⟨lw_p4, List.forall_mem_cons.mpr ⟨lw_p5, List.forall_mem_cons.mpr ⟨lw_p6, List.forall_mem_cons.mpr ⟨lw_p7, List.forall_mem_cons.mpr ⟨lw_p8, List.forall_mem_cons.mpr ⟨lw_p9, List.forall_mem_cons.mpr ⟨lw_p10, List.forall_mem_cons.mpr ⟨lw_p11, List.forall_mem_cons.mpr ⟨lw_p12, List.forall_mem_cons.mpr ⟨lw_p13, List.forall_mem_cons.mpr ⟨lw_p14, List.forall_mem_cons.mpr ⟨lw_p15, fun _ h => absurd h List.not_mem_nil⟩⟩⟩⟩⟩⟩⟩⟩⟩⟩⟩⟩⟩⟩⟩⟩
theorem lw_p16 : lw_okq (⟨"PoundCat", "setsWith", "(II)I"⟩, 6) := ⟨⟨by decide +kernel, by decide +kernel⟩, List.mem_of_getElem? (i := 12) (by decide +kernel), List.mem_of_getElem? (i := 571) (by decide +kernel), List.mem_of_getElem? (i := 572) (by decide +kernel)⟩
theorem lw_p17 : lw_okq (⟨"PoundCat", "refuseLedger", "(II)I"⟩, 6) := ⟨⟨by decide +kernel, by decide +kernel⟩, List.mem_of_getElem? (i := 12) (by decide +kernel), List.mem_of_getElem? (i := 584) (by decide +kernel), List.mem_of_getElem? (i := 585) (by decide +kernel)⟩
theorem lw_p18 : lw_okq (⟨"PoundCat", "holdsPairs", "(I)Z"⟩, 6) := ⟨⟨by decide +kernel, by decide +kernel⟩, List.mem_of_getElem? (i := 12) (by decide +kernel), List.mem_of_getElem? (i := 588) (by decide +kernel), List.mem_of_getElem? (i := 589) (by decide +kernel)⟩
theorem lw_p19 : lw_okq (⟨"PoundCat", "kindsFitting", "(II)I"⟩, 6) := ⟨⟨by decide +kernel, by decide +kernel⟩, List.mem_of_getElem? (i := 12) (by decide +kernel), List.mem_of_getElem? (i := 592) (by decide +kernel), List.mem_of_getElem? (i := 593) (by decide +kernel)⟩
theorem lw_p20 : lw_okq (⟨"PoundCat", "fitsLedger", "(III)Z"⟩, 6) := ⟨⟨by decide +kernel, by decide +kernel⟩, List.mem_of_getElem? (i := 12) (by decide +kernel), List.mem_of_getElem? (i := 596) (by decide +kernel), List.mem_of_getElem? (i := 597) (by decide +kernel)⟩
theorem lw_p21 : lw_okq (⟨"PoundCat$Outlook", "alikeTo", "(II)I"⟩, 3) := ⟨⟨by decide +kernel, by decide +kernel⟩, List.mem_of_getElem? (i := 131) (by decide +kernel), List.mem_of_getElem? (i := 616) (by decide +kernel), List.mem_of_getElem? (i := 617) (by decide +kernel)⟩
theorem lw_p22 : lw_okq (⟨"PoundCat", "weightByMice", "(III)I"⟩, 6) := ⟨⟨by decide +kernel, by decide +kernel⟩, List.mem_of_getElem? (i := 12) (by decide +kernel), List.mem_of_getElem? (i := 632) (by decide +kernel), List.mem_of_getElem? (i := 633) (by decide +kernel)⟩
theorem lw_p23 : lw_okq (⟨"PoundCat", "shareOf", "(III)J"⟩, 6) := ⟨⟨by decide +kernel, by decide +kernel⟩, List.mem_of_getElem? (i := 12) (by decide +kernel), List.mem_of_getElem? (i := 636) (by decide +kernel), List.mem_of_getElem? (i := 637) (by decide +kernel)⟩
theorem lw_p24 : lw_okq (⟨"PoundCat", "deedByLot", "(J)I"⟩, 6) := ⟨⟨by decide +kernel, by decide +kernel⟩, List.mem_of_getElem? (i := 12) (by decide +kernel), List.mem_of_getElem? (i := 655) (by decide +kernel), List.mem_of_getElem? (i := 656) (by decide +kernel)⟩
theorem lw_p25 : lw_okq (⟨"PoundCatModel", "found", "(I)I"⟩, 29) := ⟨⟨by decide +kernel, by decide +kernel⟩, List.mem_of_getElem? (i := 710) (by decide +kernel), List.mem_of_getElem? (i := 816) (by decide +kernel), List.mem_of_getElem? (i := 817) (by decide +kernel)⟩
theorem lw_p26 : lw_okq (⟨"PoundCatModel", "tell", "(I)I"⟩, 29) := ⟨⟨by decide +kernel, by decide +kernel⟩, List.mem_of_getElem? (i := 710) (by decide +kernel), List.mem_of_getElem? (i := 824) (by decide +kernel), List.mem_of_getElem? (i := 825) (by decide +kernel)⟩
theorem lw_p27 : lw_okq (⟨"PoundCatModel", "faultOf", "(I)I"⟩, 29) := ⟨⟨by decide +kernel, by decide +kernel⟩, List.mem_of_getElem? (i := 710) (by decide +kernel), List.mem_of_getElem? (i := 860) (by decide +kernel), List.mem_of_getElem? (i := 861) (by decide +kernel)⟩
theorem lw_p28 : lw_okq (⟨"PoundCatModel", "blanks", "(I)V"⟩, 29) := ⟨⟨by decide +kernel, by decide +kernel⟩, List.mem_of_getElem? (i := 710) (by decide +kernel), List.mem_of_getElem? (i := 864) (by decide +kernel), List.mem_of_getElem? (i := 865) (by decide +kernel)⟩
theorem lw_p29 : lw_okq (⟨"PoundCatModel", "byteAt", "(I)I"⟩, 29) := ⟨⟨by decide +kernel, by decide +kernel⟩, List.mem_of_getElem? (i := 710) (by decide +kernel), List.mem_of_getElem? (i := 868) (by decide +kernel), List.mem_of_getElem? (i := 869) (by decide +kernel)⟩
theorem lw_p30 : lw_okq (⟨"PoundCatModel", "readsDog", "(I)Z"⟩, 29) := ⟨⟨by decide +kernel, by decide +kernel⟩, List.mem_of_getElem? (i := 710) (by decide +kernel), List.mem_of_getElem? (i := 872) (by decide +kernel), List.mem_of_getElem? (i := 873) (by decide +kernel)⟩
theorem lw_p31 : lw_okq (⟨"PoundCatModel", "takesWeight", "(I)Z"⟩, 29) := ⟨⟨by decide +kernel, by decide +kernel⟩, List.mem_of_getElem? (i := 710) (by decide +kernel), List.mem_of_getElem? (i := 876) (by decide +kernel), List.mem_of_getElem? (i := 877) (by decide +kernel)⟩
def lw_privs_2 : List (MethodName × Nat) := [(⟨"PoundCat", "setsWith", "(II)I"⟩, 6), (⟨"PoundCat", "refuseLedger", "(II)I"⟩, 6), (⟨"PoundCat", "holdsPairs", "(I)Z"⟩, 6), (⟨"PoundCat", "kindsFitting", "(II)I"⟩, 6), (⟨"PoundCat", "fitsLedger", "(III)Z"⟩, 6), (⟨"PoundCat$Outlook", "alikeTo", "(II)I"⟩, 3), (⟨"PoundCat", "weightByMice", "(III)I"⟩, 6), (⟨"PoundCat", "shareOf", "(III)J"⟩, 6), (⟨"PoundCat", "deedByLot", "(J)I"⟩, 6), (⟨"PoundCatModel", "found", "(I)I"⟩, 29), (⟨"PoundCatModel", "tell", "(I)I"⟩, 29), (⟨"PoundCatModel", "faultOf", "(I)I"⟩, 29), (⟨"PoundCatModel", "blanks", "(I)V"⟩, 29), (⟨"PoundCatModel", "byteAt", "(I)I"⟩, 29), (⟨"PoundCatModel", "readsDog", "(I)Z"⟩, 29), (⟨"PoundCatModel", "takesWeight", "(I)Z"⟩, 29)]
theorem lw_r2 : ∀ q ∈ lw_privs_2, lw_okq q := List.forall_mem_cons.mpr ⟨lw_p16, List.forall_mem_cons.mpr ⟨lw_p17, List.forall_mem_cons.mpr ⟨lw_p18, List.forall_mem_cons.mpr ⟨lw_p19, List.forall_mem_cons.mpr ⟨lw_p20, List.forall_mem_cons.mpr ⟨lw_p21, List.forall_mem_cons.mpr ⟨lw_p22, List.forall_mem_cons.mpr ⟨lw_p23, List.forall_mem_cons.mpr ⟨lw_p24, List.forall_mem_cons.mpr ⟨lw_p25, List.forall_mem_cons.mpr ⟨lw_p26, List.forall_mem_cons.mpr ⟨lw_p27, List.forall_mem_cons.mpr ⟨lw_p28, List.forall_mem_cons.mpr ⟨lw_p29, List.forall_mem_cons.mpr ⟨lw_p30, List.forall_mem_cons.mpr ⟨lw_p31, fun _ h => absurd h List.not_mem_nil⟩⟩⟩⟩⟩⟩⟩⟩⟩⟩⟩⟩⟩⟩⟩⟩
theorem lw_p32 : lw_okq (⟨"PoundCatModel", "takes", "(II)Z"⟩, 29) := ⟨⟨by decide +kernel, by decide +kernel⟩, List.mem_of_getElem? (i := 710) (by decide +kernel), List.mem_of_getElem? (i := 880) (by decide +kernel), List.mem_of_getElem? (i := 881) (by decide +kernel)⟩
theorem lw_p33 : lw_okq (⟨"PoundCatModel", "readsCat", "(I)Z"⟩, 29) := ⟨⟨by decide +kernel, by decide +kernel⟩, List.mem_of_getElem? (i := 710) (by decide +kernel), List.mem_of_getElem? (i := 885) (by decide +kernel), List.mem_of_getElem? (i := 886) (by decide +kernel)⟩
theorem lw_p34 : lw_okq (⟨"PoundCatModel", "isCat", "(I)Z"⟩, 29) := ⟨⟨by decide +kernel, by decide +kernel⟩, List.mem_of_getElem? (i := 710) (by decide +kernel), List.mem_of_getElem? (i := 900) (by decide +kernel), List.mem_of_getElem? (i := 901) (by decide +kernel)⟩
theorem lw_p35 : lw_okq (⟨"PoundCatModel", "told", "(II)I"⟩, 29) := ⟨⟨by decide +kernel, by decide +kernel⟩, List.mem_of_getElem? (i := 710) (by decide +kernel), List.mem_of_getElem? (i := 905) (by decide +kernel), List.mem_of_getElem? (i := 906) (by decide +kernel)⟩
theorem lw_p36 : lw_okq (⟨"PoundCatModel", "afterOf", "(II)I"⟩, 29) := ⟨⟨by decide +kernel, by decide +kernel⟩, List.mem_of_getElem? (i := 710) (by decide +kernel), List.mem_of_getElem? (i := 912) (by decide +kernel), List.mem_of_getElem? (i := 913) (by decide +kernel)⟩
theorem lw_p37 : lw_okq (⟨"PoundCatModel", "after", "(III)I"⟩, 29) := ⟨⟨by decide +kernel, by decide +kernel⟩, List.mem_of_getElem? (i := 710) (by decide +kernel), List.mem_of_getElem? (i := 916) (by decide +kernel), List.mem_of_getElem? (i := 917) (by decide +kernel)⟩
theorem lw_p38 : lw_okq (⟨"PoundCatModel", "kindsOf", "(I)I"⟩, 29) := ⟨⟨by decide +kernel, by decide +kernel⟩, List.mem_of_getElem? (i := 710) (by decide +kernel), List.mem_of_getElem? (i := 933) (by decide +kernel), List.mem_of_getElem? (i := 934) (by decide +kernel)⟩
theorem lw_p39 : lw_okq (⟨"PoundCatModel", "hourGoes", "()V"⟩, 29) := ⟨⟨by decide +kernel, by decide +kernel⟩, List.mem_of_getElem? (i := 710) (by decide +kernel), List.mem_of_getElem? (i := 941) (by decide +kernel), List.mem_of_getElem? (i := 942) (by decide +kernel)⟩
theorem lw_p40 : lw_okq (⟨"PoundCatModel", "remember", "()V"⟩, 29) := ⟨⟨by decide +kernel, by decide +kernel⟩, List.mem_of_getElem? (i := 710) (by decide +kernel), List.mem_of_getElem? (i := 945) (by decide +kernel), List.mem_of_getElem? (i := 946) (by decide +kernel)⟩
theorem lw_p41 : lw_okq (⟨"PoundCatModel", "pound", "()I"⟩, 29) := ⟨⟨by decide +kernel, by decide +kernel⟩, List.mem_of_getElem? (i := 710) (by decide +kernel), List.mem_of_getElem? (i := 952) (by decide +kernel), List.mem_of_getElem? (i := 953) (by decide +kernel)⟩
theorem lw_p42 : lw_okq (⟨"PoundCatModel", "eats", "(I)V"⟩, 29) := ⟨⟨by decide +kernel, by decide +kernel⟩, List.mem_of_getElem? (i := 710) (by decide +kernel), List.mem_of_getElem? (i := 960) (by decide +kernel), List.mem_of_getElem? (i := 961) (by decide +kernel)⟩
theorem lw_p43 : lw_okq (⟨"PoundCatModel", "buys", "(I)V"⟩, 29) := ⟨⟨by decide +kernel, by decide +kernel⟩, List.mem_of_getElem? (i := 710) (by decide +kernel), List.mem_of_getElem? (i := 968) (by decide +kernel), List.mem_of_getElem? (i := 969) (by decide +kernel)⟩
theorem lw_p44 : lw_okq (⟨"PoundCatModel", "answer", "(II)I"⟩, 29) := ⟨⟨by decide +kernel, by decide +kernel⟩, List.mem_of_getElem? (i := 710) (by decide +kernel), List.mem_of_getElem? (i := 1008) (by decide +kernel), List.mem_of_getElem? (i := 1009) (by decide +kernel)⟩
theorem lw_p45 : lw_okq (⟨"PoundCatModel", "poundIn", "(I)I"⟩, 29) := ⟨⟨by decide +kernel, by decide +kernel⟩, List.mem_of_getElem? (i := 710) (by decide +kernel), List.mem_of_getElem? (i := 1021) (by decide +kernel), List.mem_of_getElem? (i := 1022) (by decide +kernel)⟩
theorem lw_p46 : lw_okq (⟨"PoundCatModel", "planned", "(II)I"⟩, 29) := ⟨⟨by decide +kernel, by decide +kernel⟩, List.mem_of_getElem? (i := 710) (by decide +kernel), List.mem_of_getElem? (i := 1037) (by decide +kernel), List.mem_of_getElem? (i := 1038) (by decide +kernel)⟩
theorem lw_p47 : lw_okq (⟨"PoundCatModel", "refuses", "(I)I"⟩, 29) := ⟨⟨by decide +kernel, by decide +kernel⟩, List.mem_of_getElem? (i := 710) (by decide +kernel), List.mem_of_getElem? (i := 1045) (by decide +kernel), List.mem_of_getElem? (i := 1046) (by decide +kernel)⟩
def lw_privs_3 : List (MethodName × Nat) := [(⟨"PoundCatModel", "takes", "(II)Z"⟩, 29), (⟨"PoundCatModel", "readsCat", "(I)Z"⟩, 29), (⟨"PoundCatModel", "isCat", "(I)Z"⟩, 29), (⟨"PoundCatModel", "told", "(II)I"⟩, 29), (⟨"PoundCatModel", "afterOf", "(II)I"⟩, 29), (⟨"PoundCatModel", "after", "(III)I"⟩, 29), (⟨"PoundCatModel", "kindsOf", "(I)I"⟩, 29), (⟨"PoundCatModel", "hourGoes", "()V"⟩, 29), (⟨"PoundCatModel", "remember", "()V"⟩, 29), (⟨"PoundCatModel", "pound", "()I"⟩, 29), (⟨"PoundCatModel", "eats", "(I)V"⟩, 29), (⟨"PoundCatModel", "buys", "(I)V"⟩, 29), (⟨"PoundCatModel", "answer", "(II)I"⟩, 29), (⟨"PoundCatModel", "poundIn", "(I)I"⟩, 29), (⟨"PoundCatModel", "planned", "(II)I"⟩, 29), (⟨"PoundCatModel", "refuses", "(I)I"⟩, 29)]
theorem lw_r3 : ∀ q ∈ lw_privs_3, lw_okq q := List.forall_mem_cons.mpr ⟨lw_p32, List.forall_mem_cons.mpr ⟨lw_p33, List.forall_mem_cons.mpr ⟨lw_p34, List.forall_mem_cons.mpr ⟨lw_p35, List.forall_mem_cons.mpr ⟨lw_p36, List.forall_mem_cons.mpr ⟨lw_p37, List.forall_mem_cons.mpr ⟨lw_p38, List.forall_mem_cons.mpr ⟨lw_p39, List.forall_mem_cons.mpr ⟨lw_p40, List.forall_mem_cons.mpr ⟨lw_p41, List.forall_mem_cons.mpr ⟨lw_p42, List.forall_mem_cons.mpr ⟨lw_p43, List.forall_mem_cons.mpr ⟨lw_p44, List.forall_mem_cons.mpr ⟨lw_p45, List.forall_mem_cons.mpr ⟨lw_p46, List.forall_mem_cons.mpr ⟨lw_p47, fun _ h => absurd h List.not_mem_nil⟩⟩⟩⟩⟩⟩⟩⟩⟩⟩⟩⟩⟩⟩⟩⟩
theorem lw_p48 : lw_okq (⟨"PoundCatModel", "isSack", "(II)Z"⟩, 29) := ⟨⟨by decide +kernel, by decide +kernel⟩, List.mem_of_getElem? (i := 710) (by decide +kernel), List.mem_of_getElem? (i := 1050) (by decide +kernel), List.mem_of_getElem? (i := 1051) (by decide +kernel)⟩
theorem lw_p49 : lw_okq (⟨"PoundCatModel", "fraction", "(JJ)I"⟩, 29) := ⟨⟨by decide +kernel, by decide +kernel⟩, List.mem_of_getElem? (i := 710) (by decide +kernel), List.mem_of_getElem? (i := 1057) (by decide +kernel), List.mem_of_getElem? (i := 1058) (by decide +kernel)⟩
theorem lw_p50 : lw_okq (⟨"PoundCatModel", "wrongPairs", "(I)I"⟩, 29) := ⟨⟨by decide +kernel, by decide +kernel⟩, List.mem_of_getElem? (i := 710) (by decide +kernel), List.mem_of_getElem? (i := 1073) (by decide +kernel), List.mem_of_getElem? (i := 1074) (by decide +kernel)⟩
theorem lw_p51 : lw_okq (⟨"PoundCatModel", "kindsBy", "(II)I"⟩, 29) := ⟨⟨by decide +kernel, by decide +kernel⟩, List.mem_of_getElem? (i := 710) (by decide +kernel), List.mem_of_getElem? (i := 1078) (by decide +kernel), List.mem_of_getElem? (i := 1079) (by decide +kernel)⟩
theorem lw_p52 : lw_okq (⟨"PoundCatModel", "isSo", "(III)Z"⟩, 29) := ⟨⟨by decide +kernel, by decide +kernel⟩, List.mem_of_getElem? (i := 710) (by decide +kernel), List.mem_of_getElem? (i := 1082) (by decide +kernel), List.mem_of_getElem? (i := 1083) (by decide +kernel)⟩
theorem lw_p53 : lw_okq (⟨"PoundCatModel", "alike", "(III)I"⟩, 29) := ⟨⟨by decide +kernel, by decide +kernel⟩, List.mem_of_getElem? (i := 710) (by decide +kernel), List.mem_of_getElem? (i := 1094) (by decide +kernel), List.mem_of_getElem? (i := 1095) (by decide +kernel)⟩
theorem lw_p54 : lw_okq (⟨"PoundCatModel", "beginsStep", "(I)V"⟩, 29) := ⟨⟨by decide +kernel, by decide +kernel⟩, List.mem_of_getElem? (i := 710) (by decide +kernel), List.mem_of_getElem? (i := 1102) (by decide +kernel), List.mem_of_getElem? (i := 1103) (by decide +kernel)⟩
theorem lw_p55 : lw_okq (⟨"PoundCatModel", "weighsIt", "(II)V"⟩, 29) := ⟨⟨by decide +kernel, by decide +kernel⟩, List.mem_of_getElem? (i := 710) (by decide +kernel), List.mem_of_getElem? (i := 1106) (by decide +kernel), List.mem_of_getElem? (i := 1107) (by decide +kernel)⟩
theorem lw_p56 : lw_okq (⟨"PoundCatModel", "goesOn", "(I)V"⟩, 29) := ⟨⟨by decide +kernel, by decide +kernel⟩, List.mem_of_getElem? (i := 710) (by decide +kernel), List.mem_of_getElem? (i := 1110) (by decide +kernel), List.mem_of_getElem? (i := 1111) (by decide +kernel)⟩
theorem lw_p57 : lw_okq (⟨"PoundCatModel", "chances", "(IIII)I"⟩, 29) := ⟨⟨by decide +kernel, by decide +kernel⟩, List.mem_of_getElem? (i := 710) (by decide +kernel), List.mem_of_getElem? (i := 1120) (by decide +kernel), List.mem_of_getElem? (i := 1121) (by decide +kernel)⟩
theorem lw_p58 : lw_okq (⟨"PoundCatModel", "plays", "(II)V"⟩, 29) := ⟨⟨by decide +kernel, by decide +kernel⟩, List.mem_of_getElem? (i := 710) (by decide +kernel), List.mem_of_getElem? (i := 1136) (by decide +kernel), List.mem_of_getElem? (i := 1137) (by decide +kernel)⟩
theorem lw_p59 : lw_okq (⟨"PoundCatModel", "counted", "(I)I"⟩, 29) := ⟨⟨by decide +kernel, by decide +kernel⟩, List.mem_of_getElem? (i := 710) (by decide +kernel), List.mem_of_getElem? (i := 1161) (by decide +kernel), List.mem_of_getElem? (i := 1162) (by decide +kernel)⟩
def lw_privs_4 : List (MethodName × Nat) := [(⟨"PoundCatModel", "isSack", "(II)Z"⟩, 29), (⟨"PoundCatModel", "fraction", "(JJ)I"⟩, 29), (⟨"PoundCatModel", "wrongPairs", "(I)I"⟩, 29), (⟨"PoundCatModel", "kindsBy", "(II)I"⟩, 29), (⟨"PoundCatModel", "isSo", "(III)Z"⟩, 29), (⟨"PoundCatModel", "alike", "(III)I"⟩, 29), (⟨"PoundCatModel", "beginsStep", "(I)V"⟩, 29), (⟨"PoundCatModel", "weighsIt", "(II)V"⟩, 29), (⟨"PoundCatModel", "goesOn", "(I)V"⟩, 29), (⟨"PoundCatModel", "chances", "(IIII)I"⟩, 29), (⟨"PoundCatModel", "plays", "(II)V"⟩, 29), (⟨"PoundCatModel", "counted", "(I)I"⟩, 29)]
theorem lw_r4 : ∀ q ∈ lw_privs_4, lw_okq q := List.forall_mem_cons.mpr ⟨lw_p48, List.forall_mem_cons.mpr ⟨lw_p49, List.forall_mem_cons.mpr ⟨lw_p50, List.forall_mem_cons.mpr ⟨lw_p51, List.forall_mem_cons.mpr ⟨lw_p52, List.forall_mem_cons.mpr ⟨lw_p53, List.forall_mem_cons.mpr ⟨lw_p54, List.forall_mem_cons.mpr ⟨lw_p55, List.forall_mem_cons.mpr ⟨lw_p56, List.forall_mem_cons.mpr ⟨lw_p57, List.forall_mem_cons.mpr ⟨lw_p58, List.forall_mem_cons.mpr ⟨lw_p59, fun _ h => absurd h List.not_mem_nil⟩⟩⟩⟩⟩⟩⟩⟩⟩⟩⟩⟩
def lw_privs : List (MethodName × Nat) := lw_privs_1 ++ (lw_privs_2 ++ (lw_privs_3 ++ (lw_privs_4)))
def lw_tbl : List Cond := k2_sels lw_privs ++ tables_1
theorem lw_privs_ok : ∀ q ∈ lw_privs, lw_okq q := by
  show ∀ q ∈ lw_privs_1 ++ (lw_privs_2 ++ (lw_privs_3 ++ (lw_privs_4))), lw_okq q
  exact List.forall_mem_append.mpr ⟨lw_r1, List.forall_mem_append.mpr ⟨lw_r2, List.forall_mem_append.mpr ⟨lw_r3, lw_r4⟩⟩⟩
end
section
def RX0 : String := "PoundCat$Kind"
def TX0 : u_T := fun k => match k with
  | _ => ("", "", "", false)
def tyX0 : Nat → FieldType := fun k => match k with
  | _ => .int
abbrev wsX00 : List Cond := u_ws RX0 TX0 0
theorem nmX0 : ∀ a, a < 0 → ∀ b, b < 0 → a ≠ b → (TX0 a).2.1 ≠ (TX0 b).2.1 := by decide +kernel
theorem tyX0_ok : ∀ k, k < 0 → parseFieldDescriptor (TX0 k).2.2.1 = some (tyX0 k) := by decide +kernel
abbrev cX0_byLetter : ByteArray := prog_2_method_2_code
def yX0_byLetter : MethodName := ⟨RX0, "byLetter", "(I)I"⟩
abbrev cX0_isOf : ByteArray := prog_2_method_3_code
def yX0_isOf : MethodName := ⟨RX0, "isOf", "(II)Z"⟩
abbrev cX0_mealAdds : ByteArray := prog_2_method_4_code
def yX0_mealAdds : MethodName := ⟨RX0, "mealAdds", "(II)I"⟩
abbrev cX0_hasMice : ByteArray := prog_2_method_5_code
def yX0_hasMice : MethodName := ⟨RX0, "hasMice", "(I)Z"⟩
abbrev cX0_hoursToMoult : ByteArray := prog_2_method_6_code
def yX0_hoursToMoult : MethodName := ⟨RX0, "hoursToMoult", "(I)I"⟩
abbrev cX0_hourAdds : ByteArray := prog_2_method_7_code
def yX0_hourAdds : MethodName := ⟨RX0, "hourAdds", "(II)I"⟩
abbrev cX0_held : ByteArray := prog_2_method_8_code
def yX0_held : MethodName := ⟨RX0, "held", "(I)I"⟩
abbrev cX0_afterHour : ByteArray := prog_2_method_9_code
def yX0_afterHour : MethodName := ⟨RX0, "afterHour", "(III)I"⟩
def RX1 : String := "PoundCat$Outlook"
def TX1 : u_T := fun k => match k with
  | 0 => ("PoundCat$Outlook", "ahead", "[I", true)
  | 1 => ("PoundCat$Outlook", "asKind", "[I", true)
  | _ => ("PoundCat$Outlook", "last", "I", false)
def tyX1 : Nat → FieldType := fun k => match k with
  | 0 => .array .int
  | 1 => .array .int
  | _ => .int
abbrev wsX10 : List Cond := u_ws RX1 TX1 3
theorem nmX1 : ∀ a, a < 3 → ∀ b, b < 3 → a ≠ b → (TX1 a).2.1 ≠ (TX1 b).2.1 := by decide +kernel
theorem tyX1_ok : ∀ k, k < 3 → parseFieldDescriptor (TX1 k).2.2.1 = some (tyX1 k) := by decide +kernel
abbrev cX1_init : ByteArray := prog_3_method_1_code
def yX1_init : MethodName := ⟨RX1, "<init>", "()V"⟩
abbrev cX1_fill : ByteArray := prog_3_method_2_code
def yX1_fill : MethodName := ⟨RX1, "fill", "(IIII)V"⟩
abbrev cX1_weightIn : ByteArray := prog_3_method_3_code
def yX1_weightIn : MethodName := ⟨RX1, "weightIn", "(I)I"⟩
abbrev cX1_firstWith : ByteArray := prog_3_method_4_code
def yX1_firstWith : MethodName := ⟨RX1, "firstWith", "(I)I"⟩
abbrev cX1_spread : ByteArray := prog_3_method_5_code
def yX1_spread : MethodName := ⟨RX1, "spread", "()I"⟩
abbrev cX1_poundsThen : ByteArray := prog_3_method_6_code
def yX1_poundsThen : MethodName := ⟨RX1, "poundsThen", "(III)I"⟩
abbrev cX1_startKinds : ByteArray := prog_3_method_7_code
def yX1_startKinds : MethodName := ⟨RX1, "startKinds", "(I)V"⟩
abbrev cX1_passKinds : ByteArray := prog_3_method_8_code
def yX1_passKinds : MethodName := ⟨RX1, "passKinds", "(I)V"⟩
abbrev cX1_greatestPart : ByteArray := prog_3_method_9_code
def yX1_greatestPart : MethodName := ⟨RX1, "greatestPart", "(I)I"⟩
abbrev cX1_alikeTo : ByteArray := prog_3_method_10_code
def yX1_alikeTo : MethodName := ⟨RX1, "alikeTo", "(II)I"⟩
def RX2 : String := "PoundCat$Reader"
def TX2 : u_T := fun k => match k with
  | 0 => ("PoundCat$Reader", "kindOf", "[I", true)
  | 1 => ("PoundCat$Reader", "weight", "[I", true)
  | 2 => ("PoundCat$Reader", "appetite", "[I", true)
  | 3 => ("PoundCat$Reader", "dog", "I", false)
  | 4 => ("PoundCat$Reader", "cats", "I", false)
  | _ => ("PoundCat$Reader", "place", "I", false)
def tyX2 : Nat → FieldType := fun k => match k with
  | 0 => .array .int
  | 1 => .array .int
  | 2 => .array .int
  | 3 => .int
  | 4 => .int
  | _ => .int
abbrev wsX20 : List Cond := u_ws RX2 TX2 6
theorem nmX2 : ∀ a, a < 6 → ∀ b, b < 6 → a ≠ b → (TX2 a).2.1 ≠ (TX2 b).2.1 := by decide +kernel
theorem tyX2_ok : ∀ k, k < 6 → parseFieldDescriptor (TX2 k).2.2.1 = some (tyX2 k) := by decide +kernel
abbrev cX2_init : ByteArray := prog_4_method_1_code
def yX2_init : MethodName := ⟨RX2, "<init>", "()V"⟩
abbrev cX2_faultOf : ByteArray := prog_4_method_2_code
def yX2_faultOf : MethodName := ⟨RX2, "faultOf", "(LPoundCat$Shelf;I)I"⟩
abbrev cX2_signAt : ByteArray := prog_4_method_3_code
def yX2_signAt : MethodName := ⟨RX2, "signAt", "(LPoundCat$Shelf;I)I"⟩
abbrev cX2_skipBlanks : ByteArray := prog_4_method_4_code
def yX2_skipBlanks : MethodName := ⟨RX2, "skipBlanks", "(LPoundCat$Shelf;I)V"⟩
abbrev cX2_takeDog : ByteArray := prog_4_method_5_code
def yX2_takeDog : MethodName := ⟨RX2, "takeDog", "(LPoundCat$Shelf;I)Z"⟩
abbrev cX2_takeCat : ByteArray := prog_4_method_6_code
def yX2_takeCat : MethodName := ⟨RX2, "takeCat", "(LPoundCat$Shelf;I)Z"⟩
abbrev cX2_takeWeight : ByteArray := prog_4_method_7_code
def yX2_takeWeight : MethodName := ⟨RX2, "takeWeight", "(LPoundCat$Shelf;I)I"⟩
abbrev cX2_figureAt : ByteArray := prog_4_method_8_code
def yX2_figureAt : MethodName := ⟨RX2, "figureAt", "(LPoundCat$Shelf;I)I"⟩
def RX3 : String := "PoundCat$Shelf"
def TX3 : u_T := fun k => match k with
  | 0 => ("PoundCat$Shelf", "most", "I", true)
  | 1 => ("PoundCat$Shelf", "sizes", "[I", true)
  | _ => ("PoundCat$Shelf", "places", "[[I", true)
def tyX3 : Nat → FieldType := fun k => match k with
  | 0 => .int
  | 1 => .array .int
  | _ => .array (.array .int)
abbrev wsX30 : List Cond := u_ws RX3 TX3 3
theorem nmX3 : ∀ a, a < 3 → ∀ b, b < 3 → a ≠ b → (TX3 a).2.1 ≠ (TX3 b).2.1 := by decide +kernel
theorem tyX3_ok : ∀ k, k < 3 → parseFieldDescriptor (TX3 k).2.2.1 = some (tyX3 k) := by decide +kernel
abbrev cX3_init : ByteArray := prog_5_method_1_code
def yX3_init : MethodName := ⟨RX3, "<init>", "(II)V"⟩
abbrev cX3_hasNumber : ByteArray := prog_5_method_2_code
def yX3_hasNumber : MethodName := ⟨RX3, "hasNumber", "(I)Z"⟩
abbrev cX3_isThere : ByteArray := prog_5_method_3_code
def yX3_isThere : MethodName := ⟨RX3, "isThere", "(I)Z"⟩
abbrev cX3_hasRun : ByteArray := prog_5_method_4_code
def yX3_hasRun : MethodName := ⟨RX3, "hasRun", "(III)Z"⟩
abbrev cX3_sizeOf : ByteArray := prog_5_method_5_code
def yX3_sizeOf : MethodName := ⟨RX3, "sizeOf", "(I)I"⟩
abbrev cX3_get : ByteArray := prog_5_method_6_code
def yX3_get : MethodName := ⟨RX3, "get", "(II)I"⟩
abbrev cX3_set : ByteArray := prog_5_method_7_code
def yX3_set : MethodName := ⟨RX3, "set", "(III)V"⟩
abbrev cX3_make : ByteArray := prog_5_method_8_code
def yX3_make : MethodName := ⟨RX3, "make", "(III)V"⟩
abbrev cX3_remove : ByteArray := prog_5_method_9_code
def yX3_remove : MethodName := ⟨RX3, "remove", "(I)V"⟩
abbrev cX3_move : ByteArray := prog_5_method_10_code
def yX3_move : MethodName := ⟨RX3, "move", "(IIIII)V"⟩
abbrev cX3_sumOf : ByteArray := prog_5_method_11_code
def yX3_sumOf : MethodName := ⟨RX3, "sumOf", "(I)J"⟩
abbrev cX3_thereCount : ByteArray := prog_5_method_12_code
def yX3_thereCount : MethodName := ⟨RX3, "thereCount", "()I"⟩
abbrev cX3_mixInto : ByteArray := prog_5_method_13_code
def yX3_mixInto : MethodName := ⟨RX3, "mixInto", "(J)J"⟩
def RX4 : String := "PoundCat$Told"
def TX4 : u_T := fun k => match k with
  | 0 => ("PoundCat$Told", "often", "[I", true)
  | 1 => ("PoundCat$Told", "asked", "I", false)
  | 2 => ("PoundCat$Told", "above", "J", false)
  | 3 => ("PoundCat$Told", "below", "J", false)
  | _ => ("PoundCat$Told", "latest", "I", false)
def tyX4 : Nat → FieldType := fun k => match k with
  | 0 => .array .int
  | 1 => .int
  | 2 => .long
  | 3 => .long
  | _ => .int
abbrev wsX40 : List Cond := u_ws RX4 TX4 5
theorem nmX4 : ∀ a, a < 5 → ∀ b, b < 5 → a ≠ b → (TX4 a).2.1 ≠ (TX4 b).2.1 := by decide +kernel
theorem tyX4_ok : ∀ k, k < 5 → parseFieldDescriptor (TX4 k).2.2.1 = some (tyX4 k) := by decide +kernel
abbrev cX4_init : ByteArray := prog_6_method_1_code
def yX4_init : MethodName := ⟨RX4, "<init>", "()V"⟩
abbrev cX4_answerFinding : ByteArray := prog_6_method_2_code
def yX4_answerFinding : MethodName := ⟨RX4, "answerFinding", "(I)I"⟩
abbrev cX4_tell : ByteArray := prog_6_method_3_code
def yX4_tell : MethodName := ⟨RX4, "tell", "(JJ)V"⟩
abbrev cX4_greatestDivisor : ByteArray := prog_6_method_4_code
def yX4_greatestDivisor : MethodName := ⟨RX4, "greatestDivisor", "(JJ)J"⟩
def RX5 : String := "PoundCat$Town"
def TX5 : u_T := fun k => match k with
  | 0 => ("PoundCat$Town", "kindOf", "[I", true)
  | 1 => ("PoundCat$Town", "appetite", "[I", true)
  | 2 => ("PoundCat$Town", "firstWeight", "[I", true)
  | 3 => ("PoundCat$Town", "weight", "[I", true)
  | 4 => ("PoundCat$Town", "deeds", "[I", true)
  | 5 => ("PoundCat$Town", "keptCount", "[I", true)
  | 6 => ("PoundCat$Town", "keptDeeds", "[[I", true)
  | 7 => ("PoundCat$Town", "cats", "I", false)
  | 8 => ("PoundCat$Town", "dog", "I", false)
  | 9 => ("PoundCat$Town", "hour", "I", false)
  | 10 => ("PoundCat$Town", "ruler", "I", false)
  | 11 => ("PoundCat$Town", "pence", "I", false)
  | 12 => ("PoundCat$Town", "goods", "I", false)
  | _ => ("PoundCat$Town", "deedCount", "I", false)
def tyX5 : Nat → FieldType := fun k => match k with
  | 0 => .array .int
  | 1 => .array .int
  | 2 => .array .int
  | 3 => .array .int
  | 4 => .array .int
  | 5 => .array .int
  | 6 => .array (.array .int)
  | 7 => .int
  | 8 => .int
  | 9 => .int
  | 10 => .int
  | 11 => .int
  | 12 => .int
  | _ => .int
abbrev wsX50 : List Cond := u_ws RX5 TX5 14
theorem nmX5 : ∀ a, a < 14 → ∀ b, b < 14 → a ≠ b → (TX5 a).2.1 ≠ (TX5 b).2.1 := by decide +kernel
theorem tyX5_ok : ∀ k, k < 14 → parseFieldDescriptor (TX5 k).2.2.1 = some (tyX5 k) := by decide +kernel
abbrev cX5_init : ByteArray := prog_7_method_1_code
def yX5_init : MethodName := ⟨RX5, "<init>", "()V"⟩
abbrev cX5_begin : ByteArray := prog_7_method_2_code
def yX5_begin : MethodName := ⟨RX5, "begin", "(LPoundCat$Reader;)V"⟩
abbrev cX5_isCat : ByteArray := prog_7_method_3_code
def yX5_isCat : MethodName := ⟨RX5, "isCat", "(I)Z"⟩
abbrev cX5_pound : ByteArray := prog_7_method_4_code
def yX5_pound : MethodName := ⟨RX5, "pound", "()I"⟩
abbrev cX5_rulerKind : ByteArray := prog_7_method_5_code
def yX5_rulerKind : MethodName := ⟨RX5, "rulerKind", "()I"⟩
abbrev cX5_rulerMeal : ByteArray := prog_7_method_6_code
def yX5_rulerMeal : MethodName := ⟨RX5, "rulerMeal", "()I"⟩
abbrev cX5_mealAdds : ByteArray := prog_7_method_7_code
def yX5_mealAdds : MethodName := ⟨RX5, "mealAdds", "(I)I"⟩
abbrev cX5_trait : ByteArray := prog_7_method_8_code
def yX5_trait : MethodName := ⟨RX5, "trait", "(II)I"⟩
abbrev cX5_countOf : ByteArray := prog_7_method_9_code
def yX5_countOf : MethodName := ⟨RX5, "countOf", "(I)I"⟩
abbrev cX5_weightOfSet : ByteArray := prog_7_method_10_code
def yX5_weightOfSet : MethodName := ⟨RX5, "weightOfSet", "(I)I"⟩
abbrev cX5_hasRoomFor : ByteArray := prog_7_method_11_code
def yX5_hasRoomFor : MethodName := ⟨RX5, "hasRoomFor", "(I)Z"⟩
abbrev cX5_hasGoodsFor : ByteArray := prog_7_method_12_code
def yX5_hasGoodsFor : MethodName := ⟨RX5, "hasGoodsFor", "(I)Z"⟩
abbrev cX5_doDeed : ByteArray := prog_7_method_13_code
def yX5_doDeed : MethodName := ⟨RX5, "doDeed", "(I)V"⟩
abbrev cX5_act : ByteArray := prog_7_method_14_code
def yX5_act : MethodName := ⟨RX5, "act", "(I)V"⟩
abbrev cX5_passHour : ByteArray := prog_7_method_15_code
def yX5_passHour : MethodName := ⟨RX5, "passHour", "()V"⟩
abbrev cX5_replay : ByteArray := prog_7_method_16_code
def yX5_replay : MethodName := ⟨RX5, "replay", "(I)V"⟩
abbrev cX5_hasKeptNumber : ByteArray := prog_7_method_17_code
def yX5_hasKeptNumber : MethodName := ⟨RX5, "hasKeptNumber", "(I)Z"⟩
abbrev cX5_store : ByteArray := prog_7_method_18_code
def yX5_store : MethodName := ⟨RX5, "store", "(I)V"⟩
abbrev cX5_restore : ByteArray := prog_7_method_19_code
def yX5_restore : MethodName := ⟨RX5, "restore", "(I)V"⟩
abbrev cX5_keptTowns : ByteArray := prog_7_method_20_code
def yX5_keptTowns : MethodName := ⟨RX5, "keptTowns", "()I"⟩
def RX6 : String := "PoundCat"
def TX6 : u_T := fun k => match k with
  | 0 => ("PoundCat", "rowShelf", "LPoundCat$Shelf;", true)
  | 1 => ("PoundCat", "textShelf", "LPoundCat$Shelf;", true)
  | 2 => ("PoundCat", "reader", "LPoundCat$Reader;", true)
  | 3 => ("PoundCat", "now", "LPoundCat$Town;", true)
  | 4 => ("PoundCat", "outlook", "LPoundCat$Outlook;", true)
  | _ => ("PoundCat", "told", "LPoundCat$Told;", true)
def tyX6 : Nat → FieldType := fun k => match k with
  | 0 => .object "PoundCat$Shelf"
  | 1 => .object "PoundCat$Shelf"
  | 2 => .object "PoundCat$Reader"
  | 3 => .object "PoundCat$Town"
  | 4 => .object "PoundCat$Outlook"
  | _ => .object "PoundCat$Told"
abbrev wsX60 : List Cond := u_ws RX6 TX6 6
theorem nmX6 : ∀ a, a < 6 → ∀ b, b < 6 → a ≠ b → (TX6 a).2.1 ≠ (TX6 b).2.1 := by decide +kernel
theorem tyX6_ok : ∀ k, k < 6 → parseFieldDescriptor (TX6 k).2.2.1 = some (tyX6 k) := by decide +kernel
abbrev cX6_init : ByteArray := prog_1_method_1_code
def yX6_init : MethodName := ⟨RX6, "<init>", "()V"⟩
abbrev cX6_row : ByteArray := prog_1_method_2_code
def yX6_row : MethodName := ⟨RX6, "row", "(II)I"⟩
abbrev cX6_lay : ByteArray := prog_1_method_3_code
def yX6_lay : MethodName := ⟨RX6, "lay", "(III)I"⟩
abbrev cX6_at : ByteArray := prog_1_method_4_code
def yX6_at : MethodName := ⟨RX6, "at", "(II)I"⟩
abbrev cX6_tear : ByteArray := prog_1_method_5_code
def yX6_tear : MethodName := ⟨RX6, "tear", "(I)I"⟩
abbrev cX6_copy : ByteArray := prog_1_method_6_code
def yX6_copy : MethodName := ⟨RX6, "copy", "(IIIII)I"⟩
abbrev cX6_mean : ByteArray := prog_1_method_7_code
def yX6_mean : MethodName := ⟨RX6, "mean", "(I)I"⟩
abbrev cX6_text : ByteArray := prog_1_method_8_code
def yX6_text : MethodName := ⟨RX6, "text", "(II)I"⟩
abbrev cX6_put : ByteArray := prog_1_method_9_code
def yX6_put : MethodName := ⟨RX6, "put", "(III)I"⟩
abbrev cX6_fault : ByteArray := prog_1_method_10_code
def yX6_fault : MethodName := ⟨RX6, "fault", "(I)I"⟩
abbrev cX6_town : ByteArray := prog_1_method_11_code
def yX6_town : MethodName := ⟨RX6, "town", "(I)I"⟩
abbrev cX6_cat : ByteArray := prog_1_method_12_code
def yX6_cat : MethodName := ⟨RX6, "cat", "(II)I"⟩
abbrev cX6_mark : ByteArray := prog_1_method_13_code
def yX6_mark : MethodName := ⟨RX6, "mark", "(II)I"⟩
abbrev cX6_hour : ByteArray := prog_1_method_14_code
def yX6_hour : MethodName := ⟨RX6, "hour", "()I"⟩
abbrev cX6_feed : ByteArray := prog_1_method_15_code
def yX6_feed : MethodName := ⟨RX6, "feed", "(I)I"⟩
abbrev cX6_buy : ByteArray := prog_1_method_16_code
def yX6_buy : MethodName := ⟨RX6, "buy", "(I)I"⟩
abbrev cX6_sell : ByteArray := prog_1_method_17_code
def yX6_sell : MethodName := ⟨RX6, "sell", "(I)I"⟩
abbrev cX6_rule : ByteArray := prog_1_method_18_code
def yX6_rule : MethodName := ⟨RX6, "rule", "(I)I"⟩
abbrev cX6_undo : ByteArray := prog_1_method_19_code
def yX6_undo : MethodName := ⟨RX6, "undo", "(I)I"⟩
abbrev cX6_keep : ByteArray := prog_1_method_20_code
def yX6_keep : MethodName := ⟨RX6, "keep", "(I)I"⟩
abbrev cX6_on : ByteArray := prog_1_method_21_code
def yX6_on : MethodName := ⟨RX6, "on", "(I)I"⟩
abbrev cX6_weighs : ByteArray := prog_1_method_22_code
def yX6_weighs : MethodName := ⟨RX6, "weighs", "(II)I"⟩
abbrev cX6_when : ByteArray := prog_1_method_23_code
def yX6_when : MethodName := ⟨RX6, "when", "(II)I"⟩
abbrev cX6_steady : ByteArray := prog_1_method_24_code
def yX6_steady : MethodName := ⟨RX6, "steady", "(I)I"⟩
abbrev cX6_meals : ByteArray := prog_1_method_25_code
def yX6_meals : MethodName := ⟨RX6, "meals", "(III)I"⟩
abbrev cX6_gain : ByteArray := prog_1_method_26_code
def yX6_gain : MethodName := ⟨RX6, "gain", "(II)I"⟩
abbrev cX6_ring : ByteArray := prog_1_method_27_code
def yX6_ring : MethodName := ⟨RX6, "ring", "(I)I"⟩
abbrev cX6_plan : ByteArray := prog_1_method_28_code
def yX6_plan : MethodName := ⟨RX6, "plan", "(II)I"⟩
abbrev cX6_sacks : ByteArray := prog_1_method_29_code
def yX6_sacks : MethodName := ⟨RX6, "sacks", "(I)I"⟩
abbrev cX6_sure : ByteArray := prog_1_method_30_code
def yX6_sure : MethodName := ⟨RX6, "sure", "(I)I"⟩
abbrev cX6_ask : ByteArray := prog_1_method_31_code
def yX6_ask : MethodName := ⟨RX6, "ask", "(I)I"⟩
abbrev cX6_kinds : ByteArray := prog_1_method_32_code
def yX6_kinds : MethodName := ⟨RX6, "kinds", "(II)I"⟩
abbrev cX6_weights : ByteArray := prog_1_method_33_code
def yX6_weights : MethodName := ⟨RX6, "weights", "(II)I"⟩
abbrev cX6_test : ByteArray := prog_1_method_34_code
def yX6_test : MethodName := ⟨RX6, "test", "(II)I"⟩
abbrev cX6_fright : ByteArray := prog_1_method_35_code
def yX6_fright : MethodName := ⟨RX6, "fright", "(I)I"⟩
abbrev cX6_odds : ByteArray := prog_1_method_36_code
def yX6_odds : MethodName := ⟨RX6, "odds", "(IIII)I"⟩
abbrev cX6_mid : ByteArray := prog_1_method_37_code
def yX6_mid : MethodName := ⟨RX6, "mid", "(III)I"⟩
abbrev cX6_lots : ByteArray := prog_1_method_38_code
def yX6_lots : MethodName := ⟨RX6, "lots", "(II)I"⟩
abbrev cX6_asked : ByteArray := prog_1_method_39_code
def yX6_asked : MethodName := ⟨RX6, "asked", "()I"⟩
abbrev cX6_upper : ByteArray := prog_1_method_40_code
def yX6_upper : MethodName := ⟨RX6, "upper", "()J"⟩
abbrev cX6_lower : ByteArray := prog_1_method_41_code
def yX6_lower : MethodName := ⟨RX6, "lower", "()J"⟩
abbrev cX6_pence : ByteArray := prog_1_method_42_code
def yX6_pence : MethodName := ⟨RX6, "pence", "()I"⟩
abbrev cX6_count : ByteArray := prog_1_method_43_code
def yX6_count : MethodName := ⟨RX6, "count", "(I)I"⟩
abbrev cX6_finding : ByteArray := prog_1_method_44_code
def yX6_finding : MethodName := ⟨RX6, "finding", "()I"⟩
abbrev cX6_findings : ByteArray := prog_1_method_45_code
def yX6_findings : MethodName := ⟨RX6, "findings", "(I)I"⟩
abbrev cX6_digest : ByteArray := prog_1_method_46_code
def yX6_digest : MethodName := ⟨RX6, "digest", "()J"⟩
abbrev cX6_isWithin : ByteArray := prog_1_method_47_code
def yX6_isWithin : MethodName := ⟨RX6, "isWithin", "(III)Z"⟩
abbrev cX6_makeAnew : ByteArray := prog_1_method_48_code
def yX6_makeAnew : MethodName := ⟨RX6, "makeAnew", "(LPoundCat$Shelf;III)I"⟩
abbrev cX6_refuseMissing : ByteArray := prog_1_method_49_code
def yX6_refuseMissing : MethodName := ⟨RX6, "refuseMissing", "(LPoundCat$Shelf;I)I"⟩
abbrev cX6_refusePlace : ByteArray := prog_1_method_50_code
def yX6_refusePlace : MethodName := ⟨RX6, "refusePlace", "(LPoundCat$Shelf;II)I"⟩
abbrev cX6_refuseLedger : ByteArray := prog_1_method_51_code
def yX6_refuseLedger : MethodName := ⟨RX6, "refuseLedger", "(II)I"⟩
abbrev cX6_lookAhead : ByteArray := prog_1_method_52_code
def yX6_lookAhead : MethodName := ⟨RX6, "lookAhead", "(II)V"⟩
abbrev cX6_lookAtPound : ByteArray := prog_1_method_53_code
def yX6_lookAtPound : MethodName := ⟨RX6, "lookAtPound", "(I)V"⟩
abbrev cX6_planWorth : ByteArray := prog_1_method_54_code
def yX6_planWorth : MethodName := ⟨RX6, "planWorth", "(II)I"⟩
abbrev cX6_isFedAhead : ByteArray := prog_1_method_55_code
def yX6_isFedAhead : MethodName := ⟨RX6, "isFedAhead", "(III)Z"⟩
abbrev cX6_setCount : ByteArray := prog_1_method_56_code
def yX6_setCount : MethodName := ⟨RX6, "setCount", "()I"⟩
abbrev cX6_setsOf : ByteArray := prog_1_method_57_code
def yX6_setsOf : MethodName := ⟨RX6, "setsOf", "(I)I"⟩
abbrev cX6_setsWith : ByteArray := prog_1_method_58_code
def yX6_setsWith : MethodName := ⟨RX6, "setsWith", "(II)I"⟩
abbrev cX6_holdsPairs : ByteArray := prog_1_method_59_code
def yX6_holdsPairs : MethodName := ⟨RX6, "holdsPairs", "(I)Z"⟩
abbrev cX6_fitsLedger : ByteArray := prog_1_method_60_code
def yX6_fitsLedger : MethodName := ⟨RX6, "fitsLedger", "(III)Z"⟩
abbrev cX6_kindsFitting : ByteArray := prog_1_method_61_code
def yX6_kindsFitting : MethodName := ⟨RX6, "kindsFitting", "(II)I"⟩
abbrev cX6_weightByMice : ByteArray := prog_1_method_62_code
def yX6_weightByMice : MethodName := ⟨RX6, "weightByMice", "(III)I"⟩
abbrev cX6_shareOf : ByteArray := prog_1_method_63_code
def yX6_shareOf : MethodName := ⟨RX6, "shareOf", "(III)J"⟩
abbrev cX6_wholeOf : ByteArray := prog_1_method_64_code
def yX6_wholeOf : MethodName := ⟨RX6, "wholeOf", "(I)J"⟩
abbrev cX6_deedByLot : ByteArray := prog_1_method_65_code
def yX6_deedByLot : MethodName := ⟨RX6, "deedByLot", "(J)I"⟩
def RX7 : String := "PoundCatModel"
def TX7 : u_T := fun k => match k with
  | 0 => ("PoundCatModel", "rowSizes", "[I", true)
  | 1 => ("PoundCatModel", "rows", "[I", true)
  | 2 => ("PoundCatModel", "textSizes", "[I", true)
  | 3 => ("PoundCatModel", "texts", "[I", true)
  | 4 => ("PoundCatModel", "cats", "I", false)
  | 5 => ("PoundCatModel", "dog", "I", false)
  | 6 => ("PoundCatModel", "kinds", "[I", true)
  | 7 => ("PoundCatModel", "appetites", "[I", true)
  | 8 => ("PoundCatModel", "now", "[I", true)
  | 9 => ("PoundCatModel", "deeds", "I", false)
  | 10 => ("PoundCatModel", "before", "[I", true)
  | 11 => ("PoundCatModel", "keeps", "[I", true)
  | 12 => ("PoundCatModel", "kept", "[Z", true)
  | 13 => ("PoundCatModel", "asked", "I", false)
  | 14 => ("PoundCatModel", "upper", "J", false)
  | 15 => ("PoundCatModel", "lower", "J", false)
  | 16 => ("PoundCatModel", "finding", "I", false)
  | 17 => ("PoundCatModel", "findings", "[I", true)
  | 18 => ("PoundCatModel", "here", "I", false)
  | 19 => ("PoundCatModel", "readDog", "I", false)
  | 20 => ("PoundCatModel", "readCats", "I", false)
  | 21 => ("PoundCatModel", "readCat", "[I", true)
  | 22 => ("PoundCatModel", "figure", "I", false)
  | 23 => ("PoundCatModel", "weighed", "I", false)
  | 24 => ("PoundCatModel", "given", "[I", true)
  | 25 => ("PoundCatModel", "best", "[I", true)
  | 26 => ("PoundCatModel", "steps", "[I", true)
  | 27 => ("PoundCatModel", "tried", "[I", true)
  | _ => ("PoundCatModel", "bests", "[I", true)
def tyX7 : Nat → FieldType := fun k => match k with
  | 0 => .array .int
  | 1 => .array .int
  | 2 => .array .int
  | 3 => .array .int
  | 4 => .int
  | 5 => .int
  | 6 => .array .int
  | 7 => .array .int
  | 8 => .array .int
  | 9 => .int
  | 10 => .array .int
  | 11 => .array .int
  | 12 => .array .boolean
  | 13 => .int
  | 14 => .long
  | 15 => .long
  | 16 => .int
  | 17 => .array .int
  | 18 => .int
  | 19 => .int
  | 20 => .int
  | 21 => .array .int
  | 22 => .int
  | 23 => .int
  | 24 => .array .int
  | 25 => .array .int
  | 26 => .array .int
  | 27 => .array .int
  | _ => .array .int
abbrev wsX70 : List Cond := u_ws RX7 TX7 29
theorem nmX7 : ∀ a, a < 29 → ∀ b, b < 29 → a ≠ b → (TX7 a).2.1 ≠ (TX7 b).2.1 := by decide +kernel
theorem tyX7_ok : ∀ k, k < 29 → parseFieldDescriptor (TX7 k).2.2.1 = some (tyX7 k) := by decide +kernel
abbrev cX7_init : ByteArray := prog_9_method_1_code
def yX7_init : MethodName := ⟨RX7, "<init>", "()V"⟩
abbrev cX7_in : ByteArray := prog_9_method_3_code
def yX7_in : MethodName := ⟨RX7, "in", "(JJJ)Z"⟩
abbrev cX7_has : ByteArray := prog_9_method_4_code
def yX7_has : MethodName := ⟨RX7, "has", "(II)Z"⟩
abbrev cX7_found : ByteArray := prog_9_method_6_code
def yX7_found : MethodName := ⟨RX7, "found", "(I)I"⟩
abbrev cX7_tell : ByteArray := prog_9_method_7_code
def yX7_tell : MethodName := ⟨RX7, "tell", "(I)I"⟩
abbrev cX7_answer : ByteArray := prog_9_method_8_code
def yX7_answer : MethodName := ⟨RX7, "answer", "(II)I"⟩
abbrev cX7_isRow : ByteArray := prog_9_method_9_code
def yX7_isRow : MethodName := ⟨RX7, "isRow", "(I)Z"⟩
abbrev cX7_isText : ByteArray := prog_9_method_10_code
def yX7_isText : MethodName := ⟨RX7, "isText", "(I)Z"⟩
abbrev cX7_row : ByteArray := prog_9_method_11_code
def yX7_row : MethodName := ⟨RX7, "row", "(II)I"⟩
abbrev cX7_lay : ByteArray := prog_9_method_12_code
def yX7_lay : MethodName := ⟨RX7, "lay", "(III)I"⟩
abbrev cX7_at : ByteArray := prog_9_method_13_code
def yX7_at : MethodName := ⟨RX7, "at", "(II)I"⟩
abbrev cX7_tear : ByteArray := prog_9_method_14_code
def yX7_tear : MethodName := ⟨RX7, "tear", "(I)I"⟩
abbrev cX7_copy : ByteArray := prog_9_method_15_code
def yX7_copy : MethodName := ⟨RX7, "copy", "(IIIII)I"⟩
abbrev cX7_mean : ByteArray := prog_9_method_16_code
def yX7_mean : MethodName := ⟨RX7, "mean", "(I)I"⟩
abbrev cX7_text : ByteArray := prog_9_method_17_code
def yX7_text : MethodName := ⟨RX7, "text", "(II)I"⟩
abbrev cX7_put : ByteArray := prog_9_method_18_code
def yX7_put : MethodName := ⟨RX7, "put", "(III)I"⟩
abbrev cX7_byteAt : ByteArray := prog_9_method_19_code
def yX7_byteAt : MethodName := ⟨RX7, "byteAt", "(I)I"⟩
abbrev cX7_blanks : ByteArray := prog_9_method_20_code
def yX7_blanks : MethodName := ⟨RX7, "blanks", "(I)V"⟩
abbrev cX7_kindOf : ByteArray := prog_9_method_21_code
def yX7_kindOf : MethodName := ⟨RX7, "kindOf", "(I)I"⟩
abbrev cX7_takes : ByteArray := prog_9_method_22_code
def yX7_takes : MethodName := ⟨RX7, "takes", "(II)Z"⟩
abbrev cX7_takesWeight : ByteArray := prog_9_method_23_code
def yX7_takesWeight : MethodName := ⟨RX7, "takesWeight", "(I)Z"⟩
abbrev cX7_readsDog : ByteArray := prog_9_method_24_code
def yX7_readsDog : MethodName := ⟨RX7, "readsDog", "(I)Z"⟩
abbrev cX7_readsCat : ByteArray := prog_9_method_25_code
def yX7_readsCat : MethodName := ⟨RX7, "readsCat", "(I)Z"⟩
abbrev cX7_faultOf : ByteArray := prog_9_method_26_code
def yX7_faultOf : MethodName := ⟨RX7, "faultOf", "(I)I"⟩
abbrev cX7_fault : ByteArray := prog_9_method_27_code
def yX7_fault : MethodName := ⟨RX7, "fault", "(I)I"⟩
abbrev cX7_town : ByteArray := prog_9_method_28_code
def yX7_town : MethodName := ⟨RX7, "town", "(I)I"⟩
abbrev cX7_isCat : ByteArray := prog_9_method_29_code
def yX7_isCat : MethodName := ⟨RX7, "isCat", "(I)Z"⟩
abbrev cX7_meal : ByteArray := prog_9_method_30_code
def yX7_meal : MethodName := ⟨RX7, "meal", "(II)I"⟩
abbrev cX7_changes : ByteArray := prog_9_method_31_code
def yX7_changes : MethodName := ⟨RX7, "changes", "(IIZ)I"⟩
abbrev cX7_bound : ByteArray := prog_9_method_32_code
def yX7_bound : MethodName := ⟨RX7, "bound", "(I)I"⟩
abbrev cX7_after : ByteArray := prog_9_method_33_code
def yX7_after : MethodName := ⟨RX7, "after", "(III)I"⟩
abbrev cX7_afterOf : ByteArray := prog_9_method_34_code
def yX7_afterOf : MethodName := ⟨RX7, "afterOf", "(II)I"⟩
abbrev cX7_poundIn : ByteArray := prog_9_method_35_code
def yX7_poundIn : MethodName := ⟨RX7, "poundIn", "(I)I"⟩
abbrev cX7_pound : ByteArray := prog_9_method_36_code
def yX7_pound : MethodName := ⟨RX7, "pound", "()I"⟩
abbrev cX7_abs : ByteArray := prog_9_method_37_code
def yX7_abs : MethodName := ⟨RX7, "abs", "(I)I"⟩
abbrev cX7_told : ByteArray := prog_9_method_38_code
def yX7_told : MethodName := ⟨RX7, "told", "(II)I"⟩
abbrev cX7_cat : ByteArray := prog_9_method_39_code
def yX7_cat : MethodName := ⟨RX7, "cat", "(II)I"⟩
abbrev cX7_isOf : ByteArray := prog_9_method_40_code
def yX7_isOf : MethodName := ⟨RX7, "isOf", "(II)Z"⟩
abbrev cX7_kindsOf : ByteArray := prog_9_method_41_code
def yX7_kindsOf : MethodName := ⟨RX7, "kindsOf", "(I)I"⟩
abbrev cX7_mark : ByteArray := prog_9_method_42_code
def yX7_mark : MethodName := ⟨RX7, "mark", "(II)I"⟩
abbrev cX7_copies : ByteArray := prog_9_method_43_code
def yX7_copies : MethodName := ⟨RX7, "copies", "([II[III)V"⟩
abbrev cX7_remember : ByteArray := prog_9_method_44_code
def yX7_remember : MethodName := ⟨RX7, "remember", "()V"⟩
abbrev cX7_hourGoes : ByteArray := prog_9_method_45_code
def yX7_hourGoes : MethodName := ⟨RX7, "hourGoes", "()V"⟩
abbrev cX7_eats : ByteArray := prog_9_method_46_code
def yX7_eats : MethodName := ⟨RX7, "eats", "(I)V"⟩
abbrev cX7_buys : ByteArray := prog_9_method_47_code
def yX7_buys : MethodName := ⟨RX7, "buys", "(I)V"⟩
abbrev cX7_hour : ByteArray := prog_9_method_48_code
def yX7_hour : MethodName := ⟨RX7, "hour", "()I"⟩
abbrev cX7_feed : ByteArray := prog_9_method_49_code
def yX7_feed : MethodName := ⟨RX7, "feed", "(I)I"⟩
abbrev cX7_buy : ByteArray := prog_9_method_50_code
def yX7_buy : MethodName := ⟨RX7, "buy", "(I)I"⟩
abbrev cX7_sell : ByteArray := prog_9_method_51_code
def yX7_sell : MethodName := ⟨RX7, "sell", "(I)I"⟩
abbrev cX7_rule : ByteArray := prog_9_method_52_code
def yX7_rule : MethodName := ⟨RX7, "rule", "(I)I"⟩
abbrev cX7_undo : ByteArray := prog_9_method_53_code
def yX7_undo : MethodName := ⟨RX7, "undo", "(I)I"⟩
abbrev cX7_keep : ByteArray := prog_9_method_54_code
def yX7_keep : MethodName := ⟨RX7, "keep", "(I)I"⟩
abbrev cX7_on : ByteArray := prog_9_method_55_code
def yX7_on : MethodName := ⟨RX7, "on", "(I)I"⟩
abbrev cX7_weighs : ByteArray := prog_9_method_56_code
def yX7_weighs : MethodName := ⟨RX7, "weighs", "(II)I"⟩
abbrev cX7_when : ByteArray := prog_9_method_57_code
def yX7_when : MethodName := ⟨RX7, "when", "(II)I"⟩
abbrev cX7_steady : ByteArray := prog_9_method_58_code
def yX7_steady : MethodName := ⟨RX7, "steady", "(I)I"⟩
abbrev cX7_meals : ByteArray := prog_9_method_59_code
def yX7_meals : MethodName := ⟨RX7, "meals", "(III)I"⟩
abbrev cX7_gain : ByteArray := prog_9_method_60_code
def yX7_gain : MethodName := ⟨RX7, "gain", "(II)I"⟩
abbrev cX7_ring : ByteArray := prog_9_method_61_code
def yX7_ring : MethodName := ⟨RX7, "ring", "(I)I"⟩
abbrev cX7_planned : ByteArray := prog_9_method_62_code
def yX7_planned : MethodName := ⟨RX7, "planned", "(II)I"⟩
abbrev cX7_plan : ByteArray := prog_9_method_63_code
def yX7_plan : MethodName := ⟨RX7, "plan", "(II)I"⟩
abbrev cX7_isSack : ByteArray := prog_9_method_64_code
def yX7_isSack : MethodName := ⟨RX7, "isSack", "(II)Z"⟩
abbrev cX7_fraction : ByteArray := prog_9_method_65_code
def yX7_fraction : MethodName := ⟨RX7, "fraction", "(JJ)I"⟩
abbrev cX7_refuses : ByteArray := prog_9_method_66_code
def yX7_refuses : MethodName := ⟨RX7, "refuses", "(I)I"⟩
abbrev cX7_sacks : ByteArray := prog_9_method_67_code
def yX7_sacks : MethodName := ⟨RX7, "sacks", "(I)I"⟩
abbrev cX7_sure : ByteArray := prog_9_method_68_code
def yX7_sure : MethodName := ⟨RX7, "sure", "(I)I"⟩
abbrev cX7_ask : ByteArray := prog_9_method_69_code
def yX7_ask : MethodName := ⟨RX7, "ask", "(I)I"⟩
abbrev cX7_wrongPairs : ByteArray := prog_9_method_70_code
def yX7_wrongPairs : MethodName := ⟨RX7, "wrongPairs", "(I)I"⟩
abbrev cX7_isSo : ByteArray := prog_9_method_71_code
def yX7_isSo : MethodName := ⟨RX7, "isSo", "(III)Z"⟩
abbrev cX7_kindsBy : ByteArray := prog_9_method_72_code
def yX7_kindsBy : MethodName := ⟨RX7, "kindsBy", "(II)I"⟩
abbrev cX7_kinds : ByteArray := prog_9_method_73_code
def yX7_kinds : MethodName := ⟨RX7, "kinds", "(II)I"⟩
abbrev cX7_weights : ByteArray := prog_9_method_74_code
def yX7_weights : MethodName := ⟨RX7, "weights", "(II)I"⟩
abbrev cX7_alike : ByteArray := prog_9_method_75_code
def yX7_alike : MethodName := ⟨RX7, "alike", "(III)I"⟩
abbrev cX7_test : ByteArray := prog_9_method_76_code
def yX7_test : MethodName := ⟨RX7, "test", "(II)I"⟩
abbrev cX7_beginsStep : ByteArray := prog_9_method_77_code
def yX7_beginsStep : MethodName := ⟨RX7, "beginsStep", "(I)V"⟩
abbrev cX7_weighsIt : ByteArray := prog_9_method_78_code
def yX7_weighsIt : MethodName := ⟨RX7, "weighsIt", "(II)V"⟩
abbrev cX7_goesOn : ByteArray := prog_9_method_79_code
def yX7_goesOn : MethodName := ⟨RX7, "goesOn", "(I)V"⟩
abbrev cX7_fright : ByteArray := prog_9_method_80_code
def yX7_fright : MethodName := ⟨RX7, "fright", "(I)I"⟩
abbrev cX7_chances : ByteArray := prog_9_method_81_code
def yX7_chances : MethodName := ⟨RX7, "chances", "(IIII)I"⟩
abbrev cX7_odds : ByteArray := prog_9_method_82_code
def yX7_odds : MethodName := ⟨RX7, "odds", "(IIII)I"⟩
abbrev cX7_mid : ByteArray := prog_9_method_83_code
def yX7_mid : MethodName := ⟨RX7, "mid", "(III)I"⟩
abbrev cX7_plays : ByteArray := prog_9_method_84_code
def yX7_plays : MethodName := ⟨RX7, "plays", "(II)V"⟩
abbrev cX7_lots : ByteArray := prog_9_method_85_code
def yX7_lots : MethodName := ⟨RX7, "lots", "(II)I"⟩
abbrev cX7_asked : ByteArray := prog_9_method_86_code
def yX7_asked : MethodName := ⟨RX7, "asked", "()I"⟩
abbrev cX7_upper : ByteArray := prog_9_method_87_code
def yX7_upper : MethodName := ⟨RX7, "upper", "()J"⟩
abbrev cX7_lower : ByteArray := prog_9_method_88_code
def yX7_lower : MethodName := ⟨RX7, "lower", "()J"⟩
abbrev cX7_pence : ByteArray := prog_9_method_89_code
def yX7_pence : MethodName := ⟨RX7, "pence", "()I"⟩
abbrev cX7_counted : ByteArray := prog_9_method_90_code
def yX7_counted : MethodName := ⟨RX7, "counted", "(I)I"⟩
abbrev cX7_count : ByteArray := prog_9_method_91_code
def yX7_count : MethodName := ⟨RX7, "count", "(I)I"⟩
abbrev cX7_finding : ByteArray := prog_9_method_92_code
def yX7_finding : MethodName := ⟨RX7, "finding", "()I"⟩
abbrev cX7_findings : ByteArray := prog_9_method_93_code
def yX7_findings : MethodName := ⟨RX7, "findings", "(I)I"⟩
abbrev cX7_digest : ByteArray := prog_9_method_94_code
def yX7_digest : MethodName := ⟨RX7, "digest", "()J"⟩
def RJ9 : String := "java/lang/Math"
def TJ9 : u_T := fun k => match k with
  | _ => ("", "", "", false)
def tyJ9 : Nat → FieldType := fun k => match k with
  | _ => .int
abbrev wsJ90 : List Cond := u_ws RJ9 TJ9 0
theorem nmJ9 : ∀ a, a < 0 → ∀ b, b < 0 → a ≠ b → (TJ9 a).2.1 ≠ (TJ9 b).2.1 := by decide +kernel
theorem tyJ9_ok : ∀ k, k < 0 → parseFieldDescriptor (TJ9 k).2.2.1 = some (tyJ9 k) := by decide +kernel
abbrev cJ9_abs_0f7a4 : ByteArray := prog_10_method_59_code
def yJ9_abs_0f7a4 : MethodName := ⟨RJ9, "abs", "(I)I"⟩
abbrev cJ9_max_7cf53 : ByteArray := prog_10_method_65_code
def yJ9_max_7cf53 : MethodName := ⟨RJ9, "max", "(II)I"⟩
abbrev cJ9_min_7cf53 : ByteArray := prog_10_method_69_code
def yJ9_min_7cf53 : MethodName := ⟨RJ9, "min", "(II)I"⟩
def RJ10 : String := "java/lang/System"
def TJ10 : u_T := fun k => match k with
  | _ => ("", "", "", false)
def tyJ10 : Nat → FieldType := fun k => match k with
  | _ => .int
abbrev wsJ100 : List Cond := u_ws RJ10 TJ10 0
theorem nmJ10 : ∀ a, a < 0 → ∀ b, b < 0 → a ≠ b → (TJ10 a).2.1 ≠ (TJ10 b).2.1 := by decide +kernel
theorem tyJ10_ok : ∀ k, k < 0 → parseFieldDescriptor (TJ10 k).2.2.1 = some (tyJ10 k) := by decide +kernel
def RL : String := "PoundCatLaw"
abbrev cL_law : ByteArray := code
abbrev vwCl : List vw_C := [(RX1, TX1, 3), (RX2, TX2, 6), (RX3, TX3, 3), (RX4, TX4, 5), (RX5, TX5, 14), (RX6, TX6, 6), (RX7, TX7, 29)]
end
section
/-- a method: its name, code, locals, what it returns, its class, whether static, its parameters, its room (frames, locals, cells, slots) -/
abbrev pv_Y : Type := MethodName × ByteArray × Nat × Option FieldType × Nat × Bool × Nat × Nat × Nat × Nat × Nat
def pv_own : Nat → String := fun k => match k with
  | 0 => RX0
  | 1 => RX1
  | 2 => RX2
  | 3 => RX3
  | 4 => RX4
  | 5 => RX5
  | 6 => RX6
  | 7 => RX7
  | 9 => RL
  | _ => RJ9
abbrev mX0_byLetter : pv_Y := (yX0_byLetter, cX0_byLetter, 1, (some .int), 0, true, 1, 0, 0, 0, 0)
abbrev mX0_isOf : pv_Y := (yX0_isOf, cX0_isOf, 2, (some .boolean), 0, true, 2, 0, 0, 0, 0)
abbrev mX0_mealAdds : pv_Y := (yX0_mealAdds, cX0_mealAdds, 2, (some .int), 0, true, 2, 0, 0, 0, 0)
abbrev mX0_hasMice : pv_Y := (yX0_hasMice, cX0_hasMice, 1, (some .boolean), 0, true, 1, 0, 0, 0, 0)
abbrev mX0_hoursToMoult : pv_Y := (yX0_hoursToMoult, cX0_hoursToMoult, 1, (some .int), 0, true, 1, 0, 0, 0, 0)
abbrev mX0_hourAdds : pv_Y := (yX0_hourAdds, cX0_hourAdds, 2, (some .int), 0, true, 2, 1, 20, 0, 0)
abbrev mX0_held : pv_Y := (yX0_held, cX0_held, 1, (some .int), 0, true, 1, 1, 21, 0, 0)
abbrev mX0_afterHour : pv_Y := (yX0_afterHour, cX0_afterHour, 3, (some .int), 0, true, 3, 2, 41, 0, 0)
abbrev mX1_init : pv_Y := (yX1_init, cX1_init, 1, none, 1, false, 0, 1, 20, 2, 67)
abbrev mX1_fill : pv_Y := (yX1_fill, cX1_fill, 6, none, 1, false, 4, 3, 63, 0, 0)
abbrev mX1_weightIn : pv_Y := (yX1_weightIn, cX1_weightIn, 2, (some .int), 1, false, 1, 0, 0, 0, 0)
abbrev mX1_firstWith : pv_Y := (yX1_firstWith, cX1_firstWith, 3, (some .int), 1, false, 1, 0, 0, 0, 0)
abbrev mX1_spread : pv_Y := (yX1_spread, cX1_spread, 4, (some .int), 1, false, 0, 1, 21, 0, 0)
abbrev mX1_poundsThen : pv_Y := (yX1_poundsThen, cX1_poundsThen, 5, (some .int), 1, false, 3, 1, 21, 0, 0)
abbrev mX1_startKinds : pv_Y := (yX1_startKinds, cX1_startKinds, 3, none, 1, false, 1, 0, 0, 0, 0)
abbrev mX1_passKinds : pv_Y := (yX1_passKinds, cX1_passKinds, 3, none, 1, false, 1, 3, 63, 0, 0)
abbrev mX1_greatestPart : pv_Y := (yX1_greatestPart, cX1_greatestPart, 4, (some .int), 1, false, 1, 1, 24, 0, 0)
abbrev mX1_alikeTo : pv_Y := (yX1_alikeTo, cX1_alikeTo, 5, (some .int), 1, false, 2, 0, 0, 0, 0)
abbrev mX2_init : pv_Y := (yX2_init, cX2_init, 1, none, 2, false, 0, 1, 20, 3, 18)
abbrev mX2_faultOf : pv_Y := (yX2_faultOf, cX2_faultOf, 5, (some .int), 2, false, 2, 5, 116, 0, 0)
abbrev mX2_signAt : pv_Y := (yX2_signAt, cX2_signAt, 3, (some .int), 2, false, 2, 1, 22, 0, 0)
abbrev mX2_skipBlanks : pv_Y := (yX2_skipBlanks, cX2_skipBlanks, 4, none, 2, false, 2, 2, 44, 0, 0)
abbrev mX2_takeDog : pv_Y := (yX2_takeDog, cX2_takeDog, 3, (some .boolean), 2, false, 2, 4, 91, 0, 0)
abbrev mX2_takeCat : pv_Y := (yX2_takeCat, cX2_takeCat, 6, (some .boolean), 2, false, 2, 4, 91, 0, 0)
abbrev mX2_takeWeight : pv_Y := (yX2_takeWeight, cX2_takeWeight, 5, (some .int), 2, false, 2, 3, 67, 0, 0)
abbrev mX2_figureAt : pv_Y := (yX2_figureAt, cX2_figureAt, 4, (some .int), 2, false, 2, 2, 44, 0, 0)
abbrev mX3_init : pv_Y := (yX3_init, cX3_init, 4, none, 3, false, 2, 1, 20, 8, 252)
abbrev mX3_hasNumber : pv_Y := (yX3_hasNumber, cX3_hasNumber, 2, (some .boolean), 3, false, 1, 0, 0, 0, 0)
abbrev mX3_isThere : pv_Y := (yX3_isThere, cX3_isThere, 2, (some .boolean), 3, false, 1, 0, 0, 0, 0)
abbrev mX3_hasRun : pv_Y := (yX3_hasRun, cX3_hasRun, 4, (some .boolean), 3, false, 3, 0, 0, 0, 0)
abbrev mX3_sizeOf : pv_Y := (yX3_sizeOf, cX3_sizeOf, 2, (some .int), 3, false, 1, 0, 0, 0, 0)
abbrev mX3_get : pv_Y := (yX3_get, cX3_get, 3, (some .int), 3, false, 2, 0, 0, 0, 0)
abbrev mX3_set : pv_Y := (yX3_set, cX3_set, 4, none, 3, false, 3, 0, 0, 0, 0)
abbrev mX3_make : pv_Y := (yX3_make, cX3_make, 5, none, 3, false, 3, 0, 0, 0, 0)
abbrev mX3_remove : pv_Y := (yX3_remove, cX3_remove, 2, none, 3, false, 1, 0, 0, 0, 0)
abbrev mX3_move : pv_Y := (yX3_move, cX3_move, 6, none, 3, false, 5, 1, 60, 0, 0)
abbrev mX3_sumOf : pv_Y := (yX3_sumOf, cX3_sumOf, 5, (some .long), 3, false, 1, 0, 0, 0, 0)
abbrev mX3_thereCount : pv_Y := (yX3_thereCount, cX3_thereCount, 3, (some .int), 3, false, 0, 1, 21, 0, 0)
abbrev mX3_mixInto : pv_Y := (yX3_mixInto, cX3_mixInto, 5, (some .long), 3, false, 1, 0, 0, 0, 0)
abbrev mX4_init : pv_Y := (yX4_init, cX4_init, 1, none, 4, false, 0, 1, 20, 1, 6)
abbrev mX4_answerFinding : pv_Y := (yX4_answerFinding, cX4_answerFinding, 2, (some .int), 4, false, 1, 0, 0, 0, 0)
abbrev mX4_tell : pv_Y := (yX4_tell, cX4_tell, 7, none, 4, false, 2, 1, 26, 0, 0)
abbrev mX4_greatestDivisor : pv_Y := (yX4_greatestDivisor, cX4_greatestDivisor, 7, (some .long), 4, true, 2, 0, 0, 0, 0)
abbrev mX5_init : pv_Y := (yX5_init, cX5_init, 2, none, 5, false, 0, 1, 20, 10, 190)
abbrev mX5_begin : pv_Y := (yX5_begin, cX5_begin, 3, none, 5, false, 1, 6, 128, 0, 0)
abbrev mX5_isCat : pv_Y := (yX5_isCat, cX5_isCat, 2, (some .boolean), 5, false, 1, 0, 0, 0, 0)
abbrev mX5_pound : pv_Y := (yX5_pound, cX5_pound, 1, (some .int), 5, false, 0, 1, 21, 0, 0)
abbrev mX5_rulerKind : pv_Y := (yX5_rulerKind, cX5_rulerKind, 1, (some .int), 5, false, 0, 1, 21, 0, 0)
abbrev mX5_rulerMeal : pv_Y := (yX5_rulerMeal, cX5_rulerMeal, 1, (some .int), 5, false, 0, 2, 42, 0, 0)
abbrev mX5_mealAdds : pv_Y := (yX5_mealAdds, cX5_mealAdds, 2, (some .int), 5, false, 1, 1, 21, 0, 0)
abbrev mX5_trait : pv_Y := (yX5_trait, cX5_trait, 3, (some .int), 5, false, 2, 3, 63, 0, 0)
abbrev mX5_countOf : pv_Y := (yX5_countOf, cX5_countOf, 4, (some .int), 5, false, 1, 1, 21, 0, 0)
abbrev mX5_weightOfSet : pv_Y := (yX5_weightOfSet, cX5_weightOfSet, 4, (some .int), 5, false, 1, 0, 0, 0, 0)
abbrev mX5_hasRoomFor : pv_Y := (yX5_hasRoomFor, cX5_hasRoomFor, 2, (some .boolean), 5, false, 1, 0, 0, 0, 0)
abbrev mX5_hasGoodsFor : pv_Y := (yX5_hasGoodsFor, cX5_hasGoodsFor, 2, (some .boolean), 5, false, 1, 2, 41, 0, 0)
abbrev mX5_doDeed : pv_Y := (yX5_doDeed, cX5_doDeed, 2, none, 5, false, 1, 5, 106, 0, 0)
abbrev mX5_act : pv_Y := (yX5_act, cX5_act, 3, none, 5, false, 1, 4, 84, 0, 0)
abbrev mX5_passHour : pv_Y := (yX5_passHour, cX5_passHour, 2, none, 5, false, 0, 3, 63, 0, 0)
abbrev mX5_replay : pv_Y := (yX5_replay, cX5_replay, 3, none, 5, false, 1, 5, 106, 0, 0)
abbrev mX5_hasKeptNumber : pv_Y := (yX5_hasKeptNumber, cX5_hasKeptNumber, 2, (some .boolean), 5, false, 1, 0, 0, 0, 0)
abbrev mX5_store : pv_Y := (yX5_store, cX5_store, 3, none, 5, false, 1, 0, 0, 0, 0)
abbrev mX5_restore : pv_Y := (yX5_restore, cX5_restore, 4, none, 5, false, 1, 6, 128, 0, 0)
abbrev mX5_keptTowns : pv_Y := (yX5_keptTowns, cX5_keptTowns, 3, (some .int), 5, false, 0, 0, 0, 0, 0)
abbrev mX6_init : pv_Y := (yX6_init, cX6_init, 1, none, 6, false, 0, 2, 43, 38, 819)
abbrev mX6_row : pv_Y := (yX6_row, cX6_row, 3, (some .int), 6, false, 2, 2, 48, 0, 0)
abbrev mX6_lay : pv_Y := (yX6_lay, cX6_lay, 5, (some .int), 6, false, 3, 3, 67, 0, 0)
abbrev mX6_at : pv_Y := (yX6_at, cX6_at, 4, (some .int), 6, false, 2, 3, 67, 0, 0)
abbrev mX6_tear : pv_Y := (yX6_tear, cX6_tear, 3, (some .int), 6, false, 1, 2, 43, 0, 0)
abbrev mX6_copy : pv_Y := (yX6_copy, cX6_copy, 6, (some .int), 6, false, 5, 2, 85, 0, 0)
abbrev mX6_mean : pv_Y := (yX6_mean, cX6_mean, 4, (some .int), 6, false, 1, 2, 43, 0, 0)
abbrev mX6_text : pv_Y := (yX6_text, cX6_text, 3, (some .int), 6, false, 2, 2, 48, 0, 0)
abbrev mX6_put : pv_Y := (yX6_put, cX6_put, 6, (some .int), 6, false, 3, 3, 67, 0, 0)
abbrev mX6_fault : pv_Y := (yX6_fault, cX6_fault, 3, (some .int), 6, false, 1, 6, 140, 0, 0)
abbrev mX6_town : pv_Y := (yX6_town, cX6_town, 3, (some .int), 6, false, 1, 7, 150, 0, 0)
abbrev mX6_cat : pv_Y := (yX6_cat, cX6_cat, 3, (some .int), 6, false, 2, 4, 85, 0, 0)
abbrev mX6_mark : pv_Y := (yX6_mark, cX6_mark, 3, (some .int), 6, false, 2, 2, 44, 0, 0)
abbrev mX6_hour : pv_Y := (yX6_hour, cX6_hour, 1, (some .int), 6, false, 0, 6, 127, 0, 0)
abbrev mX6_feed : pv_Y := (yX6_feed, cX6_feed, 2, (some .int), 6, false, 1, 6, 127, 0, 0)
abbrev mX6_buy : pv_Y := (yX6_buy, cX6_buy, 2, (some .int), 6, false, 1, 6, 127, 0, 0)
abbrev mX6_sell : pv_Y := (yX6_sell, cX6_sell, 2, (some .int), 6, false, 1, 6, 127, 0, 0)
abbrev mX6_rule : pv_Y := (yX6_rule, cX6_rule, 2, (some .int), 6, false, 1, 6, 127, 0, 0)
abbrev mX6_undo : pv_Y := (yX6_undo, cX6_undo, 3, (some .int), 6, false, 1, 6, 128, 0, 0)
abbrev mX6_keep : pv_Y := (yX6_keep, cX6_keep, 2, (some .int), 6, false, 1, 1, 22, 0, 0)
abbrev mX6_on : pv_Y := (yX6_on, cX6_on, 2, (some .int), 6, false, 1, 7, 151, 0, 0)
abbrev mX6_weighs : pv_Y := (yX6_weighs, cX6_weighs, 3, (some .int), 6, false, 2, 5, 110, 0, 0)
abbrev mX6_when : pv_Y := (yX6_when, cX6_when, 3, (some .int), 6, false, 2, 5, 110, 0, 0)
abbrev mX6_steady : pv_Y := (yX6_steady, cX6_steady, 6, (some .int), 6, false, 1, 5, 110, 0, 0)
abbrev mX6_meals : pv_Y := (yX6_meals, cX6_meals, 6, (some .int), 6, false, 3, 4, 88, 0, 0)
abbrev mX6_gain : pv_Y := (yX6_gain, cX6_gain, 8, (some .int), 6, false, 2, 5, 109, 0, 0)
abbrev mX6_ring : pv_Y := (yX6_ring, cX6_ring, 6, (some .int), 6, false, 1, 5, 109, 0, 0)
abbrev mX6_plan : pv_Y := (yX6_plan, cX6_plan, 7, (some .int), 6, false, 2, 4, 88, 0, 0)
abbrev mX6_sacks : pv_Y := (yX6_sacks, cX6_sacks, 4, (some .int), 6, false, 1, 2, 52, 0, 0)
abbrev mX6_sure : pv_Y := (yX6_sure, cX6_sure, 7, (some .int), 6, false, 1, 2, 47, 0, 0)
abbrev mX6_ask : pv_Y := (yX6_ask, cX6_ask, 8, (some .int), 6, false, 1, 2, 47, 0, 0)
abbrev mX6_kinds : pv_Y := (yX6_kinds, cX6_kinds, 4, (some .int), 6, false, 2, 6, 137, 0, 0)
abbrev mX6_weights : pv_Y := (yX6_weights, cX6_weights, 7, (some .int), 6, false, 2, 5, 113, 0, 0)
abbrev mX6_test : pv_Y := (yX6_test, cX6_test, 9, (some .int), 6, false, 2, 6, 137, 0, 0)
abbrev mX6_fright : pv_Y := (yX6_fright, cX6_fright, 4, (some .int), 6, false, 1, 3, 63, 0, 0)
abbrev mX6_odds : pv_Y := (yX6_odds, cX6_odds, 8, (some .int), 6, false, 4, 4, 90, 0, 0)
abbrev mX6_mid : pv_Y := (yX6_mid, cX6_mid, 7, (some .int), 6, false, 3, 4, 90, 0, 0)
abbrev mX6_lots : pv_Y := (yX6_lots, cX6_lots, 6, (some .int), 6, false, 2, 6, 127, 0, 0)
abbrev mX6_asked : pv_Y := (yX6_asked, cX6_asked, 1, (some .int), 6, false, 0, 0, 0, 0, 0)
abbrev mX6_upper : pv_Y := (yX6_upper, cX6_upper, 1, (some .long), 6, false, 0, 0, 0, 0, 0)
abbrev mX6_lower : pv_Y := (yX6_lower, cX6_lower, 1, (some .long), 6, false, 0, 0, 0, 0, 0)
abbrev mX6_pence : pv_Y := (yX6_pence, cX6_pence, 1, (some .int), 6, false, 0, 0, 0, 0, 0)
abbrev mX6_count : pv_Y := (yX6_count, cX6_count, 2, (some .int), 6, false, 1, 2, 44, 0, 0)
abbrev mX6_finding : pv_Y := (yX6_finding, cX6_finding, 1, (some .int), 6, false, 0, 0, 0, 0, 0)
abbrev mX6_findings : pv_Y := (yX6_findings, cX6_findings, 2, (some .int), 6, false, 1, 1, 22, 0, 0)
abbrev mX6_digest : pv_Y := (yX6_digest, cX6_digest, 5, (some .long), 6, false, 0, 4, 85, 0, 0)
abbrev mX6_isWithin : pv_Y := (yX6_isWithin, cX6_isWithin, 3, (some .boolean), 6, true, 3, 0, 0, 0, 0)
abbrev mX6_makeAnew : pv_Y := (yX6_makeAnew, cX6_makeAnew, 5, (some .int), 6, false, 4, 1, 24, 0, 0)
abbrev mX6_refuseMissing : pv_Y := (yX6_refuseMissing, cX6_refuseMissing, 3, (some .int), 6, false, 2, 1, 21, 0, 0)
abbrev mX6_refusePlace : pv_Y := (yX6_refusePlace, cX6_refusePlace, 5, (some .int), 6, false, 3, 2, 43, 0, 0)
abbrev mX6_refuseLedger : pv_Y := (yX6_refuseLedger, cX6_refuseLedger, 5, (some .int), 6, false, 2, 2, 45, 0, 0)
abbrev mX6_lookAhead : pv_Y := (yX6_lookAhead, cX6_lookAhead, 3, none, 6, false, 2, 4, 88, 0, 0)
abbrev mX6_lookAtPound : pv_Y := (yX6_lookAtPound, cX6_lookAtPound, 2, none, 6, false, 1, 4, 88, 0, 0)
abbrev mX6_planWorth : pv_Y := (yX6_planWorth, cX6_planWorth, 6, (some .int), 6, false, 2, 3, 63, 0, 0)
abbrev mX6_isFedAhead : pv_Y := (yX6_isFedAhead, cX6_isFedAhead, 3, (some .boolean), 6, true, 3, 0, 0, 0, 0)
abbrev mX6_setCount : pv_Y := (yX6_setCount, cX6_setCount, 1, (some .int), 6, false, 0, 0, 0, 0, 0)
abbrev mX6_setsOf : pv_Y := (yX6_setsOf, cX6_setsOf, 4, (some .int), 6, false, 1, 1, 23, 0, 0)
abbrev mX6_setsWith : pv_Y := (yX6_setsWith, cX6_setsWith, 5, (some .int), 6, false, 2, 1, 23, 0, 0)
abbrev mX6_holdsPairs : pv_Y := (yX6_holdsPairs, cX6_holdsPairs, 4, (some .boolean), 6, false, 1, 1, 22, 0, 0)
abbrev mX6_fitsLedger : pv_Y := (yX6_fitsLedger, cX6_fitsLedger, 6, (some .boolean), 6, false, 3, 4, 88, 0, 0)
abbrev mX6_kindsFitting : pv_Y := (yX6_kindsFitting, cX6_kindsFitting, 5, (some .int), 6, false, 2, 5, 113, 0, 0)
abbrev mX6_weightByMice : pv_Y := (yX6_weightByMice, cX6_weightByMice, 8, (some .int), 6, false, 3, 3, 63, 0, 0)
abbrev mX6_shareOf : pv_Y := (yX6_shareOf, cX6_shareOf, 8, (some .long), 6, false, 3, 1, 20, 0, 0)
abbrev mX6_wholeOf : pv_Y := (yX6_wholeOf, cX6_wholeOf, 4, (some .long), 6, true, 1, 0, 0, 0, 0)
abbrev mX6_deedByLot : pv_Y := (yX6_deedByLot, cX6_deedByLot, 4, (some .int), 6, false, 1, 3, 62, 0, 0)
abbrev mX7_init : pv_Y := (yX7_init, cX7_init, 2, none, 7, false, 0, 1, 20, 17, 2218)
abbrev mX7_in : pv_Y := (yX7_in, cX7_in, 6, (some .boolean), 7, true, 3, 0, 0, 0, 0)
abbrev mX7_has : pv_Y := (yX7_has, cX7_has, 2, (some .boolean), 7, true, 2, 0, 0, 0, 0)
abbrev mX7_found : pv_Y := (yX7_found, cX7_found, 2, (some .int), 7, false, 1, 0, 0, 0, 0)
abbrev mX7_tell : pv_Y := (yX7_tell, cX7_tell, 2, (some .int), 7, false, 1, 0, 0, 0, 0)
abbrev mX7_answer : pv_Y := (yX7_answer, cX7_answer, 3, (some .int), 7, false, 2, 0, 0, 0, 0)
abbrev mX7_isRow : pv_Y := (yX7_isRow, cX7_isRow, 1, (some .boolean), 7, true, 1, 1, 25, 0, 0)
abbrev mX7_isText : pv_Y := (yX7_isText, cX7_isText, 1, (some .boolean), 7, true, 1, 1, 25, 0, 0)
abbrev mX7_row : pv_Y := (yX7_row, cX7_row, 4, (some .int), 7, false, 2, 2, 45, 0, 0)
abbrev mX7_lay : pv_Y := (yX7_lay, cX7_lay, 5, (some .int), 7, false, 3, 2, 45, 0, 0)
abbrev mX7_at : pv_Y := (yX7_at, cX7_at, 3, (some .int), 7, false, 2, 2, 45, 0, 0)
abbrev mX7_tear : pv_Y := (yX7_tear, cX7_tear, 2, (some .int), 7, false, 1, 2, 45, 0, 0)
abbrev mX7_copy : pv_Y := (yX7_copy, cX7_copy, 8, (some .int), 7, false, 5, 2, 45, 0, 0)
abbrev mX7_mean : pv_Y := (yX7_mean, cX7_mean, 5, (some .int), 7, false, 1, 2, 45, 0, 0)
abbrev mX7_text : pv_Y := (yX7_text, cX7_text, 4, (some .int), 7, false, 2, 2, 45, 0, 0)
abbrev mX7_put : pv_Y := (yX7_put, cX7_put, 5, (some .int), 7, false, 3, 2, 45, 0, 0)
abbrev mX7_byteAt : pv_Y := (yX7_byteAt, cX7_byteAt, 2, (some .int), 7, false, 1, 0, 0, 0, 0)
abbrev mX7_blanks : pv_Y := (yX7_blanks, cX7_blanks, 2, none, 7, false, 1, 1, 21, 0, 0)
abbrev mX7_kindOf : pv_Y := (yX7_kindOf, cX7_kindOf, 1, (some .int), 7, true, 1, 0, 0, 0, 0)
abbrev mX7_takes : pv_Y := (yX7_takes, cX7_takes, 3, (some .boolean), 7, false, 2, 1, 25, 0, 0)
abbrev mX7_takesWeight : pv_Y := (yX7_takesWeight, cX7_takesWeight, 2, (some .boolean), 7, false, 1, 2, 47, 0, 0)
abbrev mX7_readsDog : pv_Y := (yX7_readsDog, cX7_readsDog, 2, (some .boolean), 7, false, 1, 3, 68, 0, 0)
abbrev mX7_readsCat : pv_Y := (yX7_readsCat, cX7_readsCat, 4, (some .boolean), 7, false, 1, 3, 68, 0, 0)
abbrev mX7_faultOf : pv_Y := (yX7_faultOf, cX7_faultOf, 3, (some .int), 7, false, 1, 4, 91, 0, 0)
abbrev mX7_fault : pv_Y := (yX7_fault, cX7_fault, 2, (some .int), 7, false, 1, 5, 113, 0, 0)
abbrev mX7_town : pv_Y := (yX7_town, cX7_town, 3, (some .int), 7, false, 1, 5, 113, 0, 0)
abbrev mX7_isCat : pv_Y := (yX7_isCat, cX7_isCat, 2, (some .boolean), 7, false, 1, 1, 25, 0, 0)
abbrev mX7_meal : pv_Y := (yX7_meal, cX7_meal, 2, (some .int), 7, true, 2, 0, 0, 0, 0)
abbrev mX7_changes : pv_Y := (yX7_changes, cX7_changes, 3, (some .int), 7, true, 3, 0, 0, 0, 0)
abbrev mX7_bound : pv_Y := (yX7_bound, cX7_bound, 1, (some .int), 7, true, 1, 0, 0, 0, 0)
abbrev mX7_after : pv_Y := (yX7_after, cX7_after, 6, (some .int), 7, false, 3, 1, 22, 0, 0)
abbrev mX7_afterOf : pv_Y := (yX7_afterOf, cX7_afterOf, 3, (some .int), 7, false, 2, 2, 47, 0, 0)
abbrev mX7_poundIn : pv_Y := (yX7_poundIn, cX7_poundIn, 2, (some .int), 7, false, 1, 3, 69, 0, 0)
abbrev mX7_pound : pv_Y := (yX7_pound, cX7_pound, 1, (some .int), 7, false, 0, 0, 0, 0, 0)
abbrev mX7_abs : pv_Y := (yX7_abs, cX7_abs, 1, (some .int), 7, true, 1, 0, 0, 0, 0)
abbrev mX7_told : pv_Y := (yX7_told, cX7_told, 3, (some .int), 7, false, 2, 3, 69, 0, 0)
abbrev mX7_cat : pv_Y := (yX7_cat, cX7_cat, 3, (some .int), 7, false, 2, 4, 91, 0, 0)
abbrev mX7_isOf : pv_Y := (yX7_isOf, cX7_isOf, 2, (some .boolean), 7, true, 2, 0, 0, 0, 0)
abbrev mX7_kindsOf : pv_Y := (yX7_kindsOf, cX7_kindsOf, 4, (some .int), 7, false, 1, 1, 21, 0, 0)
abbrev mX7_mark : pv_Y := (yX7_mark, cX7_mark, 3, (some .int), 7, false, 2, 2, 46, 0, 0)
abbrev mX7_copies : pv_Y := (yX7_copies, cX7_copies, 6, none, 7, true, 5, 0, 0, 0, 0)
abbrev mX7_remember : pv_Y := (yX7_remember, cX7_remember, 1, none, 7, false, 0, 1, 25, 0, 0)
abbrev mX7_hourGoes : pv_Y := (yX7_hourGoes, cX7_hourGoes, 2, none, 7, false, 0, 3, 69, 0, 0)
abbrev mX7_eats : pv_Y := (yX7_eats, cX7_eats, 2, none, 7, false, 1, 2, 45, 0, 0)
abbrev mX7_buys : pv_Y := (yX7_buys, cX7_buys, 2, none, 7, false, 1, 2, 45, 0, 0)
abbrev mX7_hour : pv_Y := (yX7_hour, cX7_hour, 1, (some .int), 7, false, 0, 4, 90, 0, 0)
abbrev mX7_feed : pv_Y := (yX7_feed, cX7_feed, 2, (some .int), 7, false, 1, 3, 66, 0, 0)
abbrev mX7_buy : pv_Y := (yX7_buy, cX7_buy, 2, (some .int), 7, false, 1, 3, 66, 0, 0)
abbrev mX7_sell : pv_Y := (yX7_sell, cX7_sell, 2, (some .int), 7, false, 1, 3, 66, 0, 0)
abbrev mX7_rule : pv_Y := (yX7_rule, cX7_rule, 2, (some .int), 7, false, 1, 2, 46, 0, 0)
abbrev mX7_undo : pv_Y := (yX7_undo, cX7_undo, 3, (some .int), 7, false, 1, 1, 25, 0, 0)
abbrev mX7_keep : pv_Y := (yX7_keep, cX7_keep, 2, (some .int), 7, false, 1, 1, 25, 0, 0)
abbrev mX7_on : pv_Y := (yX7_on, cX7_on, 2, (some .int), 7, false, 1, 1, 25, 0, 0)
abbrev mX7_weighs : pv_Y := (yX7_weighs, cX7_weighs, 3, (some .int), 7, false, 2, 3, 69, 0, 0)
abbrev mX7_when : pv_Y := (yX7_when, cX7_when, 4, (some .int), 7, false, 2, 3, 69, 0, 0)
abbrev mX7_steady : pv_Y := (yX7_steady, cX7_steady, 9, (some .int), 7, false, 1, 3, 69, 0, 0)
abbrev mX7_meals : pv_Y := (yX7_meals, cX7_meals, 6, (some .int), 7, false, 3, 2, 47, 0, 0)
abbrev mX7_gain : pv_Y := (yX7_gain, cX7_gain, 8, (some .int), 7, false, 2, 4, 90, 0, 0)
abbrev mX7_ring : pv_Y := (yX7_ring, cX7_ring, 6, (some .int), 7, false, 1, 4, 90, 0, 0)
abbrev mX7_planned : pv_Y := (yX7_planned, cX7_planned, 8, (some .int), 7, false, 2, 1, 22, 0, 0)
abbrev mX7_plan : pv_Y := (yX7_plan, cX7_plan, 7, (some .int), 7, false, 2, 2, 49, 0, 0)
abbrev mX7_isSack : pv_Y := (yX7_isSack, cX7_isSack, 5, (some .boolean), 7, false, 2, 1, 21, 0, 0)
abbrev mX7_fraction : pv_Y := (yX7_fraction, cX7_fraction, 11, (some .int), 7, false, 2, 0, 0, 0, 0)
abbrev mX7_refuses : pv_Y := (yX7_refuses, cX7_refuses, 2, (some .int), 7, false, 1, 1, 25, 0, 0)
abbrev mX7_sacks : pv_Y := (yX7_sacks, cX7_sacks, 6, (some .int), 7, false, 1, 2, 46, 0, 0)
abbrev mX7_sure : pv_Y := (yX7_sure, cX7_sure, 8, (some .int), 7, false, 1, 2, 46, 0, 0)
abbrev mX7_ask : pv_Y := (yX7_ask, cX7_ask, 10, (some .int), 7, false, 1, 2, 46, 0, 0)
abbrev mX7_wrongPairs : pv_Y := (yX7_wrongPairs, cX7_wrongPairs, 4, (some .int), 7, false, 1, 1, 25, 0, 0)
abbrev mX7_isSo : pv_Y := (yX7_isSo, cX7_isSo, 6, (some .boolean), 7, false, 3, 2, 47, 0, 0)
abbrev mX7_kindsBy : pv_Y := (yX7_kindsBy, cX7_kindsBy, 5, (some .int), 7, false, 2, 3, 72, 0, 0)
abbrev mX7_kinds : pv_Y := (yX7_kinds, cX7_kinds, 4, (some .int), 7, false, 2, 4, 96, 0, 0)
abbrev mX7_weights : pv_Y := (yX7_weights, cX7_weights, 7, (some .int), 7, false, 2, 3, 72, 0, 0)
abbrev mX7_alike : pv_Y := (yX7_alike, cX7_alike, 8, (some .int), 7, false, 3, 2, 47, 0, 0)
abbrev mX7_test : pv_Y := (yX7_test, cX7_test, 9, (some .int), 7, false, 2, 4, 96, 0, 0)
abbrev mX7_beginsStep : pv_Y := (yX7_beginsStep, cX7_beginsStep, 2, none, 7, false, 1, 0, 0, 0, 0)
abbrev mX7_weighsIt : pv_Y := (yX7_weighsIt, cX7_weighsIt, 4, none, 7, false, 2, 0, 0, 0, 0)
abbrev mX7_goesOn : pv_Y := (yX7_goesOn, cX7_goesOn, 4, none, 7, false, 1, 1, 25, 0, 0)
abbrev mX7_fright : pv_Y := (yX7_fright, cX7_fright, 4, (some .int), 7, false, 1, 4, 90, 0, 0)
abbrev mX7_chances : pv_Y := (yX7_chances, cX7_chances, 15, (some .int), 7, false, 4, 1, 30, 0, 0)
abbrev mX7_odds : pv_Y := (yX7_odds, cX7_odds, 5, (some .int), 7, false, 4, 2, 64, 0, 0)
abbrev mX7_mid : pv_Y := (yX7_mid, cX7_mid, 4, (some .int), 7, false, 3, 2, 64, 0, 0)
abbrev mX7_plays : pv_Y := (yX7_plays, cX7_plays, 3, none, 7, false, 2, 4, 90, 0, 0)
abbrev mX7_lots : pv_Y := (yX7_lots, cX7_lots, 6, (some .int), 7, false, 2, 5, 112, 0, 0)
abbrev mX7_asked : pv_Y := (yX7_asked, cX7_asked, 1, (some .int), 7, false, 0, 0, 0, 0, 0)
abbrev mX7_upper : pv_Y := (yX7_upper, cX7_upper, 1, (some .long), 7, false, 0, 0, 0, 0, 0)
abbrev mX7_lower : pv_Y := (yX7_lower, cX7_lower, 1, (some .long), 7, false, 0, 0, 0, 0, 0)
abbrev mX7_pence : pv_Y := (yX7_pence, cX7_pence, 1, (some .int), 7, false, 0, 0, 0, 0, 0)
abbrev mX7_counted : pv_Y := (yX7_counted, cX7_counted, 4, (some .int), 7, false, 1, 2, 44, 0, 0)
abbrev mX7_count : pv_Y := (yX7_count, cX7_count, 2, (some .int), 7, false, 1, 3, 67, 0, 0)
abbrev mX7_finding : pv_Y := (yX7_finding, cX7_finding, 1, (some .int), 7, false, 0, 0, 0, 0, 0)
abbrev mX7_findings : pv_Y := (yX7_findings, cX7_findings, 2, (some .int), 7, false, 1, 1, 25, 0, 0)
abbrev mX7_digest : pv_Y := (yX7_digest, cX7_digest, 5, (some .long), 7, false, 0, 4, 91, 0, 0)
def pv_tab : List pv_Y := [mX0_byLetter, mX0_isOf, mX0_mealAdds, mX0_hasMice, mX0_hoursToMoult, mX0_hourAdds, mX0_held, mX0_afterHour, mX1_init, mX1_fill, mX1_weightIn, mX1_firstWith, mX1_spread, mX1_poundsThen, mX1_startKinds, mX1_passKinds, mX1_greatestPart, mX1_alikeTo, mX2_init, mX2_faultOf, mX2_signAt, mX2_skipBlanks, mX2_takeDog, mX2_takeCat, mX2_takeWeight, mX2_figureAt, mX3_init, mX3_hasNumber, mX3_isThere, mX3_hasRun, mX3_sizeOf, mX3_get, mX3_set, mX3_make, mX3_remove, mX3_move, mX3_sumOf, mX3_thereCount, mX3_mixInto, mX4_init, mX4_answerFinding, mX4_tell, mX4_greatestDivisor, mX5_init, mX5_begin, mX5_isCat, mX5_pound, mX5_rulerKind, mX5_rulerMeal, mX5_mealAdds, mX5_trait, mX5_countOf, mX5_weightOfSet, mX5_hasRoomFor, mX5_hasGoodsFor, mX5_doDeed, mX5_act, mX5_passHour, mX5_replay, mX5_hasKeptNumber, mX5_store, mX5_restore, mX5_keptTowns, mX6_init, mX6_row, mX6_lay, mX6_at, mX6_tear, mX6_copy, mX6_mean, mX6_text, mX6_put, mX6_fault, mX6_town, mX6_cat, mX6_mark, mX6_hour, mX6_feed, mX6_buy, mX6_sell, mX6_rule, mX6_undo, mX6_keep, mX6_on, mX6_weighs, mX6_when, mX6_steady, mX6_meals, mX6_gain, mX6_ring, mX6_plan, mX6_sacks, mX6_sure, mX6_ask, mX6_kinds, mX6_weights, mX6_test, mX6_fright, mX6_odds, mX6_mid, mX6_lots, mX6_asked, mX6_upper, mX6_lower, mX6_pence, mX6_count, mX6_finding, mX6_findings, mX6_digest, mX6_isWithin, mX6_makeAnew, mX6_refuseMissing, mX6_refusePlace, mX6_refuseLedger, mX6_lookAhead, mX6_lookAtPound, mX6_planWorth, mX6_isFedAhead, mX6_setCount, mX6_setsOf, mX6_setsWith, mX6_holdsPairs, mX6_fitsLedger, mX6_kindsFitting, mX6_weightByMice, mX6_shareOf, mX6_wholeOf, mX6_deedByLot, mX7_init, mX7_in, mX7_has, mX7_found, mX7_tell, mX7_answer, mX7_isRow, mX7_isText, mX7_row, mX7_lay, mX7_at, mX7_tear, mX7_copy, mX7_mean, mX7_text, mX7_put, mX7_byteAt, mX7_blanks, mX7_kindOf, mX7_takes, mX7_takesWeight, mX7_readsDog, mX7_readsCat, mX7_faultOf, mX7_fault, mX7_town, mX7_isCat, mX7_meal, mX7_changes, mX7_bound, mX7_after, mX7_afterOf, mX7_poundIn, mX7_pound, mX7_abs, mX7_told, mX7_cat, mX7_isOf, mX7_kindsOf, mX7_mark, mX7_copies, mX7_remember, mX7_hourGoes, mX7_eats, mX7_buys, mX7_hour, mX7_feed, mX7_buy, mX7_sell, mX7_rule, mX7_undo, mX7_keep, mX7_on, mX7_weighs, mX7_when, mX7_steady, mX7_meals, mX7_gain, mX7_ring, mX7_planned, mX7_plan, mX7_isSack, mX7_fraction, mX7_refuses, mX7_sacks, mX7_sure, mX7_ask, mX7_wrongPairs, mX7_isSo, mX7_kindsBy, mX7_kinds, mX7_weights, mX7_alike, mX7_test, mX7_beginsStep, mX7_weighsIt, mX7_goesOn, mX7_fright, mX7_chances, mX7_odds, mX7_mid, mX7_plays, mX7_lots, mX7_asked, mX7_upper, mX7_lower, mX7_pence, mX7_counted, mX7_count, mX7_finding, mX7_findings, mX7_digest]
def pv_T : List Cond := lw_tbl.filter goodWord
theorem pv_mem {w : Cond} (p : Nat) (h : lw_tbl[p]? = some w) (g : goodWord w = true) : w ∈ pv_T := List.mem_filter.mpr ⟨List.mem_of_getElem? h, g⟩
/-- fields by (class, entry): the class among vwCl, the field, the place of its word -/
def pv_LF : List (Nat × Nat × Nat × Nat × Nat) := [(6, 14, 5, 0, 232), (6, 18, 5, 1, 233), (6, 24, 5, 2, 234), (6, 31, 5, 3, 235), (6, 38, 5, 4, 236), (6, 45, 5, 5, 237), (1, 9, 0, 0, 196), (1, 15, 0, 1, 197), (1, 27, 0, 2, 198), (2, 9, 1, 0, 105), (2, 15, 1, 1, 107), (2, 18, 1, 2, 109), (2, 27, 1, 5, 115), (2, 31, 1, 4, 114), (2, 56, 1, 3, 112), (3, 7, 2, 0, 87), (3, 13, 2, 1, 89), (3, 19, 2, 2, 90), (4, 9, 3, 0, 212), (4, 15, 3, 3, 217), (4, 19, 3, 4, 219), (4, 27, 3, 2, 215), (5, 9, 4, 0, 136), (5, 15, 4, 1, 138), (5, 18, 4, 2, 140), (5, 21, 4, 3, 141), (5, 24, 4, 4, 143), (5, 27, 4, 5, 144), (5, 32, 4, 6, 146), (5, 41, 4, 7, 147), (5, 45, 4, 8, 149), (5, 53, 4, 10, 153), (5, 69, 4, 9, 151), (5, 80, 4, 13, 159), (5, 83, 4, 12, 157), (5, 102, 4, 11, 155), (7, 7, 6, 0, 775), (7, 13, 6, 1, 776), (7, 16, 6, 2, 777), (7, 19, 6, 3, 778), (7, 22, 6, 6, 781), (7, 25, 6, 7, 782), (7, 28, 6, 8, 783), (7, 31, 6, 10, 785), (7, 34, 6, 11, 786), (7, 37, 6, 12, 787), (7, 41, 6, 15, 790), (7, 45, 6, 17, 792), (7, 48, 6, 21, 796), (7, 51, 6, 24, 799), (7, 54, 6, 25, 800), (7, 57, 6, 26, 801), (7, 60, 6, 27, 802), (7, 63, 6, 28, 803), (7, 66, 6, 16, 791), (7, 70, 6, 13, 788), (7, 95, 6, 18, 793), (7, 101, 6, 22, 797), (7, 110, 6, 23, 798), (7, 116, 6, 19, 794), (7, 122, 6, 20, 795), (7, 138, 6, 4, 779), (7, 141, 6, 5, 780), (7, 144, 6, 9, 784), (7, 224, 6, 14, 789)]
def pv_LN : List (Nat × Nat × Nat × Nat × Nat) := [(6, 61, 3, 1, 214), (6, 110, 4, 7, 148), (6, 122, 4, 0, 137), (6, 132, 4, 9, 152), (6, 141, 4, 1, 139), (6, 162, 4, 3, 142), (6, 165, 4, 12, 158), (6, 171, 4, 10, 154), (6, 174, 4, 13, 160), (6, 186, 4, 5, 145), (6, 218, 4, 8, 150), (6, 300, 3, 2, 216), (6, 304, 3, 3, 218), (6, 307, 4, 11, 156), (6, 316, 3, 4, 220), (6, 319, 3, 0, 213), (6, 333, 2, 0, 88), (5, 35, 1, 4, 113), (5, 42, 1, 3, 111), (5, 46, 1, 0, 106), (5, 47, 1, 2, 110), (5, 48, 1, 1, 108)]
/-- methods by (class, entry): kind 0 virtual, 1 static, 2 special, 3 special of a nest mate; the method; places of words: link, instance or static, selects, initialized, code -/
def pv_LM_0 : List (Nat × Nat × Nat × Nat × Nat × Nat × Nat × Nat × Nat) := [(0, 9, 1, 3, 405, 406, 0, 69, 407), (0, 15, 1, 4, 408, 409, 0, 69, 410), (0, 28, 1, 5, 402, 403, 0, 69, 404), (0, 31, 1, 6, 411, 412, 0, 69, 413), (1, 31, 1, 7, 537, 400, 0, 69, 401), (1, 37, 0, 10, 579, 539, 540, 65, 541), (1, 41, 0, 17, 675, 677, 21, 65, 678), (2, 21, 0, 30, 350, 327, 328, 62, 329), (2, 34, 0, 21, 351, 353, 3, 63, 354), (2, 38, 0, 22, 360, 362, 5, 63, 363), (2, 42, 0, 23, 372, 374, 8, 63, 375), (2, 45, 0, 31, 359, 292, 293, 62, 294), (2, 49, 0, 20, 355, 357, 4, 63, 358), (2, 53, 0, 24, 364, 366, 6, 63, 367), (2, 59, 1, 0, 376, 377, 0, 69, 378)]
def pv_LM_1 : List (Nat × Nat × Nat × Nat × Nat × Nat × Nat × Nat × Nat) := [(2, 64, 0, 25, 368, 370, 7, 63, 371), (3, 28, 0, 28, 744, 284, 285, 62, 286), (4, 23, 1, 42, 623, 624, 0, 66, 625), (5, 49, 0, 58, 387, 388, 389, 64, 390), (5, 56, 0, 45, 420, 421, 422, 64, 423), (5, 60, 0, 49, 424, 425, 426, 64, 427), (5, 64, 1, 2, 428, 429, 0, 69, 430), (5, 72, 1, 7, 399, 400, 0, 69, 401), (5, 76, 1, 1, 463, 453, 0, 69, 454), (5, 86, 0, 46, 432, 433, 434, 64, 435), (5, 90, 0, 53, 476, 469, 470, 64, 471), (5, 93, 0, 56, 391, 393, 9, 64, 394), (5, 96, 0, 57, 395, 397, 10, 64, 398), (5, 99, 1, 6, 431, 412, 0, 69, 413), (6, 11, 2, 26, 81, 82, 0, 62, 83)]
def pv_LM_2 : List (Nat × Nat × Nat × Nat × Nat × Nat × Nat × Nat × Nat) := [(6, 30, 2, 43, 131, 132, 0, 64, 133), (6, 49, 0, 110, 255, 257, 0, 61, 258), (6, 53, 0, 112, 275, 277, 1, 61, 278), (6, 57, 0, 31, 291, 292, 293, 62, 294), (6, 65, 0, 32, 295, 296, 297, 62, 298), (6, 69, 0, 111, 279, 281, 2, 61, 282), (6, 73, 0, 34, 307, 308, 309, 62, 310), (6, 77, 0, 27, 259, 260, 261, 62, 262), (6, 81, 0, 40, 263, 264, 265, 66, 266), (6, 85, 0, 28, 283, 284, 285, 62, 286), (6, 88, 0, 29, 287, 288, 289, 62, 290), (6, 92, 0, 35, 315, 316, 317, 62, 318), (6, 96, 0, 30, 326, 327, 328, 62, 329), (6, 99, 0, 36, 330, 331, 332, 62, 333), (6, 103, 0, 19, 346, 347, 348, 63, 349)]
def pv_LM_3 : List (Nat × Nat × Nat × Nat × Nat × Nat × Nat × Nat × Nat) := [(6, 106, 0, 44, 383, 384, 385, 64, 386), (6, 113, 0, 45, 440, 421, 422, 64, 423), (6, 116, 1, 109, 441, 442, 0, 61, 443), (6, 119, 0, 50, 444, 445, 446, 64, 447), (6, 126, 1, 1, 452, 453, 0, 69, 454), (6, 135, 1, 3, 455, 406, 0, 69, 407), (6, 138, 1, 4, 456, 409, 0, 69, 410), (6, 144, 0, 49, 457, 425, 426, 64, 427), (6, 147, 1, 2, 458, 429, 0, 69, 430), (6, 149, 0, 51, 459, 460, 461, 64, 462), (6, 152, 0, 53, 468, 469, 470, 64, 471), (6, 155, 0, 55, 472, 473, 474, 64, 475), (6, 158, 0, 46, 477, 433, 434, 64, 435), (6, 168, 0, 54, 490, 491, 492, 64, 493), (6, 177, 0, 58, 502, 388, 389, 64, 390)]
def pv_LM_4 : List (Nat × Nat × Nat × Nat × Nat × Nat × Nat × Nat × Nat) := [(6, 180, 0, 59, 507, 508, 509, 64, 510), (6, 183, 0, 60, 511, 512, 513, 64, 514), (6, 189, 0, 61, 519, 520, 521, 64, 522), (6, 192, 0, 114, 527, 529, 11, 61, 530), (6, 195, 0, 10, 538, 539, 540, 65, 541), (6, 198, 0, 11, 546, 547, 548, 65, 549), (6, 201, 0, 12, 554, 555, 556, 65, 557), (6, 204, 0, 9, 531, 532, 533, 65, 534), (6, 208, 1, 6, 562, 412, 0, 69, 413), (6, 211, 0, 115, 567, 569, 12, 61, 570), (6, 214, 0, 13, 575, 576, 577, 65, 578), (6, 226, 0, 116, 591, 593, 13, 61, 594), (6, 229, 0, 33, 267, 268, 269, 62, 270), (6, 232, 1, 117, 595, 596, 0, 61, 597), (6, 235, 0, 118, 607, 609, 14, 61, 610)]
def pv_LM_5 : List (Nat × Nat × Nat × Nat × Nat × Nat × Nat × Nat × Nat) := [(6, 238, 0, 52, 611, 612, 613, 64, 614), (6, 241, 0, 119, 615, 617, 15, 61, 618), (6, 244, 0, 41, 619, 620, 621, 66, 622), (6, 248, 0, 120, 630, 632, 16, 61, 633), (6, 254, 0, 113, 643, 645, 17, 61, 646), (6, 257, 0, 123, 651, 653, 19, 61, 654), (6, 260, 0, 122, 655, 657, 20, 61, 658), (6, 263, 0, 14, 667, 668, 669, 65, 670), (6, 266, 0, 16, 671, 672, 673, 65, 674), (6, 269, 0, 15, 679, 680, 681, 65, 682), (6, 272, 0, 48, 598, 599, 600, 64, 601), (6, 275, 0, 47, 571, 572, 573, 64, 574), (6, 278, 1, 7, 602, 400, 0, 69, 401), (6, 281, 0, 124, 691, 693, 22, 61, 694), (6, 284, 0, 125, 695, 697, 23, 61, 698)]
def pv_LM_6 : List (Nat × Nat × Nat × Nat × Nat × Nat × Nat × Nat × Nat) := [(6, 288, 1, 126, 699, 700, 0, 61, 701), (6, 296, 0, 127, 714, 716, 24, 61, 717), (6, 310, 0, 37, 740, 741, 742, 62, 743), (6, 313, 0, 62, 745, 746, 747, 64, 748), (6, 326, 0, 105, 763, 737, 738, 61, 739), (6, 329, 0, 38, 764, 765, 766, 62, 767), (6, 336, 0, 121, 647, 649, 18, 61, 650), (7, 75, 1, 129, 872, 873, 0, 67, 874), (7, 81, 1, 134, 868, 869, 0, 67, 870), (7, 85, 0, 131, 875, 877, 25, 67, 878), (7, 89, 0, 132, 883, 885, 26, 67, 886), (7, 92, 1, 135, 907, 908, 0, 67, 909), (7, 98, 0, 144, 927, 929, 29, 67, 930), (7, 106, 0, 147, 939, 941, 32, 67, 942), (7, 113, 0, 148, 935, 937, 31, 67, 938)]
def pv_LM_7 : List (Nat × Nat × Nat × Nat × Nat × Nat × Nat × Nat × Nat) := [(7, 119, 1, 146, 948, 949, 0, 67, 950), (7, 125, 0, 145, 923, 925, 28, 67, 926), (7, 129, 0, 149, 931, 933, 30, 67, 934), (7, 132, 0, 150, 944, 946, 33, 67, 947), (7, 135, 0, 151, 919, 921, 27, 67, 922), (7, 147, 1, 156, 979, 980, 0, 67, 981), (7, 151, 1, 157, 982, 983, 0, 67, 984), (7, 154, 0, 158, 975, 977, 37, 67, 978), (7, 158, 0, 159, 971, 973, 36, 67, 974), (7, 162, 1, 155, 968, 969, 0, 67, 970), (7, 165, 0, 154, 959, 961, 34, 67, 962), (7, 170, 0, 163, 964, 966, 35, 67, 967), (7, 173, 1, 165, 989, 990, 0, 67, 991), (7, 176, 0, 166, 992, 994, 38, 67, 995), (7, 179, 1, 168, 1008, 1009, 0, 67, 1010)]
def pv_LM_8 : List (Nat × Nat × Nat × Nat × Nat × Nat × Nat × Nat × Nat) := [(7, 183, 0, 169, 1004, 1006, 40, 67, 1007), (7, 186, 0, 161, 1011, 1013, 41, 67, 1014), (7, 190, 0, 170, 1000, 1002, 39, 67, 1003), (7, 193, 0, 171, 1019, 1021, 42, 67, 1022), (7, 196, 0, 172, 1027, 1029, 43, 67, 1030), (7, 206, 0, 133, 1067, 1069, 44, 67, 1070), (7, 211, 0, 160, 1080, 1082, 45, 67, 1083), (7, 214, 1, 162, 1088, 1089, 0, 67, 1090), (7, 218, 0, 187, 1096, 1098, 46, 67, 1099), (7, 221, 1, 130, 1113, 1114, 0, 67, 1115), (7, 229, 0, 191, 1104, 1106, 47, 67, 1107), (7, 232, 0, 189, 1109, 1111, 48, 67, 1112), (7, 235, 0, 190, 1116, 1118, 49, 67, 1119), (7, 241, 0, 196, 1141, 1143, 52, 67, 1144), (7, 245, 0, 195, 1132, 1134, 50, 67, 1135)]
def pv_LM_9 : List (Nat × Nat × Nat × Nat × Nat × Nat × Nat × Nat × Nat) := [(7, 248, 0, 197, 1137, 1139, 51, 67, 1140), (7, 251, 0, 200, 1153, 1155, 53, 67, 1156), (7, 254, 0, 202, 1161, 1163, 54, 67, 1164), (7, 257, 0, 203, 1165, 1167, 55, 67, 1168), (7, 261, 0, 204, 1169, 1171, 56, 67, 1172), (7, 268, 0, 206, 1179, 1181, 57, 67, 1182), (7, 280, 0, 209, 1195, 1197, 58, 67, 1198), (7, 285, 0, 215, 1220, 1222, 59, 67, 1223)]
def pv_LM : List (Nat × Nat × Nat × Nat × Nat × Nat × Nat × Nat × Nat) := pv_LM_0 ++ (pv_LM_1 ++ (pv_LM_2 ++ (pv_LM_3 ++ (pv_LM_4 ++ (pv_LM_5 ++ (pv_LM_6 ++ (pv_LM_7 ++ (pv_LM_8 ++ (pv_LM_9)))))))))
def pv_LMN : List (Nat × Nat × Nat × Nat × Nat × Nat × Nat × Nat × Nat) := [(6, 23, 3, 18, 101, 102, 0, 63, 103), (6, 37, 3, 8, 192, 193, 0, 65, 194), (6, 44, 3, 39, 208, 209, 0, 66, 210)]
def pv_LC : List (Nat × Nat × Int32 × Nat) := [(6, 291, 2147483646, 711), (7, 205, 1000000, 1066), (7, 217, (-1000000), 1095)]
def pv_LJ : List (Nat × Nat × Int64 × Nat) := [(6, 292, 48271, 712), (6, 294, 2147483647, 713), (6, 322, 17, 761), (6, 324, 31, 762), (6, 339, 12, 702), (6, 341, 8, 718), (6, 343, 4, 719), (3, 32, 31, 768), (7, 73, 5, 871), (7, 79, 3, 910), (7, 104, 9, 943), (7, 168, 4, 963), (7, 199, 2, 1047), (7, 201, 60, 1056), (7, 203, 200, 1061), (7, 209, 20, 1075), (7, 227, 1200, 1108), (7, 239, 40, 1136), (7, 264, 12, 1178), (7, 266, 6, 1177), (7, 272, 2147483646, 1191), (7, 274, 48271, 1192), (7, 276, 2147483647, 1193), (7, 278, 8, 1194), (7, 283, 11, 1219), (7, 288, 17, 1236), (7, 290, 31, 1237)]
end
section
/-! ===== the engine: one interpreter of the code that is here, over cells by number ===== -/
/-- a value: a number of a cell for its address -/
def pv_t (b : Nat) : Value → Value
  | .ref k => .ref (b + k)
  | v => v
theorem pv_cat (b : Nat) (v : Value) : (pv_t b v).category = v.category := by cases v <;> rfl
/-- a cell: an array (kind 0 int, 1 boolean, 2 of int arrays; length; contents) or an object (class among vwCl, fields); an array of arrays by its first -/
abbrev pv_C : Type := (Nat × Nat × ((Nat → Int32) ⊕ Nat)) ⊕ (Nat × List Value)
abbrev pv_H : Type := Nat × (Nat → pv_C)
abbrev pv_L : Type := List (Option Value)
def pv_up (f : Nat → pv_C) (k : Nat) (c : pv_C) : Nat → pv_C := fun j => if j = k then c else f j
/-- a store into a local: what stood across it is no more -/
def pv_nl : Option Value → Option Value
  | some (.long _) => none
  | some (.double _) => none
  | a => a
def pv_md : pv_L → Nat → pv_L
  | [], _ => []
  | a :: l, 0 => pv_nl a :: l
  | a :: l, j + 1 => a :: pv_md l j
def pv_k (loc : pv_L) (i : Nat) : pv_L := match i with
  | 0 => loc
  | j + 1 => pv_md loc j
def pv_st1 (loc : pv_L) (i : Nat) (v : Value) : pv_L := (pv_k loc i).set i (some v)
def pv_st2 (loc : pv_L) (i : Nat) (v : Value) : pv_L := ((pv_k loc i).set i (some v)).set (i + 1) none
def pv_sl : List Value → pv_L
  | [] => []
  | .long x :: vs => some (.long x) :: none :: pv_sl vs
  | .double x :: vs => some (.double x) :: none :: pv_sl vs
  | v :: vs => some v :: pv_sl vs
def pv_ent (vs : List Value) (n : Nat) : pv_L := pv_sl vs ++ List.replicate (n - (pv_sl vs).length) none
/-- the stack alone -/
def pv_s (i : Instr) (n : Nat) (st : List Value) : Option (List Value) :=
  match i, n, st with
  | .iconst v, 1, st => some (.int (Int32.ofInt v) :: st)
  | .bipush v, 2, st => some (.int (Int8.ofInt v).toInt32 :: st)
  | .sipush v, 3, st => some (.int (Int16.ofInt v).toInt32 :: st)
  | .lconst v, 1, st => some (.long (Int64.ofNat (v : Nat)) :: st)
  | .iadd, 1, .int y :: .int x :: st => some (.int (x + y) :: st)
  | .isub, 1, .int y :: .int x :: st => some (.int (x - y) :: st)
  | .imul, 1, .int y :: .int x :: st => some (.int (x * y) :: st)
  | .iand, 1, .int y :: .int x :: st => some (.int (x &&& y) :: st)
  | .ior, 1, .int y :: .int x :: st => some (.int (x ||| y) :: st)
  | .ixor, 1, .int y :: .int x :: st => some (.int (x ^^^ y) :: st)
  | .idiv, 1, .int y :: .int x :: st => if y = 0 then none else some (.int (x / y) :: st)
  | .irem, 1, .int y :: .int x :: st => if y = 0 then none else some (.int (x - x / y * y) :: st)
  | .ineg, 1, .int x :: st => some (.int (-x) :: st)
  | .ladd, 1, .long y :: .long x :: st => some (.long (x + y) :: st)
  | .lmul, 1, .long y :: .long x :: st => some (.long (x * y) :: st)
  | .ldiv, 1, .long y :: .long x :: st => if y = 0 then none else some (.long (x / y) :: st)
  | .lrem, 1, .long y :: .long x :: st => if y = 0 then none else some (.long (x - x / y * y) :: st)
  | .ishl, 1, .int y :: .int x :: st => some (.int (x <<< (y &&& 31)) :: st)
  | .ishr, 1, .int y :: .int x :: st => some (.int (x >>> (y &&& 31)) :: st)
  | .i2l, 1, .int x :: st => some (.long x.toInt64 :: st)
  | .l2i, 1, .long x :: st => some (.int x.toInt32 :: st)
  | .i2b, 1, .int x :: st => some (.int x.toInt8.toInt32 :: st)
  | .lcmp, 1, .long y :: .long x :: st => some (.int (lg_cmp x y) :: st)
  | .dup, 1, v :: st => if v.category = 1 then some (v :: v :: st) else none
  | .dup2, 1, v :: w :: st => if v.category = 1 ∧ w.category = 1 then some (v :: w :: v :: w :: st) else none
  | _, _, _ => none
/-- the locals and the stack -/
def pv_l (i : Instr) (n : Nat) (loc : pv_L) (st : List Value) : Option (pv_L × List Value) :=
  match i, n, st with
  | .iload_n k, 1, st => match loc[(k : Nat)]? with
    | some (some (.int x)) => some (loc, .int x :: st)
    | _ => none
  | .iload k, 2, st => match loc[k]? with
    | some (some (.int x)) => some (loc, .int x :: st)
    | _ => none
  | .lload_n k, 1, st => match loc[(k : Nat)]? with
    | some (some (.long x)) => some (loc, .long x :: st)
    | _ => none
  | .lload k, 2, st => match loc[k]? with
    | some (some (.long x)) => some (loc, .long x :: st)
    | _ => none
  | .aload_n k, 1, st => match loc[(k : Nat)]? with
    | some (some (.ref x)) => some (loc, .ref x :: st)
    | _ => none
  | .istore_n k, 1, .int x :: st => if (k : Nat) < loc.length then some (pv_st1 loc k (.int x), st) else none
  | .istore k, 2, .int x :: st => if k < loc.length then some (pv_st1 loc k (.int x), st) else none
  | .astore_n k, 1, .ref x :: st => if (k : Nat) < loc.length then some (pv_st1 loc k (.ref x), st) else none
  | .lstore_n k, 1, .long x :: st => if (k : Nat) + 1 < loc.length then some (pv_st2 loc k (.long x), st) else none
  | .lstore k, 2, .long x :: st => if k + 1 < loc.length then some (pv_st2 loc k (.long x), st) else none
  | .iinc k c, 3, st => match loc[k]? with
    | some (some (.int x)) => if k < loc.length then some (pv_st1 loc k (.int (x + Int32.ofInt c)), st) else none
    | _ => none
  | _, _, _ => none
/-- branches: how far, and whether -/
def pv_b (i : Instr) (n : Nat) (st : List Value) : Option (Int × Bool × List Value) :=
  match i, n, st with
  | .ifCond .eq o, 3, .int x :: st => some (o, decide (x = 0), st)
  | .ifCond .ne o, 3, .int x :: st => some (o, decide (¬ x = 0), st)
  | .ifCond .lt o, 3, .int x :: st => some (o, decide (x < 0), st)
  | .ifCond .ge o, 3, .int x :: st => some (o, decide (0 ≤ x), st)
  | .ifCond .gt o, 3, .int x :: st => some (o, decide (0 < x), st)
  | .ifCond .le o, 3, .int x :: st => some (o, decide (x ≤ 0), st)
  | .if_icmp .eq o, 3, .int y :: .int x :: st => some (o, decide (x = y), st)
  | .if_icmp .ne o, 3, .int y :: .int x :: st => some (o, decide (¬ x = y), st)
  | .if_icmp .lt o, 3, .int y :: .int x :: st => some (o, decide (x < y), st)
  | .if_icmp .ge o, 3, .int y :: .int x :: st => some (o, decide (y ≤ x), st)
  | .if_icmp .gt o, 3, .int y :: .int x :: st => some (o, decide (y < x), st)
  | .if_icmp .le o, 3, .int y :: .int x :: st => some (o, decide (x ≤ y), st)
  | .goto o, 3, st => some (o, true, st)
  | .tableswitch d lo hi os, _, .int x :: st => if x.toInt < lo ∨ hi < x.toInt then some (d, true, st) else (os[(x.toInt - lo).toNat]?).map (fun o => (o, true, st))
  | .lookupswitch d ps, _, .int x :: st => if (ps.toList.zip (ps.toList.drop 1)).all (fun (a, next) => a.1 < next.1) = true then some (Op.lookupswitch.offset ps.toList d x.toInt, true, st) else none
  | _, _, _ => none
def pv_pc (pc : Nat) (o : Int) (t : Bool) : Nat := if t then ((pc : Int) + o).toNat else pc + 3
end
section
/-! ===== the engine's steps over the machine: stack, locals, branches ===== -/
section PV1
variable {p : Program} {l : Launch} {e : Env} {R : Room} {s : State} {m : MethodId} {args : Array Value} {below : List Frame} {meth : Method} {c : Code} {H : Heap} {locs : List Loc} {cells slots : Nat} {Q : State → Prop}
variable {cc : ByteArray} {pc : Nat} {ls : Array Slot} {b : Nat}
set_option maxHeartbeats 4000000 in
theorem pv_s_ok (hx : p.tables.exec = Jvm.exec) (hb : c.code = cc) {i : Instr} {n : Nat} {st st' : List Value} (hd : decode cc pc = .ok (i, n)) (h : pv_s i n st = some st')
    (k : W p l e R s m args below meth c H locs cells slots Q (F0 m (pc + n) ls (st'.map (pv_t b)))) : W p l e R s m args below meth c H locs cells slots Q (F0 m pc ls (st.map (pv_t b))) := by
  unfold pv_s at h
  split at h
  · cases h; exact lv_iconst hx hb hd rfl k
  · cases h; exact lv_bipush hx hb hd rfl k
  · cases h; exact lv_sipush hx hb hd rfl k
  · cases h; exact lv_lconst hx hb hd rfl k
  · cases h; exact lv_iadd hx hb hd k
  · cases h; exact lv_isub hx hb hd k
  · cases h; exact lv_imul hx hb hd k
  · cases h; exact lv_iand hx hb hd k
  · cases h; exact lv_ior hx hb hd k
  · cases h; exact lv_ixor hx hb hd k
  · split at h
    · cases h
    · cases h; exact lv_idiv hx hb hd (by assumption) k
  · split at h
    · cases h
    · cases h; exact lv_irem hx hb hd (by assumption) k
  · cases h; exact lv_ineg hx hb hd k
  · cases h; exact lv_ladd hx hb hd k
  · cases h; exact lv_lmul hx hb hd k
  · split at h
    · cases h
    · cases h; exact lv_ldiv hx hb hd (by assumption) k
  · split at h
    · cases h
    · cases h; exact lv_lrem hx hb hd (by assumption) k
  · cases h; exact lv_ishl hx hb hd k
  · cases h; exact lv_ishr hx hb hd k
  · cases h; exact lv_i2l hx hb hd rfl k
  · cases h; exact lv_l2i hx hb hd rfl k
  · cases h; exact lv_i2b hx hb hd rfl k
  · cases h; exact W.lcmp hx hb hd k
  · split at h
    · cases h; exact lv_dup hx hb hd (by rw [pv_cat]; assumption) k
    · cases h
  · split at h
    · next hc => cases h; exact lv_dup2_11 hx hb hd (by rw [pv_cat]; exact hc.1) (by rw [pv_cat]; exact hc.2) k
    · cases h
  · cases h
theorem pv_tgt {pc : Nat} {o : Int} (h : 0 ≤ (pc : Int) + o) : (pc : Int) + o = ((((pc : Int) + o).toNat : Nat) : Int) := by omega
set_option maxHeartbeats 4000000 in
theorem pv_b_ok (hx : p.tables.exec = Jvm.exec) (hb : c.code = cc) {i : Instr} {n : Nat} {st st' : List Value} {o : Int} {t : Bool} (hd : decode cc pc = .ok (i, n)) (h : pv_b i n st = some (o, t, st')) (ho : 0 ≤ (pc : Int) + o)
    (k : W p l e R s m args below meth c H locs cells slots Q (F0 m (pv_pc pc o t) ls (st'.map (pv_t b)))) : W p l e R s m args below meth c H locs cells slots Q (F0 m pc ls (st.map (pv_t b))) := by
  unfold pv_b at h
  split at h
  · cases h
    exact lv_if_eq hx hb hd (pv_tgt ho) (fun w => by rw [pv_pc, if_pos (decide_eq_true w)] at k; exact k) (fun w => by rw [pv_pc, if_neg (fun z => w (of_decide_eq_true z))] at k; exact k)
  · cases h
    exact lv_if_ne hx hb hd (pv_tgt ho) (fun w => by rw [pv_pc, if_pos (decide_eq_true w)] at k; exact k) (fun w => by rw [pv_pc, if_neg (fun z => (of_decide_eq_true z : ¬ _) w)] at k; exact k)
  · cases h
    exact lv_if_lt hx hb hd (pv_tgt ho) (fun w => by rw [pv_pc, if_pos (decide_eq_true w)] at k; exact k) (fun w => by rw [pv_pc, if_neg (fun z => w (of_decide_eq_true z))] at k; exact k)
  · cases h
    exact lv_if_ge hx hb hd (pv_tgt ho) (fun w => by rw [pv_pc, if_pos (decide_eq_true w)] at k; exact k) (fun w => by rw [pv_pc, if_neg (fun z => w (of_decide_eq_true z))] at k; exact k)
  · cases h
    exact lv_if_gt hx hb hd (pv_tgt ho) (fun w => by rw [pv_pc, if_pos (decide_eq_true w)] at k; exact k) (fun w => by rw [pv_pc, if_neg (fun z => w (of_decide_eq_true z))] at k; exact k)
  · cases h
    exact lv_if_le hx hb hd (pv_tgt ho) (fun w => by rw [pv_pc, if_pos (decide_eq_true w)] at k; exact k) (fun w => by rw [pv_pc, if_neg (fun z => w (of_decide_eq_true z))] at k; exact k)
  · cases h
    exact lv_icmp_eq hx hb hd (pv_tgt ho) (fun w => by rw [pv_pc, if_pos (decide_eq_true w)] at k; exact k) (fun w => by rw [pv_pc, if_neg (fun z => w (of_decide_eq_true z))] at k; exact k)
  · cases h
    exact lv_icmp_ne hx hb hd (pv_tgt ho) (fun w => by rw [pv_pc, if_pos (decide_eq_true w)] at k; exact k) (fun w => by rw [pv_pc, if_neg (fun z => (of_decide_eq_true z : ¬ _) w)] at k; exact k)
  · cases h
    exact lv_icmp_lt hx hb hd (pv_tgt ho) (fun w => by rw [pv_pc, if_pos (decide_eq_true w)] at k; exact k) (fun w => by rw [pv_pc, if_neg (fun z => w (of_decide_eq_true z))] at k; exact k)
  · cases h
    exact lv_icmp_ge hx hb hd (pv_tgt ho) (fun w => by rw [pv_pc, if_pos (decide_eq_true w)] at k; exact k) (fun w => by rw [pv_pc, if_neg (fun z => w (of_decide_eq_true z))] at k; exact k)
  · cases h
    exact lv_icmp_gt hx hb hd (pv_tgt ho) (fun w => by rw [pv_pc, if_pos (decide_eq_true w)] at k; exact k) (fun w => by rw [pv_pc, if_neg (fun z => w (of_decide_eq_true z))] at k; exact k)
  · cases h
    exact lv_icmp_le hx hb hd (pv_tgt ho) (fun w => by rw [pv_pc, if_pos (decide_eq_true w)] at k; exact k) (fun w => by rw [pv_pc, if_neg (fun z => w (of_decide_eq_true z))] at k; exact k)
  · cases h
    exact lv_goto hx hb hd (pv_tgt ho) k
  · split at h
    · next w => cases h; exact lv_tableOut hx hb hd w (pv_tgt ho) k
    · next d lo hi os x st w =>
      cases ho2 : os[(x.toInt - lo).toNat]? with
      | none => rw [ho2] at h; cases h
      | some o2 =>
        rw [ho2] at h; cases h
        exact lv_tableIn hx hb hd (fun z => w (Or.inl z)) (fun z => w (Or.inr z)) ho2 (pv_tgt ho) k
  · split at h
    · next w => cases h; exact lv_lookup hx hb hd w rfl (pv_tgt ho) k
    · cases h
  · cases h
/-- the locals as the engine has them -/
def pv_lh (b : Nat) (ls : Array Slot) (nL : Nat) (loc : pv_L) : Prop := ls.size = nL ∧ lv_wf ls ∧ loc.length ≤ nL ∧ ∀ (i : Nat) (v : Value), loc[i]? = some (some v) → ls[i]? = some (.val (pv_t b v))
def pv_ll (b : Nat) (loc : pv_L) : List (Nat × Value) := (List.range loc.length).filterMap (fun j => match loc[j]? with
  | some (some v) => some (j, pv_t b v)
  | _ => none)
theorem pv_ll_mem {b : Nat} {loc : pv_L} {j : Nat} {w : Value} : (j, w) ∈ pv_ll b loc ↔ ∃ v, loc[j]? = some (some v) ∧ w = pv_t b v := by
  unfold pv_ll
  rw [List.mem_filterMap]
  constructor
  · rintro ⟨k, -, hk⟩
    split at hk
    · next v hv => cases hk; exact ⟨v, hv, rfl⟩
    · cases hk
  · rintro ⟨v, hv, rfl⟩
    have hl : j < loc.length := (List.getElem?_eq_some_iff.mp hv).1
    exact ⟨j, List.mem_range.mpr hl, by rw [hv]⟩
theorem pv_lh.has {b : Nat} {ls : Array Slot} {nL : Nat} {loc : pv_L} (h : pv_lh b ls nL loc) : lv_has ls nL (pv_ll b loc) := ⟨h.1, h.2.1, fun q hq => by
  obtain ⟨j, w⟩ := q
  obtain ⟨v, hv, rfl⟩ := pv_ll_mem.mp hq
  exact h.2.2.2 j v hv⟩
theorem pv_md_len : ∀ (loc : pv_L) (i : Nat), (pv_md loc i).length = loc.length
  | [], _ => rfl
  | _ :: _, 0 => rfl
  | _ :: l, j + 1 => congrArg (· + 1) (pv_md_len l j)
theorem pv_md_get : ∀ (loc : pv_L) (i j : Nat), (pv_md loc i)[j]? = if j = i then (loc[j]?).map pv_nl else loc[j]?
  | [], i, j => by simp [pv_md]
  | a :: l, 0, 0 => rfl
  | a :: l, 0, j + 1 => by simp [pv_md]
  | a :: l, i + 1, 0 => by simp [pv_md]
  | a :: l, i + 1, j + 1 => by
    have h := pv_md_get l i j
    simp only [pv_md, List.getElem?_cons_succ]
    rw [h]
    simp
theorem pv_k_len (loc : pv_L) (i : Nat) : (pv_k loc i).length = loc.length := by
  unfold pv_k
  split
  · rfl
  · exact pv_md_len _ _
theorem pv_nl_some {a : Option Value} {v : Value} (h : pv_nl a = some v) : a = some v ∧ ¬ v.category = 2 := by
  unfold pv_nl at h
  split at h
  · cases h
  · cases h
  · next h1 h2 =>
    refine ⟨h, fun q => ?_⟩
    subst h
    cases v <;> simp [Value.category] at q
    · exact h1 _ rfl
    · exact h2 _ rfl
theorem pv_k_get {loc : pv_L} {i j : Nat} {v : Value} (h : (pv_k loc i)[j]? = some (some v)) : loc[j]? = some (some v) ∧ ¬ (j + 1 = i ∧ v.category = 2) := by
  unfold pv_k at h
  split at h
  · exact ⟨h, fun q => by omega⟩
  · next i' =>
    rw [pv_md_get] at h
    split at h
    · next e =>
      subst e
      cases ha : loc[j]? with
      | none => rw [ha] at h; cases h
      | some a =>
        rw [ha] at h
        have h1 : pv_nl a = some v := Option.some.inj h
        obtain ⟨h2, h3⟩ := pv_nl_some h1
        exact ⟨by rw [h2], fun q => h3 q.2⟩
    · next e => exact ⟨h, fun q => by omega⟩
theorem pv_st1_ok {b : Nat} {ls ls' : Array Slot} {nL : Nat} {loc : pv_L} {i : Nat} {v : Value} (h : pv_lh b ls nL loc) (h' : lv_has ls' nL ((i, pv_t b v) :: (pv_ll b loc).filter (fun q => !(q.1 == i) && !(q.1 + 1 == i && q.2.category == 2)))) : pv_lh b ls' nL (pv_st1 loc i v) := by
  refine ⟨h'.1, h'.2.1, by unfold pv_st1; rw [List.length_set, pv_k_len]; exact h.2.2.1, fun j w hw => ?_⟩
  unfold pv_st1 at hw
  rw [List.getElem?_set] at hw
  split at hw
  · next e =>
    subst e
    split at hw
    · cases hw; exact h'.2.2 (_, _) (List.mem_cons_self)
    · cases hw
  · next e =>
    obtain ⟨h1, h2⟩ := pv_k_get hw
    refine h'.2.2 (j, pv_t b w) (List.mem_cons_of_mem _ (List.mem_filter.mpr ⟨pv_ll_mem.mpr ⟨w, h1, rfl⟩, ?_⟩))
    simp only [pv_cat, Bool.and_eq_true, Bool.not_eq_true', beq_eq_false_iff_ne, ne_eq, Bool.and_eq_false_iff]
    refine ⟨fun q => e q.symm, ?_⟩
    by_cases q : j + 1 = i
    · exact Or.inr (fun z => h2 ⟨q, z⟩)
    · exact Or.inl q
theorem pv_st2_ok {b : Nat} {ls ls' : Array Slot} {nL : Nat} {loc : pv_L} {i : Nat} {v : Value} (h : pv_lh b ls nL loc) (h' : lv_has ls' nL ((i, pv_t b v) :: (pv_ll b loc).filter (fun q => !(q.1 == i) && (!(q.1 == i + 1) && !(q.1 + 1 == i && q.2.category == 2))))) : pv_lh b ls' nL (pv_st2 loc i v) := by
  refine ⟨h'.1, h'.2.1, by unfold pv_st2; rw [List.length_set, List.length_set, pv_k_len]; exact h.2.2.1, fun j w hw => ?_⟩
  unfold pv_st2 at hw
  rw [List.getElem?_set] at hw
  split at hw
  · split at hw <;> cases hw
  · next e1 =>
    rw [List.getElem?_set] at hw
    split at hw
    · next e =>
      subst e
      split at hw
      · cases hw; exact h'.2.2 (_, _) (List.mem_cons_self)
      · cases hw
    · next e =>
      obtain ⟨h1, h2⟩ := pv_k_get hw
      refine h'.2.2 (j, pv_t b w) (List.mem_cons_of_mem _ (List.mem_filter.mpr ⟨pv_ll_mem.mpr ⟨w, h1, rfl⟩, ?_⟩))
      simp only [pv_cat, Bool.and_eq_true, Bool.not_eq_true', beq_eq_false_iff_ne, ne_eq, Bool.and_eq_false_iff]
      refine ⟨fun q => e q.symm, fun q => e1 q.symm, ?_⟩
      by_cases q : j + 1 = i
      · exact Or.inr (fun z => h2 ⟨q, z⟩)
      · exact Or.inl q
set_option maxHeartbeats 4000000 in
theorem pv_l_ok (hx : p.tables.exec = Jvm.exec) (hb : c.code = cc) {i : Instr} {n nL : Nat} {loc loc' : pv_L} {st st' : List Value} (hd : decode cc pc = .ok (i, n)) (h : pv_l i n loc st = some (loc', st')) (hl : pv_lh b ls nL loc)
    (k : ∀ ls' : Array Slot, pv_lh b ls' nL loc' → W p l e R s m args below meth c H locs cells slots Q (F0 m (pc + n) ls' (st'.map (pv_t b)))) : W p l e R s m args below meth c H locs cells slots Q (F0 m pc ls (st.map (pv_t b))) := by
  unfold pv_l at h
  split at h
  · split at h
    · next hv => cases h; exact lv_iload_n hx hb hd rfl (hl.2.2.2 _ _ hv) (k ls hl)
    · cases h
  · split at h
    · next hv => cases h; exact lv_iload hx hb hd (hl.2.2.2 _ _ hv) (k ls hl)
    · cases h
  · split at h
    · next hv => cases h; exact lv_lload_n hx hb hd rfl (hl.2.2.2 _ _ hv) (k ls hl)
    · cases h
  · split at h
    · next hv => cases h; exact lv_lload hx hb hd (hl.2.2.2 _ _ hv) (k ls hl)
    · cases h
  · split at h
    · next hv => cases h; exact lv_aload_n hx hb hd rfl (hl.2.2.2 _ _ hv) (k ls hl)
    · cases h
  · split at h
    · next hv => cases h; exact lv_istore_n hx hb hd rfl hl.has (Nat.lt_of_lt_of_le hv hl.2.2.1) rfl (fun ls' h' => k ls' (pv_st1_ok hl h'))
    · cases h
  · split at h
    · next hv => cases h; exact lv_istore hx hb hd hl.has (Nat.lt_of_lt_of_le hv hl.2.2.1) rfl (fun ls' h' => k ls' (pv_st1_ok hl h'))
    · cases h
  · split at h
    · next x _ hv => cases h; exact lv_astore_n (x := b + x) hx hb hd rfl hl.has (Nat.lt_of_lt_of_le hv hl.2.2.1) rfl (fun ls' h' => k ls' (pv_st1_ok (v := .ref x) hl h'))
    · cases h
  · split at h
    · next hv => cases h; exact lv_lstore_n hx hb hd rfl hl.has (Nat.lt_of_lt_of_le hv hl.2.2.1) rfl (fun ls' h' => k ls' (pv_st2_ok hl h'))
    · cases h
  · split at h
    · next hv => cases h; exact lv_lstore hx hb hd hl.has (Nat.lt_of_lt_of_le hv hl.2.2.1) rfl (fun ls' h' => k ls' (pv_st2_ok hl h'))
    · cases h
  · split at h
    · next k0 c0 x hv =>
      split at h
      · next hlt =>
        cases h
        obtain ⟨q, hq⟩ := List.getElem?_of_mem (pv_ll_mem (b := b).mpr ⟨_, hv, rfl⟩)
        exact lv_iinc hx hb hd hl.has hq rfl (Nat.lt_of_lt_of_le hlt hl.2.2.1) rfl (fun ls' h' => k ls' (pv_st1_ok hl h'))
      · cases h
    · cases h
  · cases h
/-- a method's locals as it begins -/
theorem pv_sl_lg (b : Nat) : ∀ (vs : List Value) (i : Nat) (v : Value), (pv_sl vs)[i]? = some (some v) → (lg_sl (vs.map (pv_t b)))[i]? = some (.val (pv_t b v))
  | [], i, v, h => by simp [pv_sl] at h
  | w :: vs, i, v, h => by
    have ih := pv_sl_lg b vs
    cases w <;> (simp only [pv_sl] at h; simp only [lg_sl, List.map_cons, List.flatMap_cons, pv_t, Value.category] at ih ⊢) <;>
      first
      | (match i with
         | 0 => (simp at h; subst h; rfl)
         | 1 => (simp at h)
         | i + 2 => (simp at h; exact ih i v h))
      | (match i with
         | 0 => (simp at h; subst h; rfl)
         | i + 1 => (simp at h; exact ih i v h))
theorem pv_sl_len (b : Nat) : ∀ vs : List Value, (lg_sl (vs.map (pv_t b))).length = (pv_sl vs).length
  | [] => rfl
  | w :: vs => by
    have ih := pv_sl_len b vs
    cases w <;> simp [pv_sl, lg_sl, pv_t, Value.category] at ih ⊢ <;> omega
theorem pv_entry (b : Nat) (vs : List Value) {n : Nat} (h : (pv_sl vs).length ≤ n) : pv_lh b ((lg_sl (vs.map (pv_t b)) ++ List.replicate (n - (lg_sl (vs.map (pv_t b))).length) Slot.unset).toArray) n (pv_ent vs n) := by
  have hl := lv_entry (vs.map (pv_t b)) (n := n) (by rw [pv_sl_len]; exact h)
  refine ⟨hl.1, hl.2.1, by unfold pv_ent; simp; omega, fun i v hv => ?_⟩
  unfold pv_ent at hv
  have hi : i < (pv_sl vs).length := by
    rcases Nat.lt_or_ge i (pv_sl vs).length with q | q
    · exact q
    · rw [List.getElem?_append_right q, List.getElem?_replicate] at hv
      split at hv <;> cases hv
  rw [List.getElem?_append_left hi] at hv
  have h2 := pv_sl_lg b vs i v hv
  simp only [List.getElem?_toArray]
  rw [List.getElem?_append_left (by rw [pv_sl_len]; exact hi)]
  exact h2
end PV1
end
section
/-! ===== tables of links, held against the Statement's words ===== -/
def pv_ty : Nat → Nat → FieldType := fun ci => match ci with
  | 0 => tyX1
  | 1 => tyX2
  | 2 => tyX3
  | 3 => tyX4
  | 4 => tyX5
  | 5 => tyX6
  | _ => tyX7
def pv_fw (e : Nat × Nat × Nat × Nat × Nat) : Option Cond := (vwCl[e.2.2.1]?).map fun q => .fieldLink (pv_own e.1) e.2.1 q.1 (q.2.1 e.2.2.2.1).2.1 (q.2.1 e.2.2.2.1).2.2.1
def pv_nw (e : Nat × Nat × Nat × Nat × Nat) : Option Cond := (vwCl[e.2.2.1]?).map fun q => .fieldLinkNest (pv_own e.1) e.2.1 q.1 (q.2.1 e.2.2.2.1).2.1 (q.2.1 e.2.2.2.1).2.2.1 "PoundCat"
set_option maxRecDepth 100000 in
theorem pv_LF_ok : ∀ e ∈ pv_LF, pv_fw e ≠ none ∧ lw_tbl[e.2.2.2.2]? = pv_fw e := by decide +kernel
set_option maxRecDepth 100000 in
theorem pv_LN_ok : ∀ e ∈ pv_LN, pv_nw e ≠ none ∧ lw_tbl[e.2.2.2.2]? = pv_nw e := by decide +kernel
def pv_lk (x : Option Cond) : Cond := x.getD .tt
set_option maxRecDepth 100000 in
theorem pv_LC_ok : ∀ e ∈ pv_LC, lw_tbl[e.2.2.2]? = some (.constant (pv_own e.1) e.2.1 e.2.2.1) := by decide +kernel
set_option maxRecDepth 100000 in
theorem pv_LJ_ok : ∀ e ∈ pv_LJ, lw_tbl[e.2.2.2]? = some (.constantLong (pv_own e.1) e.2.1 e.2.2.1) := by decide +kernel
abbrev pv_nm (y : pv_Y) : MethodName := y.1
abbrev pv_cd (y : pv_Y) : ByteArray := y.2.1
abbrev pv_ml (y : pv_Y) : Nat := y.2.2.1
abbrev pv_rt (y : pv_Y) : Option FieldType := y.2.2.2.1
abbrev pv_cn (y : pv_Y) : Nat := y.2.2.2.2.1
abbrev pv_is (y : pv_Y) : Bool := y.2.2.2.2.2.1
abbrev pv_np (y : pv_Y) : Nat := y.2.2.2.2.2.2.1
abbrev pv_fr (y : pv_Y) : Nat := y.2.2.2.2.2.2.2.1
abbrev pv_lc (y : pv_Y) : Nat := y.2.2.2.2.2.2.2.2.1
abbrev pv_mc (y : pv_Y) : Nat := y.2.2.2.2.2.2.2.2.2.1
abbrev pv_ms (y : pv_Y) : Nat := y.2.2.2.2.2.2.2.2.2.2
def pv_code (y : pv_Y) : Cond := .code (pv_nm y) (pv_cd y) (pv_ml y) (pv_rt y)
/-- a link of a call: its words stand at their places, its method is that of the table -/
def pv_mOk (e : Nat × Nat × Nat × Nat × Nat × Nat × Nat × Nat × Nat) : Bool :=
  match pv_tab[e.2.2.2.1]? with
  | none => false
  | some z =>
    decide (lw_tbl[e.2.2.2.2.1]? = some (if e.2.2.1 = 3 then .methodLinkNest (pv_own e.1) e.2.1 (pv_nm z) "PoundCat" else .methodLink (pv_own e.1) e.2.1 (pv_nm z))) &&
    decide (lw_tbl[e.2.2.2.2.2.1]? = some (if e.2.2.1 = 1 then .static (pv_nm z) else .instanceMethod (pv_nm z))) &&
    (e.2.2.1 != 0 || decide (lw_tbl[e.2.2.2.2.2.2.1]? = some (.selects (pv_nm z).cls (pv_nm z) (pv_nm z)))) &&
    decide (lw_tbl[e.2.2.2.2.2.2.2.1]? = some (.initialized (pv_nm z).cls)) &&
    (pv_is z == (e.2.2.1 == 1)) && ((e.2.2.1 == 0 || e.2.2.1 == 1) || decide ((pv_nm z).name = "<init>" ∧ pv_rt z = none))
end
section
set_option maxRecDepth 100000 in
theorem pv_LM_ok_0 : ∀ e ∈ pv_LM_0, pv_mOk e = true := by decide +kernel
set_option maxRecDepth 100000 in
theorem pv_LM_ok_1 : ∀ e ∈ pv_LM_1, pv_mOk e = true := by decide +kernel
set_option maxRecDepth 100000 in
theorem pv_LM_ok_2 : ∀ e ∈ pv_LM_2, pv_mOk e = true := by decide +kernel
set_option maxRecDepth 100000 in
theorem pv_LM_ok_3 : ∀ e ∈ pv_LM_3, pv_mOk e = true := by decide +kernel
set_option maxRecDepth 100000 in
theorem pv_LM_ok_4 : ∀ e ∈ pv_LM_4, pv_mOk e = true := by decide +kernel
set_option maxRecDepth 100000 in
theorem pv_LM_ok_5 : ∀ e ∈ pv_LM_5, pv_mOk e = true := by decide +kernel
set_option maxRecDepth 100000 in
theorem pv_LM_ok_6 : ∀ e ∈ pv_LM_6, pv_mOk e = true := by decide +kernel
set_option maxRecDepth 100000 in
theorem pv_LM_ok_7 : ∀ e ∈ pv_LM_7, pv_mOk e = true := by decide +kernel
set_option maxRecDepth 100000 in
theorem pv_LM_ok_8 : ∀ e ∈ pv_LM_8, pv_mOk e = true := by decide +kernel
set_option maxRecDepth 100000 in
theorem pv_LM_ok_9 : ∀ e ∈ pv_LM_9, pv_mOk e = true := by decide +kernel
theorem pv_LM_ok : ∀ e ∈ pv_LM, pv_mOk e = true := List.forall_mem_append.mpr ⟨pv_LM_ok_0, List.forall_mem_append.mpr ⟨pv_LM_ok_1, List.forall_mem_append.mpr ⟨pv_LM_ok_2, List.forall_mem_append.mpr ⟨pv_LM_ok_3, List.forall_mem_append.mpr ⟨pv_LM_ok_4, List.forall_mem_append.mpr ⟨pv_LM_ok_5, List.forall_mem_append.mpr ⟨pv_LM_ok_6, List.forall_mem_append.mpr ⟨pv_LM_ok_7, List.forall_mem_append.mpr ⟨pv_LM_ok_8, pv_LM_ok_9⟩⟩⟩⟩⟩⟩⟩⟩⟩
set_option maxRecDepth 100000 in
theorem pv_LMN_ok : ∀ e ∈ pv_LMN, pv_mOk e = true := by decide +kernel
end
section
def pv_tab_0 : List pv_Y := [mX0_byLetter, mX0_isOf, mX0_mealAdds, mX0_hasMice, mX0_hoursToMoult, mX0_hourAdds, mX0_held, mX0_afterHour, mX1_init, mX1_fill, mX1_weightIn, mX1_firstWith, mX1_spread, mX1_poundsThen, mX1_startKinds, mX1_passKinds, mX1_greatestPart, mX1_alikeTo, mX2_init, mX2_faultOf, mX2_signAt, mX2_skipBlanks, mX2_takeDog, mX2_takeCat, mX2_takeWeight]
set_option maxRecDepth 100000 in
theorem pv_tab_c0 : pv_tab_0.map (fun z => some (pv_code z)) = [378, 454, 430, 407, 410, 404, 413, 401, 194, 534, 541, 549, 557, 578, 670, 682, 674, 678, 103, 349, 358, 354, 363, 375, 367].map (fun i => lw_tbl[i]?) := by rfl
def pv_tab_1 : List pv_Y := [mX2_figureAt, mX3_init, mX3_hasNumber, mX3_isThere, mX3_hasRun, mX3_sizeOf, mX3_get, mX3_set, mX3_make, mX3_remove, mX3_move, mX3_sumOf, mX3_thereCount, mX3_mixInto, mX4_init, mX4_answerFinding, mX4_tell, mX4_greatestDivisor, mX5_init, mX5_begin, mX5_isCat, mX5_pound, mX5_rulerKind, mX5_rulerMeal, mX5_mealAdds]
set_option maxRecDepth 100000 in
theorem pv_tab_c1 : pv_tab_1.map (fun z => some (pv_code z)) = [371, 83, 262, 286, 290, 329, 294, 298, 270, 310, 318, 333, 743, 767, 210, 266, 622, 625, 133, 386, 423, 435, 574, 601, 427].map (fun i => lw_tbl[i]?) := by rfl
def pv_tab_2 : List pv_Y := [mX5_trait, mX5_countOf, mX5_weightOfSet, mX5_hasRoomFor, mX5_hasGoodsFor, mX5_doDeed, mX5_act, mX5_passHour, mX5_replay, mX5_hasKeptNumber, mX5_store, mX5_restore, mX5_keptTowns, mX6_init, mX6_row, mX6_lay, mX6_at, mX6_tear, mX6_copy, mX6_mean, mX6_text, mX6_put, mX6_fault, mX6_town, mX6_cat]
set_option maxRecDepth 100000 in
theorem pv_tab_c2 : pv_tab_2.map (fun z => some (pv_code z)) = [447, 462, 614, 471, 493, 475, 394, 398, 390, 510, 514, 522, 748, 75, 254, 274, 302, 306, 314, 325, 337, 341, 345, 382, 439].map (fun i => lw_tbl[i]?) := by rfl
def pv_tab_3 : List pv_Y := [mX6_mark, mX6_hour, mX6_feed, mX6_buy, mX6_sell, mX6_rule, mX6_undo, mX6_keep, mX6_on, mX6_weighs, mX6_when, mX6_steady, mX6_meals, mX6_gain, mX6_ring, mX6_plan, mX6_sacks, mX6_sure, mX6_ask, mX6_kinds, mX6_weights, mX6_test, mX6_fright, mX6_odds, mX6_mid]
set_option maxRecDepth 100000 in
theorem pv_tab_c3 : pv_tab_3.map (fun z => some (pv_code z)) = [451, 467, 481, 485, 489, 497, 501, 506, 518, 526, 545, 553, 561, 566, 583, 590, 606, 629, 637, 642, 662, 666, 686, 690, 706].map (fun i => lw_tbl[i]?) := by rfl
def pv_tab_4 : List pv_Y := [mX6_lots, mX6_asked, mX6_upper, mX6_lower, mX6_pence, mX6_count, mX6_finding, mX6_findings, mX6_digest, mX6_isWithin, mX6_makeAnew, mX6_refuseMissing, mX6_refusePlace, mX6_refuseLedger, mX6_lookAhead, mX6_lookAtPound, mX6_planWorth, mX6_isFedAhead, mX6_setCount, mX6_setsOf, mX6_setsWith, mX6_holdsPairs, mX6_fitsLedger, mX6_kindsFitting, mX6_weightByMice]
set_option maxRecDepth 100000 in
theorem pv_tab_c4 : pv_tab_4.map (fun z => some (pv_code z)) = [710, 723, 727, 731, 735, 739, 752, 756, 760, 443, 258, 282, 278, 646, 530, 570, 594, 597, 610, 618, 633, 650, 658, 654, 694].map (fun i => lw_tbl[i]?) := by rfl
def pv_tab_5 : List pv_Y := [mX6_shareOf, mX6_wholeOf, mX6_deedByLot, mX7_init, mX7_in, mX7_has, mX7_found, mX7_tell, mX7_answer, mX7_isRow, mX7_isText, mX7_row, mX7_lay, mX7_at, mX7_tear, mX7_copy, mX7_mean, mX7_text, mX7_put, mX7_byteAt, mX7_blanks, mX7_kindOf, mX7_takes, mX7_takesWeight, mX7_readsDog]
set_option maxRecDepth 100000 in
theorem pv_tab_c5 : pv_tab_5.map (fun z => some (pv_code z)) = [698, 701, 717, 773, 874, 1115, 878, 886, 1070, 870, 909, 867, 882, 890, 894, 898, 902, 906, 914, 930, 926, 950, 942, 938, 934].map (fun i => lw_tbl[i]?) := by rfl
def pv_tab_6 : List pv_Y := [mX7_readsCat, mX7_faultOf, mX7_fault, mX7_town, mX7_isCat, mX7_meal, mX7_changes, mX7_bound, mX7_after, mX7_afterOf, mX7_poundIn, mX7_pound, mX7_abs, mX7_told, mX7_cat, mX7_isOf, mX7_kindsOf, mX7_mark, mX7_copies, mX7_remember, mX7_hourGoes, mX7_eats, mX7_buys, mX7_hour, mX7_feed]
set_option maxRecDepth 100000 in
theorem pv_tab_c6 : pv_tab_6.map (fun z => some (pv_code z)) = [947, 922, 918, 954, 962, 970, 981, 984, 978, 974, 1083, 1014, 1090, 967, 958, 991, 995, 988, 1010, 1007, 1003, 1022, 1030, 999, 1018].map (fun i => lw_tbl[i]?) := by rfl
def pv_tab_7 : List pv_Y := [mX7_buy, mX7_sell, mX7_rule, mX7_undo, mX7_keep, mX7_on, mX7_weighs, mX7_when, mX7_steady, mX7_meals, mX7_gain, mX7_ring, mX7_planned, mX7_plan, mX7_isSack, mX7_fraction, mX7_refuses, mX7_sacks, mX7_sure, mX7_ask, mX7_wrongPairs, mX7_isSo, mX7_kindsBy, mX7_kinds, mX7_weights]
set_option maxRecDepth 100000 in
theorem pv_tab_c7 : pv_tab_7.map (fun z => some (pv_code z)) = [1026, 1034, 1038, 1042, 1046, 1051, 1055, 1060, 1065, 1074, 1079, 1087, 1099, 1094, 1112, 1119, 1107, 1103, 1123, 1127, 1135, 1144, 1140, 1131, 1148].map (fun i => lw_tbl[i]?) := by rfl
def pv_tab_8 : List pv_Y := [mX7_alike, mX7_test, mX7_beginsStep, mX7_weighsIt, mX7_goesOn, mX7_fright, mX7_chances, mX7_odds, mX7_mid, mX7_plays, mX7_lots, mX7_asked, mX7_upper, mX7_lower, mX7_pence, mX7_counted, mX7_count, mX7_finding, mX7_findings, mX7_digest]
set_option maxRecDepth 100000 in
theorem pv_tab_c8 : pv_tab_8.map (fun z => some (pv_code z)) = [1156, 1152, 1164, 1168, 1172, 1160, 1182, 1176, 1186, 1198, 1190, 1202, 1206, 1210, 1214, 1223, 1218, 1227, 1231, 1235].map (fun i => lw_tbl[i]?) := by rfl
end
section
/-! ===== the world: cells by number ===== -/
def pv_e (b : Nat) (ca : Nat → ClassId) : pv_C → va_E
  | .inl (t, n, .inl f) => .inl (ca t, n, .inl f)
  | .inl (t, n, .inr F) => .inl (ca t, n, .inr (.inr (.inr (.inr (fun i => if i < n then some (b + (F + i)) else none)))))
  | .inr (c, fs) => .inr (c, fs.map (pv_t b))
def pv_w (b : Nat) (ca : Nat → ClassId) (A : pv_H) : va_W := (List.range A.1).map (fun k => (b + k, pv_e b ca (A.2 k)))
def pv_A (b : Nat) : Nat → Prop := fun q => b ≤ q
theorem pv_w_get {b : Nat} {ca : Nat → ClassId} {A : pv_H} {k : Nat} (h : k < A.1) : (pv_w b ca A)[k]? = some (b + k, pv_e b ca (A.2 k)) := by
  unfold pv_w
  rw [List.getElem?_map, List.getElem?_range h]
  rfl
theorem pv_w_len (b : Nat) (ca : Nat → ClassId) (A : pv_H) : (pv_w b ca A).length = A.1 := by simp [pv_w]
theorem pv_w_some {b : Nat} {ca : Nat → ClassId} {A : pv_H} {k : Nat} {q : Nat × va_E} (h : (pv_w b ca A)[k]? = some q) : k < A.1 ∧ q = (b + k, pv_e b ca (A.2 k)) := by
  have hl : k < A.1 := by rw [← pv_w_len b ca A]; exact (List.getElem?_eq_some_iff.mp h).1
  rw [pv_w_get hl] at h
  cases h
  exact ⟨hl, rfl⟩
theorem pv_w_D (b : Nat) (ca : Nat → ClassId) (A : pv_H) : va_D (pv_A b) (pv_w b ca A) := by
  refine ⟨fun i j p q hi hj hpq => ?_, fun k q hk => ?_⟩
  · obtain ⟨-, rfl⟩ := pv_w_some hi
    obtain ⟨-, rfl⟩ := pv_w_some hj
    exact Nat.add_left_cancel hpq
  · obtain ⟨-, rfl⟩ := pv_w_some hk
    exact Nat.le_add_right b k
theorem pv_w_set {b : Nat} {ca : Nat → ClassId} {A : pv_H} {k : Nat} (c : pv_C) : (pv_w b ca A).set k (b + k, pv_e b ca c) = pv_w b ca (A.1, pv_up A.2 k c) := by
  apply List.ext_getElem?
  intro j
  by_cases e : j = k
  · subst e
    by_cases h : j < A.1
    · rw [List.getElem?_set_self (by rw [pv_w_len]; exact h), pv_w_get (A := (A.1, pv_up A.2 j c)) h]
      simp [pv_up]
    · rw [List.getElem?_eq_none (by rw [List.length_set, pv_w_len]; omega), List.getElem?_eq_none (by rw [pv_w_len]; exact Nat.le_of_not_lt h)]
  · rw [List.getElem?_set_ne (Ne.symm e)]
    by_cases h : j < A.1
    · rw [pv_w_get h, pv_w_get (A := (A.1, pv_up A.2 k c)) h]
      simp [pv_up, e]
    · rw [List.getElem?_eq_none (by rw [pv_w_len]; omega), List.getElem?_eq_none (by rw [pv_w_len]; exact Nat.le_of_not_lt h)]
/-- the heap is what the engine has -/
def pv_P (b : Nat) (D : va_G) (ca : Nat → ClassId) (A : pv_H) (H : Heap) : Prop := H.size = b + A.1 ∧ va_P D vwCl (pv_w b ca A) H
def pv_tys (ca : Nat → ClassId) : List (ClassId × FieldType) := [(ca 0, .int), (ca 1, .boolean), (ca 2, .array .int)]
theorem pv_P.set {b : Nat} {D : va_G} {ca : Nat → ClassId} {A : pv_H} {H H1 : Heap} {k : Nat} {c : pv_C} (h : pv_P b D ca A H) (hk : k < A.1) (he : va_at D vwCl (b + k, pv_e b ca c) H1) (hz : H1.size = H.size) (oq : ∀ q : Nat, q ≠ b + k → H1[q]? = H[q]?) : pv_P b D ca (A.1, pv_up A.2 k c) H1 := by
  refine ⟨by rw [hz]; exact h.1, ?_⟩
  rw [← pv_w_set]
  exact h.2.set (pv_w_D b ca A) (pv_w_get hk) he oq
theorem pv_P.push {b : Nat} {D : va_G} {ca : Nat → ClassId} {A : pv_H} {H H1 : Heap} {c : pv_C} (h : pv_P b D ca A H) (he : va_at D vwCl (b + A.1, pv_e b ca c) H1) (hz : H1.size = H.size + 1) (oq : ∀ q : Nat, q < H.size → H1[q]? = H[q]?) : pv_P b D ca (A.1 + 1, pv_up A.2 A.1 c) H1 := by
  refine ⟨by rw [hz, h.1]; rfl, fun k q hk => ?_⟩
  obtain ⟨hl, rfl⟩ := pv_w_some hk
  have hl : k < A.1 + 1 := hl
  by_cases e : k = A.1
  · subst e
    simpa [pv_up] using he
  · have hk2 : k < A.1 := by omega
    have h1 := h.2 k _ (pv_w_get hk2)
    have h2 := h1.kept (oq (b + k) (by rw [h.1]; omega))
    simpa [pv_up, e] using h2
theorem pv_P.lt {b : Nat} {D : va_G} {ca : Nat → ClassId} {A : pv_H} {H : Heap} (h : pv_P b D ca A H) {k : Nat} (hk : k < A.1) : b + k < H.size := by rw [h.1]; omega
/-- what the tables say of the state -/
def pv_K (D : va_G) (ca : Nat → ClassId) (U : State) : Prop := va_K D vwCl (pv_tys ca) U ∧ (∀ e ∈ pv_LN, va_Nw (pv_lk (pv_nw e)) U) ∧ (∀ e ∈ pv_LMN, ∀ z, pv_tab[e.2.2.2.1]? = some z → va_Nw (.methodLinkNest (pv_own e.1) e.2.1 (pv_nm z) "PoundCat") U) ∧ ∃ kA : Class, U.vm.classes[ca 2]? = some kA ∧ kA.kind = .array (ca 0) (.array .int)
theorem pv_kA {ca : Nat → ClassId} {u U : State} (hvm : u.vm.Alike U.vm) (h : ∃ kA : Class, u.vm.classes[ca 2]? = some kA ∧ kA.kind = .array (ca 0) (.array .int)) : ∃ kA : Class, U.vm.classes[ca 2]? = some kA ∧ kA.kind = .array (ca 0) (.array .int) := by
  obtain ⟨kA, h1, h2⟩ := h
  obtain ⟨k', hk', he⟩ := hvm.2.2 _ _ h1
  exact ⟨k', hk', by rw [he]; exact h2⟩
theorem pv_K.warm {D : va_G} {ca : Nat → ClassId} {s U : State} (hW : s.WarmedH U.vm) (h : pv_K D ca s) : pv_K D ca U := by
  refine ⟨va_K.moved hW.alike h.1, fun e he => ?_, fun e he z hz => (h.2.2.1 e he z hz).warmM hW, pv_kA hW.alike h.2.2.2⟩
  have h1 := h.2.1 e he
  have h2 := (pv_LN_ok e he).1
  unfold pv_nw at h1 h2 ⊢
  unfold pv_lk at h1 ⊢
  cases hq : vwCl[e.2.2.1]? with
  | none => rw [hq] at h2; exact absurd rfl h2
  | some q => rw [hq] at h1; exact h1.warmF hW
theorem pv_K.blind {D : va_G} {ca : Nat → ClassId} {U U' : State} (hv : U.vm = U'.vm) (h : pv_K D ca U) : pv_K D ca U' := by
  refine ⟨va_K.moved (by rw [hv]; exact Vm.Alike.refl _) h.1, fun e he => ?_, fun e he z hz => (h.2.2.1 e he z hz).same rfl hv, pv_kA (by rw [hv]; exact Vm.Alike.refl _) h.2.2.2⟩
  have h1 := h.2.1 e he
  have h2 := (pv_LN_ok e he).1
  unfold pv_nw at h1 h2 ⊢
  unfold pv_lk at h1 ⊢
  cases hq : vwCl[e.2.2.1]? with
  | none => rw [hq] at h2; exact absurd rfl h2
  | some q => rw [hq] at h1; exact h1.same rfl hv
/-- what is known within a method -/
def pv_cx (y : pv_Y) (p : Program) (s : State) (m : MethodId) (args : Array Value) (meth : Method) (c : Code) (D : va_G) (ca : Nat → ClassId) : Prop :=
  p.tables.exec = Jvm.exec ∧ c.code = pv_cd y ∧ c.maxLocals = pv_ml y ∧ meth.sig.returnType = pv_rt y ∧ meth.locks = false ∧ meth.name = (pv_nm y).name ∧ s.vm.findClass (pv_own (pv_cn y)) = some m.cls ∧ (∀ w ∈ pv_T, w.before args s = true) ∧ pv_K D ca s
def pv_room (y : pv_Y) : Room := { frames := pv_fr y, cells := pv_mc y, slots := pv_ms y, locals := pv_lc y }
/-- the classes of objects: their fields' words, types, names -/
def pv_clOk (q : vw_C) (ty : Nat → FieldType) : Prop := (∀ w ∈ u_ws q.1 q.2.1 q.2.2, w ∈ pv_T) ∧ (∀ k, k < q.2.2 → parseFieldDescriptor (q.2.1 k).2.2.1 = some (ty k)) ∧ (∀ a, a < q.2.2 → ∀ b, b < q.2.2 → a ≠ b → (q.2.1 a).2.1 ≠ (q.2.1 b).2.1) ∧ ∀ k, k < q.2.2 → (q.2.1 k).1 = q.1
def pv_lys (q : vw_C) (ps : List Nat) : Bool := decide (ps.map (fun i => lw_tbl[i]?) = (u_ws q.1 q.2.1 q.2.2).map some) && (u_ws q.1 q.2.1 q.2.2).all goodWord
theorem pv_lys_ok {q : vw_C} {ps : List Nat} (h : pv_lys q ps = true) : ∀ w ∈ u_ws q.1 q.2.1 q.2.2, w ∈ pv_T := by
  unfold pv_lys at h
  simp only [Bool.and_eq_true, decide_eq_true_eq] at h
  intro w hw
  have h1 : some w ∈ (u_ws q.1 q.2.1 q.2.2).map some := List.mem_map.mpr ⟨w, hw, rfl⟩
  rw [← h.1] at h1
  obtain ⟨i, -, hi⟩ := List.mem_map.mp h1
  exact pv_mem i hi (List.all_eq_true.mp h.2 w hw)
set_option maxRecDepth 100000 in
theorem pv_lyX1 : pv_clOk (RX1, TX1, 3) tyX1 := ⟨pv_lys_ok (ps := [199, 201, 203]) (by decide +kernel), tyX1_ok, nmX1, by decide +kernel⟩
set_option maxRecDepth 100000 in
theorem pv_lyX2 : pv_clOk (RX2, TX2, 6) tyX2 := ⟨pv_lys_ok (ps := [116, 118, 120, 122, 124, 126]) (by decide +kernel), tyX2_ok, nmX2, by decide +kernel⟩
set_option maxRecDepth 100000 in
theorem pv_lyX3 : pv_clOk (RX3, TX3, 3) tyX3 := ⟨pv_lys_ok (ps := [91, 93, 95]) (by decide +kernel), tyX3_ok, nmX3, by decide +kernel⟩
set_option maxRecDepth 100000 in
theorem pv_lyX4 : pv_clOk (RX4, TX4, 5) tyX4 := ⟨pv_lys_ok (ps := [221, 223, 225, 227, 229]) (by decide +kernel), tyX4_ok, nmX4, by decide +kernel⟩
set_option maxRecDepth 100000 in
theorem pv_lyX5 : pv_clOk (RX5, TX5, 14) tyX5 := ⟨pv_lys_ok (ps := [161, 163, 165, 167, 169, 171, 173, 175, 177, 179, 181, 183, 185, 187]) (by decide +kernel), tyX5_ok, nmX5, by decide +kernel⟩
set_option maxRecDepth 100000 in
theorem pv_lyX6 : pv_clOk (RX6, TX6, 6) tyX6 := ⟨pv_lys_ok (ps := [238, 240, 242, 244, 246, 248]) (by decide +kernel), tyX6_ok, nmX6, by decide +kernel⟩
set_option maxRecDepth 100000 in
theorem pv_lyX7 : pv_clOk (RX7, TX7, 29) tyX7 := ⟨pv_lys_ok (ps := [804, 806, 808, 810, 812, 814, 816, 818, 820, 822, 824, 826, 828, 830, 832, 834, 836, 838, 840, 842, 844, 846, 848, 850, 852, 854, 856, 858, 860]) (by decide +kernel), tyX7_ok, nmX7, by decide +kernel⟩
theorem pv_cl {ci : Nat} {q : vw_C} (h : vwCl[ci]? = some q) : pv_clOk q (pv_ty ci) := by
  match ci, h with
  | 0, h => cases h; exact pv_lyX1
  | 1, h => cases h; exact pv_lyX2
  | 2, h => cases h; exact pv_lyX3
  | 3, h => cases h; exact pv_lyX4
  | 4, h => cases h; exact pv_lyX5
  | 5, h => cases h; exact pv_lyX6
  | 6, h => cases h; exact pv_lyX7
  | n + 7, h => simp at h
end
section
/-! ===== fields ===== -/
def pv_ff (own idx : Nat) : Option (Nat × Nat × Bool) :=
  match pv_LF.find? (fun e => e.1 == own && e.2.1 == idx) with
  | some e => some (e.2.2.1, e.2.2.2.1, false)
  | none => match pv_LN.find? (fun e => e.1 == own && e.2.1 == idx) with
    | some e => some (e.2.2.1, e.2.2.2.1, true)
    | none => none
def pv_kOk (e : Nat × Nat × Nat × Nat × Nat) : Bool := match vwCl[e.2.2.1]? with
  | some q => decide (e.2.2.2.1 < q.2.2)
  | none => false
theorem pv_LF_k : ∀ e ∈ pv_LF, pv_kOk e = true := by decide +kernel
theorem pv_LN_k : ∀ e ∈ pv_LN, pv_kOk e = true := by decide +kernel
/-- what a field's link says -/
def pv_fl (own idx ci k : Nat) (nest : Bool) (q : vw_C) (args : Array Value) (s : State) : Prop := vwCl[ci]? = some q ∧ k < q.2.2 ∧ (if nest then (Cond.fieldLinkNest (pv_own own) idx q.1 (q.2.1 k).2.1 (q.2.1 k).2.2.1 "PoundCat").before args s = true else (Cond.fieldLink (pv_own own) idx q.1 (q.2.1 k).2.1 (q.2.1 k).2.2.1).before args s = true)
theorem pv_ff_ok {own idx ci k : Nat} {nest : Bool} {D : va_G} {ca : Nat → ClassId} {args : Array Value} {s : State} (h : pv_ff own idx = some (ci, k, nest)) (hts : ∀ w ∈ pv_T, w.before args s = true) (hK : pv_K D ca s) : ∃ q, pv_fl own idx ci k nest q args s := by
  unfold pv_ff at h
  split at h
  · next e he =>
    cases h
    have hm := List.mem_of_find?_eq_some he
    have hp := List.find?_some he
    simp only [Bool.and_eq_true, beq_iff_eq] at hp
    obtain ⟨rfl, rfl⟩ := hp
    obtain ⟨h1, h2⟩ := pv_LF_ok e hm
    have h3 := pv_LF_k e hm
    unfold pv_kOk at h3
    unfold pv_fw at h1 h2
    cases hq : vwCl[e.2.2.1]? with
    | none => rw [hq] at h1; exact absurd rfl h1
    | some q =>
      rw [hq] at h2 h3
      exact ⟨q, hq, by simpa using h3, hts _ (pv_mem _ h2 rfl)⟩
  · split at h
    · next e he =>
      cases h
      have hm := List.mem_of_find?_eq_some he
      have hp := List.find?_some he
      simp only [Bool.and_eq_true, beq_iff_eq] at hp
      obtain ⟨rfl, rfl⟩ := hp
      have h1 := hK.2.1 e hm
      have h3 := pv_LN_k e hm
      unfold pv_kOk at h3
      unfold pv_nw at h1
      unfold pv_lk at h1
      cases hq : vwCl[e.2.2.1]? with
      | none => rw [hq] at h3; cases h3
      | some q =>
        rw [hq] at h1 h3
        exact ⟨q, hq, by simpa using h3, h1.use rfl⟩
    · cases h
def pv_fit (ty : FieldType) (v : Value) : Bool := match ty, v with
  | .int, .int _ => true
  | .long, .long _ => true
  | .array _, .ref _ => true
  | .object _, .ref _ => true
  | _, _ => false
theorem pv_fit_ok {ty : FieldType} {v : Value} (b : Nat) (h : pv_fit ty v = true) : narrow ty (pv_t b v) = pv_t b v ∧ fits ty (pv_t b v) = true := by
  unfold pv_fit at h
  split at h
  all_goals first | exact ⟨rfl, rfl⟩ | cases h
def pv_get (own idx : Nat) (a : Nat) (A : pv_H) : Option Value :=
  match pv_ff own idx with
  | some (ci, k, _) => if a < A.1 then match A.2 a with
      | .inr (c, fs) => if c = ci then fs[k]? else none
      | _ => none
    else none
  | none => none
def pv_put (y : pv_Y) (idx : Nat) (v : Value) (a : Nat) (A : pv_H) : Option pv_H :=
  match pv_ff (pv_cn y) idx with
  | some (ci, k, nest) => match vwCl[ci]? with
    | some q => if a < A.1 ∧ pv_fit (pv_ty ci k) v = true then match A.2 a with
        | .inr (c, fs) => if c = ci ∧ k < fs.length ∧ ((q.2.1 k).2.2.2 = false ∨ (nest = false ∧ (pv_nm y).name = "<init>" ∧ q.1 = pv_own (pv_cn y))) then some (A.1, pv_up A.2 a (.inr (c, fs.set k v))) else none
        | _ => none
      else none
    | none => none
  | none => none
section PV2
variable {p : Program} {l : Launch} {e : Env} {R : Room} {s : State} {m : MethodId} {args : Array Value} {below : List Frame} {meth : Method} {c : Code} {H : Heap} {locs : List Loc} {cells slots : Nat} {Q : State → Prop}
variable {pc : Nat} {ls : Array Slot} {b : Nat} {y : pv_Y} {D : va_G} {ca : Nat → ClassId} {A : pv_H} {H0 : Heap} {rest : List Value}
set_option maxHeartbeats 1000000 in
theorem pv_get_ok (X : pv_cx y p s m args meth c D ca) (hP : pv_P b D ca A H) {idx a : Nat} {v : Value} (hd : decode (pv_cd y) pc = .ok (.getfield idx, 3)) (h : pv_get (pv_cn y) idx a A = some v)
    (k : W p l e R s m args below meth c H locs cells slots Q (F0 m (pc + 3) ls (pv_t b v :: rest))) : W p l e R s m args below meth c H locs cells slots Q (F0 m pc ls (.ref (b + a) :: rest)) := by
  obtain ⟨hx, hb, hml, hr, hlk, hnm, hown, hts, hK⟩ := X
  unfold pv_get at h
  split at h
  · next ci kf nest hff =>
    obtain ⟨q, hq, hkN, hl⟩ := pv_ff_ok hff hts hK
    obtain ⟨hin, hty, hnn, hsm⟩ := pv_cl hq
    split at h
    · next ha =>
      split at h
      · next c' fs hA =>
        split at h
        · next hc =>
          subst hc
          have he : (pv_w b ca A)[a]? = some (b + a, .inr (c', fs.map (pv_t b))) := by rw [pv_w_get ha, hA]; rfl
          have hv : (fs.map (pv_t b))[kf]? = some (pv_t b v) := by rw [List.getElem?_map, h]; rfl
          obtain ⟨C, T, N⟩ := q
          cases nest
          · exact va_get hx hb hts hin hown hK.1 hP.2 a he hq kf hkN hl (fun x hxx => by have e1 : (T kf).1 = C := hsm kf hkN; rw [← e1]; exact hxx) hv hd k
          · exact va_getN hx hb hts hin hown hK.1 hP.2 a he hq kf hkN hl (fun x hxx => by have e1 : (T kf).1 = C := hsm kf hkN; rw [← e1]; exact hxx) hv hd k
        · cases h
      · cases h
    · cases h
  · cases h
set_option maxHeartbeats 1000000 in
theorem pv_put_ok (X : pv_cx y p s m args meth c D ca) (hP : pv_P b D ca A H) (hS : va_S (pv_A b) H0 H locs) {idx a : Nat} {v : Value} {A' : pv_H} (hd : decode (pv_cd y) pc = .ok (.putfield idx, 3)) (h : pv_put y idx v a A = some A')
    (kk : ∀ (H1 : Heap) (locs1 : List Loc), pv_P b D ca A' H1 → va_S (pv_A b) H0 H1 locs1 → W p l e R s m args below meth c H1 locs1 cells slots Q (F0 m (pc + 3) ls rest)) : W p l e R s m args below meth c H locs cells slots Q (F0 m pc ls (pv_t b v :: .ref (b + a) :: rest)) := by
  obtain ⟨hx, hb, hml, hr, hlk, hnm, hown, hts, hK⟩ := X
  unfold pv_put at h
  split at h
  · next ci kf nest hff =>
    obtain ⟨q, hq, hkN, hl⟩ := pv_ff_ok hff hts hK
    rw [hq] at h
    obtain ⟨hin, hty, hnn, hsm⟩ := pv_cl hq
    dsimp only at h
    split at h
    · next ha =>
      obtain ⟨ha, hft⟩ := ha
      obtain ⟨hnar, hfit⟩ := pv_fit_ok b hft
      split at h
      · next c' fs hA =>
        split at h
        · next hc =>
          obtain ⟨hc, hlen, hfin⟩ := hc
          subst hc
          cases h
          have he : (pv_w b ca A)[a]? = some (b + a, .inr (c', fs.map (pv_t b))) := by rw [pv_w_get ha, hA]; rfl
          obtain ⟨C, T, N⟩ := q
          have hap := va_apart (own := pv_own (pv_cn y)) hts hin (pv_ty c') hty hnn hK.1 hq
          obtain ⟨r, h1, cell, q1, q2, q3, q4⟩ := hP.2 a _ he
          have hr' : r = (C, T, N) := Option.some.inj (h1.symm.trans hq)
          subst hr'
          obtain ⟨hSl, hfc, kC, hkC, hkind⟩ := hK.1.1 c' _ hq
          obtain ⟨cf, kfc, fi, f, hi, hsl⟩ := hSl kf hkN
          have hlay := hts _ (hin _ (u_in_lay hkN))
          have hst := (u_facts hfc hkC (u_lays hts hin hkN) hi).1
          have hsame : s.fieldFound? C (T kf).2.1 (T kf).2.2.1 = some (cf, kfc, fi, f) := by
            have e1 : (T kf).1 = C := hsm kf hkN
            have h9 := hi
            rw [e1] at h9
            exact h9
          have hend : ∀ H' : Heap, H'[b + a]? = some (cell.setSlot f.slot (pv_t b v)) → H'.size = H.size → (∀ q, q ≠ b + a → H'[q]? = H[q]?) → W p l e R s m args below meth c H' (locs ++ [⟨b + a, f.slot⟩]) cells slots Q (F0 m (pc + 3) ls rest) := by
            intro H' e1 e2 e3
            rw [hsl] at e1 ⊢
            refine kk H' _ (hP.set ha ⟨_, hq, ?_⟩ e2 e3) (hS.put e2 e3 (Nat.le_add_right b a))
            have h9 := t_OB.to (V := updV (vp_V (fs.map (pv_t b))) kf (pv_t b v)) (V' := vp_V ((fs.map (pv_t b)).set kf (pv_t b v))) ⟨_, e1, q2, q3, t_set q4 hap hkN (pv_t b v)⟩ (fun j _ => vp_updV_set (by rw [List.length_map]; exact hlen) (pv_t b v) j)
            rw [← List.map_set] at h9
            exact h9
          by_cases hf : (T kf).2.2.2 = true
          · rcases hfin with hfin | ⟨hne, hini, hdc⟩
            · have hfin' : (T kf).2.2.2 = false := hfin
              rw [hf] at hfin'; cases hfin'
            · subst hne
              unfold u_lay at hlay
              have hf' : (T kf).2.2.2 = true := hf
              rw [if_pos hf'] at hlay
              have hcf : m.cls = cf := by
                obtain ⟨_, _, c9, _, _, _, -, -, hf9, -, -, -, hown2, -⟩ := Cond.laysFinal_spec hlay
                have e1 : c9 = cf := by have := hi.symm.trans hf9; simp at this; exact this.1.symm
                have e2 : (T kf).1 = pv_own (pv_cn y) := (hsm kf hkN).trans hdc
                rw [e2] at hown2
                rw [← e1]; exact Option.some.inj (hown.symm.trans hown2)
              have h6 := u_fits hfc hkC hkind (Or.inr hlay) hi (hty kf hkN) hnar hfit
              exact W.putFinK hx hb hown hl hsame hst hcf (by rw [hnm]; exact hini) (by rw [q2]; exact h6) q1 q3 (by rw [hsl]; exact k2_hasslot (q4 kf hkN)) rfl rfl hd hend
          · unfold u_lay at hlay
            have hf' : ¬ (T kf).2.2.2 = true := hf
            rw [if_neg hf'] at hlay
            have h6 := u_store hfc hkC hkind hlay hi (hty kf hkN) hnar hfit
            cases nest
            · exact W.putK hx hb (f := f) ⟨hown, hl, ⟨_, _, _, hsame⟩, hst⟩ (by rw [q2]; exact h6) q1 q3 (by rw [hsl]; exact k2_hasslot (q4 kf hkN)) rfl rfl hd hend
            · exact va_WputK hx hb (f := f) hown hl hsame hst (by rw [q2]; exact h6) q1 q3 (by rw [hsl]; exact k2_hasslot (q4 kf hkN)) rfl rfl hd hend
        · cases h
      · cases h
    · cases h
  · cases h
end PV2
end
section
/-! ===== arrays, constants, what is made, Object's constructor, arraycopy ===== -/
/-- reads and writes of cells -/
def pv_h1 (y : pv_Y) (i : Instr) (n : Nat) (st : List Value) (A : pv_H) : Option (List Value × pv_H) :=
  match i, n, st with
  | .getfield x, 3, .ref a :: st => match pv_get (pv_cn y) x a A with
    | some v => some (v :: st, A)
    | none => none
  | .putfield x, 3, v :: .ref a :: st => match pv_put y x v a A with
    | some A' => some (st, A')
    | none => none
  | .iaload, 1, .int j :: .ref a :: st => if a < A.1 then match A.2 a with
      | .inl (0, N, .inl f) => if j < 0 ∨ N ≤ j.toNatClampNeg then none else some (.int (f j.toNatClampNeg) :: st, A)
      | _ => none
    else none
  | .baload, 1, .int j :: .ref a :: st => if a < A.1 then match A.2 a with
      | .inl (1, N, .inl f) => if j < 0 ∨ N ≤ j.toNatClampNeg then none else some (.int (f j.toNatClampNeg) :: st, A)
      | _ => none
    else none
  | .aaload, 1, .int j :: .ref a :: st => if a < A.1 then match A.2 a with
      | .inl (2, N, .inr F) => if j < 0 ∨ N ≤ j.toNatClampNeg then none else some (.ref (F + j.toNatClampNeg) :: st, A)
      | _ => none
    else none
  | .iastore, 1, .int v :: .int j :: .ref a :: st => if a < A.1 then match A.2 a with
      | .inl (0, N, .inl f) => if j < 0 ∨ N ≤ j.toNatClampNeg then none else some (st, (A.1, pv_up A.2 a (.inl (0, N, .inl (upd f j.toNatClampNeg v)))))
      | _ => none
    else none
  | .bastore, 1, .int v :: .int j :: .ref a :: st => if a < A.1 then match A.2 a with
      | .inl (1, N, .inl f) => if j < 0 ∨ N ≤ j.toNatClampNeg then none else some (st, (A.1, pv_up A.2 a (.inl (1, N, .inl (upd f j.toNatClampNeg (vp_nar .boolean v))))))
      | _ => none
    else none
  | .arraylength, 1, .ref a :: st => if a < A.1 then match A.2 a with
      | .inl (0, N, .inl _) => some (.int (Int32.ofNat N) :: st, A)
      | _ => none
    else none
  | .ldc x, 2, st => match pv_LC.find? (fun e => e.1 == pv_cn y && e.2.1 == x) with
    | some e => some (.int e.2.2.1 :: st, A)
    | none => none
  | .ldc_w x, 3, st => match pv_LC.find? (fun e => e.1 == pv_cn y && e.2.1 == x) with
    | some e => some (.int e.2.2.1 :: st, A)
    | none => none
  | .ldc2_w x, 3, st => match pv_LJ.find? (fun e => e.1 == pv_cn y && e.2.1 == x) with
    | some e => some (.long e.2.2.1 :: st, A)
    | none => none
  | _, _, _ => none
section PV3
variable {p : Program} {l : Launch} {e : Env} {R : Room} {s : State} {m : MethodId} {args : Array Value} {below : List Frame} {meth : Method} {c : Code} {H : Heap} {locs : List Loc} {cells slots : Nat} {Q : State → Prop}
variable {pc : Nat} {ls : Array Slot} {b : Nat} {y : pv_Y} {D : va_G} {ca : Nat → ClassId} {A : pv_H} {H0 : Heap}
theorem pv_ty0 {ca : Nat → ClassId} : (pv_tys ca)[0]? = some (ca 0, .int) := rfl
theorem pv_ty1 {ca : Nat → ClassId} : (pv_tys ca)[1]? = some (ca 1, .boolean) := rfl
theorem pv_ty2 {ca : Nat → ClassId} : (pv_tys ca)[2]? = some (ca 2, .array .int) := rfl
theorem pv_wi {b : Nat} {ca : Nat → ClassId} {A : pv_H} {a t N : Nat} {f : Nat → Int32} (ha : a < A.1) (hA : A.2 a = .inl (t, N, .inl f)) : (pv_w b ca A)[a]? = some (b + a, .inl (ca t, N, .inl f)) := by rw [pv_w_get ha, hA]; rfl
theorem pv_wq {b : Nat} {ca : Nat → ClassId} {A : pv_H} {a t N F : Nat} (ha : a < A.1) (hA : A.2 a = .inl (t, N, .inr F)) : (pv_w b ca A)[a]? = some (b + a, .inl (ca t, N, .inr (.inr (.inr (.inr (fun i => if i < N then some (b + (F + i)) else none)))))) := by rw [pv_w_get ha, hA]; rfl
theorem pv_updc {cA : ClassId} {N : Nat} {f : Nat → Int32} {j : Nat} {v : Int32} {w : Value} (hw : w = .int v) : (vp_cell cA (N, .inl f)).setSlot j w = vp_cell cA (N, .inl (upd f j v)) := by
  subst hw
  rw [vp_cell_i, vp_cell_i, arrV_store]
  congr 2
  funext q
  by_cases hq : q = j
  · subst hq
    simp [updV, upd]
  · simp [updV, upd, hq]
theorem pv_nb (x : Int32) : narrow .boolean (.int x) = .int (vp_nar .boolean x) := rfl
set_option maxHeartbeats 4000000 in
theorem pv_h1_ok (X : pv_cx y p s m args meth c D ca) (hP : pv_P b D ca A H) (hS : va_S (pv_A b) H0 H locs) {i : Instr} {n : Nat} {st st' : List Value} {A' : pv_H} (hd : decode (pv_cd y) pc = .ok (i, n)) (h : pv_h1 y i n st A = some (st', A'))
    (kk : ∀ (H1 : Heap) (locs1 : List Loc), pv_P b D ca A' H1 → va_S (pv_A b) H0 H1 locs1 → W p l e R s m args below meth c H1 locs1 cells slots Q (F0 m (pc + n) ls (st'.map (pv_t b)))) : W p l e R s m args below meth c H locs cells slots Q (F0 m pc ls (st.map (pv_t b))) := by
  have X0 := X
  obtain ⟨hx, hb, hml, hr, hlk, hnm, hown, hts, hK⟩ := X0
  unfold pv_h1 at h
  split at h
  · split at h
    · next hv => cases h; exact pv_get_ok X hP hd hv (kk H locs hP hS)
    · cases h
  · split at h
    · next hv => cases h; exact pv_put_ok X hP hS hd hv kk
    · cases h
  · split at h
    · next ha =>
      split at h
      · next N f hA =>
        split at h
        · cases h
        · next hin => cases h; exact va_iald hx hb hK.1 hP.2 _ 0 (pv_wi ha hA) pv_ty0 hin hd (kk H locs hP hS)
      · cases h
    · cases h
  · split at h
    · next ha =>
      split at h
      · next N f hA =>
        split at h
        · cases h
        · next hin => cases h; exact va_zald hx hb hK.1 hP.2 _ 1 (pv_wi ha hA) pv_ty1 hin hd (kk H locs hP hS)
      · cases h
    · cases h
  · split at h
    · next j a st0 ha =>
      split at h
      · next N F hA =>
        split at h
        · cases h
        · next hin =>
          cases h
          have hlt : j.toNatClampNeg < N := Nat.not_le.mp fun q => hin (Or.inr q)
          refine W.aald (v := .ref (b + (F + j.toNatClampNeg))) (ty := .array .int) hx hb (hP.2 a _ (pv_wq ha hA)) ((hK.1.2 2 _ pv_ty2).1 N (fun j => va_rf (if j < N then some (b + (F + j)) else none))) rfl (fun q => by cases q) (by show ¬ (j < 0 ∨ (arrV _ _ _).slots.size ≤ _); rw [arrV_size]; exact hin) ?_ rfl rfl hd (kk H locs hP hS)
          show (arrV _ _ _).slots[_]? = _
          rw [arrV_read _ _ hlt]
          dsimp only
          rw [if_pos hlt]
          rfl
      · cases h
    · cases h
  · split at h
    · next v j a st0 ha =>
      split at h
      · next N f hA =>
        split at h
        · cases h
        · next hin =>
          cases h
          refine W.iast hx hb (hP.2 a _ (pv_wi ha hA)) ((hK.1.2 0 _ pv_ty0).1 N (fun j => .int (f j))) (fun q => by cases q) (by show ¬ (j < 0 ∨ (arrV _ _ _).slots.size ≤ _); rw [arrV_size]; exact hin) rfl rfl hd fun H1 e1 z1 oq => ?_
          refine kk H1 _ (hP.set ha ?_ z1 oq) (hS.put z1 oq (Nat.le_add_right b a))
          show H1[b + a]? = some (vp_cell _ _)
          rw [e1]
          exact congrArg some (pv_updc rfl)
      · cases h
    · cases h
  · split at h
    · next v j a st0 ha =>
      split at h
      · next N f hA =>
        split at h
        · cases h
        · next hin =>
          cases h
          refine W.zast hx hb (hP.2 a _ (pv_wi ha hA)) ((hK.1.2 1 _ pv_ty1).1 N (fun j => .int (f j))) (fun q => by cases q) (by show ¬ (j < 0 ∨ (arrV _ _ _).slots.size ≤ _); rw [arrV_size]; exact hin) rfl rfl hd fun H1 e1 z1 oq => ?_
          refine kk H1 _ (hP.set ha ?_ z1 oq) (hS.put z1 oq (Nat.le_add_right b a))
          show H1[b + a]? = some (vp_cell _ _)
          rw [e1]
          exact congrArg some (pv_updc (pv_nb v))
      · cases h
    · cases h
  · split at h
    · next ha =>
      split at h
      · next N f hA => cases h; exact va_alen hx hb hK.1 hP.2 _ 0 (pv_wi ha hA) pv_ty0 rfl hd (kk H locs hP hS)
      · cases h
    · cases h
  · split at h
    · next e0 he =>
      cases h
      have hm := List.mem_of_find?_eq_some he
      have hp := List.find?_some he
      simp only [Bool.and_eq_true, beq_iff_eq] at hp
      have h1 := hts _ (pv_mem _ (pv_LC_ok e0 hm) rfl)
      rw [hp.1, hp.2] at h1
      exact lv_ldc hx hb hown h1 hd (kk H locs hP hS)
    · cases h
  · split at h
    · next e0 he =>
      cases h
      have hm := List.mem_of_find?_eq_some he
      have hp := List.find?_some he
      simp only [Bool.and_eq_true, beq_iff_eq] at hp
      have h1 := hts _ (pv_mem _ (pv_LC_ok e0 hm) rfl)
      rw [hp.1, hp.2] at h1
      exact lv_ldcw hx hb hown h1 hd (kk H locs hP hS)
    · cases h
  · split at h
    · next e0 he =>
      cases h
      have hm := List.mem_of_find?_eq_some he
      have hp := List.find?_some he
      simp only [Bool.and_eq_true, beq_iff_eq] at hp
      have h1 := hts _ (pv_mem _ (pv_LJ_ok e0 hm) rfl)
      rw [hp.1, hp.2] at h1
      exact lv_ldc2 hx hb hown h1 hd (kk H locs hP hS)
    · cases h
  · cases h
end PV3
end
section
/-! ===== what is made; Object's constructor; arraycopy ===== -/
/-- classes that are made, by (class, entry): which, and the places of the words (link, can be made, initialized) -/
def pv_LW : List (Nat × Nat × Nat × Nat × Nat × Nat) := [(6, 7, 2, 79, 80, 62), (6, 21, 1, 99, 100, 63), (6, 28, 4, 129, 130, 64), (6, 35, 0, 190, 191, 65), (6, 42, 3, 206, 207, 66)]
def pv_wOk (e : Nat × Nat × Nat × Nat × Nat × Nat) : Bool := match vwCl[e.2.2.1]? with
  | some q => decide (lw_tbl[e.2.2.2.1]? = some (.classLink (pv_own e.1) e.2.1 q.1)) && decide (lw_tbl[e.2.2.2.2.1]? = some (.instantiable q.1 q.2.2)) && decide (lw_tbl[e.2.2.2.2.2]? = some (.initialized q.1))
  | none => false
set_option maxRecDepth 100000 in
theorem pv_LW_ok : ∀ e ∈ pv_LW, pv_wOk e = true := by decide +kernel
/-- calls of Object's constructor, by (class, entry), and the place of the link -/
def pv_LO : List (Nat × Nat × Nat) := [(6, 1, 76), (3, 1, 84), (2, 3, 104), (5, 3, 134), (1, 3, 195), (4, 3, 211), (7, 1, 774)]
set_option maxRecDepth 100000 in
theorem pv_LO_ok : ∀ e ∈ pv_LO, lw_tbl[e.2.2]? = some (.methodLink (pv_own e.1) e.2.1 Lib.objectInit) := by decide +kernel
set_option maxRecDepth 100000 in
theorem pv_oi : lw_tbl[77]? = some (.instanceMethod Lib.objectInit) := by decide +kernel
set_option maxRecDepth 100000 in
theorem pv_oc : lw_tbl[78]? = some (.code Lib.objectInit ⟨#[0xb1]⟩ 1 none) := by rfl
set_option maxRecDepth 100000 in
theorem pv_al : lw_tbl[319]? = some (.methodLink (pv_own 3) 22 arraycopyName) ∧ lw_tbl[321]? = some (.native arraycopyName) ∧ lw_tbl[320]? = some (.static arraycopyName) ∧ lw_tbl[68]? = some (.initialized "java/lang/System") ∧ lw_tbl[98]? = some (.arrayClass .int) ∧ lw_tbl[863]? = some (.arrayClass .boolean) := by decide +kernel
def pv_sum (st : List Value) : Nat := (st.map fun v => v.category).sum
def pv_blank (ci N : Nat) : List Value := (List.range N).map (fun k => defaultValue (pv_ty ci k))
def pv_h2 (y : pv_Y) (i : Instr) (n : Nat) (st : List Value) (A : pv_H) (cu su : Nat) : Option (List Value × pv_H × Nat × Nat) :=
  match i, n, st with
  | .new x, 3, st => match pv_LW.find? (fun e => e.1 == pv_cn y && e.2.1 == x) with
    | some e => match vwCl[e.2.2.1]? with
      | some q => if cu + 1 ≤ pv_mc y ∧ su + q.2.2 ≤ pv_ms y then some (.ref A.1 :: st, (A.1 + 1, pv_up A.2 A.1 (.inr (e.2.2.1, pv_blank e.2.2.1 q.2.2))), cu + 1, su + q.2.2) else none
      | none => none
    | none => none
  | .newarray .int, 2, .int k :: st => if k < 0 ∨ ¬ k.toNatClampNeg * 4 ≤ 536870912 ∨ ¬ cu + 1 ≤ pv_mc y ∨ ¬ su + k.toNatClampNeg ≤ pv_ms y then none else some (.ref A.1 :: st, (A.1 + 1, pv_up A.2 A.1 (.inl (0, k.toNatClampNeg, .inl (fun _ => 0)))), cu + 1, su + k.toNatClampNeg)
  | .newarray .boolean, 2, .int k :: st => if k < 0 ∨ ¬ k.toNatClampNeg * 1 ≤ 536870912 ∨ ¬ cu + 1 ≤ pv_mc y ∨ ¬ su + k.toNatClampNeg ≤ pv_ms y then none else some (.ref A.1 :: st, (A.1 + 1, pv_up A.2 A.1 (.inl (1, k.toNatClampNeg, .inl (fun _ => 0)))), cu + 1, su + k.toNatClampNeg)
  | .invokespecial x, 3, .ref _ :: st => match pv_LO.find? (fun e => e.1 == pv_cn y && e.2.1 == x) with
    | some _ => if 1 ≤ pv_fr y ∧ pv_sum st + 12 ≤ pv_lc y then some (st, A, cu, su) else none
    | none => none
  | .invokestatic x, 3, .int k :: .int dp :: .ref a :: .int sp :: .ref a0 :: st => if pv_cn y = 3 ∧ x = 22 ∧ a < A.1 ∧ a0 < A.1 ∧ 1 ≤ pv_fr y ∧ pv_sum st + 18 ≤ pv_lc y then match A.2 a0, A.2 a with
      | .inl (0, N0, .inl f), .inl (0, N1, .inl g) => if sp < 0 ∨ dp < 0 ∨ k < 0 ∨ ¬ sp.toNatClampNeg + k.toNatClampNeg ≤ N0 ∨ ¬ dp.toNatClampNeg + k.toNatClampNeg ≤ N1 then none else some (st, (A.1, pv_up A.2 a (.inl (0, N1, .inl (va_cpy f g sp.toNatClampNeg dp.toNatClampNeg k.toNatClampNeg)))), cu, su)
      | _, _ => none
    else none
  | _, _, _ => none
section PV4
variable {p : Program} {l : Launch} {e : Env} {s : State} {m : MethodId} {args : Array Value} {below : List Frame} {meth : Method} {c : Code} {H : Heap} {locs : List Loc} {Q : State → Prop}
variable {pc : Nat} {ls : Array Slot} {b : Nat} {y : pv_Y} {D : va_G} {ca : Nat → ClassId} {A : pv_H} {H0 : Heap}
theorem pv_sum_t (b : Nat) (st : List Value) : ((st.map (pv_t b)).map fun v => v.category).sum = pv_sum st := by
  unfold pv_sum
  rw [List.map_map]
  congr 1
  exact List.map_congr_left (fun v _ => pv_cat b v)
theorem pv_S_push {b : Nat} {H0 H H1 : Heap} {locs : List Loc} (hS : va_S (pv_A b) H0 H locs) (hz : H1.size = H.size + 1) (oq : ∀ q : Nat, q < H.size → H1[q]? = H[q]?) : va_S (pv_A b) H0 H1 locs :=
  ⟨by rw [hz]; exact Nat.le_succ_of_le hS.1, fun q h1 h2 => (oq q (Nat.lt_of_lt_of_le h1 hS.1)).trans (hS.2.1 q h1 h2), hS.2.2⟩
theorem pv_dflt {ty : FieldType} : pv_t 0 (defaultValue ty) = defaultValue ty := by cases ty <;> rfl
theorem pv_dfltb (b : Nat) (ty : FieldType) : pv_t b (defaultValue ty) = defaultValue ty := by cases ty <;> rfl
theorem pv_newA {t : Nat} {cA : ClassId} {hty : FieldType} (h1 : s.vm.findClass ("[" ++ hty.toString) = some cA) (hK : va_K D vwCl (pv_tys ca) s) (ht : (pv_tys ca)[t]? = some (ca t, hty)) (hp : hty = .int ∨ hty = .boolean) : cA = ca t := by
  have h2 := (hK.2 t _ ht).2
  rcases hp with rfl | rfl
  · exact Option.some.inj (h1.symm.trans h2)
  · exact Option.some.inj (h1.symm.trans h2)
/-- System.arraycopy of ints, with what it leaves as it was -/
theorem pv_copy {R : Room} {cells slots : Nat} {cc : ByteArray} {rest : List Value} (hexec : p.tables.exec = Jvm.exec) (hb : c.code = cc) (hml : c.maxLocals = ls.size) {own : String} {index : Nat} (hown : s.vm.findClass own = some m.cls) (hlink : (Cond.methodLink own index arraycopyName).before args s = true) (hnat : (Cond.native arraycopyName).before args s = true) (hstat : (Cond.static arraycopyName).before args s = true) (hini : (Cond.initialized "java/lang/System").before args s = true)
    {c0 : ClassId} {a a0 N0 N1 : Nat} {f g : Nat → Int32} (hAr : ArrOfT s c0 .int) (hc0 : H[a0]? = some (vp_cell c0 (N0, .inl f))) (hc1 : H[a]? = some (vp_cell c0 (N1, .inl g)))
    {sp dp n : Int32} (h1 : ¬ sp < 0) (h2 : ¬ dp < 0) (h3 : ¬ n < 0) (h4 : sp.toNatClampNeg + n.toNatClampNeg ≤ N0) (h5 : dp.toNatClampNeg + n.toNatClampNeg ≤ N1)
    (hframes : 1 ≤ R.frames) (hlocals : (rest.map fun v => v.category).sum + 18 ≤ R.locals) (hdg : decode cc pc = .ok (.invokestatic index, 3))
    (kk : ∀ (H1 : Heap) (locs1 : List Loc), H1[a]? = some (vp_cell c0 (N1, .inl (va_cpy f g sp.toNatClampNeg dp.toNatClampNeg n.toNatClampNeg))) → H1.size = H.size → (∀ q : Nat, q ≠ a → H1[q]? = H[q]?) → (∀ q ∈ locs1, q ∈ locs ∨ q.base = a) → W p l e R s m args below meth c H1 locs1 cells slots Q (F0 m (pc + 3) ls rest)) : W p l e R s m args below meth c H locs cells slots Q (F0 m pc ls (.int n :: .int dp :: .ref a :: .int sp :: .ref a0 :: rest)) := by
  have nn : ∀ z : Int32, ¬ z < 0 → z.toInt = (z.toNatClampNeg : Int) := by
    intro z hz
    have hz0 : (0 : Int) ≤ z.toInt := by
      have := Int32.not_lt.mp hz
      simpa using Int32.le_iff_toInt_le.mp this
    show z.toInt = ((z.toInt.toNat : Nat) : Int)
    omega
  intro T hT X
  obtain ⟨-, k0, hk0, cm0, hkk0⟩ := hAr N0 (fun j => .int (f j))
  obtain ⟨-, k1, hk1, cm1, hkk1⟩ := hAr N1 (fun j => .int (g j))
  obtain ⟨vm', X', step⟩ := X.arraycopy hexec hown hlink hnat hstat hini (src := a0) (dst := a) (cs := vp_cell c0 (N0, .inl f)) (cd := vp_cell c0 (N1, .inl g)) (srcPos := sp) (destPos := dp) (n := n) (by rw [hT]; exact hc0) (by rw [hT]; exact hc1)
    (fun _ h => by cases h) (fun _ h => by cases h) (fun h => by cases h) (fun h => by cases h) hk0 hk1 hkk0 hkk1 (by simp [refKind]) h1 h2 h3
    (by rw [nn sp h1, nn n h3]; show ¬ _ > ((arrV c0 N0 (fun j => .int (f j))).slots.size : Int); rw [arrV_size]; omega)
    (by rw [nn dp h2, nn n h3]; show ¬ _ > ((arrV c0 N1 (fun j => .int (g j))).slots.size : Int); rw [arrV_size]; omega)
    (fun vm₁ _ i hi => by
      have e9 : (vp_cell c0 (N0, .inl f)).slots.getD (sp.toNatClampNeg + i) .null = .int (f (sp.toNatClampNeg + i)) := by
        show (arrV c0 N0 (fun j => .int (f j))).slots.getD _ _ = _
        rw [Array.getD_eq_getD_getElem?, arrV_read _ _ (by omega)]
        rfl
      refine ⟨?_, ?_⟩
      · rw [e9]
        rfl
      · rw [e9]
        exact trivial)
    (g := F0 m pc ls (.int n :: .int dp :: .ref a :: .int sp :: .ref a0 :: rest)) rfl (by rw [hml]) (rest := rest) rfl (by rw [hb]; exact hdg) hframes (by show 2 * 0 + _ + _ ≤ _; exact Nat.le_trans (by rw [show nativeFrameWords "java/lang/System" "arraycopy" 5 = 7 from by decide +kernel]; omega) hlocals)
  have e1 : copied (vp_cell c0 (N0, .inl f)) (vp_cell c0 (N1, .inl g)) sp dp n = vp_cell c0 (N1, .inl (va_cpy f g sp.toNatClampNeg dp.toNatClampNeg n.toNatClampNeg)) := va_copied (fun z => .int z) c0 c0 f g h4
  rw [e1] at X' step
  have hl : a < H.size := (Array.getElem?_eq_some_iff.mp hc1).1
  have hheap : ((T.setVm vm').setCell a (vp_cell c0 (N1, .inl (va_cpy f g sp.toNatClampNeg dp.toNatClampNeg n.toNatClampNeg)))).heap = H.setIfInBounds a (vp_cell c0 (N1, .inl (va_cpy f g sp.toNatClampNeg dp.toNatClampNeg n.toNatClampNeg))) := by rw [← hT]; rfl
  obtain ⟨t, a1, b1⟩ := kk _ _ (show (H.setIfInBounds a _)[a]? = some _ by simp [Array.getElem?_setIfInBounds, hl]) (by simp) (fun q hq => by simp [Array.getElem?_setIfInBounds, Ne.symm hq]) (fun q hq => by
      rcases List.mem_append.mp hq with h | h
      · exact Or.inl h
      · obtain ⟨z, -, hz⟩ := List.mem_map.mp h
        exact Or.inr (by rw [← hz])) _ hheap X'
  exact ⟨t, step t a1, b1⟩
set_option maxHeartbeats 4000000 in
theorem pv_h2_ok (X : pv_cx y p s m args meth c D ca) (hP : pv_P b D ca A H) (hS : va_S (pv_A b) H0 H locs) {i : Instr} {n cu su cu' su' : Nat} {st st' : List Value} {A' : pv_H} (hls : ls.size = pv_ml y) (hd : decode (pv_cd y) pc = .ok (i, n)) (h : pv_h2 y i n st A cu su = some (st', A', cu', su'))
    (kk : ∀ (H1 : Heap) (locs1 : List Loc), pv_P b D ca A' H1 → va_S (pv_A b) H0 H1 locs1 → W p l e (pv_room y) s m args below meth c H1 locs1 cu' su' Q (F0 m (pc + n) ls (st'.map (pv_t b)))) : W p l e (pv_room y) s m args below meth c H locs cu su Q (F0 m pc ls (st.map (pv_t b))) := by
  have X0 := X
  obtain ⟨hx, hb, hml, hr, hlk, hnm, hown, hts, hK⟩ := X0
  unfold pv_h2 at h
  split at h
  · split at h
    · next x st0 e0 he =>
      split at h
      · next q hq =>
        split at h
        · next hroom =>
          cases h
          have hm := List.mem_of_find?_eq_some he
          have hp := List.find?_some he
          simp only [Bool.and_eq_true, beq_iff_eq] at hp
          have hw := pv_LW_ok e0 hm
          unfold pv_wOk at hw
          rw [hq] at hw
          simp only [Bool.and_eq_true, decide_eq_true_eq] at hw
          obtain ⟨⟨hw1, hw2⟩, hw3⟩ := hw
          rw [hp.1, hp.2] at hw1
          obtain ⟨hin, hty, hnn, hsm⟩ := pv_cl hq
          have hKn := hK.1.1 e0.2.2.1 q hq
          refine W.newcK hx hb hown (hts _ (pv_mem _ hw1 rfl)) (hts _ (pv_mem _ hw2 rfl)) (hts _ (pv_mem _ hw3 rfl)) rfl hd hroom.1 hroom.2 hKn.2.1 hP.1 fun H1 kC hkC e1 z1 o1 => ?_
          have z1' : H1.size = H.size + 1 := by rw [z1, hP.1]
          have o1' : ∀ q : Nat, q < H.size → H1[q]? = H[q]? := fun q hq' => o1 q (by rw [← hP.1]; exact hq')
          refine kk H1 locs (hP.push ?_ z1' o1') (pv_S_push hS z1' o1')
          refine ⟨_, hq, (u_born (pv_ty e0.2.2.1) hts hin hKn hkC e1 hty).to fun j hj => ?_⟩
          unfold vp_V pv_blank
          rw [List.getD_eq_getElem?_getD, List.getElem?_map, List.getElem?_map, List.getElem?_range hj]
          exact (pv_dfltb b _).symm
        · cases h
      · cases h
    · cases h
  · split at h
    · cases h
    · next k st0 hc =>
      cases h
      have hc1 : ¬ k < 0 := fun q => hc (Or.inl q)
      have hc2 : k.toNatClampNeg * 4 ≤ 536870912 := Classical.byContradiction fun q => hc (Or.inr (Or.inl q))
      have hc3 : cu + 1 ≤ pv_mc y := Classical.byContradiction fun q => hc (Or.inr (Or.inr (Or.inl q)))
      have hc4 : su + k.toNatClampNeg ≤ pv_ms y := Classical.byContradiction fun q => hc (Or.inr (Or.inr (Or.inr q)))
      refine va_newaK hx hb (hts _ (pv_mem _ pv_al.2.2.2.2.1 rfl)) rfl hd rfl hc1 rfl hc2 hc3 hc4 hP.1 fun H1 cA e1 z1 o1 hAr hNm => ?_
      have z1' : H1.size = H.size + 1 := by rw [z1, hP.1]
      have o1' : ∀ q : Nat, q < H.size → H1[q]? = H[q]? := fun q hq' => o1 q (by rw [← hP.1]; exact hq')
      have hcA := pv_newA (t := 0) hNm hK.1 pv_ty0 (Or.inl rfl)
      subst hcA
      exact kk H1 locs (hP.push e1 z1' o1') (pv_S_push hS z1' o1')
  · split at h
    · cases h
    · next k st0 hc =>
      cases h
      have hc1 : ¬ k < 0 := fun q => hc (Or.inl q)
      have hc2 : k.toNatClampNeg * 1 ≤ 536870912 := Classical.byContradiction fun q => hc (Or.inr (Or.inl q))
      have hc3 : cu + 1 ≤ pv_mc y := Classical.byContradiction fun q => hc (Or.inr (Or.inr (Or.inl q)))
      have hc4 : su + k.toNatClampNeg ≤ pv_ms y := Classical.byContradiction fun q => hc (Or.inr (Or.inr (Or.inr q)))
      refine va_newaK hx hb (hts _ (pv_mem _ pv_al.2.2.2.2.2 rfl)) rfl hd rfl hc1 rfl hc2 hc3 hc4 hP.1 fun H1 cA e1 z1 o1 hAr hNm => ?_
      have z1' : H1.size = H.size + 1 := by rw [z1, hP.1]
      have o1' : ∀ q : Nat, q < H.size → H1[q]? = H[q]? := fun q hq' => o1 q (by rw [← hP.1]; exact hq')
      have hcA := pv_newA (t := 1) hNm hK.1 pv_ty1 (Or.inr rfl)
      subst hcA
      exact kk H1 locs (hP.push e1 z1' o1') (pv_S_push hS z1' o1')
  · split at h
    · next x a st0 e0 he =>
      split at h
      · next hroom =>
        cases h
        have hm := List.mem_of_find?_eq_some he
        have hp := List.find?_some he
        simp only [Bool.and_eq_true, beq_iff_eq] at hp
        have hw := pv_LO_ok e0 hm
        rw [hp.1, hp.2] at hw
        refine W.objInit hx hb hown (hts _ (pv_mem _ hw rfl)) (hts _ (pv_mem _ pv_oi rfl)) (hts _ (pv_mem _ pv_oc rfl)) rfl (by rw [hml]; exact hls) rfl hd hroom.1 ?_ (kk H locs hP hS)
        show 2 * 0 + _ + 12 ≤ _
        rw [pv_sum_t]
        have := hroom.2
        show 2 * 0 + pv_sum _ + 12 ≤ pv_lc y
        omega
      · cases h
    · cases h
  · split at h
    · next k dp a sp a0 st0 hc =>
      obtain ⟨hcn, rfl, ha, ha0, hfr, hlc⟩ := hc
      split at h
      · next N0 f N1 g hA0 hA =>
        split at h
        · cases h
        · next hc =>
          cases h
          have h1 : ¬ sp < 0 := fun q => hc (Or.inl q)
          have h2 : ¬ dp < 0 := fun q => hc (Or.inr (Or.inl q))
          have h3 : ¬ k < 0 := fun q => hc (Or.inr (Or.inr (Or.inl q)))
          have h4 : sp.toNatClampNeg + k.toNatClampNeg ≤ N0 := Classical.byContradiction fun q => hc (Or.inr (Or.inr (Or.inr (Or.inl q))))
          have h5 : dp.toNatClampNeg + k.toNatClampNeg ≤ N1 := Classical.byContradiction fun q => hc (Or.inr (Or.inr (Or.inr (Or.inr q))))
          rw [hcn] at hown
          have w0 := hP.2 a0 _ (pv_wi ha0 hA0)
          have w1 := hP.2 a _ (pv_wi ha hA)
          refine pv_copy hx hb (hml.trans hls.symm) hown (hts _ (pv_mem _ pv_al.1 rfl)) (hts _ (pv_mem _ pv_al.2.1 rfl)) (hts _ (pv_mem _ pv_al.2.2.1 rfl)) (hts _ (pv_mem _ pv_al.2.2.2.1 rfl)) ((hK.1.2 0 _ pv_ty0).1) w0 w1 h1 h2 h3 h4 h5 hfr (by rw [pv_sum_t]; exact hlc) hd fun H1 locs1 e1 z1 oq hL => ?_
          refine kk H1 _ (hP.set ha e1 z1 oq) ⟨by rw [z1]; exact hS.1, fun q g1 g2 => ?_, fun q hq => ?_⟩
          · rw [oq q (fun e9 => g2 (by rw [e9]; exact Nat.le_add_right b a))]
            exact hS.2.1 q g1 g2
          · rcases hL q hq with h9 | h9
            · exact hS.2.2 q h9
            · rw [h9]
              exact Nat.le_add_right b a
      · cases h
    · cases h
  · cases h
end PV4
end
section
/-! ===== the engine's run ===== -/
/-- new int[n][k] -/
def pv_mu (A : pv_H) (N K : Nat) : Nat → pv_C := fun j => if j = A.1 then .inl (2, N, .inr (A.1 + 1)) else if A.1 < j ∧ j < A.1 + 1 + N then .inl (0, K, .inl (fun _ => 0)) else A.2 j
def pv_h3 (y : pv_Y) (i : Instr) (n : Nat) (st : List Value) (A : pv_H) (cu su : Nat) : Option (List Value × pv_H × Nat × Nat) :=
  match i, n, st with
  | .multianewarray x 2, 4, .int k :: .int j :: st => if ((pv_cn y = 3 ∧ x = 17) ∨ (pv_cn y = 5 ∧ x = 30)) ∧ ¬ j < 0 ∧ ¬ k < 0 ∧ j.toNatClampNeg * 4 ≤ 536870912 ∧ k.toNatClampNeg * 4 ≤ 536870912 ∧ cu + (1 + j.toNatClampNeg) ≤ pv_mc y ∧ su + (j.toNatClampNeg + j.toNatClampNeg * k.toNatClampNeg) ≤ pv_ms y then some (.ref A.1 :: st, (A.1 + 1 + j.toNatClampNeg, pv_mu A j.toNatClampNeg k.toNatClampNeg), cu + (1 + j.toNatClampNeg), su + (j.toNatClampNeg + j.toNatClampNeg * k.toNatClampNeg)) else none
  | _, _, _ => none
/-- Math.max, min, abs by (class, entry): which, the place of the link -/
def pv_LX : List (Nat × Nat × Nat × Nat) := [(0, 25, 0, 417), (0, 19, 1, 414), (1, 24, 0, 536), (1, 18, 1, 535), (6, 251, 0, 638), (6, 221, 2, 584)]
def pv_xn (k : Nat) : MethodName := if k = 0 then Lib.Math.max.name else if k = 1 then Lib.Math.min.name else Lib.Math.abs.name
set_option maxRecDepth 100000 in
theorem pv_LX_ok : ∀ e ∈ pv_LX, lw_tbl[e.2.2.2]? = some (.methodLink (pv_own e.1) e.2.1 (pv_xn e.2.2.1)) := by decide +kernel
set_option maxRecDepth 100000 in
theorem pv_xs : lw_tbl[418]? = some (.static Lib.Math.max.name) ∧ lw_tbl[415]? = some (.static Lib.Math.min.name) ∧ lw_tbl[585]? = some (.static Lib.Math.abs.name) ∧ lw_tbl[70]? = some (.initialized "java/lang/Math") := by decide +kernel
set_option maxRecDepth 100000 in
theorem pv_xc : lw_tbl[419]? = some (.code Lib.Math.max.name Lib.Math.max.code 2 (some .int)) ∧ lw_tbl[416]? = some (.code Lib.Math.min.name Lib.Math.min.code 2 (some .int)) ∧ lw_tbl[586]? = some (.code Lib.Math.abs.name Lib.Math.abs.code 1 (some .int)) := ⟨rfl, rfl, rfl⟩
def pv_mx (y : pv_Y) (i : Instr) (n : Nat) (st : List Value) : Option (List Value) :=
  match i, n, st with
  | .invokestatic x, 3, .int b :: st => match pv_LX.find? (fun e => e.1 == pv_cn y && e.2.1 == x) with
    | some e => if 1 ≤ pv_fr y ∧ pv_sum st + 13 ≤ pv_lc y then (match e.2.2.1, st with
      | 0, .int a :: st => some (.int (if a < b then b else a) :: st)
      | 1, .int a :: st => some (.int (if b < a then b else a) :: st)
      | 2, st => some (.int (if 0 ≤ b then b else 0 - b) :: st)
      | _, _ => none) else none
    | none => none
  | _, _, _ => none
/-- returns -/
def pv_r (y : pv_Y) (i : Instr) (n : Nat) (st : List Value) : Option (Option Value) :=
  match i, n, st with
  | .ireturn, 1, [.int v] => match pv_rt y with
    | some .int => some (some (.int v))
    | some .boolean => if vp_nar .boolean v = v then some (some (.int v)) else none
    | _ => none
  | .lreturn, 1, [.long v] => match pv_rt y with
    | some .long => some (some (.long v))
    | _ => none
  | .return_, 1, [] => match pv_rt y with
    | none => some none
    | _ => none
  | _, _, _ => none
/-- calls: the link -/
def pv_mf (own idx : Nat) : Option (Nat × pv_Y) :=
  match pv_LM.find? (fun e => e.1 == own && e.2.1 == idx) with
  | some e => (pv_tab[e.2.2.2.1]?).map (fun z => (e.2.2.1, z))
  | none => match pv_LMN.find? (fun e => e.1 == own && e.2.1 == idx) with
    | some e => (pv_tab[e.2.2.2.1]?).map (fun z => (e.2.2.1, z))
    | none => none
def pv_iv (i : Instr) (n : Nat) : Option (Nat × Nat) := match i, n with
  | .invokevirtual x, 3 => some (0, x)
  | .invokestatic x, 3 => some (1, x)
  | .invokespecial x, 3 => some (2, x)
  | _, _ => none
/-- the receiver of a virtual call is of the method's own class -/
def pv_rc (z : pv_Y) (A : pv_H) (As : List Value) : Bool := match As with
  | .ref a :: _ => decide (a < A.1) && match A.2 a with
    | .inr (ci, _) => ci + 1 == pv_cn z
    | _ => false
  | _ => false
def pv_cr (y z : pv_Y) (cu su : Nat) (As rest : List Value) : Bool := decide ((pv_sl As).length ≤ pv_ml z) && decide (pv_sum rest ≤ 8) && decide (pv_fr z + 1 ≤ pv_fr y) && decide (8 + (pv_ml z + 11) + pv_lc z ≤ pv_lc y) && decide (cu + pv_mc z ≤ pv_mc y) && decide (su + pv_ms z ≤ pv_ms y)
def pv_na (kk : Nat) (z : pv_Y) : Nat := if kk = 1 then pv_np z else pv_np z + 1
def pv_hd (As : List Value) : Bool := match As with
  | .ref _ :: _ => true
  | _ => false
def pv_ck (y z : pv_Y) (k kk cu su : Nat) (As rest : List Value) (A : pv_H) : Bool := (kk == k || (kk == 3 && k == 2)) && As.length == pv_na kk z && (kk != 0 || pv_rc z A As) && (kk == 1 || pv_hd As) && pv_cr y z cu su As rest
def pv_inv (y : pv_Y) (i : Instr) (n : Nat) (st : List Value) (A : pv_H) (cu su : Nat) : Option (pv_Y × List Value × List Value) :=
  match pv_iv i n with
  | some (k, x) => match pv_mf (pv_cn y) x with
    | some (kk, z) => if pv_ck y z k kk cu su (st.take (pv_na kk z)).reverse (st.drop (pv_na kk z)) A = true then some (z, (st.take (pv_na kk z)).reverse, st.drop (pv_na kk z)) else none
    | none => none
  | none => none
/-- one step that is no call and no return -/
def pv_stp (y : pv_Y) (i : Instr) (n pc : Nat) (loc : pv_L) (st : List Value) (A : pv_H) (cu su : Nat) : Option (Nat × pv_L × List Value × pv_H × Nat × Nat) :=
  match pv_s i n st with
  | some st' => some (pc + n, loc, st', A, cu, su)
  | none => match pv_l i n loc st with
    | some (loc', st') => some (pc + n, loc', st', A, cu, su)
    | none => match pv_b i n st with
      | some (o, t, st') => if 0 ≤ (pc : Int) + o then some (pv_pc pc o t, loc, st', A, cu, su) else none
      | none => match pv_h1 y i n st A with
        | some (st', A') => some (pc + n, loc, st', A', cu, su)
        | none => match pv_h2 y i n st A cu su with
          | some (st', A', cu', su') => some (pc + n, loc, st', A', cu', su')
          | none => match pv_h3 y i n st A cu su with
            | some (st', A', cu', su') => some (pc + n, loc, st', A', cu', su')
            | none => match pv_mx y i n st with
              | some st' => some (pc + n, loc, st', A, cu, su)
              | none => none
def pv_run : Nat → pv_Y → Nat → pv_L → List Value → pv_H → Nat → Nat → Option (Option Value × pv_H)
  | 0, _, _, _, _, _, _, _ => none
  | f + 1, y, pc, loc, st, A, cu, su =>
    match decode (pv_cd y) pc with
    | .ok (i, n) => match pv_r y i n st with
      | some r => some (r, A)
      | none => match pv_inv y i n st A cu su with
        | some (z, As, rest) => match pv_run f z 0 (pv_ent As (pv_ml z)) [] A 0 0 with
          | some (r, A') => pv_run f y (pc + 3) loc (r.toList ++ rest) A' (cu + pv_mc z) (su + pv_ms z)
          | none => none
        | none => match pv_stp y i n pc loc st A cu su with
          | some (pc', loc', st', A', cu', su') => pv_run f y pc' loc' st' A' cu' su'
          | none => none
    | .error _ => none
end
section
/-! ===== new int[n][k] over the machine ===== -/
section PV5
variable {p : Program} {l : Launch} {e : Env} {s : State} {m : MethodId} {args : Array Value} {below : List Frame} {meth : Method} {c : Code} {H : Heap} {locs : List Loc} {Q : State → Prop}
variable {pc : Nat} {ls : Array Slot} {b : Nat} {y : pv_Y} {D : va_G} {ca : Nat → ClassId} {A : pv_H} {H0 : Heap}
/-- the row of rows when i of its N rows stand, and a row of K noughts -/
def pv_fo (c9 : ClassId) (N h0 i : Nat) : Cell := arrV c9 N (fun j => va_rf (if j < i then some (h0 + 1 + j) else none))
def pv_fi (c9 : ClassId) (K : Nat) : Cell := arrV c9 K (fun _ => .int 0)
theorem pv_fo_size (c9 : ClassId) (N h0 i : Nat) : (pv_fo c9 N h0 i).slots.size = N := arrV_size _ _ _
theorem pv_fi_size (c9 : ClassId) (K : Nat) : (pv_fi c9 K).slots.size = K := arrV_size _ _ _
theorem pv_fo_set (c9 : ClassId) (N h0 i : Nat) : (pv_fo c9 N h0 i).setSlot i (.ref (h0 + 1 + i)) = pv_fo c9 N h0 (i + 1) := by
  unfold pv_fo
  rw [arrV_store]
  refine congrArg (arrV c9 N) (funext fun j => ?_)
  unfold updV
  by_cases q : j = i
  · subst q
    simp [va_rf]
  · by_cases q2 : j < i
    · simp [q, q2, Nat.lt_succ_of_lt q2]
    · simp [q, q2, show ¬ j < i + 1 by omega]
theorem pv_fo_zero (c9 : ClassId) (N h0 : Nat) : ({ cls := c9, slots := Array.replicate N .null, vm := .none } : Cell) = pv_fo c9 N h0 0 := by
  rw [arrV_new]
  exact congrArg (arrV c9 N) (funext fun j => by simp [va_rf])
theorem pv_fi_new (c9 : ClassId) (K : Nat) : ({ cls := c9, slots := Array.replicate K (.int 0), vm := .none } : Cell) = pv_fi c9 K := arrV_new _ _ _
/-- the machine when i rows stand -/
def pv_fs (T : State) (c2 c0 : ClassId) (N K : Nat) : Nat → State
  | 0 => T.pushCell (pv_fo c2 N T.heap.size 0)
  | i + 1 => ((pv_fs T c2 c0 N K i).pushCell (pv_fi c0 K)).setCell T.heap.size (pv_fo c2 N T.heap.size (i + 1))
theorem pv_fs_at (T : State) (c2 c0 : ClassId) (N K : Nat) : ∀ i, (pv_fs T c2 c0 N K i).heap.size = T.heap.size + 1 + i ∧ (pv_fs T c2 c0 N K i).heap[T.heap.size]? = some (pv_fo c2 N T.heap.size i) ∧ (pv_fs T c2 c0 N K i).vm = T.vm ∧ (pv_fs T c2 c0 N K i).slotsUsed = T.slotsUsed + N + i * K
  | 0 => ⟨by simp [pv_fs], by simp [pv_fs], rfl, by simp [pv_fs, pv_fo_size]⟩
  | i + 1 => by
    obtain ⟨g1, g2, g3, g4⟩ := pv_fs_at T c2 c0 N K i
    have hlt : T.heap.size < (pv_fs T c2 c0 N K i).heap.size := by omega
    have h1 : ((pv_fs T c2 c0 N K i).pushCell (pv_fi c0 K)).heap[T.heap.size]? = some (pv_fo c2 N T.heap.size i) := by rw [State.heap_pushCell_of_lt (h := hlt)]; exact g2
    refine ⟨?_, State.heap_setCell_self h1, by simp [pv_fs, g3], ?_⟩
    · simp [pv_fs, State.setCell, g1]; omega
    · simp [pv_fs, g4, pv_fi_size, Nat.succ_mul]; omega
theorem pv_fs_old (T : State) (c2 c0 : ClassId) (N K : Nat) {a : Addr} (ha : a < T.heap.size) : ∀ i, (pv_fs T c2 c0 N K i).heap[a]? = T.heap[a]?
  | 0 => State.heap_pushCell_of_lt _ _ ha
  | i + 1 => by
    have g1 := (pv_fs_at T c2 c0 N K i).1
    show (((pv_fs T c2 c0 N K i).pushCell (pv_fi c0 K)).setCell T.heap.size _).heap[a]? = _
    rw [State.heap_setCell_other (Nat.ne_of_gt ha), State.heap_pushCell_of_lt (h := Nat.lt_of_lt_of_le ha (by rw [g1]; omega))]
    exact pv_fs_old T c2 c0 N K ha i
theorem pv_fs_row (T : State) (c2 c0 : ClassId) (N K : Nat) : ∀ i j, j < i → (pv_fs T c2 c0 N K i).heap[T.heap.size + 1 + j]? = some (pv_fi c0 K)
  | 0, _, h => absurd h (Nat.not_lt_zero _)
  | i + 1, j, h => by
    have g1 := (pv_fs_at T c2 c0 N K i).1
    show (((pv_fs T c2 c0 N K i).pushCell (pv_fi c0 K)).setCell T.heap.size _).heap[T.heap.size + 1 + j]? = _
    rw [State.heap_setCell_other (show T.heap.size ≠ T.heap.size + 1 + j by omega)]
    by_cases q : j < i
    · rw [State.heap_pushCell_of_lt (h := show T.heap.size + 1 + j < (pv_fs T c2 c0 N K i).heap.size by omega)]
      exact pv_fs_row T c2 c0 N K i j q
    · have q2 : j = i := by omega
      subst q2
      rw [← g1]
      exact State.heap_pushCell_size _ _
theorem pv_fs_top (T : State) (f : JFrame) (c2 c0 : ClassId) (N K : Nat) : ∀ i, pv_fs (T.setTop f) c2 c0 N K i = (pv_fs T c2 c0 N K i).setTop f
  | 0 => rfl
  | i + 1 => by simp only [pv_fs, pv_fs_top T f c2 c0 N K i, State.heap_setTop, State.pushCell_setTop, State.setCell_setTop]
theorem pv_fs_stand {R : Room} {T : State} {cells slots : Nat} (X : Stand p l e R s m args below meth c T locs cells slots) (c2 c0 : ClassId) (N K : Nat) :
    ∀ i, Stand p l e R s m args below meth c (pv_fs T c2 c0 N K i) (locs ++ (List.range i).map fun j => ⟨T.heap.size, j⟩) (cells + 1 + i) (slots + N + i * K)
  | 0 => by
    have h := X.pushed (pv_fo c2 N T.heap.size 0)
    rw [pv_fo_size] at h
    simpa [pv_fs] using h
  | i + 1 => by
    have Xi := pv_fs_stand X c2 c0 N K i
    obtain ⟨g1, g2, -, -⟩ := pv_fs_at T c2 c0 N K i
    have hcell : ((pv_fs T c2 c0 N K i).pushCell (pv_fi c0 K)).heap[T.heap.size]? = some (pv_fo c2 N T.heap.size i) := by rw [State.heap_pushCell_of_lt (h := show T.heap.size < (pv_fs T c2 c0 N K i).heap.size by omega)]; exact g2
    have h := (Xi.pushed (pv_fi c0 K)).stored hcell i (.ref (T.heap.size + 1 + i))
    rw [pv_fi_size, pv_fo_set] at h
    have q2 : (locs ++ (List.range (i + 1)).map fun j => (⟨T.heap.size, j⟩ : Loc)) = (locs ++ (List.range i).map fun j => (⟨T.heap.size, j⟩ : Loc)) ++ [⟨T.heap.size, i⟩] := by simp [List.range_succ, List.append_assoc]
    rw [q2, show slots + N + (i + 1) * K = slots + N + i * K + K by rw [Nat.succ_mul]; omega]
    exact h
theorem pv_wpA {E : CtlPost} {e : Env} {d : Bool} {acts : List Action} {T : State} {c9 comp : ClassId} {k : Class} {ty : FieldType} {N : Nat} {v : Value} (hk : T.vm.classes[c9]? = some k) (hkind : k.kind = .array comp ty) (h1 : ¬ N > e.platform.arrayLengthLimit) (h2 : ¬ N * componentBytes ty > e.platform.maxHeapBytes) (hf : fits ty v = true) (hd : v.isDefault = true) {Q : Addr → Pre} (h3 : T.heap.size < e.platform.maxCells) (h4 : T.slotsUsed + N ≤ e.platform.maxSlots)
    (hq : Q T.heap.size d acts (T.pushCell { cls := c9, slots := Array.replicate N v, vm := .none })) : wp (Jvm.newArray c9 N v) Q E e d acts T := by
  have hfits : ∀ i w, (Array.replicate N v)[i]? = some w → T.fitsSlot c9 .none i w = true := by
    intro i w hw
    rw [Array.getElem?_replicate] at hw
    split at hw
    · cases hw; simp [State.fitsSlot, State.slotType?, hk, hkind, hf]
    · cases hw
  have hda : allocActs (Array.replicate N v) T.heap.size acts = acts := by
    have hall : ((Array.replicate N v).all (·.isDefault)) = true := by
      rw [Array.all_replicate]; split <;> simp [hd]
    unfold allocActs; rw [if_pos hall]
  simp only [Jvm.newArray, Jvm.arrayFits, wp_bind', W.ask, W.ite, h1, if_false, wp_pure', W.theClass, hk, hkind, h2, W.alloc, W.stop, Option.some.injEq, exists_eq_left', Array.size_replicate, hda]
  rw [if_neg (by omega)]
  exact ⟨h3, h4, hfits, hq⟩
theorem pv_wp1 {E : CtlPost} {e : Env} {d : Bool} {acts : List Action} {T : State} {c0 cc : ClassId} {kc : Class} {k : Int32} (hkc : T.vm.classes[c0]? = some kc) (hkind : kc.kind = .array cc .int) (hk : ¬ k < 0) (h1 : ¬ k.toNatClampNeg > e.platform.arrayLengthLimit) (h2 : ¬ k.toNatClampNeg * 4 > e.platform.maxHeapBytes) (h3 : T.heap.size < e.platform.maxCells) (h4 : T.slotsUsed + k.toNatClampNeg ≤ e.platform.maxSlots) {Q : Addr → Pre} (hq : Q T.heap.size d acts (T.pushCell (pv_fi c0 k.toNatClampNeg))) : wp (multianewarray.make c0 [k]) Q E e d acts T := by
  rw [multianewarray.make]
  simp only [wp_bind', W.ite, hk, if_false, wp_pure', W.theClass, hkc, hkind, Option.some.injEq, exists_eq_left']
  exact pv_wpA hkc hkind h1 h2 rfl rfl h3 h4 (by rw [show defaultValue .int = Value.int 0 from rfl, pv_fi_new]; exact hq)
theorem pv_wp2 {E : CtlPost} {e : Env} {d : Bool} {acts : List Action} {T : State} {c2 c0 cc : ClassId} {k2 kc : Class} {n k : Int32} (hk2 : T.vm.classes[c2]? = some k2) (hkind2 : k2.kind = .array c0 (.array .int)) (hkc : T.vm.classes[c0]? = some kc) (hkind : kc.kind = .array cc .int) (hn : ¬ n < 0) (hk : ¬ k < 0)
    (h1 : ¬ n.toNatClampNeg > e.platform.arrayLengthLimit) (h2 : ¬ n.toNatClampNeg * 4 > e.platform.maxHeapBytes) (h3 : ¬ k.toNatClampNeg > e.platform.arrayLengthLimit) (h4 : ¬ k.toNatClampNeg * 4 > e.platform.maxHeapBytes)
    (h5 : T.heap.size + 1 + n.toNatClampNeg ≤ e.platform.maxCells) (h6 : T.slotsUsed + n.toNatClampNeg + n.toNatClampNeg * k.toNatClampNeg ≤ e.platform.maxSlots) {Q : Addr → Pre} (hq : ∀ d' acts', Q T.heap.size d' acts' (pv_fs T c2 c0 n.toNatClampNeg k.toNatClampNeg n.toNatClampNeg)) : wp (multianewarray.make c2 [n, k]) Q E e d acts T := by
  have hfind : ([k].find? (· < 0)) = none := by simp [hk]
  rw [multianewarray.make]
  simp only [wp_bind', W.ite, hn, if_false, wp_pure', W.theClass, hk2, hkind2, Option.some.injEq, exists_eq_left']
  refine pv_wpA hk2 hkind2 h1 h2 rfl rfl (by omega) (by have := Nat.zero_le (n.toNatClampNeg * k.toNatClampNeg); omega) ?_
  rw [pv_fo_zero _ _ T.heap.size]
  simp only [hfind]
  rw [ite_self, wp_bind', Std.Legacy.Range.forIn_eq_forIn_range', show ([:n.toNatClampNeg] : Std.Legacy.Range).size = n.toNatClampNeg by simp [Std.Legacy.Range.size]]
  show wp (forIn (List.range' 0 n.toNatClampNeg 1) PUnit.unit _) _ E e d acts _
  refine wp_forIn_inv (fun todo U => ∃ i, i ≤ n.toNatClampNeg ∧ todo = List.range' i (n.toNatClampNeg - i) ∧ U = pv_fs T c2 c0 n.toNatClampNeg k.toNatClampNeg i) _ _ ⟨0, Nat.zero_le _, rfl, rfl⟩ ?_ ?_
  · rintro x todo U d' acts' Q' ⟨i, hi, hl, rfl⟩ hnext
    have hlt : i < n.toNatClampNeg := by
      rcases Nat.lt_or_ge i n.toNatClampNeg with h | h
      · exact h
      · rw [show n.toNatClampNeg - i = 0 by omega] at hl; simp at hl
    obtain ⟨rfl, htodo⟩ : x = i ∧ todo = List.range' (i + 1) (n.toNatClampNeg - (i + 1)) := by
      rw [show n.toNatClampNeg - i = (n.toNatClampNeg - (i + 1)) + 1 by omega, List.range'_succ] at hl
      exact ⟨(List.cons.inj hl).1, (List.cons.inj hl).2⟩
    obtain ⟨g1, g2, g3, g4⟩ := pv_fs_at T c2 c0 n.toNatClampNeg k.toNatClampNeg x
    have hmul : x * k.toNatClampNeg + k.toNatClampNeg ≤ n.toNatClampNeg * k.toNatClampNeg := by
      have := Nat.mul_le_mul_right k.toNatClampNeg (show x + 1 ≤ n.toNatClampNeg from hlt)
      rw [Nat.succ_mul] at this; exact this
    simp only [wp_bind']
    refine pv_wp1 (by rw [g3]; exact hkc) hkind hk h3 h4 (by rw [g1]; omega) (by rw [g4]; omega) ?_
    simp only [wp_bind', W.writeLoc, wp_pure']
    refine ⟨pv_fo c2 n.toNatClampNeg T.heap.size x, by rw [State.heap_pushCell_of_lt (h := show T.heap.size < (pv_fs T c2 c0 n.toNatClampNeg k.toNatClampNeg x).heap.size by omega)]; exact g2, fun z => (by cases z), by rw [pv_fo_size]; exact hlt, ?_, hnext _ _ _ ⟨x + 1, hlt, htodo, ?_⟩⟩
    · show State.fitsSlot _ c2 .none _ _ = true
      simp [State.fitsSlot, State.slotType?, g3, hk2, hkind2]
      rfl
    · rw [g1, pv_fo_set]; rfl
  · rintro U d' acts' ⟨i, hi, hl, rfl⟩
    have hiN : i = n.toNatClampNeg := by
      rcases Nat.lt_or_ge i n.toNatClampNeg with h | h
      · rw [show n.toNatClampNeg - i = (n.toNatClampNeg - (i + 1)) + 1 by omega, List.range'_succ] at hl; cases hl
      · omega
    subst hiN
    simp only [wp_pure']
    exact hq _ _
/-- new int[n][k]: the step -/
theorem pv_multi {R : Room} {T : State} {cells slots : Nat} (X : Stand p l e R s m args below meth c T locs cells slots) (hexec : p.tables.exec = Jvm.exec) {own : String} {index : Nat} (hown : s.vm.findClass own = some m.cls) (hclink : (Cond.classLink own index "[[I").before args s = true) {c2 c0 : ClassId} (hn2 : s.vm.findClass "[[I" = some c2) (hk2 : ∃ k2 : Class, s.vm.classes[c2]? = some k2 ∧ k2.kind = .array c0 (.array .int)) (hk0 : ∃ (kc : Class) (cc : ClassId), s.vm.classes[c0]? = some kc ∧ kc.kind = .array cc .int)
    {g : JFrame} (hg : g.method = m) (hdg : decode c.code g.pc = .ok (.multianewarray index 2, 4)) {n k : Int32} {rest : List Value} (hstack : g.stack = .int k :: .int n :: rest) (hn : ¬ n < 0) (hk : ¬ k < 0) (hb1 : n.toNatClampNeg * 4 ≤ 536870912) (hb2 : k.toNatClampNeg * 4 ≤ 536870912) (hcells : cells + (1 + n.toNatClampNeg) ≤ R.cells) (hslots : slots + (n.toNatClampNeg + n.toNatClampNeg * k.toNatClampNeg) ≤ R.slots) :
    ∃ vm₁ : Vm, Stand p l e R s m args below meth c (pv_fs (T.setVm vm₁) c2 c0 n.toNatClampNeg k.toNatClampNeg n.toNatClampNeg) (locs ++ (List.range n.toNatClampNeg).map fun j => ⟨T.heap.size, j⟩) (cells + 1 + n.toNatClampNeg) (slots + n.toNatClampNeg + n.toNatClampNeg * k.toNatClampNeg) ∧
      ∀ target, Steps p.tables e below ((pv_fs (T.setVm vm₁) c2 c0 n.toNatClampNeg k.toNatClampNeg n.toNatClampNeg).setTop { g with pc := g.pc + 4, stack := .ref T.heap.size :: rest }) target → Steps p.tables e below (T.setTop g) target := by
  subst hg
  have hpl : e.platform.magicAccessors = ({} : Platform).magicAccessors := by rw [X.admits.platform]
  obtain ⟨k2, hk2, hkind2⟩ := hk2
  obtain ⟨kc, cc, hkc, hkindc⟩ := hk0
  obtain ⟨c9, hfc9, hcl⟩ := Cond.classLink_spec hown hclink e.platform hpl
  cases hn2.symm.trans hfc9
  obtain ⟨hg₁, hwarm₁, hready₁⟩ := State.classEntry (e := e) X.warmed hcl
  generalize T.vm.noted g.method.cls index (.cls c2) = vm₁ at hg₁ hwarm₁ hready₁
  have hal : s.vm.Alike vm₁ := hwarm₁.alike
  obtain ⟨k2', hk2', he2⟩ := hal.2.2 _ _ hk2
  obtain ⟨kc', hkc', hec⟩ := hal.2.2 _ _ hkc
  have X₁ := X.noted hwarm₁
  obtain ⟨hr1, hr2⟩ := X.roomAbove hcells hslots
  have XF := pv_fs_stand X₁ c2 c0 n.toNatClampNeg k.toNatClampNeg n.toNatClampNeg
  refine ⟨vm₁, XF, fun target hrest => ?_⟩
  have h1 : ¬ n.toNatClampNeg > e.platform.arrayLengthLimit := by rw [Launch.admits_arrayLengthLimit X.admits]; omega
  have h2 : ¬ n.toNatClampNeg * 4 > e.platform.maxHeapBytes := by rw [Launch.admits_maxHeapBytes X.admits]; omega
  have h3 : ¬ k.toNatClampNeg > e.platform.arrayLengthLimit := by rw [Launch.admits_arrayLengthLimit X.admits]; omega
  have h4 : ¬ k.toNatClampNeg * 4 > e.platform.maxHeapBytes := by rw [Launch.admits_maxHeapBytes X.admits]; omega
  jvm_step X.here [hexec, hdg]
  simp only [multianewarray.sem, wp_bind', W.resolveClassAt_links (State.method?_setTop g X.here.top) hg₁]
  rw [W.popN, if_neg (by decide)]
  refine ⟨g, State.topJava?_setTop' (s := T.setVm vm₁) g X.here.top, [.int n, .int k], rest, rfl, hstack, ?_⟩
  simp only [List.mapM_cons, List.mapM_nil, wp_bind', wp_pure']
  refine pv_wp2 (k2 := k2') (kc := kc') (c0 := c0) (cc := cc) hk2' (by rw [he2]; exact hkind2) hkc' (by rw [hec]; exact hkindc) hn hk h1 h2 h3 h4 (by show T.heap.size + 1 + _ ≤ _; omega) (by show T.slotsUsed + _ + _ ≤ _; omega) (fun d' acts' => ?_)
  have eS : ((T.setTop g).setVm vm₁).setTop { g with stack := rest } = (T.setVm vm₁).setTop { g with stack := rest } := by
    show ((T.setVm vm₁).setTop g).setTop _ = _
    rw [State.setTop_setTop]
  rw [eS, pv_fs_top]
  simp only [wp_bind', W.mark, W.pushRef, State.topJava?_setTop' _ XF.here.top, Option.some.injEq, exists_eq_left', State.setTop_setTop, State.heap_setTop]
  intro acts
  simp [jvm, XF.here.top]
  exact hrest
set_option maxRecDepth 100000 in
theorem pv_ml3 : lw_tbl[85]? = some (.classLink (pv_own 3) 17 "[[I") ∧ lw_tbl[135]? = some (.classLink (pv_own 5) 30 "[[I") := by decide +kernel
theorem pv_h3_ok (X : pv_cx y p s m args meth c D ca) (hP : pv_P b D ca A H) (hS : va_S (pv_A b) H0 H locs) {i : Instr} {n cu su cu' su' : Nat} {st st' : List Value} {A' : pv_H} (hd : decode (pv_cd y) pc = .ok (i, n)) (h : pv_h3 y i n st A cu su = some (st', A', cu', su'))
    (kk : ∀ (H1 : Heap) (locs1 : List Loc), pv_P b D ca A' H1 → va_S (pv_A b) H0 H1 locs1 → W p l e (pv_room y) s m args below meth c H1 locs1 cu' su' Q (F0 m (pc + n) ls (st'.map (pv_t b)))) : W p l e (pv_room y) s m args below meth c H locs cu su Q (F0 m pc ls (st.map (pv_t b))) := by
  obtain ⟨hx, hb, hml, hr, hlk, hnm, hown, hts, hK⟩ := X
  unfold pv_h3 at h
  split at h
  · next x k j st0 =>
    split at h
    · next hc =>
      cases h
      obtain ⟨hlink, hj, hk, hb1, hb2, hcu, hsu⟩ := hc
      have hcl : (Cond.classLink (pv_own (pv_cn y)) x "[[I").before args s = true := by
        rcases hlink with ⟨q1, q2⟩ | ⟨q1, q2⟩
        · rw [q1, q2]; exact hts _ (pv_mem _ pv_ml3.1 rfl)
        · rw [q1, q2]; exact hts _ (pv_mem _ pv_ml3.2 rfl)
      have hn2 : s.vm.findClass "[[I" = some (ca 2) := (hK.1.2 2 _ pv_ty2).2
      obtain ⟨-, kc, hkc, cc, hkkc⟩ := (hK.1.2 0 _ pv_ty0).1 0 (fun _ => .null)
      intro T hT X
      obtain ⟨vm₁, X', step⟩ := pv_multi X hx hown hcl hn2 hK.2.2.2 ⟨kc, cc, hkc, hkkc⟩ (g := F0 m pc ls (.int k :: .int j :: st0.map (pv_t b))) rfl (by rw [hb]; exact hd) rfl hj hk hb1 hb2 hcu hsu
      have hTh : (T.setVm vm₁).heap = H := hT
      have hsz : T.heap.size = b + A.1 := by rw [hT]; exact hP.1
      generalize hF : pv_fs (T.setVm vm₁) (ca 2) (ca 0) j.toNatClampNeg k.toNatClampNeg j.toNatClampNeg = F at X' step
      obtain ⟨g1, g2, -, -⟩ := pv_fs_at (T.setVm vm₁) (ca 2) (ca 0) j.toNatClampNeg k.toNatClampNeg j.toNatClampNeg
      rw [hF, hTh] at g1 g2
      have hold : ∀ q : Nat, q < H.size → F.heap[q]? = H[q]? := fun q hq => by
        have := pv_fs_old (T.setVm vm₁) (ca 2) (ca 0) j.toNatClampNeg k.toNatClampNeg (a := q) (by rw [hTh]; exact hq) j.toNatClampNeg
        rw [hF, hTh] at this
        exact this
      have hrow : ∀ r : Nat, r < j.toNatClampNeg → F.heap[H.size + 1 + r]? = some (pv_fi (ca 0) k.toNatClampNeg) := fun r hr9 => by
        have := pv_fs_row (T.setVm vm₁) (ca 2) (ca 0) j.toNatClampNeg k.toNatClampNeg j.toNatClampNeg r hr9
        rw [hF, hTh] at this
        exact this
      have hP' : pv_P b D ca (A.1 + 1 + j.toNatClampNeg, pv_mu A j.toNatClampNeg k.toNatClampNeg) F.heap := by
        refine ⟨by rw [g1, hP.1]; show b + A.1 + 1 + _ = b + (A.1 + 1 + _); omega, fun q9 w hw => ?_⟩
        obtain ⟨hl9, rfl⟩ := pv_w_some hw
        have hl9 : q9 < A.1 + 1 + j.toNatClampNeg := hl9
        show va_at D vwCl (b + q9, pv_e b ca (pv_mu A j.toNatClampNeg k.toNatClampNeg q9)) F.heap
        unfold pv_mu
        by_cases e1 : q9 = A.1
        · rw [if_pos e1, e1, ← hP.1]
          show F.heap[H.size]? = some (vp_cell _ _)
          rw [g2]
          show some (pv_fo (ca 2) j.toNatClampNeg H.size j.toNatClampNeg) = some (vp_cell (ca 2) (j.toNatClampNeg, .inr (.inr (.inr (.inr (fun i => if i < j.toNatClampNeg then some (b + (A.1 + 1 + i)) else none))))))
          rw [vp_cell_q]
          unfold pv_fo
          rw [hP.1]
          refine congrArg some (congrArg (arrV _ _) (funext fun j9 => ?_))
          show va_rf _ = va_rf _
          by_cases e2 : j9 < j.toNatClampNeg
          · rw [if_pos e2, if_pos e2]
            congr 2
            omega
          · rw [if_neg e2, if_neg e2]
        · rw [if_neg e1]
          by_cases e2 : A.1 < q9 ∧ q9 < A.1 + 1 + j.toNatClampNeg
          · rw [if_pos e2]
            show F.heap[b + q9]? = some (vp_cell _ _)
            have h9 := hrow (q9 - (A.1 + 1)) (by omega)
            rw [hP.1, show b + A.1 + 1 + (q9 - (A.1 + 1)) = b + q9 by omega] at h9
            rw [h9]
            rfl
          · rw [if_neg e2]
            have h9 := hP.2 q9 _ (pv_w_get (show q9 < A.1 by omega))
            exact h9.kept (hold _ (by rw [hP.1]; show b + q9 < b + A.1; omega))
      have hS' : va_S (pv_A b) H0 F.heap (locs ++ (List.range j.toNatClampNeg).map fun j9 => ⟨T.heap.size, j9⟩) := by
        refine ⟨by rw [g1]; exact Nat.le_trans hS.1 (by omega), fun q h1 h2 => (hold q (Nat.lt_of_lt_of_le h1 hS.1)).trans (hS.2.1 q h1 h2), fun q hq => ?_⟩
        rcases List.mem_append.mp hq with h9 | h9
        · exact hS.2.2 q h9
        · obtain ⟨z, -, hz⟩ := List.mem_map.mp h9
          rw [← hz]
          show b ≤ T.heap.size
          omega
      have X'' : Stand p l e (pv_room y) s m args below meth c F (locs ++ (List.range j.toNatClampNeg).map fun j9 => ⟨T.heap.size, j9⟩) (cu + (1 + j.toNatClampNeg)) (su + (j.toNatClampNeg + j.toNatClampNeg * k.toNatClampNeg)) := by
        rw [show cu + (1 + j.toNatClampNeg) = cu + 1 + j.toNatClampNeg by omega, show su + (j.toNatClampNeg + j.toNatClampNeg * k.toNatClampNeg) = su + j.toNatClampNeg + j.toNatClampNeg * k.toNatClampNeg by omega]
        exact X'
      obtain ⟨t, a1, b1⟩ := kk F.heap _ hP' hS' F rfl X''
      refine ⟨t, step t ?_, b1⟩
      rw [hsz]
      exact a1
    · cases h
  · cases h
theorem pv_h2_cu {y : pv_Y} {i : Instr} {n cu su cu' su' : Nat} {st st' : List Value} {A A' : pv_H} (h : pv_h2 y i n st A cu su = some (st', A', cu', su')) (hcu : cu ≤ pv_mc y) (hsu : su ≤ pv_ms y) : cu' ≤ pv_mc y ∧ su' ≤ pv_ms y := by
  unfold pv_h2 at h
  split at h
  · split at h
    · split at h
      · split at h
        · next hr => cases h; exact hr
        · cases h
      · cases h
    · cases h
  · split at h
    · cases h
    · next hc => cases h; exact ⟨Classical.byContradiction fun q => hc (Or.inr (Or.inr (Or.inl q))), Classical.byContradiction fun q => hc (Or.inr (Or.inr (Or.inr q)))⟩
  · split at h
    · cases h
    · next hc => cases h; exact ⟨Classical.byContradiction fun q => hc (Or.inr (Or.inr (Or.inl q))), Classical.byContradiction fun q => hc (Or.inr (Or.inr (Or.inr q)))⟩
  · split at h
    · split at h
      · cases h; exact ⟨hcu, hsu⟩
      · cases h
    · cases h
  · split at h
    · split at h
      · split at h
        · cases h
        · cases h; exact ⟨hcu, hsu⟩
      · cases h
    · cases h
  · cases h
theorem pv_h3_cu {y : pv_Y} {i : Instr} {n cu su cu' su' : Nat} {st st' : List Value} {A A' : pv_H} (h : pv_h3 y i n st A cu su = some (st', A', cu', su')) : cu' ≤ pv_mc y ∧ su' ≤ pv_ms y := by
  unfold pv_h3 at h
  split at h
  · split at h
    · next hc => cases h; exact ⟨hc.2.2.2.2.2.1, hc.2.2.2.2.2.2⟩
    · cases h
  · cases h
set_option maxHeartbeats 1000000 in
theorem pv_mx_ok (X : pv_cx y p s m args meth c D ca) {i : Instr} {n cu su : Nat} {st st' : List Value} (hls : ls.size = pv_ml y) (hd : decode (pv_cd y) pc = .ok (i, n)) (h : pv_mx y i n st = some st') (hcu : cu ≤ pv_mc y) (hsu : su ≤ pv_ms y)
    (k : W p l e (pv_room y) s m args below meth c H locs cu su Q (F0 m (pc + n) ls (st'.map (pv_t b)))) : W p l e (pv_room y) s m args below meth c H locs cu su Q (F0 m pc ls (st.map (pv_t b))) := by
  obtain ⟨hx, hb, hml, hr, hlk, hnm, hown, hts, hK⟩ := X
  unfold pv_mx at h
  split at h
  · split at h
    · next x v st0 e0 he =>
      have hm := List.mem_of_find?_eq_some he
      have hp := List.find?_some he
      simp only [Bool.and_eq_true, beq_iff_eq] at hp
      have hw := pv_LX_ok e0 hm
      rw [hp.1, hp.2] at hw
      have hw := hts _ (pv_mem _ hw rfl)
      split at h
      · next hroom =>
        obtain ⟨hf, hlc⟩ := hroom
        split at h
        · next a st1 h0 =>
          cases h
          rw [h0] at hw
          exact va_mmax hx hb (hml.trans hls.symm) hown hw (hts _ (pv_mem _ pv_xs.1 rfl)) (hts _ (pv_mem _ pv_xs.2.2.2 rfl)) (hts _ (pv_mem _ pv_xc.1 rfl)) hf (by rw [pv_sum_t]; exact Nat.le_trans (by unfold pv_sum; simp) hlc) hcu hsu hd k
        · next a st1 h0 =>
          cases h
          rw [h0] at hw
          exact va_mmin hx hb (hml.trans hls.symm) hown hw (hts _ (pv_mem _ pv_xs.2.1 rfl)) (hts _ (pv_mem _ pv_xs.2.2.2 rfl)) (hts _ (pv_mem _ pv_xc.2.1 rfl)) hf (by rw [pv_sum_t]; exact Nat.le_trans (by unfold pv_sum; simp) hlc) hcu hsu hd k
        · next h0 =>
          cases h
          rw [h0] at hw
          exact va_mabs hx hb (hml.trans hls.symm) hown hw (hts _ (pv_mem _ pv_xs.2.2.1 rfl)) (hts _ (pv_mem _ pv_xs.2.2.2 rfl)) (hts _ (pv_mem _ pv_xc.2.2 rfl)) hf (by rw [pv_sum_t]; exact hlc) hcu hsu hd k
        · cases h
      · cases h
    · cases h
  · cases h
end PV5
end
section
/-! ===== the engine's run is the machine's ===== -/
def pv_Q (b : Nat) (D : va_G) (ca : Nat → ClassId) (r : Option Value) (A' : pv_H) : Array Value → State → Outcome → State → Prop := fun _ st o t => o = .returned (r.map (pv_t b)) ∧ pv_P b D ca A' t.heap ∧ va_F (pv_A b) st t
def pv_Pc (b : Nat) (D : va_G) (ca : Nat → ClassId) (As : List Value) (A : pv_H) : Array Value → State → Prop := fun v U => v = (As.map (pv_t b)).toArray ∧ pv_P b D ca A U.heap ∧ pv_K D ca U
def pv_tOk (z : pv_Y) : Bool := decide ((parseMethodDescriptor (pv_nm z).desc).map (fun d => d.parameters.length) = some (pv_np z)) && decide ((pv_nm z).cls ≠ "java/lang/invoke/MethodHandle" ∧ (pv_nm z).cls ≠ "java/lang/invoke/VarHandle") && Jvm.plainName (pv_nm z).cls && decide (pv_own (pv_cn z) = (pv_nm z).cls)
set_option maxRecDepth 100000 in
theorem pv_tab_ok : ∀ z ∈ pv_tab, pv_tOk z = true := by decide +kernel
theorem pv_LMk : ∀ e ∈ pv_LM, e.2.2.1 ≤ 2 := by decide +kernel
theorem pv_LMNk : ∀ e ∈ pv_LMN, e.2.2.1 = 3 := by decide +kernel
set_option maxRecDepth 100000 in
theorem pv_tab_eq : pv_tab = pv_tab_0 ++ (pv_tab_1 ++ (pv_tab_2 ++ (pv_tab_3 ++ (pv_tab_4 ++ (pv_tab_5 ++ (pv_tab_6 ++ (pv_tab_7 ++ (pv_tab_8)))))))) := rfl
theorem pv_cds {tb : List pv_Y} {ps : List Nat} (h : tb.map (fun z => some (pv_code z)) = ps.map (fun i => lw_tbl[i]?)) : ∀ z ∈ tb, pv_code z ∈ pv_T := by
  intro z hz
  have h1 : some (pv_code z) ∈ tb.map (fun z => some (pv_code z)) := List.mem_map.mpr ⟨z, hz, rfl⟩
  rw [h] at h1
  obtain ⟨i, -, hi⟩ := List.mem_map.mp h1
  exact pv_mem i hi rfl
theorem pv_codes : ∀ z ∈ pv_tab, pv_code z ∈ pv_T := by
  rw [pv_tab_eq]
  exact List.forall_mem_append.mpr ⟨pv_cds pv_tab_c0, List.forall_mem_append.mpr ⟨pv_cds pv_tab_c1, List.forall_mem_append.mpr ⟨pv_cds pv_tab_c2, List.forall_mem_append.mpr ⟨pv_cds pv_tab_c3, List.forall_mem_append.mpr ⟨pv_cds pv_tab_c4, List.forall_mem_append.mpr ⟨pv_cds pv_tab_c5, List.forall_mem_append.mpr ⟨pv_cds pv_tab_c6, List.forall_mem_append.mpr ⟨pv_cds pv_tab_c7, pv_cds pv_tab_c8⟩⟩⟩⟩⟩⟩⟩⟩
theorem pv_T_good : ∀ w ∈ pv_T, (w.onTables && w.keeps) = true ∨ ∃ ty, w = .arrayClass ty := fun w hw => good_of_word (List.mem_filter.mp hw).2
theorem pv_gi {z : pv_Y} (hz : z ∈ pv_tab) : GoodIn pv_T (pv_code z :: pv_T) := fun w hw => by
  have h : w ∈ pv_T := (List.mem_cons.mp hw).elim (fun q => by rw [q]; exact pv_codes z hz) id
  exact ⟨h, pv_T_good w h⟩
theorem pv_vw {ci : Nat} {q : vw_C} (h : vwCl[ci]? = some q) : q.1 = pv_own (ci + 1) := by
  match ci, h with
  | 0, h => cases h; rfl
  | 1, h => cases h; rfl
  | 2, h => cases h; rfl
  | 3, h => cases h; rfl
  | 4, h => cases h; rfl
  | 5, h => cases h; rfl
  | 6, h => cases h; rfl
  | n + 7, h => simp at h
/-- a call's words -/
def pv_cw (own idx kk : Nat) (z : pv_Y) (args : Array Value) (s : State) : Prop := z ∈ pv_tab ∧ kk ≤ 3 ∧ (if kk = 3 then (Cond.methodLinkNest (pv_own own) idx (pv_nm z) "PoundCat").before args s = true else (Cond.methodLink (pv_own own) idx (pv_nm z)).before args s = true) ∧ (if kk = 1 then (Cond.static (pv_nm z)).before args s = true else (Cond.instanceMethod (pv_nm z)).before args s = true) ∧ (kk = 0 → (Cond.selects (pv_nm z).cls (pv_nm z) (pv_nm z)).before args s = true) ∧ (Cond.initialized (pv_nm z).cls).before args s = true ∧ (2 ≤ kk → (pv_nm z).name = "<init>" ∧ pv_rt z = none)
theorem pv_mOk_spec {e : Nat × Nat × Nat × Nat × Nat × Nat × Nat × Nat × Nat} {z : pv_Y} (h : pv_mOk e = true) (hz : pv_tab[e.2.2.2.1]? = some z) : lw_tbl[e.2.2.2.2.1]? = some (if e.2.2.1 = 3 then .methodLinkNest (pv_own e.1) e.2.1 (pv_nm z) "PoundCat" else .methodLink (pv_own e.1) e.2.1 (pv_nm z)) ∧ lw_tbl[e.2.2.2.2.2.1]? = some (if e.2.2.1 = 1 then .static (pv_nm z) else .instanceMethod (pv_nm z)) ∧ (e.2.2.1 = 0 → lw_tbl[e.2.2.2.2.2.2.1]? = some (.selects (pv_nm z).cls (pv_nm z) (pv_nm z))) ∧ lw_tbl[e.2.2.2.2.2.2.2.1]? = some (.initialized (pv_nm z).cls) ∧ (2 ≤ e.2.2.1 → (pv_nm z).name = "<init>" ∧ pv_rt z = none) := by
  unfold pv_mOk at h
  rw [hz] at h
  simp only [Bool.and_eq_true, Bool.or_eq_true, decide_eq_true_eq, bne_iff_ne, ne_eq, beq_iff_eq] at h
  obtain ⟨⟨⟨⟨⟨h1, h2⟩, h3⟩, h4⟩, -⟩, h5⟩ := h
  refine ⟨h1, h2, fun q => h3.elim (fun w => absurd q w) id, h4, fun q => h5.elim (fun w => ?_) id⟩
  rcases w with w | w <;> omega
theorem pv_mf_ok {own idx kk : Nat} {z : pv_Y} {D : va_G} {ca : Nat → ClassId} {args : Array Value} {s : State} (h : pv_mf own idx = some (kk, z)) (hts : ∀ w ∈ pv_T, w.before args s = true) (hK : pv_K D ca s) : pv_cw own idx kk z args s := by
  unfold pv_mf at h
  split at h
  · next e he =>
    cases hz : pv_tab[e.2.2.2.1]? with
    | none => rw [hz] at h; cases h
    | some z' =>
      rw [hz] at h
      cases h
      have hm := List.mem_of_find?_eq_some he
      have hp := List.find?_some he
      simp only [Bool.and_eq_true, beq_iff_eq] at hp
      obtain ⟨rfl, rfl⟩ := hp
      have hk := pv_LMk e hm
      obtain ⟨h1, h2, h3, h4, h5⟩ := pv_mOk_spec (pv_LM_ok e hm) hz
      have hk3 : ¬ e.2.2.1 = 3 := by omega
      rw [if_neg hk3] at h1
      refine ⟨List.mem_of_getElem? hz, by omega, ?_, ?_, fun q => hts _ (pv_mem _ (h3 q) rfl), hts _ (pv_mem _ h4 rfl), h5⟩
      · rw [if_neg hk3]; exact hts _ (pv_mem _ h1 rfl)
      · by_cases q : e.2.2.1 = 1
        · rw [if_pos q] at h2 ⊢; exact hts _ (pv_mem _ h2 rfl)
        · rw [if_neg q] at h2 ⊢; exact hts _ (pv_mem _ h2 rfl)
  · split at h
    · next e he =>
      cases hz : pv_tab[e.2.2.2.1]? with
      | none => rw [hz] at h; cases h
      | some z' =>
        rw [hz] at h
        cases h
        have hm := List.mem_of_find?_eq_some he
        have hp := List.find?_some he
        simp only [Bool.and_eq_true, beq_iff_eq] at hp
        obtain ⟨rfl, rfl⟩ := hp
        have hk := pv_LMNk e hm
        obtain ⟨h1, h2, h3, h4, h5⟩ := pv_mOk_spec (pv_LMN_ok e hm) hz
        have hk1 : ¬ e.2.2.1 = 1 := by omega
        rw [if_neg hk1] at h2
        refine ⟨List.mem_of_getElem? hz, by omega, ?_, ?_, fun q => hts _ (pv_mem _ (h3 q) rfl), hts _ (pv_mem _ h4 rfl), h5⟩
        · rw [if_pos hk]; exact (hK.2.2.1 e hm z hz).use rfl
        · rw [if_neg hk1]; exact hts _ (pv_mem _ h2 rfl)
    · cases h
section PV6
variable {p : Program} {l : Launch} {e : Env} {R : Room} {s : State} {m : MethodId} {args : Array Value} {below : List Frame} {meth : Method} {c : Code} {H : Heap} {locs : List Loc} {cells slots : Nat} {Q : State → Prop}
variable {pc : Nat} {ls : Array Slot} {b : Nat} {y : pv_Y} {D : va_G} {ca : Nat → ClassId} {A : pv_H} {H0 : Heap}
theorem pv_called {a : Array Value} {r : Option Value} {A' : pv_H} {st0 rest : List Value} {mc ms : Nat} (hr : va_Run p l e R s m args below meth c H locs cells slots mc ms (F0 m pc ls st0) rest (pv_Q b D ca r A' a) (pv_A b)) (hS : va_S (pv_A b) H0 H locs)
    (kk : ∀ (H1 : Heap) (locs1 : List Loc), pv_P b D ca A' H1 → va_S (pv_A b) H0 H1 locs1 → W p l e R s m args below meth c H1 locs1 (cells + mc) (slots + ms) Q (F0 m (pc + 3) ls ((r.map (pv_t b)).toList ++ rest))) : W p l e R s m args below meth c H locs cells slots Q (F0 m pc ls st0) := by
  intro T hT X
  obtain ⟨v, st₀, t, T', L, h0, X', hL, e1, e2, ⟨hv, hp, hz, hk⟩, st⟩ := hr T hT X
  cases hv
  rw [h0] at hz hk
  obtain ⟨t2, a1, b1⟩ := kk T'.heap (locs ++ L) (by rw [e1]; exact hp)
    ⟨Nat.le_trans hS.1 (by rw [e1]; exact hz), fun q h1 h2 => by rw [e1, hk q (Nat.lt_of_lt_of_le h1 hS.1) h2]; exact hS.2.1 q h1 h2, fun q hq => by
      rcases List.mem_append.mp hq with h | h
      · exact hS.2.2 q h
      · exact hL q h⟩ T' rfl X'
  exact ⟨t2, st t2 a1, b1⟩
/-- the run's word: what the engine has, the machine does -/
def pv_ok (f : Nat) : Prop := ∀ (l : Launch) (b : Nat) (D : va_G) (ca : Nat → ClassId) (y : pv_Y), y ∈ pv_tab → ∀ (pc : Nat) (loc : pv_L) (st : List Value) (A : pv_H) (cu su : Nat) (r : Option Value) (A' : pv_H), pv_run f y pc loc st A cu su = some (r, A') → cu ≤ pv_mc y → su ≤ pv_ms y →
  ∀ (p : Program) (e : Env) (s : State) (m : MethodId) (args : Array Value) (below : List Frame) (meth : Method) (c : Code) (H : Heap) (locs : List Loc) (ls : Array Slot), pv_cx y p s m args meth c D ca → pv_P b D ca A H → va_S (pv_A b) s.heap H locs → pv_lh b ls (pv_ml y) loc →
  W p l e (pv_room y) s m args below meth c H locs cu su (MQ below (pv_Q b D ca r A') args s (pv_mc y) (pv_ms y) (pv_A b)) (F0 m pc ls (st.map (pv_t b)))
theorem pv_blind (b : Nat) (D : va_G) (ca : Nat → ClassId) (As : List Value) (A : pv_H) : FrameBlind (pv_Pc b D ca As A) := fun a U g mk q => ⟨q.1, q.2.1, pv_K.blind (U := U) (U' := U.calling g mk a) rfl q.2.2⟩
theorem pv_met {f : Nat} (IH : pv_ok f) (l : Launch) (b : Nat) (D : va_G) (ca : Nat → ClassId) {y : pv_Y} (hy : y ∈ pv_tab) {As : List Value} {A A' : pv_H} {r : Option Value} (hlen : (pv_sl As).length ≤ pv_ml y) (h : pv_run f y 0 (pv_ent As (pv_ml y)) [] A 0 0 = some (r, A')) :
    Met l (pv_nm y) (pv_code y :: pv_T) (pv_room y) (pv_Pc b D ca As A) (pv_Q b D ca r A') (pv_mc y) (pv_ms y) (pv_A b) := by
  have ht := pv_tab_ok y hy
  unfold pv_tOk at ht
  simp only [Bool.and_eq_true, decide_eq_true_eq] at ht
  obtain ⟨⟨⟨-, -⟩, hpl⟩, hownn⟩ := ht
  refine Met.ofW (cc := pv_cd y) (maxL := pv_ml y) (ret := pv_rt y) hpl rfl ?_
  intro p e s m args below meth c s₁ B hml hv
  obtain ⟨rfl, hP, hK⟩ := hv
  have hts0 := atoms_spec (ws := pv_code y :: pv_T) B.pre
  have hown : s.vm.findClass (pv_own (pv_cn y)) = some m.cls := by rw [hownn]; exact findClass_of_methodNamed B.named
  have hin : meth.name = (pv_nm y).name := (name_of_methodNamed B.named B.method).1
  rw [lg_entry_eq]
  exact IH l b D ca y hy 0 _ [] A 0 0 r A' h (Nat.zero_le _) (Nat.zero_le _) p e s m _ below meth c s.heap [] _ ⟨B.exec, B.bytes, hml, B.returns, B.notSynchronized, hin, hown, fun w hw => hts0 w (List.mem_cons_of_mem _ hw), hK⟩ hP va_S.rf (pv_entry b As hlen)
theorem pv_step_ok (X : pv_cx y p s m args meth c D ca) (hP : pv_P b D ca A H) (hS : va_S (pv_A b) H0 H locs) {i : Instr} {n cu su cu' su' pc' : Nat} {loc loc' : pv_L} {st st' : List Value} {A' : pv_H} (hl : pv_lh b ls (pv_ml y) loc) (hd : decode (pv_cd y) pc = .ok (i, n)) (h : pv_stp y i n pc loc st A cu su = some (pc', loc', st', A', cu', su')) (hcu : cu ≤ pv_mc y) (hsu : su ≤ pv_ms y)
    (kk : ∀ (H1 : Heap) (locs1 : List Loc) (ls1 : Array Slot), cu' ≤ pv_mc y → su' ≤ pv_ms y → pv_P b D ca A' H1 → va_S (pv_A b) H0 H1 locs1 → pv_lh b ls1 (pv_ml y) loc' → W p l e (pv_room y) s m args below meth c H1 locs1 cu' su' Q (F0 m pc' ls1 (st'.map (pv_t b)))) : W p l e (pv_room y) s m args below meth c H locs cu su Q (F0 m pc ls (st.map (pv_t b))) := by
  have hx := X.1
  have hb := X.2.1
  unfold pv_stp at h
  split at h
  · next h1 => cases h; exact pv_s_ok hx hb hd h1 (kk H locs ls hcu hsu hP hS hl)
  · split at h
    · next h1 => cases h; exact pv_l_ok hx hb hd h1 hl (fun ls1 hl1 => kk H locs ls1 hcu hsu hP hS hl1)
    · split at h
      · next h1 =>
        split at h
        · next h2 => cases h; exact pv_b_ok hx hb hd h1 h2 (kk H locs ls hcu hsu hP hS hl)
        · cases h
      · split at h
        · next h1 => cases h; exact pv_h1_ok X hP hS hd h1 (fun H1 locs1 g1 g2 => kk H1 locs1 ls hcu hsu g1 g2 hl)
        · split at h
          · next h1 => cases h; exact pv_h2_ok X hP hS hl.1 hd h1 (fun H1 locs1 g1 g2 => kk H1 locs1 ls (pv_h2_cu h1 hcu hsu).1 (pv_h2_cu h1 hcu hsu).2 g1 g2 hl)
          · split at h
            · next h1 => cases h; exact pv_h3_ok X hP hS hd h1 (fun H1 locs1 g1 g2 => kk H1 locs1 ls (pv_h3_cu h1).1 (pv_h3_cu h1).2 g1 g2 hl)
            · split at h
              · next h1 => cases h; exact pv_mx_ok X hl.1 hd h1 hcu hsu (kk H locs ls hcu hsu hP hS hl)
              · cases h
theorem pv_stk (st : List Value) (n : Nat) : st.map (pv_t b) = (((st.take n).reverse).map (pv_t b)).reverse ++ (st.drop n).map (pv_t b) := by
  rw [← List.map_reverse, List.reverse_reverse, ← List.map_append, List.take_append_drop]
theorem pv_rc_ok {z : pv_Y} {As : List Value} (hz : z ∈ pv_tab) (hP : pv_P b D ca A H) (hK : va_K D vwCl (pv_tys ca) s) (h : pv_rc z A As = true) : ∃ a As', As = .ref a :: As' ∧ ∃ cellB : Cell, H[b + a]? = some cellB ∧ cellB.vm.isStatics = false ∧ s.vm.findClass (pv_nm z).cls = some cellB.cls := by
  unfold pv_rc at h
  split at h
  · next a As' =>
    simp only [Bool.and_eq_true, decide_eq_true_eq] at h
    obtain ⟨ha, h⟩ := h
    split at h
    · next ci fs hA =>
      refine ⟨a, As', rfl, ?_⟩
      have he : (pv_w b ca A)[a]? = some (b + a, .inr (ci, fs.map (pv_t b))) := by rw [pv_w_get ha, hA]; rfl
      obtain ⟨r, h1, -⟩ := hP.2 a _ he
      have h2 := va_recv hK hP.2 (q0 := a) h1 he
      have ht := pv_tab_ok z hz
      unfold pv_tOk at ht
      simp only [Bool.and_eq_true, decide_eq_true_eq] at ht
      have e1 : r.1 = (pv_nm z).cls := by
        rw [pv_vw h1, ← ht.2]
        exact congrArg pv_own (by simpa using h)
      rw [← e1]
      exact h2
    · cases h
  · cases h
theorem pv_ret_ok (X : pv_cx y p s m args meth c D ca) (hP : pv_P b D ca A H) (hS : va_S (pv_A b) s.heap H locs) {i : Instr} {n cu su : Nat} {st : List Value} {r : Option Value} (hd : decode (pv_cd y) pc = .ok (i, n)) (h : pv_r y i n st = some r) (hcu : cu ≤ pv_mc y) (hsu : su ≤ pv_ms y) :
    W p l e (pv_room y) s m args below meth c H locs cu su (MQ below (pv_Q b D ca r A) args s (pv_mc y) (pv_ms y) (pv_A b)) (F0 m pc ls (st.map (pv_t b))) := by
  obtain ⟨hx, hb, hml, hr, hlk, hnm, hown, hts, hK⟩ := X
  refine W.widen hcu hsu ?_
  unfold pv_r at h
  split at h
  · split at h
    · next hrt => cases h; exact W.iret hx hb (hr.trans hrt) (fun t ht hW => ⟨rfl, by rw [ht]; exact hP, hS.F ht⟩) hS.2.2 hd
    · next hrt =>
      split at h
      · next hn => cases h; exact W.zret hx hb (hr.trans hrt) (by rw [pv_nb, hn]) (fun t ht hW => ⟨rfl, by rw [ht]; exact hP, hS.F ht⟩) hS.2.2 hd
      · cases h
    · cases h
  · split at h
    · next hrt => cases h; exact W.lret hx hb (hr.trans hrt) (fun t ht hW => ⟨rfl, by rw [ht]; exact hP, hS.F ht⟩) hS.2.2 hd
    · cases h
  · split at h
    · next hrt => cases h; exact W.vret hx hb (hr.trans hrt) (fun t ht hW => ⟨rfl, by rw [ht]; exact hP, hS.F ht⟩) hS.2.2 hd
    · cases h
  · cases h
theorem pv_hd_ok {As : List Value} (h : pv_hd As = true) : ∃ a As', As = .ref a :: As' := by
  unfold pv_hd at h
  split at h
  · exact ⟨_, _, rfl⟩
  · cases h
set_option maxHeartbeats 2000000 in
theorem pv_inv_ok {f : Nat} (IH : pv_ok f) (X : pv_cx y p s m args meth c D ca) (hP : pv_P b D ca A H) (hS : va_S (pv_A b) H0 H locs) {i : Instr} {n cu su : Nat} {loc : pv_L} {st As rest : List Value} {z : pv_Y} {r : Option Value} {A' : pv_H} (hl : pv_lh b ls (pv_ml y) loc) (hd : decode (pv_cd y) pc = .ok (i, n)) (h : pv_inv y i n st A cu su = some (z, As, rest)) (hrun : pv_run f z 0 (pv_ent As (pv_ml z)) [] A 0 0 = some (r, A'))
    (kk : ∀ (H1 : Heap) (locs1 : List Loc), cu + pv_mc z ≤ pv_mc y → su + pv_ms z ≤ pv_ms y → pv_P b D ca A' H1 → va_S (pv_A b) H0 H1 locs1 → W p l e (pv_room y) s m args below meth c H1 locs1 (cu + pv_mc z) (su + pv_ms z) Q (F0 m (pc + 3) ls ((r.toList ++ rest).map (pv_t b)))) : W p l e (pv_room y) s m args below meth c H locs cu su Q (F0 m pc ls (st.map (pv_t b))) := by
  have X0 := X
  obtain ⟨hx, hb, hml, hr, hlk, hnm, hown, hts, hK⟩ := X0
  unfold pv_inv at h
  split at h
  · next k x hiv =>
    split at h
    · next kind z' hmf =>
      split at h
      · next hck =>
        have hcw := pv_mf_ok hmf hts hK
        obtain ⟨hz, hk3, hlink, hins, hsel, hini, hni⟩ := hcw
        injection h with h
        injection h with h1 h2
        injection h2 with h2 h3
        subst h1
        have hst := pv_stk (b := b) st (pv_na kind z')
        rw [h2, h3] at hst hck
        unfold pv_ck pv_cr at hck
        simp only [Bool.and_eq_true, Bool.or_eq_true, decide_eq_true_eq, beq_iff_eq, bne_iff_ne, ne_eq] at hck
        obtain ⟨⟨⟨⟨hk, hlen⟩, hrc⟩, hhd⟩, ⟨⟨⟨⟨⟨hsl, hsum⟩, hfr⟩, hlc⟩, hmc⟩, hms⟩⟩ := hck
        have ht := pv_tab_ok z' hz
        unfold pv_tOk at ht
        simp only [Bool.and_eq_true, decide_eq_true_eq] at ht
        obtain ⟨⟨⟨hd1, hd2⟩, hpl⟩, hownn⟩ := ht
        have hM : Met l (pv_nm z') (pv_code z' :: pv_T) (pv_room z') (pv_Pc b D ca As A) (pv_Q b D ca r A') (pv_mc z') (pv_ms z') (pv_A b) := pv_met IH l b D ca hz hsl hrun
        have hU : ∀ U : State, U.heap = H → s.WarmedH U.vm → pv_Pc b D ca As A (As.map (pv_t b)).toArray U := fun U hh hW => ⟨rfl, by rw [hh]; exact hP, hK.warm hW⟩
        have hroom : 2 * (F0 m pc ls (st.map (pv_t b))).monitorRoom + ((rest.map (pv_t b)).map fun v => v.category).sum ≤ 8 := by
          rw [pv_sum_t]
          show 2 * 0 + _ ≤ 8
          omega
        have hkk : ∀ (H1 : Heap) (locs1 : List Loc), pv_P b D ca A' H1 → va_S (pv_A b) H0 H1 locs1 → W p l e (pv_room y) s m args below meth c H1 locs1 (cu + pv_mc z') (su + pv_ms z') Q (F0 m (pc + 3) ls ((r.map (pv_t b)).toList ++ rest.map (pv_t b))) := fun H1 locs1 g1 g2 => by
          have h9 := kk H1 locs1 hmc hms g1 g2
          rw [List.map_append] at h9
          cases r <;> exact h9
        unfold pv_iv at hiv
        have hcb : (Cond.methodLink (pv_own (pv_cn y)) x (pv_nm z')).before args s = true → CallB (pv_room y) s args (pv_own (pv_cn y)) x (pv_nm z') (pv_cd z') (pv_ml z') (pv_rt z') (pv_code z' :: pv_T) (pv_room z') (pv_mc z') (pv_ms z') (pv_np z') := fun hlk9 => callB_of (pv_np z') hts (pv_gi hz) rfl rfl rfl hini hlk9 ⟨hd2.1, hd2.2, hd1⟩ ⟨hfr, hlc⟩
        split at hiv
        · cases hiv
          have hk0 : kind = 0 := by rcases hk with q | q <;> omega
          subst hk0
          obtain ⟨a, As', rfl, hcell⟩ := pv_rc_ok hz hP hK.1 (hrc.elim (fun q => absurd rfl q) id)
          refine pv_called (va_runV (As := As'.map (pv_t b)) (b := b + a) (rest := rest.map (pv_t b)) (C := (pv_nm z').cls) ⟨hx, hb, hml, hown, hts⟩ hM ⟨hcb hlink, hins, hsel rfl⟩ ⟨pv_blind b D ca _ A, hcell, hU⟩ rfl ?_ hl.1 ?_ hroom hd ⟨hmc, hms⟩) hS hkk
          · rw [List.length_map]
            have : As'.length + 1 = pv_np z' + 1 := hlen
            omega
          · show st.map (pv_t b) = _
            rw [hst]
            simp [pv_t]
        · cases hiv
          have hk1 : kind = 1 := by rcases hk with q | q <;> omega
          subst hk1
          refine pv_called (va_runS (As := As.map (pv_t b)) (rest := rest.map (pv_t b)) ⟨hx, hb, hml, hown, hts⟩ hM ⟨hcb hlink, hins⟩ ⟨pv_blind b D ca _ A, hU⟩ rfl ?_ hl.1 ?_ hroom hd ⟨hmc, hms⟩) hS hkk
          · rw [List.length_map]
            exact hlen
          · show st.map (pv_t b) = _
            rw [hst]
        · cases hiv
          have hk1 : ¬ kind = 1 := by rcases hk with q | q <;> omega
          obtain ⟨a, As', rfl⟩ := pv_hd_ok (hhd.elim (fun q => absurd q hk1) id)
          have hlen' : As'.length = pv_np z' := by
            have h9 : As'.length + 1 = pv_na kind z' := hlen
            unfold pv_na at h9
            rw [if_neg hk1] at h9
            omega
          rw [if_neg hk1] at hins
          obtain ⟨hni1, hni2⟩ := hni (by rcases hk with q | q <;> omega)
          have hstk : (F0 m pc ls (st.map (pv_t b))).stack = (As'.map (pv_t b)).reverse ++ .ref (b + a) :: rest.map (pv_t b) := by
            show st.map (pv_t b) = _
            rw [hst]
            simp [pv_t]
          by_cases hk3' : kind = 3
          · rw [if_pos hk3'] at hlink
            have hcn9 := va_cnB (R := pv_room y) (rm := pv_room z') (pv_np z') hts (pv_gi hz) rfl rfl rfl (va_Nw.of rfl hlink) hini ⟨hd2.1, hd2.2, hd1⟩ ⟨hfr, hlc⟩
            rw [hni2] at hcn9
            exact pv_called (va_runIN (As := As'.map (pv_t b)) (b := b + a) (rest := rest.map (pv_t b)) ⟨hx, hb, hml, hown, hts⟩ hM ⟨hcn9, hni1, hins⟩ ⟨pv_blind b D ca _ A, hU⟩ rfl (by rw [List.length_map]; exact hlen') hl.1 hstk hroom hd ⟨hmc, hms⟩) hS hkk
          · rw [if_neg hk3'] at hlink
            have hcb9 := hcb hlink
            rw [hni2] at hcb9
            exact pv_called (va_runI (As := As'.map (pv_t b)) (b := b + a) (rest := rest.map (pv_t b)) ⟨hx, hb, hml, hown, hts⟩ hM ⟨hcb9, hni1, hins⟩ ⟨pv_blind b D ca _ A, hU⟩ rfl (by rw [List.length_map]; exact hlen') hl.1 hstk hroom hd ⟨hmc, hms⟩) hS hkk
        · cases hiv
      · cases h
    · cases h
  · cases h
theorem pv_all : ∀ f, pv_ok f
  | 0 => fun l b D ca y hy pc loc st A cu su r A' h => by cases h
  | f + 1 => by
    have IH := pv_all f
    intro l b D ca y hy pc loc st A cu su r A' h hcu hsu p e s m args below meth c H locs ls X hP hS hl
    rw [pv_run] at h
    split at h
    · next i n hd =>
      split at h
      · next r' hr' => cases h; exact pv_ret_ok X hP hS hd hr' hcu hsu
      · split at h
        · next z As rest hi =>
          split at h
          · next r1 A1 hr1 => exact pv_inv_ok IH X hP hS hl hd hi hr1 (fun H1 locs1 g1 g2 g3 g4 => IH l b D ca y hy (pc + 3) loc _ A1 _ _ r A' h g1 g2 p e s m args below meth c H1 locs1 ls X g3 g4 hl)
          · cases h
        · split at h
          · next pc' loc' st' A1 cu' su' hst => exact pv_step_ok X hP hS hl hd hst hcu hsu (fun H1 locs1 ls1 g1 g2 g3 g4 g5 => IH l b D ca y hy pc' loc' st' A1 cu' su' r A' h g1 g2 p e s m args below meth c H1 locs1 ls1 X g3 g4 g5)
          · cases h
    · cases h
end PV6
end
section
/-! ===== the engine's answer, whatever the fuel ===== -/
theorem pv_mono : ∀ (f : Nat) (y : pv_Y) (pc : Nat) (loc : pv_L) (st : List Value) (A : pv_H) (cu su : Nat) (x : Option Value × pv_H), pv_run f y pc loc st A cu su = some x → pv_run (f + 1) y pc loc st A cu su = some x
  | 0, y, pc, loc, st, A, cu, su, x, h => by cases h
  | f + 1, y, pc, loc, st, A, cu, su, x, h => by
    have IH := pv_mono f
    rw [pv_run] at h ⊢
    split at h
    · next i n hd =>
      split at h
      · exact h
      · split at h
        · next z As rest hi =>
          split at h
          · next r A' hr =>
            rw [IH _ _ _ _ _ _ _ _ hr]
            exact IH _ _ _ _ _ _ _ _ h
          · cases h
        · split at h
          · exact IH _ _ _ _ _ _ _ _ h
          · cases h
    · cases h
theorem pv_mono' {f g : Nat} (hfg : f ≤ g) {y : pv_Y} {pc : Nat} {loc : pv_L} {st : List Value} {A : pv_H} {cu su : Nat} {x : Option Value × pv_H} (h : pv_run f y pc loc st A cu su = some x) : pv_run g y pc loc st A cu su = some x := by
  induction hfg with
  | refl => exact h
  | step _ ih => exact pv_mono _ _ _ _ _ _ _ _ _ ih

noncomputable def pv_R (y : pv_Y) (pc : Nat) (loc : pv_L) (st : List Value) (A : pv_H) : Option (Option Value × pv_H) := @dite _ (∃ x f, pv_run f y pc loc st A 0 0 = some x) (Classical.propDecidable _) (fun h => some (Classical.choose h)) (fun _ => none)
theorem pv_R_iff {y : pv_Y} {pc : Nat} {loc : pv_L} {st : List Value} {A : pv_H} {x : Option Value × pv_H} : pv_R y pc loc st A = some x ↔ ∃ f, pv_run f y pc loc st A 0 0 = some x := by
  unfold pv_R
  constructor
  · intro h
    split at h
    · next hh => cases h; exact Classical.choose_spec hh
    · cases h
  · rintro ⟨f, hf⟩
    have hh : ∃ x f, pv_run f y pc loc st A 0 0 = some x := ⟨x, f, hf⟩
    rw [dif_pos hh]
    obtain ⟨g, hg⟩ := Classical.choose_spec hh
    have h1 := pv_mono' (Nat.le_max_left f g) hf
    have h2 := pv_mono' (Nat.le_max_right f g) hg
    exact h2.symm.trans h1
theorem pv_R_ext {y y' : pv_Y} {pc pc' : Nat} {loc loc' : pv_L} {st st' : List Value} {A A' : pv_H} (h : ∀ x, (∃ f, pv_run f y pc loc st A 0 0 = some x) ↔ ∃ f, pv_run f y' pc' loc' st' A' 0 0 = some x) : pv_R y pc loc st A = pv_R y' pc' loc' st' A' := by
  cases h1 : pv_R y pc loc st A with
  | some x => exact (pv_R_iff.mpr ((h x).mp (pv_R_iff.mp h1))).symm
  | none =>
    cases h2 : pv_R y' pc' loc' st' A' with
    | none => rfl
    | some x => rw [pv_R_iff.mpr ((h x).mpr (pv_R_iff.mp h2))] at h1; cases h1
section PV7
variable {y : pv_Y} {pc : Nat} {loc : pv_L} {st : List Value} {A : pv_H} {i : Instr} {n : Nat}
theorem pv_Rret {r : Option Value} (hd : decode (pv_cd y) pc = .ok (i, n)) (hr : pv_r y i n st = some r) : pv_R y pc loc st A = some (r, A) := by
  refine pv_R_iff.mpr ⟨1, ?_⟩
  rw [pv_run, hd]
  dsimp only
  rw [hr]
theorem pv_Rstp {pc' : Nat} {loc' : pv_L} {st' : List Value} {A' : pv_H} (hd : decode (pv_cd y) pc = .ok (i, n)) (hr : pv_r y i n st = none) (hi : pv_inv y i n st A 0 0 = none) (h : pv_stp y i n pc loc st A 0 0 = some (pc', loc', st', A', 0, 0)) : pv_R y pc loc st A = pv_R y pc' loc' st' A' := by
  refine pv_R_ext fun x => ⟨fun ⟨f, hf⟩ => ?_, fun ⟨f, hf⟩ => ⟨f + 1, ?_⟩⟩
  · match f, hf with
    | 0, hf => cases hf
    | f + 1, hf =>
      rw [pv_run, hd] at hf
      dsimp only at hf
      rw [hr, hi] at hf
      dsimp only at hf
      rw [h] at hf
      exact ⟨f, hf⟩
  · rw [pv_run, hd]
    dsimp only
    rw [hr, hi]
    dsimp only
    rw [h]
    exact hf
/-- what comes behind a call -/
noncomputable def pv_cc (o : Option (Option Value × pv_H)) (y : pv_Y) (pc : Nat) (loc : pv_L) (rest : List Value) : Option (Option Value × pv_H) := match o with
  | some (r, A') => pv_R y pc loc (r.toList ++ rest) A'
  | none => none
theorem pv_Rinv {z : pv_Y} {As rest : List Value} (hd : decode (pv_cd y) pc = .ok (i, n)) (hr : pv_r y i n st = none) (hi : pv_inv y i n st A 0 0 = some (z, As, rest)) (hz : pv_mc z = 0) (hs : pv_ms z = 0) : pv_R y pc loc st A = pv_cc (pv_R z 0 (pv_ent As (pv_ml z)) [] A) y (pc + 3) loc rest := by
  cases h1 : pv_R z 0 (pv_ent As (pv_ml z)) [] A with
  | none =>
    show _ = none
    cases h2 : pv_R y pc loc st A with
    | none => rfl
    | some x =>
      obtain ⟨f, hf⟩ := pv_R_iff.mp h2
      match f, hf with
      | 0, hf => cases hf
      | f + 1, hf =>
        rw [pv_run, hd] at hf
        dsimp only at hf
        rw [hr, hi] at hf
        dsimp only at hf
        split at hf
        · next r A' h3 => rw [pv_R_iff.mpr ⟨f, h3⟩] at h1; cases h1
        · cases hf
  | some x =>
    obtain ⟨r, A'⟩ := x
    show _ = pv_R y (pc + 3) loc (r.toList ++ rest) A'
    obtain ⟨g, hg⟩ := pv_R_iff.mp h1
    refine pv_R_ext fun x => ⟨fun ⟨f, hf⟩ => ?_, fun ⟨f, hf⟩ => ⟨max f g + 1, ?_⟩⟩
    · match f, hf with
      | 0, hf => cases hf
      | f + 1, hf =>
        rw [pv_run, hd] at hf
        dsimp only at hf
        rw [hr, hi] at hf
        dsimp only at hf
        split at hf
        · next r1 A1 h3 =>
          have e1 := pv_R_iff.mpr ⟨f, h3⟩
          rw [h1] at e1
          cases e1
          rw [hz, hs] at hf
          exact ⟨f, hf⟩
        · cases hf
    · rw [pv_run, hd]
      dsimp only
      rw [hr, hi]
      dsimp only
      rw [pv_mono' (Nat.le_max_right f g) hg]
      dsimp only
      rw [hz, hs]
      exact pv_mono' (Nat.le_max_left f g) hf
end PV7
end
section
/-! ===== the store: what the cells hold, by number ===== -/
abbrev pv_S : Type := (Nat → Nat → Int32) × (Nat → Nat → Int64)
def pv_ce (k : Nat) (s : Nat → Int32) (t : Nat → Int64) : pv_C := match k with
  | 0 => .inr (5, [.ref 1, .ref 10, .ref 17, .ref 21, .ref 32, .ref 35])
  | 1 => .inr (2, [.int 40, .ref 2, .ref 3])
  | 2 => .inl (0, 6, .inl s)
  | 3 => .inl (2, 6, .inr 4)
  | 4 => .inl (0, 40, .inl s)
  | 5 => .inl (0, 40, .inl s)
  | 6 => .inl (0, 40, .inl s)
  | 7 => .inl (0, 40, .inl s)
  | 8 => .inl (0, 40, .inl s)
  | 9 => .inl (0, 40, .inl s)
  | 10 => .inr (2, [.int 60, .ref 11, .ref 12])
  | 11 => .inl (0, 4, .inl s)
  | 12 => .inl (2, 4, .inr 13)
  | 13 => .inl (0, 60, .inl s)
  | 14 => .inl (0, 60, .inl s)
  | 15 => .inl (0, 60, .inl s)
  | 16 => .inl (0, 60, .inl s)
  | 17 => .inr (1, [.ref 18, .ref 19, .ref 20, .int (s 3), .int (s 4), .int (s 5)])
  | 18 => .inl (0, 6, .inl s)
  | 19 => .inl (0, 6, .inl s)
  | 20 => .inl (0, 6, .inl s)
  | 21 => .inr (4, [.ref 22, .ref 23, .ref 24, .ref 25, .ref 26, .ref 27, .ref 28, .int (s 7), .int (s 8), .int (s 9), .int (s 10), .int (s 11), .int (s 12), .int (s 13)])
  | 22 => .inl (0, 6, .inl s)
  | 23 => .inl (0, 6, .inl s)
  | 24 => .inl (0, 6, .inl s)
  | 25 => .inl (0, 6, .inl s)
  | 26 => .inl (0, 40, .inl s)
  | 27 => .inl (0, 3, .inl s)
  | 28 => .inl (2, 3, .inr 29)
  | 29 => .inl (0, 40, .inl s)
  | 30 => .inl (0, 40, .inl s)
  | 31 => .inl (0, 40, .inl s)
  | 32 => .inr (0, [.ref 33, .ref 34, .int (s 2)])
  | 33 => .inl (0, 61, .inl s)
  | 34 => .inl (0, 6, .inl s)
  | 35 => .inr (3, [.ref 36, .int (s 1), .long (t 2), .long (t 3), .int (s 4)])
  | 36 => .inl (0, 6, .inl s)
  | 37 => .inr (6, [.ref 38, .ref 39, .ref 40, .ref 41, .int (s 4), .int (s 5), .ref 42, .ref 43, .ref 44, .int (s 9), .ref 45, .ref 46, .ref 47, .int (s 13), .long (t 14), .long (t 15), .int (s 16), .ref 48, .int (s 18), .int (s 19), .int (s 20), .ref 49, .int (s 22), .int (s 23), .ref 50, .ref 51, .ref 52, .ref 53, .ref 54])
  | 38 => .inl (0, 6, .inl s)
  | 39 => .inl (0, 240, .inl s)
  | 40 => .inl (0, 4, .inl s)
  | 41 => .inl (0, 240, .inl s)
  | 42 => .inl (0, 6, .inl s)
  | 43 => .inl (0, 6, .inl s)
  | 44 => .inl (0, 10, .inl s)
  | 45 => .inl (0, 400, .inl s)
  | 46 => .inl (0, 1233, .inl s)
  | 47 => .inl (1, 3, .inl s)
  | 48 => .inl (0, 6, .inl s)
  | 49 => .inl (0, 18, .inl s)
  | 50 => .inl (0, 3, .inl s)
  | 51 => .inl (0, 3, .inl s)
  | 52 => .inl (0, 30, .inl s)
  | 53 => .inl (0, 5, .inl s)
  | 54 => .inl (0, 5, .inl s)
  | _ => .inr (9, [])
def pv_em (S : pv_S) : pv_H := (55, fun k => pv_ce k (S.1 k) (S.2 k))
def pv_si (S : pv_S) (k j : Nat) (v : Int32) : pv_S := (va_up S.1 k (upd (S.1 k) j v), S.2)
def pv_sa (S : pv_S) (k : Nat) (f : Nat → Int32) : pv_S := (va_up S.1 k f, S.2)
def pv_sj (S : pv_S) (k j : Nat) (v : Int64) : pv_S := (S.1, va_up S.2 k (va_up (S.2 k) j v))
theorem pv_ce_0 (s : Nat → Int32) (t : Nat → Int64) : pv_ce 0 s t = .inr (5, [.ref 1, .ref 10, .ref 17, .ref 21, .ref 32, .ref 35]) := rfl
theorem pv_ce_1 (s : Nat → Int32) (t : Nat → Int64) : pv_ce 1 s t = .inr (2, [.int 40, .ref 2, .ref 3]) := rfl
theorem pv_ce_2 (s : Nat → Int32) (t : Nat → Int64) : pv_ce 2 s t = .inl (0, 6, .inl s) := rfl
theorem pv_ce_3 (s : Nat → Int32) (t : Nat → Int64) : pv_ce 3 s t = .inl (2, 6, .inr 4) := rfl
theorem pv_ce_4 (s : Nat → Int32) (t : Nat → Int64) : pv_ce 4 s t = .inl (0, 40, .inl s) := rfl
theorem pv_ce_5 (s : Nat → Int32) (t : Nat → Int64) : pv_ce 5 s t = .inl (0, 40, .inl s) := rfl
theorem pv_ce_6 (s : Nat → Int32) (t : Nat → Int64) : pv_ce 6 s t = .inl (0, 40, .inl s) := rfl
theorem pv_ce_7 (s : Nat → Int32) (t : Nat → Int64) : pv_ce 7 s t = .inl (0, 40, .inl s) := rfl
theorem pv_ce_8 (s : Nat → Int32) (t : Nat → Int64) : pv_ce 8 s t = .inl (0, 40, .inl s) := rfl
theorem pv_ce_9 (s : Nat → Int32) (t : Nat → Int64) : pv_ce 9 s t = .inl (0, 40, .inl s) := rfl
theorem pv_ce_10 (s : Nat → Int32) (t : Nat → Int64) : pv_ce 10 s t = .inr (2, [.int 60, .ref 11, .ref 12]) := rfl
theorem pv_ce_11 (s : Nat → Int32) (t : Nat → Int64) : pv_ce 11 s t = .inl (0, 4, .inl s) := rfl
theorem pv_ce_12 (s : Nat → Int32) (t : Nat → Int64) : pv_ce 12 s t = .inl (2, 4, .inr 13) := rfl
theorem pv_ce_13 (s : Nat → Int32) (t : Nat → Int64) : pv_ce 13 s t = .inl (0, 60, .inl s) := rfl
theorem pv_ce_14 (s : Nat → Int32) (t : Nat → Int64) : pv_ce 14 s t = .inl (0, 60, .inl s) := rfl
theorem pv_ce_15 (s : Nat → Int32) (t : Nat → Int64) : pv_ce 15 s t = .inl (0, 60, .inl s) := rfl
theorem pv_ce_16 (s : Nat → Int32) (t : Nat → Int64) : pv_ce 16 s t = .inl (0, 60, .inl s) := rfl
theorem pv_ce_17 (s : Nat → Int32) (t : Nat → Int64) : pv_ce 17 s t = .inr (1, [.ref 18, .ref 19, .ref 20, .int (s 3), .int (s 4), .int (s 5)]) := rfl
theorem pv_ce_18 (s : Nat → Int32) (t : Nat → Int64) : pv_ce 18 s t = .inl (0, 6, .inl s) := rfl
theorem pv_ce_19 (s : Nat → Int32) (t : Nat → Int64) : pv_ce 19 s t = .inl (0, 6, .inl s) := rfl
theorem pv_ce_20 (s : Nat → Int32) (t : Nat → Int64) : pv_ce 20 s t = .inl (0, 6, .inl s) := rfl
theorem pv_ce_21 (s : Nat → Int32) (t : Nat → Int64) : pv_ce 21 s t = .inr (4, [.ref 22, .ref 23, .ref 24, .ref 25, .ref 26, .ref 27, .ref 28, .int (s 7), .int (s 8), .int (s 9), .int (s 10), .int (s 11), .int (s 12), .int (s 13)]) := rfl
theorem pv_ce_22 (s : Nat → Int32) (t : Nat → Int64) : pv_ce 22 s t = .inl (0, 6, .inl s) := rfl
theorem pv_ce_23 (s : Nat → Int32) (t : Nat → Int64) : pv_ce 23 s t = .inl (0, 6, .inl s) := rfl
theorem pv_ce_24 (s : Nat → Int32) (t : Nat → Int64) : pv_ce 24 s t = .inl (0, 6, .inl s) := rfl
theorem pv_ce_25 (s : Nat → Int32) (t : Nat → Int64) : pv_ce 25 s t = .inl (0, 6, .inl s) := rfl
theorem pv_ce_26 (s : Nat → Int32) (t : Nat → Int64) : pv_ce 26 s t = .inl (0, 40, .inl s) := rfl
theorem pv_ce_27 (s : Nat → Int32) (t : Nat → Int64) : pv_ce 27 s t = .inl (0, 3, .inl s) := rfl
theorem pv_ce_28 (s : Nat → Int32) (t : Nat → Int64) : pv_ce 28 s t = .inl (2, 3, .inr 29) := rfl
theorem pv_ce_29 (s : Nat → Int32) (t : Nat → Int64) : pv_ce 29 s t = .inl (0, 40, .inl s) := rfl
theorem pv_ce_30 (s : Nat → Int32) (t : Nat → Int64) : pv_ce 30 s t = .inl (0, 40, .inl s) := rfl
theorem pv_ce_31 (s : Nat → Int32) (t : Nat → Int64) : pv_ce 31 s t = .inl (0, 40, .inl s) := rfl
theorem pv_ce_32 (s : Nat → Int32) (t : Nat → Int64) : pv_ce 32 s t = .inr (0, [.ref 33, .ref 34, .int (s 2)]) := rfl
theorem pv_ce_33 (s : Nat → Int32) (t : Nat → Int64) : pv_ce 33 s t = .inl (0, 61, .inl s) := rfl
theorem pv_ce_34 (s : Nat → Int32) (t : Nat → Int64) : pv_ce 34 s t = .inl (0, 6, .inl s) := rfl
theorem pv_ce_35 (s : Nat → Int32) (t : Nat → Int64) : pv_ce 35 s t = .inr (3, [.ref 36, .int (s 1), .long (t 2), .long (t 3), .int (s 4)]) := rfl
theorem pv_ce_36 (s : Nat → Int32) (t : Nat → Int64) : pv_ce 36 s t = .inl (0, 6, .inl s) := rfl
theorem pv_ce_37 (s : Nat → Int32) (t : Nat → Int64) : pv_ce 37 s t = .inr (6, [.ref 38, .ref 39, .ref 40, .ref 41, .int (s 4), .int (s 5), .ref 42, .ref 43, .ref 44, .int (s 9), .ref 45, .ref 46, .ref 47, .int (s 13), .long (t 14), .long (t 15), .int (s 16), .ref 48, .int (s 18), .int (s 19), .int (s 20), .ref 49, .int (s 22), .int (s 23), .ref 50, .ref 51, .ref 52, .ref 53, .ref 54]) := rfl
theorem pv_ce_38 (s : Nat → Int32) (t : Nat → Int64) : pv_ce 38 s t = .inl (0, 6, .inl s) := rfl
theorem pv_ce_39 (s : Nat → Int32) (t : Nat → Int64) : pv_ce 39 s t = .inl (0, 240, .inl s) := rfl
theorem pv_ce_40 (s : Nat → Int32) (t : Nat → Int64) : pv_ce 40 s t = .inl (0, 4, .inl s) := rfl
theorem pv_ce_41 (s : Nat → Int32) (t : Nat → Int64) : pv_ce 41 s t = .inl (0, 240, .inl s) := rfl
theorem pv_ce_42 (s : Nat → Int32) (t : Nat → Int64) : pv_ce 42 s t = .inl (0, 6, .inl s) := rfl
theorem pv_ce_43 (s : Nat → Int32) (t : Nat → Int64) : pv_ce 43 s t = .inl (0, 6, .inl s) := rfl
theorem pv_ce_44 (s : Nat → Int32) (t : Nat → Int64) : pv_ce 44 s t = .inl (0, 10, .inl s) := rfl
theorem pv_ce_45 (s : Nat → Int32) (t : Nat → Int64) : pv_ce 45 s t = .inl (0, 400, .inl s) := rfl
theorem pv_ce_46 (s : Nat → Int32) (t : Nat → Int64) : pv_ce 46 s t = .inl (0, 1233, .inl s) := rfl
theorem pv_ce_47 (s : Nat → Int32) (t : Nat → Int64) : pv_ce 47 s t = .inl (1, 3, .inl s) := rfl
theorem pv_ce_48 (s : Nat → Int32) (t : Nat → Int64) : pv_ce 48 s t = .inl (0, 6, .inl s) := rfl
theorem pv_ce_49 (s : Nat → Int32) (t : Nat → Int64) : pv_ce 49 s t = .inl (0, 18, .inl s) := rfl
theorem pv_ce_50 (s : Nat → Int32) (t : Nat → Int64) : pv_ce 50 s t = .inl (0, 3, .inl s) := rfl
theorem pv_ce_51 (s : Nat → Int32) (t : Nat → Int64) : pv_ce 51 s t = .inl (0, 3, .inl s) := rfl
theorem pv_ce_52 (s : Nat → Int32) (t : Nat → Int64) : pv_ce 52 s t = .inl (0, 30, .inl s) := rfl
theorem pv_ce_53 (s : Nat → Int32) (t : Nat → Int64) : pv_ce 53 s t = .inl (0, 5, .inl s) := rfl
theorem pv_ce_54 (s : Nat → Int32) (t : Nat → Int64) : pv_ce 54 s t = .inl (0, 5, .inl s) := rfl
theorem pv_em_upd {S : pv_S} {k : Nat} {c : pv_C} (s' : Nat → Int32) (t' : Nat → Int64) (h : pv_ce k s' t' = c) : ((pv_em S).1, pv_up (pv_em S).2 k c) = pv_em (va_up S.1 k s', va_up S.2 k t') := by
  unfold pv_em
  refine Prod.ext rfl (funext fun j => ?_)
  show pv_up (fun k => pv_ce k (S.1 k) (S.2 k)) k c j = pv_ce j (va_up S.1 k s' j) (va_up S.2 k t' j)
  unfold pv_up va_up
  by_cases e : j = k
  · subst e
    simp [h]
  · simp [e]
theorem pv_up_id {α : Type} (f : Nat → α) (k : Nat) : va_up f k (f k) = f := by
  funext j
  unfold va_up
  by_cases e : j = k
  · subst e; simp
  · simp [e]
theorem pv_em_si {S : pv_S} {k j : Nat} {v : Int32} {c : pv_C} (h : pv_ce k (upd (S.1 k) j v) (S.2 k) = c) : ((pv_em S).1, pv_up (pv_em S).2 k c) = pv_em (pv_si S k j v) := by
  rw [pv_em_upd (upd (S.1 k) j v) (S.2 k) h, pv_up_id]
  rfl
theorem pv_em_sa {S : pv_S} {k : Nat} {f : Nat → Int32} {c : pv_C} (h : pv_ce k f (S.2 k) = c) : ((pv_em S).1, pv_up (pv_em S).2 k c) = pv_em (pv_sa S k f) := by
  rw [pv_em_upd f (S.2 k) h, pv_up_id]
  rfl
theorem pv_em_sj {S : pv_S} {k j : Nat} {v : Int64} {c : pv_C} (h : pv_ce k (S.1 k) (va_up (S.2 k) j v) = c) : ((pv_em S).1, pv_up (pv_em S).2 k c) = pv_em (pv_sj S k j v) := by
  rw [pv_em_upd (S.1 k) (va_up (S.2 k) j v) h, pv_up_id]
  rfl
theorem pv_fam_4 {r : Nat} (h : r < 6) (s : Nat → Int32) (t : Nat → Int64) : pv_ce (4 + r) s t = .inl (0, 40, .inl s) := by
  match r, h with
  | 0, _ => rfl
  | 1, _ => rfl
  | 2, _ => rfl
  | 3, _ => rfl
  | 4, _ => rfl
  | 5, _ => rfl
theorem pv_fal_4 {r : Nat} (h : r < 6) : 4 + r < 55 := by omega
theorem pv_fam_13 {r : Nat} (h : r < 4) (s : Nat → Int32) (t : Nat → Int64) : pv_ce (13 + r) s t = .inl (0, 60, .inl s) := by
  match r, h with
  | 0, _ => rfl
  | 1, _ => rfl
  | 2, _ => rfl
  | 3, _ => rfl
theorem pv_fal_13 {r : Nat} (h : r < 4) : 13 + r < 55 := by omega
theorem pv_fam_29 {r : Nat} (h : r < 3) (s : Nat → Int32) (t : Nat → Int64) : pv_ce (29 + r) s t = .inl (0, 40, .inl s) := by
  match r, h with
  | 0, _ => rfl
  | 1, _ => rfl
  | 2, _ => rfl
theorem pv_fal_29 {r : Nat} (h : r < 3) : 29 + r < 55 := by omega
/-! ===== the engine's steps as equations ===== -/
section PV8
variable {y : pv_Y} {pc : Nat} {loc : pv_L} {st : List Value} {A : pv_H} {i : Instr} {n : Nat}
theorem pv_Rerr (hd : decode (pv_cd y) pc = .ok (i, n)) (hr : pv_r y i n st = none) (hi : pv_inv y i n st A 0 0 = none) (h : pv_stp y i n pc loc st A 0 0 = none) : pv_R y pc loc st A = none := by
  cases h2 : pv_R y pc loc st A with
  | none => rfl
  | some x =>
    obtain ⟨f, hf⟩ := pv_R_iff.mp h2
    match f, hf with
    | 0, hf => cases hf
    | f + 1, hf =>
      rw [pv_run, hd] at hf
      dsimp only at hf
      rw [hr, hi] at hf
      dsimp only at hf
      rw [h] at hf
      cases hf
theorem pv_iteN {α : Type} {c : Prop} {d : Decidable c} {x z : Option α} (h : ¬ c → x = z) : (if c then none else x) = if c then none else z := by
  by_cases q : c
  · rw [if_pos q, if_pos q]
  · rw [if_neg q, if_neg q]; exact h q
theorem pv_Rget {idx ci k a : Nat} {nb : Bool} {fs : List Value} {v : Value} {S : pv_S} (hd : decode (pv_cd y) pc = .ok (.getfield idx, 3)) (hf : pv_ff (pv_cn y) idx = some (ci, k, nb)) (ha : a < 55) (hA : pv_ce a (S.1 a) (S.2 a) = .inr (ci, fs)) (hv : fs[k]? = some v) : pv_R y pc loc (.ref a :: st) (pv_em S) = pv_R y (pc + 3) loc (v :: st) (pv_em S) := by
  refine pv_Rstp hd rfl rfl ?_
  have h1 : pv_get (pv_cn y) idx a (pv_em S) = some v := by
    unfold pv_get
    rw [hf]
    dsimp only
    rw [if_pos (show a < (pv_em S).1 from ha)]
    have h2 : (pv_em S).2 a = .inr (ci, fs) := hA
    rw [h2]
    dsimp only
    rw [if_pos rfl]
    exact hv
  unfold pv_stp
  have e1 : pv_s (.getfield idx) 3 (.ref a :: st) = none := rfl
  have e2 : pv_l (.getfield idx) 3 loc (.ref a :: st) = none := rfl
  have e3 : pv_b (.getfield idx) 3 (.ref a :: st) = none := rfl
  have e4 : pv_h1 y (.getfield idx) 3 (.ref a :: st) (pv_em S) = some (v :: st, pv_em S) := by
    show (match pv_get (pv_cn y) idx a (pv_em S) with
      | some v => some (v :: st, pv_em S)
      | none => none) = _
    rw [h1]
  rw [e1, e2, e3, e4]
theorem pv_Rput {idx ci k a : Nat} {nb : Bool} {fs : List Value} {v : Value} {S S' : pv_S} {q : vw_C} (hd : decode (pv_cd y) pc = .ok (.putfield idx, 3)) (hf : pv_ff (pv_cn y) idx = some (ci, k, nb)) (hq : vwCl[ci]? = some q) (hfin : (q.2.1 k).2.2.2 = false) (ht : pv_fit (pv_ty ci k) v = true) (ha : a < 55) (hA : pv_ce a (S.1 a) (S.2 a) = .inr (ci, fs)) (hl : k < fs.length) (hS : ((pv_em S).1, pv_up (pv_em S).2 a (.inr (ci, fs.set k v))) = pv_em S') : pv_R y pc loc (v :: .ref a :: st) (pv_em S) = pv_R y (pc + 3) loc st (pv_em S') := by
  refine pv_Rstp hd rfl rfl ?_
  have h1 : pv_put y idx v a (pv_em S) = some (pv_em S') := by
    unfold pv_put
    rw [hf]
    dsimp only
    rw [hq]
    dsimp only
    rw [if_pos ⟨show a < (pv_em S).1 from ha, ht⟩]
    have h2 : (pv_em S).2 a = .inr (ci, fs) := hA
    rw [h2]
    dsimp only
    rw [if_pos ⟨rfl, hl, Or.inl hfin⟩, hS]
  unfold pv_stp
  have e1 : pv_s (.putfield idx) 3 (v :: .ref a :: st) = none := rfl
  have e2 : pv_l (.putfield idx) 3 loc (v :: .ref a :: st) = none := rfl
  have e3 : pv_b (.putfield idx) 3 (v :: .ref a :: st) = none := rfl
  have e4 : pv_h1 y (.putfield idx) 3 (v :: .ref a :: st) (pv_em S) = some (st, pv_em S') := by
    show (match pv_put y idx v a (pv_em S) with
      | some A' => some (st, A')
      | none => none) = _
    rw [h1]
  rw [e1, e2, e3, e4]
theorem pv_Rald {j : Int32} {a N : Nat} {f : Nat → Int32} {S : pv_S} (hd : decode (pv_cd y) pc = .ok (.iaload, 1)) (ha : a < 55) (hA : pv_ce a (S.1 a) (S.2 a) = .inl (0, N, .inl f)) : pv_R y pc loc (.int j :: .ref a :: st) (pv_em S) = if j < 0 ∨ N ≤ j.toNatClampNeg then none else pv_R y (pc + 1) loc (.int (f j.toNatClampNeg) :: st) (pv_em S) := by
  have h2 : (pv_em S).2 a = .inl (0, N, .inl f) := hA
  have e1 : pv_s .iaload 1 (.int j :: .ref a :: st) = none := rfl
  have e2 : pv_l .iaload 1 loc (.int j :: .ref a :: st) = none := rfl
  have e3 : pv_b .iaload 1 (.int j :: .ref a :: st) = none := rfl
  have e4 : pv_h1 y .iaload 1 (.int j :: .ref a :: st) (pv_em S) = if j < 0 ∨ N ≤ j.toNatClampNeg then none else some (.int (f j.toNatClampNeg) :: st, pv_em S) := by
    simp only [pv_h1, if_pos (show a < (pv_em S).1 from ha), h2]
  by_cases q : j < 0 ∨ N ≤ j.toNatClampNeg
  · rw [if_pos q]
    rw [if_pos q] at e4
    refine pv_Rerr hd rfl rfl ?_
    unfold pv_stp
    rw [e1, e2, e3, e4]
    rfl
  · rw [if_neg q]
    rw [if_neg q] at e4
    refine pv_Rstp hd rfl rfl ?_
    unfold pv_stp
    rw [e1, e2, e3, e4]
theorem pv_Rzald {j : Int32} {a N : Nat} {f : Nat → Int32} {S : pv_S} (hd : decode (pv_cd y) pc = .ok (.baload, 1)) (ha : a < 55) (hA : pv_ce a (S.1 a) (S.2 a) = .inl (1, N, .inl f)) : pv_R y pc loc (.int j :: .ref a :: st) (pv_em S) = if j < 0 ∨ N ≤ j.toNatClampNeg then none else pv_R y (pc + 1) loc (.int (f j.toNatClampNeg) :: st) (pv_em S) := by
  have h2 : (pv_em S).2 a = .inl (1, N, .inl f) := hA
  have e1 : pv_s .baload 1 (.int j :: .ref a :: st) = none := rfl
  have e2 : pv_l .baload 1 loc (.int j :: .ref a :: st) = none := rfl
  have e3 : pv_b .baload 1 (.int j :: .ref a :: st) = none := rfl
  have e4 : pv_h1 y .baload 1 (.int j :: .ref a :: st) (pv_em S) = if j < 0 ∨ N ≤ j.toNatClampNeg then none else some (.int (f j.toNatClampNeg) :: st, pv_em S) := by
    simp only [pv_h1, if_pos (show a < (pv_em S).1 from ha), h2]
  by_cases q : j < 0 ∨ N ≤ j.toNatClampNeg
  · rw [if_pos q]
    rw [if_pos q] at e4
    refine pv_Rerr hd rfl rfl ?_
    unfold pv_stp
    rw [e1, e2, e3, e4]
    rfl
  · rw [if_neg q]
    rw [if_neg q] at e4
    refine pv_Rstp hd rfl rfl ?_
    unfold pv_stp
    rw [e1, e2, e3, e4]
theorem pv_Raald {j : Int32} {a N F : Nat} {S : pv_S} (hd : decode (pv_cd y) pc = .ok (.aaload, 1)) (ha : a < 55) (hA : pv_ce a (S.1 a) (S.2 a) = .inl (2, N, .inr F)) : pv_R y pc loc (.int j :: .ref a :: st) (pv_em S) = if j < 0 ∨ N ≤ j.toNatClampNeg then none else pv_R y (pc + 1) loc (.ref (F + j.toNatClampNeg) :: st) (pv_em S) := by
  have h2 : (pv_em S).2 a = .inl (2, N, .inr F) := hA
  have e1 : pv_s .aaload 1 (.int j :: .ref a :: st) = none := rfl
  have e2 : pv_l .aaload 1 loc (.int j :: .ref a :: st) = none := rfl
  have e3 : pv_b .aaload 1 (.int j :: .ref a :: st) = none := rfl
  by_cases q : j < 0 ∨ N ≤ j.toNatClampNeg
  · rw [if_pos q]
    refine pv_Rerr hd rfl rfl ?_
    have e4 : pv_h1 y .aaload 1 (.int j :: .ref a :: st) (pv_em S) = none := by
      simp only [pv_h1, if_pos (show a < (pv_em S).1 from ha), h2, if_pos q]
    unfold pv_stp
    rw [e1, e2, e3, e4]
    rfl
  · rw [if_neg q]
    refine pv_Rstp hd rfl rfl ?_
    have e4 : pv_h1 y .aaload 1 (.int j :: .ref a :: st) (pv_em S) = some (.ref (F + j.toNatClampNeg) :: st, pv_em S) := by
      simp only [pv_h1, if_pos (show a < (pv_em S).1 from ha), h2, if_neg q]
    unfold pv_stp
    rw [e1, e2, e3, e4]
theorem pv_Rast {j v : Int32} {a N : Nat} {f : Nat → Int32} {S S' : pv_S} (hd : decode (pv_cd y) pc = .ok (.iastore, 1)) (ha : a < 55) (hA : pv_ce a (S.1 a) (S.2 a) = .inl (0, N, .inl f)) (hS : ((pv_em S).1, pv_up (pv_em S).2 a (.inl (0, N, .inl (upd f j.toNatClampNeg v)))) = pv_em S') : pv_R y pc loc (.int v :: .int j :: .ref a :: st) (pv_em S) = if j < 0 ∨ N ≤ j.toNatClampNeg then none else pv_R y (pc + 1) loc st (pv_em S') := by
  have h2 : (pv_em S).2 a = .inl (0, N, .inl f) := hA
  have e1 : pv_s .iastore 1 (.int v :: .int j :: .ref a :: st) = none := rfl
  have e2 : pv_l .iastore 1 loc (.int v :: .int j :: .ref a :: st) = none := rfl
  have e3 : pv_b .iastore 1 (.int v :: .int j :: .ref a :: st) = none := rfl
  have e4 : pv_h1 y .iastore 1 (.int v :: .int j :: .ref a :: st) (pv_em S) = if j < 0 ∨ N ≤ j.toNatClampNeg then none else some (st, pv_em S') := by
    simp only [pv_h1, if_pos (show a < (pv_em S).1 from ha), h2, hS]
  by_cases q : j < 0 ∨ N ≤ j.toNatClampNeg
  · rw [if_pos q]
    rw [if_pos q] at e4
    refine pv_Rerr hd rfl rfl ?_
    unfold pv_stp
    rw [e1, e2, e3, e4]
    rfl
  · rw [if_neg q]
    rw [if_neg q] at e4
    refine pv_Rstp hd rfl rfl ?_
    unfold pv_stp
    rw [e1, e2, e3, e4]
theorem pv_Rzast {j v : Int32} {a N : Nat} {f : Nat → Int32} {S S' : pv_S} (hd : decode (pv_cd y) pc = .ok (.bastore, 1)) (ha : a < 55) (hA : pv_ce a (S.1 a) (S.2 a) = .inl (1, N, .inl f)) (hS : ((pv_em S).1, pv_up (pv_em S).2 a (.inl (1, N, .inl (upd f j.toNatClampNeg (vp_nar .boolean v))))) = pv_em S') : pv_R y pc loc (.int v :: .int j :: .ref a :: st) (pv_em S) = if j < 0 ∨ N ≤ j.toNatClampNeg then none else pv_R y (pc + 1) loc st (pv_em S') := by
  have h2 : (pv_em S).2 a = .inl (1, N, .inl f) := hA
  have e1 : pv_s .bastore 1 (.int v :: .int j :: .ref a :: st) = none := rfl
  have e2 : pv_l .bastore 1 loc (.int v :: .int j :: .ref a :: st) = none := rfl
  have e3 : pv_b .bastore 1 (.int v :: .int j :: .ref a :: st) = none := rfl
  have e4 : pv_h1 y .bastore 1 (.int v :: .int j :: .ref a :: st) (pv_em S) = if j < 0 ∨ N ≤ j.toNatClampNeg then none else some (st, pv_em S') := by
    simp only [pv_h1, if_pos (show a < (pv_em S).1 from ha), h2, hS]
  by_cases q : j < 0 ∨ N ≤ j.toNatClampNeg
  · rw [if_pos q]
    rw [if_pos q] at e4
    refine pv_Rerr hd rfl rfl ?_
    unfold pv_stp
    rw [e1, e2, e3, e4]
    rfl
  · rw [if_neg q]
    rw [if_neg q] at e4
    refine pv_Rstp hd rfl rfl ?_
    unfold pv_stp
    rw [e1, e2, e3, e4]
end PV8
end
