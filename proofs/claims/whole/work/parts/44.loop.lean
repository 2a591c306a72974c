/-! ===== the law's loop ===== -/
section LZ
variable {p : Program} {l : Launch} {e : Env} {s : State} {m : MethodId} {below : List Frame} {meth : Method} {c : Code} {b L : Nat} {xs : Nat → Int32} {D : va_G} {ca : Nat → ClassId}
theorem lw_sub6 {L : Nat} (h : L ≤ 384) : (Int32.ofNat L - 6).toInt = (L : Int) - 6 := by
  have h1 : (Int32.ofNat L).toInt = (L : Int) := toInt_of rfl (by omega)
  rw [Int32.toInt_sub, h1, show (6 : Int32).toInt = 6 from by decide]
  exact Int.bmod_eq_of_le (by omega) (by omega)
theorem lw_i {i : Nat} (h : i ≤ 400) : (nI i).toInt = (i : Int) := toInt_of rfl (by omega)
theorem lw_iw {i : Nat} {w : Int32} {k : Nat} (h : i ≤ 400) (hw : w.toInt = (k : Int)) (hk : k ≤ 6) : nI i + w = nI (i + k) := by
  apply Int32.toInt_inj.mp
  rw [Int32.toInt_add, lw_i h, hw, show (nI (i + k)).toInt = ((i + k : Nat) : Int) from toInt_of rfl (by omega)]
  rw [show ((i : Int) + (k : Int)) = ((i + k : Nat) : Int) by omega]
  exact Int.bmod_eq_of_le (by omega) (by omega)
set_option maxHeartbeats 4000000 in
theorem lw_loop (hL : L ≤ 384) (C0 : lw_At p s m meth c b L xs) (hK : pv_K D ca s) {Inv : pv_S → Prop} (hall : pv_all45 Inv) :
    ∀ (n i : Nat), i ≤ L → L + 1 ≤ i + n → ∀ (S : pv_S) (H : Heap) (locs : List Loc) (ls : Array Slot), Inv S → pv_P s.heap.size D ca (pv_em S) H → va_S (pv_A s.heap.size) s.heap H locs → lv_has ls 4 [(0, .ref b), (1, .ref (s.heap.size + 0)), (2, .ref (s.heap.size + 37)), (3, .int (nI i))] → W p l e room_1 s m #[Value.ref b] below meth c H locs 57 3072 (lw_Z below #[Value.ref b] s) (F0 m 18 ls []) := by
  obtain ⟨hx, hb, hr, hml, hown, hts, hX, hbl, hlocks, hgv⟩ := id C0
  have hbA : ¬ pv_A s.heap.size b := Nat.not_le.mpr hbl
  intro n
  induction n with
  | zero => intro i h1 h2; exact absurd h2 (by omega)
  | succ n ih =>
    intro i hi hin S H locs ls hInv hP hS hl
    refine lv_iload_n hx hb dL_law_18 rfl (lv_at hl 3 rfl) ?_
    refine lv_aload_n hx hb dL_law_19 rfl (lv_at hl 0 rfl) ?_
    refine va_slen (A := pv_A s.heap.size) hx hb hX hbl hbA hS dL_law_20 ?_
    refine lv_bipush (v := 6) hx hb dL_law_21 (by decide +kernel) ?_
    refine lv_isub hx hb dL_law_23 ?_
    refine lv_icmp_gt (tgt := 1482) hx hb dL_law_24 (by decide) (fun q => ?_) (fun q => ?_)
    · refine lv_iconst (v := 1) hx hb dL_law_1482 (by decide +kernel) ?_
      refine va_forget (fun q hq => hS.2.2 q hq) ?_
      refine W.widen (k := 600000) (n := 7302249) (by decide) (by decide) ?_
      exact lw_ret hx hb hr hlocks dL_law_1483
    · have hlt : i + 6 ≤ L := by
        have h1 : ¬ (Int32.ofNat L - 6).toInt < (nI i).toInt := fun z => q (Int32.lt_iff_toInt_lt.mpr z)
        rw [lw_sub6 hL, lw_i (by omega)] at h1
        omega
      have hv : ∀ (w : Int32) (k : Nat), w.toInt = (k : Int) → k ≤ 5 → vp_in (nI i + w) L := fun w k hw hk => by
        rw [lw_iw (by omega) hw (by omega)]
        exact vp_in_nI (by omega) (by omega)
      have hin5 : ∀ w : Int32, 1 ≤ w → w ≤ 5 → vp_in (nI i + w) L := fun w h1 h2 => by
        have g1 := Int32.le_iff_toInt_le.mp h1
        have g2 := Int32.le_iff_toInt_le.mp h2
        rw [show (1 : Int32).toInt = 1 from by decide] at g1
        rw [show (5 : Int32).toInt = 5 from by decide] at g2
        exact hv w w.toInt.toNat (by omega) (by omega)
      refine lv_aload_n hx hb dL_law_27 rfl (lv_at hl 0 rfl) ?_
      refine lv_iload_n hx hb dL_law_28 rfl (lv_at hl 3 rfl) ?_
      refine va_sld (A := pv_A s.heap.size) hx hb hX hbl hbA hS (vp_in_nI (by omega) (by omega)) dL_law_29 ?_
      refine lv_bipush (v := 63) hx hb dL_law_30 (by decide +kernel) ?_
      refine lv_iand hx hb dL_law_32 ?_
      have back : ∀ (S2 : pv_S) (H1 : Heap) (locs1 : List Loc), Inv S2 → pv_P s.heap.size D ca (pv_em S2) H1 → va_S (pv_A s.heap.size) s.heap H1 locs1 → W p l e room_1 s m #[Value.ref b] below meth c H1 locs1 57 3072 (lw_Z below #[Value.ref b] s) (F0 m 1476 ls []) := fun S2 H1 locs1 g1 g2 g3 => by
        refine lv_iinc (v := nI (i + 6)) (lv' := [(3, .int (nI (i + 6))), (0, .ref b), (1, .ref (s.heap.size + 0)), (2, .ref (s.heap.size + 37))]) hx hb dL_law_1476 hl (k := 3) rfl (lw_iw (by omega) (by decide +kernel) (by omega)) (by decide) rfl (fun ls2 hl2 => ?_)
        refine lv_goto (tgt := 18) hx hb dL_law_1479 (by decide) ?_
        exact ih (i + 6) hlt (by omega) S2 H1 locs1 ls2 g1 g2 g3 (lv_sub hl2 [1, 2, 3, 0] rfl)
      generalize xs (nI i).toNatClampNeg &&& 63 = x
      by_cases hout : x.toInt < 0 ∨ 44 < x.toInt
      · exact lv_tableOut (tgt := 1476) hx hb dL_law_33 hout (by decide) (back S H locs hInv hP hS)
      · obtain ⟨k, hk⟩ : ∃ k : Nat, x.toInt = (k : Int) := ⟨x.toInt.toNat, by omega⟩
        have hk44 : k ≤ 44 := by omega
        have h1 : ¬ x.toInt < 0 := fun z => hout (Or.inl z)
        have h2 : ¬ 44 < x.toInt := fun z => hout (Or.inr z)
        have hA := hall S hInv
        obtain ⟨c0, c1, c2, c3, c4, c5, c6, c7, c8, c9, c10, c11, c12, c13, c14, c15, c16, c17, c18, c19, c20, c21, c22, c23, c24, c25, c26, c27, c28, c29, c30, c31, c32, c33, c34, c35, c36, c37, c38, c39, c40, c41, c42, c43, c44⟩ := hA
        match k, hk, hk44 with
        | 0, hk, _ => exact lv_tableIn (off := 195) (tgt := 228) hx hb dL_law_33 h1 h2 (by rw [hk]; rfl) (by decide) (lw_case_0 C0 hK c0 hP hS hl hin5 back)
        | 1, hk, _ => exact lv_tableIn (off := 228) (tgt := 261) hx hb dL_law_33 h1 h2 (by rw [hk]; rfl) (by decide) (lw_case_1 C0 hK c1 hP hS hl hin5 back)
        | 2, hk, _ => exact lv_tableIn (off := 271) (tgt := 304) hx hb dL_law_33 h1 h2 (by rw [hk]; rfl) (by decide) (lw_case_2 C0 hK c2 hP hS hl hin5 back)
        | 3, hk, _ => exact lv_tableIn (off := 304) (tgt := 337) hx hb dL_law_33 h1 h2 (by rw [hk]; rfl) (by decide) (lw_case_3 C0 hK c3 hP hS hl hin5 back)
        | 4, hk, _ => exact lv_tableIn (off := 327) (tgt := 360) hx hb dL_law_33 h1 h2 (by rw [hk]; rfl) (by decide) (lw_case_4 C0 hK c4 hP hS hl hin5 back)
        | 5, hk, _ => exact lv_tableIn (off := 390) (tgt := 423) hx hb dL_law_33 h1 h2 (by rw [hk]; rfl) (by decide) (lw_case_5 C0 hK c5 hP hS hl hin5 back)
        | 6, hk, _ => exact lv_tableIn (off := 413) (tgt := 446) hx hb dL_law_33 h1 h2 (by rw [hk]; rfl) (by decide) (lw_case_6 C0 hK c6 hP hS hl hin5 back)
        | 7, hk, _ => exact lv_tableIn (off := 446) (tgt := 479) hx hb dL_law_33 h1 h2 (by rw [hk]; rfl) (by decide) (lw_case_7 C0 hK c7 hP hS hl hin5 back)
        | 8, hk, _ => exact lv_tableIn (off := 489) (tgt := 522) hx hb dL_law_33 h1 h2 (by rw [hk]; rfl) (by decide) (lw_case_8 C0 hK c8 hP hS hl hin5 back)
        | 9, hk, _ => exact lv_tableIn (off := 512) (tgt := 545) hx hb dL_law_33 h1 h2 (by rw [hk]; rfl) (by decide) (lw_case_9 C0 hK c9 hP hS hl hin5 back)
        | 10, hk, _ => exact lv_tableIn (off := 535) (tgt := 568) hx hb dL_law_33 h1 h2 (by rw [hk]; rfl) (by decide) (lw_case_10 C0 hK c10 hP hS hl hin5 back)
        | 11, hk, _ => exact lv_tableIn (off := 568) (tgt := 601) hx hb dL_law_33 h1 h2 (by rw [hk]; rfl) (by decide) (lw_case_11 C0 hK c11 hP hS hl hin5 back)
        | 12, hk, _ => exact lv_tableIn (off := 601) (tgt := 634) hx hb dL_law_33 h1 h2 (by rw [hk]; rfl) (by decide) (lw_case_12 C0 hK c12 hP hS hl hin5 back)
        | 13, hk, _ => exact lv_tableIn (off := 614) (tgt := 647) hx hb dL_law_33 h1 h2 (by rw [hk]; rfl) (by decide) (lw_case_13 C0 hK c13 hP hS hl hin5 back)
        | 14, hk, _ => exact lv_tableIn (off := 637) (tgt := 670) hx hb dL_law_33 h1 h2 (by rw [hk]; rfl) (by decide) (lw_case_14 C0 hK c14 hP hS hl hin5 back)
        | 15, hk, _ => exact lv_tableIn (off := 660) (tgt := 693) hx hb dL_law_33 h1 h2 (by rw [hk]; rfl) (by decide) (lw_case_15 C0 hK c15 hP hS hl hin5 back)
        | 16, hk, _ => exact lv_tableIn (off := 683) (tgt := 716) hx hb dL_law_33 h1 h2 (by rw [hk]; rfl) (by decide) (lw_case_16 C0 hK c16 hP hS hl hin5 back)
        | 17, hk, _ => exact lv_tableIn (off := 706) (tgt := 739) hx hb dL_law_33 h1 h2 (by rw [hk]; rfl) (by decide) (lw_case_17 C0 hK c17 hP hS hl hin5 back)
        | 18, hk, _ => exact lv_tableIn (off := 729) (tgt := 762) hx hb dL_law_33 h1 h2 (by rw [hk]; rfl) (by decide) (lw_case_18 C0 hK c18 hP hS hl hin5 back)
        | 19, hk, _ => exact lv_tableIn (off := 752) (tgt := 785) hx hb dL_law_33 h1 h2 (by rw [hk]; rfl) (by decide) (lw_case_19 C0 hK c19 hP hS hl hin5 back)
        | 20, hk, _ => exact lv_tableIn (off := 775) (tgt := 808) hx hb dL_law_33 h1 h2 (by rw [hk]; rfl) (by decide) (lw_case_20 C0 hK c20 hP hS hl hin5 back)
        | 21, hk, _ => exact lv_tableIn (off := 808) (tgt := 841) hx hb dL_law_33 h1 h2 (by rw [hk]; rfl) (by decide) (lw_case_21 C0 hK c21 hP hS hl hin5 back)
        | 22, hk, _ => exact lv_tableIn (off := 841) (tgt := 874) hx hb dL_law_33 h1 h2 (by rw [hk]; rfl) (by decide) (lw_case_22 C0 hK c22 hP hS hl hin5 back)
        | 23, hk, _ => exact lv_tableIn (off := 864) (tgt := 897) hx hb dL_law_33 h1 h2 (by rw [hk]; rfl) (by decide) (lw_case_23 C0 hK c23 hP hS hl hin5 back)
        | 24, hk, _ => exact lv_tableIn (off := 907) (tgt := 940) hx hb dL_law_33 h1 h2 (by rw [hk]; rfl) (by decide) (lw_case_24 C0 hK c24 hP hS hl hin5 back)
        | 25, hk, _ => exact lv_tableIn (off := 940) (tgt := 973) hx hb dL_law_33 h1 h2 (by rw [hk]; rfl) (by decide) (lw_case_25 C0 hK c25 hP hS hl hin5 back)
        | 26, hk, _ => exact lv_tableIn (off := 963) (tgt := 996) hx hb dL_law_33 h1 h2 (by rw [hk]; rfl) (by decide) (lw_case_26 C0 hK c26 hP hS hl hin5 back)
        | 27, hk, _ => exact lv_tableIn (off := 996) (tgt := 1029) hx hb dL_law_33 h1 h2 (by rw [hk]; rfl) (by decide) (lw_case_27 C0 hK c27 hP hS hl hin5 back)
        | 28, hk, _ => exact lv_tableIn (off := 1019) (tgt := 1052) hx hb dL_law_33 h1 h2 (by rw [hk]; rfl) (by decide) (lw_case_28 C0 hK c28 hP hS hl hin5 back)
        | 29, hk, _ => exact lv_tableIn (off := 1042) (tgt := 1075) hx hb dL_law_33 h1 h2 (by rw [hk]; rfl) (by decide) (lw_case_29 C0 hK c29 hP hS hl hin5 back)
        | 30, hk, _ => exact lv_tableIn (off := 1065) (tgt := 1098) hx hb dL_law_33 h1 h2 (by rw [hk]; rfl) (by decide) (lw_case_30 C0 hK c30 hP hS hl hin5 back)
        | 31, hk, _ => exact lv_tableIn (off := 1098) (tgt := 1131) hx hb dL_law_33 h1 h2 (by rw [hk]; rfl) (by decide) (lw_case_31 C0 hK c31 hP hS hl hin5 back)
        | 32, hk, _ => exact lv_tableIn (off := 1131) (tgt := 1164) hx hb dL_law_33 h1 h2 (by rw [hk]; rfl) (by decide) (lw_case_32 C0 hK c32 hP hS hl hin5 back)
        | 33, hk, _ => exact lv_tableIn (off := 1164) (tgt := 1197) hx hb dL_law_33 h1 h2 (by rw [hk]; rfl) (by decide) (lw_case_33 C0 hK c33 hP hS hl hin5 back)
        | 34, hk, _ => exact lv_tableIn (off := 1187) (tgt := 1220) hx hb dL_law_33 h1 h2 (by rw [hk]; rfl) (by decide) (lw_case_34 C0 hK c34 hP hS hl hin5 back)
        | 35, hk, _ => exact lv_tableIn (off := 1240) (tgt := 1273) hx hb dL_law_33 h1 h2 (by rw [hk]; rfl) (by decide) (lw_case_35 C0 hK c35 hP hS hl hin5 back)
        | 36, hk, _ => exact lv_tableIn (off := 1283) (tgt := 1316) hx hb dL_law_33 h1 h2 (by rw [hk]; rfl) (by decide) (lw_case_36 C0 hK c36 hP hS hl hin5 back)
        | 37, hk, _ => exact lv_tableIn (off := 1316) (tgt := 1349) hx hb dL_law_33 h1 h2 (by rw [hk]; rfl) (by decide) (lw_case_37 C0 hK c37 hP hS hl hin5 back)
        | 38, hk, _ => exact lv_tableIn (off := 1329) (tgt := 1362) hx hb dL_law_33 h1 h2 (by rw [hk]; rfl) (by decide) (lw_case_38 C0 hK c38 hP hS hl hin5 back)
        | 39, hk, _ => exact lv_tableIn (off := 1343) (tgt := 1376) hx hb dL_law_33 h1 h2 (by rw [hk]; rfl) (by decide) (lw_case_39 C0 hK c39 hP hS hl hin5 back)
        | 40, hk, _ => exact lv_tableIn (off := 1357) (tgt := 1390) hx hb dL_law_33 h1 h2 (by rw [hk]; rfl) (by decide) (lw_case_40 C0 hK c40 hP hS hl hin5 back)
        | 41, hk, _ => exact lv_tableIn (off := 1370) (tgt := 1403) hx hb dL_law_33 h1 h2 (by rw [hk]; rfl) (by decide) (lw_case_41 C0 hK c41 hP hS hl hin5 back)
        | 42, hk, _ => exact lv_tableIn (off := 1393) (tgt := 1426) hx hb dL_law_33 h1 h2 (by rw [hk]; rfl) (by decide) (lw_case_42 C0 hK c42 hP hS hl hin5 back)
        | 43, hk, _ => exact lv_tableIn (off := 1406) (tgt := 1439) hx hb dL_law_33 h1 h2 (by rw [hk]; rfl) (by decide) (lw_case_43 C0 hK c43 hP hS hl hin5 back)
        | 44, hk, _ => exact lv_tableIn (off := 1429) (tgt := 1462) hx hb dL_law_33 h1 h2 (by rw [hk]; rfl) (by decide) (lw_case_44 C0 hK c44 hP hS hl hin5 back)
        | k + 45, _, h => exact absurd h (by omega)
end LZ
