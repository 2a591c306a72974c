/-! ===== mark, ring, gain, steady ===== -/
theorem lpF {α β X : Type} {R : Nat → α → X} {N : Nat} (pr : α → β) (f : Nat → β → β) (P : Nat → α → Prop) (h : ∀ k a, k < N → P k a → ∃ a', R k a = R (k + 1) a' ∧ pr a' = f k (pr a) ∧ P (k + 1) a') : ∀ m k a, k + m = N → P k a → ∃ a', R k a = R N a' ∧ pr a' = itf f m k (pr a) ∧ P N a'
  | 0, k, a, hk, hp => by
    have : k = N := by omega
    subst this
    exact ⟨a, rfl, rfl, hp⟩
  | m + 1, k, a, hk, hp => by
    obtain ⟨b, e1, hb1, hb⟩ := h k a (by omega) hp
    obtain ⟨d, e2, hd1, hd⟩ := lpF pr f P h m (k + 1) b (by omega) hb
    exact ⟨d, e1.trans e2, by rw [hd1, hb1]; rfl, hd⟩
theorem aft_in {kd h w : Int32} (hw : 1 ≤ w.toInt ∧ w.toInt ≤ 200) : ∀ k, 1 ≤ (tw_aft kd h w k).toInt ∧ (tw_aft kd h w k).toInt ≤ 200
  | 0 => hw
  | _ + 1 => held_in _
def rg_d (g : Nat → Int32) (dog : Int32) (k : Nat) : Int32 := if 0 ≤ g k - dog then g k - dog else 0 - (g k - dog)
def rg_s (g : Nat → Int32) (dog : Int32) (k : Nat) (p : Int32 × Int32) : Int32 × Int32 := if rg_d g dog k ≤ p.1 then p else (rg_d g dog k, nI k)
def gn_d (g : Nat → Int32) (x : Int32) (a b : Nat) : Int32 := 10 * (x * g a / g b - x)
def gn_i (g : Nat → Int32) (x : Int32) (a b : Nat) (p : Int32 × Int32) : Int32 × Int32 := if gn_d g x a b ≤ p.1 then p else (gn_d g x a b, 100 * nI a + nI b)
def gn_o (g : Nat → Int32) (x : Int32) (N a : Nat) (p : Int32 × Int32) : Int32 × Int32 := itf (gn_i g x a) (N + 1 - a) a p
def sp_f (g : Nat → Int32) (t : Nat) (p : Int32 × Int32) : Int32 × Int32 := (if g t < p.1 then g t else p.1, if p.2 < g t then g t else p.2)
def sp_v (g : Nat → Int32) (N : Nat) : Int32 := (itf (sp_f g) N 1 (g 0, g 0)).2 - (itf (sp_f g) N 1 (g 0, g 0)).1
def st_s (sp : Nat → Int32) (k : Nat) (p : Int32 × Int32) : Int32 × Int32 := if p.2 ≤ sp k then p else (nI k, sp k)
section RG
variable {S S' : pv_S} {n c : Nat}
/-- what the pound weighs ahead -/
def tw_pa (S : pv_S) : Nat → Int32 := tw_aft (S.1 42 (S.1 44 9).toNatClampNeg) (S.1 44 6) (S.1 44 (S.1 44 9).toNatClampNeg)
theorem tw_pa_in (T : Tw S n c) (h : n ≠ 0) (k : Nat) : 1 ≤ (tw_pa S k).toInt ∧ (tw_pa S k).toInt ≤ 200 := by
  obtain ⟨r, hr, e⟩ := tw_rb T h
  have := tw_n T
  unfold tw_pa
  rw [e, nIc (by omega)]
  exact aft_in (tw_wb T hr) k
theorem x_rulerKind (T : Tw S n c) (h : n ≠ 0) : pv_R mX5_rulerKind 0 [some (.ref 21)] [] (pv_em S) = some (some (.int (S.1 42 (S.1 44 9).toNatClampNeg)), pv_em S) := by
  have := tw_n T
  obtain ⟨r, hr, e⟩ := tw_rb T h
  simp only [bX5_rulerKind_0, bX5_rulerKind_8, bX5_rulerKind_11, bX5_rulerKind_23, bX5_rulerKind_24, x_isCat T, pv_cc_some, bI_0, tw_r T, e, nIt (i := r) (by omega), kx (k := r) (N := 6) (by omega) (by omega), nIc (i := r) (by omega), if_false]
  rw [if_neg (by omega), tw_kd T hr]
theorem x_lookAtPound (T : Tw S n c) (h : n ≠ 0) {N : Nat} (hN : N ≤ 60) : ∃ S', pv_R mX6_lookAtPound 0 [some (.ref 0), some (.int (nI N))] [] (pv_em S) = some (none, pv_em S') ∧ Ol S S' N (tw_pa S) := by
  obtain ⟨q, e, hh⟩ := tw_hN T
  obtain ⟨S', e1, O⟩ := x_fill (S := S) (kind := S.1 42 (S.1 44 9).toNatClampNeg) (w := tw_pd S n) (N := N) (h := q) hN (by omega) (a := none)
  refine ⟨S', ?_, ?_⟩
  · rw [bX6_lookAtPound_0, x_rulerKind T h, pv_cc_some, bX6_lookAtPound_11, x_pound T, pv_cc_some, bX6_lookAtPound_18, tw_h T, e, e1, pv_cc_void, bX6_lookAtPound_29]
  · unfold tw_pa
    unfold tw_pd at O
    rw [if_neg h] at O
    rw [e]; exact O
theorem m_poundIn (T : Tw S n c) (h : n ≠ 0) {N : Nat} (hN : N ≤ 60) : pv_R mX7_poundIn 0 [some (.ref 37), some (.int (nI N))] [] (pv_em S) = some (some (.int (tw_pa S N)), pv_em S) := by
  have := tw_n T
  obtain ⟨r, hr, e⟩ := tw_rb T h
  unfold tw_pa
  rw [bX7_poundIn_0, show (9 : Int32).toNatClampNeg = 9 from by decide, e, m_afterI T hr hN, pv_cc_some, bX7_poundIn_12, nIc (by omega)]
theorem tw_pa_Ol {N : Nat} {g : Nat → Int32} (O : Ol S S' N g) : tw_pa S' = tw_pa S := by
  unfold tw_pa
  rw [O.1 42 (by decide) (by decide), O.1 44 (by decide) (by decide)]
theorem nI0 {n : Nat} (hn : n ≤ 6) (h : n ≠ 0) : ¬ nI n = 0 := by
  rw [show (0 : Int32) = nI 0 from rfl, nIeq (by omega) (by omega)]
  exact h
theorem x_ringL {N : Nat} {g : Nat → Int32} (hN : N ≤ 60) (h1 : S.1 32 2 = nI N) (h2 : ∀ j, j ≤ N → S.1 33 j = g j) {a : Option Value} : pv_R mX6_ring 37 [some (.ref 0), some (.int (nI N)), some (.int (-1)), some (.int 0), some (.int 0), a] [] (pv_em S) = some (some (.int (itf (rg_s g (S.1 21 8)) (N + 1) 0 (-1, 0)).1), pv_em (pv_si S 35 1 (itf (rg_s g (S.1 21 8)) (N + 1) 0 (-1, 0)).2)) := by
  obtain ⟨⟨⟨p1, p2⟩, j⟩, e, hp, _⟩ := lpF (R := fun k (a : (Int32 × Int32) × Option Value) => pv_R mX6_ring 37 [some (.ref 0), some (.int (nI N)), some (.int a.1.1), some (.int a.1.2), some (.int (nI k)), a.2] [] (pv_em S)) (N := N + 1) (fun a => a.1) (rg_s g (S.1 21 8)) (fun _ _ => True) (fun k a hk _ => by
    refine ⟨(rg_s g (S.1 21 8) k a.1, some (.int (rg_d g (S.1 21 8) k))), ?_, rfl, trivial⟩
    refine Eq.trans bX6_ring_37 ?_
    rw [if_neg (by rw [nIlt (by omega) (by omega)]; omega), bX6_ring_43, x_weightIn hN (by omega) h1, pv_cc_some, bX6_ring_52, h2 k (by omega)]
    by_cases q : rg_d g (S.1 21 8) k ≤ a.1.1
    · rw [show rg_s g (S.1 21 8) k a.1 = a.1 from if_pos q]
      refine Eq.trans (if_pos q) ?_
      rw [bX6_ring_77, nIs]; rfl
    · rw [show rg_s g (S.1 21 8) k a.1 = (rg_d g (S.1 21 8) k, nI k) from if_neg q]
      refine Eq.trans (if_neg q) ?_
      rw [bX6_ring_71, bX6_ring_77, nIs]; rfl) (N + 1) 0 ((-1, 0), a) (by omega) trivial
  refine Eq.trans e ?_
  have hp : (p1, p2) = itf (rg_s g (S.1 21 8)) (N + 1) 0 (-1, 0) := hp
  rw [← hp]
  show pv_R mX6_ring 37 _ _ _ = _
  rw [bX6_ring_37, if_pos (by rw [nIlt (by omega) (by omega)]; omega), bX6_ring_83]
theorem m_abs {x : Int32} : pv_R mX7_abs 0 [some (.int x)] [] (pv_em S) = some (some (.int (if 0 ≤ x then x else 0 - x)), pv_em S) := by
  rw [bX7_abs_0]
  by_cases q : 0 ≤ x
  · rw [if_pos q, if_pos q, bX7_abs_9, bX7_abs_10]
  · rw [if_neg q, if_neg q, bX7_abs_4, bX7_abs_10, Int32.zero_sub]
theorem m_ringL {N : Nat} (T : Tw S n c) (h : n ≠ 0) (hN : N ≤ 60) {a : Option Value} : pv_R mX7_ring 31 [some (.ref 37), some (.int (nI N)), some (.int (-1)), some (.int 0), some (.int 0), a] [] (pv_em S) = some (some (.int (itf (rg_s (tw_pa S) (S.1 37 5)) (N + 1) 0 (-1, 0)).1), pv_em (pv_si S 37 13 (itf (rg_s (tw_pa S) (S.1 37 5)) (N + 1) 0 (-1, 0)).2)) := by
  obtain ⟨⟨⟨p1, p2⟩, j⟩, e, hp, _⟩ := lpF (R := fun k (a : (Int32 × Int32) × Option Value) => pv_R mX7_ring 31 [some (.ref 37), some (.int (nI N)), some (.int a.1.1), some (.int a.1.2), some (.int (nI k)), a.2] [] (pv_em S)) (N := N + 1) (fun a => a.1) (rg_s (tw_pa S) (S.1 37 5)) (fun _ _ => True) (fun k a hk _ => by
    refine ⟨(rg_s (tw_pa S) (S.1 37 5) k a.1, some (.int (rg_d (tw_pa S) (S.1 37 5) k))), ?_, rfl, trivial⟩
    refine Eq.trans bX7_ring_31 ?_
    rw [if_neg (by rw [nIlt (by omega) (by omega)]; omega), bX7_ring_37, m_poundIn T h (by omega), pv_cc_some, bX7_ring_43, m_abs, pv_cc_some, bX7_ring_51]
    by_cases q : rg_d (tw_pa S) (S.1 37 5) k ≤ a.1.1
    · rw [show rg_s (tw_pa S) (S.1 37 5) k a.1 = a.1 from if_pos q]
      refine Eq.trans (if_pos q) ?_
      rw [bX7_ring_64, bX7_ring_65]
      refine Eq.trans (if_pos q) ?_
      rw [bX7_ring_77, bX7_ring_78, nIs]; rfl
    · rw [show rg_s (tw_pa S) (S.1 37 5) k a.1 = (rg_d (tw_pa S) (S.1 37 5) k, nI k) from if_neg q]
      refine Eq.trans (if_neg q) ?_
      rw [bX7_ring_59, bX7_ring_65]
      refine Eq.trans (if_neg q) ?_
      rw [bX7_ring_72, bX7_ring_78, nIs]; rfl) (N + 1) 0 ((-1, 0), a) (by omega) trivial
  refine Eq.trans e ?_
  have hp : (p1, p2) = itf (rg_s (tw_pa S) (S.1 37 5)) (N + 1) 0 (-1, 0) := hp
  rw [← hp]
  show pv_R mX7_ring 31 _ _ _ = _
  rw [bX7_ring_31, if_pos (by rw [nIlt (by omega) (by omega)]; omega), bX7_ring_85, bX7_answer_0, pv_cc_some, bX7_ring_91]
theorem tq_ring (I : Inv S) (w : Int32) : pv_goI Inv S mX6_ring mX7_ring [.int w] := by
  obtain ⟨n, c, T⟩ := tw_of I
  have hn := tw_n T
  by_cases hw : 0 ≤ w.toInt ∧ w.toInt ≤ 60
  · by_cases h : n = 0
    · subst h
      refine ⟨-4, S, S, ?_, ?_, I⟩
      · show pv_R mX6_ring 0 [some (.ref 0), some (.int w), none, none, none, none] [] (pv_em S) = _
        simp only [bX6_ring_0, bX6_ring_7, bX6_ring_10, bX6_ring_12, bX6_ring_22, bX6_ring_25, bX6_ring_30, bX6_ring_43, bX6_ring_52, bX6_ring_71, bX6_ring_77, bX6_ring_83, x_within, pv_cc_some, bI_0, i0, i60, hw, tw_x7 T, show nI 0 = 0 from rfl, and_self, not_true_eq_false, not_false_eq_true, if_true, if_false]
      · show pv_R mX7_ring 0 [some (.ref 37), some (.int w), none, none, none, none] [] (pv_em S) = _
        simp only [bX7_ring_0, bX7_ring_9, bX7_ring_12, bX7_ring_14, bX7_ring_21, bX7_ring_24, bX7_ring_37, bX7_ring_43, bX7_ring_51, bX7_ring_59, bX7_ring_64, bX7_ring_65, bX7_ring_72, bX7_ring_77, bX7_ring_78, bX7_ring_85, bX7_ring_91, c_in, pv_cc_some, bI_0, j0, j60, Int32.toInt_toInt64, hw, tw_m4 T, show nI 0 = 0 from rfl, and_self, not_true_eq_false, not_false_eq_true, if_true, if_false]
    · obtain ⟨k, e, hk⟩ := nIex hw.1
      subst e
      obtain ⟨S', e1, O⟩ := x_lookAtPound T h (N := k) (by omega)
      have T' := Ol_Tw O T
      have z := nI0 hn h
      have I' := Ol_Inv O I
      refine ⟨(itf (rg_s (tw_pa S) (S.1 21 8)) (k + 1) 0 (-1, 0)).1, pv_si S' 35 1 (itf (rg_s (tw_pa S) (S.1 21 8)) (k + 1) 0 (-1, 0)).2, _, ?_, ?_, Inv_asked (v := (itf (rg_s (tw_pa S) (S.1 21 8)) (k + 1) 0 (-1, 0)).2) I'⟩
      · show pv_R mX6_ring 0 [some (.ref 0), some (.int (nI k)), none, none, none, none] [] (pv_em S) = _
        have e2 := x_ringL (S := S') (N := k) (by omega) O.2.2.1 O.2.2.2 (a := none)
        rw [O.1 21 (by decide) (by decide)] at e2
        simp only [bX6_ring_0, bX6_ring_7, bX6_ring_10, bX6_ring_12, bX6_ring_22, bX6_ring_25, bX6_ring_30, bX6_ring_43, bX6_ring_52, bX6_ring_71, bX6_ring_77, bX6_ring_83, x_within, pv_cc_some, pv_cc_void, bI_0, i0, i60, hw, tw_x7 T, z, e1, e2, and_self, not_true_eq_false, not_false_eq_true, if_true, if_false]
      · show pv_R mX7_ring 0 [some (.ref 37), some (.int (nI k)), none, none, none, none] [] (pv_em _) = _
        have T2 : Tw (pv_si S' 35 1 (itf (rg_s (tw_pa S) (S.1 21 8)) (k + 1) 0 (-1, 0)).2) n c := Tw_congr (fun k hk => si_ne (by omega)) (by rw [si_ne (by decide)]) (by rw [si_ne (by decide)]) (by rw [si_ne (by decide)]) T'
        have e3 := m_ringL (N := k) T2 h (by omega) (a := none)
        rw [show tw_pa (pv_si S' 35 1 (itf (rg_s (tw_pa S) (S.1 21 8)) (k + 1) 0 (-1, 0)).2) = tw_pa S from by rw [← tw_pa_Ol O]; unfold tw_pa; rw [si_ne (k' := 42) (by decide), si_ne (k' := 44) (by decide)], si_ne (k' := 37) (by decide), O.1 37 (by decide) (by decide), tw_dog T] at e3
        simp only [bX7_ring_0, bX7_ring_9, bX7_ring_12, bX7_ring_14, bX7_ring_21, bX7_ring_24, bX7_ring_37, bX7_ring_43, bX7_ring_51, bX7_ring_59, bX7_ring_64, bX7_ring_65, bX7_ring_72, bX7_ring_77, bX7_ring_78, bX7_ring_85, bX7_ring_91, c_in, pv_cc_some, bI_0, j0, j60, Int32.toInt_toInt64, hw, tw_m4 T2, z, e3, and_self, not_true_eq_false, not_false_eq_true, if_true, if_false]
  · refine ⟨-1, S, S, ?_, ?_, I⟩
    · show pv_R mX6_ring 0 [some (.ref 0), some (.int w), none, none, none, none] [] (pv_em S) = _
      simp only [bX6_ring_0, bX6_ring_7, bX6_ring_10, bX6_ring_12, bX6_ring_22, bX6_ring_25, bX6_ring_30, bX6_ring_43, bX6_ring_52, bX6_ring_71, bX6_ring_77, bX6_ring_83, x_within, pv_cc_some, bI_0, i0, i60, hw, not_true_eq_false, not_false_eq_true, if_true, if_false]
    · show pv_R mX7_ring 0 [some (.ref 37), some (.int w), none, none, none, none] [] (pv_em S) = _
      simp only [bX7_ring_0, bX7_ring_9, bX7_ring_12, bX7_ring_14, bX7_ring_21, bX7_ring_24, bX7_ring_37, bX7_ring_43, bX7_ring_51, bX7_ring_59, bX7_ring_64, bX7_ring_65, bX7_ring_72, bX7_ring_77, bX7_ring_78, bX7_ring_85, bX7_ring_91, c_in, pv_cc_some, bI_0, j0, j60, Int32.toInt_toInt64, hw, not_true_eq_false, not_false_eq_true, if_true, if_false]
theorem tq_mark (I : Inv S) (i k : Int32) : pv_goI Inv S mX6_mark mX7_mark [.int i, .int k] := by
  obtain ⟨n, c, T⟩ := tw_of I
  have hn := tw_n T
  by_cases hi : 0 ≤ i.toInt ∧ i.toInt < (n : Int)
  · by_cases hk : 1 ≤ k.toInt ∧ k.toInt ≤ 5
    · obtain ⟨p, e2, hp⟩ := nIex hi.1
      subst e2
      have k0 : ¬ k = 0 := fun q => by rw [q, i0] at hk; omega
      have hpn : p < n := by omega
      have hx := kx (k := p) (N := 6) (by omega) (by omega)
      have hc := nIc (i := p) (by omega)
      by_cases q : ko (S.1 42 p) k
      · have q' := q
        rw [tw_kd T hpn] at q'
        obtain ⟨h, eh, hh⟩ := tw_hN T
        have ks : k = 1 ∨ k = 2 ∨ k = 3 ∨ k = 4 ∨ k = 5 := by
          obtain ⟨m, e, hm⟩ := nIex (x := k) (by omega)
          have : m = 1 ∨ m = 2 ∨ m = 3 ∨ m = 4 ∨ m = 5 := by omega
          rw [e]
          rcases this with rfl | rfl | rfl | rfl | rfl
          · exact Or.inl rfl
          · exact Or.inr (Or.inl rfl)
          · exact Or.inr (Or.inr (Or.inl rfl))
          · exact Or.inr (Or.inr (Or.inr (Or.inl rfl)))
          · exact Or.inr (Or.inr (Or.inr (Or.inr rfl)))
        have ex : pv_R mX6_mark 0 [some (.ref 0), some (.int (nI p)), some (.int k)] [] (pv_em S) = pv_R mX6_mark (pv_swt (Int32.toInt k) 1 [80, 99, 110, 129] 152) [some (.ref 0), some (.int (nI p)), some (.int k)] [] (pv_em S) := by
          simp only [bX6_mark_0, bX6_mark_8, bX6_mark_11, bX6_mark_17, bX6_mark_22, bX6_mark_35, bX6_mark_47, x_isCat T, x_within, x_isOf k0, pv_cc_some, bI_0, i1, i5, hi, hk, q', hx, hc, and_self, not_true_eq_false, not_false_eq_true, if_true, if_false]
        have em : pv_R mX7_mark 0 [some (.ref 37), some (.int (nI p)), some (.int k)] [] (pv_em S) = pv_R mX7_mark (pv_swt (Int32.toInt k) 1 [72, 84, 98, 121] 128) [some (.ref 37), some (.int (nI p)), some (.int k)] [] (pv_em S) := by
          simp only [bX7_mark_0, bX7_mark_5, bX7_mark_8, bX7_mark_17, bX7_mark_22, bX7_mark_32, bX7_mark_41, m_isCat T, c_in, m_isOf, pv_cc_some, bI_0, j1, j5, Int32.toInt_toInt64, hi, hk, q, hx, hc, and_self, not_true_eq_false, not_false_eq_true, if_true, if_false]
        rcases ks with rfl | rfl | rfl | rfl | rfl
        · refine ⟨1 - (S.1 44 6 - S.1 44 6 / 2 * 2), S, S, Eq.trans ex ?_, Eq.trans em ?_, I⟩
          · rw [show pv_swt (Int32.toInt 1) 1 [80, 99, 110, 129] 152 = 80 from by decide, bX6_mark_80, x_mice, pv_cc_some, bX6_mark_90, tw_h T]
            have e2 := rm2 (tw_hb T).1
            by_cases z : S.1 44 6 - S.1 44 6 / 2 * 2 = 0
            · rw [bI_f (fun y => y z), if_pos rfl, bX6_mark_97, bX6_mark_98, z]; rfl
            · rw [bI_t z, if_neg (by decide), bX6_mark_93, bX6_mark_98]
              have z1 : S.1 44 6 - S.1 44 6 / 2 * 2 = 1 := by
                have := neI i0 z
                exact Int32.toInt_inj.mp (by rw [i1]; omega)
              rw [z1]; rfl
          · rw [show pv_swt (Int32.toInt 1) 1 [72, 84, 98, 121] 128 = 72 from by decide, bX7_mark_72]; rfl
        · refine ⟨(4 - (S.1 44 6 - S.1 44 6 / 4 * 4)) - (4 - (S.1 44 6 - S.1 44 6 / 4 * 4)) / 4 * 4, S, S, Eq.trans ex ?_, Eq.trans em ?_, I⟩
          · rw [show pv_swt (Int32.toInt 2) 1 [80, 99, 110, 129] 152 = 99 from by decide, bX6_mark_99, bX0_hoursToMoult_0, pv_cc_some, bX6_mark_109, tw_h T]
          · rw [show pv_swt (Int32.toInt 2) 1 [72, 84, 98, 121] 128 = 84 from by decide, bX7_mark_84]; rfl
        · refine ⟨S.1 43 p - tw_meal (S.1 42 p) (S.1 43 p), S, S, Eq.trans ex ?_, Eq.trans em ?_, I⟩
          · rw [show pv_swt (Int32.toInt 3) 1 [80, 99, 110, 129] 152 = 110 from by decide, bX6_mark_110, if_neg (gx (by omega) (by omega)), x_mealAdds T hpn, pv_cc_some, bX6_mark_127, hc, tw_kd T hpn, tw_ap T hpn]
          · rw [show pv_swt (Int32.toInt 3) 1 [72, 84, 98, 121] 128 = 98 from by decide, bX7_mark_98, if_neg (gx (by omega) (by omega)), if_neg (gx (by omega) (by omega)), if_neg (gx (by omega) (by omega)), m_meal, pv_cc_some, bX7_mark_119, hc]
        · refine ⟨S.1 43 p, S, S, Eq.trans ex ?_, Eq.trans em ?_, I⟩
          · have k4 : S.1 22 p = 4 := by
              rcases q' with q | ⟨q, _⟩ | ⟨q, _⟩
              · exact q
              · exact absurd q (by decide)
              · exact absurd q (by decide)
            rw [show pv_swt (Int32.toInt 4) 1 [80, 99, 110, 129] 152 = 129 from by decide, bX6_mark_129, x_mealAdds T hpn, pv_cc_some, bX6_mark_137, if_neg (gx (by omega) (by omega)), hc, x_meal, pv_cc_some, bX6_mark_150, k4, tw_ap T hpn]
            have e1 : tw_meal 4 (S.1 23 p) - tw_meal 1 (S.1 23 p) = S.1 23 p := by
              show 2 * S.1 23 p - S.1 23 p = S.1 23 p
              have := tw_ab T hpn
              refine Int32.toInt_inj.mp ?_
              have e : (2 * S.1 23 p).toInt = 2 * (S.1 23 p).toInt := by rw [ml_i (by rw [i2]; omega) (by rw [i2]; omega), i2]
              rw [sb_i (by rw [e]; omega) (by rw [e]; omega), e]; omega
            rw [e1]
          · rw [show pv_swt (Int32.toInt 4) 1 [72, 84, 98, 121] 128 = 121 from by decide, bX7_mark_121, if_neg (gx (by omega) (by omega)), hc]
        · refine ⟨cn (fun i => ko (S.1 42 i) 3) n - 1, S, S, Eq.trans ex ?_, Eq.trans em ?_, I⟩
          · rw [show pv_swt (Int32.toInt 5) 1 [80, 99, 110, 129] 152 = 152 from by decide, bX6_mark_152, x_countOf T (by decide), pv_cc_some, bX6_mark_160]
          · rw [show pv_swt (Int32.toInt 5) 1 [72, 84, 98, 121] 128 = 128 from by decide, bX7_mark_128, m_kindsOf T, pv_cc_some, bX7_mark_133]
      · have q' := q
        rw [tw_kd T hpn] at q'
        refine ⟨-3, xf S 3, _, ?_, ?_, Inv_find (f := 3) I (by omega) (by omega)⟩
        · show pv_R mX6_mark 0 [some (.ref 0), some (.int (nI p)), some (.int k)] [] (pv_em S) = _
          simp only [bX6_mark_0, bX6_mark_8, bX6_mark_11, bX6_mark_17, bX6_mark_22, bX6_mark_35, bX6_mark_38, bX6_mark_46, x_isCat T, x_within, x_isOf k0, x_find_3, pv_cc_some, bI_0, i1, i5, hi, hk, q', hx, hc, and_self, not_true_eq_false, not_false_eq_true, if_true, if_false]
        · show pv_R mX7_mark 0 [some (.ref 37), some (.int (nI p)), some (.int k)] [] (pv_em (xf S 3)) = _
          have T' : Tw (xf S 3) n c := Tw_congr (fun k hk => xf_ne (by omega) (by omega)) (by rw [xf_ne (by decide) (by decide)]) (by rw [xf_ne (by decide) (by decide)]) (by rw [xf_ne (by decide) (by decide)]) T
          simp only [bX7_mark_0, bX7_mark_5, bX7_mark_8, bX7_mark_17, bX7_mark_22, bX7_mark_32, bX7_mark_35, bX7_mark_40, m_isCat T', c_in, m_isOf, m_find_3, pv_cc_some, bI_0, j1, j5, Int32.toInt_toInt64, xf_ne (S := S) (k := 42) (f := 3) (by decide) (by decide), hi, hk, q, hx, hc, and_self, not_true_eq_false, not_false_eq_true, if_true, if_false]
    · refine ⟨-1, S, S, ?_, ?_, I⟩
      · show pv_R mX6_mark 0 [some (.ref 0), some (.int i), some (.int k)] [] (pv_em S) = _
        simp only [bX6_mark_0, bX6_mark_8, bX6_mark_11, bX6_mark_17, bX6_mark_20, x_isCat T, x_within, pv_cc_some, bI_0, i1, i5, hi, hk, and_self, not_true_eq_false, not_false_eq_true, if_true, if_false]
      · show pv_R mX7_mark 0 [some (.ref 37), some (.int i), some (.int k)] [] (pv_em S) = _
        simp only [bX7_mark_0, bX7_mark_5, bX7_mark_8, bX7_mark_17, bX7_mark_20, m_isCat T, c_in, pv_cc_some, bI_0, j1, j5, Int32.toInt_toInt64, hi, hk, and_self, not_true_eq_false, not_false_eq_true, if_true, if_false]
  · refine ⟨-1, S, S, ?_, ?_, I⟩
    · show pv_R mX6_mark 0 [some (.ref 0), some (.int i), some (.int k)] [] (pv_em S) = _
      simp only [bX6_mark_0, bX6_mark_8, bX6_mark_20, x_isCat T, pv_cc_some, bI_0, hi, not_false_eq_true, if_true]
    · show pv_R mX7_mark 0 [some (.ref 37), some (.int i), some (.int k)] [] (pv_em S) = _
      simp only [bX7_mark_0, bX7_mark_5, bX7_mark_20, m_isCat T, pv_cc_some, bI_0, hi, not_false_eq_true, if_true]
end RG
