/-! ===== digest ===== -/
def hx (h : Int64) (v : Int32) : Int64 := 31 * h + Int32.toInt64 v
def mixF (sz : Nat → Int32) (g : Nat → Nat → Int32) (R : Nat) (h : Int64) : Int64 := itf (fun r h => itf (fun i h => hx h (g r i)) (sz r).toNatClampNeg 0 (hx h (sz r))) R 0 h
theorem mixF_congr {sz sz' : Nat → Int32} {g g' : Nat → Nat → Int32} {R : Nat} {h : Int64} (e1 : ∀ r, r < R → sz r = sz' r) (e2 : ∀ r, r < R → ∀ i, i < (sz r).toNatClampNeg → g r i = g' r i) : mixF sz g R h = mixF sz' g' R h :=
  itf_congr R 0 h fun r a _ hr => by
    have q1 := e1 r (by omega)
    have q2 := e2 r (by omega)
    rw [← q1]
    exact itf_congr _ 0 _ fun i b _ hi => by rw [q2 i (by omega)]
theorem szle {x : Int32} {i : Nat} (h0 : -1 ≤ x.toInt) (hi : i < 100000) : (x ≤ nI i) = (x.toNatClampNeg ≤ i) := by
  rw [leI, nIt hi]
  have e : x.toNatClampNeg = x.toInt.toNat := rfl
  rw [e]
  exact propext ⟨fun q => by omega, fun q => by omega⟩
theorem sz_le {x : Int32} {N : Nat} (h1 : x.toInt ≤ (N : Int)) : x.toNatClampNeg ≤ N := by
  have e : x.toNatClampNeg = x.toInt.toNat := rfl
  rw [e]; omega
section DG
variable {S : pv_S} {n c : Nat}
theorem tw_kp (T : Tw S n c) {k : Nat} (h : k < 3) : (S.1 27 k = -1 ∧ S.1 47 k = 0) ∨ ∃ ck : Nat, ck ≤ 40 ∧ S.1 27 k = nI ck ∧ S.1 47 k = 1 ∧ S.1 46 (411 * k + 410) = nI ck := by
  rcases T.2.2.2.2.2.2.2.2.2.2.2.2.2.2.2 k h with q | ⟨ck, q1, q2, q3, q4, _⟩
  · exact Or.inl q
  · exact Or.inr ⟨ck, q1, q2, q3, q4⟩
theorem x_mixr (I : iv_rows S) {h : Int64} {a b d : Option Value} (ha : pv_nl a = none) : pv_R mX3_mixInto 0 [some (.ref 1), some (.long h), a, b, d] [] (pv_em S) = some (some (.long (mixF (S.1 2) (fun r => S.1 (4 + r)) 6 h)), pv_em S) := by
  rw [bX3_mixIntor_0, ha]
  obtain ⟨⟨h', z⟩, e, hp, _⟩ := lpF (R := fun k (p : Int64 × Option Value) => pv_R mX3_mixInto 2 [some (.ref 1), some (.long p.1), none, some (.int (nI k)), p.2] [] (pv_em S)) (N := 6) (fun p => p.1) (fun r h => itf (fun i h => hx h (S.1 (4 + r) i)) (S.1 2 r).toNatClampNeg 0 (hx h (S.1 2 r))) (fun _ _ => True) (fun k p hk _ => by
    obtain ⟨h, z⟩ := p
    obtain ⟨g1, g2, g3, g4⟩ := I k hk
    have hs := sz_le (N := 40) g3
    refine ⟨(itf (fun i h => hx h (S.1 (4 + k) i)) (S.1 2 k).toNatClampNeg 0 (hx h (S.1 2 k)), some (.int (nI (S.1 2 k).toNatClampNeg))), ?_, rfl, trivial⟩
    refine Eq.trans bX3_mixIntor_2 ?_
    rw [show (6 : Int32) = nI 6 from rfl, if_neg (by rw [nIle (by omega) (by omega)]; omega), bX3_mixIntor_11, if_neg (gx (by omega) (by omega)), nIc (by omega)]
    refine itf_run (R := fun i (h : Int64) => pv_R mX3_mixInto 28 [some (.ref 1), some (.long h), none, some (.int (nI k)), some (.int (nI i))] [] (pv_em S)) (F := fun h => pv_R mX3_mixInto 2 [some (.ref 1), some (.long h), none, some (.int (nI (k + 1))), some (.int (nI (S.1 2 k).toNatClampNeg))] [] (pv_em S)) (N := (S.1 2 k).toNatClampNeg) (fun i h hi => ?_) (fun h => ?_) _ 0 _ (by omega)
    · refine Eq.trans bX3_mixIntor_28 ?_
      rw [if_neg (gx (by omega) (by omega)), nIc (by omega), if_neg (by rw [szle g2 (by omega)]; omega), bX3_mixIntor_39, if_neg (gx (by omega) (by omega)), if_neg (gx (by omega) (by omega)), nIc (by omega), nIc (by omega), nIs]
      rfl
    · refine Eq.trans bX3_mixIntor_28 ?_
      rw [if_neg (gx (by omega) (by omega)), nIc (by omega), if_pos (by rw [szle g2 (by omega)]; exact Nat.le_refl _), bX3_mixIntor_62, nIs]
      rfl) 6 0 (h, d) (by omega) trivial
  have hp : h' = mixF (S.1 2) (fun r => S.1 (4 + r)) 6 h := hp
  refine Eq.trans e ?_
  rw [← hp]
  show pv_R mX3_mixInto 2 _ _ _ = _
  rw [bX3_mixIntor_2, if_pos (show (6 : Int32) ≤ nI 6 from by decide), bX3_mixIntor_68]
theorem x_mixt (I : iv_texts S) {h : Int64} {a b d : Option Value} (ha : pv_nl a = none) : pv_R mX3_mixInto 0 [some (.ref 10), some (.long h), a, b, d] [] (pv_em S) = some (some (.long (mixF (S.1 11) (fun r => S.1 (13 + r)) 4 h)), pv_em S) := by
  rw [bX3_mixIntot_0, ha]
  obtain ⟨⟨h', z⟩, e, hp, _⟩ := lpF (R := fun k (p : Int64 × Option Value) => pv_R mX3_mixInto 2 [some (.ref 10), some (.long p.1), none, some (.int (nI k)), p.2] [] (pv_em S)) (N := 4) (fun p => p.1) (fun r h => itf (fun i h => hx h (S.1 (13 + r) i)) (S.1 11 r).toNatClampNeg 0 (hx h (S.1 11 r))) (fun _ _ => True) (fun k p hk _ => by
    obtain ⟨h, z⟩ := p
    obtain ⟨g1, g2, g3, g4⟩ := I k hk
    have hs := sz_le (N := 60) g3
    refine ⟨(itf (fun i h => hx h (S.1 (13 + k) i)) (S.1 11 k).toNatClampNeg 0 (hx h (S.1 11 k)), some (.int (nI (S.1 11 k).toNatClampNeg))), ?_, rfl, trivial⟩
    refine Eq.trans bX3_mixIntot_2 ?_
    rw [show (4 : Int32) = nI 4 from rfl, if_neg (by rw [nIle (by omega) (by omega)]; omega), bX3_mixIntot_11, if_neg (gx (by omega) (by omega)), nIc (by omega)]
    refine itf_run (R := fun i (h : Int64) => pv_R mX3_mixInto 28 [some (.ref 10), some (.long h), none, some (.int (nI k)), some (.int (nI i))] [] (pv_em S)) (F := fun h => pv_R mX3_mixInto 2 [some (.ref 10), some (.long h), none, some (.int (nI (k + 1))), some (.int (nI (S.1 11 k).toNatClampNeg))] [] (pv_em S)) (N := (S.1 11 k).toNatClampNeg) (fun i h hi => ?_) (fun h => ?_) _ 0 _ (by omega)
    · refine Eq.trans bX3_mixIntot_28 ?_
      rw [if_neg (gx (by omega) (by omega)), nIc (by omega), if_neg (by rw [szle g2 (by omega)]; omega), bX3_mixIntot_39, if_neg (gx (by omega) (by omega)), if_neg (gx (by omega) (by omega)), nIc (by omega), nIc (by omega), nIs]
      rfl
    · refine Eq.trans bX3_mixIntot_28 ?_
      rw [if_neg (gx (by omega) (by omega)), nIc (by omega), if_pos (by rw [szle g2 (by omega)]; exact Nat.le_refl _), bX3_mixIntot_62, nIs]
      rfl) 4 0 (h, d) (by omega) trivial
  have hp : h' = mixF (S.1 11) (fun r => S.1 (13 + r)) 4 h := hp
  refine Eq.trans e ?_
  rw [← hp]
  show pv_R mX3_mixInto 2 _ _ _ = _
  rw [bX3_mixIntot_2, if_pos (show (4 : Int32) ≤ nI 4 from by decide), bX3_mixIntot_68]
def dgA (S : pv_S) (n c : Nat) : Int64 := hx (itf (fun w h => hx h (tw_cv S n c w)) 12 0 17) (S.1 44 7)
def dgB (S : pv_S) (n c : Nat) : Int64 := itf (fun i h => itf (fun w h => hx h (tw_tv S i w)) 5 0 h) n 0 (dgA S n c)
def dgC (S : pv_S) (n c : Nat) : Int64 := itf (fun k h => hx h (S.1 27 k)) 3 0 (dgB S n c)
theorem x_digest (I : Inv S) (T : Tw S n c) {a b d e : Option Value} : pv_R mX6_digest 0 [some (.ref 0), a, b, d, e] [] (pv_em S) = some (some (.long (mixF (S.1 11) (fun r => S.1 (13 + r)) 4 (mixF (S.1 2) (fun r => S.1 (4 + r)) 6 (dgC S n c)))), pv_em S) := by
  have hn := tw_n T
  rw [bX6_digest_0]
  have s1 := itf_run (R := fun k (h : Int64) => pv_R mX6_digest 6 [some (.ref 0), some (.long h), none, some (.int (nI k)), e] [] (pv_em S)) (f := fun w h => hx h (tw_cv S n c w)) (F := fun h => pv_R mX6_digest 48 [some (.ref 0), some (.long (hx h (S.1 44 7))), none, some (.int 0), e] [] (pv_em S)) (N := 12) (fun k h hk => by
    refine Eq.trans bX6_digest_6 ?_
    rw [show (11 : Int32) = nI 11 from rfl, if_neg (by rw [nIlt (by omega) (by omega)]; omega), bX6_digest_12, x_count I T (by omega), pv_cc_some, bX6_digest_22, nIs]
    rfl) (fun h => by
    refine Eq.trans bX6_digest_6 ?_
    rw [if_pos (show (11 : Int32) < nI 12 from by decide), bX6_digest_31, tw_p T]
    rfl) 12 0 17 (by omega)
  refine Eq.trans s1 ?_
  obtain ⟨⟨h2, z2⟩, e2, hp2, _⟩ := lpF (R := fun k (p : Int64 × Option Value) => pv_R mX6_digest 48 [some (.ref 0), some (.long p.1), none, some (.int (nI k)), p.2] [] (pv_em S)) (N := n) (fun p => p.1) (fun i h => itf (fun w h => hx h (tw_tv S i w)) 5 0 h) (fun _ _ => True) (fun k p hk _ => by
    obtain ⟨h, z⟩ := p
    refine ⟨(itf (fun w h => hx h (tw_tv S k w)) 5 0 h, some (.int (nI 5))), ?_, rfl, trivial⟩
    refine Eq.trans bX6_digest_48 ?_
    rw [tw_x7 T, if_neg (by rw [nIle (by omega) (by omega)]; omega), bX6_digest_59]
    refine itf_run (R := fun w (h : Int64) => pv_R mX6_digest 62 [some (.ref 0), some (.long h), none, some (.int (nI k)), some (.int (nI w))] [] (pv_em S)) (f := fun w h => hx h (tw_tv S k w)) (F := fun h => pv_R mX6_digest 48 [some (.ref 0), some (.long h), none, some (.int (nI (k + 1))), some (.int (nI 5))] [] (pv_em S)) (N := 5) (fun w h hw => ?_) (fun h => ?_) 5 0 h (by omega)
    · refine Eq.trans bX6_digest_62 ?_
      rw [show (4 : Int32) = nI 4 from rfl, if_neg (by rw [nIlt (by omega) (by omega)]; omega), bX6_digest_68, x_trait T hk (by omega), pv_cc_some, bX6_digest_83, nIs]
      rfl
    · refine Eq.trans bX6_digest_62 ?_
      rw [if_pos (show (4 : Int32) < nI 5 from by decide), bX6_digest_92, nIs]
      rfl) n 0 (dgA S n c, e) (by omega) trivial
  have hp2 : h2 = dgB S n c := hp2
  refine Eq.trans e2 ?_
  show pv_R mX6_digest 48 _ _ _ = _
  rw [bX6_digest_48, tw_x7 T, if_pos (Int32.le_refl _), bX6_digest_98]
  have s3 := itf_run (R := fun k (h : Int64) => pv_R mX6_digest 100 [some (.ref 0), some (.long h), none, some (.int (nI k)), z2] [] (pv_em S)) (f := fun k h => hx h (S.1 27 k)) (F := fun h => pv_R mX6_digest 128 [some (.ref 0), some (.long h), none, some (.int (nI 3)), z2] [] (pv_em S)) (N := 3) (fun k h hk => by
    refine Eq.trans bX6_digest_100 ?_
    rw [show (3 : Int32) = nI 3 from rfl, if_neg (by rw [nIle (by omega) (by omega)]; omega), bX6_digest_105, if_neg (gx (by omega) (by omega)), nIc (by omega), nIs]
    rfl) (fun h => by
    refine Eq.trans bX6_digest_100 ?_
    rw [if_pos (show (3 : Int32) ≤ nI 3 from by decide)]) 3 0 h2 (by omega)
  refine Eq.trans s3 ?_
  rw [hp2]
  show pv_R mX6_digest 128 [some (.ref 0), some (.long (dgC S n c)), none, some (.int (nI 3)), z2] [] (pv_em S) = _
  rw [bX6_digest_128, x_mixr I.1 rfl, pv_cc_some, bX6_digest_136, x_mixt I.2.1 rfl, pv_cc_some, bX6_digest_145]
theorem m_digest (I : Inv S) (T : Tw S n c) {a b d e : Option Value} : pv_R mX7_digest 0 [some (.ref 37), a, b, d, e] [] (pv_em S) = some (some (.long (mixF (S.1 40) (fun r i => S.1 41 (60 * r + i)) 4 (mixF (S.1 38) (fun r i => S.1 39 (40 * r + i)) 6 (dgC S n c)))), pv_em S) := by
  have hn := tw_n T
  rw [bX7_digest_0]
  have s1 := itf_run (R := fun k (h : Int64) => pv_R mX7_digest 6 [some (.ref 37), some (.long h), none, some (.int (nI k)), e] [] (pv_em S)) (f := fun w h => hx h (tw_cv S n c w)) (F := fun h => pv_R mX7_digest 48 [some (.ref 37), some (.long (hx h (S.1 44 7))), none, some (.int 0), e] [] (pv_em S)) (N := 12) (fun k h hk => by
    refine Eq.trans bX7_digest_6 ?_
    rw [show (12 : Int32) = nI 12 from rfl, if_neg (by rw [nIle (by omega) (by omega)]; omega), bX7_digest_12, m_counted T (by omega), pv_cc_some, bX7_digest_22, nIs]
    rfl) (fun h => by
    refine Eq.trans bX7_digest_6 ?_
    rw [if_pos (show (12 : Int32) ≤ nI 12 from by decide), bX7_digest_31]
    rfl) 12 0 17 (by omega)
  refine Eq.trans s1 ?_
  obtain ⟨⟨h2, z2⟩, e2, hp2, _⟩ := lpF (R := fun k (p : Int64 × Option Value) => pv_R mX7_digest 48 [some (.ref 37), some (.long p.1), none, some (.int (nI k)), p.2] [] (pv_em S)) (N := n) (fun p => p.1) (fun i h => itf (fun w h => hx h (tw_tv S i w)) 5 0 h) (fun _ _ => True) (fun k p hk _ => by
    obtain ⟨h, z⟩ := p
    refine ⟨(itf (fun w h => hx h (tw_tv S k w)) 5 0 h, some (.int (nI 5))), ?_, rfl, trivial⟩
    refine Eq.trans bX7_digest_48 ?_
    rw [tw_m4 T, if_neg (by rw [nIle (by omega) (by omega)]; omega), bX7_digest_56]
    refine itf_run (R := fun w (h : Int64) => pv_R mX7_digest 59 [some (.ref 37), some (.long h), none, some (.int (nI k)), some (.int (nI w))] [] (pv_em S)) (f := fun w h => hx h (tw_tv S k w)) (F := fun h => pv_R mX7_digest 48 [some (.ref 37), some (.long h), none, some (.int (nI (k + 1))), some (.int (nI 5))] [] (pv_em S)) (N := 5) (fun w h hw => ?_) (fun h => ?_) 5 0 h (by omega)
    · refine Eq.trans bX7_digest_59 ?_
      rw [show (5 : Int32) = nI 5 from rfl, if_neg (by rw [nIle (by omega) (by omega)]; omega), bX7_digest_65, m_told T hk (by omega), pv_cc_some, bX7_digest_77, nIs]
      rfl
    · refine Eq.trans bX7_digest_59 ?_
      rw [if_pos (show (5 : Int32) ≤ nI 5 from by decide), bX7_digest_86, nIs]
      rfl) n 0 (dgA S n c, e) (by omega) trivial
  have hp2 : h2 = dgB S n c := hp2
  refine Eq.trans e2 ?_
  show pv_R mX7_digest 48 _ _ _ = _
  rw [bX7_digest_48, tw_m4 T, if_pos (Int32.le_refl _), bX7_digest_92]
  have s3 := itf_run (R := fun k (h : Int64) => pv_R mX7_digest 94 [some (.ref 37), some (.long h), none, some (.int (nI k)), z2] [] (pv_em S)) (f := fun k h => hx h (S.1 27 k)) (F := fun h => pv_R mX7_digest 142 [some (.ref 37), some (.long h), none, some (.int 0), z2] [] (pv_em S)) (N := 3) (fun k h hk => by
    refine Eq.trans bX7_digest_94 ?_
    rw [show (3 : Int32) = nI 3 from rfl, if_neg (by rw [nIle (by omega) (by omega)]; omega), bX7_digest_99, if_neg (gx (by omega) (by omega)), nIc (by omega)]
    rcases tw_kp T hk with ⟨q1, q2⟩ | ⟨ck, q1, q2, q3, q4⟩
    · rw [q2, if_pos rfl, bX7_digest_130, bX7_digest_131, nIs]
      unfold hx
      rw [q1]
    · rw [q3, if_neg (by decide), bX7_digest_113, e411 (by omega), show (410 : Int32) = nI 410 from rfl, nIadd, if_neg (gx (by omega) (by omega)), nIc (by omega), q4, bX7_digest_131, nIs]
      unfold hx
      rw [q2]) (fun h => by
    refine Eq.trans bX7_digest_94 ?_
    rw [if_pos (show (3 : Int32) ≤ nI 3 from by decide), bX7_digest_140]
    rfl) 3 0 h2 (by omega)
  refine Eq.trans s3 ?_
  rw [hp2]
  obtain ⟨⟨h4, z4⟩, e4, hp4, _⟩ := lpF (R := fun k (p : Int64 × Option Value) => pv_R mX7_digest 142 [some (.ref 37), some (.long p.1), none, some (.int (nI k)), p.2] [] (pv_em S)) (N := 6) (fun p => p.1) (fun r h => itf (fun i h => hx h (S.1 39 (40 * r + i))) (S.1 38 r).toNatClampNeg 0 (hx h (S.1 38 r))) (fun _ _ => True) (fun k p hk _ => by
    obtain ⟨h, z⟩ := p
    obtain ⟨g1, g2, g3, g4⟩ := I.1 k hk
    rw [← g1] at g2 g3
    have hs := sz_le (N := 40) g3
    refine ⟨(itf (fun i h => hx h (S.1 39 (40 * k + i))) (S.1 38 k).toNatClampNeg 0 (hx h (S.1 38 k)), some (.int (nI (S.1 38 k).toNatClampNeg))), ?_, rfl, trivial⟩
    refine Eq.trans bX7_digest_142 ?_
    rw [show (6 : Int32) = nI 6 from rfl, if_neg (by rw [nIle (by omega) (by omega)]; omega), bX7_digest_148, if_neg (gx (by omega) (by omega)), nIc (by omega)]
    refine itf_run (R := fun i (h : Int64) => pv_R mX7_digest 165 [some (.ref 37), some (.long h), none, some (.int (nI k)), some (.int (nI i))] [] (pv_em S)) (F := fun h => pv_R mX7_digest 142 [some (.ref 37), some (.long h), none, some (.int (nI (k + 1))), some (.int (nI (S.1 38 k).toNatClampNeg))] [] (pv_em S)) (N := (S.1 38 k).toNatClampNeg) (fun i h hi => ?_) (fun h => ?_) _ 0 _ (by omega)
    · refine Eq.trans bX7_digest_165 ?_
      rw [if_neg (gx (by omega) (by omega)), nIc (by omega), if_neg (by rw [szle g2 (by omega)]; omega), bX7_digest_176, e40m (by omega), nIadd, if_neg (gx (by omega) (by omega)), nIc (by omega), nIs]
      rfl
    · refine Eq.trans bX7_digest_165 ?_
      rw [if_neg (gx (by omega) (by omega)), nIc (by omega), if_pos (by rw [szle g2 (by omega)]; exact Nat.le_refl _), bX7_digest_202, nIs]
      rfl) 6 0 (dgC S n c, z2) (by omega) trivial
  have hp4 : h4 = mixF (S.1 38) (fun r i => S.1 39 (40 * r + i)) 6 (dgC S n c) := hp4
  refine Eq.trans e4 ?_
  show pv_R mX7_digest 142 _ _ _ = _
  rw [bX7_digest_142, if_pos (show (6 : Int32) ≤ nI 6 from by decide), bX7_digest_208]
  obtain ⟨⟨h5, z5⟩, e5, hp5, _⟩ := lpF (R := fun k (p : Int64 × Option Value) => pv_R mX7_digest 210 [some (.ref 37), some (.long p.1), none, some (.int (nI k)), p.2] [] (pv_em S)) (N := 4) (fun p => p.1) (fun r h => itf (fun i h => hx h (S.1 41 (60 * r + i))) (S.1 40 r).toNatClampNeg 0 (hx h (S.1 40 r))) (fun _ _ => True) (fun k p hk _ => by
    obtain ⟨h, z⟩ := p
    obtain ⟨g1, g2, g3, g4⟩ := I.2.1 k hk
    rw [← g1] at g2 g3
    have hs := sz_le (N := 60) g3
    refine ⟨(itf (fun i h => hx h (S.1 41 (60 * k + i))) (S.1 40 k).toNatClampNeg 0 (hx h (S.1 40 k)), some (.int (nI (S.1 40 k).toNatClampNeg))), ?_, rfl, trivial⟩
    refine Eq.trans bX7_digest_210 ?_
    rw [show (4 : Int32) = nI 4 from rfl, if_neg (by rw [nIle (by omega) (by omega)]; omega), bX7_digest_215, if_neg (gx (by omega) (by omega)), nIc (by omega)]
    refine itf_run (R := fun i (h : Int64) => pv_R mX7_digest 232 [some (.ref 37), some (.long h), none, some (.int (nI k)), some (.int (nI i))] [] (pv_em S)) (F := fun h => pv_R mX7_digest 210 [some (.ref 37), some (.long h), none, some (.int (nI (k + 1))), some (.int (nI (S.1 40 k).toNatClampNeg))] [] (pv_em S)) (N := (S.1 40 k).toNatClampNeg) (fun i h hi => ?_) (fun h => ?_) _ 0 _ (by omega)
    · refine Eq.trans bX7_digest_232 ?_
      rw [if_neg (gx (by omega) (by omega)), nIc (by omega), if_neg (by rw [szle g2 (by omega)]; omega), bX7_digest_243, e60m (by omega), nIadd, if_neg (gx (by omega) (by omega)), nIc (by omega), nIs]
      rfl
    · refine Eq.trans bX7_digest_232 ?_
      rw [if_neg (gx (by omega) (by omega)), nIc (by omega), if_pos (by rw [szle g2 (by omega)]; exact Nat.le_refl _), bX7_digest_269, nIs]
      rfl) 4 0 (h4, z4) (by omega) trivial
  have hp5 : h5 = mixF (S.1 40) (fun r i => S.1 41 (60 * r + i)) 4 h4 := hp5
  refine Eq.trans e5 ?_
  show pv_R mX7_digest 210 _ _ _ = _
  rw [bX7_digest_210, if_pos (show (4 : Int32) ≤ nI 4 from by decide), bX7_digest_275, hp5, hp4]
theorem tq_digest (I : Inv S) : pv_goJ Inv S mX6_digest mX7_digest [] := by
  obtain ⟨n, c, T⟩ := tw_of I
  refine ⟨_, S, S, x_digest I T, ?_, I⟩
  refine Eq.trans (m_digest I T) ?_
  rw [mixF_congr (sz := S.1 38) (sz' := S.1 2) (g := fun r i => S.1 39 (40 * r + i)) (g' := fun r => S.1 (4 + r)) (R := 6) (fun r hr => (I.1 r hr).1) (fun r hr i hi => ?_), mixF_congr (sz := S.1 40) (sz' := S.1 11) (g := fun r i => S.1 41 (60 * r + i)) (g' := fun r => S.1 (13 + r)) (R := 4) (fun r hr => (I.2.1 r hr).1) (fun r hr i hi => ?_)]
  · obtain ⟨g1, g2, g3, g4⟩ := I.2.1 r hr
    rw [g1] at hi
    have e : (S.1 11 r).toNatClampNeg = (S.1 11 r).toInt.toNat := rfl
    exact g4 i (by omega)
  · obtain ⟨g1, g2, g3, g4⟩ := I.1 r hr
    rw [g1] at hi
    have e : (S.1 2 r).toNatClampNeg = (S.1 2 r).toInt.toNat := rfl
    exact g4 i (by omega)
end DG
