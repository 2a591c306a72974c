/-! ===== loops, and what is known of the town ===== -/
def itr {α : Type} (f : Nat → α → α) (a : α) : Nat → α
  | 0 => a
  | k + 1 => f k (itr f a k)
theorem itr_runk {α X : Type} {R : Nat → α → X} {f : Nat → α → α} {a : α} {N : Nat} (h : ∀ k, k < N → R k (itr f a k) = R (k + 1) (itr f a (k + 1))) : ∀ k, k ≤ N → R 0 a = R k (itr f a k)
  | 0, _ => rfl
  | k + 1, hk => (itr_runk h k (by omega)).trans (h k (by omega))
theorem itr_run {α X : Type} (R : Nat → α → X) (f : Nat → α → α) {a : α} (N : Nat) (h : ∀ k, k < N → R k (itr f a k) = R (k + 1) (itr f a (k + 1))) : R 0 a = R N (itr f a N) := itr_runk h N (Nat.le_refl N)
def fsh {β : Type} (p : Nat → Prop) [DecidablePred p] (a : Nat → β) (e : β) : Nat → Nat → β
  | 0, _ => e
  | m + 1, k => if p k then a k else fsh p a e m (k + 1)
theorem fsh_run {β X : Type} {p : Nat → Prop} [DecidablePred p] {a : Nat → β} {e : β} {R : Nat → X} {F : β → X} {N : Nat} (h : ∀ k, k < N → R k = if p k then F (a k) else R (k + 1)) (he : R N = F e) : ∀ m k, k + m = N → R k = F (fsh p a e m k)
  | 0, k, hk => by
    have : k = N := by omega
    subst this
    exact he
  | m + 1, k, hk => by
    rw [h k (by omega), fsh_run h he m (k + 1) (by omega)]
    show _ = F (if p k then a k else fsh p a e m (k + 1))
    by_cases q : p k
    · rw [if_pos q, if_pos q]
    · rw [if_neg q, if_neg q]
theorem ixI {k N : Nat} (h : k < 100000) : (nI k < 0 ∨ N ≤ (nI k).toNatClampNeg) = (N ≤ k) := by
  rw [Int32.lt_iff_toInt_lt, nIt h, nIc h, i0]
  exact propext ⟨fun q => by omega, fun q => by omega⟩
theorem ixF {k N : Nat} (h : k < N) (hN : N < 100000) : (nI k < 0 ∨ N ≤ (nI k).toNatClampNeg) = False := by
  rw [ixI (by omega)]
  exact eq_false (by omega)
theorem gx {k N : Nat} (h : k < N) (hN : N < 100000) : ¬ (nI k < 0 ∨ N ≤ (nI k).toNatClampNeg) := fun q => (ixF h hN).mp q
theorem kx {k N : Nat} (h : k < N) (hN : N < 100000) : (nI k < 0 ∨ N ≤ k) = False := by
  have := ixF h hN
  rwa [nIc (by omega)] at this
theorem nIlt {a b : Nat} (ha : a < 100000) (hb : b < 100000) : (nI a < nI b) = (a < b) := by
  rw [Int32.lt_iff_toInt_lt, nIt ha, nIt hb]
  exact propext ⟨fun q => by omega, fun q => by omega⟩
theorem nIeq {a b : Nat} (ha : a < 100000) (hb : b < 100000) : (nI a = nI b) = (a = b) := by
  refine propext ⟨fun q => ?_, fun q => by rw [q]⟩
  have := congrArg Int32.toInt q
  rw [nIt ha, nIt hb] at this
  omega
theorem nIex {x : Int32} (h0 : 0 ≤ x.toInt) : ∃ k : Nat, x = nI k ∧ (k : Int) = x.toInt := ⟨x.toInt.toNat, nIof h0, by omega⟩
theorem nIadd {a b : Nat} : nI a + nI b = nI (a + b) := by
  unfold nI
  rw [← Int32.toBitVec_inj]
  simp [BitVec.ofNat_add]
/-- the town: n cats, c deeds -/
def Tw (S : pv_S) (n c : Nat) : Prop := n ≤ 6 ∧ c ≤ 40 ∧ S.1 21 7 = nI n ∧ S.1 37 4 = nI n ∧ S.1 37 5 = S.1 21 8 ∧ S.1 21 13 = nI c ∧ S.1 37 9 = nI c ∧
  (∀ i : Nat, i < n → S.1 42 i = S.1 22 i ∧ 0 ≤ (S.1 22 i).toInt ∧ (S.1 22 i).toInt ≤ 5 ∧ S.1 43 i = S.1 23 i ∧ 0 ≤ (S.1 23 i).toInt ∧ (S.1 23 i).toInt ≤ 9 ∧ 1 ≤ (S.1 24 i).toInt ∧ (S.1 24 i).toInt ≤ 99) ∧
  (∀ j : Nat, j < 10 → S.1 44 j = tw_rp n (S.1 22) (S.1 23) (S.1 24) (S.1 26) c j) ∧ (∀ i : Nat, i < n → S.1 25 i = S.1 44 i) ∧ S.1 21 9 = S.1 44 6 ∧ S.1 21 11 = S.1 44 7 ∧ S.1 21 12 = S.1 44 8 ∧ S.1 21 10 = S.1 44 9 ∧
  (∀ d : Nat, d < c → tw_ok n (S.1 26 d) ∧ ∀ j : Nat, j < 10 → S.1 45 (10 * d + j) = tw_rp n (S.1 22) (S.1 23) (S.1 24) (S.1 26) d j) ∧
  ∀ k : Nat, k < 3 → (S.1 27 k = -1 ∧ S.1 47 k = 0) ∨ ∃ ck : Nat, ck ≤ 40 ∧ S.1 27 k = nI ck ∧ S.1 47 k = 1 ∧ S.1 46 (411 * k + 410) = nI ck ∧ (∀ j : Nat, j < 10 → S.1 46 (411 * k + j) = tw_rp n (S.1 22) (S.1 23) (S.1 24) (S.1 (29 + k)) ck j) ∧ ∀ d : Nat, d < ck → tw_ok n (S.1 (29 + k) d) ∧ ∀ j : Nat, j < 10 → S.1 46 (411 * k + 10 + (10 * d + j)) = tw_rp n (S.1 22) (S.1 23) (S.1 24) (S.1 (29 + k)) d j
theorem Tw_congr {S S' : pv_S} {n c : Nat} (h : ∀ k, (21 ≤ k ∧ k ≤ 31) ∨ (42 ≤ k ∧ k ≤ 47) → S'.1 k = S.1 k) (h4 : S'.1 37 4 = S.1 37 4) (h5 : S'.1 37 5 = S.1 37 5) (h9 : S'.1 37 9 = S.1 37 9) (I : Tw S n c) : Tw S' n c := by
  obtain ⟨g1, g2, g3, g4, g5, g6, g7, g8, g9, g10, g11, g12, g13, g14, g15, g16⟩ := I
  have e := fun k (q : (21 ≤ k ∧ k ≤ 31) ∨ (42 ≤ k ∧ k ≤ 47)) => h k q
  unfold Tw
  rw [e 21 (by omega), e 22 (by omega), e 23 (by omega), e 24 (by omega), e 25 (by omega), e 26 (by omega), e 27 (by omega), e 42 (by omega), e 43 (by omega), e 44 (by omega), e 45 (by omega), e 46 (by omega), e 47 (by omega), h4, h5, h9]
  refine ⟨g1, g2, g3, g4, g5, g6, g7, g8, g9, g10, g11, g12, g13, g14, g15, fun k hk => ?_⟩
  rw [e (29 + k) (by omega)]
  exact g16 k hk
/-- bounds of a state -/
def tw_b (n d : Nat) (N : Nat → Int32) : Prop := (∀ i, i < n → 1 ≤ (N i).toInt ∧ (N i).toInt ≤ 200) ∧ (0 ≤ (N 6).toInt ∧ (N 6).toInt ≤ d) ∧ (N 9 = 0 ∨ ∃ r, r < n ∧ N 9 = nI r) ∧ ∀ j, n ≤ j → j < 6 → N j = 0
theorem i10 : (10 : Int32).toInt = 10 := by decide
theorem i20 : (20 : Int32).toInt = 20 := by decide
theorem i30 : (30 : Int32).toInt = 30 := by decide
theorem tw_b_act {n d : Nat} {kd ap N : Nat → Int32} {deed : Int32} (hn : n ≤ 6) (hd : d ≤ 1000) (ho : tw_ok n deed) (h : tw_b n d N) : tw_b n (d + 1) (tw_act n kd ap deed N) := by
  obtain ⟨h1, h2, h3, h5⟩ := h
  have hdd : deed.toInt = 0 ∨ (10 ≤ deed.toInt ∧ deed.toInt < 10 + n) ∨ (21 ≤ deed.toInt ∧ deed.toInt ≤ 29) ∨ (31 ≤ deed.toInt ∧ deed.toInt ≤ 39) ∨ (40 ≤ deed.toInt ∧ deed.toInt < 40 + n) := by
    rcases ho with q | q
    · exact Or.inl (by rw [q]; rfl)
    · exact Or.inr q
  unfold tw_act
  by_cases q1 : deed < 10
  · rw [if_pos q1]
    refine ⟨fun i hi => ?_, ?_, ?_, fun j j1 j2 => by dsimp only; rw [if_neg (by omega), if_neg (by omega)]; exact h5 j j1 j2⟩
    · dsimp only
      rw [if_pos hi]
      exact held_in _
    · dsimp only
      rw [if_neg (by omega), if_pos rfl, ad_i (by rw [i1]; omega) (by rw [i1]; omega), i1]
      omega
    · show (if 9 < n then _ else if 9 = 6 then N 6 + 1 else N 9 : Int32) = 0 ∨ _
      rw [if_neg (by omega), if_neg (by omega)]
      rcases h3 with h3 | ⟨r, h3, h4⟩
      · exact Or.inl h3
      · exact Or.inr ⟨r, h3, by show (if 9 < n then _ else if 9 = 6 then N 6 + 1 else N 9 : Int32) = _; rw [if_neg (by omega), if_neg (by omega)]; exact h4⟩
  rw [if_neg q1]
  by_cases q2 : deed < 20
  · rw [if_pos q2]
    rw [Int32.lt_iff_toInt_lt, i10] at q1
    rw [Int32.lt_iff_toInt_lt, i20] at q2
    have e : (deed - 10).toInt = deed.toInt - 10 := by rw [sb_i (by rw [i10]; omega) (by rw [i10]; omega), i10]
    have e2 := tcn (r := deed - 10) (by rw [e]; omega)
    refine ⟨fun i hi => ?_, ?_, ?_, fun j j1 j2 => by dsimp only; rw [if_neg (by omega)]; exact h5 j j1 j2⟩
    · dsimp only
      by_cases q : i = (deed - 10).toNatClampNeg
      · rw [if_pos q]; exact held_in _
      · rw [if_neg q]; exact h1 i hi
    · dsimp only
      rw [if_neg (by omega)]; omega
    · show (if 9 = (deed - 10).toNatClampNeg then _ else N 9 : Int32) = 0 ∨ ∃ r, r < n ∧ (if 9 = (deed - 10).toNatClampNeg then _ else N 9 : Int32) = nI r
      rw [if_neg (by omega)]; exact h3
  rw [if_neg q2]
  by_cases q3 : deed < 30
  · rw [if_pos q3]
    refine ⟨fun i hi => ?_, ?_, ?_, fun j j1 j2 => by dsimp only; rw [if_neg (by omega), if_neg (by omega)]; exact h5 j j1 j2⟩
    · show 1 ≤ (if i = 7 then _ else if i = 8 then _ else N i : Int32).toInt ∧ (if i = 7 then _ else if i = 8 then _ else N i : Int32).toInt ≤ _
      rw [if_neg (by omega), if_neg (by omega)]; exact h1 i hi
    · show 0 ≤ (N 6).toInt ∧ (N 6).toInt ≤ _
      omega
    · exact h3
  rw [if_neg q3]
  by_cases q4 : deed < 40
  · rw [if_pos q4]
    refine ⟨fun i hi => ?_, ?_, ?_, fun j j1 j2 => by dsimp only; rw [if_neg (by omega), if_neg (by omega)]; exact h5 j j1 j2⟩
    · show 1 ≤ (if i = 7 then _ else if i = 8 then _ else N i : Int32).toInt ∧ (if i = 7 then _ else if i = 8 then _ else N i : Int32).toInt ≤ _
      rw [if_neg (by omega), if_neg (by omega)]; exact h1 i hi
    · show 0 ≤ (N 6).toInt ∧ (N 6).toInt ≤ _
      omega
    · exact h3
  rw [if_neg q4]
  rw [Int32.lt_iff_toInt_lt, i40] at q4
  have e : (deed - 40).toInt = deed.toInt - 40 := by rw [sb_i (by rw [i40]; omega) (by rw [i40]; omega), i40]
  refine ⟨fun i hi => ?_, ?_, Or.inr ⟨(deed - 40).toInt.toNat, by omega, ?_⟩, fun j j1 j2 => by dsimp only; rw [if_neg (by omega)]; exact h5 j j1 j2⟩
  · show 1 ≤ (if i = 9 then _ else N i : Int32).toInt ∧ (if i = 9 then _ else N i : Int32).toInt ≤ _
    rw [if_neg (by omega)]; exact h1 i hi
  · show 0 ≤ (N 6).toInt ∧ (N 6).toInt ≤ _
    omega
  · show deed - 40 = _
    exact nIof (by omega)
theorem tw_b_rp {n : Nat} {kd ap fw dl : Nat → Int32} (hn : n ≤ 6) (hf : ∀ i, i < n → 1 ≤ (fw i).toInt ∧ (fw i).toInt ≤ 99) : ∀ d, d ≤ 1000 → (∀ k, k < d → tw_ok n (dl k)) → tw_b n d (tw_rp n kd ap fw dl d)
  | 0, _, _ => by
    refine ⟨fun i hi => ?_, ?_, Or.inl ?_, fun j j1 j2 => if_neg (by omega)⟩
    · show 1 ≤ (if i < n then fw i else 0 : Int32).toInt ∧ (if i < n then fw i else 0 : Int32).toInt ≤ 200
      rw [if_pos hi]
      have := hf i hi
      omega
    · show 0 ≤ (if 6 < n then fw 6 else 0 : Int32).toInt ∧ (if 6 < n then fw 6 else 0 : Int32).toInt ≤ _
      rw [if_neg (by omega), i0]; omega
    · show (if 9 < n then fw 9 else 0 : Int32) = 0
      rw [if_neg (by omega)]
  | d + 1, hd, ho => tw_b_act hn (by omega) (ho d (by omega)) (tw_b_rp hn hf d (by omega) fun k hk => ho k (by omega))
theorem tw_rp_congr {n : Nat} {kd ap fw dl dl' : Nat → Int32} : ∀ d, (∀ k, k < d → dl k = dl' k) → tw_rp n kd ap fw dl d = tw_rp n kd ap fw dl' d
  | 0, _ => rfl
  | d + 1, h => by
    show tw_act n kd ap (dl d) (tw_rp n kd ap fw dl d) = tw_act n kd ap (dl' d) (tw_rp n kd ap fw dl' d)
    rw [h d (by omega), tw_rp_congr d fun k hk => h k (by omega)]
section TWF
variable {S : pv_S} {n c : Nat}
theorem tw_of (I : Inv S) : ∃ n c, Tw S n c := I.2.2.2
theorem tw_n (T : Tw S n c) : n ≤ 6 := T.1
theorem tw_c (T : Tw S n c) : c ≤ 40 := T.2.1
theorem tw_x7 (T : Tw S n c) : S.1 21 7 = nI n := T.2.2.1
theorem tw_m4 (T : Tw S n c) : S.1 37 4 = nI n := T.2.2.2.1
theorem tw_dog (T : Tw S n c) : S.1 37 5 = S.1 21 8 := T.2.2.2.2.1
theorem tw_x13 (T : Tw S n c) : S.1 21 13 = nI c := T.2.2.2.2.2.1
theorem tw_m9 (T : Tw S n c) : S.1 37 9 = nI c := T.2.2.2.2.2.2.1
theorem tw_kd (T : Tw S n c) {i : Nat} (h : i < n) : S.1 42 i = S.1 22 i := (T.2.2.2.2.2.2.2.1 i h).1
theorem tw_kb (T : Tw S n c) {i : Nat} (h : i < n) : 0 ≤ (S.1 22 i).toInt ∧ (S.1 22 i).toInt ≤ 5 := ⟨(T.2.2.2.2.2.2.2.1 i h).2.1, (T.2.2.2.2.2.2.2.1 i h).2.2.1⟩
theorem tw_ap (T : Tw S n c) {i : Nat} (h : i < n) : S.1 43 i = S.1 23 i := (T.2.2.2.2.2.2.2.1 i h).2.2.2.1
theorem tw_ab (T : Tw S n c) {i : Nat} (h : i < n) : 0 ≤ (S.1 23 i).toInt ∧ (S.1 23 i).toInt ≤ 9 := ⟨(T.2.2.2.2.2.2.2.1 i h).2.2.2.2.1, (T.2.2.2.2.2.2.2.1 i h).2.2.2.2.2.1⟩
theorem tw_fb (T : Tw S n c) {i : Nat} (h : i < n) : 1 ≤ (S.1 24 i).toInt ∧ (S.1 24 i).toInt ≤ 99 := (T.2.2.2.2.2.2.2.1 i h).2.2.2.2.2.2
theorem tw_now (T : Tw S n c) {j : Nat} (h : j < 10) : S.1 44 j = tw_rp n (S.1 22) (S.1 23) (S.1 24) (S.1 26) c j := T.2.2.2.2.2.2.2.2.1 j h
theorem tw_w (T : Tw S n c) {i : Nat} (h : i < n) : S.1 25 i = S.1 44 i := T.2.2.2.2.2.2.2.2.2.1 i h
theorem tw_h (T : Tw S n c) : S.1 21 9 = S.1 44 6 := T.2.2.2.2.2.2.2.2.2.2.1
theorem tw_p (T : Tw S n c) : S.1 21 11 = S.1 44 7 := T.2.2.2.2.2.2.2.2.2.2.2.1
theorem tw_g (T : Tw S n c) : S.1 21 12 = S.1 44 8 := T.2.2.2.2.2.2.2.2.2.2.2.2.1
theorem tw_r (T : Tw S n c) : S.1 21 10 = S.1 44 9 := T.2.2.2.2.2.2.2.2.2.2.2.2.2.1
theorem tw_dd (T : Tw S n c) {d : Nat} (h : d < c) : tw_ok n (S.1 26 d) := (T.2.2.2.2.2.2.2.2.2.2.2.2.2.2.1 d h).1
theorem tw_bd (T : Tw S n c) : tw_b n c (tw_rp n (S.1 22) (S.1 23) (S.1 24) (S.1 26) c) := tw_b_rp (tw_n T) (fun i hi => tw_fb T hi) c (by have := tw_c T; omega) fun k hk => tw_dd T hk
theorem tw_wb (T : Tw S n c) {i : Nat} (h : i < n) : 1 ≤ (S.1 44 i).toInt ∧ (S.1 44 i).toInt ≤ 200 := by
  have := tw_n T
  rw [tw_now T (by omega)]
  exact (tw_bd T).1 i h
theorem tw_hb (T : Tw S n c) : 0 ≤ (S.1 44 6).toInt ∧ (S.1 44 6).toInt ≤ 40 := by
  have := tw_c T
  rw [tw_now T (by omega)]
  have := (tw_bd T).2.1
  omega
theorem tw_hN (T : Tw S n c) : ∃ h : Nat, S.1 44 6 = nI h ∧ h ≤ 40 := by
  obtain ⟨k, e, q⟩ := nIex (tw_hb T).1
  have := (tw_hb T).2
  exact ⟨k, e, by omega⟩
theorem tw_rb (T : Tw S n c) (h : n ≠ 0) : ∃ r, r < n ∧ S.1 44 9 = nI r := by
  rw [tw_now T (by omega)]
  rcases (tw_bd T).2.2.1 with q | q
  · exact ⟨0, by omega, q⟩
  · exact q
theorem tw_r0 (T : Tw S 0 c) : S.1 44 9 = 0 := by
  rw [tw_now T (by omega)]
  rcases (tw_bd T).2.2.1 with q | ⟨r, q, _⟩
  · exact q
  · exact absurd q (by omega)
theorem cat_of {i : Int32} (h : 0 ≤ i.toInt ∧ i.toInt < (n : Int)) : ∃ k, k < n ∧ i = nI k := by
  obtain ⟨k, e, q⟩ := nIex h.1
  exact ⟨k, by omega, e⟩
theorem x_isCat (T : Tw S n c) {i : Int32} : pv_R mX5_isCat 0 [some (.ref 21), some (.int i)] [] (pv_em S) = some (some (.int (bI (0 ≤ i.toInt ∧ i.toInt < (n : Int)))), pv_em S) := by
  have := tw_n T
  simp only [bX5_isCat_0, bX5_isCat_4, bX5_isCat_12, bX5_isCat_16, bX5_isCat_17, vn0, vn1, if_true, Int32.lt_iff_toInt_lt, Int32.le_iff_toInt_le, tw_x7 T, nIt (i := n) (by omega), i0]
  by_cases h : 0 ≤ i.toInt ∧ i.toInt < n
  · rw [bI_t h, if_neg (by omega), if_neg (by omega)]
  · rw [bI_f h]
    by_cases h1 : i.toInt < 0
    · rw [if_pos h1]
    · rw [if_neg h1, if_pos (by omega)]
theorem m_isCat (T : Tw S n c) {i : Int32} : pv_R mX7_isCat 0 [some (.ref 37), some (.int i)] [] (pv_em S) = some (some (.int (bI (0 ≤ i.toInt ∧ i.toInt < (n : Int)))), pv_em S) := by
  have := tw_n T
  have e : (nI n - 1).toInt = n - 1 := by rw [sb_i (by rw [nIt (by omega), i1]; omega) (by rw [nIt (by omega), i1]; omega), nIt (by omega), i1]
  simp only [bX7_isCat_0, bX7_isCat_13, c_in, pv_cc_some, vnb, if_true, Int32.toInt_toInt64, tw_m4 T, e, j0]
  have e2 : (0 ≤ i.toInt ∧ i.toInt ≤ (n : Int) - 1) = (0 ≤ i.toInt ∧ i.toInt < (n : Int)) := propext ⟨fun q => by omega, fun q => by omega⟩
  simp only [e2]
/-- the pound -/
def tw_pd (S : pv_S) (n : Nat) : Int32 := if n = 0 then 0 else S.1 44 (S.1 44 9).toNatClampNeg
theorem x_pound (T : Tw S n c) : pv_R mX5_pound 0 [some (.ref 21)] [] (pv_em S) = some (some (.int (tw_pd S n)), pv_em S) := by
  have := tw_n T
  unfold tw_pd
  by_cases h : n = 0
  · subst h
    simp only [bX5_pound_0, bX5_pound_8, bX5_pound_11, bX5_pound_23, bX5_pound_24, x_isCat T, pv_cc_some, bI_0, tw_r T, tw_r0 T, i0]
    rw [if_pos (by omega), if_pos trivial]
  · obtain ⟨r, hr, e⟩ := tw_rb T h
    simp only [bX5_pound_0, bX5_pound_8, bX5_pound_11, bX5_pound_23, bX5_pound_24, x_isCat T, pv_cc_some, bI_0, tw_r T, e, nIt (i := r) (by omega), kx (k := r) (N := 6) (by omega) (by omega), nIc (i := r) (by omega), if_false]
    rw [if_neg (by omega), if_neg h, tw_w T hr]
theorem m_pound (T : Tw S n c) : pv_R mX7_pound 0 [some (.ref 37)] [] (pv_em S) = some (some (.int (tw_pd S n)), pv_em S) := by
  have := tw_n T
  unfold tw_pd
  by_cases h : n = 0
  · subst h
    simp only [bX7_pound_0, bX7_pound_7, bX7_pound_11, bX7_pound_25, tw_m4 T]
    rw [if_neg (fun q => q rfl), if_pos trivial]
  · obtain ⟨r, hr, e⟩ := tw_rb T h
    rw [bX7_pound_0, if_pos (by rw [tw_m4 T]; exact fun q => h (by have := congrArg Int32.toInt q; rw [nIt (by omega), i0] at this; omega)), bX7_pound_11]
    rw [show (9 : Int32).toNatClampNeg = 9 from by decide, Int32.zero_add, e, if_neg (gx (k := r) (N := 10) (by omega) (by omega)), nIc (by omega), bX7_pound_25, if_neg h]
theorem x_mealAdds (T : Tw S n c) {i : Nat} (h : i < n) : pv_R mX5_mealAdds 0 [some (.ref 21), some (.int (nI i))] [] (pv_em S) = some (some (.int (tw_meal (S.1 22 i) (S.1 23 i))), pv_em S) := by
  have := tw_n T
  simp only [bX5_mealAdds_0, bX5_mealAdds_15, kx (k := i) (N := 6) (by omega) (by omega), nIc (i := i) (by omega), x_meal, pv_cc_some, if_false]
/-- what is told of a cat -/
def tw_tv (S : pv_S) (i w : Nat) : Int32 := if w = 0 then S.1 42 i else if w = 1 then S.1 44 i else if w = 2 then S.1 43 i else if w = 3 then tw_meal (S.1 42 i) (S.1 43 i) else tw_held (S.1 44 i + tw_adds (S.1 42 i) (S.1 44 6)) - S.1 44 i
theorem x_trait (T : Tw S n c) {i w : Nat} (h : i < n) (hw : w ≤ 4) : pv_R mX5_trait 0 [some (.ref 21), some (.int (nI i)), some (.int (nI w))] [] (pv_em S) = some (some (.int (tw_tv S i w)), pv_em S) := by
  have := tw_n T
  have hx := gx (k := i) (N := 6) (by omega) (by omega)
  have hc := nIc (i := i) (by omega)
  have hh := (tw_hb T).1
  unfold tw_tv
  rw [bX5_trait_0, tw_kd T h, tw_ap T h]
  have q : w = 0 ∨ w = 1 ∨ w = 2 ∨ w = 3 ∨ w = 4 := by omega
  rcases q with rfl | rfl | rfl | rfl | rfl
  · rw [show pv_swt (nI 0).toInt 0 [32, 39, 46, 53] 59 = 32 from by decide, bX5_trait_32, if_neg hx, hc]; rfl
  · rw [show pv_swt (nI 1).toInt 0 [32, 39, 46, 53] 59 = 39 from by decide, bX5_trait_39, if_neg hx, hc, tw_w T h]; rfl
  · rw [show pv_swt (nI 2).toInt 0 [32, 39, 46, 53] 59 = 46 from by decide, bX5_trait_46, if_neg hx, hc]; rfl
  · rw [show pv_swt (nI 3).toInt 0 [32, 39, 46, 53] 59 = 53 from by decide, bX5_trait_53, x_mealAdds T h, pv_cc_some, bX5_trait_58]; rfl
  · rw [show pv_swt (nI 4).toInt 0 [32, 39, 46, 53] 59 = 59 from by decide, bX5_trait_59, if_neg hx, if_neg hx, x_after (by rw [tw_h T]; exact hh), pv_cc_some, bX5_trait_78, if_neg hx, hc, tw_w T h, tw_h T]; rfl
theorem m_told (T : Tw S n c) {i w : Nat} (h : i < n) (hw : w ≤ 4) : pv_R mX7_told 0 [some (.ref 37), some (.int (nI i)), some (.int (nI w))] [] (pv_em S) = some (some (.int (tw_tv S i w)), pv_em S) := by
  have := tw_n T
  have hx := gx (k := i) (N := 6) (by omega) (by omega)
  have hy := gx (k := i) (N := 10) (by omega) (by omega)
  have hc := nIc (i := i) (by omega)
  have hh := tw_hb T
  unfold tw_tv
  rw [bX7_told_0]
  have q : w = 0 ∨ w = 1 ∨ w = 2 ∨ w = 3 ∨ w = 4 := by omega
  rcases q with rfl | rfl | rfl | rfl | rfl
  · rw [show pv_swt (nI 0).toInt 0 [32, 39, 48, 55] 71 = 32 from by decide, bX7_told_32, if_neg hx, hc]; rfl
  · rw [show pv_swt (nI 1).toInt 0 [32, 39, 48, 55] 71 = 39 from by decide, bX7_told_39, Int32.zero_add, if_neg hy, hc]; rfl
  · rw [show pv_swt (nI 2).toInt 0 [32, 39, 48, 55] 71 = 48 from by decide, bX7_told_48, if_neg hx, hc]; rfl
  · rw [show pv_swt (nI 3).toInt 0 [32, 39, 48, 55] 71 = 55 from by decide, bX7_told_55, if_neg hx, if_neg hx, m_meal, pv_cc_some, bX7_told_70, hc]; rfl
  · rw [show pv_swt (nI 4).toInt 0 [32, 39, 48, 55] 71 = 71 from by decide, bX7_told_71, show (1 : Int32) = nI 1 from rfl, m_afterOf (by rw [nIt (by omega)]; omega) (by rw [nIt (by omega)]; omega) (by omega) hh.1 (by omega), pv_cc_some, bX7_told_77, Int32.zero_add, if_neg hy, hc]
    show some (some (Value.int (tw_held (S.1 44 i + tw_adds (S.1 42 i) (S.1 44 6 + nI 0)) - S.1 44 i)), pv_em S) = _
    rw [show S.1 44 6 + nI 0 = S.1 44 6 from Int32.add_zero _]; rfl
end TWF
/-- scratch: what Inv doesn't look at -/
theorem Inv_scr {S S' : pv_S} (hc : ∀ k, (k < 17 ∨ 20 < k) → k ≠ 32 → k ≠ 33 → k ≠ 34 → k ≠ 37 → k < 49 → S'.1 k = S.1 k) (h37 : ∀ j, j = 4 ∨ j = 5 ∨ j = 9 ∨ j = 13 ∨ j = 16 → S'.1 37 j = S.1 37 j) (h2 : S'.2 = S.2) (I : Inv S) : Inv S' := by
  obtain ⟨I1, I2, I3, I4⟩ := I
  have e := fun k (q : (k < 17 ∨ 20 < k) ∧ k ≠ 32 ∧ k ≠ 33 ∧ k ≠ 34 ∧ k ≠ 37 ∧ k < 49) => hc k q.1 q.2.1 q.2.2.1 q.2.2.2.1 q.2.2.2.2.1 q.2.2.2.2.2
  refine ⟨shelf_congr (e 2 (by omega)) (fun q hq => e _ (by omega)) (e 38 (by omega)) (e 39 (by omega)) I1, shelf_congr (e 11 (by omega)) (fun q hq => e _ (by omega)) (e 40 (by omega)) (e 41 (by omega)) I2, ?_, town_congr (fun k hk => e k (by omega)) (h37 4 (by omega)) (h37 5 (by omega)) (h37 9 (by omega)) I4⟩
  obtain ⟨t1, t2, t3, t4, t5⟩ := I3
  unfold iv_told
  rw [e 35 (by omega), e 36 (by omega), e 48 (by omega), h37 13 (by omega), h37 16 (by omega), h2]
  exact ⟨t1, t2, t3, t4, t5⟩
