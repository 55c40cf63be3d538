/-- who catches, on both sides -/
theorem pz_caughtR {d : Nat} {g h : pz_M} {ph : Nat → Option Nat} (hR : pz_RR d g ph h) : ∀ (j n n' : Nat) (h' : pz_M), j ≤ d → j < n → j < n' → h' 18 11 = nI j → (∀ r i, ¬ (r = 18 ∧ i = 11) → h' r i = h r i) →
    (f_lbr g ph n (nI j - 1)).1 = (f_mic n' h').1 ∧ (((f_lbr g ph n (nI j - 1)).1 = 0 ∧ (f_lbr g ph n (nI j - 1)).2 = (g, ph) ∧ ∀ r i, ¬ (r = 18 ∧ i = 11) → (f_mic n' h').2 r i = h r i) ∨
      ((f_lbr g ph n (nI j - 1)).1 = 1 ∧ (∃ d', pz_RR d' (f_lbr g ph n (nI j - 1)).2.1 (f_lbr g ph n (nI j - 1)).2.2 (f_mic n' h').2) ∧ (f_lbr g ph n (nI j - 1)).2.1 0 7 = g 0 7 ∧ (f_mic n' h').2 18 16 = h 18 16)) := by
  intro j
  induction j with
  | zero =>
    intro n n' h' _ hn hn' hd he
    obtain ⟨m, rfl⟩ : ∃ m, n = m + 1 := ⟨n - 1, by omega⟩
    obtain ⟨m', rfl⟩ : ∃ m, n' = m + 1 := ⟨n' - 1, by omega⟩
    unfold f_lbr f_mic
    rw [if_pos (show nI 0 - 1 < 0 by decide +kernel), if_pos (show h' 18 11 ≤ 0 by rw [hd]; decide +kernel)]
    exact ⟨rfl, Or.inl ⟨rfl, rfl, he⟩⟩
  | succ j ih =>
    intro n n' h' hj hn hn' hd he
    have h6 := hR.2.2.1.1
    obtain ⟨m, rfl⟩ : ∃ m, n = m + 1 := ⟨n - 1, by omega⟩
    obtain ⟨m', rfl⟩ : ∃ m, n' = m + 1 := ⟨n' - 1, by omega⟩
    have ej : nI (j + 1) - 1 = nI j := nI_pred j
    have cj : (nI j).toNatClampNeg = j := nI_clamp (by omega)
    obtain ⟨k1, k2, k3⟩ := pz_hk hR.2.2.1 (show j < d by omega)
    have ck : (nI (pz_h ph j)).toNatClampNeg = pz_h ph j := nI_clamp (by omega)
    have e28 : h 28 j = nI (pz_h ph j) := (hR.2.2.2.2.1 j (by omega)).1
    have e3 : g (10 + pz_h ph j) 3 = h 21 (pz_h ph j) := (pz_hv hR.2.1 k1 k3).2 3 (by omega) (by omega)
    have e6 : g (10 + pz_h ph j) 6 = h 24 (pz_h ph j) := (pz_hv hR.2.1 k1 k3).2 6 (by omega) (by omega)
    unfold f_lbr f_mic
    rw [ej, if_neg (nI_pos (by omega)), if_neg (show ¬ h' 18 11 ≤ 0 by rw [hd]; exact nI_nle (by omega) (by omega))]
    have d1 : pz_st h' 18 11 (h' 18 11 - 1) 18 11 = nI j := by rw [pz_s, hd, ej]
    have d2 : pz_st h' 18 11 (h' 18 11 - 1) 28 j = nI (pz_h ph j) := by rw [pz_t2 (by omega), he 28 j (by omega), e28]
    have d3 : ∀ r i, ¬ (r = 18 ∧ i = 11) → pz_st h' 18 11 (h' 18 11 - 1) r i = h r i := by
      intro r i hri
      by_cases q : r = 18
      · subst q; rw [pz_t (fun z => hri ⟨rfl, z⟩)]; exact he 18 i hri
      · rw [pz_t2 q]; exact he r i hri
    simp only [cj, d1, d2, ck]
    rw [d3 21 _ (by omega), ← e3]
    by_cases hc : g (10 + pz_h ph j) 3 = 0
    · rw [if_pos hc, if_pos hc, show nI j + (-1) = nI j - 1 from by rw [Int32.sub_eq_add_neg]]
      exact ih m m' _ (by omega) (by omega) (by omega) d1 d3
    · rw [if_neg hc, if_neg hc]
      dsimp only
      refine ⟨rfl, Or.inr ⟨rfl, ⟨j, ?_⟩, ?_, ?_⟩⟩
      · have R1 := pz_upH hR k1 k3 (j := 6) (by omega) (by omega) (g (10 + pz_h ph j) 6 + 1)
        have R2 := (pz_leaveR R1 (e := j) (by omega)).1
        have q : pz_st (pz_st h' 18 11 (h' 18 11 - 1)) 24 (pz_h ph j) (pz_st h' 18 11 (h' 18 11 - 1) 24 (pz_h ph j) + 1) = pz_st (pz_st h (18 + 6) (pz_h ph j) (g (10 + pz_h ph j) 6 + 1)) 18 11 (nI j) := by
          apply pz_ext
          intro r i
          rw [d3 24 _ (by omega), e6]
          by_cases q1 : r = 24
          · subst q1
            by_cases q2 : i = pz_h ph j
            · subst q2; rw [pz_s, pz_t2 (by omega), pz_s]
            · rw [pz_t q2, pz_t2 (by omega), pz_t2 (by omega), pz_t q2]; exact he 24 i (by omega)
          · rw [pz_t2 q1]
            by_cases q2 : r = 18
            · subst q2
              by_cases q3 : i = 11
              · subst q3; rw [d1, pz_s]
              · rw [pz_t q3, pz_t q3, pz_t2 (by omega)]; exact he 18 i (by omega)
            · rw [pz_t2 q2, pz_t2 q2, pz_t2 (by omega)]; exact he r i (by omega)
        rw [q]
        exact R2
      · have R1 := pz_upH hR k1 k3 (j := 6) (by omega) (by omega) (g (10 + pz_h ph j) 6 + 1)
        have q := (pz_leaveR R1 (e := j) (by omega)).2
        show f_ldt ph (nI j) 7 _ 0 7 = _
        rw [q, pz_t2 (by omega)]
      · rw [pz_t2 (by omega)]; exact d3 18 16 (by omega)
def pz_SS (g h : pz_M) (X : Int32 × pz_M × (Nat → Option Nat)) (Y : Int32 × pz_M) : Prop := X.1 = Y.1 ∧ (∃ d, pz_RR d X.2.1 X.2.2 Y.2) ∧ vp_in X.1 7 ∧ Y.2 18 16 = h 18 16 ∧ X.2.1 0 7 = g 0 7
theorem pz_SS0 {d : Nat} {g h : pz_M} {ph : Nat → Option Nat} (hR : pz_RR d g ph h) {v : Int32} (hv : vp_in v 7) : pz_SS g h (v, g, ph) (v, h) := ⟨rfl, ⟨d, hR⟩, hv, rfl, rfl⟩
theorem pz_recv07 {g : pz_M} {ph : Nat → Option Nat} {k : Nat} {a : Int32} : (f_X0_receive g ph k a).2.1 0 7 = g 0 7 := by
  unfold f_X0_receive
  by_cases c1 : 10 * pz_st g (10 + k) 2 (g (10 + k) 2 + a) (10 + k) 1 < pz_st g (10 + k) 2 (g (10 + k) 2 + a) (10 + k) 2
  · simp (disch := omega) only [if_pos c1, pz_t2]
  · simp (disch := omega) only [if_neg c1, pz_t2]
theorem pz_recvS {d : Nat} {g h : pz_M} {ph : Nat → Option Nat} (hR : pz_RR d g ph h) {k : Nat} (hk : k < 8) (hs : g (10 + k) 0 = 1) (a : Int32) : pz_SS g h (f_X0_receive g ph k a) (f_X3_comes h (nI k) a) := by
  obtain ⟨q1, q2, q3, q4, q5⟩ := pz_recv hR hk hs a
  refine ⟨q1, ⟨d, by rw [q3]; exact q2⟩, ?_, q5, pz_recv07⟩
  rcases q4 with q | q <;> rw [q]
  · exact vp_in_nI (n := 0) (by decide) (by decide)
  · exact vp_in_nI (n := 3) (by decide) (by decide)
theorem ps_a0 {d : Nat} {g h : pz_M} {ph : Nat → Option Nat} (hR : pz_RR d g ph h) {k z : Nat} (hk : k < 8) (hz : z < 30) (hn : h 18 15 = nI (z + 1)) : pz_SS g h (f_X2_goIn g ph (nI k) (nI z)) (f_X3_goIn h (nI k)) := by
  have hc : (nI k).toNatClampNeg = k := nI_clamp (by omega)
  have h6 := hR.2.2.1.1
  have h23 := hR.2.2.1.2.1
  by_cases hd : d < 6
  · have hf : f_X1_isFull g ph = 0 := by
      unfold f_X1_isFull
      rw [h23, if_pos (show nI d < 6 from nI_lt (b := 6) hd (by decide))]
    rcases hR.2.1 k hk with ⟨s1, s2, s3⟩ | ⟨s1, s2⟩
    · obtain ⟨r1, r2, r3, r4⟩ := pz_enterR hR hd hk hz s1 hn
      have E : f_X2_goIn g ph (nI k) (nI z) = (0, (f_X1_enter g ph k (nI z)).1, (f_X1_enter g ph k (nI z)).2) := by
        unfold f_X2_goIn
        simp only [hf, hc]
        rw [if_pos trivial, if_neg (by rw [s1]; decide)]
      rw [E]
      exact ⟨r2.symm, ⟨d + 1, r1⟩, vp_in_nI (n := 0) (by decide) (by decide), r3, r4⟩
    · have E : f_X2_goIn g ph (nI k) (nI z) = (1, g, ph) := by
        unfold f_X2_goIn
        simp only [hf, hc]
        rw [if_pos trivial, if_pos s1]
      have E2 : f_X3_goIn h (nI k) = (1, h) := by
        unfold f_X3_goIn
        rw [hc, if_neg (by rw [hR.2.2.2.1]; intro q; have := (nI_eq (a := d) (b := 6) (by omega) (by decide)).mp q; omega), if_pos s2]
      rw [E, E2]
      exact pz_SS0 hR (vp_in_nI (n := 1) (by decide) (by decide))
  · have : d = 6 := by omega
    subst this
    have hf : f_X1_isFull g ph = 1 := by
      unfold f_X1_isFull
      rw [h23, if_neg (by decide +kernel)]
    have E : f_X2_goIn g ph (nI k) (nI z) = (2, g, ph) := by
      unfold f_X2_goIn
      simp only [hf]
      rw [if_neg (by decide)]
    have E2 : f_X3_goIn h (nI k) = (2, h) := by
      unfold f_X3_goIn
      rw [if_pos (by rw [hR.2.2.2.1]; rfl)]
    rw [E, E2]
    exact pz_SS0 hR (vp_in_nI (n := 2) (by decide) (by decide))
theorem ps_a1 {d : Nat} {g h : pz_M} {ph : Nat → Option Nat} (hR : pz_RR d g ph h) : pz_SS g h (0, (f_X1_leaveHere g ph).1, (f_X1_leaveHere g ph).2) (if h 18 11 ≤ 0 then (0, pz_st h 18 11 (h 18 11 - 0)) else (0, pz_st h 18 11 (h 18 11 - 1))) := by
  have h6 := hR.2.2.1.1
  have h23 := hR.2.2.1.2.1
  have h11 := hR.2.2.2.1
  have E : ((0 : Int32), (f_X1_leaveHere g ph).1, (f_X1_leaveHere g ph).2) = (0, f_ldt ph (g 2 3 - 1) 7 g, ph) := rfl
  rw [E, h23, h11]
  cases d with
  | zero =>
    rw [if_pos (by decide +kernel)]
    have E1 : f_ldt ph (nI 0 - 1) 7 g = g := by
      unfold f_ldt
      rw [h23, if_neg (by decide +kernel), if_pos (by decide +kernel)]
    have E2 : pz_st h 18 11 (nI 0 - 0) = h := by
      apply pz_ext
      intro r i
      by_cases q : r = 18
      · subst q
        by_cases q2 : i = 11
        · subst q2; rw [pz_s, h11]; decide +kernel
        · rw [pz_t q2]
      · rw [pz_t2 q]
    rw [E1, E2]
    exact pz_SS0 hR (vp_in_nI (n := 0) (by decide) (by decide))
  | succ d =>
    rw [if_neg (nI_nle (by omega) (by omega)), show nI (d + 1) - 1 = nI d from nI_pred d]
    obtain ⟨r1, r2⟩ := pz_leaveR hR (e := d) (by omega)
    exact ⟨rfl, ⟨d, r1⟩, vp_in_nI (n := 0) (by decide) (by decide), by show pz_st h 18 11 (nI d) 18 16 = _; rw [pz_t (by omega)], r2⟩
theorem ps_a2 {d : Nat} {g h : pz_M} {ph : Nat → Option Nat} (hR : pz_RR d g ph h) (a : Int32) : pz_SS g h (f_X2_grind g ph a) (if h 18 11 = 0 then (0, h) else f_X3_comes h (h 28 (h 18 11 - 1).toNatClampNeg) a) := by
  have h6 := hR.2.2.1.1
  have h11 := hR.2.2.2.1
  cases d with
  | zero =>
    rw [if_pos (by rw [h11]; rfl)]
    unfold f_X2_grind
    rw [pz_here0 (h := h) hR.2.2.1]
    exact pz_SS0 hR (vp_in_nI (n := 0) (by decide) (by decide))
  | succ d =>
    rw [if_neg (by rw [h11]; exact pz_dne (by omega)), pz_mhere hR.2.2.1 hR.2.2.2]
    obtain ⟨k1, k2, k3⟩ := pz_hk hR.2.2.1 (show d < d + 1 by omega)
    have E : f_X2_grind g ph a = f_X0_receive g ph (pz_h ph d) a := by
      unfold f_X2_grind
      rw [pz_here1 hR.2.2.1]
    rw [E]
    exact pz_recvS hR k1 k3 a
theorem ps_a3 {d : Nat} {g h : pz_M} {ph : Nat → Option Nat} (hR : pz_RR d g ph h) (a : Int32) : pz_SS g h (f_X2_carry g ph a) (if 2 ≤ h 18 11 then f_X3_carry h a else (0, h)) := by
  have h6 := hR.2.2.1.1
  have h11 := hR.2.2.2.1
  by_cases hd : d < 2
  · rw [if_neg (by rw [h11]; exact nI_ge (b := 2) hd (by decide))]
    have E : f_X2_carry g ph a = (0, g, ph) := by
      unfold f_X2_carry
      rw [pz_around0 hR.2.2.1 hd]
      cases f_X1_here g ph <;> rfl
    rw [E]
    exact pz_SS0 hR (vp_in_nI (n := 0) (by decide) (by decide))
  · obtain ⟨d, rfl⟩ : ∃ d', d = d' + 2 := ⟨d - 2, by omega⟩
    rw [if_pos (by rw [h11]; exact nI_le (a := 2) (by omega) (by omega))]
    obtain ⟨k1, k2, k3⟩ := pz_hk hR.2.2.1 (show d + 1 < d + 2 by omega)
    obtain ⟨j1, j2, j3⟩ := pz_hk hR.2.2.1 (show d < d + 2 by omega)
    have ck : (nI (pz_h ph (d + 1))).toNatClampNeg = pz_h ph (d + 1) := nI_clamp (by omega)
    have em := pz_mhere (d := d + 1) hR.2.2.1 hR.2.2.2
    have e2 : g (10 + pz_h ph (d + 1)) 2 = h 20 (pz_h ph (d + 1)) := (pz_hv hR.2.1 k1 k3).2 2 (by omega) (by omega)
    unfold f_X2_carry f_X3_carry
    rw [pz_here1 (d := d + 1) hR.2.2.1, pz_around1 hR.2.2.1]
    simp only [em, ck]
    rw [← e2]
    by_cases hc : a ≤ g (10 + pz_h ph (d + 1)) 2
    · rw [if_pos hc, if_pos hc]
      have R1 := pz_upH hR k1 k3 (j := 2) (by omega) (by omega) (g (10 + pz_h ph (d + 1)) 2 - a)
      have hs : pz_st g (10 + pz_h ph (d + 1)) 2 (g (10 + pz_h ph (d + 1)) 2 - a) (10 + pz_h ph d) 0 = 1 := by
        by_cases q : pz_h ph d = pz_h ph (d + 1)
        · rw [q, pz_t (by omega)]; exact k3
        · rw [pz_t2 (by omega)]; exact j3
      have ea : pz_st h 20 (pz_h ph (d + 1)) (g (10 + pz_h ph (d + 1)) 2 - a) 28 (pz_st h 20 (pz_h ph (d + 1)) (g (10 + pz_h ph (d + 1)) 2 - a) 18 11 - 2).toNatClampNeg = nI (pz_h ph d) := by
        rw [pz_t2 (by omega), pz_t2 (by omega)]
        exact pz_maround hR.2.2.1 hR.2.2.2
      have q := pz_recvS R1 j1 hs a
      rw [ea]
      obtain ⟨q1, q2, q3, q4, q5⟩ := q
      exact ⟨q1, q2, q3, by rw [show (18 + 2) = 20 from rfl, pz_t2 (by omega)] at q4; exact q4, by rw [pz_t2 (by omega)] at q5; exact q5⟩
    · rw [if_neg hc, if_neg hc]
      exact pz_SS0 hR (vp_in_nI (n := 4) (by decide) (by decide))
theorem ps_a4 {d : Nat} {g h : pz_M} {ph : Nat → Option Nat} (hR : pz_RR d g ph h) (a : Int32) : pz_SS g h (f_X2_share g ph a) (if h 18 11 = 0 then (0, h) else f_X3_share h a) := by
  have h6 := hR.2.2.1.1
  have h11 := hR.2.2.2.1
  cases d with
  | zero =>
    rw [if_pos (by rw [h11]; rfl)]
    unfold f_X2_share
    rw [pz_here0 (h := h) hR.2.2.1]
    exact pz_SS0 hR (vp_in_nI (n := 0) (by decide) (by decide))
  | succ d =>
    rw [if_neg (by rw [h11]; exact pz_dne (by omega))]
    obtain ⟨k1, k2, k3⟩ := pz_hk hR.2.2.1 (show d < d + 1 by omega)
    have ck : (nI (pz_h ph d)).toNatClampNeg = pz_h ph d := nI_clamp (by omega)
    have e2 : g (10 + pz_h ph d) 2 = h 20 (pz_h ph d) := (pz_hv hR.2.1 k1 k3).2 2 (by omega) (by omega)
    unfold f_X2_share f_X3_share
    rw [pz_here1 hR.2.2.1]
    simp only [pz_mhere hR.2.2.1 hR.2.2.2, ck]
    rw [← e2]
    by_cases hc : a = 0
    · rw [if_pos hc, if_pos hc]
      exact pz_SS0 hR (vp_in_nI (n := 5) (by decide) (by decide))
    · rw [if_neg hc, if_neg hc]
      have R1 := pz_upH hR k1 k3 (j := 2) (by omega) (by omega) (g (10 + pz_h ph d) 2 / a)
      exact ⟨rfl, ⟨d + 1, R1⟩, vp_in_nI (n := 0) (by decide) (by decide), by dsimp only; rw [pz_t2 (by omega)], by dsimp only; rw [pz_t2 (by omega)]⟩
theorem pz_rowin (a : Int32) : f_X2_isRow a = 0 ↔ f_X3_isIn a 0 7 = 0 := by
  unfold f_X2_isRow f_X3_isIn
  have e8 : (8 ≤ a) ↔ (7 < a) := by
    rw [Int32.le_iff_toInt_le, Int32.lt_iff_toInt_lt]
    have e1 : (8 : Int32).toInt = 8 := rfl
    have e2 : (7 : Int32).toInt = 7 := rfl
    omega
  by_cases c1 : a < 0
  · rw [if_pos c1, if_pos c1]
  · rw [if_neg c1, if_neg c1]
    by_cases c2 : 8 ≤ a
    · rw [if_pos c2, if_pos (e8.mp c2)]
    · rw [if_neg c2, if_neg (fun q => c2 (e8.mpr q))]
theorem ps_a5 {d : Nat} {g h : pz_M} {ph : Nat → Option Nat} (hR : pz_RR d g ph h) (a : Int32) : pz_SS g h (f_X2_write g ph a) (f_X3_write h a) := by
  have h6 := hR.2.2.1.1
  have h11 := hR.2.2.2.1
  unfold f_X2_write f_X3_write
  by_cases c1 : f_X2_isRow a = 0
  · simp only [if_pos c1, if_pos ((pz_rowin a).mp c1)]
    exact pz_SS0 hR (vp_in_nI (n := 6) (by decide) (by decide))
  · simp only [if_neg c1, if_neg (fun q => c1 ((pz_rowin a).mpr q))]
    cases d with
    | zero =>
      rw [if_pos (by rw [h11]; rfl), pz_here0 (h := h) hR.2.2.1]
      exact ⟨rfl, ⟨0, pz_upL hR _ _⟩, vp_in_nI (n := 0) (by decide) (by decide), by dsimp only; rw [pz_t2 (by omega)], by dsimp only; rw [pz_t2 (by omega)]⟩
    | succ d =>
      obtain ⟨k1, k2, k3⟩ := pz_hk hR.2.2.1 (show d < d + 1 by omega)
      have ck : (nI (pz_h ph d)).toNatClampNeg = pz_h ph d := nI_clamp (by omega)
      have e2 : g (10 + pz_h ph d) 2 = h 20 (pz_h ph d) := (pz_hv hR.2.1 k1 k3).2 2 (by omega) (by omega)
      rw [if_neg (by rw [h11]; exact pz_dne (by omega)), pz_here1 hR.2.2.1, pz_mhere hR.2.2.1 hR.2.2.2, ck, ← e2]
      exact ⟨rfl, ⟨d + 1, pz_upL hR _ _⟩, vp_in_nI (n := 0) (by decide) (by decide), by dsimp only; rw [pz_t2 (by omega)], by dsimp only; rw [pz_t2 (by omega)]⟩
