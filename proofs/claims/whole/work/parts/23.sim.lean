theorem pz_self {g : pz_M} {r j : Nat} {v : Int32} (h : v = g r j) : pz_st g r j v = g := by
  apply pz_ext
  intro a b
  by_cases q : a = r
  · subst q
    by_cases q2 : b = j
    · subst q2; rw [pz_s, h]
    · rw [pz_t q2]
  · rw [pz_t2 q]
theorem ps_a7 {d : Nat} {g h : pz_M} {ph : Nat → Option Nat} (hR : pz_RR d g ph h) {z : Nat} (hz : z < 30) (hn : g 0 6 = nI (z + 1)) (hm : h 18 15 = nI (z + 1)) {c : Nat} (hc : c < 4) : pz_SS g h (0, pz_st g 0 6 (g 0 6 + nI c), ph) (0, pz_st h 18 15 (h 18 15 + nI c)) := by
  rw [hn, hm, nI_add]
  exact ⟨rfl, ⟨d, pz_upN hR (by omega)⟩, vp_in_nI (n := 0) (by decide) (by decide), by dsimp only; rw [pz_t (by omega)], by dsimp only; rw [pz_t (by omega)]⟩
theorem ps_a8 {d : Nat} {g h : pz_M} {ph : Nat → Option Nat} (hR : pz_RR d g ph h) (a : Int32) :
    pz_SS g h (0, pz_st (f_X1_stepBehindAgain g ph a (g 0 6)).2.1 0 6 (f_X1_stepBehindAgain g ph a (g 0 6)).1, (f_X1_stepBehindAgain g ph a (g 0 6)).2.2)
      (if h 18 11 ≤ 0 then (0, h) else if a ≤ h 30 (h 18 11 - 1).toNatClampNeg then (0, h) else (0, pz_st (pz_st h 30 (h 18 11 - 1).toNatClampNeg (h 30 (h 18 11 - 1).toNatClampNeg + 1)) 18 15 (pz_st h 30 (h 18 11 - 1).toNatClampNeg (h 30 (h 18 11 - 1).toNatClampNeg + 1) 29 (pz_st h 30 (h 18 11 - 1).toNatClampNeg (h 30 (h 18 11 - 1).toNatClampNeg + 1) 18 11 - 1).toNatClampNeg))) := by
  have h6 := hR.2.2.1.1
  have h23 := hR.2.2.1.2.1
  have h11 := hR.2.2.2.1
  cases d with
  | zero =>
    rw [if_pos (by rw [h11]; decide +kernel)]
    have E : f_X1_stepBehindAgain g ph a (g 0 6) = (g 0 6, g, ph) := by
      unfold f_X1_stepBehindAgain
      rw [if_pos (by rw [h23]; rfl)]
    rw [E]
    dsimp only
    rw [pz_self rfl]
    exact pz_SS0 hR (vp_in_nI (n := 0) (by decide) (by decide))
  | succ d =>
    have ed : nI (d + 1) - 1 = nI d := nI_pred d
    have cd : (nI d).toNatClampNeg = d := nI_clamp (by omega)
    obtain ⟨p1, p2, y, p3, p4, p5⟩ := hR.2.2.2.2.1 d (by omega)
    rw [if_neg (by rw [h11]; exact nI_nle (by omega) (by omega)), h11, ed, cd]
    by_cases hc : g 9 d < a
    · have hc2 : ¬ a ≤ h 30 d := by
        rw [← p2]
        intro q
        rw [Int32.le_iff_toInt_le] at q
        rw [Int32.lt_iff_toInt_lt] at hc
        omega
      have E : f_X1_stepBehindAgain g ph a (g 0 6) = (nI (y + 1), pz_st g 9 d (g 9 d + 1), ph) := by
        unfold f_X1_stepBehindAgain
        rw [h23, if_neg (pz_dne (by omega)), ed, cd, if_pos hc]
        simp (disch := omega) only [pz_t2, h23, ed, cd, p4, nI_1]
      have E2 : pz_st h 30 d (h 30 d + 1) 29 (pz_st h 30 d (h 30 d + 1) 18 11 - 1).toNatClampNeg = nI (y + 1) := by
        simp (disch := omega) only [pz_t2, h11, ed, cd, p5]
      rw [if_neg hc2, E, E2, ← p2]
      dsimp only
      have R1 := pz_upN (pz_upA hR d (g 9 d + 1)) (q := y + 1) (by omega)
      exact ⟨rfl, ⟨d + 1, R1⟩, vp_in_nI (n := 0) (by decide) (by decide), by dsimp only; rw [pz_t (by omega), pz_t2 (by omega)], by dsimp only; rw [pz_t (by omega), pz_t2 (by omega)]⟩
    · have hc2 : a ≤ h 30 d := by
        rw [← p2]
        rw [Int32.lt_iff_toInt_lt] at hc
        rw [Int32.le_iff_toInt_le]
        omega
      have E : f_X1_stepBehindAgain g ph a (g 0 6) = (g 0 6, g, ph) := by
        unfold f_X1_stepBehindAgain
        rw [h23, if_neg (pz_dne (by omega)), ed, cd, if_neg hc]
      rw [if_pos hc2, E]
      dsimp only
      rw [pz_self rfl]
      exact pz_SS0 hR (vp_in_nI (n := 0) (by decide) (by decide))
/-- a step that isn't QUIT, on both sides -/
theorem ps_step {d : Nat} {g h : pz_M} {ph : Nat → Option Nat} (hR : pz_RR d g ph h) {z : Nat} (hz : z < 30) (hn : g 0 6 = nI (z + 1)) (ha : vp_in (g 4 z) 9) (h6 : ¬ g 4 z = 6) : pz_SS g h (f_X2_perform g ph (nI z)) (f_X3_does h (h 26 z) (h 27 z)) := by
  have cz : (nI z).toNatClampNeg = z := nI_clamp (by omega)
  have hm : h 18 15 = nI (z + 1) := by
    obtain ⟨-, -, q, q1, q2, q3⟩ := hR.2.2.2
    rw [q3, ← q2, hn]
  have e4 : h 26 z = g 4 z := (hR.1.2.1 z hz).symm
  have e5 : h 27 z = g 5 z := (hR.1.2.2.1 z hz).symm
  rw [e4, e5]
  obtain ⟨c, hc, ec⟩ := vp_in_of ha (by decide)
  have m8 := pz_mod (g 5 z) (n := 8) (by decide) (by decide)
  have m10 := pz_mod (g 5 z) (n := 10) (by decide) (by decide)
  have m1000 := pz_mod (g 5 z) (n := 1000) (by decide) (by decide)
  have m4 := pz_mod (g 5 z) (n := 4) (by decide) (by decide)
  have m8 : f_X3_modulo (g 5 z) 8 = f_J9_floorMod_7cf53 (g 5 z) 8 := m8
  have m10 : f_X3_modulo (g 5 z) 10 = f_J9_floorMod_7cf53 (g 5 z) 10 := m10
  have m1000 : f_X3_modulo (g 5 z) 1000 = f_J9_floorMod_7cf53 (g 5 z) 1000 := m1000
  have m4 : f_X3_modulo (g 5 z) 4 = f_J9_floorMod_7cf53 (g 5 z) 4 := m4
  rcases (show c = 0 ∨ c = 1 ∨ c = 2 ∨ c = 3 ∨ c = 4 ∨ c = 5 ∨ c = 6 ∨ c = 7 ∨ c = 8 by omega) with rfl | rfl | rfl | rfl | rfl | rfl | rfl | rfl | rfl
  · have e : g 4 z = 0 := ec
    obtain ⟨k, hk, ek⟩ := pz_fm (g 5 z) (n := 8) (by decide) (by decide)
    have ek : f_J9_floorMod_7cf53 (g 5 z) 8 = nI k := ek
    have E : f_X2_perform g ph (nI z) = f_X2_goIn g ph (nI k) (nI z) := by
      unfold f_X2_perform; rw [cz, if_pos e, ek]
    have E2 : f_X3_does h (g 4 z) (g 5 z) = f_X3_goIn h (nI k) := by
      unfold f_X3_does; rw [if_pos e, m8, ek]
    rw [E, E2]
    exact ps_a0 hR hk hz hm
  · have e : g 4 z = 1 := ec
    have E : f_X2_perform g ph (nI z) = (0, (f_X1_leaveHere g ph).1, (f_X1_leaveHere g ph).2) := by
      unfold f_X2_perform; rw [cz, e, if_neg (by decide), if_pos rfl]
    have E2 : f_X3_does h (g 4 z) (g 5 z) = if h 18 11 ≤ 0 then (0, pz_st h 18 11 (h 18 11 - 0)) else (0, pz_st h 18 11 (h 18 11 - 1)) := by
      unfold f_X3_does; rw [e, if_neg (by decide), if_pos rfl]
    rw [E, E2]
    exact ps_a1 hR
  · have e : g 4 z = 2 := ec
    have E : f_X2_perform g ph (nI z) = f_X2_grind g ph (f_J9_floorMod_7cf53 (g 5 z) 1000) := by
      unfold f_X2_perform; rw [cz, e, if_neg (by decide), if_neg (by decide), if_pos rfl]
    have E2 : f_X3_does h (g 4 z) (g 5 z) = if h 18 11 = 0 then (0, h) else f_X3_comes h (h 28 (h 18 11 - 1).toNatClampNeg) (f_J9_floorMod_7cf53 (g 5 z) 1000) := by
      unfold f_X3_does; rw [e, if_neg (by decide), if_neg (by decide), if_pos rfl, m1000]
    rw [E, E2]
    exact ps_a2 hR _
  · have e : g 4 z = 3 := ec
    have E : f_X2_perform g ph (nI z) = f_X2_carry g ph (f_J9_floorMod_7cf53 (g 5 z) 1000) := by
      unfold f_X2_perform; rw [cz, e, if_neg (by decide), if_neg (by decide), if_neg (by decide), if_pos rfl]
    have E2 : f_X3_does h (g 4 z) (g 5 z) = if 2 ≤ h 18 11 then f_X3_carry h (f_J9_floorMod_7cf53 (g 5 z) 1000) else (0, h) := by
      unfold f_X3_does; rw [e, if_neg (by decide), if_neg (by decide), if_neg (by decide), if_pos rfl, m1000]
    rw [E, E2]
    exact ps_a3 hR _
  · have e : g 4 z = 4 := ec
    have E : f_X2_perform g ph (nI z) = f_X2_share g ph (f_J9_floorMod_7cf53 (g 5 z) 10) := by
      unfold f_X2_perform; rw [cz, e, if_neg (by decide), if_neg (by decide), if_neg (by decide), if_neg (by decide), if_pos rfl]
    have E2 : f_X3_does h (g 4 z) (g 5 z) = if h 18 11 = 0 then (0, h) else f_X3_share h (f_J9_floorMod_7cf53 (g 5 z) 10) := by
      unfold f_X3_does; rw [e, if_neg (by decide), if_neg (by decide), if_neg (by decide), if_neg (by decide), if_pos rfl, m10]
    rw [E, E2]
    exact ps_a4 hR _
  · have e : g 4 z = 5 := ec
    have E : f_X2_perform g ph (nI z) = f_X2_write g ph (g 5 z) := by
      unfold f_X2_perform; rw [cz, e, if_neg (by decide), if_neg (by decide), if_neg (by decide), if_neg (by decide), if_neg (by decide), if_pos rfl]
    have E2 : f_X3_does h (g 4 z) (g 5 z) = f_X3_write h (g 5 z) := by
      unfold f_X3_does; rw [e, if_neg (by decide), if_neg (by decide), if_neg (by decide), if_neg (by decide), if_neg (by decide), if_pos rfl]
    rw [E, E2]
    exact ps_a5 hR _
  · exact absurd ec h6
  · have e : g 4 z = 7 := ec
    obtain ⟨k, hk, ek⟩ := pz_fm (g 5 z) (n := 4) (by decide) (by decide)
    have ek : f_J9_floorMod_7cf53 (g 5 z) 4 = nI k := ek
    have E : f_X2_perform g ph (nI z) = (0, pz_st g 0 6 (g 0 6 + nI k), ph) := by
      unfold f_X2_perform; rw [cz, e, if_neg (by decide), if_neg (by decide), if_neg (by decide), if_neg (by decide), if_neg (by decide), if_neg (by decide), if_neg (by decide), if_pos rfl, ek]
    have E2 : f_X3_does h (g 4 z) (g 5 z) = (0, pz_st h 18 15 (h 18 15 + nI k)) := by
      unfold f_X3_does; rw [e, if_neg (by decide), if_neg (by decide), if_neg (by decide), if_neg (by decide), if_neg (by decide), if_neg (by decide), if_neg (by decide), if_pos rfl, m4, ek]
    rw [E, E2]
    exact ps_a7 hR hz hn hm hk
  · have e : g 4 z = 8 := ec
    have E : f_X2_perform g ph (nI z) = (0, pz_st (f_X1_stepBehindAgain g ph (f_J9_floorMod_7cf53 (g 5 z) 4) (g 0 6)).2.1 0 6 (f_X1_stepBehindAgain g ph (f_J9_floorMod_7cf53 (g 5 z) 4) (g 0 6)).1, (f_X1_stepBehindAgain g ph (f_J9_floorMod_7cf53 (g 5 z) 4) (g 0 6)).2.2) := by
      unfold f_X2_perform; rw [cz, e, if_neg (by decide), if_neg (by decide), if_neg (by decide), if_neg (by decide), if_neg (by decide), if_neg (by decide), if_neg (by decide), if_neg (by decide), if_pos rfl]
    have E2 := ps_a8 hR (f_J9_floorMod_7cf53 (g 5 z) 4)
    rw [E]
    unfold f_X3_does
    rw [e, if_neg (by decide), if_neg (by decide), if_neg (by decide), if_neg (by decide), if_neg (by decide), if_neg (by decide), if_neg (by decide), if_neg (by decide), m4]
    exact E2
/-- a fault that is met -/
theorem pz_upF {d : Nat} {g h : pz_M} {ph : Nat → Option Nat} (hR : pz_RR d g ph h) {f : Nat} (hf1 : 1 ≤ f) (hf6 : f ≤ 6) (v w : Int32) : pz_RR d (pz_st (pz_st g 6 f v) 0 8 w) ph (pz_st (pz_st h 18 18 w) 31 (10 + f) v) := by
  obtain ⟨h1, h2, h3, h4⟩ := hR
  refine ⟨?_, ?_, ?_, ?_⟩
  · obtain ⟨a1, a2, a3, a4, a5, a6, a7, a8, a9, a10, a11⟩ := h1
    refine ⟨by simpa (disch := omega) only [pz_t2, pz_t] using a1, by simpa (disch := omega) only [pz_t2, pz_t] using a2, by simpa (disch := omega) only [pz_t2, pz_t] using a3, by simpa (disch := omega) only [pz_t2, pz_t] using a4, fun j hj1 hj6 => ?_, by simpa (disch := omega) only [pz_t2, pz_t] using a6, by rw [pz_s, pz_t2 (by omega), pz_s], by simpa (disch := omega) only [pz_t2, pz_t] using a8, by simpa (disch := omega) only [pz_t2, pz_t] using a9, by simpa (disch := omega) only [pz_t2, pz_t] using a10, by simpa (disch := omega) only [pz_t2, pz_t] using a11⟩
    rw [pz_t2 (by omega)]
    by_cases e : j = f
    · subst e; rw [pz_s, pz_s]
    · rw [pz_t e, pz_t (by omega), pz_t2 (by omega)]; exact a5 j hj1 hj6
  · exact pz_R2m h2 (fun k hk i hi => by rw [pz_t2 (by omega), pz_t2 (by omega)]) (fun j hj1 hj6 k hk => by rw [pz_t2 (by omega), pz_t2 (by omega)])
  · unfold pz_R3 at *
    simpa (disch := omega) only [pz_t2, pz_t] using h3
  · unfold pz_R4 at *
    simpa (disch := omega) only [pz_t2, pz_t] using h4
/-- what the run is where nobody catches: all but how deep -/
def pz_RE (g : pz_M) (ph : Nat → Option Nat) (h : pz_M) : Prop := pz_R1 g h ∧ pz_R2 g h ∧ ∃ d, pz_R3 d g ph
theorem ps_caught {d : Nat} {g h : pz_M} {ph : Nat → Option Nat} (hR : pz_RR d g ph h) {f : Nat} (hf1 : 1 ≤ f) (hf6 : f ≤ 6) (b : Int32) :
    (f_X2_isCaught g ph (nI f) b).1 = (f_X3_isCaught (pz_st (pz_st h 18 18 b) 31 (10 + f) (h 31 (10 + f) + 1))).1 ∧
    (((f_X2_isCaught g ph (nI f) b).1 = 0 ∧ pz_RE (f_X2_isCaught g ph (nI f) b).2.1 (f_X2_isCaught g ph (nI f) b).2.2 (f_X3_isCaught (pz_st (pz_st h 18 18 b) 31 (10 + f) (h 31 (10 + f) + 1))).2) ∨
     ((f_X2_isCaught g ph (nI f) b).1 = 1 ∧ (∃ d', pz_RR d' (f_X2_isCaught g ph (nI f) b).2.1 (f_X2_isCaught g ph (nI f) b).2.2 (f_X3_isCaught (pz_st (pz_st h 18 18 b) 31 (10 + f) (h 31 (10 + f) + 1))).2) ∧ (f_X2_isCaught g ph (nI f) b).2.1 0 7 = g 0 7 ∧ (f_X3_isCaught (pz_st (pz_st h 18 18 b) 31 (10 + f) (h 31 (10 + f) + 1))).2 18 16 = h 18 16)) := by
  have cf : (nI f).toNatClampNeg = f := nI_clamp (by omega)
  have e6 : g 6 f = h 31 (10 + f) := hR.1.2.2.2.2.1 f hf1 hf6
  have R1 := pz_upF hR hf1 hf6 (g 6 f + 1) b
  rw [← e6]
  have E : f_X2_isCaught g ph (nI f) b = f_lbr (pz_st (pz_st g 6 f (g 6 f + 1)) 0 8 b) ph 8 (nI d - 1) := by
    unfold f_X2_isCaught f_X1_leaveByRefuge
    have e : pz_st (pz_st g 6 f (g 6 f + 1)) 0 8 b 2 3 = nI d := by rw [pz_t2 (by omega), pz_t2 (by omega)]; exact hR.2.2.1.2.1
    rw [cf]
    dsimp only
    rw [e]
  rw [E]
  have q := pz_caughtR R1 d 8 7 _ (Nat.le_refl d) (by have := hR.2.2.1.1; omega) (by have := hR.2.2.1.1; omega) R1.2.2.2.1 (fun _ _ _ => rfl)
  obtain ⟨q1, q2⟩ := q
  refine ⟨q1, ?_⟩
  rcases q2 with ⟨p1, p2, p3⟩ | ⟨p1, p2, p3, p4⟩
  · refine Or.inl ⟨p1, ?_⟩
    rw [p2]
    obtain ⟨s1, s2, s3, s4⟩ := R1
    exact ⟨pz_R1m s1 (fun _ _ _ _ _ => rfl) (fun r j hr => p3 r j (by omega)), pz_R2m s2 (fun _ _ _ _ => rfl) (fun j j1 j6 k hk => p3 _ _ (by omega)), d, s3⟩
  · refine Or.inr ⟨p1, p2, ?_, ?_⟩
    · rw [p3, pz_t (by omega), pz_t2 (by omega)]
    · rw [show (f_X3_isCaught (pz_st (pz_st h 18 18 b) 31 (10 + f) (g 6 f + 1))) = f_mic 7 (pz_st (pz_st h 18 18 b) 31 (10 + f) (g 6 f + 1)) from rfl, p4, pz_t2 (by omega), pz_t (by omega)]
