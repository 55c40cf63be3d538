theorem pz_upQ {d : Nat} {g h : pz_M} {ph : Nat → Option Nat} (hR : pz_RR d g ph h) (v : Int32) : pz_RR d g ph (pz_st h 18 16 v) := by
  obtain ⟨h1, h2, h3, h4⟩ := hR
  refine ⟨?_, ?_, h3, ?_⟩
  · unfold pz_R1 at *
    simpa (disch := omega) only [pz_t2, pz_t] using h1
  · exact pz_R2m h2 (fun k hk i hi => rfl) (fun j hj1 hj6 k hk => by rw [pz_t2 (by omega)])
  · unfold pz_R4 at *
    simpa (disch := omega) only [pz_t2, pz_t] using h4
/-- a step is begun, on both sides -/
theorem ps_tick {d b : Nat} {g h : pz_M} {ph : Nat → Option Nat} (hR : pz_RR d g ph h) (hb : g 0 7 = nI b) (hb80 : b ≤ 80) (c6 : ¬ 80 ≤ g 0 7) (c17 : g 0 6 < g 0 5) :
    ∃ z : Nat, z < 30 ∧ g 0 6 = nI z ∧ h 18 15 = nI z ∧ h 18 17 = nI b ∧ b < 80 ∧ pz_RR d (pz_st (pz_st g 0 7 (nI (b + 1))) 0 6 (nI (z + 1))) ph (pz_st (pz_st h 18 17 (nI (b + 1))) 18 15 (nI (z + 1))) ∧ vp_in (g 4 z) 9 := by
  obtain ⟨n, n1, n2, n3, n4⟩ := hR.1.1
  obtain ⟨-, -, q, q1, q2, q3⟩ := hR.2.2.2
  have hq : q < n := by
    rw [q2, n2] at c17
    exact (nI_ltI (by omega) (by omega)).mp c17
  have hb8 : b < 80 := by
    rcases Nat.lt_or_ge b 80 with z | z
    · exact z
    · exact absurd (by rw [hb]; exact nI_le (a := 80) z (by omega)) c6
  refine ⟨q, by omega, q2, q3, ?_, hb8, ?_, n4 q hq⟩
  · rw [← hR.1.2.2.2.2.2.1, hb]
  · exact pz_upN (pz_upB hR _) (by omega)
def pz_IC (n : Nat) (g : pz_M) (ph : Nat → Option Nat) : Prop := ∃ (d : Nat) (h : pz_M) (b : Nat), pz_RR d g ph h ∧ g 0 7 = nI b ∧ b ≤ 80 ∧ 80 - b < n
def pz_IM (n : Nat) (h : pz_M) : Prop := ∃ (d : Nat) (g : pz_M) (ph : Nat → Option Nat) (b : Nat), pz_RR d g ph h ∧ h 18 17 = nI b ∧ b ≤ 80 ∧ 80 - b < n
theorem pz_f7 {r : Int32} (h : vp_in r 7) (h0 : ¬ r = 0) : ∃ f : Nat, 1 ≤ f ∧ f ≤ 6 ∧ r = nI f := by
  obtain ⟨f, h1, rfl⟩ := vp_in_of h (by decide)
  refine ⟨f, ?_, by omega, rfl⟩
  rcases Nat.lt_or_ge f 1 with q | q
  · have : f = 0 := by omega
    subst this
    exact absurd rfl h0
  · exact q
theorem ps_iterC {n : Nat} {w : pz_M} {ph : Nat → Option Nat} (hI : pz_IC (n + 1) w ph) (c6 : ¬ 80 ≤ w 0 7) (c17 : w 0 6 < w 0 5) {w2 : pz_M} (hw2 : w2 = pz_st (pz_st w 0 7 (w 0 7 + 1)) 0 6 (w 0 6 + 1)) :
    vp_in (w 0 6) 30 ∧ pz_W w2 ph ∧ (¬ w2 4 (w 0 6).toNatClampNeg = 6 → vp_in (f_X2_perform w2 ph (w 0 6)).1 7 ∧ pz_W (f_X2_perform w2 ph (w 0 6)).2.1 (f_X2_perform w2 ph (w 0 6)).2.2 ∧ ((f_X2_perform w2 ph (w 0 6)).1 = 0 → pz_IC n (f_X2_perform w2 ph (w 0 6)).2.1 (f_X2_perform w2 ph (w 0 6)).2.2) ∧
      (¬ (f_X2_perform w2 ph (w 0 6)).1 = 0 → ¬ (f_X2_isCaught (f_X2_perform w2 ph (w 0 6)).2.1 (f_X2_perform w2 ph (w 0 6)).2.2 (f_X2_perform w2 ph (w 0 6)).1 (w 0 6)).1 = 0 → pz_IC n (f_X2_isCaught (f_X2_perform w2 ph (w 0 6)).2.1 (f_X2_perform w2 ph (w 0 6)).2.2 (f_X2_perform w2 ph (w 0 6)).1 (w 0 6)).2.1 (f_X2_isCaught (f_X2_perform w2 ph (w 0 6)).2.1 (f_X2_perform w2 ph (w 0 6)).2.2 (f_X2_perform w2 ph (w 0 6)).1 (w 0 6)).2.2)) := by
  obtain ⟨d, h, b, hR, hb, hb80, hbn⟩ := hI
  obtain ⟨z, hz, ez, ez2, eb, hb8, hR2, ha⟩ := ps_tick hR hb hb80 c6 c17
  have e2 : w2 = pz_st (pz_st w 0 7 (nI (b + 1))) 0 6 (nI (z + 1)) := by rw [hw2, hb, ez, nI_1, nI_1]
  rw [ez, e2]
  have cz : (nI z).toNatClampNeg = z := nI_clamp (by omega)
  refine ⟨vp_in_nI hz (by decide), pz_RW hR2.2.2.1, fun h6 => ?_⟩
  rw [cz] at h6
  have hS := ps_step hR2 hz pz_s (by rw [pz_t2 (by omega), pz_t2 (by omega)]; exact ha) h6
  generalize f_X2_perform (pz_st (pz_st w 0 7 (nI (b + 1))) 0 6 (nI (z + 1))) ph (nI z) = X at hS ⊢
  generalize f_X3_does (pz_st (pz_st h 18 17 (nI (b + 1))) 18 15 (nI (z + 1))) _ _ = Y at hS
  obtain ⟨s1, ⟨d', s2⟩, s3, s4, s5⟩ := hS
  have s5 : X.2.1 0 7 = nI (b + 1) := by rw [s5, pz_t (by omega), pz_s]
  refine ⟨s3, pz_RW s2.2.2.1, fun _ => ⟨d', Y.2, b + 1, s2, s5, by omega, by omega⟩, fun h0 hc => ?_⟩
  obtain ⟨f, f1, f6, ef⟩ := pz_f7 s3 h0
  rw [ef] at hc ⊢
  obtain ⟨t1, t2⟩ := ps_caught s2 f1 f6 (nI z)
  rcases t2 with ⟨u1, -⟩ | ⟨u1, ⟨d2, u2⟩, u3, u4⟩
  · exact absurd u1 hc
  · exact ⟨d2, _, b + 1, u2, by rw [u3]; exact s5, by omega, by omega⟩
theorem pz_10f {f : Nat} (hf : f ≤ 6) : (10 : Int32) + nI f = nI (10 + f) := nI_add 10 f
theorem ps_iterM {n : Nat} {w : pz_M} (hI : pz_IM (n + 1) w) (c43 : ¬ w 18 8 ≤ w 18 15) (c59 : ¬ w 18 17 = 80) {w1 w2 : pz_M} (hw1 : w1 = pz_st w 18 17 (w 18 17 + 1)) (hw2 : w2 = pz_st w1 18 15 (w1 18 15 + 1)) :
    vp_in (w1 18 15) 30 ∧ pz_V w2 ∧ ((f_X3_does w2 (w2 26 (w1 18 15).toNatClampNeg) (w2 27 (w1 18 15).toNatClampNeg)).1 = 0 → pz_IM n (f_X3_does w2 (w2 26 (w1 18 15).toNatClampNeg) (w2 27 (w1 18 15).toNatClampNeg)).2) ∧
      (¬ (f_X3_does w2 (w2 26 (w1 18 15).toNatClampNeg) (w2 27 (w1 18 15).toNatClampNeg)).1 = 0 → vp_in (10 + (f_X3_does w2 (w2 26 (w1 18 15).toNatClampNeg) (w2 27 (w1 18 15).toNatClampNeg)).1) 17 ∧
        ∀ k1 k2 : pz_M, k1 = pz_st (f_X3_does w2 (w2 26 (w1 18 15).toNatClampNeg) (w2 27 (w1 18 15).toNatClampNeg)).2 18 18 (w1 18 15) → k2 = pz_st k1 31 (10 + (f_X3_does w2 (w2 26 (w1 18 15).toNatClampNeg) (w2 27 (w1 18 15).toNatClampNeg)).1).toNatClampNeg (k1 31 (10 + (f_X3_does w2 (w2 26 (w1 18 15).toNatClampNeg) (w2 27 (w1 18 15).toNatClampNeg)).1).toNatClampNeg + 1) →
          pz_V k2 ∧ (¬ (f_X3_isCaught k2).1 = 0 → pz_IM n (f_X3_isCaught k2).2)) := by
  obtain ⟨d, g, ph, b, hR, hb, hb80, hbn⟩ := hI
  have hgb : g 0 7 = nI b := by rw [hR.1.2.2.2.2.2.1, hb]
  obtain ⟨z, hz, ez, ez2, eb, hb8, hR2, ha⟩ := ps_tick hR hgb hb80 (by
      rw [hgb]
      intro q
      have q2 := (nI_leI (a := 80) (by decide) (by omega)).mp q
      have : b = 80 := by omega
      exact c59 (by rw [hb, this]; rfl)) (by
      obtain ⟨n, n1, n2, n3, n4⟩ := hR.1.1
      obtain ⟨-, -, q, q1, q2, q3⟩ := hR.2.2.2
      rw [q2, n2]
      rw [n3, q3] at c43
      rcases Nat.lt_or_ge q n with z | z
      · exact nI_lt z (by omega)
      · exact absurd (nI_le z (by omega)) c43)
  have cz : (nI z).toNatClampNeg = z := nI_clamp (by omega)
  have e1 : w1 18 15 = nI z := by rw [hw1, pz_t (by omega)]; exact ez2
  have e2 : w2 = pz_st (pz_st w 18 17 (nI (b + 1))) 18 15 (nI (z + 1)) := by rw [hw2, e1, hw1, hb, nI_1, nI_1]
  rw [e1, cz, e2]
  refine ⟨vp_in_nI hz (by decide), pz_RV hR2.2.2.1 hR2.2.2.2, ?_⟩
  have e17 : pz_st (pz_st w 18 17 (nI (b + 1))) 18 15 (nI (z + 1)) 18 17 = nI (b + 1) := by rw [pz_t (by omega), pz_s]
  by_cases h6 : g 4 z = 6
  · have ea : pz_st (pz_st w 18 17 (nI (b + 1))) 18 15 (nI (z + 1)) 26 z = 6 := by rw [pz_t2 (by omega), pz_t2 (by omega), ← hR.1.2.1 z hz]; exact h6
    have E : f_X3_does (pz_st (pz_st w 18 17 (nI (b + 1))) 18 15 (nI (z + 1))) (pz_st (pz_st w 18 17 (nI (b + 1))) 18 15 (nI (z + 1)) 26 z) (pz_st (pz_st w 18 17 (nI (b + 1))) 18 15 (nI (z + 1)) 27 z) = (0, pz_st (pz_st (pz_st w 18 17 (nI (b + 1))) 18 15 (nI (z + 1))) 18 16 1) := by
      unfold f_X3_does
      rw [ea, if_neg (by decide), if_neg (by decide), if_neg (by decide), if_neg (by decide), if_neg (by decide), if_neg (by decide), if_pos rfl]
    rw [E]
    exact ⟨fun _ => ⟨d, _, ph, b + 1, pz_upQ hR2 1, by dsimp only; rw [pz_t (by omega)]; exact e17, by omega, by omega⟩, fun q => absurd rfl q⟩
  · have hS := ps_step hR2 hz pz_s (by rw [pz_t2 (by omega), pz_t2 (by omega)]; exact ha) (by rw [pz_t2 (by omega), pz_t2 (by omega)]; exact h6)
    generalize f_X2_perform (pz_st (pz_st g 0 7 (nI (b + 1))) 0 6 (nI (z + 1))) ph (nI z) = X at hS
    generalize f_X3_does (pz_st (pz_st w 18 17 (nI (b + 1))) 18 15 (nI (z + 1))) _ _ = Y at hS ⊢
    obtain ⟨s1, ⟨d', s2⟩, s3, s4, s5⟩ := hS
    have s5 : X.2.1 0 7 = nI (b + 1) := by rw [s5, pz_t (by omega), pz_s]
    have s6 : Y.2 18 17 = nI (b + 1) := by rw [← s2.1.2.2.2.2.2.1]; exact s5
    refine ⟨fun _ => ⟨d', _, _, b + 1, s2, s6, by omega, by omega⟩, fun h0 => ?_⟩
    rw [s1] at s3
    obtain ⟨f, f1, f6, ef⟩ := pz_f7 s3 h0
    rw [ef, pz_10f f6]
    have c10 : (nI (10 + f)).toNatClampNeg = 10 + f := nI_clamp (by omega)
    refine ⟨vp_in_nI (by omega) (by decide), fun k1 k2 hk1 hk2 => ?_⟩
    rw [c10] at hk2
    have ek : k2 = pz_st (pz_st Y.2 18 18 (nI z)) 31 (10 + f) (Y.2 31 (10 + f) + 1) := by rw [hk2, hk1, pz_t2 (by omega)]
    rw [ek]
    obtain ⟨t1, t2⟩ := ps_caught s2 f1 f6 (nI z)
    have RU := pz_upF s2 f1 f6 (Y.2 31 (10 + f) + 1) (nI z)
    refine ⟨pz_RV RU.2.2.1 RU.2.2.2, fun hc => ?_⟩
    rw [← t1] at hc
    rcases t2 with ⟨u1, -⟩ | ⟨u1, ⟨d2, u2⟩, u3, u4⟩
    · exact absurd u1 hc
    · exact ⟨d2, _, _, b + 1, u2, by rw [← u2.1.2.2.2.2.2.1, u3]; exact s5, by omega, by omega⟩
