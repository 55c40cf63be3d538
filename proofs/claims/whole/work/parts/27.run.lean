def pz_OO (F : Int32 × pz_M × (Nat → Option Nat)) (Y : Int32 × pz_M) : Prop :=
  (F.1 = 0 ∧ Y.1 = F.2.1 0 7 ∧ pz_RE F.2.1 F.2.2 Y.2) ∨
  (F.1 = -3 ∧ Y.1 = -3 ∧ ∃ K : pz_M, pz_RE F.2.1 F.2.2 K ∧ Y.2 = pz_st K 31 4 (K 31 4 + 1)) ∨
  (∃ f : Nat, 1 ≤ f ∧ f ≤ 6 ∧ F.1 = nI f ∧ Y.1 = (-10) - nI f ∧ ∃ K : pz_M, pz_RE F.2.1 F.2.2 K ∧ Y.2 = pz_st K 31 3 (K 31 3 + 1))
theorem pz_REof {d : Nat} {g h : pz_M} {ph : Nat → Option Nat} (hR : pz_RR d g ph h) : pz_RE g ph h := ⟨hR.1, hR.2.1, d, hR.2.2.1⟩
theorem pz_c5 : (5 : Int32).toNatClampNeg = 5 := rfl
theorem pz_c4 : (4 : Int32).toNatClampNeg = 4 := rfl
theorem pz_c3 : (3 : Int32).toNatClampNeg = 3 := rfl
theorem pz_c2 : (2 : Int32).toNatClampNeg = 2 := rfl
/-- one counter of runs, on both sides -/
theorem pz_upR {d : Nat} {g h : pz_M} {ph : Nat → Option Nat} (h1 : pz_R1 g h) (h2 : pz_R2 g h) (h3 : pz_R3 d g ph) {j : Nat} (hj : j < 4) (v : Int32) : pz_R1 (pz_st g 0 (10 + j) v) (pz_st h 31 (2 + j) v) ∧ pz_R2 (pz_st g 0 (10 + j) v) (pz_st h 31 (2 + j) v) ∧ pz_R3 d (pz_st g 0 (10 + j) v) ph := by
  refine ⟨?_, pz_R2m h2 (fun k hk i hi => by rw [pz_t2 (by omega)]) (fun i hj1 hj6 k hk => by rw [pz_t2 (by omega)]), ?_⟩
  · obtain ⟨a1, a2, a3, a4, a5, a6, a7, a8, a9, a10, a11⟩ := h1
    refine ⟨by simpa (disch := omega) only [pz_t2, pz_t] using a1, by simpa (disch := omega) only [pz_t2, pz_t] using a2, by simpa (disch := omega) only [pz_t2, pz_t] using a3, by simpa (disch := omega) only [pz_t2, pz_t] using a4, fun i hi1 hi6 => by simpa (disch := omega) only [pz_t2, pz_t] using a5 i hi1 hi6, by simpa (disch := omega) only [pz_t2, pz_t] using a6, by simpa (disch := omega) only [pz_t2, pz_t] using a7, ?_, ?_, ?_, ?_⟩
    · by_cases e : j = 0
      · subst e; rw [pz_s, pz_s]
      · rw [pz_t (by omega), pz_t (by omega)]; exact a8
    · by_cases e : j = 1
      · subst e; rw [pz_s, pz_s]
      · rw [pz_t (by omega), pz_t (by omega)]; exact a9
    · by_cases e : j = 2
      · subst e; rw [pz_s, pz_s]
      · rw [pz_t (by omega), pz_t (by omega)]; exact a10
    · by_cases e : j = 3
      · subst e; rw [pz_s, pz_s]
      · rw [pz_t (by omega), pz_t (by omega)]; exact a11
  · unfold pz_R3 at *
    simpa (disch := omega) only [pz_t2, pz_t] using h3
theorem ps_loop : ∀ (n m d b : Nat) (g h : pz_M) (ph : Nat → Option Nat), pz_RR d g ph h → g 0 7 = nI b → b ≤ 80 → 80 - b < n → 81 - b < m → h 18 16 = 0 → pz_OO (f_fo n g ph) (f_mrl m h) := by
  intro n
  induction n with
  | zero => intro m d b g h ph _ _ _ q; omega
  | succ n ih =>
    intro m d b g h ph hR hb hb80 hn hm hq0
    obtain ⟨m, rfl⟩ : ∃ k, m = k + 1 := ⟨m - 1, by omega⟩
    obtain ⟨n0, n1, n2, n3, n4⟩ := hR.1.1
    obtain ⟨-, -, q, q1, q2, q3⟩ := hR.2.2.2
    have h17 : h 18 17 = nI b := by rw [← hR.1.2.2.2.2.2.1, hb]
    have hself : pz_st h 31 5 (h 31 5 + 0) = h := pz_self (by rw [Int32.add_zero])
    unfold f_fo f_mrl
    by_cases hnq : q < n0
    · have cm : ¬ h 18 8 ≤ h 18 15 := by rw [n3, q3]; exact nI_ge hnq (by omega)
      have cc : g 0 6 < g 0 5 := by rw [q2, n2]; exact nI_lt hnq (by omega)
      have cc2 : ¬ g 0 5 ≤ g 0 6 := by rw [q2, n2]; exact nI_ge hnq (by omega)
      rw [if_neg cm, if_pos hq0]
      by_cases hb8 : b = 80
      · subst hb8
        rw [if_pos (by rw [hb]; exact nI_le (a := 80) (Nat.le_refl 80) (by decide)), if_neg cc2, if_pos (by rw [h17]; rfl)]
        exact Or.inr (Or.inl ⟨rfl, rfl, h, pz_REof hR, rfl⟩)
      · have c6 : ¬ 80 ≤ g 0 7 := by rw [hb]; exact nI_ge (b := 80) (by omega) (by decide)
        rw [if_neg c6, if_pos cc, if_neg (show ¬ h 18 17 = 80 by rw [h17]; intro z; have := (nI_eq (a := b) (b := 80) (by omega) (by decide)).mp z; omega)]
        obtain ⟨z, hz, ez, ez2, eb, hb9, hR2, ha⟩ := ps_tick hR hb hb80 c6 cc
        have cz : (nI z).toNatClampNeg = z := nI_clamp (by omega)
        have e15 : pz_st h 18 17 (nI (b + 1)) 18 15 = nI z := by rw [pz_t (by omega)]; exact ez2
        simp only [hb, h17, ez, nI_1, e15, cz]
        have g4 : pz_st (pz_st g 0 7 (nI (b + 1))) 0 6 (nI (z + 1)) 4 z = g 4 z := by rw [pz_t2 (by omega), pz_t2 (by omega)]
        have q16 : pz_st (pz_st h 18 17 (nI (b + 1))) 18 15 (nI (z + 1)) 18 16 = 0 := by rw [pz_t (by omega), pz_t (by omega)]; exact hq0
        have b7 : pz_st (pz_st g 0 7 (nI (b + 1))) 0 6 (nI (z + 1)) 0 7 = nI (b + 1) := by rw [pz_t (by omega), pz_s]
        by_cases h6 : g 4 z = 6
        · rw [if_pos (g4.trans h6)]
          have ea : pz_st (pz_st h 18 17 (nI (b + 1))) 18 15 (nI (z + 1)) 26 z = 6 := by rw [pz_t2 (by omega), pz_t2 (by omega), ← hR.1.2.1 z hz]; exact h6
          have E : ∀ x, f_X3_does (pz_st (pz_st h 18 17 (nI (b + 1))) 18 15 (nI (z + 1))) (pz_st (pz_st h 18 17 (nI (b + 1))) 18 15 (nI (z + 1)) 26 z) x = (0, pz_st (pz_st (pz_st h 18 17 (nI (b + 1))) 18 15 (nI (z + 1))) 18 16 1) := by
            intro x
            unfold f_X3_does
            rw [ea, if_neg (by decide), if_neg (by decide), if_neg (by decide), if_neg (by decide), if_neg (by decide), if_neg (by decide), if_pos rfl]
          rw [E]
          dsimp only
          rw [if_pos rfl]
          have RQ := pz_upQ hR2 1
          generalize hK : pz_st (pz_st (pz_st h 18 17 (nI (b + 1))) 18 15 (nI (z + 1))) 18 16 1 = K at RQ ⊢
          have k16 : ¬ K 18 16 = 0 := by rw [← hK, pz_s]; decide
          generalize pz_st (pz_st g 0 7 (nI (b + 1))) 0 6 (nI (z + 1)) = G at RQ b7 ⊢
          obtain ⟨m, rfl⟩ : ∃ k, m = k + 1 := ⟨m - 1, by omega⟩
          have EK : f_mrl (m + 1) K = (pz_st K 31 5 (K 31 5 + 1) 18 17, pz_st K 31 5 (K 31 5 + 1)) := by
            unfold f_mrl
            by_cases cx : K 18 8 ≤ K 18 15
            · rw [if_pos cx, if_neg k16]; rfl
            · rw [if_neg cx, if_neg k16, if_neg k16]; rfl
          rw [EK]
          have e13 : G 0 13 = K 31 5 := RQ.1.2.2.2.2.2.2.2.2.2.2
          obtain ⟨u1, u2, u3⟩ := pz_upR RQ.1 RQ.2.1 RQ.2.2.1 (j := 3) (by omega) (G 0 13 + 1)
          refine Or.inl ⟨rfl, ?_, ?_⟩
          · show pz_st K 31 5 (K 31 5 + 1) 18 17 = pz_st G 0 13 (G 0 13 + 1) 0 7
            rw [pz_t2 (by omega), pz_t (by omega)]
            exact RQ.1.2.2.2.2.2.1.symm
          · show pz_RE (pz_st G 0 13 (G 0 13 + 1)) ph (pz_st K 31 5 (K 31 5 + 1))
            rw [← e13]
            exact ⟨u1, u2, d, u3⟩
        · rw [if_neg (fun y => h6 (g4.symm.trans y))]
          have hS := ps_step hR2 hz pz_s (by rw [g4]; exact ha) (by rw [g4]; exact h6)
          generalize f_X2_perform (pz_st (pz_st g 0 7 (nI (b + 1))) 0 6 (nI (z + 1))) ph (nI z) = X at hS ⊢
          generalize f_X3_does (pz_st (pz_st h 18 17 (nI (b + 1))) 18 15 (nI (z + 1))) _ _ = Y at hS ⊢
          obtain ⟨s1, ⟨d', s2⟩, s3, s4, s5⟩ := hS
          have s5 : X.2.1 0 7 = nI (b + 1) := s5.trans b7
          have s4 : Y.2 18 16 = 0 := s4.trans q16
          by_cases h0 : X.1 = 0
          · rw [if_pos h0, if_pos (by rw [← s1]; exact h0)]
            exact ih m d' (b + 1) _ _ _ s2 s5 (by omega) (by omega) (by omega) s4
          · rw [if_neg h0, if_neg (show ¬ Y.1 = 0 by rw [← s1]; exact h0)]
            obtain ⟨f, f1, f6, ef⟩ := pz_f7 s3 h0
            have c10 : (nI (10 + f)).toNatClampNeg = 10 + f := nI_clamp (by omega)
            rw [← s1, ef, pz_10f f6, c10, pz_t2 (by omega)]
            obtain ⟨t1, t2⟩ := ps_caught s2 f1 f6 (nI z)
            rw [← t1]
            rcases t2 with ⟨u1, u2⟩ | ⟨u1, ⟨d2, u2⟩, u3, u4⟩
            · rw [if_pos u1, if_pos u1]
              exact Or.inr (Or.inr ⟨f, f1, f6, rfl, rfl, _, u2, rfl⟩)
            · rw [if_neg (show ¬ (f_X2_isCaught X.2.1 X.2.2 (nI f) (nI z)).1 = 0 by rw [u1]; decide), if_neg (show ¬ (f_X2_isCaught X.2.1 X.2.2 (nI f) (nI z)).1 = 0 by rw [u1]; decide)]
              exact ih m d2 (b + 1) _ _ _ u2 (u3.trans s5) (by omega) (by omega) (by omega) (u4.trans s4)
    · have cm : h 18 8 ≤ h 18 15 := by rw [n3, q3]; exact nI_le (by omega) (by omega)
      have cc : ¬ g 0 6 < g 0 5 := by rw [q2, n2]; exact nI_nlt (by omega) (by omega)
      have cc2 : g 0 5 ≤ g 0 6 := by rw [q2, n2]; exact nI_le (by omega) (by omega)
      rw [if_pos cm, if_pos hq0, if_pos cc2, if_neg cc]
      have E : (if 80 ≤ g 0 7 then (0, g, ph) else (0, g, ph)) = ((0 : Int32), g, ph) := by split <;> rfl
      rw [E]
      refine Or.inl ⟨rfl, ?_, ?_⟩
      · show pz_st h 31 5 (h 31 5 + 0) 18 17 = g 0 7
        rw [hself]; exact hR.1.2.2.2.2.2.1.symm
      · show pz_RE g ph (pz_st h 31 5 (h 31 5 + 0))
        rw [hself]; exact pz_REof hR
/-- between two calls -/
def pz_B (g : pz_M) (ph : Nat → Option Nat) (h : pz_M) : Prop := pz_R1 g h ∧ pz_R2 g h ∧ pz_R3 0 g ph
theorem ps_start {g h : pz_M} {ph : Nat → Option Nat} (hB : pz_B g ph h) : pz_RR 0 (pz_st (pz_st (pz_st g 0 10 (g 0 10 + 1)) 0 7 0) 0 6 0) ph (pz_st (pz_st (pz_st (pz_st (pz_st (pz_st h 18 0 0) 31 2 (h 31 2 + 1)) 18 17 0) 18 11 0) 18 15 0) 18 16 0) := by
  obtain ⟨h1, h2, h3⟩ := hB
  obtain ⟨a1, a2, a3, a4, a5, a6, a7, a8, a9, a10, a11⟩ := h1
  refine ⟨⟨by simpa (disch := omega) only [pz_t2, pz_t] using a1, by simpa (disch := omega) only [pz_t2, pz_t] using a2, by simpa (disch := omega) only [pz_t2, pz_t] using a3, by simpa (disch := omega) only [pz_t2, pz_t] using a4, fun i hi1 hi6 => by simpa (disch := omega) only [pz_t2, pz_t] using a5 i hi1 hi6, by simp (disch := omega) only [pz_t2, pz_t, pz_s], by simpa (disch := omega) only [pz_t2, pz_t] using a7, by simp (disch := omega) only [pz_t2, pz_t, pz_s]; rw [a8], by simpa (disch := omega) only [pz_t2, pz_t] using a9, by simpa (disch := omega) only [pz_t2, pz_t] using a10, by simpa (disch := omega) only [pz_t2, pz_t] using a11⟩, ?_, ?_, ?_⟩
  · exact pz_R2m h2 (fun k hk i hi => by simp (disch := omega) only [pz_t2]) (fun j hj1 hj6 k hk => by simp (disch := omega) only [pz_t2])
  · unfold pz_R3 at *
    simpa (disch := omega) only [pz_t2, pz_t] using h3
  · refine ⟨by simp (disch := omega) only [pz_t2, pz_t, pz_s]; rfl, fun i hi => absurd hi (Nat.not_lt_zero i), 0, by omega, by simp (disch := omega) only [pz_t2, pz_t, pz_s]; rfl, by simp (disch := omega) only [pz_t2, pz_t, pz_s]; rfl⟩
theorem ps_IC {g h : pz_M} {ph : Nat → Option Nat} (hB : pz_B g ph h) : pz_IC 81 (pz_st (pz_st (pz_st g 0 10 (g 0 10 + 1)) 0 7 0) 0 6 0) ph :=
  ⟨0, _, 0, ps_start hB, by simp (disch := omega) only [pz_t2, pz_t, pz_s]; rfl, by omega, by omega⟩
theorem ps_IM {g h : pz_M} {ph : Nat → Option Nat} (hB : pz_B g ph h) : pz_IM 82 (pz_st (pz_st (pz_st (pz_st (pz_st (pz_st h 18 0 0) 31 2 (h 31 2 + 1)) 18 17 0) 18 11 0) 18 15 0) 18 16 0) :=
  ⟨0, _, ph, 0, ps_start hB, by simp (disch := omega) only [pz_t2, pz_t, pz_s]; rfl, by omega, by omega⟩
theorem ps_OO {g h : pz_M} {ph : Nat → Option Nat} (hB : pz_B g ph h) : pz_OO (f_X2_followOrder (pz_st (pz_st (pz_st g 0 10 (g 0 10 + 1)) 0 7 0) 0 6 0) ph) (f_X3_run h) := by
  have E : f_X3_run h = f_mrl 82 (pz_st (pz_st (pz_st (pz_st (pz_st (pz_st h 18 0 0) 31 2 (h 31 2 + 1)) 18 17 0) 18 11 0) 18 15 0) 18 16 0) := by
    unfold f_X3_run
    dsimp only
    rw [pz_c2, pz_t2 (by omega)]
  rw [E]
  exact ps_loop 81 82 0 0 _ _ _ (ps_start hB) (by simp (disch := omega) only [pz_t2, pz_t, pz_s]; rfl) (by omega) (by omega) (by omega) pz_s
theorem pz_OOW {F : Int32 × pz_M × (Nat → Option Nat)} {Y : Int32 × pz_M} (h : pz_OO F Y) : pz_W F.2.1 F.2.2 := by
  rcases h with ⟨-, -, -, -, d, h3⟩ | ⟨-, -, K, ⟨-, -, d, h3⟩, -⟩ | ⟨f, -, -, -, -, K, ⟨-, -, d, h3⟩, -⟩ <;> exact pz_RW h3
theorem ps_run {g h : pz_M} {ph : Nat → Option Nat} (hB : pz_B g ph h) : (f_X2_run g ph).1 = (f_X3_run h).1 ∧ pz_B (f_X2_run g ph).2.1 (f_X2_run g ph).2.2 (f_X3_run h).2 := by
  have hO := ps_OO hB
  generalize hF : f_X2_followOrder (pz_st (pz_st (pz_st g 0 10 (g 0 10 + 1)) 0 7 0) 0 6 0) ph = F at hO
  have down : ∀ K : pz_M, pz_RE F.2.1 F.2.2 K → pz_B (f_ldt F.2.2 0 7 F.2.1) F.2.2 K ∧ f_ldt F.2.2 0 7 F.2.1 0 7 = F.2.1 0 7 := by
    intro K hK
    obtain ⟨h1, h2, d, h3⟩ := hK
    have h6 := h3.1
    obtain ⟨r1, r2⟩ := pz_ldtR (e := 0) 7 d F.2.1 h3 (by omega) (by omega)
    have r1 : pz_R3 0 (f_ldt F.2.2 0 7 F.2.1) F.2.2 := r1
    have r2 : ∀ r j, ¬ (r = 2 ∧ j = 3) → ¬ (10 ≤ r ∧ j = 7) → f_ldt F.2.2 0 7 F.2.1 r j = F.2.1 r j := r2
    exact ⟨⟨pz_R1m h1 (fun r j hr hr2 _ => r2 r j (by omega) (by omega)) (fun _ _ _ => rfl), pz_R2m h2 (fun k hk i hi => r2 _ _ (by omega) (by omega)) (fun _ _ _ _ _ => rfl), r1⟩, r2 0 7 (by omega) (by omega)⟩
  have E : f_X2_run g ph = if F.1 = (-3) then ((-3), pz_st (f_ldt F.2.2 0 7 F.2.1) 0 12 (f_ldt F.2.2 0 7 F.2.1 0 12 + 1), F.2.2) else if F.1 = 0 then (f_ldt F.2.2 0 7 F.2.1 0 7, f_ldt F.2.2 0 7 F.2.1, F.2.2) else ((-10) - F.1, pz_st (f_ldt F.2.2 0 7 F.2.1) 0 11 (f_ldt F.2.2 0 7 F.2.1 0 11 + 1), F.2.2) := by
    unfold f_X2_run f_X1_leaveDownTo
    dsimp only
    rw [hF]
  rw [E]
  rcases hO with ⟨p1, p2, p3⟩ | ⟨p1, p2, K, p3, p4⟩ | ⟨f, f1, f6, p1, p2, K, p3, p4⟩
  · obtain ⟨r1, r2⟩ := down _ p3
    rw [p1, if_neg (by decide), if_pos rfl]
    exact ⟨by dsimp only; rw [r2, p2], r1⟩
  · obtain ⟨r1, r2⟩ := down _ p3
    rw [p1, if_pos rfl, p4]
    obtain ⟨u1, u2, u3⟩ := pz_upR r1.1 r1.2.1 r1.2.2 (j := 2) (by omega) (f_ldt F.2.2 0 7 F.2.1 0 12 + 1)
    have e12 : f_ldt F.2.2 0 7 F.2.1 0 12 = K 31 4 := r1.1.2.2.2.2.2.2.2.2.2.1
    refine ⟨p2.symm, ?_⟩
    show pz_B (pz_st (f_ldt F.2.2 0 7 F.2.1) 0 12 (f_ldt F.2.2 0 7 F.2.1 0 12 + 1)) F.2.2 (pz_st K 31 4 (K 31 4 + 1))
    rw [← e12]
    exact ⟨u1, u2, u3⟩
  · obtain ⟨r1, r2⟩ := down _ p3
    have n0 : ¬ nI f = 0 := nI_ne0 (by omega) (by omega)
    have n3 : ¬ nI f = -3 := by
      intro z
      have := nI_pos (n := f) (by omega)
      rw [z] at this
      exact this (by decide)
    rw [p1, if_neg n3, if_neg n0, p4]
    obtain ⟨u1, u2, u3⟩ := pz_upR r1.1 r1.2.1 r1.2.2 (j := 1) (by omega) (f_ldt F.2.2 0 7 F.2.1 0 11 + 1)
    have e11 : f_ldt F.2.2 0 7 F.2.1 0 11 = K 31 3 := r1.1.2.2.2.2.2.2.2.2.1
    refine ⟨p2.symm, ?_⟩
    show pz_B (pz_st (f_ldt F.2.2 0 7 F.2.1) 0 11 (f_ldt F.2.2 0 7 F.2.1 0 11 + 1)) F.2.2 (pz_st K 31 3 (K 31 3 + 1))
    rw [← e11]
    exact ⟨u1, u2, u3⟩
