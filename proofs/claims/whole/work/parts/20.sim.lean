/-! THE TIE: the class's memory and the reference's -/
def pz_ct (ph : Nat → Option Nat) (k : Nat) : Nat → Nat
  | 0 => 0
  | d + 1 => pz_ct ph k d + (if ph d = some k then 1 else 0)
def pz_R1 (g h : pz_M) : Prop :=
  (∃ n : Nat, n ≤ 30 ∧ g 0 5 = nI n ∧ h 18 8 = nI n ∧ ∀ j, j < n → vp_in (g 4 j) 9) ∧ (∀ j, j < 30 → g 4 j = h 26 j) ∧ (∀ j, j < 30 → g 5 j = h 27 j) ∧ (∀ j, j < 8 → g 3 j = h 25 j) ∧ (∀ j, 1 ≤ j → j ≤ 6 → g 6 j = h 31 (10 + j)) ∧ g 0 7 = h 18 17 ∧ g 0 8 = h 18 18 ∧ g 0 10 = h 31 2 ∧ g 0 11 = h 31 3 ∧ g 0 12 = h 31 4 ∧ g 0 13 = h 31 5
def pz_R2 (g h : pz_M) : Prop := ∀ k, k < 8 → (g (10 + k) 0 = 1 ∧ 0 < h 19 k ∧ ∀ j, 1 ≤ j → j ≤ 6 → g (10 + k) j = h (18 + j) k) ∨ (g (10 + k) 0 = 0 ∧ h 19 k = 0)
def pz_R3 (d : Nat) (g : pz_M) (ph : Nat → Option Nat) : Prop := d ≤ 6 ∧ g 2 3 = nI d ∧ (∀ i, i < d → ∃ k, k < 8 ∧ ph i = some k ∧ g (10 + k) 0 = 1) ∧ ∀ k, k < 8 → g (10 + k) 7 = nI (pz_ct ph k d)
def pz_R4 (d : Nat) (g : pz_M) (ph : Nat → Option Nat) (h : pz_M) : Prop := h 18 11 = nI d ∧ (∀ i, i < d → h 28 i = nI (pz_h ph i) ∧ g 9 i = h 30 i ∧ ∃ z, z < 30 ∧ g 8 i = nI z ∧ h 29 i = nI (z + 1)) ∧ ∃ q, q ≤ 40 ∧ g 0 6 = nI q ∧ h 18 15 = nI q
def pz_RR (d : Nat) (g : pz_M) (ph : Nat → Option Nat) (h : pz_M) : Prop := pz_R1 g h ∧ pz_R2 g h ∧ pz_R3 d g ph ∧ pz_R4 d g ph h
theorem pz_s {h : pz_M} {r k : Nat} {v : Int32} : pz_st h r k v r k = v := by rw [pz_st_s, pk_us]
theorem pz_RW {d : Nat} {g : pz_M} {ph : Nat → Option Nat} (h3 : pz_R3 d g ph) : pz_W g ph := by
  obtain ⟨a, b, c, -⟩ := h3
  exact ⟨d, a, b, fun i hi => by obtain ⟨k, h1, h2, -⟩ := c i hi; exact ⟨k, h1, h2⟩⟩
theorem pz_hk {d : Nat} {g : pz_M} {ph : Nat → Option Nat} (h3 : pz_R3 d g ph) {i : Nat} (hi : i < d) : pz_h ph i < 8 ∧ ph i = some (pz_h ph i) ∧ g (10 + pz_h ph i) 0 = 1 := by
  obtain ⟨a, b, c, -⟩ := h3
  obtain ⟨k, h1, h2, h4⟩ := c i hi
  have e : pz_h ph i = k := by unfold pz_h; rw [h2]; rfl
  rw [e]
  exact ⟨h1, h2, h4⟩
theorem pz_RV {d : Nat} {g h : pz_M} {ph : Nat → Option Nat} (h3 : pz_R3 d g ph) (h4 : pz_R4 d g ph h) : pz_V h := by
  refine ⟨d, h3.1, h4.1, fun i hi => ?_⟩
  rw [(h4.2.1 i hi).1]
  exact vp_in_nI (pz_hk h3 hi).1 (by decide)
theorem pz_hv {g h : pz_M} (h2 : pz_R2 g h) {k : Nat} (hk : k < 8) (hs : g (10 + k) 0 = 1) : 0 < h 19 k ∧ ∀ j, 1 ≤ j → j ≤ 6 → g (10 + k) j = h (18 + j) k := by
  rcases h2 k hk with ⟨-, a, b⟩ | ⟨a, -⟩
  · exact ⟨a, b⟩
  · rw [hs] at a; exact absurd a (by decide)
theorem pz_R2m {g h g' h' : pz_M} (h2 : pz_R2 g h) (a : ∀ k, k < 8 → ∀ i, i ≤ 6 → g' (10 + k) i = g (10 + k) i) (b : ∀ j, 1 ≤ j → j ≤ 6 → ∀ k, k < 8 → h' (18 + j) k = h (18 + j) k) : pz_R2 g' h' := by
  intro k hk
  have e : h' 19 k = h 19 k := b 1 (by omega) (by omega) k hk
  rw [a k hk 0 (by omega), e]
  rcases h2 k hk with ⟨q1, q2, q3⟩ | q
  · exact Or.inl ⟨q1, q2, fun j j1 j6 => by rw [a k hk j j6, b j j1 j6 k hk]; exact q3 j j1 j6⟩
  · exact Or.inr q
/-- one field of a house, on both sides -/
theorem pz_upH {d : Nat} {g h : pz_M} {ph : Nat → Option Nat} (hR : pz_RR d g ph h) {k j : Nat} (hk : k < 8) (hs : g (10 + k) 0 = 1) (hj : 2 ≤ j) (hj6 : j ≤ 6) (v : Int32) : pz_RR d (pz_st g (10 + k) j v) ph (pz_st h (18 + j) k v) := by
  obtain ⟨h1, h2, h3, h4⟩ := hR
  refine ⟨?_, ?_, ?_, ?_⟩
  · unfold pz_R1 at *
    simpa (disch := omega) only [pz_t2, pz_t] using h1
  · intro k' hk'
    by_cases e : k' = k
    · subst e
      obtain ⟨a, b⟩ := pz_hv h2 hk' hs
      refine Or.inl ⟨by simpa (disch := omega) only [pz_t2, pz_t] using hs, by simpa (disch := omega) only [pz_t2, pz_t] using a, fun i hi1 hi6 => ?_⟩
      by_cases e2 : i = j
      · subst e2; rw [pz_s, pz_s]
      · simpa (disch := omega) only [pz_t2, pz_t] using b i hi1 hi6
    · have q := h2 k' hk'
      rcases q with ⟨a, b, c⟩ | ⟨a, b⟩
      · refine Or.inl ⟨by simpa (disch := omega) only [pz_t2, pz_t] using a, by simpa (disch := omega) only [pz_t2, pz_t] using b, fun i hi1 hi6 => ?_⟩
        by_cases e2 : i = j
        · subst e2
          rw [pz_t2 (by omega), pz_t (by omega)]
          exact c i hi1 hi6
        · simpa (disch := omega) only [pz_t2, pz_t] using c i hi1 hi6
      · exact Or.inr ⟨by simpa (disch := omega) only [pz_t2, pz_t] using a, by simpa (disch := omega) only [pz_t2, pz_t] using b⟩
  · obtain ⟨a, b, c, f⟩ := h3
    refine ⟨a, by simpa (disch := omega) only [pz_t2, pz_t] using b, fun i hi => ?_, fun k' hk' => ?_⟩
    · obtain ⟨k', q1, q2, q3⟩ := c i hi
      refine ⟨k', q1, q2, ?_⟩
      by_cases e : k' = k
      · subst e; rw [pz_t (by omega)]; exact q3
      · rw [pz_t2 (by omega)]; exact q3
    · by_cases e : k' = k
      · subst e; rw [pz_t (by omega)]; exact f k' hk'
      · rw [pz_t2 (by omega)]; exact f k' hk'
  · unfold pz_R4 at *
    simpa (disch := omega) only [pz_t2, pz_t] using h4
/-- the next step's number, on both sides -/
theorem pz_upN {d : Nat} {g h : pz_M} {ph : Nat → Option Nat} (hR : pz_RR d g ph h) {q : Nat} (hq : q ≤ 40) : pz_RR d (pz_st g 0 6 (nI q)) ph (pz_st h 18 15 (nI q)) := by
  obtain ⟨h1, h2, h3, h4⟩ := hR
  refine ⟨?_, ?_, ?_, ?_⟩
  · unfold pz_R1 at *
    simpa (disch := omega) only [pz_t2, pz_t] using h1
  · exact pz_R2m h2 (fun k hk i hi => by rw [pz_t2 (by omega)]) (fun j hj1 hj6 k hk => by rw [pz_t2 (by omega)])
  · unfold pz_R3 at *
    simpa (disch := omega) only [pz_t2, pz_t] using h3
  · obtain ⟨a, b, -⟩ := h4
    refine ⟨by simpa (disch := omega) only [pz_t2, pz_t] using a, fun i hi => ?_, q, hq, pz_s, pz_s⟩
    simpa (disch := omega) only [pz_t2, pz_t] using b i hi
/-- how many were begun -/
theorem pz_upB {d : Nat} {g h : pz_M} {ph : Nat → Option Nat} (hR : pz_RR d g ph h) (v : Int32) : pz_RR d (pz_st g 0 7 v) ph (pz_st h 18 17 v) := by
  obtain ⟨h1, h2, h3, h4⟩ := hR
  refine ⟨?_, ?_, ?_, ?_⟩
  · obtain ⟨a1, a2, a3, a4, a5, a6, a7, a8⟩ := h1
    refine ⟨by simpa (disch := omega) only [pz_t2, pz_t] using a1, by simpa (disch := omega) only [pz_t2, pz_t] using a2, by simpa (disch := omega) only [pz_t2, pz_t] using a3, by simpa (disch := omega) only [pz_t2, pz_t] using a4, by simpa (disch := omega) only [pz_t2, pz_t] using a5, by rw [pz_s, pz_s], by simpa (disch := omega) only [pz_t2, pz_t] using a7, by simpa (disch := omega) only [pz_t2, pz_t] using a8⟩
  · exact pz_R2m h2 (fun k hk i hi => by rw [pz_t2 (by omega)]) (fun j hj1 hj6 k hk => by rw [pz_t2 (by omega)])
  · unfold pz_R3 at *
    simpa (disch := omega) only [pz_t2, pz_t] using h3
  · unfold pz_R4 at *
    simpa (disch := omega) only [pz_t2, pz_t] using h4
/-- a row of the ledger -/
theorem pz_upL {d : Nat} {g h : pz_M} {ph : Nat → Option Nat} (hR : pz_RR d g ph h) (i : Nat) (v : Int32) : pz_RR d (pz_st g 3 i v) ph (pz_st h 25 i v) := by
  obtain ⟨h1, h2, h3, h4⟩ := hR
  refine ⟨?_, ?_, ?_, ?_⟩
  · obtain ⟨a1, a2, a3, a4, a5⟩ := h1
    refine ⟨by simpa (disch := omega) only [pz_t2, pz_t] using a1, by simpa (disch := omega) only [pz_t2, pz_t] using a2, by simpa (disch := omega) only [pz_t2, pz_t] using a3, fun j hj => ?_, by simpa (disch := omega) only [pz_t2, pz_t] using a5⟩
    by_cases e : j = i
    · subst e; rw [pz_s, pz_s]
    · rw [pz_t e, pz_t e]; exact a4 j hj
  · exact pz_R2m h2 (fun k hk i hi => by rw [pz_t2 (by omega)]) (fun j hj1 hj6 k hk => by rw [pz_t2 (by omega)])
  · unfold pz_R3 at *
    simpa (disch := omega) only [pz_t2, pz_t] using h3
  · unfold pz_R4 at *
    simpa (disch := omega) only [pz_t2, pz_t] using h4
/-- how often one went back in this stay -/
theorem pz_upA {d : Nat} {g h : pz_M} {ph : Nat → Option Nat} (hR : pz_RR d g ph h) (i : Nat) (v : Int32) : pz_RR d (pz_st g 9 i v) ph (pz_st h 30 i v) := by
  obtain ⟨h1, h2, h3, h4⟩ := hR
  refine ⟨?_, ?_, ?_, ?_⟩
  · unfold pz_R1 at *
    simpa (disch := omega) only [pz_t2, pz_t] using h1
  · exact pz_R2m h2 (fun k hk i hi => by rw [pz_t2 (by omega)]) (fun j hj1 hj6 k hk => by rw [pz_t2 (by omega)])
  · unfold pz_R3 at *
    simpa (disch := omega) only [pz_t2, pz_t] using h3
  · obtain ⟨a, b, c⟩ := h4
    refine ⟨by simpa (disch := omega) only [pz_t2, pz_t] using a, fun j hj => ?_, by simpa (disch := omega) only [pz_t2, pz_t] using c⟩
    obtain ⟨b1, b2, b3⟩ := b j hj
    refine ⟨by simpa (disch := omega) only [pz_t2, pz_t] using b1, ?_, by simpa (disch := omega) only [pz_t2, pz_t] using b3⟩
    by_cases e : j = i
    · subst e; rw [pz_s, pz_s]
    · rw [pz_t e, pz_t e]; exact b2
theorem pz_here0 {g h : pz_M} {ph : Nat → Option Nat} (h3 : pz_R3 0 g ph) : f_X1_here g ph = none := by
  unfold f_X1_here
  rw [if_pos (by rw [h3.2.1]; decide +kernel)]
theorem pz_here1 {d : Nat} {g : pz_M} {ph : Nat → Option Nat} (h3 : pz_R3 (d + 1) g ph) : f_X1_here g ph = some (pz_h ph d) := by
  unfold f_X1_here
  have h6 := h3.1
  rw [h3.2.1, if_neg (show ¬ nI (d + 1) < 1 from nI_nlt (a := d + 1) (b := 1) (by omega) (by omega)), show nI (d + 1) - 1 = nI d from nI_pred d, nI_clamp (by omega)]
theorem pz_around0 {d : Nat} {g : pz_M} {ph : Nat → Option Nat} (h3 : pz_R3 d g ph) (hd : d < 2) : f_X1_around g ph = none := by
  unfold f_X1_around
  rw [if_pos (by rw [h3.2.1]; exact nI_lt (a := d) (b := 2) hd (by decide))]
theorem pz_around1 {d : Nat} {g : pz_M} {ph : Nat → Option Nat} (h3 : pz_R3 (d + 2) g ph) : f_X1_around g ph = some (pz_h ph d) := by
  unfold f_X1_around
  have h6 := h3.1
  rw [h3.2.1, if_neg (show ¬ nI (d + 2) < 2 from nI_nlt (a := d + 2) (b := 2) (by omega) (by omega)), show nI (d + 2) - 2 = nI d from pk_sub (a := d + 2) (b := 2) (by omega), nI_clamp (by omega)]
theorem pz_dne {d : Nat} (hd : d ≤ 6) : ¬ nI (d + 1) = 0 := nI_ne0 (by omega) (by omega)
/-- the reference's number of the house here -/
theorem pz_mhere {d : Nat} {g h : pz_M} {ph : Nat → Option Nat} (h3 : pz_R3 (d + 1) g ph) (h4 : pz_R4 (d + 1) g ph h) : h 28 (h 18 11 - 1).toNatClampNeg = nI (pz_h ph d) := by
  have h6 := h3.1
  rw [h4.1, show nI (d + 1) - 1 = nI d from nI_pred d, nI_clamp (by omega)]
  exact (h4.2.1 d (by omega)).1
theorem pz_maround {d : Nat} {g h : pz_M} {ph : Nat → Option Nat} (h3 : pz_R3 (d + 2) g ph) (h4 : pz_R4 (d + 2) g ph h) : h 28 (h 18 11 - 2).toNatClampNeg = nI (pz_h ph d) := by
  have h6 := h3.1
  rw [h4.1, show nI (d + 2) - 2 = nI d from pk_sub (a := d + 2) (b := 2) (by omega), nI_clamp (by omega)]
  exact (h4.2.1 d (by omega)).1
/-- what comes into a house -/
theorem pz_recv {d : Nat} {g h : pz_M} {ph : Nat → Option Nat} (hR : pz_RR d g ph h) {k : Nat} (hk : k < 8) (hs : g (10 + k) 0 = 1) (a : Int32) :
    (f_X0_receive g ph k a).1 = (f_X3_comes h (nI k) a).1 ∧ pz_RR d (f_X0_receive g ph k a).2.1 ph (f_X3_comes h (nI k) a).2 ∧ (f_X0_receive g ph k a).2.2 = ph ∧ ((f_X0_receive g ph k a).1 = 0 ∨ (f_X0_receive g ph k a).1 = 3) ∧ (f_X3_comes h (nI k) a).2 18 16 = h 18 16 := by
  have hc : (nI k).toNatClampNeg = k := nI_clamp (by omega)
  obtain ⟨hw0, hv⟩ := pz_hv hR.2.1 hk hs
  have e1 : g (10 + k) 1 = h 19 k := hv 1 (by omega) (by omega)
  have e2 : g (10 + k) 2 = h 20 k := hv 2 (by omega) (by omega)
  have e5 : g (10 + k) 5 = h 23 k := hv 5 (by omega) (by omega)
  have R1 := pz_upH hR hk hs (j := 2) (by omega) (by omega) (g (10 + k) 2 + a)
  have s1 : pz_st g (10 + k) 2 (g (10 + k) 2 + a) (10 + k) 0 = 1 := by rw [pz_t (by omega)]; exact hs
  have R2 := pz_upH R1 hk s1 (j := 2) (by omega) (by omega) 0
  have s2 : pz_st (pz_st g (10 + k) 2 (g (10 + k) 2 + a)) (10 + k) 2 0 (10 + k) 0 = 1 := by rw [pz_t (by omega)]; exact s1
  have R3 := pz_upH R2 hk s2 (j := 5) (by omega) (by omega) (pz_st (pz_st g (10 + k) 2 (g (10 + k) 2 + a)) (10 + k) 2 0 (10 + k) 5 + 1)
  unfold f_X0_receive f_X3_comes
  rw [hc]
  have c1 : (10 * pz_st g (10 + k) 2 (g (10 + k) 2 + a) (10 + k) 1 < pz_st g (10 + k) 2 (g (10 + k) 2 + a) (10 + k) 2) ↔ (10 * pz_st h 20 k (h 20 k + a) 19 k < pz_st h 20 k (h 20 k + a) 20 k) := by
    rw [pz_s, pz_s, pz_t (by omega), pz_t2 (by omega), e1, e2]
  by_cases hh : 10 * pz_st h 20 k (h 20 k + a) 19 k < pz_st h 20 k (h 20 k + a) 20 k
  · simp only [if_pos hh, if_pos (c1.mpr hh)]
    refine ⟨trivial, ?_, trivial, Or.inr trivial, ?_⟩
    · have q : pz_st (pz_st g (10 + k) 2 (g (10 + k) 2 + a)) (10 + k) 2 0 (10 + k) 5 + 1 = pz_st (pz_st h 20 k (h 20 k + a)) 20 k 0 23 k + 1 := by
        rw [pz_t (by omega), pz_t (by omega), pz_t2 (by omega), pz_t2 (by omega), e5]
      rw [← q, ← e2]
      exact R3
    · rw [pz_t2 (by omega), pz_t2 (by omega), pz_t2 (by omega)]
  · simp only [if_neg hh, if_neg (fun z => hh (c1.mp z))]
    refine ⟨trivial, ?_, trivial, Or.inl trivial, ?_⟩
    · rw [← e2]; exact R1
    · rw [pz_t2 (by omega)]
