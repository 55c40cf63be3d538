theorem pz_ct_up {ph : Nat → Option Nat} {k e : Nat} (x : Option Nat) : ∀ d, d ≤ e → pz_ct (va_up ph e x) k d = pz_ct ph k d := by
  intro d
  induction d with
  | zero => intro _; rfl
  | succ d ih =>
    intro hd
    unfold pz_ct
    rw [ih (by omega), va_up_ne ph x (by omega)]
theorem pz_R1m {g h g' h' : pz_M} (h1 : pz_R1 g h) (a : ∀ r j, r < 7 → r ≠ 2 → (r = 0 → j ≠ 6) → g' r j = g r j) (b : ∀ r j, (r = 18 ∧ (j = 8 ∨ j = 17 ∨ j = 18)) ∨ (25 ≤ r ∧ r ≤ 27) ∨ r = 31 → h' r j = h r j) : pz_R1 g' h' := by
  obtain ⟨⟨n, n1, n2, n3, n4⟩, a2, a3, a4, a5, a6, a7, a8, a9, a10, a11⟩ := h1
  refine ⟨⟨n, n1, ?_, ?_, fun j hj => ?_⟩, fun j hj => ?_, fun j hj => ?_, fun j hj => ?_, fun j hj hj2 => ?_, ?_, ?_, ?_, ?_, ?_, ?_⟩
  · rw [a 0 5 (by omega) (by omega) (by omega)]; exact n2
  · rw [b 18 8 (by omega)]; exact n3
  · rw [a 4 j (by omega) (by omega) (by omega)]; exact n4 j hj
  · rw [a 4 j (by omega) (by omega) (by omega), b 26 j (by omega)]; exact a2 j hj
  · rw [a 5 j (by omega) (by omega) (by omega), b 27 j (by omega)]; exact a3 j hj
  · rw [a 3 j (by omega) (by omega) (by omega), b 25 j (by omega)]; exact a4 j hj
  · rw [a 6 j (by omega) (by omega) (by omega), b 31 (10 + j) (by omega)]; exact a5 j hj hj2
  · rw [a 0 7 (by omega) (by omega) (by omega), b 18 17 (by omega)]; exact a6
  · rw [a 0 8 (by omega) (by omega) (by omega), b 18 18 (by omega)]; exact a7
  · rw [a 0 10 (by omega) (by omega) (by omega), b 31 2 (by omega)]; exact a8
  · rw [a 0 11 (by omega) (by omega) (by omega), b 31 3 (by omega)]; exact a9
  · rw [a 0 12 (by omega) (by omega) (by omega), b 31 4 (by omega)]; exact a10
  · rw [a 0 13 (by omega) (by omega) (by omega), b 31 5 (by omega)]; exact a11
/-- into a house, on both sides -/
theorem pz_enterR {d : Nat} {g h : pz_M} {ph : Nat → Option Nat} (hR : pz_RR d g ph h) (hd : d < 6) {k z : Nat} (hk : k < 8) (hz : z < 30) (hs : g (10 + k) 0 = 1) (hn : h 18 15 = nI (z + 1)) :
    pz_RR (d + 1) (f_X1_enter g ph k (nI z)).1 (f_X1_enter g ph k (nI z)).2 (f_X3_goIn h (nI k)).2 ∧ (f_X3_goIn h (nI k)).1 = 0 ∧ (f_X3_goIn h (nI k)).2 18 16 = h 18 16 ∧ (f_X1_enter g ph k (nI z)).1 0 7 = g 0 7 := by
  obtain ⟨h1, h2, h3, h4⟩ := hR
  have hc : (nI k).toNatClampNeg = k := nI_clamp (by omega)
  have hdc : (nI d).toNatClampNeg = d := nI_clamp (by omega)
  obtain ⟨hw0, hv⟩ := pz_hv h2 hk hs
  have hw1 : ¬ h 19 k = 0 := fun q => by rw [q] at hw0; exact absurd hw0 (by decide)
  have h6 : ¬ h 18 11 = 6 := by
    rw [h4.1]
    intro q
    have := (nI_eq (a := d) (b := 6) (by omega) (by decide)).mp q
    omega
  have e4 : g (10 + k) 4 = h 22 k := hv 4 (by omega) (by omega)
  have E1 : f_X1_enter g ph k (nI z) = (pz_st (pz_st (pz_st (pz_st (pz_st g 8 d (nI z)) 9 d 0) 2 3 (nI (d + 1))) (10 + k) 4 (g (10 + k) 4 + 1)) (10 + k) 7 (g (10 + k) 7 + 1), va_up ph d (some k)) := by
    unfold f_X1_enter
    simp (disch := omega) only [pz_t2, pz_t, h3.2.1, hdc, nI_1]
  have E2 : f_X3_goIn h (nI k) = (0, pz_st (pz_st (pz_st (pz_st (pz_st h 22 k (h 22 k + 1)) 28 d (nI k)) 29 d (nI (z + 1))) 30 d 0) 18 11 (nI (d + 1))) := by
    unfold f_X3_goIn
    rw [hc, if_neg h6, if_neg hw1]
    simp (disch := omega) only [pz_t2, pz_t, h4.1, hdc, hn, nI_1]
  rw [E1, E2]
  dsimp only
  refine ⟨⟨?_, ?_, ?_, ?_⟩, rfl, ?_, ?_⟩
  · exact pz_R1m h1 (fun r j hr hr2 hr3 => by simp (disch := omega) only [pz_t2]) (fun r j hr => by
      by_cases e : r = 18
      · subst e; simp (disch := omega) only [pz_t2, pz_t]
      · simp (disch := omega) only [pz_t2])
  · intro k' hk'
    by_cases e : k' = k
    · subst e
      refine Or.inl ⟨by simp (disch := omega) only [pz_t2, pz_t]; exact hs, by simp (disch := omega) only [pz_t2, pz_t]; exact hw0, fun j j1 j6 => ?_⟩
      by_cases e2 : j = 4
      · subst e2
        simp (disch := omega) only [pz_t2, pz_t, pz_s]
        rw [e4]
      · simp (disch := omega) only [pz_t2, pz_t]
        exact hv j j1 j6
    · rcases h2 k' hk' with ⟨q1, q2, q3⟩ | ⟨q1, q2⟩
      · refine Or.inl ⟨by simp (disch := omega) only [pz_t2, pz_t]; exact q1, by simp (disch := omega) only [pz_t2, pz_t]; exact q2, fun j j1 j6 => ?_⟩
        by_cases e2 : j = 4
        · subst e2
          simp (disch := omega) only [pz_t2, pz_t]
          exact q3 4 j1 j6
        · simp (disch := omega) only [pz_t2, pz_t]
          exact q3 j j1 j6
      · exact Or.inr ⟨by simp (disch := omega) only [pz_t2, pz_t]; exact q1, by simp (disch := omega) only [pz_t2, pz_t]; exact q2⟩
  · obtain ⟨b1, b2, b3, b4⟩ := h3
    refine ⟨by omega, by simp (disch := omega) only [pz_t2, pz_t, pz_s], fun i hi => ?_, fun k' hk' => ?_⟩
    · by_cases e : i = d
      · subst e
        exact ⟨k, hk, va_up_self _ _ _, by simp (disch := omega) only [pz_t2, pz_t]; exact hs⟩
      · obtain ⟨k', q1, q2, q3⟩ := b3 i (by omega)
        refine ⟨k', q1, by rw [va_up_ne ph _ e]; exact q2, ?_⟩
        by_cases e2 : k' = k
        · subst e2; simp (disch := omega) only [pz_t2, pz_t]; exact hs
        · simp (disch := omega) only [pz_t2, pz_t]; exact q3
    · show _ = nI (pz_ct (va_up ph d (some k)) k' d + (if va_up ph d (some k) d = some k' then 1 else 0))
      rw [pz_ct_up _ d (Nat.le_refl d), va_up_self]
      by_cases e2 : k' = k
      · subst e2
        rw [pz_s, b4 k' hk', if_pos rfl, nI_1]
      · rw [if_neg (fun q => e2 (Option.some.inj q).symm), Nat.add_zero]
        simp (disch := omega) only [pz_t2, pz_t]
        exact b4 k' hk'
  · obtain ⟨b1, b2, q, b3, b4, b5⟩ := h4
    refine ⟨pz_s, fun i hi => ?_, q, b3, by simp (disch := omega) only [pz_t2, pz_t]; exact b4, by simp (disch := omega) only [pz_t2, pz_t]; exact b5⟩
    by_cases e : i = d
    · subst e
      refine ⟨?_, by simp (disch := omega) only [pz_t2, pz_t, pz_s], z, hz, by simp (disch := omega) only [pz_t2, pz_t, pz_s], by simp (disch := omega) only [pz_t2, pz_t, pz_s]⟩
      simp (disch := omega) only [pz_t2, pz_t, pz_s]
      unfold pz_h
      rw [va_up_self]; rfl
    · obtain ⟨c1, c2, y, c3, c4, c5⟩ := b2 i (by omega)
      refine ⟨?_, by simp (disch := omega) only [pz_t2, pz_t]; exact c2, y, c3, by simp (disch := omega) only [pz_t2, pz_t]; exact c4, by simp (disch := omega) only [pz_t2, pz_t]; exact c5⟩
      simp (disch := omega) only [pz_t2, pz_t]
      rw [c1]
      unfold pz_h
      rw [va_up_ne ph _ e]
  · simp (disch := omega) only [pz_t2, pz_t]
  · simp (disch := omega) only [pz_t2, pz_t]
/-- out of stays, down to e of them -/
theorem pz_ldtR {ph : Nat → Option Nat} {e : Nat} : ∀ (n d : Nat) (g : pz_M), pz_R3 d g ph → d < n → e ≤ d → pz_R3 e (f_ldt ph (nI e) n g) ph ∧ ∀ r j, ¬ (r = 2 ∧ j = 3) → ¬ (10 ≤ r ∧ j = 7) → f_ldt ph (nI e) n g r j = g r j := by
  intro n
  induction n with
  | zero => intro d g _ h _; omega
  | succ n ih =>
    intro d g h3 hn he
    have h6 := h3.1
    unfold f_ldt
    by_cases hde : d ≤ e
    · have : d = e := by omega
      subst this
      rw [if_pos (by rw [h3.2.1]; exact nI_le (Nat.le_refl d) (by omega))]
      exact ⟨h3, fun r j _ _ => rfl⟩
    · obtain ⟨d', rfl⟩ : ∃ d', d = d' + 1 := ⟨d - 1, by omega⟩
      rw [if_neg (by rw [h3.2.1]; exact nI_ge (by omega) (by omega)), if_neg (by rw [h3.2.1]; exact nI_nle (by omega) (by omega))]
      obtain ⟨k1, k2, k3⟩ := pz_hk h3 (show d' < d' + 1 by omega)
      have ek : pz_h ph (g 2 3 - 1).toNatClampNeg = pz_h ph d' := by rw [h3.2.1, show nI (d' + 1) - 1 = nI d' from nI_pred d', nI_clamp (by omega)]
      simp only [ek]
      generalize pz_h ph d' = k at k1 k2 k3 ⊢
      have h3' : pz_R3 d' (pz_st (pz_st g (10 + k) 7 (g (10 + k) 7 - 1)) 2 3 (pz_st g (10 + k) 7 (g (10 + k) 7 - 1) 2 3 - 1)) ph := by
        obtain ⟨b1, b2, b3, b4⟩ := h3
        refine ⟨by omega, ?_, fun i hi => ?_, fun k' hk' => ?_⟩
        · rw [pz_s, pz_t2 (by omega), b2]; exact nI_pred d'
        · obtain ⟨k', q1, q2, q3⟩ := b3 i (by omega)
          refine ⟨k', q1, q2, ?_⟩
          rw [pz_t2 (by omega)]
          by_cases e2 : k' = k
          · subst e2; rw [pz_t (by omega)]; exact q3
          · rw [pz_t2 (by omega)]; exact q3
        · rw [pz_t2 (by omega)]
          have q := b4 k' hk'
          unfold pz_ct at q
          rw [k2] at q
          by_cases e2 : k' = k
          · subst e2
            rw [pz_s, q, if_pos rfl]; exact nI_pred _
          · rw [pz_t2 (by omega), q, if_neg (fun z => e2 (Option.some.inj z).symm), Nat.add_zero]
      obtain ⟨r1, r2⟩ := ih d' _ h3' (by omega) (by omega)
      refine ⟨r1, fun r j hj1 hj2 => ?_⟩
      rw [r2 r j hj1 hj2]
      by_cases e2 : r = 2
      · subst e2
        rw [pz_t (fun q => hj1 ⟨rfl, q⟩), pz_t2 (by omega)]
      · rw [pz_t2 e2]
        by_cases e3 : r = 10 + k
        · subst e3
          rw [pz_t (fun q => hj2 ⟨by omega, q⟩)]
        · rw [pz_t2 e3]
theorem pz_leaveR {d e : Nat} {g h : pz_M} {ph : Nat → Option Nat} (hR : pz_RR d g ph h) (he : e ≤ d) : pz_RR e (f_ldt ph (nI e) 7 g) ph (pz_st h 18 11 (nI e)) ∧ f_ldt ph (nI e) 7 g 0 7 = g 0 7 := by
  obtain ⟨h1, h2, h3, h4⟩ := hR
  have h6 := h3.1
  obtain ⟨r1, r2⟩ := pz_ldtR 7 d g h3 (by omega) he
  refine ⟨⟨?_, ?_, r1, ?_⟩, r2 0 7 (by omega) (by omega)⟩
  · exact pz_R1m h1 (fun r j hr hr2 hr3 => r2 r j (by omega) (by omega)) (fun r j hr => by
      by_cases q : r = 18
      · subst q; rw [pz_t (by omega)]
      · rw [pz_t2 q])
  · exact pz_R2m h2 (fun k hk i hi => r2 _ _ (by omega) (by omega)) (fun j j1 j6 k hk => by rw [pz_t2 (by omega)])
  · obtain ⟨b1, b2, q, b3, b4, b5⟩ := h4
    refine ⟨pz_s, fun i hi => ?_, q, b3, by rw [r2 0 6 (by omega) (by omega)]; exact b4, by rw [pz_t (by omega)]; exact b5⟩
    obtain ⟨c1, c2, y, c3, c4, c5⟩ := b2 i (by omega)
    rw [r2 9 i (by omega) (by omega), r2 8 i (by omega) (by omega), pz_t2 (by omega), pz_t2 (by omega), pz_t2 (by omega)]
    exact ⟨c1, c2, y, c3, c4, c5⟩
theorem pz_ext {h h' : pz_M} (e : ∀ r j, h' r j = h r j) : h' = h := by funext r j; exact e r j
