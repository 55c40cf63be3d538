/-! every other call: the same answer, and tied behind it -/
theorem pz_BT {g h : pz_M} {ph : Nat → Option Nat} (hB : pz_B g ph h) (v : Int32) : pz_B g ph (pz_st h 18 0 v) := by
  obtain ⟨h1, h2, h3⟩ := hB
  exact ⟨pz_R1m h1 (fun _ _ _ _ _ => rfl) (fun r j hr => by
    by_cases q : r = 18
    · subst q; rw [pz_t (by omega)]
    · rw [pz_t2 q]), pz_R2m h2 (fun _ _ _ _ => rfl) (fun j j1 j6 k hk => by rw [pz_t2 (by omega)]), h3⟩
theorem pz_placein (a : Int32) : f_X2_isPlace a = 0 ↔ f_X3_isPlace a = 0 := pz_rowin a
theorem pz_actin (a : Int32) : f_X2_isAct a = 0 ↔ f_X3_isIn a 0 8 = 0 := Iff.rfl
theorem pz_act9 {a : Int32} (h : ¬ f_X2_isAct a = 0) : vp_in a 9 := by
  unfold f_X2_isAct at h
  by_cases h1 : a < 0
  · exact absurd (if_pos h1) h
  · by_cases h2 : 8 < a
    · exact absurd (by rw [if_neg h1, if_pos h2]) h
    · exact pz_in (by decide) h1 (fun q => h2 (by
        rw [Int32.le_iff_toInt_le] at q
        rw [Int32.lt_iff_toInt_lt]
        have e1 : (nI 9).toInt = 9 := rfl
        have e2 : (8 : Int32).toInt = 8 := rfl
        omega))
theorem pz_wallin (b : Int32) : f_X3_isIn b 1 100 = 0 ↔ (b < 1 ∨ ¬ b ≤ 100) := by
  unfold f_X3_isIn
  have e : (100 < b) ↔ ¬ b ≤ 100 := by
    rw [Int32.le_iff_toInt_le, Int32.lt_iff_toInt_lt]; omega
  by_cases c1 : b < 1
  · rw [if_pos c1]; exact ⟨fun _ => Or.inl c1, fun _ => rfl⟩
  · rw [if_neg c1]
    by_cases c2 : 100 < b
    · rw [if_pos c2]; exact ⟨fun _ => Or.inr (e.mp c2), fun _ => rfl⟩
    · rw [if_neg c2]
      refine ⟨fun q => absurd q (by decide), fun q => ?_⟩
      rcases q with q | q
      · exact absurd q c1
      · exact absurd (e.mpr q) c2
theorem pz_le0 {x : Int32} (h : 0 < x) : ¬ x ≤ 0 := by
  rw [Int32.lt_iff_toInt_lt] at h
  rw [Int32.le_iff_toInt_le]
  omega
/-- the houses but one, and the rest, stay tied -/
theorem pz_Bk {g h g' h' : pz_M} {ph : Nat → Option Nat} (hB : pz_B g ph h) {k : Nat} (hk : k < 8) (a : ∀ r j, r ≠ 10 + k → g' r j = g r j) (b : ∀ r j, (r < 19 ∨ 24 < r ∨ j ≠ k) → h' r j = h r j) (c : (g' (10 + k) 0 = 1 ∧ 0 < h' 19 k ∧ ∀ j, 1 ≤ j → j ≤ 6 → g' (10 + k) j = h' (18 + j) k) ∨ (g' (10 + k) 0 = 0 ∧ h' 19 k = 0)) (d : g' (10 + k) 7 = 0) : pz_B g' ph h' := by
  obtain ⟨h1, h2, h3⟩ := hB
  refine ⟨pz_R1m h1 (fun r j hr hr2 _ => a r j (by omega)) (fun r j hr => b r j (by omega)), fun k' hk' => ?_, ?_⟩
  · by_cases e : k' = k
    · subst e; exact c
    · rw [a (10 + k') 0 (by omega), b 19 k' (by omega)]
      rcases h2 k' hk' with ⟨q1, q2, q3⟩ | q
      · exact Or.inl ⟨q1, q2, fun j j1 j6 => by rw [a (10 + k') j (by omega), b (18 + j) k' (by omega)]; exact q3 j j1 j6⟩
      · exact Or.inr q
  · obtain ⟨p1, p2, p3, p4⟩ := h3
    refine ⟨p1, by rw [a 2 3 (by omega)]; exact p2, fun i hi => absurd hi (Nat.not_lt_zero i), fun k' hk' => ?_⟩
    by_cases e : k' = k
    · subst e; rw [d]; rfl
    · rw [a (10 + k') 7 (by omega)]; exact p4 k' hk'
theorem pz_B7 {g h : pz_M} {ph : Nat → Option Nat} (hB : pz_B g ph h) {k : Nat} (hk : k < 8) : g (10 + k) 7 = 0 := by
  rw [hB.2.2.2.2.2 k hk]; rfl
theorem ps_build {g h : pz_M} {ph : Nat → Option Nat} (hB : pz_B g ph h) (a b z : Int32) : (f_X2_build g ph a b z).1 = (f_X3_build h a b z).1 ∧ pz_B (f_X2_build g ph a b z).2.1 (f_X2_build g ph a b z).2.2 (f_X3_build h a b z).2 := by
  have hB1 := pz_BT hB 0
  unfold f_X2_build f_X3_build
  by_cases c1 : f_X2_isPlace a = 0
  · simp only [if_pos c1, if_pos ((pz_placein a).mp c1)]
    exact ⟨trivial, hB1⟩
  · simp only [if_neg c1, if_neg (fun q => c1 ((pz_placein a).mpr q))]
    obtain ⟨k, hk, rfl⟩ := vp_in_of (pz_place c1) (by decide)
    have ck : (nI k).toNatClampNeg = k := nI_clamp (by omega)
    by_cases c2 : b < 1
    · rw [if_pos c2, if_pos ((pz_wallin b).mpr (Or.inl c2))]
      exact ⟨rfl, hB1⟩
    · by_cases c3 : b ≤ 100
      · rw [if_neg c2, if_pos c3, if_neg (show ¬ f_X3_isIn b 1 100 = 0 from fun q => by rcases (pz_wallin b).mp q with q | q <;> contradiction)]
        have b0 : 0 < b := by
          rw [Int32.lt_iff_toInt_lt] at c2 ⊢
          have e1 : (1 : Int32).toInt = 1 := rfl
          have e0 : (0 : Int32).toInt = 0 := rfl
          omega
        have key : pz_B (f_X0_setUp g ph k b z).1 ph (f_X3_cleared (pz_st h 18 0 0) (nI k) b z) := by
          unfold f_X0_setUp f_X3_cleared
          rw [ck]
          refine pz_Bk hB1 hk (fun r j hr => by simp (disch := omega) only [pz_t2]) (fun r j hr => ?_) (Or.inl ⟨by simp (disch := omega) only [pz_t2, pz_t, pz_s], by simp (disch := omega) only [pz_t2, pz_t, pz_s]; exact b0, fun j j1 j6 => ?_⟩) (by simp (disch := omega) only [pz_t2, pz_t, pz_s])
          · by_cases e : j = k
            · subst e; simp (disch := omega) only [pz_t2]
            · by_cases e19 : r = 19
              · subst e19; simp (disch := omega) only [pz_t2, pz_t]
              · by_cases e20 : r = 20
                · subst e20; simp (disch := omega) only [pz_t2, pz_t]
                · by_cases e21 : r = 21
                  · subst e21; simp (disch := omega) only [pz_t2, pz_t]
                  · by_cases e22 : r = 22
                    · subst e22; simp (disch := omega) only [pz_t2, pz_t]
                    · by_cases e23 : r = 23
                      · subst e23; simp (disch := omega) only [pz_t2, pz_t]
                      · by_cases e24 : r = 24
                        · subst e24; simp (disch := omega) only [pz_t2, pz_t]
                        · simp (disch := omega) only [pz_t2]
          · rcases (show j = 1 ∨ j = 2 ∨ j = 3 ∨ j = 4 ∨ j = 5 ∨ j = 6 by omega) with rfl | rfl | rfl | rfl | rfl | rfl <;> simp (disch := omega) only [pz_t2, pz_t, pz_s]
        rw [ck]
        have e19 : pz_st h 18 0 0 19 k = h 19 k := by rw [pz_t2 (by omega)]
        rw [e19]
        rcases hB.2.1 k hk with ⟨q1, q2, -⟩ | ⟨q1, q2⟩
        · rw [if_neg (by rw [q1]; decide), if_neg (pz_le0 q2)]
          exact ⟨rfl, key⟩
        · rw [if_pos q1, if_pos (by rw [q2]; decide)]
          exact ⟨rfl, key⟩
      · rw [if_neg c2, if_neg c3, if_pos ((pz_wallin b).mpr (Or.inr c3))]
        exact ⟨rfl, hB1⟩
theorem ps_raze {g h : pz_M} {ph : Nat → Option Nat} (hB : pz_B g ph h) (a : Int32) : (f_X2_raze g ph a).1 = (f_X3_raze h a).1 ∧ pz_B (f_X2_raze g ph a).2.1 (f_X2_raze g ph a).2.2 (f_X3_raze h a).2 := by
  have hB1 := pz_BT hB 0
  unfold f_X2_raze f_X3_raze
  by_cases c1 : f_X2_isPlace a = 0
  · simp only [if_pos c1, if_pos ((pz_placein a).mp c1)]
    exact ⟨trivial, hB1⟩
  · simp only [if_neg c1, if_neg (fun q => c1 ((pz_placein a).mpr q))]
    obtain ⟨k, hk, rfl⟩ := vp_in_of (pz_place c1) (by decide)
    have ck : (nI k).toNatClampNeg = k := nI_clamp (by omega)
    have key : pz_B (pz_st g (10 + k) 0 0) ph (f_X3_cleared (pz_st h 18 0 0) (nI k) 0 0) := by
      unfold f_X3_cleared
      rw [ck]
      refine pz_Bk hB1 hk (fun r j hr => by simp (disch := omega) only [pz_t2]) (fun r j hr => ?_) (Or.inr ⟨pz_s, by simp (disch := omega) only [pz_t2, pz_t, pz_s]⟩) (by rw [pz_t (by omega)]; exact pz_B7 hB hk)
      by_cases e : j = k
      · subst e; simp (disch := omega) only [pz_t2]
      · by_cases e19 : r = 19
        · subst e19; simp (disch := omega) only [pz_t2, pz_t]
        · by_cases e20 : r = 20
          · subst e20; simp (disch := omega) only [pz_t2, pz_t]
          · by_cases e21 : r = 21
            · subst e21; simp (disch := omega) only [pz_t2, pz_t]
            · by_cases e22 : r = 22
              · subst e22; simp (disch := omega) only [pz_t2, pz_t]
              · by_cases e23 : r = 23
                · subst e23; simp (disch := omega) only [pz_t2, pz_t]
                · by_cases e24 : r = 24
                  · subst e24; simp (disch := omega) only [pz_t2, pz_t]
                  · simp (disch := omega) only [pz_t2]
    rw [ck]
    have e19 : pz_st h 18 0 0 19 k = h 19 k := by rw [pz_t2 (by omega)]
    rw [e19]
    rcases hB.2.1 k hk with ⟨q1, q2, -⟩ | ⟨q1, q2⟩
    · rw [if_neg (by rw [q1]; decide), if_neg (pz_le0 q2)]
      exact ⟨rfl, key⟩
    · rw [if_pos q1, if_pos (by rw [q2]; decide)]
      exact ⟨rfl, key⟩
/-- the order, on both sides -/
theorem pz_Bo {g h g' h' : pz_M} {ph : Nat → Option Nat} (hB : pz_B g ph h) (a : ∀ r j, r ≠ 4 → r ≠ 5 → (r = 0 → j ≠ 5) → g' r j = g r j) (b : ∀ r j, r ≠ 26 → r ≠ 27 → (r = 18 → j ≠ 8 ∧ j ≠ 0) → h' r j = h r j) (n : Nat) (hn : n ≤ 30) (c1 : g' 0 5 = nI n) (c2 : h' 18 8 = nI n) (c3 : ∀ j, j < n → vp_in (g' 4 j) 9) (c4 : ∀ j, j < 30 → g' 4 j = h' 26 j) (c5 : ∀ j, j < 30 → g' 5 j = h' 27 j) : pz_B g' ph h' := by
  obtain ⟨⟨a1, a2, a3, a4, a5, a6, a7, a8, a9, a10, a11⟩, h2, h3⟩ := hB
  refine ⟨⟨⟨n, hn, c1, c2, c3⟩, c4, c5, fun j hj => ?_, fun j j1 j6 => ?_, ?_, ?_, ?_, ?_, ?_, ?_⟩, pz_R2m h2 (fun k hk i hi => a _ _ (by omega) (by omega) (by omega)) (fun j j1 j6 k hk => b _ _ (by omega) (by omega) (by omega)), ?_⟩
  · rw [a 3 j (by omega) (by omega) (by omega), b 25 j (by omega) (by omega) (by omega)]; exact a4 j hj
  · rw [a 6 j (by omega) (by omega) (by omega), b 31 _ (by omega) (by omega) (by omega)]; exact a5 j j1 j6
  · rw [a 0 7 (by omega) (by omega) (by omega), b 18 17 (by omega) (by omega) (by omega)]; exact a6
  · rw [a 0 8 (by omega) (by omega) (by omega), b 18 18 (by omega) (by omega) (by omega)]; exact a7
  · rw [a 0 10 (by omega) (by omega) (by omega), b 31 2 (by omega) (by omega) (by omega)]; exact a8
  · rw [a 0 11 (by omega) (by omega) (by omega), b 31 3 (by omega) (by omega) (by omega)]; exact a9
  · rw [a 0 12 (by omega) (by omega) (by omega), b 31 4 (by omega) (by omega) (by omega)]; exact a10
  · rw [a 0 13 (by omega) (by omega) (by omega), b 31 5 (by omega) (by omega) (by omega)]; exact a11
  · obtain ⟨p1, p2, p3, p4⟩ := h3
    exact ⟨p1, by rw [a 2 3 (by omega) (by omega) (by omega)]; exact p2, fun i hi => absurd hi (Nat.not_lt_zero i), fun k hk => by rw [a (10 + k) 7 (by omega) (by omega) (by omega)]; exact p4 k hk⟩
theorem pz_upd2 {g : pz_M} {r n j : Nat} {v : Int32} : pz_st g r n v r j = if j = n then v else g r j := by
  by_cases e : j = n
  · subst e; rw [pz_s, if_pos rfl]
  · rw [pz_t e, if_neg e]
theorem pz_sub18 {h : pz_M} {r j : Nat} {v : Int32} (hr : r = 18 → j ≠ 8 ∧ j ≠ 0) : pz_st h 18 0 v r j = h r j := by
  by_cases e : r = 18
  · subst e; rw [pz_t (hr rfl).2]
  · rw [pz_t2 e]
theorem pz_sub188 {h : pz_M} {r j : Nat} {v : Int32} (hr : r = 18 → j ≠ 8 ∧ j ≠ 0) : pz_st h 18 8 v r j = h r j := by
  by_cases e : r = 18
  · subst e; rw [pz_t (hr rfl).1]
  · rw [pz_t2 e]
theorem pz_sub05 {h : pz_M} {r j : Nat} {v : Int32} (hr : r = 0 → j ≠ 5) : pz_st h 0 5 v r j = h r j := by
  by_cases e : r = 0
  · subst e; rw [pz_t (hr rfl)]
  · rw [pz_t2 e]
theorem ps_stepc {g h : pz_M} {ph : Nat → Option Nat} (hB : pz_B g ph h) (a b : Int32) : (f_X2_step g ph a b).1 = (f_X3_step h a b).1 ∧ pz_B (f_X2_step g ph a b).2.1 (f_X2_step g ph a b).2.2 (f_X3_step h a b).2 := by
  have hB1 := pz_BT hB 0
  obtain ⟨n, n1, n2, n3, n4⟩ := hB.1.1
  have e8 : pz_st h 18 0 0 18 8 = nI n := by rw [pz_t (by omega)]; exact n3
  have cn : (nI n).toNatClampNeg = n := nI_clamp (by omega)
  unfold f_X2_step f_X3_step
  by_cases c1 : f_X2_isAct a = 0
  · simp only [if_pos c1, if_pos ((pz_actin a).mp c1)]
    exact ⟨trivial, hB1⟩
  · simp only [if_neg c1, if_neg (fun q => c1 ((pz_actin a).mpr q))]
    rw [e8, n2]
    by_cases hn : n = 30
    · subst hn
      rw [if_neg (show ¬ nI 30 < 30 by decide +kernel), if_pos (show nI 30 = 30 from rfl)]
      exact ⟨rfl, hB1⟩
    · rw [if_pos (show nI n < 30 from nI_lt (b := 30) (by omega) (by decide)), if_neg (show ¬ nI n = 30 from fun q => hn ((nI_eq (a := n) (b := 30) (by omega) (by decide)).mp q)), cn]
      have g1 : pz_st g 4 n a 0 5 = nI n := by rw [pz_t2 (by omega)]; exact n2
      have g2 : pz_st (pz_st g 4 n a) 5 n b 0 5 = nI n := by rw [pz_t2 (by omega)]; exact g1
      have k1 : pz_st (pz_st h 18 0 0) 26 n a 18 8 = nI n := by rw [pz_t2 (by omega)]; exact e8
      have k2 : pz_st (pz_st (pz_st h 18 0 0) 26 n a) 27 n b 18 8 = nI n := by rw [pz_t2 (by omega)]; exact k1
      rw [g1, k1, cn, g2, k2, nI_1]
      refine ⟨by dsimp only; rw [pz_s, pz_s], ?_⟩
      dsimp only
      refine pz_Bo hB (fun r j q1 q2 q3 => by rw [pz_sub05 q3, pz_t2 q2, pz_t2 q1]) (fun r j q1 q2 q3 => by rw [pz_sub188 q3, pz_t2 q2, pz_t2 q1, pz_sub18 q3]) (n + 1) (by omega) pz_s pz_s (fun j hj => ?_) (fun j hj => ?_) (fun j hj => ?_)
      · rw [pz_t2 (by omega), pz_t2 (by omega), pz_upd2]
        by_cases e : j = n
        · rw [if_pos e]; exact pz_act9 c1
        · rw [if_neg e]; exact n4 j (by omega)
      · simp (disch := omega) only [pz_t2, pz_upd2]; rw [hB.1.2.1 j hj]
      · simp (disch := omega) only [pz_t2, pz_upd2]; rw [hB.1.2.2.1 j hj]
theorem ps_clear {g h : pz_M} {ph : Nat → Option Nat} (hB : pz_B g ph h) : (f_X2_clear g ph).1 = (f_X3_clear h).1 ∧ pz_B (f_X2_clear g ph).2.1 (f_X2_clear g ph).2.2 (f_X3_clear h).2 := by
  obtain ⟨n, n1, n2, n3, n4⟩ := hB.1.1
  unfold f_X2_clear f_X3_clear
  dsimp only
  refine ⟨by rw [pz_t (by omega), n2, n3], ?_⟩
  refine pz_Bo hB (fun r j q1 q2 q3 => by rw [pz_sub05 q3]) (fun r j q1 q2 q3 => by rw [pz_sub188 q3, pz_sub18 q3]) 0 (by omega) (by rw [pz_s]; rfl) (by rw [pz_s]; rfl) (fun j hj => absurd hj (Nat.not_lt_zero j)) (fun j hj => ?_) (fun j hj => ?_)
  · rw [pz_t2 (by omega), pz_t2 (by omega), pz_t2 (by omega)]; exact hB.1.2.1 j hj
  · rw [pz_t2 (by omega), pz_t2 (by omega), pz_t2 (by omega)]; exact hB.1.2.2.1 j hj
theorem ps_begun {g h : pz_M} {ph : Nat → Option Nat} (hB : pz_B g ph h) : f_X2_begun g ph = (f_X3_begun h).1 ∧ pz_B g ph (f_X3_begun h).2 := by
  unfold f_X2_begun f_X3_begun
  dsimp only
  exact ⟨by rw [pz_t (by omega)]; exact hB.1.2.2.2.2.2.1, pz_BT hB 0⟩
theorem ps_where {g h : pz_M} {ph : Nat → Option Nat} (hB : pz_B g ph h) : f_X2_where g ph = (f_X3_where h).1 ∧ pz_B g ph (f_X3_where h).2 := by
  unfold f_X2_where f_X3_where
  dsimp only
  exact ⟨by rw [pz_t (by omega)]; exact hB.1.2.2.2.2.2.2.1, pz_BT hB 0⟩
theorem ps_alter {g h : pz_M} {ph : Nat → Option Nat} (hB : pz_B g ph h) (a b z : Int32) : (f_X2_alter g ph a b z).1 = (f_X3_alter h a b z).1 ∧ pz_B (f_X2_alter g ph a b z).2.1 (f_X2_alter g ph a b z).2.2 (f_X3_alter h a b z).2 := by
  have hB1 := pz_BT hB 0
  obtain ⟨n, n1, n2, n3, n4⟩ := hB.1.1
  have e8 : pz_st h 18 0 0 18 8 = nI n := by rw [pz_t (by omega)]; exact n3
  have hin : f_X3_isIn a 0 (nI n - 1) = 0 ↔ (a < 0 ∨ nI n ≤ a) := by
    unfold f_X3_isIn
    have e : (nI n - 1 < a) ↔ nI n ≤ a := by
      rw [Int32.le_iff_toInt_le, Int32.lt_iff_toInt_lt, nI_toInt (by omega)]
      have e2 : (nI n - 1).toInt = (n : Int) - 1 := pk_sub_toInt (a := n) (b := 1) (by omega) (by omega)
      omega
    by_cases c1 : a < 0
    · rw [if_pos c1]; exact ⟨fun _ => Or.inl c1, fun _ => rfl⟩
    · rw [if_neg c1]
      by_cases c2 : nI n - 1 < a
      · rw [if_pos c2]; exact ⟨fun _ => Or.inr (e.mp c2), fun _ => rfl⟩
      · rw [if_neg c2]
        refine ⟨fun q => absurd q (by decide), fun q => ?_⟩
        rcases q with q | q
        · exact absurd q c1
        · exact absurd (e.mpr q) c2
  unfold f_X2_alter f_X3_alter
  simp only [e8]
  rw [n2]
  by_cases c1 : a < 0
  · rw [if_pos c1, if_pos (hin.mpr (Or.inl c1))]
    exact ⟨rfl, hB1⟩
  · by_cases c2 : nI n ≤ a
    · rw [if_neg c1, if_pos c2, if_pos (hin.mpr (Or.inr c2))]
      exact ⟨rfl, hB1⟩
    · rw [if_neg c1, if_neg c2, if_neg (show ¬ f_X3_isIn a 0 (nI n - 1) = 0 from fun q => by rcases hin.mp q with q | q <;> contradiction)]
      by_cases c3 : f_X2_isAct b = 0
      · rw [if_pos c3, if_pos ((pz_actin b).mp c3)]
        exact ⟨rfl, hB1⟩
      · rw [if_neg c3, if_neg (show ¬ f_X3_isIn b 0 8 = 0 from fun q => c3 ((pz_actin b).mpr q))]
        obtain ⟨j0, hj0, rfl⟩ : ∃ j : Nat, j < n ∧ a = nI j := vp_in_of (pz_in (by omega) c1 c2) (by omega)
        have cj : (nI j0).toNatClampNeg = j0 := nI_clamp (by omega)
        rw [cj]
        dsimp only
        refine ⟨by rw [pz_t2 (by omega)]; exact hB.1.2.1 j0 (by omega), ?_⟩
        refine pz_Bo hB (fun r j q1 q2 q3 => by rw [pz_t2 q2, pz_t2 q1]) (fun r j q1 q2 q3 => by rw [pz_t2 q2, pz_t2 q1, pz_sub18 q3]) n n1 (by rw [pz_t2 (by omega), pz_t2 (by omega)]; exact n2) (by rw [pz_t2 (by omega), pz_t2 (by omega)]; exact e8) (fun j hj => ?_) (fun j hj => ?_) (fun j hj => ?_)
        · rw [pz_t2 (by omega), pz_upd2]
          by_cases e : j = j0
          · rw [if_pos e]; exact pz_act9 c3
          · rw [if_neg e]; exact n4 j hj
        · simp (disch := omega) only [pz_t2, pz_upd2]; rw [hB.1.2.1 j hj]
        · simp (disch := omega) only [pz_t2, pz_upd2]; rw [hB.1.2.2.1 j hj]
theorem ps_house {g h : pz_M} {ph : Nat → Option Nat} (hB : pz_B g ph h) (a b : Int32) : f_X2_house g ph a b = (f_X3_house h a b).1 ∧ pz_B g ph (f_X3_house h a b).2 := by
  have hB1 := pz_BT hB 0
  unfold f_X2_house f_X3_house f_X3_isHouse
  by_cases c1 : f_X2_isPlace a = 0
  · simp only [if_pos c1, if_pos ((pz_placein a).mp c1)]
    rw [if_pos trivial]
    exact ⟨rfl, hB1⟩
  · simp only [if_neg c1, if_neg (fun q => c1 ((pz_placein a).mpr q))]
    obtain ⟨k, hk, rfl⟩ := vp_in_of (pz_place c1) (by decide)
    have ck : (nI k).toNatClampNeg = k := nI_clamp (by omega)
    simp (disch := omega) only [ck, pz_t2]
    rcases hB.2.1 k hk with ⟨q1, q2, q3⟩ | ⟨q1, q2⟩
    · rw [if_neg (by rw [q1]; decide), if_neg (pz_le0 q2), if_neg (by decide)]
      unfold f_X0_tell
      have e1 : g (10 + k) 1 = h 19 k := q3 1 (by omega) (by omega)
      have e2 : g (10 + k) 2 = h 20 k := q3 2 (by omega) (by omega)
      have e3 : g (10 + k) 3 = h 21 k := q3 3 (by omega) (by omega)
      have e4 : g (10 + k) 4 = h 22 k := q3 4 (by omega) (by omega)
      have e5 : g (10 + k) 5 = h 23 k := q3 5 (by omega) (by omega)
      have e6 : g (10 + k) 6 = h 24 k := q3 6 (by omega) (by omega)
      rw [e1, e2, e3, e4, e5, e6, pz_B7 hB hk]
      by_cases b0 : b = 0
      · rw [if_pos b0, if_pos b0]; exact ⟨rfl, hB1⟩
      · rw [if_neg b0, if_neg b0]
        by_cases b1 : b = 1
        · rw [if_pos b1, if_pos b1]; exact ⟨rfl, hB1⟩
        · rw [if_neg b1, if_neg b1]
          by_cases b2 : b = 2
          · rw [if_pos b2, if_pos b2]
            by_cases z : h 21 k = 0
            · rw [if_pos z, if_pos z]; exact ⟨rfl, hB1⟩
            · rw [if_neg z, if_neg z]; exact ⟨rfl, hB1⟩
          · rw [if_neg b2, if_neg b2]
            by_cases b3 : b = 3
            · rw [if_pos b3, if_pos b3]; exact ⟨rfl, hB1⟩
            · rw [if_neg b3, if_neg b3]
              by_cases b4 : b = 4
              · rw [if_pos b4, if_pos b4]; exact ⟨rfl, hB1⟩
              · rw [if_neg b4, if_neg b4]
                by_cases b5 : b = 5
                · rw [if_pos b5, if_pos b5]; exact ⟨rfl, hB1⟩
                · rw [if_neg b5, if_neg b5]
                  by_cases b6 : b = 6
                  · rw [if_pos b6, if_pos b6]; exact ⟨rfl, hB1⟩
                  · rw [if_neg b6, if_neg b6]; exact ⟨rfl, hB1⟩
    · rw [if_pos q1, if_pos (by rw [q2]; decide)]
      exact ⟨rfl, hB1⟩
theorem ps_sth {g h : pz_M} (h2 : pz_R2 g h) : ∀ (n j : Nat) (v : Int32), j ≤ 8 → f_sth g n v (nI j) = f_mct h n v (nI j) := by
  intro n
  induction n with
  | zero => intro j v _; rfl
  | succ n ih =>
    intro j v hj
    unfold f_sth f_mct
    by_cases c : 8 ≤ nI j
    · rw [if_pos c, if_pos c]
    · rw [if_neg c, if_neg c]
      have hj8 : j < 8 := by
        rcases Nat.lt_or_ge j 8 with q | q
        · exact q
        · exact absurd (nI_le (a := 8) q (by omega)) c
      rw [nI_clamp (by omega), nI_1]
      rcases h2 j hj8 with ⟨q1, q2, -⟩ | ⟨q1, q2⟩
      · rw [if_neg (by rw [q1]; decide), if_neg (pz_le0 q2)]; exact ih (j + 1) _ (by omega)
      · rw [if_pos q1, if_pos (by rw [q2]; decide), Int32.add_zero]; exact ih (j + 1) _ (by omega)
theorem ps_count {g h : pz_M} {ph : Nat → Option Nat} (hB : pz_B g ph h) (a : Int32) : f_X2_count g ph a = (f_X3_count h a).1 ∧ pz_B g ph (f_X3_count h a).2 := by
  have hB1 := pz_BT hB 0
  have EY : f_X3_count h a = if a = 0 then (f_mct (pz_st h 18 0 0) 9 0 0, pz_st h 18 0 0) else if a = 1 then (pz_st h 18 0 0 18 8, pz_st h 18 0 0) else if f_X3_isIn a 2 5 = 0 then (if f_X3_isIn a 11 16 = 0 then ((-1), pz_st h 18 0 0) else (pz_st h 18 0 0 31 a.toNatClampNeg, pz_st h 18 0 0)) else (pz_st h 18 0 0 31 a.toNatClampNeg, pz_st h 18 0 0) := rfl
  rw [EY]
  generalize pz_st h 18 0 0 = K at *
  obtain ⟨n, n1, n2, n3, n4⟩ := hB1.1.1
  have E1 : f_X2_standingHouses g ph = f_mct K 9 0 0 := ps_sth hB1.2.1 9 0 0 (by omega)
  have e10 : g 0 10 = K 31 2 := hB1.1.2.2.2.2.2.2.2.1
  have e11 : g 0 11 = K 31 3 := hB1.1.2.2.2.2.2.2.2.2.1
  have e12 : g 0 12 = K 31 4 := hB1.1.2.2.2.2.2.2.2.2.2.1
  have e13 : g 0 13 = K 31 5 := hB1.1.2.2.2.2.2.2.2.2.2.2
  have e6 : ∀ j, 1 ≤ j → j ≤ 6 → g 6 j = K 31 (10 + j) := hB1.1.2.2.2.2.1
  have lit : ∀ i : Nat, i < 20 → (nI i).toNatClampNeg = i := fun i hi => nI_clamp (by omega)
  unfold f_X2_count
  by_cases ha : ∃ j : Nat, j < 17 ∧ a = nI j
  · obtain ⟨j, hj, rfl⟩ := ha
    rw [lit j (by omega)]
    rcases (show j = 0 ∨ j = 1 ∨ j = 2 ∨ j = 3 ∨ j = 4 ∨ j = 5 ∨ (6 ≤ j ∧ j ≤ 10) ∨ (11 ≤ j ∧ j ≤ 16) by omega) with rfl | rfl | rfl | rfl | rfl | rfl | ⟨q1, q2⟩ | ⟨q1, q2⟩
    · rw [if_pos (by decide +kernel), if_pos (by decide +kernel), if_pos (by decide +kernel)]; exact ⟨E1, hB1⟩
    · rw [if_pos (by decide +kernel), if_neg (by decide +kernel), if_pos (by decide +kernel), if_neg (by decide +kernel), if_pos (by decide +kernel)]; exact ⟨n2.trans n3.symm, hB1⟩
    · rw [if_pos (by decide +kernel), if_neg (by decide +kernel), if_neg (by decide +kernel), if_pos (by decide +kernel), if_neg (by decide +kernel), if_neg (by decide +kernel), if_neg (by decide +kernel)]; exact ⟨e10, hB1⟩
    · rw [if_pos (by decide +kernel), if_neg (by decide +kernel), if_neg (by decide +kernel), if_neg (by decide +kernel), if_pos (by decide +kernel), if_neg (by decide +kernel), if_neg (by decide +kernel), if_neg (by decide +kernel)]; exact ⟨e11, hB1⟩
    · rw [if_pos (by decide +kernel), if_neg (by decide +kernel), if_neg (by decide +kernel), if_neg (by decide +kernel), if_neg (by decide +kernel), if_pos (by decide +kernel), if_neg (by decide +kernel), if_neg (by decide +kernel), if_neg (by decide +kernel)]; exact ⟨e12, hB1⟩
    · rw [if_pos (by decide +kernel), if_neg (by decide +kernel), if_neg (by decide +kernel), if_neg (by decide +kernel), if_neg (by decide +kernel), if_neg (by decide +kernel), if_pos (by decide +kernel), if_neg (by decide +kernel), if_neg (by decide +kernel), if_neg (by decide +kernel)]; exact ⟨e13, hB1⟩
    · rcases (show j = 6 ∨ j = 7 ∨ j = 8 ∨ j = 9 ∨ j = 10 by omega) with rfl | rfl | rfl | rfl | rfl <;>
        (rw [if_pos (by decide +kernel), if_neg (by decide +kernel), if_neg (by decide +kernel), if_neg (by decide +kernel), if_neg (by decide +kernel), if_neg (by decide +kernel), if_neg (by decide +kernel), if_neg (by decide +kernel), if_neg (by decide +kernel), if_pos (by decide +kernel), if_pos (by decide +kernel)]; exact ⟨rfl, hB1⟩)
    · have e : (nI j - 10).toNatClampNeg = j - 10 := by rw [show nI j - 10 = nI (j - 10) from pk_sub (a := j) (b := 10) (by omega)]; exact lit _ (by omega)
      have e16 := e6 (j - 10) (by omega) (by omega)
      rw [e, e16, show 10 + (j - 10) = j by omega]
      rcases (show j = 11 ∨ j = 12 ∨ j = 13 ∨ j = 14 ∨ j = 15 ∨ j = 16 by omega) with rfl | rfl | rfl | rfl | rfl | rfl <;>
        (rw [if_neg (by decide +kernel), if_neg (by decide +kernel), if_neg (by decide +kernel), if_neg (by decide +kernel), if_pos (by decide +kernel), if_neg (by decide +kernel)]; exact ⟨rfl, hB1⟩)
  · have ne : ∀ j : Nat, j < 17 → ¬ a = nI j := fun j hj q => ha ⟨j, hj, q⟩
    have n0 : ¬ a = 0 := ne 0 (by omega)
    have n1 : ¬ a = 1 := ne 1 (by omega)
    have n2 : ¬ a = 2 := ne 2 (by omega)
    have n3 : ¬ a = 3 := ne 3 (by omega)
    have n4 : ¬ a = 4 := ne 4 (by omega)
    have n5 : ¬ a = 5 := ne 5 (by omega)
    have out : a.toInt < 0 ∨ 16 < a.toInt := by
      rcases Int.lt_or_le a.toInt 0 with q | q
      · exact Or.inl q
      · right
        obtain ⟨j, hj, e⟩ := nI_of (x := a) (by rw [Int32.lt_iff_toInt_lt, Int32.toInt_zero]; omega)
        rcases Nat.lt_or_ge j 17 with z | z
        · exact absurd e (ne j z)
        · rw [e, nI_toInt hj]; omega
    have i1 : f_X3_isIn a 2 5 = 0 := by
      unfold f_X3_isIn
      have e2 : (2 : Int32).toInt = 2 := rfl
      have e5 : (5 : Int32).toInt = 5 := rfl
      by_cases c : a < 2
      · rw [if_pos c]
      · rw [if_neg c, if_pos (by rw [Int32.lt_iff_toInt_lt] at c ⊢; omega)]
    have i2 : f_X3_isIn a 11 16 = 0 := by
      unfold f_X3_isIn
      have e2 : (11 : Int32).toInt = 11 := rfl
      have e5 : (16 : Int32).toInt = 16 := rfl
      by_cases c : a < 11
      · rw [if_pos c]
      · rw [if_neg c, if_pos (by rw [Int32.lt_iff_toInt_lt] at c ⊢; omega)]
    rw [if_neg n0, if_neg n1, if_neg n2, if_neg n3, if_neg n4, if_neg n5, if_neg n0, if_neg n1, if_pos i1, if_pos i2]
    by_cases c : a ≤ 10
    · rw [if_pos c]; exact ⟨rfl, hB1⟩
    · have c2 : 16 < a := by
        have e10 : (10 : Int32).toInt = 10 := rfl
        have e16 : (16 : Int32).toInt = 16 := rfl
        rw [Int32.le_iff_toInt_le] at c
        rw [Int32.lt_iff_toInt_lt]
        omega
      rw [if_neg c, if_pos c2]; exact ⟨rfl, hB1⟩
theorem ps_row {g h : pz_M} {ph : Nat → Option Nat} (hB : pz_B g ph h) (a : Int32) : pz_B g ph (f_X3_row h a).2 ∧ (f_X3_row h a).2 18 0 = (if f_X2_isRow a = 0 then 1 else 0) ∧ (¬ f_X2_isRow a = 0 → (f_X3_row h a).1 = g 3 a.toNatClampNeg) := by
  unfold f_X3_row
  by_cases c1 : f_X2_isRow a = 0
  · simp only [if_pos c1, if_pos ((pz_rowin a).mp c1)]
    rw [pz_s, if_neg (by decide)]
    exact ⟨pz_BT hB 1, by dsimp only; rw [pz_s], fun q => absurd c1 q⟩
  · simp only [if_neg c1, if_neg (fun q => c1 ((pz_rowin a).mpr q))]
    rw [pz_s, if_pos rfl]
    obtain ⟨k, hk, rfl⟩ := vp_in_of (pz_row c1) (by decide)
    refine ⟨pz_BT hB 0, by dsimp only; rw [pz_s], fun _ => ?_⟩
    rw [nI_clamp (by omega)]
    dsimp only
    rw [pz_t2 (by omega)]
    exact (hB.1.2.2.2.1 k hk).symm
