/-! small facts on what the methods answer -/
theorem pz_in {a : Int32} {n : Nat} (hn : n < 2 ^ 31) (h0 : ¬ a < 0) (h1 : ¬ nI n ≤ a) : vp_in a n := by
  rw [vp_in_iff]
  rw [Int32.lt_iff_toInt_lt, Int32.toInt_zero] at h0
  rw [Int32.le_iff_toInt_le, nI_toInt hn] at h1
  omega
theorem pz_place {a : Int32} (h : ¬ f_X2_isPlace a = 0) : vp_in a 8 := by
  unfold f_X2_isPlace at h
  by_cases h1 : a < 0
  · exact absurd (if_pos h1) h
  · by_cases h2 : 8 ≤ a
    · exact absurd (by rw [if_neg h1, if_pos h2]) h
    · exact pz_in (by decide) h1 h2
theorem pz_row {a : Int32} (h : ¬ f_X2_isRow a = 0) : vp_in a 8 := by
  unfold f_X2_isRow at h
  by_cases h1 : a < 0
  · exact absurd (if_pos h1) h
  · by_cases h2 : 8 ≤ a
    · exact absurd (by rw [if_neg h1, if_pos h2]) h
    · exact pz_in (by decide) h1 h2
theorem pz_lt_in {a : Int32} {n : Nat} (hn : n < 2 ^ 31) (h0 : ¬ a < 0) (h1 : a < nI n) : vp_in a n := pz_in hn h0 (fun q => by
  rw [Int32.lt_iff_toInt_lt] at h1
  rw [Int32.le_iff_toInt_le] at q
  omega)
theorem pz_alt {a b : Int32} (h0 : ¬ a < 0) (h1 : ¬ b ≤ a) (h2 : b ≤ 30) : vp_in a 30 := pz_in (by decide) h0 (fun q => h1 (by
  rw [Int32.le_iff_toInt_le] at h2 ⊢
  rw [Int32.le_iff_toInt_le] at q
  have e : (nI 30).toInt = (30 : Int32).toInt := rfl
  omega))
theorem pz_cnt {a : Int32} (h1 : ¬ a ≤ 10) (h2 : ¬ 16 < a) : vp_in (a - 10) 7 := by
  have e10 : (10 : Int32).toInt = 10 := rfl
  have e16 : (16 : Int32).toInt = 16 := rfl
  rw [Int32.le_iff_toInt_le, e10] at h1
  rw [Int32.lt_iff_toInt_lt, e16] at h2
  obtain ⟨j, hj, rfl⟩ : ∃ j : Nat, j < 2 ^ 31 ∧ a = nI j := nI_of (by rw [Int32.lt_iff_toInt_lt, Int32.toInt_zero]; omega)
  rw [nI_toInt hj] at h1 h2
  have e : nI j - 10 = nI (j - 10) := pk_sub (a := j) (b := 10) (by omega)
  rw [e]
  exact vp_in_nI (by omega) (by decide)
theorem pz_notfull {g : pz_M} {ph : Nat → Option Nat} (hw : pz_W g ph) (h : f_X1_isFull g ph = 0) : vp_in (g 2 3) 6 := by
  obtain ⟨d, h6, hd, hs⟩ := hw
  unfold f_X1_isFull at h
  by_cases h1 : g 2 3 < 6
  · rw [hd] at h1 ⊢
    have : d < 6 := (nI_ltI (by omega) (by decide)).mp (h1 : nI d < nI 6)
    exact vp_in_nI this (by decide)
  · rw [if_neg h1] at h
    exact absurd h (by decide)
theorem pz_here8 {g : pz_M} {ph : Nat → Option Nat} {k : Nat} (hw : pz_W g ph) (h : some k = f_X1_here g ph) : k < 8 := by
  unfold f_X1_here at h
  by_cases h1 : g 2 3 < 1
  · rw [if_pos h1] at h; cases h
  · rw [if_neg h1] at h
    rw [Option.some.inj h]
    exact (pz_W1 hw h1).2.2
theorem pz_around8 {g : pz_M} {ph : Nat → Option Nat} {k : Nat} (hw : pz_W g ph) (h : some k = f_X1_around g ph) : k < 8 := by
  unfold f_X1_around at h
  by_cases h1 : g 2 3 < 2
  · rw [if_pos h1] at h; cases h
  · rw [if_neg h1] at h
    rw [Option.some.inj h]
    exact (pz_W2 hw h1).2.2
theorem pz_again {g : pz_M} {ph : Nat → Option Nat} (hw : pz_W g ph) (h : ¬ g 2 3 = 0) : vp_in (g 2 3 - 1) 6 := by
  obtain ⟨d, h6, hd, hs⟩ := hw
  refine (pz_W1 ⟨d, h6, hd, hs⟩ (fun q => h ?_)).1
  rw [hd] at q ⊢
  have : d < 1 := (nI_ltI (by omega) (by decide)).mp (q : nI d < nI 1)
  have : d = 0 := by omega
  subst this
  exact nI_0
theorem pz_Wof {g g2 : pz_M} {ph : Nat → Option Nat} (hw : pz_W g ph) (h : g2 2 3 = g 2 3) : pz_W g2 ph := by
  obtain ⟨d, h6, hd, hs⟩ := hw
  exact ⟨d, h6, h.trans hd, hs⟩
theorem pz_lbr01 {g : pz_M} {ph : Nat → Option Nat} : (f_X1_leaveByRefuge g ph).1 = 0 ∨ (f_X1_leaveByRefuge g ph).1 = 1 := by
  have key : ∀ (n : Nat) (i : Int32), (f_lbr g ph n i).1 = 0 ∨ (f_lbr g ph n i).1 = 1 := by
    intro n
    induction n with
    | zero => intro i; exact Or.inl rfl
    | succ n ih =>
      intro i
      unfold f_lbr
      by_cases h1 : i < 0
      · rw [if_pos h1]; exact Or.inl rfl
      · rw [if_neg h1]
        by_cases h2 : g (10 + pz_h ph i.toNatClampNeg) 3 = 0
        · rw [if_pos h2]; exact ih _
        · rw [if_neg h2]; exact Or.inr rfl
  exact key 8 _
/-- the remainder: its size and its sign -/
theorem pz_rem (a : Int32) {n : Nat} (h0 : 1 < n) (hn : n < 2 ^ 30) : -(n : Int) < (a - a / nI n * nI n).toInt ∧ (a - a / nI n * nI n).toInt < n ∧ (a.toInt < 0 → (a - a / nI n * nI n).toInt ≤ 0) ∧ (0 ≤ a.toInt → 0 ≤ (a - a / nI n * nI n).toInt) := by
  have hb := nI_toInt (n := n) (by omega)
  have ha1 := Int32.le_toInt a
  have ha2 := Int32.toInt_lt a
  obtain ⟨q, hq, hq1⟩ : ∃ q : Int, a.toInt.tdiv n = q ∧ ((0 ≤ a.toInt ∧ 0 ≤ q ∧ n * q ≤ a.toInt ∧ a.toInt < n * q + n) ∨ (a.toInt < 0 ∧ q ≤ 0 ∧ a.toInt ≤ n * q ∧ n * q - n < a.toInt)) := by
    refine ⟨_, rfl, ?_⟩
    rcases Int.lt_or_le a.toInt 0 with hs | hs
    · right
      have e1 : a.toInt.tdiv n = -((-a.toInt) / n) := by
        have : a.toInt = -(-a.toInt) := by omega
        rw [this, Int.neg_tdiv, Int.tdiv_eq_ediv_of_nonneg (by omega)]
        simp
      have l1 := Int.mul_ediv_self_le (x := -a.toInt) (k := n) (by omega)
      have l2 := Int.lt_mul_ediv_self_add (x := -a.toInt) (k := n) (by omega)
      have l3 : 0 ≤ (-a.toInt) / (n : Int) := Int.ediv_nonneg (by omega) (by omega)
      rw [e1, Int.mul_neg]
      refine ⟨hs, by omega, by omega, by omega⟩
    · left
      rw [Int.tdiv_eq_ediv_of_nonneg hs]
      exact ⟨hs, Int.ediv_nonneg hs (by omega), Int.mul_ediv_self_le (by omega), Int.lt_mul_ediv_self_add (by omega)⟩
  have hq2 : -(2 ^ 31 : Int) ≤ n * q ∧ n * q < 2 ^ 31 := by
    rcases hq1 with ⟨h1, h2, h3, h4⟩ | ⟨h1, h2, h3, h4⟩
    · have : 0 ≤ (n : Int) * q := Int.mul_nonneg (by omega) h2
      omega
    · have : (n : Int) * q ≤ 0 := Int.mul_nonpos_of_nonneg_of_nonpos (by omega) h2
      omega
  have hq3 : -(2 ^ 31 : Int) ≤ q ∧ q < 2 ^ 31 := by
    rcases hq1 with ⟨h1, h2, h3, h4⟩ | ⟨h1, h2, h3, h4⟩
    · have : q * 1 ≤ q * n := Int.mul_le_mul_of_nonneg_left (by omega) h2
      rw [Int.mul_comm q n] at this
      omega
    · have : q * n ≤ q * 1 := Int.mul_le_mul_of_nonpos_left h2 (by omega)
      rw [Int.mul_comm q n] at this
      omega
  have e1 : (a / nI n).toInt = q := by
    rw [Int32.toInt_div, hb, hq]
    exact Int.bmod_eq_of_le (by omega) (by omega)
  have e2 : (a / nI n * nI n).toInt = n * q := by
    rw [Int32.toInt_mul, e1, hb, Int.mul_comm]
    exact Int.bmod_eq_of_le (by omega) (by omega)
  have e3 : (a - a / nI n * nI n).toInt = a.toInt - n * q := by
    rw [Int32.toInt_sub, e2]
    refine Int.bmod_eq_of_le ?_ ?_
    · rcases hq1 with ⟨h1, h2, h3, h4⟩ | ⟨h1, h2, h3, h4⟩ <;> omega
    · rcases hq1 with ⟨h1, h2, h3, h4⟩ | ⟨h1, h2, h3, h4⟩ <;> omega
  rw [e3]
  rcases hq1 with ⟨h1, h2, h3, h4⟩ | ⟨h1, h2, h3, h4⟩ <;> refine ⟨by omega, by omega, fun _ => by omega, fun _ => by omega⟩
/-- floorMod's sign test -/
theorem pz_xor (a : Int32) {n : Nat} (hn : n < 2 ^ 31) : 0 ≤ (a ^^^ nI n) ↔ 0 ≤ a.toInt := by
  have h1 : (nI n).toBitVec.msb = false := by
    rw [BitVec.msb_eq_toInt]
    have : (nI n).toBitVec.toInt = n := nI_toInt hn
    rw [this]
    simp
  have h2 : (a ^^^ nI n).toBitVec.msb = a.toBitVec.msb := by
    rw [Int32.toBitVec_xor, BitVec.msb_xor, h1, Bool.xor_false]
  rw [BitVec.msb_eq_toInt, BitVec.msb_eq_toInt] at h2
  have h3 : ((a ^^^ nI n).toInt < 0) ↔ (a.toInt < 0) := decide_eq_decide.mp h2
  rw [Int32.le_iff_toInt_le, Int32.toInt_zero]
  omega
theorem pz_fm (a : Int32) {n : Nat} (h0 : 1 < n) (hn : n < 2 ^ 30) : ∃ j : Nat, j < n ∧ f_J9_floorMod_7cf53 a (nI n) = nI j := by
  obtain ⟨r1, r2, r3, r4⟩ := pz_rem a h0 hn
  unfold f_J9_floorMod_7cf53
  by_cases hs : 0 ≤ (a ^^^ nI n)
  · rw [if_pos hs]
    have hs := (pz_xor a (by omega)).mp hs
    obtain ⟨j, hj, e⟩ := nI_of (x := a - a / nI n * nI n) (by rw [Int32.lt_iff_toInt_lt, Int32.toInt_zero]; have := r4 hs; omega)
    refine ⟨j, ?_, e⟩
    rw [e, nI_toInt hj] at r2
    omega
  · rw [if_neg hs]
    have hs : a.toInt < 0 := Int.not_le.mp (fun q => hs ((pz_xor a (by omega)).mpr q))
    by_cases hz : a - a / nI n * nI n = 0
    · rw [if_pos hz]; exact ⟨0, by omega, hz⟩
    · rw [if_neg hz]
      have hz1 : ¬ (a - a / nI n * nI n).toInt = 0 := fun q => hz (Int32.toInt_inj.mp (by rw [q]; rfl))
      have r5 := r3 hs
      have e : ((a - a / nI n * nI n) + nI n).toInt = (a - a / nI n * nI n).toInt + n := by
        rw [Int32.toInt_add, nI_toInt (by omega)]
        exact Int.bmod_eq_of_le (by omega) (by omega)
      obtain ⟨j, hj, e2⟩ := nI_of (x := (a - a / nI n * nI n) + nI n) (by rw [Int32.lt_iff_toInt_lt, Int32.toInt_zero, e]; omega)
      refine ⟨j, ?_, e2⟩
      rw [e2, nI_toInt hj] at e
      omega
