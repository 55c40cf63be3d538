/-! the reference: how deep it is, and what is in its rows -/
def pz_V (h : pz_M) : Prop := ∃ d : Nat, d ≤ 6 ∧ h 18 11 = nI d ∧ ∀ i, i < d → vp_in (h 28 i) 8
theorem pz_t {h : pz_M} {r j k : Nat} {v : Int32} (hj : j ≠ k) : pz_st h r k v r j = h r j := by rw [pz_st_s, pk_un hj]
theorem pz_t2 {h : pz_M} {r i j k : Nat} {v : Int32} (hj : i ≠ r) : pz_st h r k v i j = h i j := by rw [pz_st_n hj]
theorem pz_Vof {h h2 : pz_M} (hv : pz_V h) (h1 : h2 18 11 = h 18 11) (h3 : ∀ i, h2 28 i = h 28 i) : pz_V h2 := by
  obtain ⟨d, h6, hd, hs⟩ := hv
  exact ⟨d, h6, h1.trans hd, fun i hi => by rw [h3]; exact hs i hi⟩
theorem pz_V1 {h : pz_M} (hv : pz_V h) (hc : ¬ h 18 11 = 0) : vp_in (h 18 11 - 1) 6 ∧ vp_in (h 28 (h 18 11 - 1).toNatClampNeg) 8 := by
  obtain ⟨d, h6, hd, hs⟩ := hv
  rw [hd] at hc ⊢
  have h1 : 1 ≤ d := by
    rcases Nat.lt_or_ge d 1 with q | q
    · have : d = 0 := by omega
      subst this
      exact absurd nI_0 hc
    · exact q
  have e1 : nI d - 1 = nI (d - 1) := pk_sub (a := d) (b := 1) h1
  rw [e1, nI_clamp (by omega)]
  exact ⟨vp_in_nI (by omega) (by decide), hs _ (by omega)⟩
theorem pz_V2 {h : pz_M} (hv : pz_V h) (hc : 2 ≤ h 18 11) : vp_in (h 18 11 - 2) 6 ∧ vp_in (h 28 (h 18 11 - 2).toNatClampNeg) 8 := by
  obtain ⟨d, h6, hd, hs⟩ := hv
  rw [hd] at hc ⊢
  have h1 : 2 ≤ d := (nI_leI (by decide) (by omega)).mp (hc : nI 2 ≤ nI d)
  have e1 : nI d - 2 = nI (d - 2) := pk_sub (a := d) (b := 2) h1
  rw [e1, nI_clamp (by omega)]
  exact ⟨vp_in_nI (by omega) (by decide), hs _ (by omega)⟩
theorem pz_V21 {h : pz_M} (hv : pz_V h) (hc : 2 ≤ h 18 11) : ¬ h 18 11 = 0 := by
  obtain ⟨d, h6, hd, hs⟩ := hv
  rw [hd] at hc ⊢
  have h1 : 2 ≤ d := (nI_leI (by decide) (by omega)).mp (hc : nI 2 ≤ nI d)
  exact nI_ne0 (by omega) (by omega)
theorem pz_Vgt {h : pz_M} (hc : ¬ h 18 11 ≤ 0) : ¬ h 18 11 = 0 := fun q => hc (by rw [q]; decide)
theorem pz_V6 {h : pz_M} (hv : pz_V h) (hc : ¬ h 18 11 = 6) : vp_in (h 18 11) 6 := by
  obtain ⟨d, h6, hd, hs⟩ := hv
  rw [hd] at hc ⊢
  have h1 : d ≠ 6 := fun q => hc (by rw [q]; rfl)
  exact vp_in_nI (by omega) (by decide)
theorem pz_many {h : pz_M} (hm : ∃ n : Nat, n ≤ 30 ∧ h 18 8 = nI n) (hc : ¬ h 18 8 = 30) : vp_in (h 18 8) 30 := by
  obtain ⟨n, h1, h2⟩ := hm
  rw [h2] at hc ⊢
  have h3 : n ≠ 30 := fun q => hc (by rw [q]; rfl)
  exact vp_in_nI (by omega) (by decide)
