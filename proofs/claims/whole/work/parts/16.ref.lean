theorem inX3_thrown_X3 : ∀ w ∈ u_ws RX3 TX3 20, w ∈ wsX3_thrown := by decide +kernel
def f_X3_thrown (h : pz_M) : Int32 :=
  h 18 0
set_option maxHeartbeats 4000000 in
set_option maxRecDepth 100000 in
theorem c_X3_thrown {l : Launch} {dC : Nat → ClassId} {dI : Nat → Nat → Nat} {cl : Nat → ClassId} {ad : Nat → Nat} {ph : Nat → Option Nat} {o : Nat → Int64} {g h : pz_M} : pz_Mi l dC dI cl yX3_thrown wsX3_thrown { frames := 0, cells := 0, slots := 0, locals := 0 } [.ref (ad 18)] (pz_wd ad cl ph o g h) (fun _ : Unit => pz_wd ad cl ph o g h) (fun r _ => r = f_X3_thrown h) := by
  intro sz
  refine pr_ofW (Qc := pz_Qi dC dI _ _) (cb := cX3_thrown) (maxL := 1) (ret := (some .int)) (by decide) rfl (Nat.le_of_ble_eq_true rfl) ?_
  intro p e s m below meth c A ls hx hb hml hr hlocks hts hown hK hP hD hS hA hl
  have hl : lv_has ls 1 [(0, .ref (ad 18))] := hl
  refine lv_aload_n hx hb dX3_thrown_0 rfl (lv_at hl 0 rfl) ?_
  refine va_get (D := (dC, dI)) (ci := 5) (C := RX3) (T := TX3) (N := 20) hx hb hts inX3_thrown_X3 hown hK.1 hP 18 pz_a18 rfl 0 (by decide) (hts (.fieldLink RX3 57 "PowderMillModel" "thrown" "I") (by decide +kernel)) (fun _ h9 => h9) rfl dX3_thrown_1 ?_
  exact pr_iret () hx hb hr hlocks hP hD hS dX3_thrown_4 (by (simp only [f_X3_thrown] <;> rfl))
def f_X3_isIn (a : Int32) (b : Int32) (z : Int32) : Int32 :=
  if a < b then
    0
  else
    if z < a then
      0
    else
      1
set_option maxHeartbeats 4000000 in
set_option maxRecDepth 100000 in
theorem c_X3_isIn {l : Launch} {dC : Nat → ClassId} {dI : Nat → Nat → Nat} {cl : Nat → ClassId} {ad : Nat → Nat} {ph : Nat → Option Nat} {o : Nat → Int64} {g h : pz_M} (a : Int32) (b : Int32) (z : Int32) : pz_Mi l dC dI cl yX3_isIn wsX3_isIn { frames := 0, cells := 0, slots := 0, locals := 0 } [.int a, .int b, .int z] (pz_wd ad cl ph o g h) (fun _ : Unit => pz_wd ad cl ph o g h) (fun r _ => r = f_X3_isIn a b z) := by
  intro sz
  refine pr_ofW (Qc := pz_Qi dC dI _ _) (cb := cX3_isIn) (maxL := 3) (ret := (some .boolean)) (by decide) rfl (Nat.le_of_ble_eq_true rfl) ?_
  intro p e s m below meth c A ls hx hb hml hr hlocks hts hown hK hP hD hS hA hl
  have hl : lv_has ls 3 [(0, .int a), (1, .int b), (2, .int z)] := hl
  refine lv_iload_n hx hb dX3_isIn_0 rfl (lv_at hl 0 rfl) ?_
  refine lv_iload_n hx hb dX3_isIn_1 rfl (lv_at hl 1 rfl) ?_
  refine lv_icmp_lt (tgt := 14) hx hb dX3_isIn_2 (by decide) (fun c_2 => ?_) (fun c_2 => ?_)
  · refine lv_iconst (v := 0) hx hb dX3_isIn_14 (by decide) ?_
    exact pr_zret () hx hb hr hlocks (by decide) hP hD hS dX3_isIn_15 (by (simp only [f_X3_isIn, if_pos c_2] <;> rfl))
  · refine lv_iload_n hx hb dX3_isIn_5 rfl (lv_at hl 0 rfl) ?_
    refine lv_iload_n hx hb dX3_isIn_6 rfl (lv_at hl 2 rfl) ?_
    refine lv_icmp_gt (tgt := 14) hx hb dX3_isIn_7 (by decide) (fun c_7 => ?_) (fun c_7 => ?_)
    · refine lv_iconst (v := 0) hx hb dX3_isIn_14 (by decide) ?_
      exact pr_zret () hx hb hr hlocks (by decide) hP hD hS dX3_isIn_15 (by (simp only [f_X3_isIn, if_neg c_2, if_pos c_7] <;> rfl))
    · refine lv_iconst (v := 1) hx hb dX3_isIn_10 (by decide) ?_
      refine lv_goto (tgt := 15) hx hb dX3_isIn_11 (by decide) ?_
      exact pr_zret () hx hb hr hlocks (by decide) hP hD hS dX3_isIn_15 (by (simp only [f_X3_isIn, if_neg c_2, if_neg c_7] <;> rfl))
def f_X3_modulo (a : Int32) (b : Int32) : Int32 :=
  if 0 ≤ (a - a / b * b) then
    a - a / b * b
  else
    (a - a / b * b) + b
set_option maxHeartbeats 4000000 in
set_option maxRecDepth 100000 in
theorem c_X3_modulo {l : Launch} {dC : Nat → ClassId} {dI : Nat → Nat → Nat} {cl : Nat → ClassId} {ad : Nat → Nat} {ph : Nat → Option Nat} {o : Nat → Int64} {g h : pz_M} (a : Int32) (b : Int32) (hne : ¬ b = 0) : pz_Mi l dC dI cl yX3_modulo wsX3_modulo { frames := 0, cells := 0, slots := 0, locals := 0 } [.int a, .int b] (pz_wd ad cl ph o g h) (fun _ : Unit => pz_wd ad cl ph o g h) (fun r _ => r = f_X3_modulo a b) := by
  intro sz
  refine pr_ofW (Qc := pz_Qi dC dI _ _) (cb := cX3_modulo) (maxL := 3) (ret := (some .int)) (by decide) rfl (Nat.le_of_ble_eq_true rfl) ?_
  intro p e s m below meth c A ls hx hb hml hr hlocks hts hown hK hP hD hS hA hl
  have hl : lv_has ls 3 [(0, .int a), (1, .int b)] := hl
  refine lv_iload_n hx hb dX3_modulo_0 rfl (lv_at hl 0 rfl) ?_
  refine lv_iload_n hx hb dX3_modulo_1 rfl (lv_at hl 1 rfl) ?_
  refine lv_irem hx hb dX3_modulo_2 hne ?_
  refine lv_istore_n (lv' := [(2, .int (a - a / b * b)), (0, .int a), (1, .int b)]) hx hb dX3_modulo_3 rfl hl (by decide) rfl (fun ls hl => ?_)
  refine lv_iload_n hx hb dX3_modulo_4 rfl (lv_at hl 0 rfl) ?_
  refine lv_if_ge (tgt := 14) hx hb dX3_modulo_5 (by decide) (fun c_5 => ?_) (fun c_5 => ?_)
  · refine lv_iload_n hx hb dX3_modulo_14 rfl (lv_at hl 0 rfl) ?_
    exact pr_iret () hx hb hr hlocks hP hD hS dX3_modulo_15 (by (simp only [f_X3_modulo, if_pos c_5] <;> rfl))
  · refine lv_iload_n hx hb dX3_modulo_8 rfl (lv_at hl 0 rfl) ?_
    refine lv_iload_n hx hb dX3_modulo_9 rfl (lv_at hl 2 rfl) ?_
    refine lv_iadd hx hb dX3_modulo_10 ?_
    refine lv_goto (tgt := 15) hx hb dX3_modulo_11 (by decide) ?_
    exact pr_iret () hx hb hr hlocks hP hD hS dX3_modulo_15 (by (simp only [f_X3_modulo, if_neg c_5] <;> rfl))
theorem pz_isIn01 {a b z : Int32} : f_X3_isIn a b z = 0 ∨ f_X3_isIn a b z = 1 := by
  unfold f_X3_isIn
  split
  · exact Or.inl rfl
  · split
    · exact Or.inl rfl
    · exact Or.inr rfl
theorem pz_isIn {a b z : Int32} (h : ¬ f_X3_isIn a b z = 0) : ¬ a < b ∧ ¬ z < a := by
  unfold f_X3_isIn at h
  by_cases h1 : a < b
  · exact absurd (if_pos h1) h
  · by_cases h2 : z < a
    · exact absurd (by rw [if_neg h1, if_pos h2]) h
    · exact ⟨h1, h2⟩
theorem pz_in7 {a : Int32} (h : ¬ f_X3_isIn a 0 7 = 0) : vp_in a 8 := by
  obtain ⟨h1, h2⟩ := pz_isIn h
  exact pz_in (by decide) h1 (fun q => h2 (by
    rw [Int32.le_iff_toInt_le] at q
    rw [Int32.lt_iff_toInt_lt]
    have e1 : (nI 8).toInt = 8 := rfl
    have e2 : (7 : Int32).toInt = 7 := rfl
    omega))
def f_X3_isPlace (a : Int32) : Int32 :=
  let r_1 := f_X3_isIn a 0 7
  r_1
set_option maxHeartbeats 4000000 in
set_option maxRecDepth 100000 in
theorem c_X3_isPlace {l : Launch} {dC : Nat → ClassId} {dI : Nat → Nat → Nat} {cl : Nat → ClassId} {ad : Nat → Nat} {ph : Nat → Option Nat} {o : Nat → Int64} {g h : pz_M} (a : Int32) : pz_Mi l dC dI cl yX3_isPlace wsX3_isPlace { frames := 1, cells := 0, slots := 0, locals := 22 } [.int a] (pz_wd ad cl ph o g h) (fun _ : Unit => pz_wd ad cl ph o g h) (fun r _ => r = f_X3_isPlace a) := by
  intro sz
  refine pr_ofW (Qc := pz_Qi dC dI _ _) (cb := cX3_isPlace) (maxL := 1) (ret := (some .boolean)) (by decide) rfl (Nat.le_of_ble_eq_true rfl) ?_
  intro p e s m below meth c A ls hx hb hml hr hlocks hts hown hK hP hD hS hA hl
  have hl : lv_has ls 1 [(0, .int a)] := hl
  refine lv_iload_n hx hb dX3_isPlace_0 rfl (lv_at hl 0 rfl) ?_
  refine lv_iconst (v := 0) hx hb dX3_isPlace_1 (by decide) ?_
  refine lv_bipush (v := 7) hx hb dX3_isPlace_2 (by decide) ?_
  refine pr_Si (As := [.int a, .int 0, .int 7]) (rest := []) ⟨hx, hb, hml, hown, hts⟩ (c_X3_isIn a 0 7) (va_cwS 3 hts gX3_isPlace_X3_isIn rfl rfl rfl (by decide +kernel) ⟨Nat.le_of_ble_eq_true rfl, Nat.le_of_ble_eq_true rfl⟩) hK hP hD hS hA rfl hl.1 rfl (Nat.le_of_ble_eq_true rfl) ⟨Nat.le_of_ble_eq_true rfl, Nat.le_of_ble_eq_true rfl⟩ dX3_isPlace_4 (fun r_1 _ H locs e_r_1 hP hD hS => ?_)
  exact pr_zret () hx hb hr hlocks (by rw [e_r_1]; exact pz_isIn01) hP hD hS dX3_isPlace_7 (by subst e_r_1; (simp only [f_X3_isPlace] <;> rfl))
theorem pz_mplace {a : Int32} (h : ¬ f_X3_isPlace a = 0) : vp_in a 8 := pz_in7 h
theorem pz_malter {a b : Int32} (hm : ∃ n : Nat, n ≤ 30 ∧ b = nI n) (h : ¬ f_X3_isIn a 0 (b - 1) = 0) : vp_in a 30 := by
  obtain ⟨h1, h2⟩ := pz_isIn h
  obtain ⟨n, hn, rfl⟩ := hm
  exact pz_in (by decide) h1 (fun q => h2 (by
    rw [Int32.le_iff_toInt_le] at q
    rw [Int32.lt_iff_toInt_lt]
    have e1 : (nI 30).toInt = 30 := rfl
    have e2 : (nI n - 1).toInt = (n : Int) - 1 := pk_sub_toInt (a := n) (b := 1) (by omega) (by omega)
    omega))
theorem pz_mcount {a : Int32} (h : ¬ f_X3_isIn a 2 5 = 0 ∨ ¬ f_X3_isIn a 11 16 = 0) : vp_in a 17 := by
  have e17 : (nI 17).toInt = 17 := rfl
  have e2 : (2 : Int32).toInt = 2 := rfl
  have e5 : (5 : Int32).toInt = 5 := rfl
  have e11 : (11 : Int32).toInt = 11 := rfl
  have e16 : (16 : Int32).toInt = 16 := rfl
  rw [vp_in_iff]
  rcases h with h | h <;> obtain ⟨h1, h2⟩ := pz_isIn h <;> rw [Int32.lt_iff_toInt_lt] at h1 h2 <;> omega
theorem inX3_isHouse_X3 : ∀ w ∈ u_ws RX3 TX3 20, w ∈ wsX3_isHouse := by decide +kernel
def f_X3_isHouse (h : pz_M) (a : Int32) : Int32 :=
  let r_1 := f_X3_isPlace a
  if r_1 = 0 then
    0
  else
    if (h 19 a.toNatClampNeg) ≤ 0 then
      0
    else
      1
set_option maxHeartbeats 4000000 in
set_option maxRecDepth 100000 in
theorem c_X3_isHouse {l : Launch} {dC : Nat → ClassId} {dI : Nat → Nat → Nat} {cl : Nat → ClassId} {ad : Nat → Nat} {ph : Nat → Option Nat} {o : Nat → Int64} {g h : pz_M} (a : Int32) : pz_Mi l dC dI cl yX3_isHouse wsX3_isHouse { frames := 2, cells := 0, slots := 0, locals := 42 } [.ref (ad 18), .int a] (pz_wd ad cl ph o g h) (fun _ : Unit => pz_wd ad cl ph o g h) (fun r _ => r = f_X3_isHouse h a) := by
  intro sz
  refine pr_ofW (Qc := pz_Qi dC dI _ _) (cb := cX3_isHouse) (maxL := 2) (ret := (some .boolean)) (by decide) rfl (Nat.le_of_ble_eq_true rfl) ?_
  intro p e s m below meth c A ls hx hb hml hr hlocks hts hown hK hP hD hS hA hl
  have hl : lv_has ls 2 [(0, .ref (ad 18)), (1, .int a)] := hl
  refine lv_iload_n hx hb dX3_isHouse_0 rfl (lv_at hl 1 rfl) ?_
  refine pr_Si (As := [.int a]) (rest := []) ⟨hx, hb, hml, hown, hts⟩ (c_X3_isPlace a) (va_cwS 1 hts gX3_isHouse_X3_isPlace rfl rfl rfl (by decide +kernel) ⟨Nat.le_of_ble_eq_true rfl, Nat.le_of_ble_eq_true rfl⟩) hK hP hD hS hA rfl hl.1 rfl (Nat.le_of_ble_eq_true rfl) ⟨Nat.le_of_ble_eq_true rfl, Nat.le_of_ble_eq_true rfl⟩ dX3_isHouse_1 (fun r_1 _ H locs e_r_1 hP hD hS => ?_)
  refine lv_if_eq (tgt := 20) hx hb dX3_isHouse_4 (by decide) (fun c_4 => ?_) (fun c_4 => ?_)
  · refine lv_iconst (v := 0) hx hb dX3_isHouse_20 (by decide) ?_
    exact pr_zret () hx hb hr hlocks (by decide) hP hD hS dX3_isHouse_21 (by subst e_r_1; (simp only [f_X3_isHouse, if_pos c_4] <;> rfl))
  · have i1 : vp_in a 8 := pz_mplace (by rw [← e_r_1]; exact c_4)
    refine lv_aload_n hx hb dX3_isHouse_7 rfl (lv_at hl 0 rfl) ?_
    refine va_get (D := (dC, dI)) (ci := 5) (C := RX3) (T := TX3) (N := 20) hx hb hts inX3_isHouse_X3 hown hK.1 hP 18 pz_a18 rfl 1 (by decide) (hts (.fieldLink RX3 7 "PowderMillModel" "walls" "[I") (by decide +kernel)) (fun _ h9 => h9) rfl dX3_isHouse_8 ?_
    refine lv_iload_n hx hb dX3_isHouse_11 rfl (lv_at hl 1 rfl) ?_
    refine va_iald hx hb hK.1 hP 19 0 pz_a19 rfl i1 dX3_isHouse_12 ?_
    refine lv_if_le (tgt := 20) hx hb dX3_isHouse_13 (by decide) (fun c_13 => ?_) (fun c_13 => ?_)
    · refine lv_iconst (v := 0) hx hb dX3_isHouse_20 (by decide) ?_
      exact pr_zret () hx hb hr hlocks (by decide) hP hD hS dX3_isHouse_21 (by subst e_r_1; (simp only [f_X3_isHouse, if_neg c_4, if_pos c_13] <;> rfl))
    · refine lv_iconst (v := 1) hx hb dX3_isHouse_16 (by decide) ?_
      refine lv_goto (tgt := 21) hx hb dX3_isHouse_17 (by decide) ?_
      exact pr_zret () hx hb hr hlocks (by decide) hP hD hS dX3_isHouse_21 (by subst e_r_1; (simp only [f_X3_isHouse, if_neg c_4, if_neg c_13] <;> rfl))
theorem inX3_cleared_X3 : ∀ w ∈ u_ws RX3 TX3 20, w ∈ wsX3_cleared := by decide +kernel
def f_X3_cleared (h : pz_M) (a : Int32) (b : Int32) (z : Int32) : pz_M :=
  let h_1 := pz_st h 19 a.toNatClampNeg b
  let h_2 := pz_st h_1 20 a.toNatClampNeg 0
  let h_3 := pz_st h_2 21 a.toNatClampNeg z
  let h_4 := pz_st h_3 22 a.toNatClampNeg 0
  let h_5 := pz_st h_4 23 a.toNatClampNeg 0
  let h_6 := pz_st h_5 24 a.toNatClampNeg 0
  h_6
set_option maxHeartbeats 4000000 in
set_option maxRecDepth 100000 in
theorem c_X3_cleared {l : Launch} {dC : Nat → ClassId} {dI : Nat → Nat → Nat} {cl : Nat → ClassId} {ad : Nat → Nat} {ph : Nat → Option Nat} {o : Nat → Int64} {g h : pz_M} (a : Int32) (b : Int32) (z : Int32) (ha : vp_in a 8) (hz : z = 0 ∨ z = 1) : pz_Mv l dC dI cl yX3_cleared wsX3_cleared { frames := 0, cells := 0, slots := 0, locals := 0 } [.ref (ad 18), .int a, .int b, .int z] (pz_wd ad cl ph o g h) (fun u : pz_M => pz_wd ad cl ph o g u) (fun u => u = f_X3_cleared h a b z) := by
  intro sz
  refine pr_ofW (Qc := pz_Qv dC dI _ _) (cb := cX3_cleared) (maxL := 4) (ret := none) (by decide) rfl (Nat.le_of_ble_eq_true rfl) ?_
  intro p e s m below meth c A ls hx hb hml hr hlocks hts hown hK hP hD hS hA hl
  have hl : lv_has ls 4 [(0, .ref (ad 18)), (1, .int a), (2, .int b), (3, .int z)] := hl
  refine lv_aload_n hx hb dX3_cleared_0 rfl (lv_at hl 0 rfl) ?_
  refine va_get (D := (dC, dI)) (ci := 5) (C := RX3) (T := TX3) (N := 20) hx hb hts inX3_cleared_X3 hown hK.1 hP 18 pz_a18 rfl 1 (by decide) (hts (.fieldLink RX3 7 "PowderMillModel" "walls" "[I") (by decide +kernel)) (fun _ h9 => h9) rfl dX3_cleared_1 ?_
  refine lv_iload_n hx hb dX3_cleared_4 rfl (lv_at hl 1 rfl) ?_
  refine lv_iload_n hx hb dX3_cleared_5 rfl (lv_at hl 2 rfl) ?_
  refine pr_iastR hx hb hK.1 hP hD hS 19 (by omega) (by omega) pz_a19 (fun _ => rfl) ha dX3_cleared_6 (fun h_1 H locs e_h_1 hP hD hS => ?_)
  refine lv_aload_n hx hb dX3_cleared_7 rfl (lv_at hl 0 rfl) ?_
  refine va_get (D := (dC, dI)) (ci := 5) (C := RX3) (T := TX3) (N := 20) hx hb hts inX3_cleared_X3 hown hK.1 hP 18 pz_a18 rfl 2 (by decide) (hts (.fieldLink RX3 13 "PowderMillModel" "powder" "[I") (by decide +kernel)) (fun _ h9 => h9) rfl dX3_cleared_8 ?_
  refine lv_iload_n hx hb dX3_cleared_11 rfl (lv_at hl 1 rfl) ?_
  refine lv_iconst (v := 0) hx hb dX3_cleared_12 (by decide) ?_
  refine pr_iastR hx hb hK.1 hP hD hS 20 (by omega) (by omega) pz_a20 (fun _ => rfl) ha dX3_cleared_13 (fun h_2 H locs e_h_2 hP hD hS => ?_)
  refine lv_aload_n hx hb dX3_cleared_14 rfl (lv_at hl 0 rfl) ?_
  refine va_get (D := (dC, dI)) (ci := 5) (C := RX3) (T := TX3) (N := 20) hx hb hts inX3_cleared_X3 hown hK.1 hP 18 pz_a18 rfl 3 (by decide) (hts (.fieldLink RX3 16 "PowderMillModel" "refuge" "[Z") (by decide +kernel)) (fun _ h9 => h9) rfl dX3_cleared_15 ?_
  refine lv_iload_n hx hb dX3_cleared_18 rfl (lv_at hl 1 rfl) ?_
  refine lv_iload_n hx hb dX3_cleared_19 rfl (lv_at hl 3 rfl) ?_
  refine pr_zastR hx hb hK.1 hP hD hS hz ha dX3_cleared_20 (fun h_3 H locs e_h_3 hP hD hS => ?_)
  refine lv_aload_n hx hb dX3_cleared_21 rfl (lv_at hl 0 rfl) ?_
  refine va_get (D := (dC, dI)) (ci := 5) (C := RX3) (T := TX3) (N := 20) hx hb hts inX3_cleared_X3 hown hK.1 hP 18 pz_a18 rfl 4 (by decide) (hts (.fieldLink RX3 20 "PowderMillModel" "ins" "[I") (by decide +kernel)) (fun _ h9 => h9) rfl dX3_cleared_22 ?_
  refine lv_iload_n hx hb dX3_cleared_25 rfl (lv_at hl 1 rfl) ?_
  refine lv_iconst (v := 0) hx hb dX3_cleared_26 (by decide) ?_
  refine pr_iastR hx hb hK.1 hP hD hS 22 (by omega) (by omega) pz_a22 (fun _ => rfl) ha dX3_cleared_27 (fun h_4 H locs e_h_4 hP hD hS => ?_)
  refine lv_aload_n hx hb dX3_cleared_28 rfl (lv_at hl 0 rfl) ?_
  refine va_get (D := (dC, dI)) (ci := 5) (C := RX3) (T := TX3) (N := 20) hx hb hts inX3_cleared_X3 hown hK.1 hP 18 pz_a18 rfl 5 (by decide) (hts (.fieldLink RX3 23 "PowderMillModel" "sparks" "[I") (by decide +kernel)) (fun _ h9 => h9) rfl dX3_cleared_29 ?_
  refine lv_iload_n hx hb dX3_cleared_32 rfl (lv_at hl 1 rfl) ?_
  refine lv_iconst (v := 0) hx hb dX3_cleared_33 (by decide) ?_
  refine pr_iastR hx hb hK.1 hP hD hS 23 (by omega) (by omega) pz_a23 (fun _ => rfl) ha dX3_cleared_34 (fun h_5 H locs e_h_5 hP hD hS => ?_)
  refine lv_aload_n hx hb dX3_cleared_35 rfl (lv_at hl 0 rfl) ?_
  refine va_get (D := (dC, dI)) (ci := 5) (C := RX3) (T := TX3) (N := 20) hx hb hts inX3_cleared_X3 hown hK.1 hP 18 pz_a18 rfl 6 (by decide) (hts (.fieldLink RX3 26 "PowderMillModel" "caught" "[I") (by decide +kernel)) (fun _ h9 => h9) rfl dX3_cleared_36 ?_
  refine lv_iload_n hx hb dX3_cleared_39 rfl (lv_at hl 1 rfl) ?_
  refine lv_iconst (v := 0) hx hb dX3_cleared_40 (by decide) ?_
  refine pr_iastR hx hb hK.1 hP hD hS 24 (by omega) (by omega) pz_a24 (fun _ => rfl) ha dX3_cleared_41 (fun h_6 H locs e_h_6 hP hD hS => ?_)
  exact pr_vret (h_6) hx hb hr hlocks hP hD hS dX3_cleared_42 (by subst e_h_6 e_h_5 e_h_4 e_h_3 e_h_2 e_h_1; (simp only [f_X3_cleared] <;> rfl))
theorem inX3_build_X3 : ∀ w ∈ u_ws RX3 TX3 20, w ∈ wsX3_build := by decide +kernel
def f_X3_build (h : pz_M) (a : Int32) (b : Int32) (z : Int32) : Int32 × pz_M :=
  let h_1 := pz_st h 18 0 0
  let r_2 := f_X3_isPlace a
  if r_2 = 0 then
    ((-1), h_1)
  else
    let r_3 := f_X3_isIn b 1 100
    if r_3 = 0 then
      ((-1), h_1)
    else
      if (h_1 19 a.toNatClampNeg) ≤ 0 then
        let h_6 := f_X3_cleared h_1 a b z
        (0, h_6)
      else
        let h_9 := f_X3_cleared h_1 a b z
        (1, h_9)
set_option maxHeartbeats 4000000 in
set_option maxRecDepth 100000 in
theorem c_X3_build {l : Launch} {dC : Nat → ClassId} {dI : Nat → Nat → Nat} {cl : Nat → ClassId} {ad : Nat → Nat} {ph : Nat → Option Nat} {o : Nat → Int64} {g h : pz_M} (a : Int32) (b : Int32) (z : Int32) (hz : z = 0 ∨ z = 1) : pz_Mi l dC dI cl yX3_build wsX3_build { frames := 2, cells := 0, slots := 0, locals := 42 } [.ref (ad 18), .int a, .int b, .int z] (pz_wd ad cl ph o g h) (fun u : pz_M => pz_wd ad cl ph o g u) (fun r u => r = (f_X3_build h a b z).1 ∧ u = (f_X3_build h a b z).2) := by
  intro sz
  refine pr_ofW (Qc := pz_Qi dC dI _ _) (cb := cX3_build) (maxL := 5) (ret := (some .int)) (by decide) rfl (Nat.le_of_ble_eq_true rfl) ?_
  intro p e s m below meth c A ls hx hb hml hr hlocks hts hown hK hP hD hS hA hl
  have hl : lv_has ls 5 [(0, .ref (ad 18)), (1, .int a), (2, .int b), (3, .int z)] := hl
  refine lv_aload_n hx hb dX3_build_0 rfl (lv_at hl 0 rfl) ?_
  refine lv_iconst (v := 0) hx hb dX3_build_1 (by decide) ?_
  refine pr_putR (ci := 5) (C := RX3) (T := TX3) (N := 20) (ty := .int) (v := 0) hx hb hts inX3_build_X3 tyX3 tyX3_ok nmX3 hown hK.1 hP hD hS 18 (by omega) (by omega) pz_a18 rfl 0 (by decide) (hts (.fieldLink RX3 57 "PowderMillModel" "thrown" "I") (by decide +kernel)) (fun _ h9 => h9) rfl (by decide +kernel) rfl rfl (Nat.le_of_ble_eq_true rfl) rfl dX3_build_2 (fun h_1 H locs e_h_1 hP hD hS => ?_)
  refine lv_iload_n hx hb dX3_build_5 rfl (lv_at hl 1 rfl) ?_
  refine pr_Si (As := [.int a]) (rest := []) ⟨hx, hb, hml, hown, hts⟩ (c_X3_isPlace a) (va_cwS 1 hts gX3_build_X3_isPlace rfl rfl rfl (by decide +kernel) ⟨Nat.le_of_ble_eq_true rfl, Nat.le_of_ble_eq_true rfl⟩) hK hP hD hS hA rfl hl.1 rfl (Nat.le_of_ble_eq_true rfl) ⟨Nat.le_of_ble_eq_true rfl, Nat.le_of_ble_eq_true rfl⟩ dX3_build_6 (fun r_2 _ H locs e_r_2 hP hD hS => ?_)
  refine lv_if_eq (tgt := 22) hx hb dX3_build_9 (by decide) (fun c_9 => ?_) (fun c_9 => ?_)
  · refine lv_iconst (v := (-1)) hx hb dX3_build_22 (by decide) ?_
    exact pr_iret (h_1) hx hb hr hlocks hP hD hS dX3_build_23 (by subst e_r_2 e_h_1; refine ⟨?_, ?_⟩ <;> (simp only [f_X3_build, if_pos c_9] <;> rfl))
  · refine lv_iload_n hx hb dX3_build_12 rfl (lv_at hl 2 rfl) ?_
    refine lv_iconst (v := 1) hx hb dX3_build_13 (by decide) ?_
    refine lv_bipush (v := 100) hx hb dX3_build_14 (by decide) ?_
    refine pr_Si (As := [.int b, .int 1, .int 100]) (rest := []) ⟨hx, hb, hml, hown, hts⟩ (c_X3_isIn b 1 100) (va_cwS 3 hts gX3_build_X3_isIn rfl rfl rfl (by decide +kernel) ⟨Nat.le_of_ble_eq_true rfl, Nat.le_of_ble_eq_true rfl⟩) hK hP hD hS hA rfl hl.1 rfl (Nat.le_of_ble_eq_true rfl) ⟨Nat.le_of_ble_eq_true rfl, Nat.le_of_ble_eq_true rfl⟩ dX3_build_16 (fun r_3 _ H locs e_r_3 hP hD hS => ?_)
    refine lv_if_ne (tgt := 24) hx hb dX3_build_19 (by decide) (fun c_19 => ?_) (fun c_19 => ?_)
    · have i1 : vp_in a 8 := pz_mplace (by rw [← e_r_2]; exact c_9)
      refine lv_aload_n hx hb dX3_build_24 rfl (lv_at hl 0 rfl) ?_
      refine va_get (D := (dC, dI)) (ci := 5) (C := RX3) (T := TX3) (N := 20) hx hb hts inX3_build_X3 hown hK.1 hP 18 pz_a18 rfl 1 (by decide) (hts (.fieldLink RX3 7 "PowderMillModel" "walls" "[I") (by decide +kernel)) (fun _ h9 => h9) rfl dX3_build_25 ?_
      refine lv_iload_n hx hb dX3_build_28 rfl (lv_at hl 1 rfl) ?_
      refine va_iald hx hb hK.1 hP 19 0 pz_a19 rfl i1 dX3_build_29 ?_
      refine lv_if_le (tgt := 37) hx hb dX3_build_30 (by decide) (fun c_30 => ?_) (fun c_30 => ?_)
      · refine lv_iconst (v := 0) hx hb dX3_build_37 (by decide) ?_
        refine lv_istore (lv' := [(4, .int 0), (0, .ref (ad 18)), (1, .int a), (2, .int b), (3, .int z)]) hx hb dX3_build_38 hl (by decide) rfl (fun ls hl => ?_)
        refine lv_aload_n hx hb dX3_build_40 rfl (lv_at hl 1 rfl) ?_
        refine lv_iload_n hx hb dX3_build_41 rfl (lv_at hl 2 rfl) ?_
        refine lv_iload_n hx hb dX3_build_42 rfl (lv_at hl 3 rfl) ?_
        refine lv_iload_n hx hb dX3_build_43 rfl (lv_at hl 4 rfl) ?_
        refine pr_Vv (As := [.int a, .int b, .int z]) (rest := []) ⟨hx, hb, hml, hown, hts⟩ (c_X3_cleared a b z i1 hz) (cwV 3 hts gX3_build_X3_cleared rfl rfl rfl (by decide +kernel) ⟨Nat.le_of_ble_eq_true rfl, Nat.le_of_ble_eq_true rfl⟩) (va_recv hK.1 hP (ci := 5) rfl pz_a18) hK hP hD hS hA rfl hl.1 rfl (Nat.le_of_ble_eq_true rfl) ⟨Nat.le_of_ble_eq_true rfl, Nat.le_of_ble_eq_true rfl⟩ dX3_build_44 (fun h_6 H locs e_h_6 hP hD hS => ?_)
        refine lv_iload hx hb dX3_build_47 (lv_at hl 0 rfl) ?_
        exact pr_iret (h_6) hx hb hr hlocks hP hD hS dX3_build_49 (by subst e_h_6 e_r_3 e_r_2 e_h_1; refine ⟨?_, ?_⟩ <;> (simp only [f_X3_build, if_neg c_9, if_neg c_19, if_pos c_30] <;> rfl))
      · refine lv_iconst (v := 1) hx hb dX3_build_33 (by decide) ?_
        refine lv_goto (tgt := 38) hx hb dX3_build_34 (by decide) ?_
        refine lv_istore (lv' := [(4, .int 1), (0, .ref (ad 18)), (1, .int a), (2, .int b), (3, .int z)]) hx hb dX3_build_38 hl (by decide) rfl (fun ls hl => ?_)
        refine lv_aload_n hx hb dX3_build_40 rfl (lv_at hl 1 rfl) ?_
        refine lv_iload_n hx hb dX3_build_41 rfl (lv_at hl 2 rfl) ?_
        refine lv_iload_n hx hb dX3_build_42 rfl (lv_at hl 3 rfl) ?_
        refine lv_iload_n hx hb dX3_build_43 rfl (lv_at hl 4 rfl) ?_
        refine pr_Vv (As := [.int a, .int b, .int z]) (rest := []) ⟨hx, hb, hml, hown, hts⟩ (c_X3_cleared a b z i1 hz) (cwV 3 hts gX3_build_X3_cleared rfl rfl rfl (by decide +kernel) ⟨Nat.le_of_ble_eq_true rfl, Nat.le_of_ble_eq_true rfl⟩) (va_recv hK.1 hP (ci := 5) rfl pz_a18) hK hP hD hS hA rfl hl.1 rfl (Nat.le_of_ble_eq_true rfl) ⟨Nat.le_of_ble_eq_true rfl, Nat.le_of_ble_eq_true rfl⟩ dX3_build_44 (fun h_9 H locs e_h_9 hP hD hS => ?_)
        refine lv_iload hx hb dX3_build_47 (lv_at hl 0 rfl) ?_
        exact pr_iret (h_9) hx hb hr hlocks hP hD hS dX3_build_49 (by subst e_h_9 e_r_3 e_r_2 e_h_1; refine ⟨?_, ?_⟩ <;> (simp only [f_X3_build, if_neg c_9, if_neg c_19, if_neg c_30] <;> rfl))
    · refine lv_iconst (v := (-1)) hx hb dX3_build_22 (by decide) ?_
      exact pr_iret (h_1) hx hb hr hlocks hP hD hS dX3_build_23 (by subst e_r_3 e_r_2 e_h_1; refine ⟨?_, ?_⟩ <;> (simp only [f_X3_build, if_neg c_9, if_pos c_19] <;> rfl))
theorem inX3_raze_X3 : ∀ w ∈ u_ws RX3 TX3 20, w ∈ wsX3_raze := by decide +kernel
def f_X3_raze (h : pz_M) (a : Int32) : Int32 × pz_M :=
  let h_1 := pz_st h 18 0 0
  let r_2 := f_X3_isPlace a
  if r_2 = 0 then
    ((-1), h_1)
  else
    if (h_1 19 a.toNatClampNeg) ≤ 0 then
      let h_5 := f_X3_cleared h_1 a 0 0
      (0, h_5)
    else
      let h_8 := f_X3_cleared h_1 a 0 0
      (1, h_8)
set_option maxHeartbeats 4000000 in
set_option maxRecDepth 100000 in
theorem c_X3_raze {l : Launch} {dC : Nat → ClassId} {dI : Nat → Nat → Nat} {cl : Nat → ClassId} {ad : Nat → Nat} {ph : Nat → Option Nat} {o : Nat → Int64} {g h : pz_M} (a : Int32) : pz_Mi l dC dI cl yX3_raze wsX3_raze { frames := 2, cells := 0, slots := 0, locals := 42 } [.ref (ad 18), .int a] (pz_wd ad cl ph o g h) (fun u : pz_M => pz_wd ad cl ph o g u) (fun r u => r = (f_X3_raze h a).1 ∧ u = (f_X3_raze h a).2) := by
  intro sz
  refine pr_ofW (Qc := pz_Qi dC dI _ _) (cb := cX3_raze) (maxL := 3) (ret := (some .int)) (by decide) rfl (Nat.le_of_ble_eq_true rfl) ?_
  intro p e s m below meth c A ls hx hb hml hr hlocks hts hown hK hP hD hS hA hl
  have hl : lv_has ls 3 [(0, .ref (ad 18)), (1, .int a)] := hl
  refine lv_aload_n hx hb dX3_raze_0 rfl (lv_at hl 0 rfl) ?_
  refine lv_iconst (v := 0) hx hb dX3_raze_1 (by decide) ?_
  refine pr_putR (ci := 5) (C := RX3) (T := TX3) (N := 20) (ty := .int) (v := 0) hx hb hts inX3_raze_X3 tyX3 tyX3_ok nmX3 hown hK.1 hP hD hS 18 (by omega) (by omega) pz_a18 rfl 0 (by decide) (hts (.fieldLink RX3 57 "PowderMillModel" "thrown" "I") (by decide +kernel)) (fun _ h9 => h9) rfl (by decide +kernel) rfl rfl (Nat.le_of_ble_eq_true rfl) rfl dX3_raze_2 (fun h_1 H locs e_h_1 hP hD hS => ?_)
  refine lv_iload_n hx hb dX3_raze_5 rfl (lv_at hl 1 rfl) ?_
  refine pr_Si (As := [.int a]) (rest := []) ⟨hx, hb, hml, hown, hts⟩ (c_X3_isPlace a) (va_cwS 1 hts gX3_raze_X3_isPlace rfl rfl rfl (by decide +kernel) ⟨Nat.le_of_ble_eq_true rfl, Nat.le_of_ble_eq_true rfl⟩) hK hP hD hS hA rfl hl.1 rfl (Nat.le_of_ble_eq_true rfl) ⟨Nat.le_of_ble_eq_true rfl, Nat.le_of_ble_eq_true rfl⟩ dX3_raze_6 (fun r_2 _ H locs e_r_2 hP hD hS => ?_)
  refine lv_if_ne (tgt := 14) hx hb dX3_raze_9 (by decide) (fun c_9 => ?_) (fun c_9 => ?_)
  · have i1 : vp_in a 8 := pz_mplace (by rw [← e_r_2]; exact c_9)
    refine lv_aload_n hx hb dX3_raze_14 rfl (lv_at hl 0 rfl) ?_
    refine va_get (D := (dC, dI)) (ci := 5) (C := RX3) (T := TX3) (N := 20) hx hb hts inX3_raze_X3 hown hK.1 hP 18 pz_a18 rfl 1 (by decide) (hts (.fieldLink RX3 7 "PowderMillModel" "walls" "[I") (by decide +kernel)) (fun _ h9 => h9) rfl dX3_raze_15 ?_
    refine lv_iload_n hx hb dX3_raze_18 rfl (lv_at hl 1 rfl) ?_
    refine va_iald hx hb hK.1 hP 19 0 pz_a19 rfl i1 dX3_raze_19 ?_
    refine lv_if_le (tgt := 27) hx hb dX3_raze_20 (by decide) (fun c_20 => ?_) (fun c_20 => ?_)
    · refine lv_iconst (v := 0) hx hb dX3_raze_27 (by decide) ?_
      refine lv_istore_n (lv' := [(2, .int 0), (0, .ref (ad 18)), (1, .int a)]) hx hb dX3_raze_28 rfl hl (by decide) rfl (fun ls hl => ?_)
      refine lv_aload_n hx hb dX3_raze_29 rfl (lv_at hl 1 rfl) ?_
      refine lv_iload_n hx hb dX3_raze_30 rfl (lv_at hl 2 rfl) ?_
      refine lv_iconst (v := 0) hx hb dX3_raze_31 (by decide) ?_
      refine lv_iconst (v := 0) hx hb dX3_raze_32 (by decide) ?_
      refine pr_Vv (As := [.int a, .int 0, .int 0]) (rest := []) ⟨hx, hb, hml, hown, hts⟩ (c_X3_cleared a 0 0 i1 (Or.inl rfl)) (cwV 3 hts gX3_raze_X3_cleared rfl rfl rfl (by decide +kernel) ⟨Nat.le_of_ble_eq_true rfl, Nat.le_of_ble_eq_true rfl⟩) (va_recv hK.1 hP (ci := 5) rfl pz_a18) hK hP hD hS hA rfl hl.1 rfl (Nat.le_of_ble_eq_true rfl) ⟨Nat.le_of_ble_eq_true rfl, Nat.le_of_ble_eq_true rfl⟩ dX3_raze_33 (fun h_5 H locs e_h_5 hP hD hS => ?_)
      refine lv_iload_n hx hb dX3_raze_36 rfl (lv_at hl 0 rfl) ?_
      exact pr_iret (h_5) hx hb hr hlocks hP hD hS dX3_raze_37 (by subst e_h_5 e_r_2 e_h_1; refine ⟨?_, ?_⟩ <;> (simp only [f_X3_raze, if_neg c_9, if_pos c_20] <;> rfl))
    · refine lv_iconst (v := 1) hx hb dX3_raze_23 (by decide) ?_
      refine lv_goto (tgt := 28) hx hb dX3_raze_24 (by decide) ?_
      refine lv_istore_n (lv' := [(2, .int 1), (0, .ref (ad 18)), (1, .int a)]) hx hb dX3_raze_28 rfl hl (by decide) rfl (fun ls hl => ?_)
      refine lv_aload_n hx hb dX3_raze_29 rfl (lv_at hl 1 rfl) ?_
      refine lv_iload_n hx hb dX3_raze_30 rfl (lv_at hl 2 rfl) ?_
      refine lv_iconst (v := 0) hx hb dX3_raze_31 (by decide) ?_
      refine lv_iconst (v := 0) hx hb dX3_raze_32 (by decide) ?_
      refine pr_Vv (As := [.int a, .int 0, .int 0]) (rest := []) ⟨hx, hb, hml, hown, hts⟩ (c_X3_cleared a 0 0 i1 (Or.inl rfl)) (cwV 3 hts gX3_raze_X3_cleared rfl rfl rfl (by decide +kernel) ⟨Nat.le_of_ble_eq_true rfl, Nat.le_of_ble_eq_true rfl⟩) (va_recv hK.1 hP (ci := 5) rfl pz_a18) hK hP hD hS hA rfl hl.1 rfl (Nat.le_of_ble_eq_true rfl) ⟨Nat.le_of_ble_eq_true rfl, Nat.le_of_ble_eq_true rfl⟩ dX3_raze_33 (fun h_8 H locs e_h_8 hP hD hS => ?_)
      refine lv_iload_n hx hb dX3_raze_36 rfl (lv_at hl 0 rfl) ?_
      exact pr_iret (h_8) hx hb hr hlocks hP hD hS dX3_raze_37 (by subst e_h_8 e_r_2 e_h_1; refine ⟨?_, ?_⟩ <;> (simp only [f_X3_raze, if_neg c_9, if_neg c_20] <;> rfl))
  · refine lv_iconst (v := (-1)) hx hb dX3_raze_12 (by decide) ?_
    exact pr_iret (h_1) hx hb hr hlocks hP hD hS dX3_raze_13 (by subst e_r_2 e_h_1; refine ⟨?_, ?_⟩ <;> (simp only [f_X3_raze, if_pos c_9] <;> rfl))
theorem inX3_step_X3 : ∀ w ∈ u_ws RX3 TX3 20, w ∈ wsX3_step := by decide +kernel
def f_X3_step (h : pz_M) (a : Int32) (b : Int32) : Int32 × pz_M :=
  let h_1 := pz_st h 18 0 0
  let r_2 := f_X3_isIn a 0 8
  if r_2 = 0 then
    ((-1), h_1)
  else
    if (h_1 18 8) = 30 then
      ((-2), h_1)
    else
      let h_3 := pz_st h_1 26 (h_1 18 8).toNatClampNeg a
      let h_4 := pz_st h_3 27 (h_3 18 8).toNatClampNeg b
      let h_5 := pz_st h_4 18 8 ((h_4 18 8) + 1)
      (h_5 18 8, h_5)
set_option maxHeartbeats 4000000 in
set_option maxRecDepth 100000 in
theorem c_X3_step {l : Launch} {dC : Nat → ClassId} {dI : Nat → Nat → Nat} {cl : Nat → ClassId} {ad : Nat → Nat} {ph : Nat → Option Nat} {o : Nat → Int64} {g h : pz_M} (a : Int32) (b : Int32) (hm : ∃ n : Nat, n ≤ 30 ∧ h 18 8 = nI n) : pz_Mi l dC dI cl yX3_step wsX3_step { frames := 1, cells := 0, slots := 0, locals := 22 } [.ref (ad 18), .int a, .int b] (pz_wd ad cl ph o g h) (fun u : pz_M => pz_wd ad cl ph o g u) (fun r u => r = (f_X3_step h a b).1 ∧ u = (f_X3_step h a b).2) := by
  intro sz
  refine pr_ofW (Qc := pz_Qi dC dI _ _) (cb := cX3_step) (maxL := 3) (ret := (some .int)) (by decide) rfl (Nat.le_of_ble_eq_true rfl) ?_
  intro p e s m below meth c A ls hx hb hml hr hlocks hts hown hK hP hD hS hA hl
  have hl : lv_has ls 3 [(0, .ref (ad 18)), (1, .int a), (2, .int b)] := hl
  refine lv_aload_n hx hb dX3_step_0 rfl (lv_at hl 0 rfl) ?_
  refine lv_iconst (v := 0) hx hb dX3_step_1 (by decide) ?_
  refine pr_putR (ci := 5) (C := RX3) (T := TX3) (N := 20) (ty := .int) (v := 0) hx hb hts inX3_step_X3 tyX3 tyX3_ok nmX3 hown hK.1 hP hD hS 18 (by omega) (by omega) pz_a18 rfl 0 (by decide) (hts (.fieldLink RX3 57 "PowderMillModel" "thrown" "I") (by decide +kernel)) (fun _ h9 => h9) rfl (by decide +kernel) rfl rfl (Nat.le_of_ble_eq_true rfl) rfl dX3_step_2 (fun h_1 H locs e_h_1 hP hD hS => ?_)
  refine lv_iload_n hx hb dX3_step_5 rfl (lv_at hl 1 rfl) ?_
  refine lv_iconst (v := 0) hx hb dX3_step_6 (by decide) ?_
  refine lv_bipush (v := 8) hx hb dX3_step_7 (by decide) ?_
  refine pr_Si (As := [.int a, .int 0, .int 8]) (rest := []) ⟨hx, hb, hml, hown, hts⟩ (c_X3_isIn a 0 8) (va_cwS 3 hts gX3_step_X3_isIn rfl rfl rfl (by decide +kernel) ⟨Nat.le_of_ble_eq_true rfl, Nat.le_of_ble_eq_true rfl⟩) hK hP hD hS hA rfl hl.1 rfl (Nat.le_of_ble_eq_true rfl) ⟨Nat.le_of_ble_eq_true rfl, Nat.le_of_ble_eq_true rfl⟩ dX3_step_9 (fun r_2 _ H locs e_r_2 hP hD hS => ?_)
  refine lv_if_ne (tgt := 17) hx hb dX3_step_12 (by decide) (fun c_12 => ?_) (fun c_12 => ?_)
  · refine lv_aload_n hx hb dX3_step_17 rfl (lv_at hl 0 rfl) ?_
    refine va_get (D := (dC, dI)) (ci := 5) (C := RX3) (T := TX3) (N := 20) hx hb hts inX3_step_X3 hown hK.1 hP 18 pz_a18 rfl 8 (by decide) (hts (.fieldLink RX3 54 "PowderMillModel" "many" "I") (by decide +kernel)) (fun _ h9 => h9) rfl dX3_step_18 ?_
    refine lv_bipush (v := 30) hx hb dX3_step_21 (by decide) ?_
    refine lv_icmp_ne (tgt := 29) hx hb dX3_step_23 (by decide) (fun c_23 => ?_) (fun c_23 => ?_)
    · have i1 : vp_in (h_1 18 8) 30 := pz_many (by subst e_h_1; rw [pz_t (by decide)]; exact hm) c_23
      refine lv_aload_n hx hb dX3_step_29 rfl (lv_at hl 0 rfl) ?_
      refine va_get (D := (dC, dI)) (ci := 5) (C := RX3) (T := TX3) (N := 20) hx hb hts inX3_step_X3 hown hK.1 hP 18 pz_a18 rfl 9 (by decide) (hts (.fieldLink RX3 32 "PowderMillModel" "acts" "[I") (by decide +kernel)) (fun _ h9 => h9) rfl dX3_step_30 ?_
      refine lv_aload_n hx hb dX3_step_33 rfl (lv_at hl 0 rfl) ?_
      refine va_get (D := (dC, dI)) (ci := 5) (C := RX3) (T := TX3) (N := 20) hx hb hts inX3_step_X3 hown hK.1 hP 18 pz_a18 rfl 8 (by decide) (hts (.fieldLink RX3 54 "PowderMillModel" "many" "I") (by decide +kernel)) (fun _ h9 => h9) rfl dX3_step_34 ?_
      refine lv_iload_n hx hb dX3_step_37 rfl (lv_at hl 1 rfl) ?_
      refine pr_iastR hx hb hK.1 hP hD hS 26 (by omega) (by omega) pz_a26 (fun _ => rfl) i1 dX3_step_38 (fun h_3 H locs e_h_3 hP hD hS => ?_)
      refine lv_aload_n hx hb dX3_step_39 rfl (lv_at hl 0 rfl) ?_
      refine va_get (D := (dC, dI)) (ci := 5) (C := RX3) (T := TX3) (N := 20) hx hb hts inX3_step_X3 hown hK.1 hP 18 pz_a18 rfl 10 (by decide) (hts (.fieldLink RX3 35 "PowderMillModel" "numbers" "[I") (by decide +kernel)) (fun _ h9 => h9) rfl dX3_step_40 ?_
      refine lv_aload_n hx hb dX3_step_43 rfl (lv_at hl 0 rfl) ?_
      refine va_get (D := (dC, dI)) (ci := 5) (C := RX3) (T := TX3) (N := 20) hx hb hts inX3_step_X3 hown hK.1 hP 18 pz_a18 rfl 8 (by decide) (hts (.fieldLink RX3 54 "PowderMillModel" "many" "I") (by decide +kernel)) (fun _ h9 => h9) rfl dX3_step_44 ?_
      refine lv_iload_n hx hb dX3_step_47 rfl (lv_at hl 2 rfl) ?_
      refine pr_iastR hx hb hK.1 hP hD hS 27 (by omega) (by omega) pz_a27 (fun _ => rfl) (by subst e_h_3; rw [pz_t2 (by decide)]; exact i1) dX3_step_48 (fun h_4 H locs e_h_4 hP hD hS => ?_)
      refine lv_aload_n hx hb dX3_step_49 rfl (lv_at hl 0 rfl) ?_
      refine lv_dup hx hb dX3_step_50 rfl ?_
      refine va_get (D := (dC, dI)) (ci := 5) (C := RX3) (T := TX3) (N := 20) hx hb hts inX3_step_X3 hown hK.1 hP 18 pz_a18 rfl 8 (by decide) (hts (.fieldLink RX3 54 "PowderMillModel" "many" "I") (by decide +kernel)) (fun _ h9 => h9) rfl dX3_step_51 ?_
      refine lv_iconst (v := 1) hx hb dX3_step_54 (by decide) ?_
      refine lv_iadd hx hb dX3_step_55 ?_
      refine pr_putR (ci := 5) (C := RX3) (T := TX3) (N := 20) (ty := .int) (v := ((h_4 18 8) + 1)) hx hb hts inX3_step_X3 tyX3 tyX3_ok nmX3 hown hK.1 hP hD hS 18 (by omega) (by omega) pz_a18 rfl 8 (by decide) (hts (.fieldLink RX3 54 "PowderMillModel" "many" "I") (by decide +kernel)) (fun _ h9 => h9) rfl (by decide +kernel) rfl rfl (Nat.le_of_ble_eq_true rfl) rfl dX3_step_56 (fun h_5 H locs e_h_5 hP hD hS => ?_)
      refine lv_aload_n hx hb dX3_step_59 rfl (lv_at hl 0 rfl) ?_
      refine va_get (D := (dC, dI)) (ci := 5) (C := RX3) (T := TX3) (N := 20) hx hb hts inX3_step_X3 hown hK.1 hP 18 pz_a18 rfl 8 (by decide) (hts (.fieldLink RX3 54 "PowderMillModel" "many" "I") (by decide +kernel)) (fun _ h9 => h9) rfl dX3_step_60 ?_
      exact pr_iret (h_5) hx hb hr hlocks hP hD hS dX3_step_63 (by subst e_h_5 e_h_4 e_h_3 e_r_2 e_h_1; refine ⟨?_, ?_⟩ <;> (simp only [f_X3_step, if_neg c_12, if_neg c_23] <;> rfl))
    · refine lv_bipush (v := (-2)) hx hb dX3_step_26 (by decide) ?_
      exact pr_iret (h_1) hx hb hr hlocks hP hD hS dX3_step_28 (by subst e_r_2 e_h_1; refine ⟨?_, ?_⟩ <;> (simp only [f_X3_step, if_neg c_12, if_pos c_23] <;> rfl))
  · refine lv_iconst (v := (-1)) hx hb dX3_step_15 (by decide) ?_
    exact pr_iret (h_1) hx hb hr hlocks hP hD hS dX3_step_16 (by subst e_r_2 e_h_1; refine ⟨?_, ?_⟩ <;> (simp only [f_X3_step, if_pos c_12] <;> rfl))
theorem inX3_clear_X3 : ∀ w ∈ u_ws RX3 TX3 20, w ∈ wsX3_clear := by decide +kernel
def f_X3_clear (h : pz_M) : Int32 × pz_M :=
  let h_1 := pz_st h 18 0 0
  let h_2 := pz_st h_1 18 8 0
  (h_1 18 8, h_2)
set_option maxHeartbeats 4000000 in
set_option maxRecDepth 100000 in
theorem c_X3_clear {l : Launch} {dC : Nat → ClassId} {dI : Nat → Nat → Nat} {cl : Nat → ClassId} {ad : Nat → Nat} {ph : Nat → Option Nat} {o : Nat → Int64} {g h : pz_M} : pz_Mi l dC dI cl yX3_clear wsX3_clear { frames := 0, cells := 0, slots := 0, locals := 0 } [.ref (ad 18)] (pz_wd ad cl ph o g h) (fun u : pz_M => pz_wd ad cl ph o g u) (fun r u => r = (f_X3_clear h).1 ∧ u = (f_X3_clear h).2) := by
  intro sz
  refine pr_ofW (Qc := pz_Qi dC dI _ _) (cb := cX3_clear) (maxL := 2) (ret := (some .int)) (by decide) rfl (Nat.le_of_ble_eq_true rfl) ?_
  intro p e s m below meth c A ls hx hb hml hr hlocks hts hown hK hP hD hS hA hl
  have hl : lv_has ls 2 [(0, .ref (ad 18))] := hl
  refine lv_aload_n hx hb dX3_clear_0 rfl (lv_at hl 0 rfl) ?_
  refine lv_iconst (v := 0) hx hb dX3_clear_1 (by decide) ?_
  refine pr_putR (ci := 5) (C := RX3) (T := TX3) (N := 20) (ty := .int) (v := 0) hx hb hts inX3_clear_X3 tyX3 tyX3_ok nmX3 hown hK.1 hP hD hS 18 (by omega) (by omega) pz_a18 rfl 0 (by decide) (hts (.fieldLink RX3 57 "PowderMillModel" "thrown" "I") (by decide +kernel)) (fun _ h9 => h9) rfl (by decide +kernel) rfl rfl (Nat.le_of_ble_eq_true rfl) rfl dX3_clear_2 (fun h_1 H locs e_h_1 hP hD hS => ?_)
  refine lv_aload_n hx hb dX3_clear_5 rfl (lv_at hl 0 rfl) ?_
  refine va_get (D := (dC, dI)) (ci := 5) (C := RX3) (T := TX3) (N := 20) hx hb hts inX3_clear_X3 hown hK.1 hP 18 pz_a18 rfl 8 (by decide) (hts (.fieldLink RX3 54 "PowderMillModel" "many" "I") (by decide +kernel)) (fun _ h9 => h9) rfl dX3_clear_6 ?_
  refine lv_istore_n (lv' := [(1, .int (h_1 18 8)), (0, .ref (ad 18))]) hx hb dX3_clear_9 rfl hl (by decide) rfl (fun ls hl => ?_)
  refine lv_aload_n hx hb dX3_clear_10 rfl (lv_at hl 1 rfl) ?_
  refine lv_iconst (v := 0) hx hb dX3_clear_11 (by decide) ?_
  refine pr_putR (ci := 5) (C := RX3) (T := TX3) (N := 20) (ty := .int) (v := 0) hx hb hts inX3_clear_X3 tyX3 tyX3_ok nmX3 hown hK.1 hP hD hS 18 (by omega) (by omega) pz_a18 rfl 8 (by decide) (hts (.fieldLink RX3 54 "PowderMillModel" "many" "I") (by decide +kernel)) (fun _ h9 => h9) rfl (by decide +kernel) rfl rfl (Nat.le_of_ble_eq_true rfl) rfl dX3_clear_12 (fun h_2 H locs e_h_2 hP hD hS => ?_)
  refine lv_iload_n hx hb dX3_clear_15 rfl (lv_at hl 0 rfl) ?_
  exact pr_iret (h_2) hx hb hr hlocks hP hD hS dX3_clear_16 (by subst e_h_2 e_h_1; refine ⟨?_, ?_⟩ <;> (simp only [f_X3_clear] <;> rfl))
theorem inX3_alter_X3 : ∀ w ∈ u_ws RX3 TX3 20, w ∈ wsX3_alter := by decide +kernel
def f_X3_alter (h : pz_M) (a : Int32) (b : Int32) (z : Int32) : Int32 × pz_M :=
  let h_1 := pz_st h 18 0 0
  let r_2 := f_X3_isIn a 0 ((h_1 18 8) - 1)
  if r_2 = 0 then
    ((-1), h_1)
  else
    let r_3 := f_X3_isIn b 0 8
    if r_3 = 0 then
      ((-1), h_1)
    else
      let h_4 := pz_st h_1 26 a.toNatClampNeg b
      let h_5 := pz_st h_4 27 a.toNatClampNeg z
      (h_1 26 a.toNatClampNeg, h_5)
set_option maxHeartbeats 4000000 in
set_option maxRecDepth 100000 in
theorem c_X3_alter {l : Launch} {dC : Nat → ClassId} {dI : Nat → Nat → Nat} {cl : Nat → ClassId} {ad : Nat → Nat} {ph : Nat → Option Nat} {o : Nat → Int64} {g h : pz_M} (a : Int32) (b : Int32) (z : Int32) (hm : ∃ n : Nat, n ≤ 30 ∧ h 18 8 = nI n) : pz_Mi l dC dI cl yX3_alter wsX3_alter { frames := 1, cells := 0, slots := 0, locals := 22 } [.ref (ad 18), .int a, .int b, .int z] (pz_wd ad cl ph o g h) (fun u : pz_M => pz_wd ad cl ph o g u) (fun r u => r = (f_X3_alter h a b z).1 ∧ u = (f_X3_alter h a b z).2) := by
  intro sz
  refine pr_ofW (Qc := pz_Qi dC dI _ _) (cb := cX3_alter) (maxL := 5) (ret := (some .int)) (by decide) rfl (Nat.le_of_ble_eq_true rfl) ?_
  intro p e s m below meth c A ls hx hb hml hr hlocks hts hown hK hP hD hS hA hl
  have hl : lv_has ls 5 [(0, .ref (ad 18)), (1, .int a), (2, .int b), (3, .int z)] := hl
  refine lv_aload_n hx hb dX3_alter_0 rfl (lv_at hl 0 rfl) ?_
  refine lv_iconst (v := 0) hx hb dX3_alter_1 (by decide) ?_
  refine pr_putR (ci := 5) (C := RX3) (T := TX3) (N := 20) (ty := .int) (v := 0) hx hb hts inX3_alter_X3 tyX3 tyX3_ok nmX3 hown hK.1 hP hD hS 18 (by omega) (by omega) pz_a18 rfl 0 (by decide) (hts (.fieldLink RX3 57 "PowderMillModel" "thrown" "I") (by decide +kernel)) (fun _ h9 => h9) rfl (by decide +kernel) rfl rfl (Nat.le_of_ble_eq_true rfl) rfl dX3_alter_2 (fun h_1 H locs e_h_1 hP hD hS => ?_)
  refine lv_iload_n hx hb dX3_alter_5 rfl (lv_at hl 1 rfl) ?_
  refine lv_iconst (v := 0) hx hb dX3_alter_6 (by decide) ?_
  refine lv_aload_n hx hb dX3_alter_7 rfl (lv_at hl 0 rfl) ?_
  refine va_get (D := (dC, dI)) (ci := 5) (C := RX3) (T := TX3) (N := 20) hx hb hts inX3_alter_X3 hown hK.1 hP 18 pz_a18 rfl 8 (by decide) (hts (.fieldLink RX3 54 "PowderMillModel" "many" "I") (by decide +kernel)) (fun _ h9 => h9) rfl dX3_alter_8 ?_
  refine lv_iconst (v := 1) hx hb dX3_alter_11 (by decide) ?_
  refine lv_isub hx hb dX3_alter_12 ?_
  refine pr_Si (As := [.int a, .int 0, .int ((h_1 18 8) - 1)]) (rest := []) ⟨hx, hb, hml, hown, hts⟩ (c_X3_isIn a 0 ((h_1 18 8) - 1)) (va_cwS 3 hts gX3_alter_X3_isIn rfl rfl rfl (by decide +kernel) ⟨Nat.le_of_ble_eq_true rfl, Nat.le_of_ble_eq_true rfl⟩) hK hP hD hS hA rfl hl.1 rfl (Nat.le_of_ble_eq_true rfl) ⟨Nat.le_of_ble_eq_true rfl, Nat.le_of_ble_eq_true rfl⟩ dX3_alter_13 (fun r_2 _ H locs e_r_2 hP hD hS => ?_)
  refine lv_if_eq (tgt := 29) hx hb dX3_alter_16 (by decide) (fun c_16 => ?_) (fun c_16 => ?_)
  · refine lv_iconst (v := (-1)) hx hb dX3_alter_29 (by decide) ?_
    exact pr_iret (h_1) hx hb hr hlocks hP hD hS dX3_alter_30 (by subst e_r_2 e_h_1; refine ⟨?_, ?_⟩ <;> (simp only [f_X3_alter, if_pos c_16] <;> rfl))
  · refine lv_iload_n hx hb dX3_alter_19 rfl (lv_at hl 2 rfl) ?_
    refine lv_iconst (v := 0) hx hb dX3_alter_20 (by decide) ?_
    refine lv_bipush (v := 8) hx hb dX3_alter_21 (by decide) ?_
    refine pr_Si (As := [.int b, .int 0, .int 8]) (rest := []) ⟨hx, hb, hml, hown, hts⟩ (c_X3_isIn b 0 8) (va_cwS 3 hts gX3_alter_X3_isIn rfl rfl rfl (by decide +kernel) ⟨Nat.le_of_ble_eq_true rfl, Nat.le_of_ble_eq_true rfl⟩) hK hP hD hS hA rfl hl.1 rfl (Nat.le_of_ble_eq_true rfl) ⟨Nat.le_of_ble_eq_true rfl, Nat.le_of_ble_eq_true rfl⟩ dX3_alter_23 (fun r_3 _ H locs e_r_3 hP hD hS => ?_)
    refine lv_if_ne (tgt := 31) hx hb dX3_alter_26 (by decide) (fun c_26 => ?_) (fun c_26 => ?_)
    · have i1 : vp_in a 30 := pz_malter (b := h_1 18 8) (by subst e_h_1; rw [pz_t (by decide)]; exact hm) (by rw [← e_r_2]; exact c_16)
      refine lv_aload_n hx hb dX3_alter_31 rfl (lv_at hl 0 rfl) ?_
      refine va_get (D := (dC, dI)) (ci := 5) (C := RX3) (T := TX3) (N := 20) hx hb hts inX3_alter_X3 hown hK.1 hP 18 pz_a18 rfl 9 (by decide) (hts (.fieldLink RX3 32 "PowderMillModel" "acts" "[I") (by decide +kernel)) (fun _ h9 => h9) rfl dX3_alter_32 ?_
      refine lv_iload_n hx hb dX3_alter_35 rfl (lv_at hl 1 rfl) ?_
      refine va_iald hx hb hK.1 hP 26 0 pz_a26 rfl i1 dX3_alter_36 ?_
      refine lv_istore (lv' := [(4, .int (h_1 26 a.toNatClampNeg)), (0, .ref (ad 18)), (1, .int a), (2, .int b), (3, .int z)]) hx hb dX3_alter_37 hl (by decide) rfl (fun ls hl => ?_)
      refine lv_aload_n hx hb dX3_alter_39 rfl (lv_at hl 1 rfl) ?_
      refine va_get (D := (dC, dI)) (ci := 5) (C := RX3) (T := TX3) (N := 20) hx hb hts inX3_alter_X3 hown hK.1 hP 18 pz_a18 rfl 9 (by decide) (hts (.fieldLink RX3 32 "PowderMillModel" "acts" "[I") (by decide +kernel)) (fun _ h9 => h9) rfl dX3_alter_40 ?_
      refine lv_iload_n hx hb dX3_alter_43 rfl (lv_at hl 2 rfl) ?_
      refine lv_iload_n hx hb dX3_alter_44 rfl (lv_at hl 3 rfl) ?_
      refine pr_iastR hx hb hK.1 hP hD hS 26 (by omega) (by omega) pz_a26 (fun _ => rfl) i1 dX3_alter_45 (fun h_4 H locs e_h_4 hP hD hS => ?_)
      refine lv_aload_n hx hb dX3_alter_46 rfl (lv_at hl 1 rfl) ?_
      refine va_get (D := (dC, dI)) (ci := 5) (C := RX3) (T := TX3) (N := 20) hx hb hts inX3_alter_X3 hown hK.1 hP 18 pz_a18 rfl 10 (by decide) (hts (.fieldLink RX3 35 "PowderMillModel" "numbers" "[I") (by decide +kernel)) (fun _ h9 => h9) rfl dX3_alter_47 ?_
      refine lv_iload_n hx hb dX3_alter_50 rfl (lv_at hl 2 rfl) ?_
      refine lv_iload_n hx hb dX3_alter_51 rfl (lv_at hl 4 rfl) ?_
      refine pr_iastR hx hb hK.1 hP hD hS 27 (by omega) (by omega) pz_a27 (fun _ => rfl) i1 dX3_alter_52 (fun h_5 H locs e_h_5 hP hD hS => ?_)
      refine lv_iload hx hb dX3_alter_53 (lv_at hl 0 rfl) ?_
      exact pr_iret (h_5) hx hb hr hlocks hP hD hS dX3_alter_55 (by subst e_h_5 e_h_4 e_r_3 e_r_2 e_h_1; refine ⟨?_, ?_⟩ <;> (simp only [f_X3_alter, if_neg c_16, if_neg c_26] <;> rfl))
    · refine lv_iconst (v := (-1)) hx hb dX3_alter_29 (by decide) ?_
      exact pr_iret (h_1) hx hb hr hlocks hP hD hS dX3_alter_30 (by subst e_r_3 e_r_2 e_h_1; refine ⟨?_, ?_⟩ <;> (simp only [f_X3_alter, if_neg c_16, if_pos c_26] <;> rfl))
theorem inX3_comes_X3 : ∀ w ∈ u_ws RX3 TX3 20, w ∈ wsX3_comes := by decide +kernel
def f_X3_comes (h : pz_M) (a : Int32) (b : Int32) : Int32 × pz_M :=
  let h_1 := pz_st h 20 a.toNatClampNeg ((h 20 a.toNatClampNeg) + b)
  if (10 * (h_1 19 a.toNatClampNeg)) < (h_1 20 a.toNatClampNeg) then
    let h_2 := pz_st h_1 20 a.toNatClampNeg 0
    let h_3 := pz_st h_2 23 a.toNatClampNeg ((h_2 23 a.toNatClampNeg) + 1)
    (3, h_3)
  else
    (0, h_1)
set_option maxHeartbeats 4000000 in
set_option maxRecDepth 100000 in
theorem c_X3_comes {l : Launch} {dC : Nat → ClassId} {dI : Nat → Nat → Nat} {cl : Nat → ClassId} {ad : Nat → Nat} {ph : Nat → Option Nat} {o : Nat → Int64} {g h : pz_M} (a : Int32) (b : Int32) (ha : vp_in a 8) : pz_Mi l dC dI cl yX3_comes wsX3_comes { frames := 0, cells := 0, slots := 0, locals := 0 } [.ref (ad 18), .int a, .int b] (pz_wd ad cl ph o g h) (fun u : pz_M => pz_wd ad cl ph o g u) (fun r u => r = (f_X3_comes h a b).1 ∧ u = (f_X3_comes h a b).2) := by
  intro sz
  refine pr_ofW (Qc := pz_Qi dC dI _ _) (cb := cX3_comes) (maxL := 3) (ret := (some .int)) (by decide) rfl (Nat.le_of_ble_eq_true rfl) ?_
  intro p e s m below meth c A ls hx hb hml hr hlocks hts hown hK hP hD hS hA hl
  have hl : lv_has ls 3 [(0, .ref (ad 18)), (1, .int a), (2, .int b)] := hl
  refine lv_aload_n hx hb dX3_comes_0 rfl (lv_at hl 0 rfl) ?_
  refine va_get (D := (dC, dI)) (ci := 5) (C := RX3) (T := TX3) (N := 20) hx hb hts inX3_comes_X3 hown hK.1 hP 18 pz_a18 rfl 2 (by decide) (hts (.fieldLink RX3 13 "PowderMillModel" "powder" "[I") (by decide +kernel)) (fun _ h9 => h9) rfl dX3_comes_1 ?_
  refine lv_iload_n hx hb dX3_comes_4 rfl (lv_at hl 1 rfl) ?_
  refine lv_dup2_11 hx hb dX3_comes_5 rfl rfl ?_
  refine va_iald hx hb hK.1 hP 20 0 pz_a20 rfl ha dX3_comes_6 ?_
  refine lv_iload_n hx hb dX3_comes_7 rfl (lv_at hl 2 rfl) ?_
  refine lv_iadd hx hb dX3_comes_8 ?_
  refine pr_iastR hx hb hK.1 hP hD hS 20 (by omega) (by omega) pz_a20 (fun _ => rfl) ha dX3_comes_9 (fun h_1 H locs e_h_1 hP hD hS => ?_)
  refine lv_aload_n hx hb dX3_comes_10 rfl (lv_at hl 0 rfl) ?_
  refine va_get (D := (dC, dI)) (ci := 5) (C := RX3) (T := TX3) (N := 20) hx hb hts inX3_comes_X3 hown hK.1 hP 18 pz_a18 rfl 2 (by decide) (hts (.fieldLink RX3 13 "PowderMillModel" "powder" "[I") (by decide +kernel)) (fun _ h9 => h9) rfl dX3_comes_11 ?_
  refine lv_iload_n hx hb dX3_comes_14 rfl (lv_at hl 1 rfl) ?_
  refine va_iald hx hb hK.1 hP 20 0 pz_a20 rfl ha dX3_comes_15 ?_
  refine lv_bipush (v := 10) hx hb dX3_comes_16 (by decide) ?_
  refine lv_aload_n hx hb dX3_comes_18 rfl (lv_at hl 0 rfl) ?_
  refine va_get (D := (dC, dI)) (ci := 5) (C := RX3) (T := TX3) (N := 20) hx hb hts inX3_comes_X3 hown hK.1 hP 18 pz_a18 rfl 1 (by decide) (hts (.fieldLink RX3 7 "PowderMillModel" "walls" "[I") (by decide +kernel)) (fun _ h9 => h9) rfl dX3_comes_19 ?_
  refine lv_iload_n hx hb dX3_comes_22 rfl (lv_at hl 1 rfl) ?_
  refine va_iald hx hb hK.1 hP 19 0 pz_a19 rfl ha dX3_comes_23 ?_
  refine lv_imul hx hb dX3_comes_24 ?_
  refine lv_icmp_gt (tgt := 30) hx hb dX3_comes_25 (by decide) (fun c_25 => ?_) (fun c_25 => ?_)
  · refine lv_aload_n hx hb dX3_comes_30 rfl (lv_at hl 0 rfl) ?_
    refine va_get (D := (dC, dI)) (ci := 5) (C := RX3) (T := TX3) (N := 20) hx hb hts inX3_comes_X3 hown hK.1 hP 18 pz_a18 rfl 2 (by decide) (hts (.fieldLink RX3 13 "PowderMillModel" "powder" "[I") (by decide +kernel)) (fun _ h9 => h9) rfl dX3_comes_31 ?_
    refine lv_iload_n hx hb dX3_comes_34 rfl (lv_at hl 1 rfl) ?_
    refine lv_iconst (v := 0) hx hb dX3_comes_35 (by decide) ?_
    refine pr_iastR hx hb hK.1 hP hD hS 20 (by omega) (by omega) pz_a20 (fun _ => rfl) ha dX3_comes_36 (fun h_2 H locs e_h_2 hP hD hS => ?_)
    refine lv_aload_n hx hb dX3_comes_37 rfl (lv_at hl 0 rfl) ?_
    refine va_get (D := (dC, dI)) (ci := 5) (C := RX3) (T := TX3) (N := 20) hx hb hts inX3_comes_X3 hown hK.1 hP 18 pz_a18 rfl 5 (by decide) (hts (.fieldLink RX3 23 "PowderMillModel" "sparks" "[I") (by decide +kernel)) (fun _ h9 => h9) rfl dX3_comes_38 ?_
    refine lv_iload_n hx hb dX3_comes_41 rfl (lv_at hl 1 rfl) ?_
    refine lv_dup2_11 hx hb dX3_comes_42 rfl rfl ?_
    refine va_iald hx hb hK.1 hP 23 0 pz_a23 rfl ha dX3_comes_43 ?_
    refine lv_iconst (v := 1) hx hb dX3_comes_44 (by decide) ?_
    refine lv_iadd hx hb dX3_comes_45 ?_
    refine pr_iastR hx hb hK.1 hP hD hS 23 (by omega) (by omega) pz_a23 (fun _ => rfl) ha dX3_comes_46 (fun h_3 H locs e_h_3 hP hD hS => ?_)
    refine lv_iconst (v := 3) hx hb dX3_comes_47 (by decide) ?_
    exact pr_iret (h_3) hx hb hr hlocks hP hD hS dX3_comes_48 (by subst e_h_3 e_h_2 e_h_1; refine ⟨?_, ?_⟩ <;> (simp only [f_X3_comes, if_pos c_25] <;> rfl))
  · refine lv_iconst (v := 0) hx hb dX3_comes_28 (by decide) ?_
    exact pr_iret (h_1) hx hb hr hlocks hP hD hS dX3_comes_29 (by subst e_h_1; refine ⟨?_, ?_⟩ <;> (simp only [f_X3_comes, if_neg c_25] <;> rfl))
theorem inX3_goIn_X3 : ∀ w ∈ u_ws RX3 TX3 20, w ∈ wsX3_goIn := by decide +kernel
def f_X3_goIn (h : pz_M) (a : Int32) : Int32 × pz_M :=
  if (h 18 11) = 6 then
    (2, h)
  else
    if (h 19 a.toNatClampNeg) = 0 then
      (1, h)
    else
      let h_1 := pz_st h 22 a.toNatClampNeg ((h 22 a.toNatClampNeg) + 1)
      let h_2 := pz_st h_1 28 (h_1 18 11).toNatClampNeg a
      let h_3 := pz_st h_2 29 (h_2 18 11).toNatClampNeg (h_2 18 15)
      let h_4 := pz_st h_3 30 (h_3 18 11).toNatClampNeg 0
      let h_5 := pz_st h_4 18 11 ((h_4 18 11) + 1)
      (0, h_5)
set_option maxHeartbeats 4000000 in
set_option maxRecDepth 100000 in
theorem c_X3_goIn {l : Launch} {dC : Nat → ClassId} {dI : Nat → Nat → Nat} {cl : Nat → ClassId} {ad : Nat → Nat} {ph : Nat → Option Nat} {o : Nat → Int64} {g h : pz_M} (a : Int32) (hv : pz_V h) (ha : vp_in a 8) : pz_Mi l dC dI cl yX3_goIn wsX3_goIn { frames := 0, cells := 0, slots := 0, locals := 0 } [.ref (ad 18), .int a] (pz_wd ad cl ph o g h) (fun u : pz_M => pz_wd ad cl ph o g u) (fun r u => r = (f_X3_goIn h a).1 ∧ u = (f_X3_goIn h a).2) := by
  intro sz
  refine pr_ofW (Qc := pz_Qi dC dI _ _) (cb := cX3_goIn) (maxL := 2) (ret := (some .int)) (by decide) rfl (Nat.le_of_ble_eq_true rfl) ?_
  intro p e s m below meth c A ls hx hb hml hr hlocks hts hown hK hP hD hS hA hl
  have hl : lv_has ls 2 [(0, .ref (ad 18)), (1, .int a)] := hl
  refine lv_aload_n hx hb dX3_goIn_0 rfl (lv_at hl 0 rfl) ?_
  refine va_get (D := (dC, dI)) (ci := 5) (C := RX3) (T := TX3) (N := 20) hx hb hts inX3_goIn_X3 hown hK.1 hP 18 pz_a18 rfl 11 (by decide) (hts (.fieldLink RX3 72 "PowderMillModel" "deep" "I") (by decide +kernel)) (fun _ h9 => h9) rfl dX3_goIn_1 ?_
  refine lv_bipush (v := 6) hx hb dX3_goIn_4 (by decide) ?_
  refine lv_icmp_ne (tgt := 11) hx hb dX3_goIn_6 (by decide) (fun c_6 => ?_) (fun c_6 => ?_)
  · refine lv_aload_n hx hb dX3_goIn_11 rfl (lv_at hl 0 rfl) ?_
    refine va_get (D := (dC, dI)) (ci := 5) (C := RX3) (T := TX3) (N := 20) hx hb hts inX3_goIn_X3 hown hK.1 hP 18 pz_a18 rfl 1 (by decide) (hts (.fieldLink RX3 7 "PowderMillModel" "walls" "[I") (by decide +kernel)) (fun _ h9 => h9) rfl dX3_goIn_12 ?_
    refine lv_iload_n hx hb dX3_goIn_15 rfl (lv_at hl 1 rfl) ?_
    refine va_iald hx hb hK.1 hP 19 0 pz_a19 rfl ha dX3_goIn_16 ?_
    refine lv_if_ne (tgt := 22) hx hb dX3_goIn_17 (by decide) (fun c_17 => ?_) (fun c_17 => ?_)
    · have i1 := pz_V6 hv c_6
      refine lv_aload_n hx hb dX3_goIn_22 rfl (lv_at hl 0 rfl) ?_
      refine va_get (D := (dC, dI)) (ci := 5) (C := RX3) (T := TX3) (N := 20) hx hb hts inX3_goIn_X3 hown hK.1 hP 18 pz_a18 rfl 4 (by decide) (hts (.fieldLink RX3 20 "PowderMillModel" "ins" "[I") (by decide +kernel)) (fun _ h9 => h9) rfl dX3_goIn_23 ?_
      refine lv_iload_n hx hb dX3_goIn_26 rfl (lv_at hl 1 rfl) ?_
      refine lv_dup2_11 hx hb dX3_goIn_27 rfl rfl ?_
      refine va_iald hx hb hK.1 hP 22 0 pz_a22 rfl ha dX3_goIn_28 ?_
      refine lv_iconst (v := 1) hx hb dX3_goIn_29 (by decide) ?_
      refine lv_iadd hx hb dX3_goIn_30 ?_
      refine pr_iastR hx hb hK.1 hP hD hS 22 (by omega) (by omega) pz_a22 (fun _ => rfl) ha dX3_goIn_31 (fun h_1 H locs e_h_1 hP hD hS => ?_)
      refine lv_aload_n hx hb dX3_goIn_32 rfl (lv_at hl 0 rfl) ?_
      refine va_get (D := (dC, dI)) (ci := 5) (C := RX3) (T := TX3) (N := 20) hx hb hts inX3_goIn_X3 hown hK.1 hP 18 pz_a18 rfl 12 (by decide) (hts (.fieldLink RX3 38 "PowderMillModel" "in" "[I") (by decide +kernel)) (fun _ h9 => h9) rfl dX3_goIn_33 ?_
      refine lv_aload_n hx hb dX3_goIn_36 rfl (lv_at hl 0 rfl) ?_
      refine va_get (D := (dC, dI)) (ci := 5) (C := RX3) (T := TX3) (N := 20) hx hb hts inX3_goIn_X3 hown hK.1 hP 18 pz_a18 rfl 11 (by decide) (hts (.fieldLink RX3 72 "PowderMillModel" "deep" "I") (by decide +kernel)) (fun _ h9 => h9) rfl dX3_goIn_37 ?_
      refine lv_iload_n hx hb dX3_goIn_40 rfl (lv_at hl 1 rfl) ?_
      refine pr_iastR hx hb hK.1 hP hD hS 28 (by omega) (by omega) pz_a28 (fun _ => rfl) (by subst e_h_1; rw [pz_t2 (by decide)]; exact i1) dX3_goIn_41 (fun h_2 H locs e_h_2 hP hD hS => ?_)
      refine lv_aload_n hx hb dX3_goIn_42 rfl (lv_at hl 0 rfl) ?_
      refine va_get (D := (dC, dI)) (ci := 5) (C := RX3) (T := TX3) (N := 20) hx hb hts inX3_goIn_X3 hown hK.1 hP 18 pz_a18 rfl 13 (by decide) (hts (.fieldLink RX3 41 "PowderMillModel" "from" "[I") (by decide +kernel)) (fun _ h9 => h9) rfl dX3_goIn_43 ?_
      refine lv_aload_n hx hb dX3_goIn_46 rfl (lv_at hl 0 rfl) ?_
      refine va_get (D := (dC, dI)) (ci := 5) (C := RX3) (T := TX3) (N := 20) hx hb hts inX3_goIn_X3 hown hK.1 hP 18 pz_a18 rfl 11 (by decide) (hts (.fieldLink RX3 72 "PowderMillModel" "deep" "I") (by decide +kernel)) (fun _ h9 => h9) rfl dX3_goIn_47 ?_
      refine lv_aload_n hx hb dX3_goIn_50 rfl (lv_at hl 0 rfl) ?_
      refine va_get (D := (dC, dI)) (ci := 5) (C := RX3) (T := TX3) (N := 20) hx hb hts inX3_goIn_X3 hown hK.1 hP 18 pz_a18 rfl 15 (by decide) (hts (.fieldLink RX3 75 "PowderMillModel" "next" "I") (by decide +kernel)) (fun _ h9 => h9) rfl dX3_goIn_51 ?_
      refine pr_iastR hx hb hK.1 hP hD hS 29 (by omega) (by omega) pz_a29 (fun _ => rfl) (by subst e_h_2 e_h_1; rw [pz_t2 (by decide), pz_t2 (by decide)]; exact i1) dX3_goIn_54 (fun h_3 H locs e_h_3 hP hD hS => ?_)
      refine lv_aload_n hx hb dX3_goIn_55 rfl (lv_at hl 0 rfl) ?_
      refine va_get (D := (dC, dI)) (ci := 5) (C := RX3) (T := TX3) (N := 20) hx hb hts inX3_goIn_X3 hown hK.1 hP 18 pz_a18 rfl 14 (by decide) (hts (.fieldLink RX3 44 "PowderMillModel" "agains" "[I") (by decide +kernel)) (fun _ h9 => h9) rfl dX3_goIn_56 ?_
      refine lv_aload_n hx hb dX3_goIn_59 rfl (lv_at hl 0 rfl) ?_
      refine va_get (D := (dC, dI)) (ci := 5) (C := RX3) (T := TX3) (N := 20) hx hb hts inX3_goIn_X3 hown hK.1 hP 18 pz_a18 rfl 11 (by decide) (hts (.fieldLink RX3 72 "PowderMillModel" "deep" "I") (by decide +kernel)) (fun _ h9 => h9) rfl dX3_goIn_60 ?_
      refine lv_iconst (v := 0) hx hb dX3_goIn_63 (by decide) ?_
      refine pr_iastR hx hb hK.1 hP hD hS 30 (by omega) (by omega) pz_a30 (fun _ => rfl) (by subst e_h_3 e_h_2 e_h_1; rw [pz_t2 (by decide), pz_t2 (by decide), pz_t2 (by decide)]; exact i1) dX3_goIn_64 (fun h_4 H locs e_h_4 hP hD hS => ?_)
      refine lv_aload_n hx hb dX3_goIn_65 rfl (lv_at hl 0 rfl) ?_
      refine lv_dup hx hb dX3_goIn_66 rfl ?_
      refine va_get (D := (dC, dI)) (ci := 5) (C := RX3) (T := TX3) (N := 20) hx hb hts inX3_goIn_X3 hown hK.1 hP 18 pz_a18 rfl 11 (by decide) (hts (.fieldLink RX3 72 "PowderMillModel" "deep" "I") (by decide +kernel)) (fun _ h9 => h9) rfl dX3_goIn_67 ?_
      refine lv_iconst (v := 1) hx hb dX3_goIn_70 (by decide) ?_
      refine lv_iadd hx hb dX3_goIn_71 ?_
      refine pr_putR (ci := 5) (C := RX3) (T := TX3) (N := 20) (ty := .int) (v := ((h_4 18 11) + 1)) hx hb hts inX3_goIn_X3 tyX3 tyX3_ok nmX3 hown hK.1 hP hD hS 18 (by omega) (by omega) pz_a18 rfl 11 (by decide) (hts (.fieldLink RX3 72 "PowderMillModel" "deep" "I") (by decide +kernel)) (fun _ h9 => h9) rfl (by decide +kernel) rfl rfl (Nat.le_of_ble_eq_true rfl) rfl dX3_goIn_72 (fun h_5 H locs e_h_5 hP hD hS => ?_)
      refine lv_iconst (v := 0) hx hb dX3_goIn_75 (by decide) ?_
      exact pr_iret (h_5) hx hb hr hlocks hP hD hS dX3_goIn_76 (by subst e_h_5 e_h_4 e_h_3 e_h_2 e_h_1; refine ⟨?_, ?_⟩ <;> (simp only [f_X3_goIn, if_neg c_6, if_neg c_17] <;> rfl))
    · refine lv_iconst (v := 1) hx hb dX3_goIn_20 (by decide) ?_
      exact pr_iret (h) hx hb hr hlocks hP hD hS dX3_goIn_21 (by refine ⟨?_, ?_⟩ <;> (simp only [f_X3_goIn, if_neg c_6, if_pos c_17] <;> rfl))
  · refine lv_iconst (v := 2) hx hb dX3_goIn_9 (by decide) ?_
    exact pr_iret (h) hx hb hr hlocks hP hD hS dX3_goIn_10 (by refine ⟨?_, ?_⟩ <;> (simp only [f_X3_goIn, if_pos c_6] <;> rfl))
theorem inX3_carry_X3 : ∀ w ∈ u_ws RX3 TX3 20, w ∈ wsX3_carry := by decide +kernel
def f_X3_carry (h : pz_M) (a : Int32) : Int32 × pz_M :=
  if a ≤ (h 20 (h 28 ((h 18 11) - 1).toNatClampNeg).toNatClampNeg) then
    let h_1 := pz_st h 20 (h 28 ((h 18 11) - 1).toNatClampNeg).toNatClampNeg ((h 20 (h 28 ((h 18 11) - 1).toNatClampNeg).toNatClampNeg) - a)
    let r_2 := (f_X3_comes h_1 (h_1 28 ((h_1 18 11) - 2).toNatClampNeg) a).1
    let h_4 := (f_X3_comes h_1 (h_1 28 ((h_1 18 11) - 2).toNatClampNeg) a).2
    (r_2, h_4)
  else
    (4, h)
set_option maxHeartbeats 4000000 in
set_option maxRecDepth 100000 in
theorem c_X3_carry {l : Launch} {dC : Nat → ClassId} {dI : Nat → Nat → Nat} {cl : Nat → ClassId} {ad : Nat → Nat} {ph : Nat → Option Nat} {o : Nat → Int64} {g h : pz_M} (a : Int32) (hv : pz_V h) (h2 : 2 ≤ h 18 11) : pz_Mi l dC dI cl yX3_carry wsX3_carry { frames := 1, cells := 0, slots := 0, locals := 22 } [.ref (ad 18), .int a] (pz_wd ad cl ph o g h) (fun u : pz_M => pz_wd ad cl ph o g u) (fun r u => r = (f_X3_carry h a).1 ∧ u = (f_X3_carry h a).2) := by
  intro sz
  refine pr_ofW (Qc := pz_Qi dC dI _ _) (cb := cX3_carry) (maxL := 3) (ret := (some .int)) (by decide) rfl (Nat.le_of_ble_eq_true rfl) ?_
  intro p e s m below meth c A ls hx hb hml hr hlocks hts hown hK hP hD hS hA hl
  have hl : lv_has ls 3 [(0, .ref (ad 18)), (1, .int a)] := hl
  obtain ⟨i1, i2⟩ := pz_V1 hv (pz_V21 hv h2)
  obtain ⟨i3, i4⟩ := pz_V2 hv h2
  refine lv_aload_n hx hb dX3_carry_0 rfl (lv_at hl 0 rfl) ?_
  refine va_get (D := (dC, dI)) (ci := 5) (C := RX3) (T := TX3) (N := 20) hx hb hts inX3_carry_X3 hown hK.1 hP 18 pz_a18 rfl 12 (by decide) (hts (.fieldLink RX3 38 "PowderMillModel" "in" "[I") (by decide +kernel)) (fun _ h9 => h9) rfl dX3_carry_1 ?_
  refine lv_aload_n hx hb dX3_carry_4 rfl (lv_at hl 0 rfl) ?_
  refine va_get (D := (dC, dI)) (ci := 5) (C := RX3) (T := TX3) (N := 20) hx hb hts inX3_carry_X3 hown hK.1 hP 18 pz_a18 rfl 11 (by decide) (hts (.fieldLink RX3 72 "PowderMillModel" "deep" "I") (by decide +kernel)) (fun _ h9 => h9) rfl dX3_carry_5 ?_
  refine lv_iconst (v := 1) hx hb dX3_carry_8 (by decide) ?_
  refine lv_isub hx hb dX3_carry_9 ?_
  refine va_iald hx hb hK.1 hP 28 0 pz_a28 rfl i1 dX3_carry_10 ?_
  refine lv_istore_n (lv' := [(2, .int (h 28 ((h 18 11) - 1).toNatClampNeg)), (0, .ref (ad 18)), (1, .int a)]) hx hb dX3_carry_11 rfl hl (by decide) rfl (fun ls hl => ?_)
  refine lv_aload_n hx hb dX3_carry_12 rfl (lv_at hl 1 rfl) ?_
  refine va_get (D := (dC, dI)) (ci := 5) (C := RX3) (T := TX3) (N := 20) hx hb hts inX3_carry_X3 hown hK.1 hP 18 pz_a18 rfl 2 (by decide) (hts (.fieldLink RX3 13 "PowderMillModel" "powder" "[I") (by decide +kernel)) (fun _ h9 => h9) rfl dX3_carry_13 ?_
  refine lv_iload_n hx hb dX3_carry_16 rfl (lv_at hl 0 rfl) ?_
  refine va_iald hx hb hK.1 hP 20 0 pz_a20 rfl i2 dX3_carry_17 ?_
  refine lv_iload_n hx hb dX3_carry_18 rfl (lv_at hl 2 rfl) ?_
  refine lv_icmp_ge (tgt := 24) hx hb dX3_carry_19 (by decide) (fun c_19 => ?_) (fun c_19 => ?_)
  · refine lv_aload_n hx hb dX3_carry_24 rfl (lv_at hl 1 rfl) ?_
    refine va_get (D := (dC, dI)) (ci := 5) (C := RX3) (T := TX3) (N := 20) hx hb hts inX3_carry_X3 hown hK.1 hP 18 pz_a18 rfl 2 (by decide) (hts (.fieldLink RX3 13 "PowderMillModel" "powder" "[I") (by decide +kernel)) (fun _ h9 => h9) rfl dX3_carry_25 ?_
    refine lv_iload_n hx hb dX3_carry_28 rfl (lv_at hl 0 rfl) ?_
    refine lv_dup2_11 hx hb dX3_carry_29 rfl rfl ?_
    refine va_iald hx hb hK.1 hP 20 0 pz_a20 rfl i2 dX3_carry_30 ?_
    refine lv_iload_n hx hb dX3_carry_31 rfl (lv_at hl 2 rfl) ?_
    refine lv_isub hx hb dX3_carry_32 ?_
    refine pr_iastR hx hb hK.1 hP hD hS 20 (by omega) (by omega) pz_a20 (fun _ => rfl) i2 dX3_carry_33 (fun h_1 H locs e_h_1 hP hD hS => ?_)
    refine lv_aload_n hx hb dX3_carry_34 rfl (lv_at hl 1 rfl) ?_
    refine lv_aload_n hx hb dX3_carry_35 rfl (lv_at hl 1 rfl) ?_
    refine va_get (D := (dC, dI)) (ci := 5) (C := RX3) (T := TX3) (N := 20) hx hb hts inX3_carry_X3 hown hK.1 hP 18 pz_a18 rfl 12 (by decide) (hts (.fieldLink RX3 38 "PowderMillModel" "in" "[I") (by decide +kernel)) (fun _ h9 => h9) rfl dX3_carry_36 ?_
    refine lv_aload_n hx hb dX3_carry_39 rfl (lv_at hl 1 rfl) ?_
    refine va_get (D := (dC, dI)) (ci := 5) (C := RX3) (T := TX3) (N := 20) hx hb hts inX3_carry_X3 hown hK.1 hP 18 pz_a18 rfl 11 (by decide) (hts (.fieldLink RX3 72 "PowderMillModel" "deep" "I") (by decide +kernel)) (fun _ h9 => h9) rfl dX3_carry_40 ?_
    refine lv_iconst (v := 2) hx hb dX3_carry_43 (by decide) ?_
    refine lv_isub hx hb dX3_carry_44 ?_
    refine va_iald hx hb hK.1 hP 28 0 pz_a28 rfl (by subst e_h_1; rw [pz_t2 (by decide)]; exact i3) dX3_carry_45 ?_
    refine lv_iload_n hx hb dX3_carry_46 rfl (lv_at hl 2 rfl) ?_
    refine pr_Vi (As := [.int (h_1 28 ((h_1 18 11) - 2).toNatClampNeg), .int a]) (rest := []) ⟨hx, hb, hml, hown, hts⟩ (c_X3_comes (h_1 28 ((h_1 18 11) - 2).toNatClampNeg) a (by subst e_h_1; rw [pz_t2 (by decide), pz_t2 (by decide)]; exact i4)) (cwV 2 hts gX3_carry_X3_comes rfl rfl rfl (by decide +kernel) ⟨Nat.le_of_ble_eq_true rfl, Nat.le_of_ble_eq_true rfl⟩) (va_recv hK.1 hP (ci := 5) rfl pz_a18) hK hP hD hS hA rfl hl.1 rfl (Nat.le_of_ble_eq_true rfl) ⟨Nat.le_of_ble_eq_true rfl, Nat.le_of_ble_eq_true rfl⟩ dX3_carry_47 (fun r_2 h_4 H locs e_q_3 hP hD hS => ?_)
    obtain ⟨e_r_2, e_h_4⟩ := e_q_3
    exact pr_iret (h_4) hx hb hr hlocks hP hD hS dX3_carry_50 (by subst e_h_4 e_r_2 e_h_1; refine ⟨?_, ?_⟩ <;> (simp only [f_X3_carry, if_pos c_19] <;> rfl))
  · refine lv_iconst (v := 4) hx hb dX3_carry_22 (by decide) ?_
    exact pr_iret (h) hx hb hr hlocks hP hD hS dX3_carry_23 (by refine ⟨?_, ?_⟩ <;> (simp only [f_X3_carry, if_neg c_19] <;> rfl))
theorem inX3_share_X3 : ∀ w ∈ u_ws RX3 TX3 20, w ∈ wsX3_share := by decide +kernel
def f_X3_share (h : pz_M) (a : Int32) : Int32 × pz_M :=
  if a = 0 then
    (5, h)
  else
    let h_1 := pz_st h 20 (h 28 ((h 18 11) - 1).toNatClampNeg).toNatClampNeg ((h 20 (h 28 ((h 18 11) - 1).toNatClampNeg).toNatClampNeg) / a)
    (0, h_1)
set_option maxHeartbeats 4000000 in
set_option maxRecDepth 100000 in
theorem c_X3_share {l : Launch} {dC : Nat → ClassId} {dI : Nat → Nat → Nat} {cl : Nat → ClassId} {ad : Nat → Nat} {ph : Nat → Option Nat} {o : Nat → Int64} {g h : pz_M} (a : Int32) (hv : pz_V h) (h1 : ¬ h 18 11 = 0) : pz_Mi l dC dI cl yX3_share wsX3_share { frames := 0, cells := 0, slots := 0, locals := 0 } [.ref (ad 18), .int a] (pz_wd ad cl ph o g h) (fun u : pz_M => pz_wd ad cl ph o g u) (fun r u => r = (f_X3_share h a).1 ∧ u = (f_X3_share h a).2) := by
  intro sz
  refine pr_ofW (Qc := pz_Qi dC dI _ _) (cb := cX3_share) (maxL := 2) (ret := (some .int)) (by decide) rfl (Nat.le_of_ble_eq_true rfl) ?_
  intro p e s m below meth c A ls hx hb hml hr hlocks hts hown hK hP hD hS hA hl
  have hl : lv_has ls 2 [(0, .ref (ad 18)), (1, .int a)] := hl
  refine lv_iload_n hx hb dX3_share_0 rfl (lv_at hl 1 rfl) ?_
  refine lv_if_ne (tgt := 6) hx hb dX3_share_1 (by decide) (fun c_1 => ?_) (fun c_1 => ?_)
  · obtain ⟨i1, i2⟩ := pz_V1 hv h1
    refine lv_aload_n hx hb dX3_share_6 rfl (lv_at hl 0 rfl) ?_
    refine va_get (D := (dC, dI)) (ci := 5) (C := RX3) (T := TX3) (N := 20) hx hb hts inX3_share_X3 hown hK.1 hP 18 pz_a18 rfl 2 (by decide) (hts (.fieldLink RX3 13 "PowderMillModel" "powder" "[I") (by decide +kernel)) (fun _ h9 => h9) rfl dX3_share_7 ?_
    refine lv_aload_n hx hb dX3_share_10 rfl (lv_at hl 0 rfl) ?_
    refine va_get (D := (dC, dI)) (ci := 5) (C := RX3) (T := TX3) (N := 20) hx hb hts inX3_share_X3 hown hK.1 hP 18 pz_a18 rfl 12 (by decide) (hts (.fieldLink RX3 38 "PowderMillModel" "in" "[I") (by decide +kernel)) (fun _ h9 => h9) rfl dX3_share_11 ?_
    refine lv_aload_n hx hb dX3_share_14 rfl (lv_at hl 0 rfl) ?_
    refine va_get (D := (dC, dI)) (ci := 5) (C := RX3) (T := TX3) (N := 20) hx hb hts inX3_share_X3 hown hK.1 hP 18 pz_a18 rfl 11 (by decide) (hts (.fieldLink RX3 72 "PowderMillModel" "deep" "I") (by decide +kernel)) (fun _ h9 => h9) rfl dX3_share_15 ?_
    refine lv_iconst (v := 1) hx hb dX3_share_18 (by decide) ?_
    refine lv_isub hx hb dX3_share_19 ?_
    refine va_iald hx hb hK.1 hP 28 0 pz_a28 rfl i1 dX3_share_20 ?_
    refine lv_aload_n hx hb dX3_share_21 rfl (lv_at hl 0 rfl) ?_
    refine va_get (D := (dC, dI)) (ci := 5) (C := RX3) (T := TX3) (N := 20) hx hb hts inX3_share_X3 hown hK.1 hP 18 pz_a18 rfl 2 (by decide) (hts (.fieldLink RX3 13 "PowderMillModel" "powder" "[I") (by decide +kernel)) (fun _ h9 => h9) rfl dX3_share_22 ?_
    refine lv_aload_n hx hb dX3_share_25 rfl (lv_at hl 0 rfl) ?_
    refine va_get (D := (dC, dI)) (ci := 5) (C := RX3) (T := TX3) (N := 20) hx hb hts inX3_share_X3 hown hK.1 hP 18 pz_a18 rfl 12 (by decide) (hts (.fieldLink RX3 38 "PowderMillModel" "in" "[I") (by decide +kernel)) (fun _ h9 => h9) rfl dX3_share_26 ?_
    refine lv_aload_n hx hb dX3_share_29 rfl (lv_at hl 0 rfl) ?_
    refine va_get (D := (dC, dI)) (ci := 5) (C := RX3) (T := TX3) (N := 20) hx hb hts inX3_share_X3 hown hK.1 hP 18 pz_a18 rfl 11 (by decide) (hts (.fieldLink RX3 72 "PowderMillModel" "deep" "I") (by decide +kernel)) (fun _ h9 => h9) rfl dX3_share_30 ?_
    refine lv_iconst (v := 1) hx hb dX3_share_33 (by decide) ?_
    refine lv_isub hx hb dX3_share_34 ?_
    refine va_iald hx hb hK.1 hP 28 0 pz_a28 rfl i1 dX3_share_35 ?_
    refine va_iald hx hb hK.1 hP 20 0 pz_a20 rfl i2 dX3_share_36 ?_
    refine lv_iload_n hx hb dX3_share_37 rfl (lv_at hl 1 rfl) ?_
    refine lv_idiv hx hb dX3_share_38 c_1 ?_
    refine pr_iastR hx hb hK.1 hP hD hS 20 (by omega) (by omega) pz_a20 (fun _ => rfl) i2 dX3_share_39 (fun h_1 H locs e_h_1 hP hD hS => ?_)
    refine lv_iconst (v := 0) hx hb dX3_share_40 (by decide) ?_
    exact pr_iret (h_1) hx hb hr hlocks hP hD hS dX3_share_41 (by subst e_h_1; refine ⟨?_, ?_⟩ <;> (simp only [f_X3_share, if_neg c_1] <;> rfl))
  · refine lv_iconst (v := 5) hx hb dX3_share_4 (by decide) ?_
    exact pr_iret (h) hx hb hr hlocks hP hD hS dX3_share_5 (by refine ⟨?_, ?_⟩ <;> (simp only [f_X3_share, if_pos c_1] <;> rfl))
theorem inX3_write_X3 : ∀ w ∈ u_ws RX3 TX3 20, w ∈ wsX3_write := by decide +kernel
def f_X3_write (h : pz_M) (a : Int32) : Int32 × pz_M :=
  let r_1 := f_X3_isIn a 0 7
  if r_1 = 0 then
    (6, h)
  else
    if (h 18 11) = 0 then
      let h_3 := pz_st h 25 a.toNatClampNeg (-1)
      (0, h_3)
    else
      let h_2 := pz_st h 25 a.toNatClampNeg (h 20 (h 28 ((h 18 11) - 1).toNatClampNeg).toNatClampNeg)
      (0, h_2)
set_option maxHeartbeats 4000000 in
set_option maxRecDepth 100000 in
theorem c_X3_write {l : Launch} {dC : Nat → ClassId} {dI : Nat → Nat → Nat} {cl : Nat → ClassId} {ad : Nat → Nat} {ph : Nat → Option Nat} {o : Nat → Int64} {g h : pz_M} (a : Int32) (hv : pz_V h) : pz_Mi l dC dI cl yX3_write wsX3_write { frames := 1, cells := 0, slots := 0, locals := 22 } [.ref (ad 18), .int a] (pz_wd ad cl ph o g h) (fun u : pz_M => pz_wd ad cl ph o g u) (fun r u => r = (f_X3_write h a).1 ∧ u = (f_X3_write h a).2) := by
  intro sz
  refine pr_ofW (Qc := pz_Qi dC dI _ _) (cb := cX3_write) (maxL := 2) (ret := (some .int)) (by decide) rfl (Nat.le_of_ble_eq_true rfl) ?_
  intro p e s m below meth c A ls hx hb hml hr hlocks hts hown hK hP hD hS hA hl
  have hl : lv_has ls 2 [(0, .ref (ad 18)), (1, .int a)] := hl
  refine lv_iload_n hx hb dX3_write_0 rfl (lv_at hl 1 rfl) ?_
  refine lv_iconst (v := 0) hx hb dX3_write_1 (by decide) ?_
  refine lv_bipush (v := 7) hx hb dX3_write_2 (by decide) ?_
  refine pr_Si (As := [.int a, .int 0, .int 7]) (rest := []) ⟨hx, hb, hml, hown, hts⟩ (c_X3_isIn a 0 7) (va_cwS 3 hts gX3_write_X3_isIn rfl rfl rfl (by decide +kernel) ⟨Nat.le_of_ble_eq_true rfl, Nat.le_of_ble_eq_true rfl⟩) hK hP hD hS hA rfl hl.1 rfl (Nat.le_of_ble_eq_true rfl) ⟨Nat.le_of_ble_eq_true rfl, Nat.le_of_ble_eq_true rfl⟩ dX3_write_4 (fun r_1 _ H locs e_r_1 hP hD hS => ?_)
  refine lv_if_ne (tgt := 13) hx hb dX3_write_7 (by decide) (fun c_7 => ?_) (fun c_7 => ?_)
  · have i0 : vp_in a 8 := pz_in7 (by rw [← e_r_1]; exact c_7)
    refine lv_aload_n hx hb dX3_write_13 rfl (lv_at hl 0 rfl) ?_
    refine va_get (D := (dC, dI)) (ci := 5) (C := RX3) (T := TX3) (N := 20) hx hb hts inX3_write_X3 hown hK.1 hP 18 pz_a18 rfl 7 (by decide) (hts (.fieldLink RX3 29 "PowderMillModel" "ledger" "[I") (by decide +kernel)) (fun _ h9 => h9) rfl dX3_write_14 ?_
    refine lv_iload_n hx hb dX3_write_17 rfl (lv_at hl 1 rfl) ?_
    refine lv_aload_n hx hb dX3_write_18 rfl (lv_at hl 0 rfl) ?_
    refine va_get (D := (dC, dI)) (ci := 5) (C := RX3) (T := TX3) (N := 20) hx hb hts inX3_write_X3 hown hK.1 hP 18 pz_a18 rfl 11 (by decide) (hts (.fieldLink RX3 72 "PowderMillModel" "deep" "I") (by decide +kernel)) (fun _ h9 => h9) rfl dX3_write_19 ?_
    refine lv_if_ne (tgt := 29) hx hb dX3_write_22 (by decide) (fun c_22 => ?_) (fun c_22 => ?_)
    · obtain ⟨i1, i2⟩ := pz_V1 hv c_22
      refine lv_aload_n hx hb dX3_write_29 rfl (lv_at hl 0 rfl) ?_
      refine va_get (D := (dC, dI)) (ci := 5) (C := RX3) (T := TX3) (N := 20) hx hb hts inX3_write_X3 hown hK.1 hP 18 pz_a18 rfl 2 (by decide) (hts (.fieldLink RX3 13 "PowderMillModel" "powder" "[I") (by decide +kernel)) (fun _ h9 => h9) rfl dX3_write_30 ?_
      refine lv_aload_n hx hb dX3_write_33 rfl (lv_at hl 0 rfl) ?_
      refine va_get (D := (dC, dI)) (ci := 5) (C := RX3) (T := TX3) (N := 20) hx hb hts inX3_write_X3 hown hK.1 hP 18 pz_a18 rfl 12 (by decide) (hts (.fieldLink RX3 38 "PowderMillModel" "in" "[I") (by decide +kernel)) (fun _ h9 => h9) rfl dX3_write_34 ?_
      refine lv_aload_n hx hb dX3_write_37 rfl (lv_at hl 0 rfl) ?_
      refine va_get (D := (dC, dI)) (ci := 5) (C := RX3) (T := TX3) (N := 20) hx hb hts inX3_write_X3 hown hK.1 hP 18 pz_a18 rfl 11 (by decide) (hts (.fieldLink RX3 72 "PowderMillModel" "deep" "I") (by decide +kernel)) (fun _ h9 => h9) rfl dX3_write_38 ?_
      refine lv_iconst (v := 1) hx hb dX3_write_41 (by decide) ?_
      refine lv_isub hx hb dX3_write_42 ?_
      refine va_iald hx hb hK.1 hP 28 0 pz_a28 rfl i1 dX3_write_43 ?_
      refine va_iald hx hb hK.1 hP 20 0 pz_a20 rfl i2 dX3_write_44 ?_
      refine pr_iastR hx hb hK.1 hP hD hS 25 (by omega) (by omega) pz_a25 (fun _ => rfl) i0 dX3_write_45 (fun h_2 H locs e_h_2 hP hD hS => ?_)
      refine lv_iconst (v := 0) hx hb dX3_write_46 (by decide) ?_
      exact pr_iret (h_2) hx hb hr hlocks hP hD hS dX3_write_47 (by subst e_h_2 e_r_1; refine ⟨?_, ?_⟩ <;> (simp only [f_X3_write, if_neg c_7, if_neg c_22] <;> rfl))
    · refine lv_iconst (v := (-1)) hx hb dX3_write_25 (by decide) ?_
      refine lv_goto (tgt := 45) hx hb dX3_write_26 (by decide) ?_
      refine pr_iastR hx hb hK.1 hP hD hS 25 (by omega) (by omega) pz_a25 (fun _ => rfl) i0 dX3_write_45 (fun h_3 H locs e_h_3 hP hD hS => ?_)
      refine lv_iconst (v := 0) hx hb dX3_write_46 (by decide) ?_
      exact pr_iret (h_3) hx hb hr hlocks hP hD hS dX3_write_47 (by subst e_h_3 e_r_1; refine ⟨?_, ?_⟩ <;> (simp only [f_X3_write, if_neg c_7, if_pos c_22] <;> rfl))
  · refine lv_bipush (v := 6) hx hb dX3_write_10 (by decide) ?_
    exact pr_iret (h) hx hb hr hlocks hP hD hS dX3_write_12 (by subst e_r_1; refine ⟨?_, ?_⟩ <;> (simp only [f_X3_write, if_pos c_7] <;> rfl))
