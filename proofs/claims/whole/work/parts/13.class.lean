theorem inX2_build_X0 : ∀ w ∈ u_ws RX0 TX0 8, w ∈ wsX2_build := by decide +kernel
theorem inX2_build_X2 : ∀ w ∈ u_ws RX2 TX2 14, w ∈ wsX2_build := by decide +kernel
def f_X2_build (g : pz_M) (ph : Nat → Option Nat) (a : Int32) (b : Int32) (z : Int32) : Int32 × pz_M × (Nat → Option Nat) :=
  let r_1 := f_X2_isPlace a
  if r_1 = 0 then
    ((-1), g, ph)
  else
    if b < 1 then
      ((-1), g, ph)
    else
      if b ≤ 100 then
        if (g (10 + a.toNatClampNeg) 0) = 0 then
          let g_4 := (f_X0_setUp g ph a.toNatClampNeg b z).1
          let ph_5 := (f_X0_setUp g ph a.toNatClampNeg b z).2
          (0, g_4, ph_5)
        else
          let g_8 := (f_X0_setUp g ph a.toNatClampNeg b z).1
          let ph_9 := (f_X0_setUp g ph a.toNatClampNeg b z).2
          (1, g_8, ph_9)
      else
        ((-1), g, ph)
set_option maxHeartbeats 4000000 in
set_option maxRecDepth 100000 in
theorem c_X2_build {l : Launch} {dC : Nat → ClassId} {dI : Nat → Nat → Nat} {cl : Nat → ClassId} {ad : Nat → Nat} {ph : Nat → Option Nat} {o : Nat → Int64} {g h : pz_M} (a : Int32) (b : Int32) (z : Int32) (hz : z = 0 ∨ z = 1) : pz_Mi l dC dI cl yX2_build wsX2_build { frames := 1, cells := 0, slots := 0, locals := 22 } [.ref (ad 0), .int a, .int b, .int z] (pz_wd ad cl ph o g h) (fun u : pz_M × (Nat → Option Nat) => pz_wd ad cl u.2 o u.1 h) (fun r u => r = (f_X2_build g ph a b z).1 ∧ u = (f_X2_build g ph a b z).2) := by
  intro sz
  refine pr_ofW (Qc := pz_Qi dC dI _ _) (cb := cX2_build) (maxL := 5) (ret := (some .int)) (by decide) rfl (Nat.le_of_ble_eq_true rfl) ?_
  intro p e s m below meth c A ls hx hb hml hr hlocks hts hown hK hP hD hS hA hl
  have hl : lv_has ls 5 [(0, .ref (ad 0)), (1, .int a), (2, .int b), (3, .int z)] := hl
  refine lv_iload_n hx hb dX2_build_0 rfl (lv_at hl 1 rfl) ?_
  refine pr_Si (As := [.int a]) (rest := []) ⟨hx, hb, hml, hown, hts⟩ (c_X2_isPlace a) (va_cwS 1 hts gX2_build_X2_isPlace rfl rfl rfl (by decide +kernel) ⟨Nat.le_of_ble_eq_true rfl, Nat.le_of_ble_eq_true rfl⟩) hK hP hD hS hA rfl hl.1 rfl (Nat.le_of_ble_eq_true rfl) ⟨Nat.le_of_ble_eq_true rfl, Nat.le_of_ble_eq_true rfl⟩ dX2_build_1 (fun r_1 _ H locs e_r_1 hP hD hS => ?_)
  refine lv_if_eq (tgt := 18) hx hb dX2_build_4 (by decide) (fun c_4 => ?_) (fun c_4 => ?_)
  · refine lv_iconst (v := (-1)) hx hb dX2_build_18 (by decide) ?_
    exact pr_iret (g, ph) hx hb hr hlocks hP hD hS dX2_build_19 (by subst e_r_1; refine ⟨?_, ?_⟩ <;> (simp only [f_X2_build, if_pos c_4] <;> rfl))
  · refine lv_iload_n hx hb dX2_build_7 rfl (lv_at hl 2 rfl) ?_
    refine lv_iconst (v := 1) hx hb dX2_build_8 (by decide) ?_
    refine lv_icmp_lt (tgt := 18) hx hb dX2_build_9 (by decide) (fun c_9 => ?_) (fun c_9 => ?_)
    · refine lv_iconst (v := (-1)) hx hb dX2_build_18 (by decide) ?_
      exact pr_iret (g, ph) hx hb hr hlocks hP hD hS dX2_build_19 (by subst e_r_1; refine ⟨?_, ?_⟩ <;> (simp only [f_X2_build, if_neg c_4, if_pos c_9] <;> rfl))
    · refine lv_iload_n hx hb dX2_build_12 rfl (lv_at hl 2 rfl) ?_
      refine lv_bipush (v := 100) hx hb dX2_build_13 (by decide) ?_
      refine lv_icmp_le (tgt := 20) hx hb dX2_build_15 (by decide) (fun c_15 => ?_) (fun c_15 => ?_)
      · have i1 : vp_in a 8 := pz_place (by rw [← e_r_1]; exact c_4)
        refine lv_aload_n hx hb dX2_build_20 rfl (lv_at hl 0 rfl) ?_
        refine va_get (D := (dC, dI)) (ci := 4) (C := RX2) (T := TX2) (N := 14) hx hb hts inX2_build_X2 hown hK.1 hP 0 pz_a0 rfl 0 (by decide) (hts (.fieldLink RX2 11 "PowderMill" "places" "[LPowderMill$House;") (by decide +kernel)) (fun _ h9 => h9) rfl dX2_build_21 ?_
        refine lv_iload_n hx hb dX2_build_24 rfl (lv_at hl 1 rfl) ?_
        refine pr_places hx hb hK.1 hP i1 dX2_build_25 ?_
        refine va_getN (D := (dC, dI)) (ci := 2) (C := RX0) (T := TX0) (N := 8) hx hb hts inX2_build_X0 hown hK.1 hP (10 + a.toNatClampNeg) (pz_aH (pz_lt8 i1)) rfl 0 (by decide) (va_Nw.use rfl hK.2.2.1) (fun _ h9 => h9) rfl dX2_build_26 ?_
        refine lv_if_eq (tgt := 36) hx hb dX2_build_29 (by decide) (fun c_29 => ?_) (fun c_29 => ?_)
        · refine lv_iconst (v := 0) hx hb dX2_build_36 (by decide) ?_
          refine lv_istore (lv' := [(4, .int 0), (0, .ref (ad 0)), (1, .int a), (2, .int b), (3, .int z)]) hx hb dX2_build_37 hl (by decide) rfl (fun ls hl => ?_)
          refine lv_aload_n hx hb dX2_build_39 rfl (lv_at hl 1 rfl) ?_
          refine va_get (D := (dC, dI)) (ci := 4) (C := RX2) (T := TX2) (N := 14) hx hb hts inX2_build_X2 hown hK.1 hP 0 pz_a0 rfl 0 (by decide) (hts (.fieldLink RX2 11 "PowderMill" "places" "[LPowderMill$House;") (by decide +kernel)) (fun _ h9 => h9) rfl dX2_build_40 ?_
          refine lv_iload_n hx hb dX2_build_43 rfl (lv_at hl 2 rfl) ?_
          refine pr_places hx hb hK.1 hP i1 dX2_build_44 ?_
          refine lv_iload_n hx hb dX2_build_45 rfl (lv_at hl 3 rfl) ?_
          refine lv_iload_n hx hb dX2_build_46 rfl (lv_at hl 4 rfl) ?_
          refine pr_Vv (As := [.int b, .int z]) (rest := []) ⟨hx, hb, hml, hown, hts⟩ (c_X0_setUp a.toNatClampNeg b z (pz_lt8 i1) hz) (cwV 2 hts gX2_build_X0_setUp rfl rfl rfl (by decide +kernel) ⟨Nat.le_of_ble_eq_true rfl, Nat.le_of_ble_eq_true rfl⟩) (va_recv hK.1 hP (ci := 2) rfl (pz_aH (pz_lt8 i1))) hK hP hD hS hA rfl hl.1 rfl (Nat.le_of_ble_eq_true rfl) ⟨Nat.le_of_ble_eq_true rfl, Nat.le_of_ble_eq_true rfl⟩ dX2_build_47 (fun ⟨g_4, ph_5⟩ H locs e_q_3 hP hD hS => ?_)
          obtain ⟨e_g_4, e_ph_5⟩ : g_4 = (f_X0_setUp g ph a.toNatClampNeg b z).1 ∧ ph_5 = (f_X0_setUp g ph a.toNatClampNeg b z).2 := ⟨congrArg Prod.fst e_q_3, congrArg Prod.snd e_q_3⟩
          clear e_q_3
          dsimp only at hP hD
          refine lv_iload hx hb dX2_build_50 (lv_at hl 0 rfl) ?_
          exact pr_iret (g_4, ph_5) hx hb hr hlocks hP hD hS dX2_build_52 (by subst e_ph_5 e_g_4 e_r_1; refine ⟨?_, ?_⟩ <;> (simp only [f_X2_build, if_neg c_4, if_neg c_9, if_pos c_15, if_pos c_29] <;> rfl))
        · refine lv_iconst (v := 1) hx hb dX2_build_32 (by decide) ?_
          refine lv_goto (tgt := 37) hx hb dX2_build_33 (by decide) ?_
          refine lv_istore (lv' := [(4, .int 1), (0, .ref (ad 0)), (1, .int a), (2, .int b), (3, .int z)]) hx hb dX2_build_37 hl (by decide) rfl (fun ls hl => ?_)
          refine lv_aload_n hx hb dX2_build_39 rfl (lv_at hl 1 rfl) ?_
          refine va_get (D := (dC, dI)) (ci := 4) (C := RX2) (T := TX2) (N := 14) hx hb hts inX2_build_X2 hown hK.1 hP 0 pz_a0 rfl 0 (by decide) (hts (.fieldLink RX2 11 "PowderMill" "places" "[LPowderMill$House;") (by decide +kernel)) (fun _ h9 => h9) rfl dX2_build_40 ?_
          refine lv_iload_n hx hb dX2_build_43 rfl (lv_at hl 2 rfl) ?_
          refine pr_places hx hb hK.1 hP i1 dX2_build_44 ?_
          refine lv_iload_n hx hb dX2_build_45 rfl (lv_at hl 3 rfl) ?_
          refine lv_iload_n hx hb dX2_build_46 rfl (lv_at hl 4 rfl) ?_
          refine pr_Vv (As := [.int b, .int z]) (rest := []) ⟨hx, hb, hml, hown, hts⟩ (c_X0_setUp a.toNatClampNeg b z (pz_lt8 i1) hz) (cwV 2 hts gX2_build_X0_setUp rfl rfl rfl (by decide +kernel) ⟨Nat.le_of_ble_eq_true rfl, Nat.le_of_ble_eq_true rfl⟩) (va_recv hK.1 hP (ci := 2) rfl (pz_aH (pz_lt8 i1))) hK hP hD hS hA rfl hl.1 rfl (Nat.le_of_ble_eq_true rfl) ⟨Nat.le_of_ble_eq_true rfl, Nat.le_of_ble_eq_true rfl⟩ dX2_build_47 (fun ⟨g_8, ph_9⟩ H locs e_q_7 hP hD hS => ?_)
          obtain ⟨e_g_8, e_ph_9⟩ : g_8 = (f_X0_setUp g ph a.toNatClampNeg b z).1 ∧ ph_9 = (f_X0_setUp g ph a.toNatClampNeg b z).2 := ⟨congrArg Prod.fst e_q_7, congrArg Prod.snd e_q_7⟩
          clear e_q_7
          dsimp only at hP hD
          refine lv_iload hx hb dX2_build_50 (lv_at hl 0 rfl) ?_
          exact pr_iret (g_8, ph_9) hx hb hr hlocks hP hD hS dX2_build_52 (by subst e_ph_9 e_g_8 e_r_1; refine ⟨?_, ?_⟩ <;> (simp only [f_X2_build, if_neg c_4, if_neg c_9, if_pos c_15, if_neg c_29] <;> rfl))
      · refine lv_iconst (v := (-1)) hx hb dX2_build_18 (by decide) ?_
        exact pr_iret (g, ph) hx hb hr hlocks hP hD hS dX2_build_19 (by subst e_r_1; refine ⟨?_, ?_⟩ <;> (simp only [f_X2_build, if_neg c_4, if_neg c_9, if_neg c_15] <;> rfl))
theorem inX2_raze_X0 : ∀ w ∈ u_ws RX0 TX0 8, w ∈ wsX2_raze := by decide +kernel
theorem inX2_raze_X2 : ∀ w ∈ u_ws RX2 TX2 14, w ∈ wsX2_raze := by decide +kernel
def f_X2_raze (g : pz_M) (ph : Nat → Option Nat) (a : Int32) : Int32 × pz_M × (Nat → Option Nat) :=
  let r_1 := f_X2_isPlace a
  if r_1 = 0 then
    ((-1), g, ph)
  else
    if (g (10 + a.toNatClampNeg) 0) = 0 then
      let g_2 := pz_st g (10 + a.toNatClampNeg) 0 0
      (0, g_2, ph)
    else
      let g_3 := pz_st g (10 + a.toNatClampNeg) 0 0
      (1, g_3, ph)
set_option maxHeartbeats 4000000 in
set_option maxRecDepth 100000 in
theorem c_X2_raze {l : Launch} {dC : Nat → ClassId} {dI : Nat → Nat → Nat} {cl : Nat → ClassId} {ad : Nat → Nat} {ph : Nat → Option Nat} {o : Nat → Int64} {g h : pz_M} (a : Int32) : pz_Mi l dC dI cl yX2_raze wsX2_raze { frames := 1, cells := 0, slots := 0, locals := 20 } [.ref (ad 0), .int a] (pz_wd ad cl ph o g h) (fun u : pz_M × (Nat → Option Nat) => pz_wd ad cl u.2 o u.1 h) (fun r u => r = (f_X2_raze g ph a).1 ∧ u = (f_X2_raze g ph a).2) := by
  intro sz
  refine pr_ofW (Qc := pz_Qi dC dI _ _) (cb := cX2_raze) (maxL := 3) (ret := (some .int)) (by decide) rfl (Nat.le_of_ble_eq_true rfl) ?_
  intro p e s m below meth c A ls hx hb hml hr hlocks hts hown hK hP hD hS hA hl
  have hl : lv_has ls 3 [(0, .ref (ad 0)), (1, .int a)] := hl
  refine lv_iload_n hx hb dX2_raze_0 rfl (lv_at hl 1 rfl) ?_
  refine pr_Si (As := [.int a]) (rest := []) ⟨hx, hb, hml, hown, hts⟩ (c_X2_isPlace a) (va_cwS 1 hts gX2_raze_X2_isPlace rfl rfl rfl (by decide +kernel) ⟨Nat.le_of_ble_eq_true rfl, Nat.le_of_ble_eq_true rfl⟩) hK hP hD hS hA rfl hl.1 rfl (Nat.le_of_ble_eq_true rfl) ⟨Nat.le_of_ble_eq_true rfl, Nat.le_of_ble_eq_true rfl⟩ dX2_raze_1 (fun r_1 _ H locs e_r_1 hP hD hS => ?_)
  refine lv_if_ne (tgt := 9) hx hb dX2_raze_4 (by decide) (fun c_4 => ?_) (fun c_4 => ?_)
  · have i1 : vp_in a 8 := pz_place (by rw [← e_r_1]; exact c_4)
    refine lv_aload_n hx hb dX2_raze_9 rfl (lv_at hl 0 rfl) ?_
    refine va_get (D := (dC, dI)) (ci := 4) (C := RX2) (T := TX2) (N := 14) hx hb hts inX2_raze_X2 hown hK.1 hP 0 pz_a0 rfl 0 (by decide) (hts (.fieldLink RX2 11 "PowderMill" "places" "[LPowderMill$House;") (by decide +kernel)) (fun _ h9 => h9) rfl dX2_raze_10 ?_
    refine lv_iload_n hx hb dX2_raze_13 rfl (lv_at hl 1 rfl) ?_
    refine pr_places hx hb hK.1 hP i1 dX2_raze_14 ?_
    refine va_getN (D := (dC, dI)) (ci := 2) (C := RX0) (T := TX0) (N := 8) hx hb hts inX2_raze_X0 hown hK.1 hP (10 + a.toNatClampNeg) (pz_aH (pz_lt8 i1)) rfl 0 (by decide) (va_Nw.use rfl hK.2.2.1) (fun _ h9 => h9) rfl dX2_raze_15 ?_
    refine lv_if_eq (tgt := 25) hx hb dX2_raze_18 (by decide) (fun c_18 => ?_) (fun c_18 => ?_)
    · refine lv_iconst (v := 0) hx hb dX2_raze_25 (by decide) ?_
      refine lv_istore_n (lv' := [(2, .int 0), (0, .ref (ad 0)), (1, .int a)]) hx hb dX2_raze_26 rfl hl (by decide) rfl (fun ls hl => ?_)
      refine lv_aload_n hx hb dX2_raze_27 rfl (lv_at hl 1 rfl) ?_
      refine va_get (D := (dC, dI)) (ci := 4) (C := RX2) (T := TX2) (N := 14) hx hb hts inX2_raze_X2 hown hK.1 hP 0 pz_a0 rfl 0 (by decide) (hts (.fieldLink RX2 11 "PowderMill" "places" "[LPowderMill$House;") (by decide +kernel)) (fun _ h9 => h9) rfl dX2_raze_28 ?_
      refine lv_iload_n hx hb dX2_raze_31 rfl (lv_at hl 2 rfl) ?_
      refine pr_places hx hb hK.1 hP i1 dX2_raze_32 ?_
      refine lv_iconst (v := 0) hx hb dX2_raze_33 (by decide) ?_
      refine pr_putN (ci := 2) (C := RX0) (T := TX0) (N := 8) (ty := .boolean) (v := 0) hx hb hts inX2_raze_X0 tyX0 tyX0_ok nmX0 hown hK.1 hP hD hS (10 + a.toNatClampNeg) (by have := (pz_lt8 i1); omega) (pz_aH (pz_lt8 i1)) rfl 0 (by decide) (va_Nw.use rfl hK.2.2.1) (fun _ h9 => h9) rfl (by decide +kernel) rfl rfl (Nat.le_of_ble_eq_true rfl) (by rw [pz_ceH (pz_lt8 i1)]; rfl) dX2_raze_34 (fun g_2 H locs e_g_2 hP hD hS => ?_)
      refine lv_iload_n hx hb dX2_raze_37 rfl (lv_at hl 0 rfl) ?_
      exact pr_iret (g_2, ph) hx hb hr hlocks hP hD hS dX2_raze_38 (by subst e_g_2 e_r_1; refine ⟨?_, ?_⟩ <;> (simp only [f_X2_raze, if_neg c_4, if_pos c_18] <;> rfl))
    · refine lv_iconst (v := 1) hx hb dX2_raze_21 (by decide) ?_
      refine lv_goto (tgt := 26) hx hb dX2_raze_22 (by decide) ?_
      refine lv_istore_n (lv' := [(2, .int 1), (0, .ref (ad 0)), (1, .int a)]) hx hb dX2_raze_26 rfl hl (by decide) rfl (fun ls hl => ?_)
      refine lv_aload_n hx hb dX2_raze_27 rfl (lv_at hl 1 rfl) ?_
      refine va_get (D := (dC, dI)) (ci := 4) (C := RX2) (T := TX2) (N := 14) hx hb hts inX2_raze_X2 hown hK.1 hP 0 pz_a0 rfl 0 (by decide) (hts (.fieldLink RX2 11 "PowderMill" "places" "[LPowderMill$House;") (by decide +kernel)) (fun _ h9 => h9) rfl dX2_raze_28 ?_
      refine lv_iload_n hx hb dX2_raze_31 rfl (lv_at hl 2 rfl) ?_
      refine pr_places hx hb hK.1 hP i1 dX2_raze_32 ?_
      refine lv_iconst (v := 0) hx hb dX2_raze_33 (by decide) ?_
      refine pr_putN (ci := 2) (C := RX0) (T := TX0) (N := 8) (ty := .boolean) (v := 0) hx hb hts inX2_raze_X0 tyX0 tyX0_ok nmX0 hown hK.1 hP hD hS (10 + a.toNatClampNeg) (by have := (pz_lt8 i1); omega) (pz_aH (pz_lt8 i1)) rfl 0 (by decide) (va_Nw.use rfl hK.2.2.1) (fun _ h9 => h9) rfl (by decide +kernel) rfl rfl (Nat.le_of_ble_eq_true rfl) (by rw [pz_ceH (pz_lt8 i1)]; rfl) dX2_raze_34 (fun g_3 H locs e_g_3 hP hD hS => ?_)
      refine lv_iload_n hx hb dX2_raze_37 rfl (lv_at hl 0 rfl) ?_
      exact pr_iret (g_3, ph) hx hb hr hlocks hP hD hS dX2_raze_38 (by subst e_g_3 e_r_1; refine ⟨?_, ?_⟩ <;> (simp only [f_X2_raze, if_neg c_4, if_neg c_18] <;> rfl))
  · refine lv_iconst (v := (-1)) hx hb dX2_raze_7 (by decide) ?_
    exact pr_iret (g, ph) hx hb hr hlocks hP hD hS dX2_raze_8 (by subst e_r_1; refine ⟨?_, ?_⟩ <;> (simp only [f_X2_raze, if_pos c_4] <;> rfl))
theorem inX2_step_X2 : ∀ w ∈ u_ws RX2 TX2 14, w ∈ wsX2_step := by decide +kernel
def f_X2_step (g : pz_M) (ph : Nat → Option Nat) (a : Int32) (b : Int32) : Int32 × pz_M × (Nat → Option Nat) :=
  let r_1 := f_X2_isAct a
  if r_1 = 0 then
    ((-1), g, ph)
  else
    if (g 0 5) < 30 then
      let g_2 := pz_st g 4 (g 0 5).toNatClampNeg a
      let g_3 := pz_st g_2 5 (g_2 0 5).toNatClampNeg b
      let g_4 := pz_st g_3 0 5 ((g_3 0 5) + 1)
      (g_4 0 5, g_4, ph)
    else
      ((-2), g, ph)
set_option maxHeartbeats 4000000 in
set_option maxRecDepth 100000 in
theorem c_X2_step {l : Launch} {dC : Nat → ClassId} {dI : Nat → Nat → Nat} {cl : Nat → ClassId} {ad : Nat → Nat} {ph : Nat → Option Nat} {o : Nat → Int64} {g h : pz_M} (a : Int32) (b : Int32) (h0 : ¬ g 0 5 < 0) : pz_Mi l dC dI cl yX2_step wsX2_step { frames := 1, cells := 0, slots := 0, locals := 20 } [.ref (ad 0), .int a, .int b] (pz_wd ad cl ph o g h) (fun u : pz_M × (Nat → Option Nat) => pz_wd ad cl u.2 o u.1 h) (fun r u => r = (f_X2_step g ph a b).1 ∧ u = (f_X2_step g ph a b).2) := by
  intro sz
  refine pr_ofW (Qc := pz_Qi dC dI _ _) (cb := cX2_step) (maxL := 3) (ret := (some .int)) (by decide) rfl (Nat.le_of_ble_eq_true rfl) ?_
  intro p e s m below meth c A ls hx hb hml hr hlocks hts hown hK hP hD hS hA hl
  have hl : lv_has ls 3 [(0, .ref (ad 0)), (1, .int a), (2, .int b)] := hl
  refine lv_iload_n hx hb dX2_step_0 rfl (lv_at hl 1 rfl) ?_
  refine pr_Si (As := [.int a]) (rest := []) ⟨hx, hb, hml, hown, hts⟩ (c_X2_isAct a) (va_cwS 1 hts gX2_step_X2_isAct rfl rfl rfl (by decide +kernel) ⟨Nat.le_of_ble_eq_true rfl, Nat.le_of_ble_eq_true rfl⟩) hK hP hD hS hA rfl hl.1 rfl (Nat.le_of_ble_eq_true rfl) ⟨Nat.le_of_ble_eq_true rfl, Nat.le_of_ble_eq_true rfl⟩ dX2_step_1 (fun r_1 _ H locs e_r_1 hP hD hS => ?_)
  refine lv_if_ne (tgt := 9) hx hb dX2_step_4 (by decide) (fun c_4 => ?_) (fun c_4 => ?_)
  · refine lv_aload_n hx hb dX2_step_9 rfl (lv_at hl 0 rfl) ?_
    refine va_get (D := (dC, dI)) (ci := 4) (C := RX2) (T := TX2) (N := 14) hx hb hts inX2_step_X2 hown hK.1 hP 0 pz_a0 rfl 5 (by decide) (hts (.fieldLink RX2 32 "PowderMill" "stepCount" "I") (by decide +kernel)) (fun _ h9 => h9) rfl dX2_step_10 ?_
    refine lv_bipush (v := 30) hx hb dX2_step_13 (by decide) ?_
    refine lv_icmp_lt (tgt := 21) hx hb dX2_step_15 (by decide) (fun c_15 => ?_) (fun c_15 => ?_)
    · have i1 : vp_in (g 0 5) 30 := pz_lt_in (by decide) h0 c_15
      refine lv_aload_n hx hb dX2_step_21 rfl (lv_at hl 0 rfl) ?_
      refine va_get (D := (dC, dI)) (ci := 4) (C := RX2) (T := TX2) (N := 14) hx hb hts inX2_step_X2 hown hK.1 hP 0 pz_a0 rfl 3 (by decide) (hts (.fieldLink RX2 26 "PowderMill" "acts" "[I") (by decide +kernel)) (fun _ h9 => h9) rfl dX2_step_22 ?_
      refine lv_aload_n hx hb dX2_step_25 rfl (lv_at hl 0 rfl) ?_
      refine va_get (D := (dC, dI)) (ci := 4) (C := RX2) (T := TX2) (N := 14) hx hb hts inX2_step_X2 hown hK.1 hP 0 pz_a0 rfl 5 (by decide) (hts (.fieldLink RX2 32 "PowderMill" "stepCount" "I") (by decide +kernel)) (fun _ h9 => h9) rfl dX2_step_26 ?_
      refine lv_iload_n hx hb dX2_step_29 rfl (lv_at hl 1 rfl) ?_
      refine pr_iastC hx hb hK.1 hP hD hS 4 (by omega) pz_a4 (fun _ => rfl) i1 dX2_step_30 (fun g_2 H locs e_g_2 hP hD hS => ?_)
      refine lv_aload_n hx hb dX2_step_31 rfl (lv_at hl 0 rfl) ?_
      refine va_get (D := (dC, dI)) (ci := 4) (C := RX2) (T := TX2) (N := 14) hx hb hts inX2_step_X2 hown hK.1 hP 0 pz_a0 rfl 4 (by decide) (hts (.fieldLink RX2 29 "PowderMill" "numbers" "[I") (by decide +kernel)) (fun _ h9 => h9) rfl dX2_step_32 ?_
      refine lv_aload_n hx hb dX2_step_35 rfl (lv_at hl 0 rfl) ?_
      refine va_get (D := (dC, dI)) (ci := 4) (C := RX2) (T := TX2) (N := 14) hx hb hts inX2_step_X2 hown hK.1 hP 0 pz_a0 rfl 5 (by decide) (hts (.fieldLink RX2 32 "PowderMill" "stepCount" "I") (by decide +kernel)) (fun _ h9 => h9) rfl dX2_step_36 ?_
      refine lv_iload_n hx hb dX2_step_39 rfl (lv_at hl 2 rfl) ?_
      refine pr_iastC hx hb hK.1 hP hD hS 5 (by omega) pz_a5 (fun _ => rfl) (by subst e_g_2; rw [pz_st_n (by decide)]; exact i1) dX2_step_40 (fun g_3 H locs e_g_3 hP hD hS => ?_)
      refine lv_aload_n hx hb dX2_step_41 rfl (lv_at hl 0 rfl) ?_
      refine lv_dup hx hb dX2_step_42 rfl ?_
      refine va_get (D := (dC, dI)) (ci := 4) (C := RX2) (T := TX2) (N := 14) hx hb hts inX2_step_X2 hown hK.1 hP 0 pz_a0 rfl 5 (by decide) (hts (.fieldLink RX2 32 "PowderMill" "stepCount" "I") (by decide +kernel)) (fun _ h9 => h9) rfl dX2_step_43 ?_
      refine lv_iconst (v := 1) hx hb dX2_step_46 (by decide) ?_
      refine lv_iadd hx hb dX2_step_47 ?_
      refine pr_putC (ci := 4) (C := RX2) (T := TX2) (N := 14) (ty := .int) (v := ((g_3 0 5) + 1)) hx hb hts inX2_step_X2 tyX2 tyX2_ok nmX2 hown hK.1 hP hD hS 0 (by omega) pz_a0 rfl 5 (by decide) (hts (.fieldLink RX2 32 "PowderMill" "stepCount" "I") (by decide +kernel)) (fun _ h9 => h9) rfl (by decide +kernel) rfl rfl (Nat.le_of_ble_eq_true rfl) rfl dX2_step_48 (fun g_4 H locs e_g_4 hP hD hS => ?_)
      refine lv_aload_n hx hb dX2_step_51 rfl (lv_at hl 0 rfl) ?_
      refine va_get (D := (dC, dI)) (ci := 4) (C := RX2) (T := TX2) (N := 14) hx hb hts inX2_step_X2 hown hK.1 hP 0 pz_a0 rfl 5 (by decide) (hts (.fieldLink RX2 32 "PowderMill" "stepCount" "I") (by decide +kernel)) (fun _ h9 => h9) rfl dX2_step_52 ?_
      exact pr_iret (g_4, ph) hx hb hr hlocks hP hD hS dX2_step_55 (by subst e_g_4 e_g_3 e_g_2 e_r_1; refine ⟨?_, ?_⟩ <;> (simp only [f_X2_step, if_neg c_4, if_pos c_15] <;> rfl))
    · refine lv_bipush (v := (-2)) hx hb dX2_step_18 (by decide) ?_
      exact pr_iret (g, ph) hx hb hr hlocks hP hD hS dX2_step_20 (by subst e_r_1; refine ⟨?_, ?_⟩ <;> (simp only [f_X2_step, if_neg c_4, if_neg c_15] <;> rfl))
  · refine lv_iconst (v := (-1)) hx hb dX2_step_7 (by decide) ?_
    exact pr_iret (g, ph) hx hb hr hlocks hP hD hS dX2_step_8 (by subst e_r_1; refine ⟨?_, ?_⟩ <;> (simp only [f_X2_step, if_pos c_4] <;> rfl))
theorem inX2_clear_X2 : ∀ w ∈ u_ws RX2 TX2 14, w ∈ wsX2_clear := by decide +kernel
def f_X2_clear (g : pz_M) (ph : Nat → Option Nat) : Int32 × pz_M × (Nat → Option Nat) :=
  let g_1 := pz_st g 0 5 0
  (g 0 5, g_1, ph)
set_option maxHeartbeats 4000000 in
set_option maxRecDepth 100000 in
theorem c_X2_clear {l : Launch} {dC : Nat → ClassId} {dI : Nat → Nat → Nat} {cl : Nat → ClassId} {ad : Nat → Nat} {ph : Nat → Option Nat} {o : Nat → Int64} {g h : pz_M} : pz_Mi l dC dI cl yX2_clear wsX2_clear { frames := 0, cells := 0, slots := 0, locals := 0 } [.ref (ad 0)] (pz_wd ad cl ph o g h) (fun u : pz_M × (Nat → Option Nat) => pz_wd ad cl u.2 o u.1 h) (fun r u => r = (f_X2_clear g ph).1 ∧ u = (f_X2_clear g ph).2) := by
  intro sz
  refine pr_ofW (Qc := pz_Qi dC dI _ _) (cb := cX2_clear) (maxL := 2) (ret := (some .int)) (by decide) rfl (Nat.le_of_ble_eq_true rfl) ?_
  intro p e s m below meth c A ls hx hb hml hr hlocks hts hown hK hP hD hS hA hl
  have hl : lv_has ls 2 [(0, .ref (ad 0))] := hl
  refine lv_aload_n hx hb dX2_clear_0 rfl (lv_at hl 0 rfl) ?_
  refine va_get (D := (dC, dI)) (ci := 4) (C := RX2) (T := TX2) (N := 14) hx hb hts inX2_clear_X2 hown hK.1 hP 0 pz_a0 rfl 5 (by decide) (hts (.fieldLink RX2 32 "PowderMill" "stepCount" "I") (by decide +kernel)) (fun _ h9 => h9) rfl dX2_clear_1 ?_
  refine lv_istore_n (lv' := [(1, .int (g 0 5)), (0, .ref (ad 0))]) hx hb dX2_clear_4 rfl hl (by decide) rfl (fun ls hl => ?_)
  refine lv_aload_n hx hb dX2_clear_5 rfl (lv_at hl 1 rfl) ?_
  refine lv_iconst (v := 0) hx hb dX2_clear_6 (by decide) ?_
  refine pr_putC (ci := 4) (C := RX2) (T := TX2) (N := 14) (ty := .int) (v := 0) hx hb hts inX2_clear_X2 tyX2 tyX2_ok nmX2 hown hK.1 hP hD hS 0 (by omega) pz_a0 rfl 5 (by decide) (hts (.fieldLink RX2 32 "PowderMill" "stepCount" "I") (by decide +kernel)) (fun _ h9 => h9) rfl (by decide +kernel) rfl rfl (Nat.le_of_ble_eq_true rfl) rfl dX2_clear_7 (fun g_1 H locs e_g_1 hP hD hS => ?_)
  refine lv_iload_n hx hb dX2_clear_10 rfl (lv_at hl 0 rfl) ?_
  exact pr_iret (g_1, ph) hx hb hr hlocks hP hD hS dX2_clear_11 (by subst e_g_1; refine ⟨?_, ?_⟩ <;> (simp only [f_X2_clear] <;> rfl))
theorem inX2_alter_X2 : ∀ w ∈ u_ws RX2 TX2 14, w ∈ wsX2_alter := by decide +kernel
def f_X2_alter (g : pz_M) (ph : Nat → Option Nat) (a : Int32) (b : Int32) (z : Int32) : Int32 × pz_M × (Nat → Option Nat) :=
  if a < 0 then
    ((-1), g, ph)
  else
    if (g 0 5) ≤ a then
      ((-1), g, ph)
    else
      let r_1 := f_X2_isAct b
      if r_1 = 0 then
        ((-1), g, ph)
      else
        let g_2 := pz_st g 4 a.toNatClampNeg b
        let g_3 := pz_st g_2 5 a.toNatClampNeg z
        (g 4 a.toNatClampNeg, g_3, ph)
set_option maxHeartbeats 4000000 in
set_option maxRecDepth 100000 in
theorem c_X2_alter {l : Launch} {dC : Nat → ClassId} {dI : Nat → Nat → Nat} {cl : Nat → ClassId} {ad : Nat → Nat} {ph : Nat → Option Nat} {o : Nat → Int64} {g h : pz_M} (a : Int32) (b : Int32) (z : Int32) (h30 : g 0 5 ≤ 30) : pz_Mi l dC dI cl yX2_alter wsX2_alter { frames := 1, cells := 0, slots := 0, locals := 20 } [.ref (ad 0), .int a, .int b, .int z] (pz_wd ad cl ph o g h) (fun u : pz_M × (Nat → Option Nat) => pz_wd ad cl u.2 o u.1 h) (fun r u => r = (f_X2_alter g ph a b z).1 ∧ u = (f_X2_alter g ph a b z).2) := by
  intro sz
  refine pr_ofW (Qc := pz_Qi dC dI _ _) (cb := cX2_alter) (maxL := 5) (ret := (some .int)) (by decide) rfl (Nat.le_of_ble_eq_true rfl) ?_
  intro p e s m below meth c A ls hx hb hml hr hlocks hts hown hK hP hD hS hA hl
  have hl : lv_has ls 5 [(0, .ref (ad 0)), (1, .int a), (2, .int b), (3, .int z)] := hl
  refine lv_iload_n hx hb dX2_alter_0 rfl (lv_at hl 1 rfl) ?_
  refine lv_if_lt (tgt := 19) hx hb dX2_alter_1 (by decide) (fun c_1 => ?_) (fun c_1 => ?_)
  · refine lv_iconst (v := (-1)) hx hb dX2_alter_19 (by decide) ?_
    exact pr_iret (g, ph) hx hb hr hlocks hP hD hS dX2_alter_20 (by refine ⟨?_, ?_⟩ <;> (simp only [f_X2_alter, if_pos c_1] <;> rfl))
  · refine lv_iload_n hx hb dX2_alter_4 rfl (lv_at hl 1 rfl) ?_
    refine lv_aload_n hx hb dX2_alter_5 rfl (lv_at hl 0 rfl) ?_
    refine va_get (D := (dC, dI)) (ci := 4) (C := RX2) (T := TX2) (N := 14) hx hb hts inX2_alter_X2 hown hK.1 hP 0 pz_a0 rfl 5 (by decide) (hts (.fieldLink RX2 32 "PowderMill" "stepCount" "I") (by decide +kernel)) (fun _ h9 => h9) rfl dX2_alter_6 ?_
    refine lv_icmp_ge (tgt := 19) hx hb dX2_alter_9 (by decide) (fun c_9 => ?_) (fun c_9 => ?_)
    · refine lv_iconst (v := (-1)) hx hb dX2_alter_19 (by decide) ?_
      exact pr_iret (g, ph) hx hb hr hlocks hP hD hS dX2_alter_20 (by refine ⟨?_, ?_⟩ <;> (simp only [f_X2_alter, if_neg c_1, if_pos c_9] <;> rfl))
    · refine lv_iload_n hx hb dX2_alter_12 rfl (lv_at hl 2 rfl) ?_
      refine pr_Si (As := [.int b]) (rest := []) ⟨hx, hb, hml, hown, hts⟩ (c_X2_isAct b) (va_cwS 1 hts gX2_alter_X2_isAct rfl rfl rfl (by decide +kernel) ⟨Nat.le_of_ble_eq_true rfl, Nat.le_of_ble_eq_true rfl⟩) hK hP hD hS hA rfl hl.1 rfl (Nat.le_of_ble_eq_true rfl) ⟨Nat.le_of_ble_eq_true rfl, Nat.le_of_ble_eq_true rfl⟩ dX2_alter_13 (fun r_1 _ H locs e_r_1 hP hD hS => ?_)
      refine lv_if_ne (tgt := 21) hx hb dX2_alter_16 (by decide) (fun c_16 => ?_) (fun c_16 => ?_)
      · have i1 : vp_in a 30 := pz_alt c_1 c_9 h30
        refine lv_aload_n hx hb dX2_alter_21 rfl (lv_at hl 0 rfl) ?_
        refine va_get (D := (dC, dI)) (ci := 4) (C := RX2) (T := TX2) (N := 14) hx hb hts inX2_alter_X2 hown hK.1 hP 0 pz_a0 rfl 3 (by decide) (hts (.fieldLink RX2 26 "PowderMill" "acts" "[I") (by decide +kernel)) (fun _ h9 => h9) rfl dX2_alter_22 ?_
        refine lv_iload_n hx hb dX2_alter_25 rfl (lv_at hl 1 rfl) ?_
        refine va_iald hx hb hK.1 hP 4 0 pz_a4 rfl i1 dX2_alter_26 ?_
        refine lv_istore (lv' := [(4, .int (g 4 a.toNatClampNeg)), (0, .ref (ad 0)), (1, .int a), (2, .int b), (3, .int z)]) hx hb dX2_alter_27 hl (by decide) rfl (fun ls hl => ?_)
        refine lv_aload_n hx hb dX2_alter_29 rfl (lv_at hl 1 rfl) ?_
        refine va_get (D := (dC, dI)) (ci := 4) (C := RX2) (T := TX2) (N := 14) hx hb hts inX2_alter_X2 hown hK.1 hP 0 pz_a0 rfl 3 (by decide) (hts (.fieldLink RX2 26 "PowderMill" "acts" "[I") (by decide +kernel)) (fun _ h9 => h9) rfl dX2_alter_30 ?_
        refine lv_iload_n hx hb dX2_alter_33 rfl (lv_at hl 2 rfl) ?_
        refine lv_iload_n hx hb dX2_alter_34 rfl (lv_at hl 3 rfl) ?_
        refine pr_iastC hx hb hK.1 hP hD hS 4 (by omega) pz_a4 (fun _ => rfl) i1 dX2_alter_35 (fun g_2 H locs e_g_2 hP hD hS => ?_)
        refine lv_aload_n hx hb dX2_alter_36 rfl (lv_at hl 1 rfl) ?_
        refine va_get (D := (dC, dI)) (ci := 4) (C := RX2) (T := TX2) (N := 14) hx hb hts inX2_alter_X2 hown hK.1 hP 0 pz_a0 rfl 4 (by decide) (hts (.fieldLink RX2 29 "PowderMill" "numbers" "[I") (by decide +kernel)) (fun _ h9 => h9) rfl dX2_alter_37 ?_
        refine lv_iload_n hx hb dX2_alter_40 rfl (lv_at hl 2 rfl) ?_
        refine lv_iload_n hx hb dX2_alter_41 rfl (lv_at hl 4 rfl) ?_
        refine pr_iastC hx hb hK.1 hP hD hS 5 (by omega) pz_a5 (fun _ => rfl) i1 dX2_alter_42 (fun g_3 H locs e_g_3 hP hD hS => ?_)
        refine lv_iload hx hb dX2_alter_43 (lv_at hl 0 rfl) ?_
        exact pr_iret (g_3, ph) hx hb hr hlocks hP hD hS dX2_alter_45 (by subst e_g_3 e_g_2 e_r_1; refine ⟨?_, ?_⟩ <;> (simp only [f_X2_alter, if_neg c_1, if_neg c_9, if_neg c_16] <;> rfl))
      · refine lv_iconst (v := (-1)) hx hb dX2_alter_19 (by decide) ?_
        exact pr_iret (g, ph) hx hb hr hlocks hP hD hS dX2_alter_20 (by subst e_r_1; refine ⟨?_, ?_⟩ <;> (simp only [f_X2_alter, if_neg c_1, if_neg c_9, if_pos c_16] <;> rfl))
theorem inX2_begun_X2 : ∀ w ∈ u_ws RX2 TX2 14, w ∈ wsX2_begun := by decide +kernel
def f_X2_begun (g : pz_M) (ph : Nat → Option Nat) : Int32 :=
  g 0 7
set_option maxHeartbeats 4000000 in
set_option maxRecDepth 100000 in
theorem c_X2_begun {l : Launch} {dC : Nat → ClassId} {dI : Nat → Nat → Nat} {cl : Nat → ClassId} {ad : Nat → Nat} {ph : Nat → Option Nat} {o : Nat → Int64} {g h : pz_M} : pz_Mi l dC dI cl yX2_begun wsX2_begun { frames := 0, cells := 0, slots := 0, locals := 0 } [.ref (ad 0)] (pz_wd ad cl ph o g h) (fun _ : Unit => pz_wd ad cl ph o g h) (fun r _ => r = f_X2_begun g ph) := by
  intro sz
  refine pr_ofW (Qc := pz_Qi dC dI _ _) (cb := cX2_begun) (maxL := 1) (ret := (some .int)) (by decide) rfl (Nat.le_of_ble_eq_true rfl) ?_
  intro p e s m below meth c A ls hx hb hml hr hlocks hts hown hK hP hD hS hA hl
  have hl : lv_has ls 1 [(0, .ref (ad 0))] := hl
  refine lv_aload_n hx hb dX2_begun_0 rfl (lv_at hl 0 rfl) ?_
  refine va_get (D := (dC, dI)) (ci := 4) (C := RX2) (T := TX2) (N := 14) hx hb hts inX2_begun_X2 hown hK.1 hP 0 pz_a0 rfl 7 (by decide) (hts (.fieldLink RX2 39 "PowderMill" "latestBegun" "I") (by decide +kernel)) (fun _ h9 => h9) rfl dX2_begun_1 ?_
  exact pr_iret () hx hb hr hlocks hP hD hS dX2_begun_4 (by (simp only [f_X2_begun] <;> rfl))
theorem inX2_where_X2 : ∀ w ∈ u_ws RX2 TX2 14, w ∈ wsX2_where := by decide +kernel
def f_X2_where (g : pz_M) (ph : Nat → Option Nat) : Int32 :=
  g 0 8
set_option maxHeartbeats 4000000 in
set_option maxRecDepth 100000 in
theorem c_X2_where {l : Launch} {dC : Nat → ClassId} {dI : Nat → Nat → Nat} {cl : Nat → ClassId} {ad : Nat → Nat} {ph : Nat → Option Nat} {o : Nat → Int64} {g h : pz_M} : pz_Mi l dC dI cl yX2_where wsX2_where { frames := 0, cells := 0, slots := 0, locals := 0 } [.ref (ad 0)] (pz_wd ad cl ph o g h) (fun _ : Unit => pz_wd ad cl ph o g h) (fun r _ => r = f_X2_where g ph) := by
  intro sz
  refine pr_ofW (Qc := pz_Qi dC dI _ _) (cb := cX2_where) (maxL := 1) (ret := (some .int)) (by decide) rfl (Nat.le_of_ble_eq_true rfl) ?_
  intro p e s m below meth c A ls hx hb hml hr hlocks hts hown hK hP hD hS hA hl
  have hl : lv_has ls 1 [(0, .ref (ad 0))] := hl
  refine lv_aload_n hx hb dX2_where_0 rfl (lv_at hl 0 rfl) ?_
  refine va_get (D := (dC, dI)) (ci := 4) (C := RX2) (T := TX2) (N := 14) hx hb hts inX2_where_X2 hown hK.1 hP 0 pz_a0 rfl 8 (by decide) (hts (.fieldLink RX2 42 "PowderMill" "latestFaultStep" "I") (by decide +kernel)) (fun _ h9 => h9) rfl dX2_where_1 ?_
  exact pr_iret () hx hb hr hlocks hP hD hS dX2_where_4 (by (simp only [f_X2_where] <;> rfl))
theorem inX2_house_X0 : ∀ w ∈ u_ws RX0 TX0 8, w ∈ wsX2_house := by decide +kernel
theorem inX2_house_X2 : ∀ w ∈ u_ws RX2 TX2 14, w ∈ wsX2_house := by decide +kernel
def f_X2_house (g : pz_M) (ph : Nat → Option Nat) (a : Int32) (b : Int32) : Int32 :=
  let r_1 := f_X2_isPlace a
  if r_1 = 0 then
    (-1)
  else
    if (g (10 + a.toNatClampNeg) 0) = 0 then
      (-1)
    else
      let r_2 := f_X0_tell g ph a.toNatClampNeg b
      r_2
set_option maxHeartbeats 4000000 in
set_option maxRecDepth 100000 in
theorem c_X2_house {l : Launch} {dC : Nat → ClassId} {dI : Nat → Nat → Nat} {cl : Nat → ClassId} {ad : Nat → Nat} {ph : Nat → Option Nat} {o : Nat → Int64} {g h : pz_M} (a : Int32) (b : Int32) : pz_Mi l dC dI cl yX2_house wsX2_house { frames := 1, cells := 0, slots := 0, locals := 21 } [.ref (ad 0), .int a, .int b] (pz_wd ad cl ph o g h) (fun _ : Unit => pz_wd ad cl ph o g h) (fun r _ => r = f_X2_house g ph a b) := by
  intro sz
  refine pr_ofW (Qc := pz_Qi dC dI _ _) (cb := cX2_house) (maxL := 3) (ret := (some .int)) (by decide) rfl (Nat.le_of_ble_eq_true rfl) ?_
  intro p e s m below meth c A ls hx hb hml hr hlocks hts hown hK hP hD hS hA hl
  have hl : lv_has ls 3 [(0, .ref (ad 0)), (1, .int a), (2, .int b)] := hl
  refine lv_iload_n hx hb dX2_house_0 rfl (lv_at hl 1 rfl) ?_
  refine pr_Si (As := [.int a]) (rest := []) ⟨hx, hb, hml, hown, hts⟩ (c_X2_isPlace a) (va_cwS 1 hts gX2_house_X2_isPlace rfl rfl rfl (by decide +kernel) ⟨Nat.le_of_ble_eq_true rfl, Nat.le_of_ble_eq_true rfl⟩) hK hP hD hS hA rfl hl.1 rfl (Nat.le_of_ble_eq_true rfl) ⟨Nat.le_of_ble_eq_true rfl, Nat.le_of_ble_eq_true rfl⟩ dX2_house_1 (fun r_1 _ H locs e_r_1 hP hD hS => ?_)
  refine lv_if_eq (tgt := 19) hx hb dX2_house_4 (by decide) (fun c_4 => ?_) (fun c_4 => ?_)
  · refine lv_iconst (v := (-1)) hx hb dX2_house_19 (by decide) ?_
    exact pr_iret () hx hb hr hlocks hP hD hS dX2_house_20 (by subst e_r_1; (simp only [f_X2_house, if_pos c_4] <;> rfl))
  · have i1 : vp_in a 8 := pz_place (by rw [← e_r_1]; exact c_4)
    refine lv_aload_n hx hb dX2_house_7 rfl (lv_at hl 0 rfl) ?_
    refine va_get (D := (dC, dI)) (ci := 4) (C := RX2) (T := TX2) (N := 14) hx hb hts inX2_house_X2 hown hK.1 hP 0 pz_a0 rfl 0 (by decide) (hts (.fieldLink RX2 11 "PowderMill" "places" "[LPowderMill$House;") (by decide +kernel)) (fun _ h9 => h9) rfl dX2_house_8 ?_
    refine lv_iload_n hx hb dX2_house_11 rfl (lv_at hl 1 rfl) ?_
    refine pr_places hx hb hK.1 hP i1 dX2_house_12 ?_
    refine va_getN (D := (dC, dI)) (ci := 2) (C := RX0) (T := TX0) (N := 8) hx hb hts inX2_house_X0 hown hK.1 hP (10 + a.toNatClampNeg) (pz_aH (pz_lt8 i1)) rfl 0 (by decide) (va_Nw.use rfl hK.2.2.1) (fun _ h9 => h9) rfl dX2_house_13 ?_
    refine lv_if_ne (tgt := 21) hx hb dX2_house_16 (by decide) (fun c_16 => ?_) (fun c_16 => ?_)
    · refine lv_aload_n hx hb dX2_house_21 rfl (lv_at hl 0 rfl) ?_
      refine va_get (D := (dC, dI)) (ci := 4) (C := RX2) (T := TX2) (N := 14) hx hb hts inX2_house_X2 hown hK.1 hP 0 pz_a0 rfl 0 (by decide) (hts (.fieldLink RX2 11 "PowderMill" "places" "[LPowderMill$House;") (by decide +kernel)) (fun _ h9 => h9) rfl dX2_house_22 ?_
      refine lv_iload_n hx hb dX2_house_25 rfl (lv_at hl 1 rfl) ?_
      refine pr_places hx hb hK.1 hP i1 dX2_house_26 ?_
      refine lv_iload_n hx hb dX2_house_27 rfl (lv_at hl 2 rfl) ?_
      refine pr_Vi (As := [.int b]) (rest := []) ⟨hx, hb, hml, hown, hts⟩ (c_X0_tell a.toNatClampNeg b (pz_lt8 i1)) (cwV 1 hts gX2_house_X0_tell rfl rfl rfl (by decide +kernel) ⟨Nat.le_of_ble_eq_true rfl, Nat.le_of_ble_eq_true rfl⟩) (va_recv hK.1 hP (ci := 2) rfl (pz_aH (pz_lt8 i1))) hK hP hD hS hA rfl hl.1 rfl (Nat.le_of_ble_eq_true rfl) ⟨Nat.le_of_ble_eq_true rfl, Nat.le_of_ble_eq_true rfl⟩ dX2_house_28 (fun r_2 _ H locs e_r_2 hP hD hS => ?_)
      exact pr_iret () hx hb hr hlocks hP hD hS dX2_house_31 (by subst e_r_2 e_r_1; (simp only [f_X2_house, if_neg c_4, if_neg c_16] <;> rfl))
    · refine lv_iconst (v := (-1)) hx hb dX2_house_19 (by decide) ?_
      exact pr_iret () hx hb hr hlocks hP hD hS dX2_house_20 (by subst e_r_1; (simp only [f_X2_house, if_neg c_4, if_pos c_16] <;> rfl))
theorem inX2_standingHouses_X0 : ∀ w ∈ u_ws RX0 TX0 8, w ∈ wsX2_standingHouses := by decide +kernel
theorem inX2_standingHouses_X2 : ∀ w ∈ u_ws RX2 TX2 14, w ∈ wsX2_standingHouses := by decide +kernel
def f_sth (g : pz_M) : Nat → Int32 → Int32 → Int32
  | 0, v, _ => v
  | n + 1, v, i =>
    if 8 ≤ i then
      v
    else
      if (g (10 + i.toNatClampNeg) 0) = 0 then
        f_sth g n (v) (i + 1)
      else
        f_sth g n (v + 1) (i + 1)
def f_X2_standingHouses (g : pz_M) (ph : Nat → Option Nat) : Int32 := f_sth g 9 0 0
set_option maxHeartbeats 4000000 in
set_option maxRecDepth 100000 in
theorem c_X2_standingHouses {l : Launch} {dC : Nat → ClassId} {dI : Nat → Nat → Nat} {cl : Nat → ClassId} {ad : Nat → Nat} {ph : Nat → Option Nat} {o : Nat → Int64} {g h : pz_M} : pz_Mi l dC dI cl yX2_standingHouses wsX2_standingHouses { frames := 0, cells := 0, slots := 0, locals := 0 } [.ref (ad 0)] (pz_wd ad cl ph o g h) (fun _ : Unit => pz_wd ad cl ph o g h) (fun r _ => r = f_X2_standingHouses g ph) := by
  intro sz
  refine pr_ofW (Qc := pz_Qi dC dI _ _) (cb := cX2_standingHouses) (maxL := 3) (ret := (some .int)) (by decide) rfl (Nat.le_of_ble_eq_true rfl) ?_
  intro p e s m below meth c A ls hx hb hml hr hlocks hts hown hK hP hD hS hA hl
  have hl : lv_has ls 3 [(0, .ref (ad 0))] := hl
  have key : ∀ (n : Nat) (v i : Int32) (j : Nat) (H : Heap) (locs : List Loc) (ls : Array Slot), j ≤ 8 → 8 - j < n → i = nI j → f_sth g n v i = f_sth g 9 0 0 → va_P (dC, dI) vwCl (pz_wd ad cl ph o g h) H → va_D A (pz_wd ad cl ph o g h) → va_S A s.heap H locs → lv_has ls 3 [(0, .ref (ad 0)), (1, .int v), (2, .int i)] → W p l e { frames := 0, cells := 0, slots := 0, locals := 0 } s m [.ref (ad 0)].toArray below meth c H locs 0 0 (MQ below (pz_Qi dC dI (fun r _ => r = f_X2_standingHouses g ph) (fun _ : Unit => pz_wd ad cl ph o g h) A) [.ref (ad 0)].toArray s 0 0 A) (F0 m 4 ls []) := by
    intro n
    induction n with
    | zero => intro v i j H locs ls h1 h2; omega
    | succ n ih =>
      intro v i j H locs ls hj hjn hi hF hP hD hS hl
      refine lv_iload_n hx hb dX2_standingHouses_4 rfl (lv_at hl 2 rfl) ?_
      refine lv_bipush (v := 8) hx hb dX2_standingHouses_5 (by decide) ?_
      refine lv_icmp_ge (tgt := 31) hx hb dX2_standingHouses_7 (by decide) (fun c_7 => ?_) (fun c_7 => ?_)
      · refine lv_iload_n hx hb dX2_standingHouses_31 rfl (lv_at hl 1 rfl) ?_
        exact pr_iret () hx hb hr hlocks hP hD hS dX2_standingHouses_32 (by show _ = f_X2_standingHouses g ph; unfold f_X2_standingHouses; rw [← hF]; simp only [f_sth, if_pos c_7])
      · have hj8 : j < 8 := by
          rcases Nat.lt_or_ge j 8 with q | q
          · exact q
          · exact absurd (by rw [hi]; exact nI_le q (by omega)) c_7
        have i1 : vp_in i 8 := by rw [hi]; exact vp_in_nI hj8 (by decide)
        refine lv_aload_n hx hb dX2_standingHouses_10 rfl (lv_at hl 0 rfl) ?_
        refine va_get (D := (dC, dI)) (ci := 4) (C := RX2) (T := TX2) (N := 14) hx hb hts inX2_standingHouses_X2 hown hK.1 hP 0 pz_a0 rfl 0 (by decide) (hts (.fieldLink RX2 11 "PowderMill" "places" "[LPowderMill$House;") (by decide +kernel)) (fun _ h9 => h9) rfl dX2_standingHouses_11 ?_
        refine lv_iload_n hx hb dX2_standingHouses_14 rfl (lv_at hl 2 rfl) ?_
        refine pr_places hx hb hK.1 hP i1 dX2_standingHouses_15 ?_
        refine va_getN (D := (dC, dI)) (ci := 2) (C := RX0) (T := TX0) (N := 8) hx hb hts inX2_standingHouses_X0 hown hK.1 hP (10 + i.toNatClampNeg) (pz_aH (pz_lt8 i1)) rfl 0 (by decide) (va_Nw.use rfl hK.2.2.1) (fun _ h9 => h9) rfl dX2_standingHouses_16 ?_
        refine lv_if_eq (tgt := 25) hx hb dX2_standingHouses_19 (by decide) (fun c_19 => ?_) (fun c_19 => ?_)
        · refine lv_iinc (v := i + 1) (lv' := [(2, .int (i + 1)), (0, .ref (ad 0)), (1, .int v)]) hx hb dX2_standingHouses_25 hl (k := 2) rfl (by rfl) (by decide) rfl (fun ls hl => ?_)
          refine lv_goto (tgt := 4) hx hb dX2_standingHouses_28 (by decide) ?_
          exact ih (v) (i + 1) (j + 1) _ _ _ (by omega) (by omega) (by rw [hi]; exact nI_1 j) (by rw [← hF]; simp only [f_sth, if_neg c_7, if_pos c_19]) hP hD hS (lv_sub hl [1, 2, 0] rfl)
        · refine lv_iinc (v := v + 1) (lv' := [(1, .int (v + 1)), (0, .ref (ad 0)), (2, .int i)]) hx hb dX2_standingHouses_22 hl (k := 1) rfl (by rfl) (by decide) rfl (fun ls hl => ?_)
          refine lv_iinc (v := i + 1) (lv' := [(2, .int (i + 1)), (1, .int (v + 1)), (0, .ref (ad 0))]) hx hb dX2_standingHouses_25 hl (k := 2) rfl (by rfl) (by decide) rfl (fun ls hl => ?_)
          refine lv_goto (tgt := 4) hx hb dX2_standingHouses_28 (by decide) ?_
          exact ih (v + 1) (i + 1) (j + 1) _ _ _ (by omega) (by omega) (by rw [hi]; exact nI_1 j) (by rw [← hF]; simp only [f_sth, if_neg c_7, if_neg c_19]) hP hD hS (lv_sub hl [2, 1, 0] rfl)
  refine lv_iconst (v := 0) hx hb dX2_standingHouses_0 (by decide) ?_
  refine lv_istore_n (lv' := [(1, .int 0), (0, .ref (ad 0))]) hx hb dX2_standingHouses_1 rfl hl (by decide) rfl (fun ls hl => ?_)
  refine lv_iconst (v := 0) hx hb dX2_standingHouses_2 (by decide) ?_
  refine lv_istore_n (lv' := [(2, .int 0), (1, .int 0), (0, .ref (ad 0))]) hx hb dX2_standingHouses_3 rfl hl (by decide) rfl (fun ls hl => ?_)
  exact key 9 0 0 0 _ _ _ (by omega) (by omega) rfl rfl hP hD hS (lv_sub hl [2, 1, 0] rfl)
theorem inX2_count_X2 : ∀ w ∈ u_ws RX2 TX2 14, w ∈ wsX2_count := by decide +kernel
def f_X2_count (g : pz_M) (ph : Nat → Option Nat) (a : Int32) : Int32 :=
  if a ≤ 10 then
    if a = 0 then
      let r_1 := f_X2_standingHouses g ph
      r_1
    else
      if a = 1 then
        g 0 5
      else
        if a = 2 then
          g 0 10
        else
          if a = 3 then
            g 0 11
          else
            if a = 4 then
              g 0 12
            else
              if a = 5 then
                g 0 13
              else
                (-1)
  else
    if 16 < a then
      if a = 0 then
        let r_2 := f_X2_standingHouses g ph
        r_2
      else
        if a = 1 then
          g 0 5
        else
          if a = 2 then
            g 0 10
          else
            if a = 3 then
              g 0 11
            else
              if a = 4 then
                g 0 12
              else
                if a = 5 then
                  g 0 13
                else
                  (-1)
    else
      g 6 (a - 10).toNatClampNeg
set_option maxHeartbeats 4000000 in
set_option maxRecDepth 100000 in
theorem c_X2_count {l : Launch} {dC : Nat → ClassId} {dI : Nat → Nat → Nat} {cl : Nat → ClassId} {ad : Nat → Nat} {ph : Nat → Option Nat} {o : Nat → Int64} {g h : pz_M} (a : Int32) : pz_Mi l dC dI cl yX2_count wsX2_count { frames := 1, cells := 0, slots := 0, locals := 22 } [.ref (ad 0), .int a] (pz_wd ad cl ph o g h) (fun _ : Unit => pz_wd ad cl ph o g h) (fun r _ => r = f_X2_count g ph a) := by
  intro sz
  refine pr_ofW (Qc := pz_Qi dC dI _ _) (cb := cX2_count) (maxL := 2) (ret := (some .int)) (by decide) rfl (Nat.le_of_ble_eq_true rfl) ?_
  intro p e s m below meth c A ls hx hb hml hr hlocks hts hown hK hP hD hS hA hl
  have hl : lv_has ls 2 [(0, .ref (ad 0)), (1, .int a)] := hl
  refine lv_iload_n hx hb dX2_count_0 rfl (lv_at hl 1 rfl) ?_
  refine lv_bipush (v := 10) hx hb dX2_count_1 (by decide) ?_
  refine lv_icmp_le (tgt := 22) hx hb dX2_count_3 (by decide) (fun c_3 => ?_) (fun c_3 => ?_)
  · refine lv_iload_n hx hb dX2_count_22 rfl (lv_at hl 1 rfl) ?_
    by_cases t_23_0 : a = 0
    · refine pr_tabIn (ki := 0) (tgt := 60) hx hb dX2_count_23 t_23_0 (by rfl) (by decide) (by decide) (by rfl) (by decide) ?_
      refine lv_aload_n hx hb dX2_count_60 rfl (lv_at hl 0 rfl) ?_
      refine pr_Vi (As := []) (rest := []) ⟨hx, hb, hml, hown, hts⟩ (c_X2_standingHouses) (cwV 0 hts gX2_count_X2_standingHouses rfl rfl rfl (by decide +kernel) ⟨Nat.le_of_ble_eq_true rfl, Nat.le_of_ble_eq_true rfl⟩) (va_recv hK.1 hP (ci := 4) rfl pz_a0) hK hP hD hS hA rfl hl.1 rfl (Nat.le_of_ble_eq_true rfl) ⟨Nat.le_of_ble_eq_true rfl, Nat.le_of_ble_eq_true rfl⟩ dX2_count_61 (fun r_1 _ H locs e_r_1 hP hD hS => ?_)
      exact pr_iret () hx hb hr hlocks hP hD hS dX2_count_64 (by subst e_r_1; (simp only [f_X2_count, if_pos c_3, if_pos t_23_0] <;> rfl))
    by_cases t_23_1 : a = 1
    · refine pr_tabIn (ki := 1) (tgt := 65) hx hb dX2_count_23 t_23_1 (by rfl) (by decide) (by decide) (by rfl) (by decide) ?_
      refine lv_aload_n hx hb dX2_count_65 rfl (lv_at hl 0 rfl) ?_
      refine va_get (D := (dC, dI)) (ci := 4) (C := RX2) (T := TX2) (N := 14) hx hb hts inX2_count_X2 hown hK.1 hP 0 pz_a0 rfl 5 (by decide) (hts (.fieldLink RX2 32 "PowderMill" "stepCount" "I") (by decide +kernel)) (fun _ h9 => h9) rfl dX2_count_66 ?_
      exact pr_iret () hx hb hr hlocks hP hD hS dX2_count_69 (by (simp only [f_X2_count, if_pos c_3, if_neg t_23_0, if_pos t_23_1] <;> rfl))
    by_cases t_23_2 : a = 2
    · refine pr_tabIn (ki := 2) (tgt := 70) hx hb dX2_count_23 t_23_2 (by rfl) (by decide) (by decide) (by rfl) (by decide) ?_
      refine lv_aload_n hx hb dX2_count_70 rfl (lv_at hl 0 rfl) ?_
      refine va_get (D := (dC, dI)) (ci := 4) (C := RX2) (T := TX2) (N := 14) hx hb hts inX2_count_X2 hown hK.1 hP 0 pz_a0 rfl 10 (by decide) (hts (.fieldLink RX2 48 "PowderMill" "runs" "I") (by decide +kernel)) (fun _ h9 => h9) rfl dX2_count_71 ?_
      exact pr_iret () hx hb hr hlocks hP hD hS dX2_count_74 (by (simp only [f_X2_count, if_pos c_3, if_neg t_23_0, if_neg t_23_1, if_pos t_23_2] <;> rfl))
    by_cases t_23_3 : a = 3
    · refine pr_tabIn (ki := 3) (tgt := 75) hx hb dX2_count_23 t_23_3 (by rfl) (by decide) (by decide) (by rfl) (by decide) ?_
      refine lv_aload_n hx hb dX2_count_75 rfl (lv_at hl 0 rfl) ?_
      refine va_get (D := (dC, dI)) (ci := 4) (C := RX2) (T := TX2) (N := 14) hx hb hts inX2_count_X2 hown hK.1 hP 0 pz_a0 rfl 11 (by decide) (hts (.fieldLink RX2 51 "PowderMill" "faultRuns" "I") (by decide +kernel)) (fun _ h9 => h9) rfl dX2_count_76 ?_
      exact pr_iret () hx hb hr hlocks hP hD hS dX2_count_79 (by (simp only [f_X2_count, if_pos c_3, if_neg t_23_0, if_neg t_23_1, if_neg t_23_2, if_pos t_23_3] <;> rfl))
    by_cases t_23_4 : a = 4
    · refine pr_tabIn (ki := 4) (tgt := 80) hx hb dX2_count_23 t_23_4 (by rfl) (by decide) (by decide) (by rfl) (by decide) ?_
      refine lv_aload_n hx hb dX2_count_80 rfl (lv_at hl 0 rfl) ?_
      refine va_get (D := (dC, dI)) (ci := 4) (C := RX2) (T := TX2) (N := 14) hx hb hts inX2_count_X2 hown hK.1 hP 0 pz_a0 rfl 12 (by decide) (hts (.fieldLink RX2 54 "PowderMill" "spentRuns" "I") (by decide +kernel)) (fun _ h9 => h9) rfl dX2_count_81 ?_
      exact pr_iret () hx hb hr hlocks hP hD hS dX2_count_84 (by (simp only [f_X2_count, if_pos c_3, if_neg t_23_0, if_neg t_23_1, if_neg t_23_2, if_neg t_23_3, if_pos t_23_4] <;> rfl))
    by_cases t_23_5 : a = 5
    · refine pr_tabIn (ki := 5) (tgt := 85) hx hb dX2_count_23 t_23_5 (by rfl) (by decide) (by decide) (by rfl) (by decide) ?_
      refine lv_aload_n hx hb dX2_count_85 rfl (lv_at hl 0 rfl) ?_
      refine va_get (D := (dC, dI)) (ci := 4) (C := RX2) (T := TX2) (N := 14) hx hb hts inX2_count_X2 hown hK.1 hP 0 pz_a0 rfl 13 (by decide) (hts (.fieldLink RX2 57 "PowderMill" "quitRuns" "I") (by decide +kernel)) (fun _ h9 => h9) rfl dX2_count_86 ?_
      exact pr_iret () hx hb hr hlocks hP hD hS dX2_count_89 (by (simp only [f_X2_count, if_pos c_3, if_neg t_23_0, if_neg t_23_1, if_neg t_23_2, if_neg t_23_3, if_neg t_23_4, if_pos t_23_5] <;> rfl))
    refine lv_tableOut (tgt := 90) hx hb dX2_count_23 (by have q0 := lv_neT t_23_0 (by rfl : (0 : Int32).toInt = 0); have q1 := lv_neT t_23_1 (by rfl : (1 : Int32).toInt = 1); have q2 := lv_neT t_23_2 (by rfl : (2 : Int32).toInt = 2); have q3 := lv_neT t_23_3 (by rfl : (3 : Int32).toInt = 3); have q4 := lv_neT t_23_4 (by rfl : (4 : Int32).toInt = 4); have q5 := lv_neT t_23_5 (by rfl : (5 : Int32).toInt = 5); omega) (by decide) ?_
    refine lv_iconst (v := (-1)) hx hb dX2_count_90 (by decide) ?_
    exact pr_iret () hx hb hr hlocks hP hD hS dX2_count_91 (by (simp only [f_X2_count, if_pos c_3, if_neg t_23_0, if_neg t_23_1, if_neg t_23_2, if_neg t_23_3, if_neg t_23_4, if_neg t_23_5] <;> rfl))
  · refine lv_iload_n hx hb dX2_count_6 rfl (lv_at hl 1 rfl) ?_
    refine lv_bipush (v := 16) hx hb dX2_count_7 (by decide) ?_
    refine lv_icmp_gt (tgt := 22) hx hb dX2_count_9 (by decide) (fun c_9 => ?_) (fun c_9 => ?_)
    · refine lv_iload_n hx hb dX2_count_22 rfl (lv_at hl 1 rfl) ?_
      by_cases t_23_0 : a = 0
      · refine pr_tabIn (ki := 0) (tgt := 60) hx hb dX2_count_23 t_23_0 (by rfl) (by decide) (by decide) (by rfl) (by decide) ?_
        refine lv_aload_n hx hb dX2_count_60 rfl (lv_at hl 0 rfl) ?_
        refine pr_Vi (As := []) (rest := []) ⟨hx, hb, hml, hown, hts⟩ (c_X2_standingHouses) (cwV 0 hts gX2_count_X2_standingHouses rfl rfl rfl (by decide +kernel) ⟨Nat.le_of_ble_eq_true rfl, Nat.le_of_ble_eq_true rfl⟩) (va_recv hK.1 hP (ci := 4) rfl pz_a0) hK hP hD hS hA rfl hl.1 rfl (Nat.le_of_ble_eq_true rfl) ⟨Nat.le_of_ble_eq_true rfl, Nat.le_of_ble_eq_true rfl⟩ dX2_count_61 (fun r_2 _ H locs e_r_2 hP hD hS => ?_)
        exact pr_iret () hx hb hr hlocks hP hD hS dX2_count_64 (by subst e_r_2; (simp only [f_X2_count, if_neg c_3, if_pos c_9, if_pos t_23_0] <;> rfl))
      by_cases t_23_1 : a = 1
      · refine pr_tabIn (ki := 1) (tgt := 65) hx hb dX2_count_23 t_23_1 (by rfl) (by decide) (by decide) (by rfl) (by decide) ?_
        refine lv_aload_n hx hb dX2_count_65 rfl (lv_at hl 0 rfl) ?_
        refine va_get (D := (dC, dI)) (ci := 4) (C := RX2) (T := TX2) (N := 14) hx hb hts inX2_count_X2 hown hK.1 hP 0 pz_a0 rfl 5 (by decide) (hts (.fieldLink RX2 32 "PowderMill" "stepCount" "I") (by decide +kernel)) (fun _ h9 => h9) rfl dX2_count_66 ?_
        exact pr_iret () hx hb hr hlocks hP hD hS dX2_count_69 (by (simp only [f_X2_count, if_neg c_3, if_pos c_9, if_neg t_23_0, if_pos t_23_1] <;> rfl))
      by_cases t_23_2 : a = 2
      · refine pr_tabIn (ki := 2) (tgt := 70) hx hb dX2_count_23 t_23_2 (by rfl) (by decide) (by decide) (by rfl) (by decide) ?_
        refine lv_aload_n hx hb dX2_count_70 rfl (lv_at hl 0 rfl) ?_
        refine va_get (D := (dC, dI)) (ci := 4) (C := RX2) (T := TX2) (N := 14) hx hb hts inX2_count_X2 hown hK.1 hP 0 pz_a0 rfl 10 (by decide) (hts (.fieldLink RX2 48 "PowderMill" "runs" "I") (by decide +kernel)) (fun _ h9 => h9) rfl dX2_count_71 ?_
        exact pr_iret () hx hb hr hlocks hP hD hS dX2_count_74 (by (simp only [f_X2_count, if_neg c_3, if_pos c_9, if_neg t_23_0, if_neg t_23_1, if_pos t_23_2] <;> rfl))
      by_cases t_23_3 : a = 3
      · refine pr_tabIn (ki := 3) (tgt := 75) hx hb dX2_count_23 t_23_3 (by rfl) (by decide) (by decide) (by rfl) (by decide) ?_
        refine lv_aload_n hx hb dX2_count_75 rfl (lv_at hl 0 rfl) ?_
        refine va_get (D := (dC, dI)) (ci := 4) (C := RX2) (T := TX2) (N := 14) hx hb hts inX2_count_X2 hown hK.1 hP 0 pz_a0 rfl 11 (by decide) (hts (.fieldLink RX2 51 "PowderMill" "faultRuns" "I") (by decide +kernel)) (fun _ h9 => h9) rfl dX2_count_76 ?_
        exact pr_iret () hx hb hr hlocks hP hD hS dX2_count_79 (by (simp only [f_X2_count, if_neg c_3, if_pos c_9, if_neg t_23_0, if_neg t_23_1, if_neg t_23_2, if_pos t_23_3] <;> rfl))
      by_cases t_23_4 : a = 4
      · refine pr_tabIn (ki := 4) (tgt := 80) hx hb dX2_count_23 t_23_4 (by rfl) (by decide) (by decide) (by rfl) (by decide) ?_
        refine lv_aload_n hx hb dX2_count_80 rfl (lv_at hl 0 rfl) ?_
        refine va_get (D := (dC, dI)) (ci := 4) (C := RX2) (T := TX2) (N := 14) hx hb hts inX2_count_X2 hown hK.1 hP 0 pz_a0 rfl 12 (by decide) (hts (.fieldLink RX2 54 "PowderMill" "spentRuns" "I") (by decide +kernel)) (fun _ h9 => h9) rfl dX2_count_81 ?_
        exact pr_iret () hx hb hr hlocks hP hD hS dX2_count_84 (by (simp only [f_X2_count, if_neg c_3, if_pos c_9, if_neg t_23_0, if_neg t_23_1, if_neg t_23_2, if_neg t_23_3, if_pos t_23_4] <;> rfl))
      by_cases t_23_5 : a = 5
      · refine pr_tabIn (ki := 5) (tgt := 85) hx hb dX2_count_23 t_23_5 (by rfl) (by decide) (by decide) (by rfl) (by decide) ?_
        refine lv_aload_n hx hb dX2_count_85 rfl (lv_at hl 0 rfl) ?_
        refine va_get (D := (dC, dI)) (ci := 4) (C := RX2) (T := TX2) (N := 14) hx hb hts inX2_count_X2 hown hK.1 hP 0 pz_a0 rfl 13 (by decide) (hts (.fieldLink RX2 57 "PowderMill" "quitRuns" "I") (by decide +kernel)) (fun _ h9 => h9) rfl dX2_count_86 ?_
        exact pr_iret () hx hb hr hlocks hP hD hS dX2_count_89 (by (simp only [f_X2_count, if_neg c_3, if_pos c_9, if_neg t_23_0, if_neg t_23_1, if_neg t_23_2, if_neg t_23_3, if_neg t_23_4, if_pos t_23_5] <;> rfl))
      refine lv_tableOut (tgt := 90) hx hb dX2_count_23 (by have q0 := lv_neT t_23_0 (by rfl : (0 : Int32).toInt = 0); have q1 := lv_neT t_23_1 (by rfl : (1 : Int32).toInt = 1); have q2 := lv_neT t_23_2 (by rfl : (2 : Int32).toInt = 2); have q3 := lv_neT t_23_3 (by rfl : (3 : Int32).toInt = 3); have q4 := lv_neT t_23_4 (by rfl : (4 : Int32).toInt = 4); have q5 := lv_neT t_23_5 (by rfl : (5 : Int32).toInt = 5); omega) (by decide) ?_
      refine lv_iconst (v := (-1)) hx hb dX2_count_90 (by decide) ?_
      exact pr_iret () hx hb hr hlocks hP hD hS dX2_count_91 (by (simp only [f_X2_count, if_neg c_3, if_pos c_9, if_neg t_23_0, if_neg t_23_1, if_neg t_23_2, if_neg t_23_3, if_neg t_23_4, if_neg t_23_5] <;> rfl))
    · refine lv_aload_n hx hb dX2_count_12 rfl (lv_at hl 0 rfl) ?_
      refine va_get (D := (dC, dI)) (ci := 4) (C := RX2) (T := TX2) (N := 14) hx hb hts inX2_count_X2 hown hK.1 hP 0 pz_a0 rfl 9 (by decide) (hts (.fieldLink RX2 45 "PowderMill" "faultsMet" "[I") (by decide +kernel)) (fun _ h9 => h9) rfl dX2_count_13 ?_
      refine lv_iload_n hx hb dX2_count_16 rfl (lv_at hl 1 rfl) ?_
      refine lv_bipush (v := 10) hx hb dX2_count_17 (by decide) ?_
      refine lv_isub hx hb dX2_count_19 ?_
      refine va_iald hx hb hK.1 hP 6 0 pz_a6 rfl (pz_cnt c_3 c_9) dX2_count_20 ?_
      exact pr_iret () hx hb hr hlocks hP hD hS dX2_count_21 (by (simp only [f_X2_count, if_neg c_3, if_neg c_9] <;> rfl))
theorem inX2_goIn_X0 : ∀ w ∈ u_ws RX0 TX0 8, w ∈ wsX2_goIn := by decide +kernel
theorem inX2_goIn_X2 : ∀ w ∈ u_ws RX2 TX2 14, w ∈ wsX2_goIn := by decide +kernel
def f_X2_goIn (g : pz_M) (ph : Nat → Option Nat) (a : Int32) (b : Int32) : Int32 × pz_M × (Nat → Option Nat) :=
  let r_1 := f_X1_isFull g ph
  if r_1 = 0 then
    if (g (10 + a.toNatClampNeg) 0) = 0 then
      (1, g, ph)
    else
      let g_4 := (f_X1_enter g ph a.toNatClampNeg b).1
      let ph_5 := (f_X1_enter g ph a.toNatClampNeg b).2
      (0, g_4, ph_5)
  else
    (2, g, ph)
set_option maxHeartbeats 4000000 in
set_option maxRecDepth 100000 in
theorem c_X2_goIn {l : Launch} {dC : Nat → ClassId} {dI : Nat → Nat → Nat} {cl : Nat → ClassId} {ad : Nat → Nat} {ph : Nat → Option Nat} {o : Nat → Int64} {g h : pz_M} (a : Int32) (b : Int32) (hw : pz_W g ph) (ha : vp_in a 8) : pz_Mi l dC dI cl yX2_goIn wsX2_goIn { frames := 1, cells := 0, slots := 0, locals := 22 } [.ref (ad 0), .int a, .int b] (pz_wd ad cl ph o g h) (fun u : pz_M × (Nat → Option Nat) => pz_wd ad cl u.2 o u.1 h) (fun r u => r = (f_X2_goIn g ph a b).1 ∧ u = (f_X2_goIn g ph a b).2) := by
  intro sz
  refine pr_ofW (Qc := pz_Qi dC dI _ _) (cb := cX2_goIn) (maxL := 3) (ret := (some .int)) (by decide) rfl (Nat.le_of_ble_eq_true rfl) ?_
  intro p e s m below meth c A ls hx hb hml hr hlocks hts hown hK hP hD hS hA hl
  have hl : lv_has ls 3 [(0, .ref (ad 0)), (1, .int a), (2, .int b)] := hl
  refine lv_aload_n hx hb dX2_goIn_0 rfl (lv_at hl 0 rfl) ?_
  refine va_get (D := (dC, dI)) (ci := 4) (C := RX2) (T := TX2) (N := 14) hx hb hts inX2_goIn_X2 hown hK.1 hP 0 pz_a0 rfl 1 (by decide) (hts (.fieldLink RX2 18 "PowderMill" "path" "LPowderMill$Path;") (by decide +kernel)) (fun _ h9 => h9) rfl dX2_goIn_1 ?_
  refine pr_Vi (As := []) (rest := []) ⟨hx, hb, hml, hown, hts⟩ (c_X1_isFull) (cwV 0 hts gX2_goIn_X1_isFull rfl rfl rfl (by decide +kernel) ⟨Nat.le_of_ble_eq_true rfl, Nat.le_of_ble_eq_true rfl⟩) (va_recv hK.1 hP (ci := 3) rfl pz_a2) hK hP hD hS hA rfl hl.1 rfl (Nat.le_of_ble_eq_true rfl) ⟨Nat.le_of_ble_eq_true rfl, Nat.le_of_ble_eq_true rfl⟩ dX2_goIn_4 (fun r_1 _ H locs e_r_1 hP hD hS => ?_)
  refine lv_if_eq (tgt := 12) hx hb dX2_goIn_7 (by decide) (fun c_7 => ?_) (fun c_7 => ?_)
  · refine lv_aload_n hx hb dX2_goIn_12 rfl (lv_at hl 0 rfl) ?_
    refine va_get (D := (dC, dI)) (ci := 4) (C := RX2) (T := TX2) (N := 14) hx hb hts inX2_goIn_X2 hown hK.1 hP 0 pz_a0 rfl 0 (by decide) (hts (.fieldLink RX2 11 "PowderMill" "places" "[LPowderMill$House;") (by decide +kernel)) (fun _ h9 => h9) rfl dX2_goIn_13 ?_
    refine lv_iload_n hx hb dX2_goIn_16 rfl (lv_at hl 1 rfl) ?_
    refine pr_places hx hb hK.1 hP ha dX2_goIn_17 ?_
    refine va_getN (D := (dC, dI)) (ci := 2) (C := RX0) (T := TX0) (N := 8) hx hb hts inX2_goIn_X0 hown hK.1 hP (10 + a.toNatClampNeg) (pz_aH (pz_lt8 ha)) rfl 0 (by decide) (va_Nw.use rfl hK.2.2.1) (fun _ h9 => h9) rfl dX2_goIn_18 ?_
    refine lv_if_ne (tgt := 26) hx hb dX2_goIn_21 (by decide) (fun c_21 => ?_) (fun c_21 => ?_)
    · refine lv_aload_n hx hb dX2_goIn_26 rfl (lv_at hl 0 rfl) ?_
      refine va_get (D := (dC, dI)) (ci := 4) (C := RX2) (T := TX2) (N := 14) hx hb hts inX2_goIn_X2 hown hK.1 hP 0 pz_a0 rfl 1 (by decide) (hts (.fieldLink RX2 18 "PowderMill" "path" "LPowderMill$Path;") (by decide +kernel)) (fun _ h9 => h9) rfl dX2_goIn_27 ?_
      refine lv_aload_n hx hb dX2_goIn_30 rfl (lv_at hl 0 rfl) ?_
      refine va_get (D := (dC, dI)) (ci := 4) (C := RX2) (T := TX2) (N := 14) hx hb hts inX2_goIn_X2 hown hK.1 hP 0 pz_a0 rfl 0 (by decide) (hts (.fieldLink RX2 11 "PowderMill" "places" "[LPowderMill$House;") (by decide +kernel)) (fun _ h9 => h9) rfl dX2_goIn_31 ?_
      refine lv_iload_n hx hb dX2_goIn_34 rfl (lv_at hl 1 rfl) ?_
      refine pr_places hx hb hK.1 hP ha dX2_goIn_35 ?_
      refine lv_iload_n hx hb dX2_goIn_36 rfl (lv_at hl 2 rfl) ?_
      refine pr_Vv (As := [.ref (ad (10 + a.toNatClampNeg)), .int b]) (rest := []) ⟨hx, hb, hml, hown, hts⟩ (c_X1_enter a.toNatClampNeg b (pz_lt8 ha) (pz_notfull hw (by rw [← e_r_1]; exact c_7))) (cwV 2 hts gX2_goIn_X1_enter rfl rfl rfl (by decide +kernel) ⟨Nat.le_of_ble_eq_true rfl, Nat.le_of_ble_eq_true rfl⟩) (va_recv hK.1 hP (ci := 3) rfl pz_a2) hK hP hD hS hA rfl hl.1 rfl (Nat.le_of_ble_eq_true rfl) ⟨Nat.le_of_ble_eq_true rfl, Nat.le_of_ble_eq_true rfl⟩ dX2_goIn_37 (fun ⟨g_4, ph_5⟩ H locs e_q_3 hP hD hS => ?_)
      obtain ⟨e_g_4, e_ph_5⟩ : g_4 = (f_X1_enter g ph a.toNatClampNeg b).1 ∧ ph_5 = (f_X1_enter g ph a.toNatClampNeg b).2 := ⟨congrArg Prod.fst e_q_3, congrArg Prod.snd e_q_3⟩
      clear e_q_3
      dsimp only at hP hD
      refine lv_iconst (v := 0) hx hb dX2_goIn_40 (by decide) ?_
      exact pr_iret (g_4, ph_5) hx hb hr hlocks hP hD hS dX2_goIn_41 (by subst e_ph_5 e_g_4 e_r_1; refine ⟨?_, ?_⟩ <;> (simp only [f_X2_goIn, if_pos c_7, if_neg c_21] <;> rfl))
    · refine lv_iconst (v := 1) hx hb dX2_goIn_24 (by decide) ?_
      exact pr_iret (g, ph) hx hb hr hlocks hP hD hS dX2_goIn_25 (by subst e_r_1; refine ⟨?_, ?_⟩ <;> (simp only [f_X2_goIn, if_pos c_7, if_pos c_21] <;> rfl))
  · refine lv_iconst (v := 2) hx hb dX2_goIn_10 (by decide) ?_
    exact pr_iret (g, ph) hx hb hr hlocks hP hD hS dX2_goIn_11 (by subst e_r_1; refine ⟨?_, ?_⟩ <;> (simp only [f_X2_goIn, if_neg c_7] <;> rfl))
theorem inX2_grind_X2 : ∀ w ∈ u_ws RX2 TX2 14, w ∈ wsX2_grind := by decide +kernel
def f_X2_grind (g : pz_M) (ph : Nat → Option Nat) (a : Int32) : Int32 × pz_M × (Nat → Option Nat) :=
  match f_X1_here g ph with
  | none =>
    (0, g, ph)
  | some k_2 =>
    let r_3 := (f_X0_receive g ph k_2 a).1
    let g_5 := (f_X0_receive g ph k_2 a).2.1
    let ph_6 := (f_X0_receive g ph k_2 a).2.2
    (r_3, g_5, ph_6)
set_option maxHeartbeats 4000000 in
set_option maxRecDepth 100000 in
theorem c_X2_grind {l : Launch} {dC : Nat → ClassId} {dI : Nat → Nat → Nat} {cl : Nat → ClassId} {ad : Nat → Nat} {ph : Nat → Option Nat} {o : Nat → Int64} {g h : pz_M} (a : Int32) (hw : pz_W g ph) : pz_Mi l dC dI cl yX2_grind wsX2_grind { frames := 1, cells := 0, slots := 0, locals := 21 } [.ref (ad 0), .int a] (pz_wd ad cl ph o g h) (fun u : pz_M × (Nat → Option Nat) => pz_wd ad cl u.2 o u.1 h) (fun r u => r = (f_X2_grind g ph a).1 ∧ u = (f_X2_grind g ph a).2) := by
  intro sz
  refine pr_ofW (Qc := pz_Qi dC dI _ _) (cb := cX2_grind) (maxL := 3) (ret := (some .int)) (by decide) rfl (Nat.le_of_ble_eq_true rfl) ?_
  intro p e s m below meth c A ls hx hb hml hr hlocks hts hown hK hP hD hS hA hl
  have hl : lv_has ls 3 [(0, .ref (ad 0)), (1, .int a)] := hl
  refine lv_aload_n hx hb dX2_grind_0 rfl (lv_at hl 0 rfl) ?_
  refine va_get (D := (dC, dI)) (ci := 4) (C := RX2) (T := TX2) (N := 14) hx hb hts inX2_grind_X2 hown hK.1 hP 0 pz_a0 rfl 1 (by decide) (hts (.fieldLink RX2 18 "PowderMill" "path" "LPowderMill$Path;") (by decide +kernel)) (fun _ h9 => h9) rfl dX2_grind_1 ?_
  refine pr_Ve (As := []) (rest := []) ⟨hx, hb, hml, hown, hts⟩ (c_X1_here hw) (cwV 0 hts gX2_grind_X1_here rfl rfl rfl (by decide +kernel) ⟨Nat.le_of_ble_eq_true rfl, Nat.le_of_ble_eq_true rfl⟩) (va_recv hK.1 hP (ci := 3) rfl pz_a2) hK hP hD hS hA rfl hl.1 rfl (Nat.le_of_ble_eq_true rfl) ⟨Nat.le_of_ble_eq_true rfl, Nat.le_of_ble_eq_true rfl⟩ dX2_grind_4 (fun r_1 _ H locs e_r_1 hP hD hS => ?_)
  cases r_1 with
  | none =>
    refine lv_astore_nN (lv' := [(2, .null), (0, .ref (ad 0)), (1, .int a)]) hx hb dX2_grind_7 rfl hl (by decide) rfl (fun ls hl => ?_)
    refine lv_aload_nN hx hb dX2_grind_8 rfl (lv_at hl 0 rfl) ?_
    refine lv_ifnonnullN hx hb dX2_grind_9 ?_
    refine lv_iconst (v := 0) hx hb dX2_grind_12 (by decide) ?_
    refine lv_goto (tgt := 21) hx hb dX2_grind_13 (by decide) ?_
    exact pr_iret (g, ph) hx hb hr hlocks hP hD hS dX2_grind_21 (by refine ⟨?_, ?_⟩ <;> (simp only [f_X2_grind, ← e_r_1] <;> rfl))
  | some k_2 =>
    have hk_2 : k_2 < 8 := pz_here8 hw e_r_1
    refine lv_astore_n (lv' := [(2, .ref (ad (10 + k_2))), (0, .ref (ad 0)), (1, .int a)]) hx hb dX2_grind_7 rfl hl (by decide) rfl (fun ls hl => ?_)
    refine lv_aload_n hx hb dX2_grind_8 rfl (lv_at hl 0 rfl) ?_
    refine lv_ifnonnull (tgt := 16) hx hb dX2_grind_9 (by decide) ?_
    refine lv_aload_n hx hb dX2_grind_16 rfl (lv_at hl 0 rfl) ?_
    refine lv_iload_n hx hb dX2_grind_17 rfl (lv_at hl 2 rfl) ?_
    refine pr_Vi (As := [.int a]) (rest := []) ⟨hx, hb, hml, hown, hts⟩ (c_X0_receive k_2 a hk_2) (cwV 1 hts gX2_grind_X0_receive rfl rfl rfl (by decide +kernel) ⟨Nat.le_of_ble_eq_true rfl, Nat.le_of_ble_eq_true rfl⟩) (va_recv hK.1 hP (ci := 2) rfl (pz_aH hk_2)) hK hP hD hS hA rfl hl.1 rfl (Nat.le_of_ble_eq_true rfl) ⟨Nat.le_of_ble_eq_true rfl, Nat.le_of_ble_eq_true rfl⟩ dX2_grind_18 (fun r_3 ⟨g_5, ph_6⟩ H locs e_q_4 hP hD hS => ?_)
    obtain ⟨e_r_3, e_q_4⟩ := e_q_4
    obtain ⟨e_g_5, e_ph_6⟩ : g_5 = (f_X0_receive g ph k_2 a).2.1 ∧ ph_6 = (f_X0_receive g ph k_2 a).2.2 := ⟨congrArg Prod.fst e_q_4, congrArg Prod.snd e_q_4⟩
    clear e_q_4
    dsimp only at hP hD
    exact pr_iret (g_5, ph_6) hx hb hr hlocks hP hD hS dX2_grind_21 (by subst e_ph_6 e_g_5 e_r_3; refine ⟨?_, ?_⟩ <;> (simp only [f_X2_grind, ← e_r_1] <;> rfl))
theorem inX2_carry_X0 : ∀ w ∈ u_ws RX0 TX0 8, w ∈ wsX2_carry := by decide +kernel
theorem inX2_carry_X2 : ∀ w ∈ u_ws RX2 TX2 14, w ∈ wsX2_carry := by decide +kernel
def f_X2_carry (g : pz_M) (ph : Nat → Option Nat) (a : Int32) : Int32 × pz_M × (Nat → Option Nat) :=
  match f_X1_here g ph with
  | none =>
    match f_X1_around g ph with
    | none =>
      (0, g, ph)
    | some k_4 =>
      (0, g, ph)
  | some k_2 =>
    match f_X1_around g ph with
    | none =>
      (0, g, ph)
    | some k_6 =>
      if a ≤ (g (10 + k_2) 2) then
        let g_7 := pz_st g (10 + k_2) 2 ((g (10 + k_2) 2) - a)
        let r_8 := (f_X0_receive g_7 ph k_6 a).1
        let g_10 := (f_X0_receive g_7 ph k_6 a).2.1
        let ph_11 := (f_X0_receive g_7 ph k_6 a).2.2
        (r_8, g_10, ph_11)
      else
        (4, g, ph)
set_option maxHeartbeats 4000000 in
set_option maxRecDepth 100000 in
theorem c_X2_carry {l : Launch} {dC : Nat → ClassId} {dI : Nat → Nat → Nat} {cl : Nat → ClassId} {ad : Nat → Nat} {ph : Nat → Option Nat} {o : Nat → Int64} {g h : pz_M} (a : Int32) (hw : pz_W g ph) : pz_Mi l dC dI cl yX2_carry wsX2_carry { frames := 1, cells := 0, slots := 0, locals := 21 } [.ref (ad 0), .int a] (pz_wd ad cl ph o g h) (fun u : pz_M × (Nat → Option Nat) => pz_wd ad cl u.2 o u.1 h) (fun r u => r = (f_X2_carry g ph a).1 ∧ u = (f_X2_carry g ph a).2) := by
  intro sz
  refine pr_ofW (Qc := pz_Qi dC dI _ _) (cb := cX2_carry) (maxL := 4) (ret := (some .int)) (by decide) rfl (Nat.le_of_ble_eq_true rfl) ?_
  intro p e s m below meth c A ls hx hb hml hr hlocks hts hown hK hP hD hS hA hl
  have hl : lv_has ls 4 [(0, .ref (ad 0)), (1, .int a)] := hl
  refine lv_aload_n hx hb dX2_carry_0 rfl (lv_at hl 0 rfl) ?_
  refine va_get (D := (dC, dI)) (ci := 4) (C := RX2) (T := TX2) (N := 14) hx hb hts inX2_carry_X2 hown hK.1 hP 0 pz_a0 rfl 1 (by decide) (hts (.fieldLink RX2 18 "PowderMill" "path" "LPowderMill$Path;") (by decide +kernel)) (fun _ h9 => h9) rfl dX2_carry_1 ?_
  refine pr_Ve (As := []) (rest := []) ⟨hx, hb, hml, hown, hts⟩ (c_X1_here hw) (cwV 0 hts gX2_carry_X1_here rfl rfl rfl (by decide +kernel) ⟨Nat.le_of_ble_eq_true rfl, Nat.le_of_ble_eq_true rfl⟩) (va_recv hK.1 hP (ci := 3) rfl pz_a2) hK hP hD hS hA rfl hl.1 rfl (Nat.le_of_ble_eq_true rfl) ⟨Nat.le_of_ble_eq_true rfl, Nat.le_of_ble_eq_true rfl⟩ dX2_carry_4 (fun r_1 _ H locs e_r_1 hP hD hS => ?_)
  cases r_1 with
  | none =>
    refine lv_astore_nN (lv' := [(2, .null), (0, .ref (ad 0)), (1, .int a)]) hx hb dX2_carry_7 rfl hl (by decide) rfl (fun ls hl => ?_)
    refine lv_aload_n hx hb dX2_carry_8 rfl (lv_at hl 1 rfl) ?_
    refine va_get (D := (dC, dI)) (ci := 4) (C := RX2) (T := TX2) (N := 14) hx hb hts inX2_carry_X2 hown hK.1 hP 0 pz_a0 rfl 1 (by decide) (hts (.fieldLink RX2 18 "PowderMill" "path" "LPowderMill$Path;") (by decide +kernel)) (fun _ h9 => h9) rfl dX2_carry_9 ?_
    refine pr_Ve (As := []) (rest := []) ⟨hx, hb, hml, hown, hts⟩ (c_X1_around hw) (cwV 0 hts gX2_carry_X1_around rfl rfl rfl (by decide +kernel) ⟨Nat.le_of_ble_eq_true rfl, Nat.le_of_ble_eq_true rfl⟩) (va_recv hK.1 hP (ci := 3) rfl pz_a2) hK hP hD hS hA rfl hl.1 rfl (Nat.le_of_ble_eq_true rfl) ⟨Nat.le_of_ble_eq_true rfl, Nat.le_of_ble_eq_true rfl⟩ dX2_carry_12 (fun r_3 _ H locs e_r_3 hP hD hS => ?_)
    cases r_3 with
    | none =>
      refine lv_astore_nN (lv' := [(3, .null), (2, .null), (0, .ref (ad 0)), (1, .int a)]) hx hb dX2_carry_15 rfl hl (by decide) rfl (fun ls hl => ?_)
      refine lv_aload_nN hx hb dX2_carry_16 rfl (lv_at hl 1 rfl) ?_
      refine lv_ifnullN (tgt := 24) hx hb dX2_carry_17 (by decide) ?_
      refine lv_iconst (v := 0) hx hb dX2_carry_24 (by decide) ?_
      exact pr_iret (g, ph) hx hb hr hlocks hP hD hS dX2_carry_25 (by refine ⟨?_, ?_⟩ <;> (simp only [f_X2_carry, ← e_r_1, ← e_r_3] <;> rfl))
    | some k_4 =>
      have hk_4 : k_4 < 8 := pz_around8 hw e_r_3
      refine lv_astore_n (lv' := [(3, .ref (ad (10 + k_4))), (2, .null), (0, .ref (ad 0)), (1, .int a)]) hx hb dX2_carry_15 rfl hl (by decide) rfl (fun ls hl => ?_)
      refine lv_aload_nN hx hb dX2_carry_16 rfl (lv_at hl 1 rfl) ?_
      refine lv_ifnullN (tgt := 24) hx hb dX2_carry_17 (by decide) ?_
      refine lv_iconst (v := 0) hx hb dX2_carry_24 (by decide) ?_
      exact pr_iret (g, ph) hx hb hr hlocks hP hD hS dX2_carry_25 (by refine ⟨?_, ?_⟩ <;> (simp only [f_X2_carry, ← e_r_1, ← e_r_3] <;> rfl))
  | some k_2 =>
    have hk_2 : k_2 < 8 := pz_here8 hw e_r_1
    refine lv_astore_n (lv' := [(2, .ref (ad (10 + k_2))), (0, .ref (ad 0)), (1, .int a)]) hx hb dX2_carry_7 rfl hl (by decide) rfl (fun ls hl => ?_)
    refine lv_aload_n hx hb dX2_carry_8 rfl (lv_at hl 1 rfl) ?_
    refine va_get (D := (dC, dI)) (ci := 4) (C := RX2) (T := TX2) (N := 14) hx hb hts inX2_carry_X2 hown hK.1 hP 0 pz_a0 rfl 1 (by decide) (hts (.fieldLink RX2 18 "PowderMill" "path" "LPowderMill$Path;") (by decide +kernel)) (fun _ h9 => h9) rfl dX2_carry_9 ?_
    refine pr_Ve (As := []) (rest := []) ⟨hx, hb, hml, hown, hts⟩ (c_X1_around hw) (cwV 0 hts gX2_carry_X1_around rfl rfl rfl (by decide +kernel) ⟨Nat.le_of_ble_eq_true rfl, Nat.le_of_ble_eq_true rfl⟩) (va_recv hK.1 hP (ci := 3) rfl pz_a2) hK hP hD hS hA rfl hl.1 rfl (Nat.le_of_ble_eq_true rfl) ⟨Nat.le_of_ble_eq_true rfl, Nat.le_of_ble_eq_true rfl⟩ dX2_carry_12 (fun r_5 _ H locs e_r_5 hP hD hS => ?_)
    cases r_5 with
    | none =>
      refine lv_astore_nN (lv' := [(3, .null), (2, .ref (ad (10 + k_2))), (0, .ref (ad 0)), (1, .int a)]) hx hb dX2_carry_15 rfl hl (by decide) rfl (fun ls hl => ?_)
      refine lv_aload_n hx hb dX2_carry_16 rfl (lv_at hl 1 rfl) ?_
      refine lv_ifnull hx hb dX2_carry_17 ?_
      refine lv_aload_nN hx hb dX2_carry_20 rfl (lv_at hl 0 rfl) ?_
      refine lv_ifnonnullN hx hb dX2_carry_21 ?_
      refine lv_iconst (v := 0) hx hb dX2_carry_24 (by decide) ?_
      exact pr_iret (g, ph) hx hb hr hlocks hP hD hS dX2_carry_25 (by refine ⟨?_, ?_⟩ <;> (simp only [f_X2_carry, ← e_r_1, ← e_r_5] <;> rfl))
    | some k_6 =>
      have hk_6 : k_6 < 8 := pz_around8 hw e_r_5
      refine lv_astore_n (lv' := [(3, .ref (ad (10 + k_6))), (2, .ref (ad (10 + k_2))), (0, .ref (ad 0)), (1, .int a)]) hx hb dX2_carry_15 rfl hl (by decide) rfl (fun ls hl => ?_)
      refine lv_aload_n hx hb dX2_carry_16 rfl (lv_at hl 1 rfl) ?_
      refine lv_ifnull hx hb dX2_carry_17 ?_
      refine lv_aload_n hx hb dX2_carry_20 rfl (lv_at hl 0 rfl) ?_
      refine lv_ifnonnull (tgt := 26) hx hb dX2_carry_21 (by decide) ?_
      refine lv_aload_n hx hb dX2_carry_26 rfl (lv_at hl 1 rfl) ?_
      refine va_getN (D := (dC, dI)) (ci := 2) (C := RX0) (T := TX0) (N := 8) hx hb hts inX2_carry_X0 hown hK.1 hP (10 + k_2) (pz_aH hk_2) rfl 2 (by decide) (va_Nw.use rfl hK.2.1) (fun _ h9 => h9) rfl dX2_carry_27 ?_
      refine lv_iload_n hx hb dX2_carry_30 rfl (lv_at hl 3 rfl) ?_
      refine lv_icmp_ge (tgt := 36) hx hb dX2_carry_31 (by decide) (fun c_31 => ?_) (fun c_31 => ?_)
      · refine lv_aload_n hx hb dX2_carry_36 rfl (lv_at hl 1 rfl) ?_
        refine lv_dup hx hb dX2_carry_37 rfl ?_
        refine va_getN (D := (dC, dI)) (ci := 2) (C := RX0) (T := TX0) (N := 8) hx hb hts inX2_carry_X0 hown hK.1 hP (10 + k_2) (pz_aH hk_2) rfl 2 (by decide) (va_Nw.use rfl hK.2.1) (fun _ h9 => h9) rfl dX2_carry_38 ?_
        refine lv_iload_n hx hb dX2_carry_41 rfl (lv_at hl 3 rfl) ?_
        refine lv_isub hx hb dX2_carry_42 ?_
        refine pr_putN (ci := 2) (C := RX0) (T := TX0) (N := 8) (ty := .int) (v := ((g (10 + k_2) 2) - a)) hx hb hts inX2_carry_X0 tyX0 tyX0_ok nmX0 hown hK.1 hP hD hS (10 + k_2) (by have := hk_2; omega) (pz_aH hk_2) rfl 2 (by decide) (va_Nw.use rfl hK.2.1) (fun _ h9 => h9) rfl (by decide +kernel) rfl rfl (Nat.le_of_ble_eq_true rfl) (by rw [pz_ceH hk_2]; rfl) dX2_carry_43 (fun g_7 H locs e_g_7 hP hD hS => ?_)
        refine lv_aload_n hx hb dX2_carry_46 rfl (lv_at hl 0 rfl) ?_
        refine lv_iload_n hx hb dX2_carry_47 rfl (lv_at hl 3 rfl) ?_
        refine pr_Vi (As := [.int a]) (rest := []) ⟨hx, hb, hml, hown, hts⟩ (c_X0_receive k_6 a hk_6) (cwV 1 hts gX2_carry_X0_receive rfl rfl rfl (by decide +kernel) ⟨Nat.le_of_ble_eq_true rfl, Nat.le_of_ble_eq_true rfl⟩) (va_recv hK.1 hP (ci := 2) rfl (pz_aH hk_6)) hK hP hD hS hA rfl hl.1 rfl (Nat.le_of_ble_eq_true rfl) ⟨Nat.le_of_ble_eq_true rfl, Nat.le_of_ble_eq_true rfl⟩ dX2_carry_48 (fun r_8 ⟨g_10, ph_11⟩ H locs e_q_9 hP hD hS => ?_)
        obtain ⟨e_r_8, e_q_9⟩ := e_q_9
        obtain ⟨e_g_10, e_ph_11⟩ : g_10 = (f_X0_receive g_7 ph k_6 a).2.1 ∧ ph_11 = (f_X0_receive g_7 ph k_6 a).2.2 := ⟨congrArg Prod.fst e_q_9, congrArg Prod.snd e_q_9⟩
        clear e_q_9
        dsimp only at hP hD
        exact pr_iret (g_10, ph_11) hx hb hr hlocks hP hD hS dX2_carry_51 (by subst e_ph_11 e_g_10 e_r_8 e_g_7; refine ⟨?_, ?_⟩ <;> (simp only [f_X2_carry, if_pos c_31, ← e_r_1, ← e_r_5] <;> rfl))
      · refine lv_iconst (v := 4) hx hb dX2_carry_34 (by decide) ?_
        exact pr_iret (g, ph) hx hb hr hlocks hP hD hS dX2_carry_35 (by refine ⟨?_, ?_⟩ <;> (simp only [f_X2_carry, if_neg c_31, ← e_r_1, ← e_r_5] <;> rfl))
theorem inX2_share_X0 : ∀ w ∈ u_ws RX0 TX0 8, w ∈ wsX2_share := by decide +kernel
theorem inX2_share_X2 : ∀ w ∈ u_ws RX2 TX2 14, w ∈ wsX2_share := by decide +kernel
def f_X2_share (g : pz_M) (ph : Nat → Option Nat) (a : Int32) : Int32 × pz_M × (Nat → Option Nat) :=
  match f_X1_here g ph with
  | none =>
    (0, g, ph)
  | some k_2 =>
    if a = 0 then
      (5, g, ph)
    else
      let g_3 := pz_st g (10 + k_2) 2 ((g (10 + k_2) 2) / a)
      (0, g_3, ph)
set_option maxHeartbeats 4000000 in
set_option maxRecDepth 100000 in
theorem c_X2_share {l : Launch} {dC : Nat → ClassId} {dI : Nat → Nat → Nat} {cl : Nat → ClassId} {ad : Nat → Nat} {ph : Nat → Option Nat} {o : Nat → Int64} {g h : pz_M} (a : Int32) (hw : pz_W g ph) : pz_Mi l dC dI cl yX2_share wsX2_share { frames := 1, cells := 0, slots := 0, locals := 20 } [.ref (ad 0), .int a] (pz_wd ad cl ph o g h) (fun u : pz_M × (Nat → Option Nat) => pz_wd ad cl u.2 o u.1 h) (fun r u => r = (f_X2_share g ph a).1 ∧ u = (f_X2_share g ph a).2) := by
  intro sz
  refine pr_ofW (Qc := pz_Qi dC dI _ _) (cb := cX2_share) (maxL := 3) (ret := (some .int)) (by decide) rfl (Nat.le_of_ble_eq_true rfl) ?_
  intro p e s m below meth c A ls hx hb hml hr hlocks hts hown hK hP hD hS hA hl
  have hl : lv_has ls 3 [(0, .ref (ad 0)), (1, .int a)] := hl
  refine lv_aload_n hx hb dX2_share_0 rfl (lv_at hl 0 rfl) ?_
  refine va_get (D := (dC, dI)) (ci := 4) (C := RX2) (T := TX2) (N := 14) hx hb hts inX2_share_X2 hown hK.1 hP 0 pz_a0 rfl 1 (by decide) (hts (.fieldLink RX2 18 "PowderMill" "path" "LPowderMill$Path;") (by decide +kernel)) (fun _ h9 => h9) rfl dX2_share_1 ?_
  refine pr_Ve (As := []) (rest := []) ⟨hx, hb, hml, hown, hts⟩ (c_X1_here hw) (cwV 0 hts gX2_share_X1_here rfl rfl rfl (by decide +kernel) ⟨Nat.le_of_ble_eq_true rfl, Nat.le_of_ble_eq_true rfl⟩) (va_recv hK.1 hP (ci := 3) rfl pz_a2) hK hP hD hS hA rfl hl.1 rfl (Nat.le_of_ble_eq_true rfl) ⟨Nat.le_of_ble_eq_true rfl, Nat.le_of_ble_eq_true rfl⟩ dX2_share_4 (fun r_1 _ H locs e_r_1 hP hD hS => ?_)
  cases r_1 with
  | none =>
    refine lv_astore_nN (lv' := [(2, .null), (0, .ref (ad 0)), (1, .int a)]) hx hb dX2_share_7 rfl hl (by decide) rfl (fun ls hl => ?_)
    refine lv_aload_nN hx hb dX2_share_8 rfl (lv_at hl 0 rfl) ?_
    refine lv_ifnonnullN hx hb dX2_share_9 ?_
    refine lv_iconst (v := 0) hx hb dX2_share_12 (by decide) ?_
    exact pr_iret (g, ph) hx hb hr hlocks hP hD hS dX2_share_13 (by refine ⟨?_, ?_⟩ <;> (simp only [f_X2_share, ← e_r_1] <;> rfl))
  | some k_2 =>
    have hk_2 : k_2 < 8 := pz_here8 hw e_r_1
    refine lv_astore_n (lv' := [(2, .ref (ad (10 + k_2))), (0, .ref (ad 0)), (1, .int a)]) hx hb dX2_share_7 rfl hl (by decide) rfl (fun ls hl => ?_)
    refine lv_aload_n hx hb dX2_share_8 rfl (lv_at hl 0 rfl) ?_
    refine lv_ifnonnull (tgt := 14) hx hb dX2_share_9 (by decide) ?_
    refine lv_iload_n hx hb dX2_share_14 rfl (lv_at hl 2 rfl) ?_
    refine lv_if_ne (tgt := 20) hx hb dX2_share_15 (by decide) (fun c_15 => ?_) (fun c_15 => ?_)
    · refine lv_aload_n hx hb dX2_share_20 rfl (lv_at hl 0 rfl) ?_
      refine lv_dup hx hb dX2_share_21 rfl ?_
      refine va_getN (D := (dC, dI)) (ci := 2) (C := RX0) (T := TX0) (N := 8) hx hb hts inX2_share_X0 hown hK.1 hP (10 + k_2) (pz_aH hk_2) rfl 2 (by decide) (va_Nw.use rfl hK.2.1) (fun _ h9 => h9) rfl dX2_share_22 ?_
      refine lv_iload_n hx hb dX2_share_25 rfl (lv_at hl 2 rfl) ?_
      refine lv_idiv hx hb dX2_share_26 c_15 ?_
      refine pr_putN (ci := 2) (C := RX0) (T := TX0) (N := 8) (ty := .int) (v := ((g (10 + k_2) 2) / a)) hx hb hts inX2_share_X0 tyX0 tyX0_ok nmX0 hown hK.1 hP hD hS (10 + k_2) (by have := hk_2; omega) (pz_aH hk_2) rfl 2 (by decide) (va_Nw.use rfl hK.2.1) (fun _ h9 => h9) rfl (by decide +kernel) rfl rfl (Nat.le_of_ble_eq_true rfl) (by rw [pz_ceH hk_2]; rfl) dX2_share_27 (fun g_3 H locs e_g_3 hP hD hS => ?_)
      refine lv_iconst (v := 0) hx hb dX2_share_30 (by decide) ?_
      exact pr_iret (g_3, ph) hx hb hr hlocks hP hD hS dX2_share_31 (by subst e_g_3; refine ⟨?_, ?_⟩ <;> (simp only [f_X2_share, if_neg c_15, ← e_r_1] <;> rfl))
    · refine lv_iconst (v := 5) hx hb dX2_share_18 (by decide) ?_
      exact pr_iret (g, ph) hx hb hr hlocks hP hD hS dX2_share_19 (by refine ⟨?_, ?_⟩ <;> (simp only [f_X2_share, if_pos c_15, ← e_r_1] <;> rfl))
theorem inX2_write_X0 : ∀ w ∈ u_ws RX0 TX0 8, w ∈ wsX2_write := by decide +kernel
theorem inX2_write_X2 : ∀ w ∈ u_ws RX2 TX2 14, w ∈ wsX2_write := by decide +kernel
def f_X2_write (g : pz_M) (ph : Nat → Option Nat) (a : Int32) : Int32 × pz_M × (Nat → Option Nat) :=
  let r_1 := f_X2_isRow a
  if r_1 = 0 then
    (6, g, ph)
  else
    match f_X1_here g ph with
    | none =>
      let g_4 := pz_st g 3 a.toNatClampNeg (-1)
      (0, g_4, ph)
    | some k_3 =>
      let g_5 := pz_st g 3 a.toNatClampNeg (g (10 + k_3) 2)
      (0, g_5, ph)
set_option maxHeartbeats 4000000 in
set_option maxRecDepth 100000 in
theorem c_X2_write {l : Launch} {dC : Nat → ClassId} {dI : Nat → Nat → Nat} {cl : Nat → ClassId} {ad : Nat → Nat} {ph : Nat → Option Nat} {o : Nat → Int64} {g h : pz_M} (a : Int32) (hw : pz_W g ph) : pz_Mi l dC dI cl yX2_write wsX2_write { frames := 1, cells := 0, slots := 0, locals := 20 } [.ref (ad 0), .int a] (pz_wd ad cl ph o g h) (fun u : pz_M × (Nat → Option Nat) => pz_wd ad cl u.2 o u.1 h) (fun r u => r = (f_X2_write g ph a).1 ∧ u = (f_X2_write g ph a).2) := by
  intro sz
  refine pr_ofW (Qc := pz_Qi dC dI _ _) (cb := cX2_write) (maxL := 3) (ret := (some .int)) (by decide) rfl (Nat.le_of_ble_eq_true rfl) ?_
  intro p e s m below meth c A ls hx hb hml hr hlocks hts hown hK hP hD hS hA hl
  have hl : lv_has ls 3 [(0, .ref (ad 0)), (1, .int a)] := hl
  refine lv_iload_n hx hb dX2_write_0 rfl (lv_at hl 1 rfl) ?_
  refine pr_Si (As := [.int a]) (rest := []) ⟨hx, hb, hml, hown, hts⟩ (c_X2_isRow a) (va_cwS 1 hts gX2_write_X2_isRow rfl rfl rfl (by decide +kernel) ⟨Nat.le_of_ble_eq_true rfl, Nat.le_of_ble_eq_true rfl⟩) hK hP hD hS hA rfl hl.1 rfl (Nat.le_of_ble_eq_true rfl) ⟨Nat.le_of_ble_eq_true rfl, Nat.le_of_ble_eq_true rfl⟩ dX2_write_1 (fun r_1 _ H locs e_r_1 hP hD hS => ?_)
  refine lv_if_ne (tgt := 10) hx hb dX2_write_4 (by decide) (fun c_4 => ?_) (fun c_4 => ?_)
  · have i1 : vp_in a 8 := pz_row (by rw [← e_r_1]; exact c_4)
    refine lv_aload_n hx hb dX2_write_10 rfl (lv_at hl 0 rfl) ?_
    refine va_get (D := (dC, dI)) (ci := 4) (C := RX2) (T := TX2) (N := 14) hx hb hts inX2_write_X2 hown hK.1 hP 0 pz_a0 rfl 1 (by decide) (hts (.fieldLink RX2 18 "PowderMill" "path" "LPowderMill$Path;") (by decide +kernel)) (fun _ h9 => h9) rfl dX2_write_11 ?_
    refine pr_Ve (As := []) (rest := []) ⟨hx, hb, hml, hown, hts⟩ (c_X1_here hw) (cwV 0 hts gX2_write_X1_here rfl rfl rfl (by decide +kernel) ⟨Nat.le_of_ble_eq_true rfl, Nat.le_of_ble_eq_true rfl⟩) (va_recv hK.1 hP (ci := 3) rfl pz_a2) hK hP hD hS hA rfl hl.1 rfl (Nat.le_of_ble_eq_true rfl) ⟨Nat.le_of_ble_eq_true rfl, Nat.le_of_ble_eq_true rfl⟩ dX2_write_14 (fun r_2 _ H locs e_r_2 hP hD hS => ?_)
    cases r_2 with
    | none =>
      refine lv_astore_nN (lv' := [(2, .null), (0, .ref (ad 0)), (1, .int a)]) hx hb dX2_write_17 rfl hl (by decide) rfl (fun ls hl => ?_)
      refine lv_aload_n hx hb dX2_write_18 rfl (lv_at hl 1 rfl) ?_
      refine va_get (D := (dC, dI)) (ci := 4) (C := RX2) (T := TX2) (N := 14) hx hb hts inX2_write_X2 hown hK.1 hP 0 pz_a0 rfl 2 (by decide) (hts (.fieldLink RX2 22 "PowderMill" "ledger" "[I") (by decide +kernel)) (fun _ h9 => h9) rfl dX2_write_19 ?_
      refine lv_iload_n hx hb dX2_write_22 rfl (lv_at hl 2 rfl) ?_
      refine lv_aload_nN hx hb dX2_write_23 rfl (lv_at hl 0 rfl) ?_
      refine lv_ifnonnullN hx hb dX2_write_24 ?_
      refine lv_iconst (v := (-1)) hx hb dX2_write_27 (by decide) ?_
      refine lv_goto (tgt := 35) hx hb dX2_write_28 (by decide) ?_
      refine pr_iastC hx hb hK.1 hP hD hS 3 (by omega) pz_a3 (fun _ => rfl) i1 dX2_write_35 (fun g_4 H locs e_g_4 hP hD hS => ?_)
      refine lv_iconst (v := 0) hx hb dX2_write_36 (by decide) ?_
      exact pr_iret (g_4, ph) hx hb hr hlocks hP hD hS dX2_write_37 (by subst e_g_4 e_r_1; refine ⟨?_, ?_⟩ <;> (simp only [f_X2_write, if_neg c_4, ← e_r_2] <;> rfl))
    | some k_3 =>
      have hk_3 : k_3 < 8 := pz_here8 hw e_r_2
      refine lv_astore_n (lv' := [(2, .ref (ad (10 + k_3))), (0, .ref (ad 0)), (1, .int a)]) hx hb dX2_write_17 rfl hl (by decide) rfl (fun ls hl => ?_)
      refine lv_aload_n hx hb dX2_write_18 rfl (lv_at hl 1 rfl) ?_
      refine va_get (D := (dC, dI)) (ci := 4) (C := RX2) (T := TX2) (N := 14) hx hb hts inX2_write_X2 hown hK.1 hP 0 pz_a0 rfl 2 (by decide) (hts (.fieldLink RX2 22 "PowderMill" "ledger" "[I") (by decide +kernel)) (fun _ h9 => h9) rfl dX2_write_19 ?_
      refine lv_iload_n hx hb dX2_write_22 rfl (lv_at hl 2 rfl) ?_
      refine lv_aload_n hx hb dX2_write_23 rfl (lv_at hl 0 rfl) ?_
      refine lv_ifnonnull (tgt := 31) hx hb dX2_write_24 (by decide) ?_
      refine lv_aload_n hx hb dX2_write_31 rfl (lv_at hl 0 rfl) ?_
      refine va_getN (D := (dC, dI)) (ci := 2) (C := RX0) (T := TX0) (N := 8) hx hb hts inX2_write_X0 hown hK.1 hP (10 + k_3) (pz_aH hk_3) rfl 2 (by decide) (va_Nw.use rfl hK.2.1) (fun _ h9 => h9) rfl dX2_write_32 ?_
      refine pr_iastC hx hb hK.1 hP hD hS 3 (by omega) pz_a3 (fun _ => rfl) i1 dX2_write_35 (fun g_5 H locs e_g_5 hP hD hS => ?_)
      refine lv_iconst (v := 0) hx hb dX2_write_36 (by decide) ?_
      exact pr_iret (g_5, ph) hx hb hr hlocks hP hD hS dX2_write_37 (by subst e_g_5 e_r_1; refine ⟨?_, ?_⟩ <;> (simp only [f_X2_write, if_neg c_4, ← e_r_2] <;> rfl))
  · refine lv_bipush (v := 6) hx hb dX2_write_7 (by decide) ?_
    exact pr_iret (g, ph) hx hb hr hlocks hP hD hS dX2_write_9 (by subst e_r_1; refine ⟨?_, ?_⟩ <;> (simp only [f_X2_write, if_pos c_4] <;> rfl))
