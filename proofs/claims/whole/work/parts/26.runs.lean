theorem inX2_run_X2 : ∀ w ∈ u_ws RX2 TX2 14, w ∈ wsX2_run := by decide +kernel
def f_X2_run (g : pz_M) (ph : Nat → Option Nat) : Int32 × pz_M × (Nat → Option Nat) :=
  let g_1 := pz_st g 0 10 ((g 0 10) + 1)
  let g_2 := pz_st g_1 0 7 0
  let g_3 := pz_st g_2 0 6 0
  let r_4 := (f_X2_followOrder g_3 ph).1
  let g_6 := (f_X2_followOrder g_3 ph).2.1
  let ph_7 := (f_X2_followOrder g_3 ph).2.2
  let g_10 := (f_X1_leaveDownTo g_6 ph_7 0).1
  let ph_11 := (f_X1_leaveDownTo g_6 ph_7 0).2
  if r_4 = (-3) then
    let g_13 := pz_st g_10 0 12 ((g_10 0 12) + 1)
    ((-3), g_13, ph_11)
  else
    if r_4 = 0 then
      (g_10 0 7, g_10, ph_11)
    else
      let g_12 := pz_st g_10 0 11 ((g_10 0 11) + 1)
      ((-10) - r_4, g_12, ph_11)
set_option maxHeartbeats 4000000 in
set_option maxRecDepth 100000 in
theorem c_X2_run {l : Launch} {dC : Nat → ClassId} {dI : Nat → Nat → Nat} {cl : Nat → ClassId} {ad : Nat → Nat} {ph : Nat → Option Nat} {o : Nat → Int64} {g h : pz_M} (hI : pz_IC 81 (pz_st (pz_st (pz_st g 0 10 (g 0 10 + 1)) 0 7 0) 0 6 0) ph) (hW : pz_W (f_X2_followOrder (pz_st (pz_st (pz_st g 0 10 (g 0 10 + 1)) 0 7 0) 0 6 0) ph).2.1 (f_X2_followOrder (pz_st (pz_st (pz_st g 0 10 (g 0 10 + 1)) 0 7 0) 0 6 0) ph).2.2) : pz_Mi l dC dI cl yX2_run wsX2_run { frames := 4, cells := 0, slots := 0, locals := 88 } [.ref (ad 0)] (pz_wd ad cl ph o g h) (fun u : pz_M × (Nat → Option Nat) => pz_wd ad cl u.2 o u.1 h) (fun r u => r = (f_X2_run g ph).1 ∧ u = (f_X2_run g ph).2) := by
  intro sz
  refine pr_ofW (Qc := pz_Qi dC dI _ _) (cb := cX2_run) (maxL := 2) (ret := (some .int)) (by decide) rfl (Nat.le_of_ble_eq_true rfl) ?_
  intro p e s m below meth c A ls hx hb hml hr hlocks hts hown hK hP hD hS hA hl
  have hl : lv_has ls 2 [(0, .ref (ad 0))] := hl
  refine lv_aload_n hx hb dX2_run_0 rfl (lv_at hl 0 rfl) ?_
  refine lv_dup hx hb dX2_run_1 rfl ?_
  refine va_get (D := (dC, dI)) (ci := 4) (C := RX2) (T := TX2) (N := 14) hx hb hts inX2_run_X2 hown hK.1 hP 0 pz_a0 rfl 10 (by decide) (hts (.fieldLink RX2 48 "PowderMill" "runs" "I") (by decide +kernel)) (fun _ h9 => h9) rfl dX2_run_2 ?_
  refine lv_iconst (v := 1) hx hb dX2_run_5 (by decide) ?_
  refine lv_iadd hx hb dX2_run_6 ?_
  refine pr_putC (ci := 4) (C := RX2) (T := TX2) (N := 14) (ty := .int) (v := ((g 0 10) + 1)) hx hb hts inX2_run_X2 tyX2 tyX2_ok nmX2 hown hK.1 hP hD hS 0 (by omega) pz_a0 rfl 10 (by decide) (hts (.fieldLink RX2 48 "PowderMill" "runs" "I") (by decide +kernel)) (fun _ h9 => h9) rfl (by decide +kernel) rfl rfl (Nat.le_of_ble_eq_true rfl) rfl dX2_run_7 (fun g_1 H locs e_g_1 hP hD hS => ?_)
  refine lv_aload_n hx hb dX2_run_10 rfl (lv_at hl 0 rfl) ?_
  refine lv_iconst (v := 0) hx hb dX2_run_11 (by decide) ?_
  refine pr_putC (ci := 4) (C := RX2) (T := TX2) (N := 14) (ty := .int) (v := 0) hx hb hts inX2_run_X2 tyX2 tyX2_ok nmX2 hown hK.1 hP hD hS 0 (by omega) pz_a0 rfl 7 (by decide) (hts (.fieldLink RX2 39 "PowderMill" "latestBegun" "I") (by decide +kernel)) (fun _ h9 => h9) rfl (by decide +kernel) rfl rfl (Nat.le_of_ble_eq_true rfl) rfl dX2_run_12 (fun g_2 H locs e_g_2 hP hD hS => ?_)
  refine lv_aload_n hx hb dX2_run_15 rfl (lv_at hl 0 rfl) ?_
  refine lv_iconst (v := 0) hx hb dX2_run_16 (by decide) ?_
  refine pr_putC (ci := 4) (C := RX2) (T := TX2) (N := 14) (ty := .int) (v := 0) hx hb hts inX2_run_X2 tyX2 tyX2_ok nmX2 hown hK.1 hP hD hS 0 (by omega) pz_a0 rfl 6 (by decide) (hts (.fieldLink RX2 36 "PowderMill" "nextStep" "I") (by decide +kernel)) (fun _ h9 => h9) rfl (by decide +kernel) rfl rfl (Nat.le_of_ble_eq_true rfl) rfl dX2_run_17 (fun g_3 H locs e_g_3 hP hD hS => ?_)
  refine lv_aload_n hx hb dX2_run_20 rfl (lv_at hl 0 rfl) ?_
  refine pr_Vi (As := []) (rest := []) ⟨hx, hb, hml, hown, hts⟩ (c_X2_followOrder (by subst e_g_3 e_g_2 e_g_1; exact hI)) (cwV 0 hts gX2_run_X2_followOrder rfl rfl rfl (by decide +kernel) ⟨Nat.le_of_ble_eq_true rfl, Nat.le_of_ble_eq_true rfl⟩) (va_recv hK.1 hP (ci := 4) rfl pz_a0) hK hP hD hS hA rfl hl.1 rfl (Nat.le_of_ble_eq_true rfl) ⟨Nat.le_of_ble_eq_true rfl, Nat.le_of_ble_eq_true rfl⟩ dX2_run_21 (fun r_4 ⟨g_6, ph_7⟩ H locs e_q_5 hP hD hS => ?_)
  obtain ⟨e_r_4, e_q_5⟩ := e_q_5
  obtain ⟨e_g_6, e_ph_7⟩ : g_6 = (f_X2_followOrder g_3 ph).2.1 ∧ ph_7 = (f_X2_followOrder g_3 ph).2.2 := ⟨congrArg Prod.fst e_q_5, congrArg Prod.snd e_q_5⟩
  clear e_q_5
  dsimp only at hP hD
  refine lv_istore_n (lv' := [(1, .int r_4), (0, .ref (ad 0))]) hx hb dX2_run_24 rfl hl (by decide) rfl (fun ls hl => ?_)
  refine lv_aload_n hx hb dX2_run_25 rfl (lv_at hl 1 rfl) ?_
  refine va_get (D := (dC, dI)) (ci := 4) (C := RX2) (T := TX2) (N := 14) hx hb hts inX2_run_X2 hown hK.1 hP 0 pz_a0 rfl 1 (by decide) (hts (.fieldLink RX2 18 "PowderMill" "path" "LPowderMill$Path;") (by decide +kernel)) (fun _ h9 => h9) rfl dX2_run_26 ?_
  refine lv_iconst (v := 0) hx hb dX2_run_29 (by decide) ?_
  refine pr_Vv (As := [.int 0]) (rest := []) ⟨hx, hb, hml, hown, hts⟩ (c_X1_leaveDownTo 0 (by subst e_ph_7 e_g_6 e_r_4 e_g_3 e_g_2 e_g_1; exact hW)) (cwV 1 hts gX2_run_X1_leaveDownTo rfl rfl rfl (by decide +kernel) ⟨Nat.le_of_ble_eq_true rfl, Nat.le_of_ble_eq_true rfl⟩) (va_recv hK.1 hP (ci := 3) rfl pz_a2) hK hP hD hS hA rfl hl.1 rfl (Nat.le_of_ble_eq_true rfl) ⟨Nat.le_of_ble_eq_true rfl, Nat.le_of_ble_eq_true rfl⟩ dX2_run_30 (fun ⟨g_10, ph_11⟩ H locs e_q_9 hP hD hS => ?_)
  obtain ⟨e_g_10, e_ph_11⟩ : g_10 = (f_X1_leaveDownTo g_6 ph_7 0).1 ∧ ph_11 = (f_X1_leaveDownTo g_6 ph_7 0).2 := ⟨congrArg Prod.fst e_q_9, congrArg Prod.snd e_q_9⟩
  clear e_q_9
  dsimp only at hP hD
  refine lv_iload_n hx hb dX2_run_33 rfl (lv_at hl 0 rfl) ?_
  refine lv_bipush (v := (-3)) hx hb dX2_run_34 (by decide) ?_
  refine lv_icmp_ne (tgt := 52) hx hb dX2_run_36 (by decide) (fun c_36 => ?_) (fun c_36 => ?_)
  · refine lv_iload_n hx hb dX2_run_52 rfl (lv_at hl 0 rfl) ?_
    refine lv_if_eq (tgt := 71) hx hb dX2_run_53 (by decide) (fun c_53 => ?_) (fun c_53 => ?_)
    · refine lv_aload_n hx hb dX2_run_71 rfl (lv_at hl 1 rfl) ?_
      refine va_get (D := (dC, dI)) (ci := 4) (C := RX2) (T := TX2) (N := 14) hx hb hts inX2_run_X2 hown hK.1 hP 0 pz_a0 rfl 7 (by decide) (hts (.fieldLink RX2 39 "PowderMill" "latestBegun" "I") (by decide +kernel)) (fun _ h9 => h9) rfl dX2_run_72 ?_
      exact pr_iret (g_10, ph_11) hx hb hr hlocks hP hD hS dX2_run_75 (by subst e_ph_11 e_g_10 e_ph_7 e_g_6 e_r_4 e_g_3 e_g_2 e_g_1; refine ⟨?_, ?_⟩ <;> (simp only [f_X2_run, if_neg c_36, if_pos c_53] <;> rfl))
    · refine lv_aload_n hx hb dX2_run_56 rfl (lv_at hl 1 rfl) ?_
      refine lv_dup hx hb dX2_run_57 rfl ?_
      refine va_get (D := (dC, dI)) (ci := 4) (C := RX2) (T := TX2) (N := 14) hx hb hts inX2_run_X2 hown hK.1 hP 0 pz_a0 rfl 11 (by decide) (hts (.fieldLink RX2 51 "PowderMill" "faultRuns" "I") (by decide +kernel)) (fun _ h9 => h9) rfl dX2_run_58 ?_
      refine lv_iconst (v := 1) hx hb dX2_run_61 (by decide) ?_
      refine lv_iadd hx hb dX2_run_62 ?_
      refine pr_putC (ci := 4) (C := RX2) (T := TX2) (N := 14) (ty := .int) (v := ((g_10 0 11) + 1)) hx hb hts inX2_run_X2 tyX2 tyX2_ok nmX2 hown hK.1 hP hD hS 0 (by omega) pz_a0 rfl 11 (by decide) (hts (.fieldLink RX2 51 "PowderMill" "faultRuns" "I") (by decide +kernel)) (fun _ h9 => h9) rfl (by decide +kernel) rfl rfl (Nat.le_of_ble_eq_true rfl) rfl dX2_run_63 (fun g_12 H locs e_g_12 hP hD hS => ?_)
      refine lv_bipush (v := (-10)) hx hb dX2_run_66 (by decide) ?_
      refine lv_iload_n hx hb dX2_run_68 rfl (lv_at hl 0 rfl) ?_
      refine lv_isub hx hb dX2_run_69 ?_
      exact pr_iret (g_12, ph_11) hx hb hr hlocks hP hD hS dX2_run_70 (by subst e_g_12 e_ph_11 e_g_10 e_ph_7 e_g_6 e_r_4 e_g_3 e_g_2 e_g_1; refine ⟨?_, ?_⟩ <;> (simp only [f_X2_run, if_neg c_36, if_neg c_53] <;> rfl))
  · refine lv_aload_n hx hb dX2_run_39 rfl (lv_at hl 1 rfl) ?_
    refine lv_dup hx hb dX2_run_40 rfl ?_
    refine va_get (D := (dC, dI)) (ci := 4) (C := RX2) (T := TX2) (N := 14) hx hb hts inX2_run_X2 hown hK.1 hP 0 pz_a0 rfl 12 (by decide) (hts (.fieldLink RX2 54 "PowderMill" "spentRuns" "I") (by decide +kernel)) (fun _ h9 => h9) rfl dX2_run_41 ?_
    refine lv_iconst (v := 1) hx hb dX2_run_44 (by decide) ?_
    refine lv_iadd hx hb dX2_run_45 ?_
    refine pr_putC (ci := 4) (C := RX2) (T := TX2) (N := 14) (ty := .int) (v := ((g_10 0 12) + 1)) hx hb hts inX2_run_X2 tyX2 tyX2_ok nmX2 hown hK.1 hP hD hS 0 (by omega) pz_a0 rfl 12 (by decide) (hts (.fieldLink RX2 54 "PowderMill" "spentRuns" "I") (by decide +kernel)) (fun _ h9 => h9) rfl (by decide +kernel) rfl rfl (Nat.le_of_ble_eq_true rfl) rfl dX2_run_46 (fun g_13 H locs e_g_13 hP hD hS => ?_)
    refine lv_bipush (v := (-3)) hx hb dX2_run_49 (by decide) ?_
    exact pr_iret (g_13, ph_11) hx hb hr hlocks hP hD hS dX2_run_51 (by subst e_g_13 e_ph_11 e_g_10 e_ph_7 e_g_6 e_r_4 e_g_3 e_g_2 e_g_1; refine ⟨?_, ?_⟩ <;> (simp only [f_X2_run, if_pos c_36] <;> rfl))
theorem inX3_run_X3 : ∀ w ∈ u_ws RX3 TX3 20, w ∈ wsX3_run := by decide +kernel
def f_mrl : Nat → pz_M → Int32 × pz_M
  | 0, w => (0, w)
  | n + 1, w =>
    if (w 18 8) ≤ (w 18 15) then
      if (w 18 16) = 0 then
        let h_101 := pz_st w 31 (5 : Int32).toNatClampNeg ((w 31 (5 : Int32).toNatClampNeg) + 0)
        (h_101 18 17, h_101)
      else
        let h_102 := pz_st w 31 (5 : Int32).toNatClampNeg ((w 31 (5 : Int32).toNatClampNeg) + 1)
        (h_102 18 17, h_102)
    else
      if (w 18 16) = 0 then
        if (w 18 17) = 80 then
          let h_116 := pz_st w 31 (4 : Int32).toNatClampNeg ((w 31 (4 : Int32).toNatClampNeg) + 1)
          ((-3), h_116)
        else
          let h_105 := pz_st w 18 17 ((w 18 17) + 1)
          let h_106 := pz_st h_105 18 15 ((h_105 18 15) + 1)
          let r_107 := (f_X3_does h_106 (h_106 26 (h_105 18 15).toNatClampNeg) (h_106 27 (h_105 18 15).toNatClampNeg)).1
          let h_109 := (f_X3_does h_106 (h_106 26 (h_105 18 15).toNatClampNeg) (h_106 27 (h_105 18 15).toNatClampNeg)).2
          if r_107 = 0 then
            f_mrl n h_109
          else
            let h_110 := pz_st h_109 18 18 (h_105 18 15)
            let h_111 := pz_st h_110 31 (10 + r_107).toNatClampNeg ((h_110 31 (10 + r_107).toNatClampNeg) + 1)
            let r_112 := (f_X3_isCaught h_111).1
            let h_114 := (f_X3_isCaught h_111).2
            if r_112 = 0 then
              let h_115 := pz_st h_114 31 (3 : Int32).toNatClampNeg ((h_114 31 (3 : Int32).toNatClampNeg) + 1)
              ((-10) - r_107, h_115)
            else
              f_mrl n h_114
      else
        if (w 18 16) = 0 then
          let h_103 := pz_st w 31 (5 : Int32).toNatClampNeg ((w 31 (5 : Int32).toNatClampNeg) + 0)
          (h_103 18 17, h_103)
        else
          let h_104 := pz_st w 31 (5 : Int32).toNatClampNeg ((w 31 (5 : Int32).toNatClampNeg) + 1)
          (h_104 18 17, h_104)
def f_X3_run (h : pz_M) : Int32 × pz_M :=
  let h_1 := pz_st h 18 0 0
  let h_2 := pz_st h_1 31 (2 : Int32).toNatClampNeg ((h_1 31 (2 : Int32).toNatClampNeg) + 1)
  let h_3 := pz_st h_2 18 17 0
  let h_4 := pz_st h_3 18 11 0
  let h_5 := pz_st h_4 18 15 0
  let h_6 := pz_st h_5 18 16 0
  f_mrl 82 h_6
set_option maxHeartbeats 4000000 in
set_option maxRecDepth 100000 in
theorem c_X3_run {l : Launch} {dC : Nat → ClassId} {dI : Nat → Nat → Nat} {cl : Nat → ClassId} {ad : Nat → Nat} {ph : Nat → Option Nat} {o : Nat → Int64} {g h : pz_M} (hI : pz_IM 82 (pz_st (pz_st (pz_st (pz_st (pz_st (pz_st h 18 0 0) 31 2 (h 31 2 + 1)) 18 17 0) 18 11 0) 18 15 0) 18 16 0)) : pz_Mi l dC dI cl yX3_run wsX3_run { frames := 3, cells := 0, slots := 0, locals := 66 } [.ref (ad 18)] (pz_wd ad cl ph o g h) (fun u : pz_M => pz_wd ad cl ph o g u) (fun r u => r = (f_X3_run h).1 ∧ u = (f_X3_run h).2) := by
  intro sz
  refine pr_ofW (Qc := pz_Qi dC dI _ _) (cb := cX3_run) (maxL := 3) (ret := (some .int)) (by decide) rfl (Nat.le_of_ble_eq_true rfl) ?_
  intro p e s m below meth c A ls hx hb hml hr hlocks hts hown hK hP hD hS hA hl
  have hl : lv_has ls 3 [(0, .ref (ad 18))] := hl
  have key : ∀ (n : Nat) (w : pz_M) (H : Heap) (locs : List Loc) (ls : Array Slot), pz_IM n w → f_mrl n w = f_X3_run h → va_P (dC, dI) vwCl (pz_wd ad cl ph o g w) H → va_D A (pz_wd ad cl ph o g w) → va_S A s.heap H locs → lv_has ls 3 [(0, .ref (ad 18))] → W p l e { frames := 3, cells := 0, slots := 0, locals := 66 } s m [.ref (ad 18)].toArray below meth c H locs 0 0 (MQ below (pz_Qi dC dI (fun r u => r = (f_X3_run h).1 ∧ u = (f_X3_run h).2) (fun u : pz_M => pz_wd ad cl ph o g u) A) [.ref (ad 18)].toArray s 0 0 A) (F0 m 35 ls []) := by
    intro n
    induction n with
    | zero => intro w H locs ls hI; obtain ⟨d, gg, pp, b, -, -, -, q⟩ := hI; omega
    | succ n ih =>
      intro w H locs ls hI hF hP hD hS hl
      refine lv_aload_n hx hb dX3_run_35 rfl (lv_at hl 0 rfl) ?_
      refine va_get (D := (dC, dI)) (ci := 5) (C := RX3) (T := TX3) (N := 20) hx hb hts inX3_run_X3 hown hK.1 hP 18 pz_a18 rfl 15 (by decide) (hts (.fieldLink RX3 75 "PowderMillModel" "next" "I") (by decide +kernel)) (fun _ h9 => h9) rfl dX3_run_36 ?_
      refine lv_aload_n hx hb dX3_run_39 rfl (lv_at hl 0 rfl) ?_
      refine va_get (D := (dC, dI)) (ci := 5) (C := RX3) (T := TX3) (N := 20) hx hb hts inX3_run_X3 hown hK.1 hP 18 pz_a18 rfl 8 (by decide) (hts (.fieldLink RX3 54 "PowderMillModel" "many" "I") (by decide +kernel)) (fun _ h9 => h9) rfl dX3_run_40 ?_
      refine lv_icmp_ge (tgt := 167) hx hb dX3_run_43 (by decide) (fun c_43 => ?_) (fun c_43 => ?_)
      · refine lv_aload_n hx hb dX3_run_167 rfl (lv_at hl 0 rfl) ?_
        refine va_get (D := (dC, dI)) (ci := 5) (C := RX3) (T := TX3) (N := 20) hx hb hts inX3_run_X3 hown hK.1 hP 18 pz_a18 rfl 19 (by decide) (hts (.fieldLink RX3 51 "PowderMillModel" "counts" "[I") (by decide +kernel)) (fun _ h9 => h9) rfl dX3_run_168 ?_
        refine lv_iconst (v := 5) hx hb dX3_run_171 (by decide) ?_
        refine lv_dup2_11 hx hb dX3_run_172 rfl rfl ?_
        refine va_iald hx hb hK.1 hP 31 0 pz_a31 rfl (vp_in_nI (n := 5) (N := 17) (by decide) (by decide)) dX3_run_173 ?_
        refine lv_aload_n hx hb dX3_run_174 rfl (lv_at hl 0 rfl) ?_
        refine va_get (D := (dC, dI)) (ci := 5) (C := RX3) (T := TX3) (N := 20) hx hb hts inX3_run_X3 hown hK.1 hP 18 pz_a18 rfl 16 (by decide) (hts (.fieldLink RX3 98 "PowderMillModel" "quits" "Z") (by decide +kernel)) (fun _ h9 => h9) rfl dX3_run_175 ?_
        refine lv_if_eq (tgt := 185) hx hb dX3_run_178 (by decide) (fun c_178 => ?_) (fun c_178 => ?_)
        · refine lv_iconst (v := 0) hx hb dX3_run_185 (by decide) ?_
          refine lv_iadd hx hb dX3_run_186 ?_
          refine pr_iastR hx hb hK.1 hP hD hS 31 (by omega) (by omega) pz_a31 (fun _ => rfl) (vp_in_nI (n := 5) (N := 17) (by decide) (by decide)) dX3_run_187 (fun h_101 H locs e_h_101 hP hD hS => ?_)
          refine lv_aload_n hx hb dX3_run_188 rfl (lv_at hl 0 rfl) ?_
          refine va_get (D := (dC, dI)) (ci := 5) (C := RX3) (T := TX3) (N := 20) hx hb hts inX3_run_X3 hown hK.1 hP 18 pz_a18 rfl 17 (by decide) (hts (.fieldLink RX3 102 "PowderMillModel" "begun" "I") (by decide +kernel)) (fun _ h9 => h9) rfl dX3_run_189 ?_
          exact pr_iret (h_101) hx hb hr hlocks hP hD hS dX3_run_192 (by subst e_h_101; rw [← hF]; refine ⟨?_, ?_⟩ <;> simp only [f_mrl, if_pos c_43, if_pos c_178])
        · refine lv_iconst (v := 1) hx hb dX3_run_181 (by decide) ?_
          refine lv_goto (tgt := 186) hx hb dX3_run_182 (by decide) ?_
          refine lv_iadd hx hb dX3_run_186 ?_
          refine pr_iastR hx hb hK.1 hP hD hS 31 (by omega) (by omega) pz_a31 (fun _ => rfl) (vp_in_nI (n := 5) (N := 17) (by decide) (by decide)) dX3_run_187 (fun h_102 H locs e_h_102 hP hD hS => ?_)
          refine lv_aload_n hx hb dX3_run_188 rfl (lv_at hl 0 rfl) ?_
          refine va_get (D := (dC, dI)) (ci := 5) (C := RX3) (T := TX3) (N := 20) hx hb hts inX3_run_X3 hown hK.1 hP 18 pz_a18 rfl 17 (by decide) (hts (.fieldLink RX3 102 "PowderMillModel" "begun" "I") (by decide +kernel)) (fun _ h9 => h9) rfl dX3_run_189 ?_
          exact pr_iret (h_102) hx hb hr hlocks hP hD hS dX3_run_192 (by subst e_h_102; rw [← hF]; refine ⟨?_, ?_⟩ <;> simp only [f_mrl, if_pos c_43, if_neg c_178])
      · refine lv_aload_n hx hb dX3_run_46 rfl (lv_at hl 0 rfl) ?_
        refine va_get (D := (dC, dI)) (ci := 5) (C := RX3) (T := TX3) (N := 20) hx hb hts inX3_run_X3 hown hK.1 hP 18 pz_a18 rfl 16 (by decide) (hts (.fieldLink RX3 98 "PowderMillModel" "quits" "Z") (by decide +kernel)) (fun _ h9 => h9) rfl dX3_run_47 ?_
        refine lv_if_ne (tgt := 167) hx hb dX3_run_50 (by decide) (fun c_50 => ?_) (fun c_50 => ?_)
        · refine lv_aload_n hx hb dX3_run_167 rfl (lv_at hl 0 rfl) ?_
          refine va_get (D := (dC, dI)) (ci := 5) (C := RX3) (T := TX3) (N := 20) hx hb hts inX3_run_X3 hown hK.1 hP 18 pz_a18 rfl 19 (by decide) (hts (.fieldLink RX3 51 "PowderMillModel" "counts" "[I") (by decide +kernel)) (fun _ h9 => h9) rfl dX3_run_168 ?_
          refine lv_iconst (v := 5) hx hb dX3_run_171 (by decide) ?_
          refine lv_dup2_11 hx hb dX3_run_172 rfl rfl ?_
          refine va_iald hx hb hK.1 hP 31 0 pz_a31 rfl (vp_in_nI (n := 5) (N := 17) (by decide) (by decide)) dX3_run_173 ?_
          refine lv_aload_n hx hb dX3_run_174 rfl (lv_at hl 0 rfl) ?_
          refine va_get (D := (dC, dI)) (ci := 5) (C := RX3) (T := TX3) (N := 20) hx hb hts inX3_run_X3 hown hK.1 hP 18 pz_a18 rfl 16 (by decide) (hts (.fieldLink RX3 98 "PowderMillModel" "quits" "Z") (by decide +kernel)) (fun _ h9 => h9) rfl dX3_run_175 ?_
          refine lv_if_eq (tgt := 185) hx hb dX3_run_178 (by decide) (fun c_178 => ?_) (fun c_178 => ?_)
          · refine lv_iconst (v := 0) hx hb dX3_run_185 (by decide) ?_
            refine lv_iadd hx hb dX3_run_186 ?_
            refine pr_iastR hx hb hK.1 hP hD hS 31 (by omega) (by omega) pz_a31 (fun _ => rfl) (vp_in_nI (n := 5) (N := 17) (by decide) (by decide)) dX3_run_187 (fun h_103 H locs e_h_103 hP hD hS => ?_)
            refine lv_aload_n hx hb dX3_run_188 rfl (lv_at hl 0 rfl) ?_
            refine va_get (D := (dC, dI)) (ci := 5) (C := RX3) (T := TX3) (N := 20) hx hb hts inX3_run_X3 hown hK.1 hP 18 pz_a18 rfl 17 (by decide) (hts (.fieldLink RX3 102 "PowderMillModel" "begun" "I") (by decide +kernel)) (fun _ h9 => h9) rfl dX3_run_189 ?_
            exact absurd c_178 c_50
          · refine lv_iconst (v := 1) hx hb dX3_run_181 (by decide) ?_
            refine lv_goto (tgt := 186) hx hb dX3_run_182 (by decide) ?_
            refine lv_iadd hx hb dX3_run_186 ?_
            refine pr_iastR hx hb hK.1 hP hD hS 31 (by omega) (by omega) pz_a31 (fun _ => rfl) (vp_in_nI (n := 5) (N := 17) (by decide) (by decide)) dX3_run_187 (fun h_104 H locs e_h_104 hP hD hS => ?_)
            refine lv_aload_n hx hb dX3_run_188 rfl (lv_at hl 0 rfl) ?_
            refine va_get (D := (dC, dI)) (ci := 5) (C := RX3) (T := TX3) (N := 20) hx hb hts inX3_run_X3 hown hK.1 hP 18 pz_a18 rfl 17 (by decide) (hts (.fieldLink RX3 102 "PowderMillModel" "begun" "I") (by decide +kernel)) (fun _ h9 => h9) rfl dX3_run_189 ?_
            exact pr_iret (h_104) hx hb hr hlocks hP hD hS dX3_run_192 (by subst e_h_104; rw [← hF]; refine ⟨?_, ?_⟩ <;> simp only [f_mrl, if_neg c_43, if_neg c_50, if_neg c_178])
        · refine lv_aload_n hx hb dX3_run_53 rfl (lv_at hl 0 rfl) ?_
          refine va_get (D := (dC, dI)) (ci := 5) (C := RX3) (T := TX3) (N := 20) hx hb hts inX3_run_X3 hown hK.1 hP 18 pz_a18 rfl 17 (by decide) (hts (.fieldLink RX3 102 "PowderMillModel" "begun" "I") (by decide +kernel)) (fun _ h9 => h9) rfl dX3_run_54 ?_
          refine lv_bipush (v := 80) hx hb dX3_run_57 (by decide) ?_
          refine lv_icmp_ne (tgt := 75) hx hb dX3_run_59 (by decide) (fun c_59 => ?_) (fun c_59 => ?_)
          · refine lv_aload_n hx hb dX3_run_75 rfl (lv_at hl 0 rfl) ?_
            refine lv_dup hx hb dX3_run_76 rfl ?_
            refine va_get (D := (dC, dI)) (ci := 5) (C := RX3) (T := TX3) (N := 20) hx hb hts inX3_run_X3 hown hK.1 hP 18 pz_a18 rfl 17 (by decide) (hts (.fieldLink RX3 102 "PowderMillModel" "begun" "I") (by decide +kernel)) (fun _ h9 => h9) rfl dX3_run_77 ?_
            refine lv_iconst (v := 1) hx hb dX3_run_80 (by decide) ?_
            refine lv_iadd hx hb dX3_run_81 ?_
            refine pr_putR (ci := 5) (C := RX3) (T := TX3) (N := 20) (ty := .int) (v := ((w 18 17) + 1)) hx hb hts inX3_run_X3 tyX3 tyX3_ok nmX3 hown hK.1 hP hD hS 18 (by omega) (by omega) pz_a18 rfl 17 (by decide) (hts (.fieldLink RX3 102 "PowderMillModel" "begun" "I") (by decide +kernel)) (fun _ h9 => h9) rfl (by decide +kernel) rfl rfl (Nat.le_of_ble_eq_true rfl) rfl dX3_run_82 (fun h_105 H locs e_h_105 hP hD hS => ?_)
            refine lv_aload_n hx hb dX3_run_85 rfl (lv_at hl 0 rfl) ?_
            refine va_get (D := (dC, dI)) (ci := 5) (C := RX3) (T := TX3) (N := 20) hx hb hts inX3_run_X3 hown hK.1 hP 18 pz_a18 rfl 15 (by decide) (hts (.fieldLink RX3 75 "PowderMillModel" "next" "I") (by decide +kernel)) (fun _ h9 => h9) rfl dX3_run_86 ?_
            refine lv_istore_n (lv' := [(1, .int (h_105 18 15)), (0, .ref (ad 18))]) hx hb dX3_run_89 rfl hl (by decide) rfl (fun ls hl => ?_)
            refine lv_aload_n hx hb dX3_run_90 rfl (lv_at hl 1 rfl) ?_
            refine lv_dup hx hb dX3_run_91 rfl ?_
            refine va_get (D := (dC, dI)) (ci := 5) (C := RX3) (T := TX3) (N := 20) hx hb hts inX3_run_X3 hown hK.1 hP 18 pz_a18 rfl 15 (by decide) (hts (.fieldLink RX3 75 "PowderMillModel" "next" "I") (by decide +kernel)) (fun _ h9 => h9) rfl dX3_run_92 ?_
            refine lv_iconst (v := 1) hx hb dX3_run_95 (by decide) ?_
            refine lv_iadd hx hb dX3_run_96 ?_
            refine pr_putR (ci := 5) (C := RX3) (T := TX3) (N := 20) (ty := .int) (v := ((h_105 18 15) + 1)) hx hb hts inX3_run_X3 tyX3 tyX3_ok nmX3 hown hK.1 hP hD hS 18 (by omega) (by omega) pz_a18 rfl 15 (by decide) (hts (.fieldLink RX3 75 "PowderMillModel" "next" "I") (by decide +kernel)) (fun _ h9 => h9) rfl (by decide +kernel) rfl rfl (Nat.le_of_ble_eq_true rfl) rfl dX3_run_97 (fun h_106 H locs e_h_106 hP hD hS => ?_)
            obtain ⟨i1, i2, i3, i4⟩ := ps_iterM hI c_43 c_59 e_h_105 e_h_106
            refine lv_aload_n hx hb dX3_run_100 rfl (lv_at hl 1 rfl) ?_
            refine lv_aload_n hx hb dX3_run_101 rfl (lv_at hl 1 rfl) ?_
            refine va_get (D := (dC, dI)) (ci := 5) (C := RX3) (T := TX3) (N := 20) hx hb hts inX3_run_X3 hown hK.1 hP 18 pz_a18 rfl 9 (by decide) (hts (.fieldLink RX3 32 "PowderMillModel" "acts" "[I") (by decide +kernel)) (fun _ h9 => h9) rfl dX3_run_102 ?_
            refine lv_iload_n hx hb dX3_run_105 rfl (lv_at hl 0 rfl) ?_
            refine va_iald hx hb hK.1 hP 26 0 pz_a26 rfl i1 dX3_run_106 ?_
            refine lv_aload_n hx hb dX3_run_107 rfl (lv_at hl 1 rfl) ?_
            refine va_get (D := (dC, dI)) (ci := 5) (C := RX3) (T := TX3) (N := 20) hx hb hts inX3_run_X3 hown hK.1 hP 18 pz_a18 rfl 10 (by decide) (hts (.fieldLink RX3 35 "PowderMillModel" "numbers" "[I") (by decide +kernel)) (fun _ h9 => h9) rfl dX3_run_108 ?_
            refine lv_iload_n hx hb dX3_run_111 rfl (lv_at hl 0 rfl) ?_
            refine va_iald hx hb hK.1 hP 27 0 pz_a27 rfl i1 dX3_run_112 ?_
            refine pr_Vi (As := [.int (h_106 26 (h_105 18 15).toNatClampNeg), .int (h_106 27 (h_105 18 15).toNatClampNeg)]) (rest := []) ⟨hx, hb, hml, hown, hts⟩ (c_X3_does (h_106 26 (h_105 18 15).toNatClampNeg) (h_106 27 (h_105 18 15).toNatClampNeg) i2) (cwV 2 hts gX3_run_X3_does rfl rfl rfl (by decide +kernel) ⟨Nat.le_of_ble_eq_true rfl, Nat.le_of_ble_eq_true rfl⟩) (va_recv hK.1 hP (ci := 5) rfl pz_a18) hK hP hD hS hA rfl hl.1 rfl (Nat.le_of_ble_eq_true rfl) ⟨Nat.le_of_ble_eq_true rfl, Nat.le_of_ble_eq_true rfl⟩ dX3_run_113 (fun r_107 h_109 H locs e_q_108 hP hD hS => ?_)
            obtain ⟨e_r_107, e_h_109⟩ := e_q_108
            refine lv_istore_n (lv' := [(2, .int r_107), (1, .int (h_105 18 15)), (0, .ref (ad 18))]) hx hb dX3_run_116 rfl hl (by decide) rfl (fun ls hl => ?_)
            refine lv_iload_n hx hb dX3_run_117 rfl (lv_at hl 0 rfl) ?_
            refine lv_if_ne (tgt := 124) hx hb dX3_run_118 (by decide) (fun c_118 => ?_) (fun c_118 => ?_)
            · obtain ⟨i5, i6⟩ := i4 (by rw [← e_r_107]; exact c_118)
              rw [← e_r_107] at i5
              refine lv_aload_n hx hb dX3_run_124 rfl (lv_at hl 2 rfl) ?_
              refine lv_iload_n hx hb dX3_run_125 rfl (lv_at hl 1 rfl) ?_
              refine pr_putR (ci := 5) (C := RX3) (T := TX3) (N := 20) (ty := .int) (v := (h_105 18 15)) hx hb hts inX3_run_X3 tyX3 tyX3_ok nmX3 hown hK.1 hP hD hS 18 (by omega) (by omega) pz_a18 rfl 18 (by decide) (hts (.fieldLink RX3 47 "PowderMillModel" "where" "I") (by decide +kernel)) (fun _ h9 => h9) rfl (by decide +kernel) rfl rfl (Nat.le_of_ble_eq_true rfl) rfl dX3_run_126 (fun h_110 H locs e_h_110 hP hD hS => ?_)
              refine lv_aload_n hx hb dX3_run_129 rfl (lv_at hl 2 rfl) ?_
              refine va_get (D := (dC, dI)) (ci := 5) (C := RX3) (T := TX3) (N := 20) hx hb hts inX3_run_X3 hown hK.1 hP 18 pz_a18 rfl 19 (by decide) (hts (.fieldLink RX3 51 "PowderMillModel" "counts" "[I") (by decide +kernel)) (fun _ h9 => h9) rfl dX3_run_130 ?_
              refine lv_bipush (v := 10) hx hb dX3_run_133 (by decide) ?_
              refine lv_iload_n hx hb dX3_run_135 rfl (lv_at hl 0 rfl) ?_
              refine lv_iadd hx hb dX3_run_136 ?_
              refine lv_dup2_11 hx hb dX3_run_137 rfl rfl ?_
              refine va_iald hx hb hK.1 hP 31 0 pz_a31 rfl i5 dX3_run_138 ?_
              refine lv_iconst (v := 1) hx hb dX3_run_139 (by decide) ?_
              refine lv_iadd hx hb dX3_run_140 ?_
              refine pr_iastR hx hb hK.1 hP hD hS 31 (by omega) (by omega) pz_a31 (fun _ => rfl) i5 dX3_run_141 (fun h_111 H locs e_h_111 hP hD hS => ?_)
              refine lv_aload_n hx hb dX3_run_142 rfl (lv_at hl 2 rfl) ?_
              refine pr_Vi (As := []) (rest := []) ⟨hx, hb, hml, hown, hts⟩ (c_X3_isCaught (i6 h_110 h_111 (by rw [e_h_110, e_h_109]) (by rw [e_h_111, e_r_107])).1) (cwV 0 hts gX3_run_X3_isCaught rfl rfl rfl (by decide +kernel) ⟨Nat.le_of_ble_eq_true rfl, Nat.le_of_ble_eq_true rfl⟩) (va_recv hK.1 hP (ci := 5) rfl pz_a18) hK hP hD hS hA rfl hl.1 rfl (Nat.le_of_ble_eq_true rfl) ⟨Nat.le_of_ble_eq_true rfl, Nat.le_of_ble_eq_true rfl⟩ dX3_run_143 (fun r_112 h_114 H locs e_q_113 hP hD hS => ?_)
              obtain ⟨e_r_112, e_h_114⟩ := e_q_113
              refine lv_if_ne (tgt := 164) hx hb dX3_run_146 (by decide) (fun c_146 => ?_) (fun c_146 => ?_)
              · refine lv_goto (tgt := 35) hx hb dX3_run_164 (by decide) ?_
                exact ih h_114 _ _ _ (by subst e_h_114 e_r_112 e_h_111 e_h_110 e_h_109 e_r_107 e_h_106 e_h_105; exact (i6 _ _ rfl rfl).2 c_146) (by rw [← hF]; subst e_h_114 e_r_112 e_h_111 e_h_110 e_h_109 e_r_107 e_h_106 e_h_105; simp only [f_mrl, if_neg c_43, if_pos c_50, if_neg c_59, if_neg c_118, if_neg c_146]) hP hD hS (lv_sub hl [2] rfl)
              · refine lv_aload_n hx hb dX3_run_149 rfl (lv_at hl 2 rfl) ?_
                refine va_get (D := (dC, dI)) (ci := 5) (C := RX3) (T := TX3) (N := 20) hx hb hts inX3_run_X3 hown hK.1 hP 18 pz_a18 rfl 19 (by decide) (hts (.fieldLink RX3 51 "PowderMillModel" "counts" "[I") (by decide +kernel)) (fun _ h9 => h9) rfl dX3_run_150 ?_
                refine lv_iconst (v := 3) hx hb dX3_run_153 (by decide) ?_
                refine lv_dup2_11 hx hb dX3_run_154 rfl rfl ?_
                refine va_iald hx hb hK.1 hP 31 0 pz_a31 rfl (vp_in_nI (n := 3) (N := 17) (by decide) (by decide)) dX3_run_155 ?_
                refine lv_iconst (v := 1) hx hb dX3_run_156 (by decide) ?_
                refine lv_iadd hx hb dX3_run_157 ?_
                refine pr_iastR hx hb hK.1 hP hD hS 31 (by omega) (by omega) pz_a31 (fun _ => rfl) (vp_in_nI (n := 3) (N := 17) (by decide) (by decide)) dX3_run_158 (fun h_115 H locs e_h_115 hP hD hS => ?_)
                refine lv_bipush (v := (-10)) hx hb dX3_run_159 (by decide) ?_
                refine lv_iload_n hx hb dX3_run_161 rfl (lv_at hl 0 rfl) ?_
                refine lv_isub hx hb dX3_run_162 ?_
                exact pr_iret (h_115) hx hb hr hlocks hP hD hS dX3_run_163 (by subst e_h_115 e_h_114 e_r_112 e_h_111 e_h_110 e_h_109 e_r_107 e_h_106 e_h_105; rw [← hF]; refine ⟨?_, ?_⟩ <;> simp only [f_mrl, if_neg c_43, if_pos c_50, if_neg c_59, if_neg c_118, if_pos c_146])
            · refine lv_goto (tgt := 35) hx hb dX3_run_121 (by decide) ?_
              exact ih h_109 _ _ _ (by subst e_h_109 e_r_107 e_h_106 e_h_105; exact i3 c_118) (by rw [← hF]; subst e_h_109 e_r_107 e_h_106 e_h_105; simp only [f_mrl, if_neg c_43, if_pos c_50, if_neg c_59, if_pos c_118]) hP hD hS (lv_sub hl [2] rfl)
          · refine lv_aload_n hx hb dX3_run_62 rfl (lv_at hl 0 rfl) ?_
            refine va_get (D := (dC, dI)) (ci := 5) (C := RX3) (T := TX3) (N := 20) hx hb hts inX3_run_X3 hown hK.1 hP 18 pz_a18 rfl 19 (by decide) (hts (.fieldLink RX3 51 "PowderMillModel" "counts" "[I") (by decide +kernel)) (fun _ h9 => h9) rfl dX3_run_63 ?_
            refine lv_iconst (v := 4) hx hb dX3_run_66 (by decide) ?_
            refine lv_dup2_11 hx hb dX3_run_67 rfl rfl ?_
            refine va_iald hx hb hK.1 hP 31 0 pz_a31 rfl (vp_in_nI (n := 4) (N := 17) (by decide) (by decide)) dX3_run_68 ?_
            refine lv_iconst (v := 1) hx hb dX3_run_69 (by decide) ?_
            refine lv_iadd hx hb dX3_run_70 ?_
            refine pr_iastR hx hb hK.1 hP hD hS 31 (by omega) (by omega) pz_a31 (fun _ => rfl) (vp_in_nI (n := 4) (N := 17) (by decide) (by decide)) dX3_run_71 (fun h_116 H locs e_h_116 hP hD hS => ?_)
            refine lv_bipush (v := (-3)) hx hb dX3_run_72 (by decide) ?_
            exact pr_iret (h_116) hx hb hr hlocks hP hD hS dX3_run_74 (by subst e_h_116; rw [← hF]; refine ⟨?_, ?_⟩ <;> simp only [f_mrl, if_neg c_43, if_pos c_50, if_pos c_59])
  refine lv_aload_n hx hb dX3_run_0 rfl (lv_at hl 0 rfl) ?_
  refine lv_iconst (v := 0) hx hb dX3_run_1 (by decide) ?_
  refine pr_putR (ci := 5) (C := RX3) (T := TX3) (N := 20) (ty := .int) (v := 0) hx hb hts inX3_run_X3 tyX3 tyX3_ok nmX3 hown hK.1 hP hD hS 18 (by omega) (by omega) pz_a18 rfl 0 (by decide) (hts (.fieldLink RX3 57 "PowderMillModel" "thrown" "I") (by decide +kernel)) (fun _ h9 => h9) rfl (by decide +kernel) rfl rfl (Nat.le_of_ble_eq_true rfl) rfl dX3_run_2 (fun h_1 H locs e_h_1 hP hD hS => ?_)
  refine lv_aload_n hx hb dX3_run_5 rfl (lv_at hl 0 rfl) ?_
  refine va_get (D := (dC, dI)) (ci := 5) (C := RX3) (T := TX3) (N := 20) hx hb hts inX3_run_X3 hown hK.1 hP 18 pz_a18 rfl 19 (by decide) (hts (.fieldLink RX3 51 "PowderMillModel" "counts" "[I") (by decide +kernel)) (fun _ h9 => h9) rfl dX3_run_6 ?_
  refine lv_iconst (v := 2) hx hb dX3_run_9 (by decide) ?_
  refine lv_dup2_11 hx hb dX3_run_10 rfl rfl ?_
  refine va_iald hx hb hK.1 hP 31 0 pz_a31 rfl (vp_in_nI (n := 2) (N := 17) (by decide) (by decide)) dX3_run_11 ?_
  refine lv_iconst (v := 1) hx hb dX3_run_12 (by decide) ?_
  refine lv_iadd hx hb dX3_run_13 ?_
  refine pr_iastR hx hb hK.1 hP hD hS 31 (by omega) (by omega) pz_a31 (fun _ => rfl) (vp_in_nI (n := 2) (N := 17) (by decide) (by decide)) dX3_run_14 (fun h_2 H locs e_h_2 hP hD hS => ?_)
  refine lv_aload_n hx hb dX3_run_15 rfl (lv_at hl 0 rfl) ?_
  refine lv_iconst (v := 0) hx hb dX3_run_16 (by decide) ?_
  refine pr_putR (ci := 5) (C := RX3) (T := TX3) (N := 20) (ty := .int) (v := 0) hx hb hts inX3_run_X3 tyX3 tyX3_ok nmX3 hown hK.1 hP hD hS 18 (by omega) (by omega) pz_a18 rfl 17 (by decide) (hts (.fieldLink RX3 102 "PowderMillModel" "begun" "I") (by decide +kernel)) (fun _ h9 => h9) rfl (by decide +kernel) rfl rfl (Nat.le_of_ble_eq_true rfl) rfl dX3_run_17 (fun h_3 H locs e_h_3 hP hD hS => ?_)
  refine lv_aload_n hx hb dX3_run_20 rfl (lv_at hl 0 rfl) ?_
  refine lv_iconst (v := 0) hx hb dX3_run_21 (by decide) ?_
  refine pr_putR (ci := 5) (C := RX3) (T := TX3) (N := 20) (ty := .int) (v := 0) hx hb hts inX3_run_X3 tyX3 tyX3_ok nmX3 hown hK.1 hP hD hS 18 (by omega) (by omega) pz_a18 rfl 11 (by decide) (hts (.fieldLink RX3 72 "PowderMillModel" "deep" "I") (by decide +kernel)) (fun _ h9 => h9) rfl (by decide +kernel) rfl rfl (Nat.le_of_ble_eq_true rfl) rfl dX3_run_22 (fun h_4 H locs e_h_4 hP hD hS => ?_)
  refine lv_aload_n hx hb dX3_run_25 rfl (lv_at hl 0 rfl) ?_
  refine lv_iconst (v := 0) hx hb dX3_run_26 (by decide) ?_
  refine pr_putR (ci := 5) (C := RX3) (T := TX3) (N := 20) (ty := .int) (v := 0) hx hb hts inX3_run_X3 tyX3 tyX3_ok nmX3 hown hK.1 hP hD hS 18 (by omega) (by omega) pz_a18 rfl 15 (by decide) (hts (.fieldLink RX3 75 "PowderMillModel" "next" "I") (by decide +kernel)) (fun _ h9 => h9) rfl (by decide +kernel) rfl rfl (Nat.le_of_ble_eq_true rfl) rfl dX3_run_27 (fun h_5 H locs e_h_5 hP hD hS => ?_)
  refine lv_aload_n hx hb dX3_run_30 rfl (lv_at hl 0 rfl) ?_
  refine lv_iconst (v := 0) hx hb dX3_run_31 (by decide) ?_
  refine pr_putR (ci := 5) (C := RX3) (T := TX3) (N := 20) (ty := .boolean) (v := 0) hx hb hts inX3_run_X3 tyX3 tyX3_ok nmX3 hown hK.1 hP hD hS 18 (by omega) (by omega) pz_a18 rfl 16 (by decide) (hts (.fieldLink RX3 98 "PowderMillModel" "quits" "Z") (by decide +kernel)) (fun _ h9 => h9) rfl (by decide +kernel) rfl rfl (Nat.le_of_ble_eq_true rfl) rfl dX3_run_32 (fun h_6 H locs e_h_6 hP hD hS => ?_)
  exact key 82 h_6 _ _ _ (by subst e_h_6 e_h_5 e_h_4 e_h_3 e_h_2 e_h_1; exact hI) (by subst e_h_6 e_h_5 e_h_4 e_h_3 e_h_2 e_h_1; rfl) hP hD hS hl
