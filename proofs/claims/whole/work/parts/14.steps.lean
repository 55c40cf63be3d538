theorem pz_fm8 {a r : Int32} (h : r = f_J9_floorMod_7cf53 a 8) : vp_in r 8 := by
  obtain ⟨j, hj, e⟩ := pz_fm a (n := 8) (by decide) (by decide)
  rw [h, show f_J9_floorMod_7cf53 a 8 = nI j from e]
  exact vp_in_nI hj (by decide)
theorem inX2_perform_X2 : ∀ w ∈ u_ws RX2 TX2 14, w ∈ wsX2_perform := by decide +kernel
def f_X2_perform (g : pz_M) (ph : Nat → Option Nat) (a : Int32) : Int32 × pz_M × (Nat → Option Nat) :=
  if (g 4 a.toNatClampNeg) = 0 then
    let r_1 := f_J9_floorMod_7cf53 (g 5 a.toNatClampNeg) 8
    let r_2 := (f_X2_goIn g ph r_1 a).1
    let g_4 := (f_X2_goIn g ph r_1 a).2.1
    let ph_5 := (f_X2_goIn g ph r_1 a).2.2
    (r_2, g_4, ph_5)
  else
    if (g 4 a.toNatClampNeg) = 1 then
      let g_8 := (f_X1_leaveHere g ph).1
      let ph_9 := (f_X1_leaveHere g ph).2
      (0, g_8, ph_9)
    else
      if (g 4 a.toNatClampNeg) = 2 then
        let r_10 := f_J9_floorMod_7cf53 (g 5 a.toNatClampNeg) 1000
        let r_11 := (f_X2_grind g ph r_10).1
        let g_13 := (f_X2_grind g ph r_10).2.1
        let ph_14 := (f_X2_grind g ph r_10).2.2
        (r_11, g_13, ph_14)
      else
        if (g 4 a.toNatClampNeg) = 3 then
          let r_15 := f_J9_floorMod_7cf53 (g 5 a.toNatClampNeg) 1000
          let r_16 := (f_X2_carry g ph r_15).1
          let g_18 := (f_X2_carry g ph r_15).2.1
          let ph_19 := (f_X2_carry g ph r_15).2.2
          (r_16, g_18, ph_19)
        else
          if (g 4 a.toNatClampNeg) = 4 then
            let r_20 := f_J9_floorMod_7cf53 (g 5 a.toNatClampNeg) 10
            let r_21 := (f_X2_share g ph r_20).1
            let g_23 := (f_X2_share g ph r_20).2.1
            let ph_24 := (f_X2_share g ph r_20).2.2
            (r_21, g_23, ph_24)
          else
            if (g 4 a.toNatClampNeg) = 5 then
              let r_25 := (f_X2_write g ph (g 5 a.toNatClampNeg)).1
              let g_27 := (f_X2_write g ph (g 5 a.toNatClampNeg)).2.1
              let ph_28 := (f_X2_write g ph (g 5 a.toNatClampNeg)).2.2
              (r_25, g_27, ph_28)
            else
              if (g 4 a.toNatClampNeg) = 6 then
                (0, g, ph)
              else
                if (g 4 a.toNatClampNeg) = 7 then
                  let r_29 := f_J9_floorMod_7cf53 (g 5 a.toNatClampNeg) 4
                  let g_30 := pz_st g 0 6 ((g 0 6) + r_29)
                  (0, g_30, ph)
                else
                  if (g 4 a.toNatClampNeg) = 8 then
                    let r_31 := f_J9_floorMod_7cf53 (g 5 a.toNatClampNeg) 4
                    let r_32 := (f_X1_stepBehindAgain g ph r_31 (g 0 6)).1
                    let g_34 := (f_X1_stepBehindAgain g ph r_31 (g 0 6)).2.1
                    let ph_35 := (f_X1_stepBehindAgain g ph r_31 (g 0 6)).2.2
                    let g_36 := pz_st g_34 0 6 r_32
                    (0, g_36, ph_35)
                  else
                    (0, g, ph)
set_option maxHeartbeats 4000000 in
set_option maxRecDepth 100000 in
theorem c_X2_perform {l : Launch} {dC : Nat → ClassId} {dI : Nat → Nat → Nat} {cl : Nat → ClassId} {ad : Nat → Nat} {ph : Nat → Option Nat} {o : Nat → Int64} {g h : pz_M} (a : Int32) (hw : pz_W g ph) (ha : vp_in a 30) : pz_Mi l dC dI cl yX2_perform wsX2_perform { frames := 2, cells := 0, slots := 0, locals := 44 } [.ref (ad 0), .int a] (pz_wd ad cl ph o g h) (fun u : pz_M × (Nat → Option Nat) => pz_wd ad cl u.2 o u.1 h) (fun r u => r = (f_X2_perform g ph a).1 ∧ u = (f_X2_perform g ph a).2) := by
  intro sz
  refine pr_ofW (Qc := pz_Qi dC dI _ _) (cb := cX2_perform) (maxL := 3) (ret := (some .int)) (by decide) rfl (Nat.le_of_ble_eq_true rfl) ?_
  intro p e s m below meth c A ls hx hb hml hr hlocks hts hown hK hP hD hS hA hl
  have hl : lv_has ls 3 [(0, .ref (ad 0)), (1, .int a)] := hl
  refine lv_aload_n hx hb dX2_perform_0 rfl (lv_at hl 0 rfl) ?_
  refine va_get (D := (dC, dI)) (ci := 4) (C := RX2) (T := TX2) (N := 14) hx hb hts inX2_perform_X2 hown hK.1 hP 0 pz_a0 rfl 4 (by decide) (hts (.fieldLink RX2 29 "PowderMill" "numbers" "[I") (by decide +kernel)) (fun _ h9 => h9) rfl dX2_perform_1 ?_
  refine lv_iload_n hx hb dX2_perform_4 rfl (lv_at hl 1 rfl) ?_
  refine va_iald hx hb hK.1 hP 5 0 pz_a5 rfl ha dX2_perform_5 ?_
  refine lv_istore_n (lv' := [(2, .int (g 5 a.toNatClampNeg)), (0, .ref (ad 0)), (1, .int a)]) hx hb dX2_perform_6 rfl hl (by decide) rfl (fun ls hl => ?_)
  refine lv_aload_n hx hb dX2_perform_7 rfl (lv_at hl 1 rfl) ?_
  refine va_get (D := (dC, dI)) (ci := 4) (C := RX2) (T := TX2) (N := 14) hx hb hts inX2_perform_X2 hown hK.1 hP 0 pz_a0 rfl 3 (by decide) (hts (.fieldLink RX2 26 "PowderMill" "acts" "[I") (by decide +kernel)) (fun _ h9 => h9) rfl dX2_perform_8 ?_
  refine lv_iload_n hx hb dX2_perform_11 rfl (lv_at hl 2 rfl) ?_
  refine va_iald hx hb hK.1 hP 4 0 pz_a4 rfl ha dX2_perform_12 ?_
  by_cases t_13_0 : (g 4 a.toNatClampNeg) = 0
  · refine pr_tabIn (ki := 0) (tgt := 64) hx hb dX2_perform_13 t_13_0 (by rfl) (by decide) (by decide) (by rfl) (by decide) ?_
    refine lv_aload_n hx hb dX2_perform_64 rfl (lv_at hl 1 rfl) ?_
    refine lv_iload_n hx hb dX2_perform_65 rfl (lv_at hl 0 rfl) ?_
    refine lv_bipush (v := 8) hx hb dX2_perform_66 (by decide) ?_
    refine pr_Si (As := [.int (g 5 a.toNatClampNeg), .int 8]) (rest := [.ref (ad 0)]) ⟨hx, hb, hml, hown, hts⟩ (c_J9_floorMod_7cf53 (g 5 a.toNatClampNeg) 8 (by decide)) (va_cwS 2 hts gX2_perform_J9_floorMod_7cf53 rfl rfl rfl (by decide +kernel) ⟨Nat.le_of_ble_eq_true rfl, Nat.le_of_ble_eq_true rfl⟩) hK hP hD hS hA rfl hl.1 rfl (Nat.le_of_ble_eq_true rfl) ⟨Nat.le_of_ble_eq_true rfl, Nat.le_of_ble_eq_true rfl⟩ dX2_perform_68 (fun r_1 _ H locs e_r_1 hP hD hS => ?_)
    refine lv_iload_n hx hb dX2_perform_71 rfl (lv_at hl 2 rfl) ?_
    refine pr_Vi (As := [.int r_1, .int a]) (rest := []) ⟨hx, hb, hml, hown, hts⟩ (c_X2_goIn r_1 a hw (pz_fm8 e_r_1)) (cwV 2 hts gX2_perform_X2_goIn rfl rfl rfl (by decide +kernel) ⟨Nat.le_of_ble_eq_true rfl, Nat.le_of_ble_eq_true rfl⟩) (va_recv hK.1 hP (ci := 4) rfl pz_a0) hK hP hD hS hA rfl hl.1 rfl (Nat.le_of_ble_eq_true rfl) ⟨Nat.le_of_ble_eq_true rfl, Nat.le_of_ble_eq_true rfl⟩ dX2_perform_72 (fun r_2 ⟨g_4, ph_5⟩ H locs e_q_3 hP hD hS => ?_)
    obtain ⟨e_r_2, e_q_3⟩ := e_q_3
    obtain ⟨e_g_4, e_ph_5⟩ : g_4 = (f_X2_goIn g ph r_1 a).2.1 ∧ ph_5 = (f_X2_goIn g ph r_1 a).2.2 := ⟨congrArg Prod.fst e_q_3, congrArg Prod.snd e_q_3⟩
    clear e_q_3
    dsimp only at hP hD
    exact pr_iret (g_4, ph_5) hx hb hr hlocks hP hD hS dX2_perform_75 (by subst e_ph_5 e_g_4 e_r_2 e_r_1; refine ⟨?_, ?_⟩ <;> (simp only [f_X2_perform, if_pos t_13_0] <;> rfl))
  by_cases t_13_1 : (g 4 a.toNatClampNeg) = 1
  · refine pr_tabIn (ki := 1) (tgt := 76) hx hb dX2_perform_13 t_13_1 (by rfl) (by decide) (by decide) (by rfl) (by decide) ?_
    refine lv_aload_n hx hb dX2_perform_76 rfl (lv_at hl 1 rfl) ?_
    refine va_get (D := (dC, dI)) (ci := 4) (C := RX2) (T := TX2) (N := 14) hx hb hts inX2_perform_X2 hown hK.1 hP 0 pz_a0 rfl 1 (by decide) (hts (.fieldLink RX2 18 "PowderMill" "path" "LPowderMill$Path;") (by decide +kernel)) (fun _ h9 => h9) rfl dX2_perform_77 ?_
    refine pr_Vv (As := []) (rest := []) ⟨hx, hb, hml, hown, hts⟩ (c_X1_leaveHere hw) (cwV 0 hts gX2_perform_X1_leaveHere rfl rfl rfl (by decide +kernel) ⟨Nat.le_of_ble_eq_true rfl, Nat.le_of_ble_eq_true rfl⟩) (va_recv hK.1 hP (ci := 3) rfl pz_a2) hK hP hD hS hA rfl hl.1 rfl (Nat.le_of_ble_eq_true rfl) ⟨Nat.le_of_ble_eq_true rfl, Nat.le_of_ble_eq_true rfl⟩ dX2_perform_80 (fun ⟨g_8, ph_9⟩ H locs e_q_7 hP hD hS => ?_)
    obtain ⟨e_g_8, e_ph_9⟩ : g_8 = (f_X1_leaveHere g ph).1 ∧ ph_9 = (f_X1_leaveHere g ph).2 := ⟨congrArg Prod.fst e_q_7, congrArg Prod.snd e_q_7⟩
    clear e_q_7
    dsimp only at hP hD
    refine lv_iconst (v := 0) hx hb dX2_perform_83 (by decide) ?_
    exact pr_iret (g_8, ph_9) hx hb hr hlocks hP hD hS dX2_perform_84 (by subst e_ph_9 e_g_8; refine ⟨?_, ?_⟩ <;> (simp only [f_X2_perform, if_neg t_13_0, if_pos t_13_1] <;> rfl))
  by_cases t_13_2 : (g 4 a.toNatClampNeg) = 2
  · refine pr_tabIn (ki := 2) (tgt := 85) hx hb dX2_perform_13 t_13_2 (by rfl) (by decide) (by decide) (by rfl) (by decide) ?_
    refine lv_aload_n hx hb dX2_perform_85 rfl (lv_at hl 1 rfl) ?_
    refine lv_iload_n hx hb dX2_perform_86 rfl (lv_at hl 0 rfl) ?_
    refine lv_sipush (v := 1000) hx hb dX2_perform_87 (by decide) ?_
    refine pr_Si (As := [.int (g 5 a.toNatClampNeg), .int 1000]) (rest := [.ref (ad 0)]) ⟨hx, hb, hml, hown, hts⟩ (c_J9_floorMod_7cf53 (g 5 a.toNatClampNeg) 1000 (by decide)) (va_cwS 2 hts gX2_perform_J9_floorMod_7cf53 rfl rfl rfl (by decide +kernel) ⟨Nat.le_of_ble_eq_true rfl, Nat.le_of_ble_eq_true rfl⟩) hK hP hD hS hA rfl hl.1 rfl (Nat.le_of_ble_eq_true rfl) ⟨Nat.le_of_ble_eq_true rfl, Nat.le_of_ble_eq_true rfl⟩ dX2_perform_90 (fun r_10 _ H locs e_r_10 hP hD hS => ?_)
    refine pr_Vi (As := [.int r_10]) (rest := []) ⟨hx, hb, hml, hown, hts⟩ (c_X2_grind r_10 hw) (cwV 1 hts gX2_perform_X2_grind rfl rfl rfl (by decide +kernel) ⟨Nat.le_of_ble_eq_true rfl, Nat.le_of_ble_eq_true rfl⟩) (va_recv hK.1 hP (ci := 4) rfl pz_a0) hK hP hD hS hA rfl hl.1 rfl (Nat.le_of_ble_eq_true rfl) ⟨Nat.le_of_ble_eq_true rfl, Nat.le_of_ble_eq_true rfl⟩ dX2_perform_93 (fun r_11 ⟨g_13, ph_14⟩ H locs e_q_12 hP hD hS => ?_)
    obtain ⟨e_r_11, e_q_12⟩ := e_q_12
    obtain ⟨e_g_13, e_ph_14⟩ : g_13 = (f_X2_grind g ph r_10).2.1 ∧ ph_14 = (f_X2_grind g ph r_10).2.2 := ⟨congrArg Prod.fst e_q_12, congrArg Prod.snd e_q_12⟩
    clear e_q_12
    dsimp only at hP hD
    exact pr_iret (g_13, ph_14) hx hb hr hlocks hP hD hS dX2_perform_96 (by subst e_ph_14 e_g_13 e_r_11 e_r_10; refine ⟨?_, ?_⟩ <;> (simp only [f_X2_perform, if_neg t_13_0, if_neg t_13_1, if_pos t_13_2] <;> rfl))
  by_cases t_13_3 : (g 4 a.toNatClampNeg) = 3
  · refine pr_tabIn (ki := 3) (tgt := 97) hx hb dX2_perform_13 t_13_3 (by rfl) (by decide) (by decide) (by rfl) (by decide) ?_
    refine lv_aload_n hx hb dX2_perform_97 rfl (lv_at hl 1 rfl) ?_
    refine lv_iload_n hx hb dX2_perform_98 rfl (lv_at hl 0 rfl) ?_
    refine lv_sipush (v := 1000) hx hb dX2_perform_99 (by decide) ?_
    refine pr_Si (As := [.int (g 5 a.toNatClampNeg), .int 1000]) (rest := [.ref (ad 0)]) ⟨hx, hb, hml, hown, hts⟩ (c_J9_floorMod_7cf53 (g 5 a.toNatClampNeg) 1000 (by decide)) (va_cwS 2 hts gX2_perform_J9_floorMod_7cf53 rfl rfl rfl (by decide +kernel) ⟨Nat.le_of_ble_eq_true rfl, Nat.le_of_ble_eq_true rfl⟩) hK hP hD hS hA rfl hl.1 rfl (Nat.le_of_ble_eq_true rfl) ⟨Nat.le_of_ble_eq_true rfl, Nat.le_of_ble_eq_true rfl⟩ dX2_perform_102 (fun r_15 _ H locs e_r_15 hP hD hS => ?_)
    refine pr_Vi (As := [.int r_15]) (rest := []) ⟨hx, hb, hml, hown, hts⟩ (c_X2_carry r_15 hw) (cwV 1 hts gX2_perform_X2_carry rfl rfl rfl (by decide +kernel) ⟨Nat.le_of_ble_eq_true rfl, Nat.le_of_ble_eq_true rfl⟩) (va_recv hK.1 hP (ci := 4) rfl pz_a0) hK hP hD hS hA rfl hl.1 rfl (Nat.le_of_ble_eq_true rfl) ⟨Nat.le_of_ble_eq_true rfl, Nat.le_of_ble_eq_true rfl⟩ dX2_perform_105 (fun r_16 ⟨g_18, ph_19⟩ H locs e_q_17 hP hD hS => ?_)
    obtain ⟨e_r_16, e_q_17⟩ := e_q_17
    obtain ⟨e_g_18, e_ph_19⟩ : g_18 = (f_X2_carry g ph r_15).2.1 ∧ ph_19 = (f_X2_carry g ph r_15).2.2 := ⟨congrArg Prod.fst e_q_17, congrArg Prod.snd e_q_17⟩
    clear e_q_17
    dsimp only at hP hD
    exact pr_iret (g_18, ph_19) hx hb hr hlocks hP hD hS dX2_perform_108 (by subst e_ph_19 e_g_18 e_r_16 e_r_15; refine ⟨?_, ?_⟩ <;> (simp only [f_X2_perform, if_neg t_13_0, if_neg t_13_1, if_neg t_13_2, if_pos t_13_3] <;> rfl))
  by_cases t_13_4 : (g 4 a.toNatClampNeg) = 4
  · refine pr_tabIn (ki := 4) (tgt := 109) hx hb dX2_perform_13 t_13_4 (by rfl) (by decide) (by decide) (by rfl) (by decide) ?_
    refine lv_aload_n hx hb dX2_perform_109 rfl (lv_at hl 1 rfl) ?_
    refine lv_iload_n hx hb dX2_perform_110 rfl (lv_at hl 0 rfl) ?_
    refine lv_bipush (v := 10) hx hb dX2_perform_111 (by decide) ?_
    refine pr_Si (As := [.int (g 5 a.toNatClampNeg), .int 10]) (rest := [.ref (ad 0)]) ⟨hx, hb, hml, hown, hts⟩ (c_J9_floorMod_7cf53 (g 5 a.toNatClampNeg) 10 (by decide)) (va_cwS 2 hts gX2_perform_J9_floorMod_7cf53 rfl rfl rfl (by decide +kernel) ⟨Nat.le_of_ble_eq_true rfl, Nat.le_of_ble_eq_true rfl⟩) hK hP hD hS hA rfl hl.1 rfl (Nat.le_of_ble_eq_true rfl) ⟨Nat.le_of_ble_eq_true rfl, Nat.le_of_ble_eq_true rfl⟩ dX2_perform_113 (fun r_20 _ H locs e_r_20 hP hD hS => ?_)
    refine pr_Vi (As := [.int r_20]) (rest := []) ⟨hx, hb, hml, hown, hts⟩ (c_X2_share r_20 hw) (cwV 1 hts gX2_perform_X2_share rfl rfl rfl (by decide +kernel) ⟨Nat.le_of_ble_eq_true rfl, Nat.le_of_ble_eq_true rfl⟩) (va_recv hK.1 hP (ci := 4) rfl pz_a0) hK hP hD hS hA rfl hl.1 rfl (Nat.le_of_ble_eq_true rfl) ⟨Nat.le_of_ble_eq_true rfl, Nat.le_of_ble_eq_true rfl⟩ dX2_perform_116 (fun r_21 ⟨g_23, ph_24⟩ H locs e_q_22 hP hD hS => ?_)
    obtain ⟨e_r_21, e_q_22⟩ := e_q_22
    obtain ⟨e_g_23, e_ph_24⟩ : g_23 = (f_X2_share g ph r_20).2.1 ∧ ph_24 = (f_X2_share g ph r_20).2.2 := ⟨congrArg Prod.fst e_q_22, congrArg Prod.snd e_q_22⟩
    clear e_q_22
    dsimp only at hP hD
    exact pr_iret (g_23, ph_24) hx hb hr hlocks hP hD hS dX2_perform_119 (by subst e_ph_24 e_g_23 e_r_21 e_r_20; refine ⟨?_, ?_⟩ <;> (simp only [f_X2_perform, if_neg t_13_0, if_neg t_13_1, if_neg t_13_2, if_neg t_13_3, if_pos t_13_4] <;> rfl))
  by_cases t_13_5 : (g 4 a.toNatClampNeg) = 5
  · refine pr_tabIn (ki := 5) (tgt := 120) hx hb dX2_perform_13 t_13_5 (by rfl) (by decide) (by decide) (by rfl) (by decide) ?_
    refine lv_aload_n hx hb dX2_perform_120 rfl (lv_at hl 1 rfl) ?_
    refine lv_iload_n hx hb dX2_perform_121 rfl (lv_at hl 0 rfl) ?_
    refine pr_Vi (As := [.int (g 5 a.toNatClampNeg)]) (rest := []) ⟨hx, hb, hml, hown, hts⟩ (c_X2_write (g 5 a.toNatClampNeg) hw) (cwV 1 hts gX2_perform_X2_write rfl rfl rfl (by decide +kernel) ⟨Nat.le_of_ble_eq_true rfl, Nat.le_of_ble_eq_true rfl⟩) (va_recv hK.1 hP (ci := 4) rfl pz_a0) hK hP hD hS hA rfl hl.1 rfl (Nat.le_of_ble_eq_true rfl) ⟨Nat.le_of_ble_eq_true rfl, Nat.le_of_ble_eq_true rfl⟩ dX2_perform_122 (fun r_25 ⟨g_27, ph_28⟩ H locs e_q_26 hP hD hS => ?_)
    obtain ⟨e_r_25, e_q_26⟩ := e_q_26
    obtain ⟨e_g_27, e_ph_28⟩ : g_27 = (f_X2_write g ph (g 5 a.toNatClampNeg)).2.1 ∧ ph_28 = (f_X2_write g ph (g 5 a.toNatClampNeg)).2.2 := ⟨congrArg Prod.fst e_q_26, congrArg Prod.snd e_q_26⟩
    clear e_q_26
    dsimp only at hP hD
    exact pr_iret (g_27, ph_28) hx hb hr hlocks hP hD hS dX2_perform_125 (by subst e_ph_28 e_g_27 e_r_25; refine ⟨?_, ?_⟩ <;> (simp only [f_X2_perform, if_neg t_13_0, if_neg t_13_1, if_neg t_13_2, if_neg t_13_3, if_neg t_13_4, if_pos t_13_5] <;> rfl))
  by_cases t_13_6 : (g 4 a.toNatClampNeg) = 6
  · refine pr_tabIn (ki := 6) (tgt := 164) hx hb dX2_perform_13 t_13_6 (by rfl) (by decide) (by decide) (by rfl) (by decide) ?_
    refine lv_iconst (v := 0) hx hb dX2_perform_164 (by decide) ?_
    exact pr_iret (g, ph) hx hb hr hlocks hP hD hS dX2_perform_165 (by refine ⟨?_, ?_⟩ <;> (simp only [f_X2_perform, if_neg t_13_0, if_neg t_13_1, if_neg t_13_2, if_neg t_13_3, if_neg t_13_4, if_neg t_13_5, if_pos t_13_6] <;> rfl))
  by_cases t_13_7 : (g 4 a.toNatClampNeg) = 7
  · refine pr_tabIn (ki := 7) (tgt := 126) hx hb dX2_perform_13 t_13_7 (by rfl) (by decide) (by decide) (by rfl) (by decide) ?_
    refine lv_aload_n hx hb dX2_perform_126 rfl (lv_at hl 1 rfl) ?_
    refine lv_dup hx hb dX2_perform_127 rfl ?_
    refine va_get (D := (dC, dI)) (ci := 4) (C := RX2) (T := TX2) (N := 14) hx hb hts inX2_perform_X2 hown hK.1 hP 0 pz_a0 rfl 6 (by decide) (hts (.fieldLink RX2 36 "PowderMill" "nextStep" "I") (by decide +kernel)) (fun _ h9 => h9) rfl dX2_perform_128 ?_
    refine lv_iload_n hx hb dX2_perform_131 rfl (lv_at hl 0 rfl) ?_
    refine lv_iconst (v := 4) hx hb dX2_perform_132 (by decide) ?_
    refine pr_Si (As := [.int (g 5 a.toNatClampNeg), .int 4]) (rest := [.int (g 0 6), .ref (ad 0)]) ⟨hx, hb, hml, hown, hts⟩ (c_J9_floorMod_7cf53 (g 5 a.toNatClampNeg) 4 (by decide)) (va_cwS 2 hts gX2_perform_J9_floorMod_7cf53 rfl rfl rfl (by decide +kernel) ⟨Nat.le_of_ble_eq_true rfl, Nat.le_of_ble_eq_true rfl⟩) hK hP hD hS hA rfl hl.1 rfl (Nat.le_of_ble_eq_true rfl) ⟨Nat.le_of_ble_eq_true rfl, Nat.le_of_ble_eq_true rfl⟩ dX2_perform_133 (fun r_29 _ H locs e_r_29 hP hD hS => ?_)
    refine lv_iadd hx hb dX2_perform_136 ?_
    refine pr_putC (ci := 4) (C := RX2) (T := TX2) (N := 14) (ty := .int) (v := ((g 0 6) + r_29)) hx hb hts inX2_perform_X2 tyX2 tyX2_ok nmX2 hown hK.1 hP hD hS 0 (by omega) pz_a0 rfl 6 (by decide) (hts (.fieldLink RX2 36 "PowderMill" "nextStep" "I") (by decide +kernel)) (fun _ h9 => h9) rfl (by decide +kernel) rfl rfl (Nat.le_of_ble_eq_true rfl) rfl dX2_perform_137 (fun g_30 H locs e_g_30 hP hD hS => ?_)
    refine lv_iconst (v := 0) hx hb dX2_perform_140 (by decide) ?_
    exact pr_iret (g_30, ph) hx hb hr hlocks hP hD hS dX2_perform_141 (by subst e_g_30 e_r_29; refine ⟨?_, ?_⟩ <;> (simp only [f_X2_perform, if_neg t_13_0, if_neg t_13_1, if_neg t_13_2, if_neg t_13_3, if_neg t_13_4, if_neg t_13_5, if_neg t_13_6, if_pos t_13_7] <;> rfl))
  by_cases t_13_8 : (g 4 a.toNatClampNeg) = 8
  · refine pr_tabIn (ki := 8) (tgt := 142) hx hb dX2_perform_13 t_13_8 (by rfl) (by decide) (by decide) (by rfl) (by decide) ?_
    refine lv_aload_n hx hb dX2_perform_142 rfl (lv_at hl 1 rfl) ?_
    refine lv_aload_n hx hb dX2_perform_143 rfl (lv_at hl 1 rfl) ?_
    refine va_get (D := (dC, dI)) (ci := 4) (C := RX2) (T := TX2) (N := 14) hx hb hts inX2_perform_X2 hown hK.1 hP 0 pz_a0 rfl 1 (by decide) (hts (.fieldLink RX2 18 "PowderMill" "path" "LPowderMill$Path;") (by decide +kernel)) (fun _ h9 => h9) rfl dX2_perform_144 ?_
    refine lv_iload_n hx hb dX2_perform_147 rfl (lv_at hl 0 rfl) ?_
    refine lv_iconst (v := 4) hx hb dX2_perform_148 (by decide) ?_
    refine pr_Si (As := [.int (g 5 a.toNatClampNeg), .int 4]) (rest := [.ref (ad 2), .ref (ad 0)]) ⟨hx, hb, hml, hown, hts⟩ (c_J9_floorMod_7cf53 (g 5 a.toNatClampNeg) 4 (by decide)) (va_cwS 2 hts gX2_perform_J9_floorMod_7cf53 rfl rfl rfl (by decide +kernel) ⟨Nat.le_of_ble_eq_true rfl, Nat.le_of_ble_eq_true rfl⟩) hK hP hD hS hA rfl hl.1 rfl (Nat.le_of_ble_eq_true rfl) ⟨Nat.le_of_ble_eq_true rfl, Nat.le_of_ble_eq_true rfl⟩ dX2_perform_149 (fun r_31 _ H locs e_r_31 hP hD hS => ?_)
    refine lv_aload_n hx hb dX2_perform_152 rfl (lv_at hl 1 rfl) ?_
    refine va_get (D := (dC, dI)) (ci := 4) (C := RX2) (T := TX2) (N := 14) hx hb hts inX2_perform_X2 hown hK.1 hP 0 pz_a0 rfl 6 (by decide) (hts (.fieldLink RX2 36 "PowderMill" "nextStep" "I") (by decide +kernel)) (fun _ h9 => h9) rfl dX2_perform_153 ?_
    refine pr_Vi (As := [.int r_31, .int (g 0 6)]) (rest := [.ref (ad 0)]) ⟨hx, hb, hml, hown, hts⟩ (c_X1_stepBehindAgain r_31 (g 0 6) (pz_again hw)) (cwV 2 hts gX2_perform_X1_stepBehindAgain rfl rfl rfl (by decide +kernel) ⟨Nat.le_of_ble_eq_true rfl, Nat.le_of_ble_eq_true rfl⟩) (va_recv hK.1 hP (ci := 3) rfl pz_a2) hK hP hD hS hA rfl hl.1 rfl (Nat.le_of_ble_eq_true rfl) ⟨Nat.le_of_ble_eq_true rfl, Nat.le_of_ble_eq_true rfl⟩ dX2_perform_156 (fun r_32 ⟨g_34, ph_35⟩ H locs e_q_33 hP hD hS => ?_)
    obtain ⟨e_r_32, e_q_33⟩ := e_q_33
    obtain ⟨e_g_34, e_ph_35⟩ : g_34 = (f_X1_stepBehindAgain g ph r_31 (g 0 6)).2.1 ∧ ph_35 = (f_X1_stepBehindAgain g ph r_31 (g 0 6)).2.2 := ⟨congrArg Prod.fst e_q_33, congrArg Prod.snd e_q_33⟩
    clear e_q_33
    dsimp only at hP hD
    refine pr_putC (ci := 4) (C := RX2) (T := TX2) (N := 14) (ty := .int) (v := r_32) hx hb hts inX2_perform_X2 tyX2 tyX2_ok nmX2 hown hK.1 hP hD hS 0 (by omega) pz_a0 rfl 6 (by decide) (hts (.fieldLink RX2 36 "PowderMill" "nextStep" "I") (by decide +kernel)) (fun _ h9 => h9) rfl (by decide +kernel) rfl rfl (Nat.le_of_ble_eq_true rfl) rfl dX2_perform_159 (fun g_36 H locs e_g_36 hP hD hS => ?_)
    refine lv_iconst (v := 0) hx hb dX2_perform_162 (by decide) ?_
    exact pr_iret (g_36, ph_35) hx hb hr hlocks hP hD hS dX2_perform_163 (by subst e_g_36 e_ph_35 e_g_34 e_r_32 e_r_31; refine ⟨?_, ?_⟩ <;> (simp only [f_X2_perform, if_neg t_13_0, if_neg t_13_1, if_neg t_13_2, if_neg t_13_3, if_neg t_13_4, if_neg t_13_5, if_neg t_13_6, if_neg t_13_7, if_pos t_13_8] <;> rfl))
  refine lv_tableOut (tgt := 164) hx hb dX2_perform_13 (by have q0 := lv_neT t_13_0 (by rfl : (0 : Int32).toInt = 0); have q1 := lv_neT t_13_1 (by rfl : (1 : Int32).toInt = 1); have q2 := lv_neT t_13_2 (by rfl : (2 : Int32).toInt = 2); have q3 := lv_neT t_13_3 (by rfl : (3 : Int32).toInt = 3); have q4 := lv_neT t_13_4 (by rfl : (4 : Int32).toInt = 4); have q5 := lv_neT t_13_5 (by rfl : (5 : Int32).toInt = 5); have q6 := lv_neT t_13_6 (by rfl : (6 : Int32).toInt = 6); have q7 := lv_neT t_13_7 (by rfl : (7 : Int32).toInt = 7); have q8 := lv_neT t_13_8 (by rfl : (8 : Int32).toInt = 8); omega) (by decide) ?_
  refine lv_iconst (v := 0) hx hb dX2_perform_164 (by decide) ?_
  exact pr_iret (g, ph) hx hb hr hlocks hP hD hS dX2_perform_165 (by refine ⟨?_, ?_⟩ <;> (simp only [f_X2_perform, if_neg t_13_0, if_neg t_13_1, if_neg t_13_2, if_neg t_13_3, if_neg t_13_4, if_neg t_13_5, if_neg t_13_6, if_neg t_13_7, if_neg t_13_8] <;> rfl))
theorem inX2_isCaught_X2 : ∀ w ∈ u_ws RX2 TX2 14, w ∈ wsX2_isCaught := by decide +kernel
def f_X2_isCaught (g : pz_M) (ph : Nat → Option Nat) (a : Int32) (b : Int32) : Int32 × pz_M × (Nat → Option Nat) :=
  let g_1 := pz_st g 6 a.toNatClampNeg ((g 6 a.toNatClampNeg) + 1)
  let g_2 := pz_st g_1 0 8 b
  let r_3 := (f_X1_leaveByRefuge g_2 ph).1
  let g_5 := (f_X1_leaveByRefuge g_2 ph).2.1
  let ph_6 := (f_X1_leaveByRefuge g_2 ph).2.2
  (r_3, g_5, ph_6)
set_option maxHeartbeats 4000000 in
set_option maxRecDepth 100000 in
theorem c_X2_isCaught {l : Launch} {dC : Nat → ClassId} {dI : Nat → Nat → Nat} {cl : Nat → ClassId} {ad : Nat → Nat} {ph : Nat → Option Nat} {o : Nat → Int64} {g h : pz_M} (a : Int32) (b : Int32) (hw : pz_W g ph) (ha : vp_in a 7) : pz_Mi l dC dI cl yX2_isCaught wsX2_isCaught { frames := 2, cells := 0, slots := 0, locals := 42 } [.ref (ad 0), .int a, .int b] (pz_wd ad cl ph o g h) (fun u : pz_M × (Nat → Option Nat) => pz_wd ad cl u.2 o u.1 h) (fun r u => r = (f_X2_isCaught g ph a b).1 ∧ u = (f_X2_isCaught g ph a b).2) := by
  intro sz
  refine pr_ofW (Qc := pz_Qi dC dI _ _) (cb := cX2_isCaught) (maxL := 3) (ret := (some .boolean)) (by decide) rfl (Nat.le_of_ble_eq_true rfl) ?_
  intro p e s m below meth c A ls hx hb hml hr hlocks hts hown hK hP hD hS hA hl
  have hl : lv_has ls 3 [(0, .ref (ad 0)), (1, .int a), (2, .int b)] := hl
  refine lv_aload_n hx hb dX2_isCaught_0 rfl (lv_at hl 0 rfl) ?_
  refine va_get (D := (dC, dI)) (ci := 4) (C := RX2) (T := TX2) (N := 14) hx hb hts inX2_isCaught_X2 hown hK.1 hP 0 pz_a0 rfl 9 (by decide) (hts (.fieldLink RX2 45 "PowderMill" "faultsMet" "[I") (by decide +kernel)) (fun _ h9 => h9) rfl dX2_isCaught_1 ?_
  refine lv_iload_n hx hb dX2_isCaught_4 rfl (lv_at hl 1 rfl) ?_
  refine lv_dup2_11 hx hb dX2_isCaught_5 rfl rfl ?_
  refine va_iald hx hb hK.1 hP 6 0 pz_a6 rfl ha dX2_isCaught_6 ?_
  refine lv_iconst (v := 1) hx hb dX2_isCaught_7 (by decide) ?_
  refine lv_iadd hx hb dX2_isCaught_8 ?_
  refine pr_iastC hx hb hK.1 hP hD hS 6 (by omega) pz_a6 (fun _ => rfl) ha dX2_isCaught_9 (fun g_1 H locs e_g_1 hP hD hS => ?_)
  refine lv_aload_n hx hb dX2_isCaught_10 rfl (lv_at hl 0 rfl) ?_
  refine lv_iload_n hx hb dX2_isCaught_11 rfl (lv_at hl 2 rfl) ?_
  refine pr_putC (ci := 4) (C := RX2) (T := TX2) (N := 14) (ty := .int) (v := b) hx hb hts inX2_isCaught_X2 tyX2 tyX2_ok nmX2 hown hK.1 hP hD hS 0 (by omega) pz_a0 rfl 8 (by decide) (hts (.fieldLink RX2 42 "PowderMill" "latestFaultStep" "I") (by decide +kernel)) (fun _ h9 => h9) rfl (by decide +kernel) rfl rfl (Nat.le_of_ble_eq_true rfl) rfl dX2_isCaught_12 (fun g_2 H locs e_g_2 hP hD hS => ?_)
  refine lv_aload_n hx hb dX2_isCaught_15 rfl (lv_at hl 0 rfl) ?_
  refine va_get (D := (dC, dI)) (ci := 4) (C := RX2) (T := TX2) (N := 14) hx hb hts inX2_isCaught_X2 hown hK.1 hP 0 pz_a0 rfl 1 (by decide) (hts (.fieldLink RX2 18 "PowderMill" "path" "LPowderMill$Path;") (by decide +kernel)) (fun _ h9 => h9) rfl dX2_isCaught_16 ?_
  refine pr_Vi (As := []) (rest := []) ⟨hx, hb, hml, hown, hts⟩ (c_X1_leaveByRefuge (pz_Wof hw (by subst e_g_2 e_g_1; rw [pz_st_n (by decide), pz_st_n (by decide)]))) (cwV 0 hts gX2_isCaught_X1_leaveByRefuge rfl rfl rfl (by decide +kernel) ⟨Nat.le_of_ble_eq_true rfl, Nat.le_of_ble_eq_true rfl⟩) (va_recv hK.1 hP (ci := 3) rfl pz_a2) hK hP hD hS hA rfl hl.1 rfl (Nat.le_of_ble_eq_true rfl) ⟨Nat.le_of_ble_eq_true rfl, Nat.le_of_ble_eq_true rfl⟩ dX2_isCaught_19 (fun r_3 ⟨g_5, ph_6⟩ H locs e_q_4 hP hD hS => ?_)
  obtain ⟨e_r_3, e_q_4⟩ := e_q_4
  obtain ⟨e_g_5, e_ph_6⟩ : g_5 = (f_X1_leaveByRefuge g_2 ph).2.1 ∧ ph_6 = (f_X1_leaveByRefuge g_2 ph).2.2 := ⟨congrArg Prod.fst e_q_4, congrArg Prod.snd e_q_4⟩
  clear e_q_4
  dsimp only at hP hD
  exact pr_zret (g_5, ph_6) hx hb hr hlocks (by rw [e_r_3]; exact pz_lbr01) hP hD hS dX2_isCaught_22 (by subst e_ph_6 e_g_5 e_r_3 e_g_2 e_g_1; refine ⟨?_, ?_⟩ <;> (simp only [f_X2_isCaught] <;> rfl))
