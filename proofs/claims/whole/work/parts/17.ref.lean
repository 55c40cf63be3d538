theorem pz_mod (a : Int32) {n : Nat} (h0 : 1 < n) (hn : n < 2 ^ 30) : f_X3_modulo a (nI n) = f_J9_floorMod_7cf53 a (nI n) := by
  obtain ⟨r1, r2, r3, r4⟩ := pz_rem a h0 hn
  unfold f_X3_modulo f_J9_floorMod_7cf53
  by_cases hs : 0 ≤ (a ^^^ nI n)
  · rw [if_pos hs]
    have hs := (pz_xor a (by omega)).mp hs
    rw [if_pos (by rw [Int32.le_iff_toInt_le, Int32.toInt_zero]; exact r4 hs)]
  · rw [if_neg hs]
    have hs : a.toInt < 0 := Int.not_le.mp (fun q => hs ((pz_xor a (by omega)).mpr q))
    by_cases hz : a - a / nI n * nI n = 0
    · rw [if_pos hz, if_pos (by rw [hz]; decide)]
    · have hz1 : ¬ (a - a / nI n * nI n).toInt = 0 := fun q => hz (Int32.toInt_inj.mp (by rw [q]; rfl))
      have r5 := r3 hs
      rw [if_neg hz, if_neg (by rw [Int32.le_iff_toInt_le, Int32.toInt_zero]; omega)]
theorem pz_md8 {a r : Int32} (h : r = f_X3_modulo a 8) : vp_in r 8 := pz_fm8 (h.trans (pz_mod a (n := 8) (by decide) (by decide)))
theorem pz_mhouse {h : pz_M} {a : Int32} (q : ¬ f_X3_isHouse h a = 0) : vp_in a 8 := by
  unfold f_X3_isHouse at q
  by_cases h1 : f_X3_isPlace a = 0
  · exact absurd (by simp only [h1, if_true]) q
  · exact pz_mplace h1
theorem inX3_does_X3 : ∀ w ∈ u_ws RX3 TX3 20, w ∈ wsX3_does := by decide +kernel
def f_X3_does (h : pz_M) (a : Int32) (b : Int32) : Int32 × pz_M :=
  if a = 0 then
    let r_1 := f_X3_modulo b 8
    let r_2 := (f_X3_goIn h r_1).1
    let h_4 := (f_X3_goIn h r_1).2
    (r_2, h_4)
  else
    if a = 1 then
      if (h 18 11) ≤ 0 then
        let h_5 := pz_st h 18 11 ((h 18 11) - 0)
        (0, h_5)
      else
        let h_6 := pz_st h 18 11 ((h 18 11) - 1)
        (0, h_6)
    else
      if a = 2 then
        if (h 18 11) = 0 then
          (0, h)
        else
          let r_7 := f_X3_modulo b 1000
          let r_8 := (f_X3_comes h (h 28 ((h 18 11) - 1).toNatClampNeg) r_7).1
          let h_10 := (f_X3_comes h (h 28 ((h 18 11) - 1).toNatClampNeg) r_7).2
          (r_8, h_10)
      else
        if a = 3 then
          if 2 ≤ (h 18 11) then
            let r_11 := f_X3_modulo b 1000
            let r_12 := (f_X3_carry h r_11).1
            let h_14 := (f_X3_carry h r_11).2
            (r_12, h_14)
          else
            (0, h)
        else
          if a = 4 then
            if (h 18 11) = 0 then
              (0, h)
            else
              let r_15 := f_X3_modulo b 10
              let r_16 := (f_X3_share h r_15).1
              let h_18 := (f_X3_share h r_15).2
              (r_16, h_18)
          else
            if a = 5 then
              let r_19 := (f_X3_write h b).1
              let h_21 := (f_X3_write h b).2
              (r_19, h_21)
            else
              if a = 6 then
                let h_22 := pz_st h 18 16 1
                (0, h_22)
              else
                if a = 7 then
                  let r_23 := f_X3_modulo b 4
                  let h_24 := pz_st h 18 15 ((h 18 15) + r_23)
                  (0, h_24)
                else
                  if (h 18 11) ≤ 0 then
                    (0, h)
                  else
                    let r_25 := f_X3_modulo b 4
                    if r_25 ≤ (h 30 ((h 18 11) - 1).toNatClampNeg) then
                      (0, h)
                    else
                      let h_26 := pz_st h 30 ((h 18 11) - 1).toNatClampNeg ((h 30 ((h 18 11) - 1).toNatClampNeg) + 1)
                      let h_27 := pz_st h_26 18 15 (h_26 29 ((h_26 18 11) - 1).toNatClampNeg)
                      (0, h_27)
set_option maxHeartbeats 4000000 in
set_option maxRecDepth 100000 in
theorem c_X3_does {l : Launch} {dC : Nat → ClassId} {dI : Nat → Nat → Nat} {cl : Nat → ClassId} {ad : Nat → Nat} {ph : Nat → Option Nat} {o : Nat → Int64} {g h : pz_M} (a : Int32) (b : Int32) (hv : pz_V h) : pz_Mi l dC dI cl yX3_does wsX3_does { frames := 2, cells := 0, slots := 0, locals := 44 } [.ref (ad 18), .int a, .int b] (pz_wd ad cl ph o g h) (fun u : pz_M => pz_wd ad cl ph o g u) (fun r u => r = (f_X3_does h a b).1 ∧ u = (f_X3_does h a b).2) := by
  intro sz
  refine pr_ofW (Qc := pz_Qi dC dI _ _) (cb := cX3_does) (maxL := 3) (ret := (some .int)) (by decide) rfl (Nat.le_of_ble_eq_true rfl) ?_
  intro p e s m below meth c A ls hx hb hml hr hlocks hts hown hK hP hD hS hA hl
  have hl : lv_has ls 3 [(0, .ref (ad 18)), (1, .int a), (2, .int b)] := hl
  refine lv_iload_n hx hb dX3_does_0 rfl (lv_at hl 1 rfl) ?_
  by_cases t_1_0 : a = 0
  · refine pr_tabIn (ki := 0) (tgt := 48) hx hb dX3_does_1 t_1_0 (by rfl) (by decide) (by decide) (by rfl) (by decide) ?_
    refine lv_aload_n hx hb dX3_does_48 rfl (lv_at hl 0 rfl) ?_
    refine lv_iload_n hx hb dX3_does_49 rfl (lv_at hl 2 rfl) ?_
    refine lv_bipush (v := 8) hx hb dX3_does_50 (by decide) ?_
    refine pr_Si (As := [.int b, .int 8]) (rest := [.ref (ad 18)]) ⟨hx, hb, hml, hown, hts⟩ (c_X3_modulo b 8 (by decide)) (va_cwS 2 hts gX3_does_X3_modulo rfl rfl rfl (by decide +kernel) ⟨Nat.le_of_ble_eq_true rfl, Nat.le_of_ble_eq_true rfl⟩) hK hP hD hS hA rfl hl.1 rfl (Nat.le_of_ble_eq_true rfl) ⟨Nat.le_of_ble_eq_true rfl, Nat.le_of_ble_eq_true rfl⟩ dX3_does_52 (fun r_1 _ H locs e_r_1 hP hD hS => ?_)
    refine pr_Vi (As := [.int r_1]) (rest := []) ⟨hx, hb, hml, hown, hts⟩ (c_X3_goIn r_1 hv (pz_md8 e_r_1)) (cwV 1 hts gX3_does_X3_goIn rfl rfl rfl (by decide +kernel) ⟨Nat.le_of_ble_eq_true rfl, Nat.le_of_ble_eq_true rfl⟩) (va_recv hK.1 hP (ci := 5) rfl pz_a18) hK hP hD hS hA rfl hl.1 rfl (Nat.le_of_ble_eq_true rfl) ⟨Nat.le_of_ble_eq_true rfl, Nat.le_of_ble_eq_true rfl⟩ dX3_does_55 (fun r_2 h_4 H locs e_q_3 hP hD hS => ?_)
    obtain ⟨e_r_2, e_h_4⟩ := e_q_3
    exact pr_iret (h_4) hx hb hr hlocks hP hD hS dX3_does_58 (by subst e_h_4 e_r_2 e_r_1; refine ⟨?_, ?_⟩ <;> (simp only [f_X3_does, if_pos t_1_0] <;> rfl))
  by_cases t_1_1 : a = 1
  · refine pr_tabIn (ki := 1) (tgt := 59) hx hb dX3_does_1 t_1_1 (by rfl) (by decide) (by decide) (by rfl) (by decide) ?_
    refine lv_aload_n hx hb dX3_does_59 rfl (lv_at hl 0 rfl) ?_
    refine lv_dup hx hb dX3_does_60 rfl ?_
    refine va_get (D := (dC, dI)) (ci := 5) (C := RX3) (T := TX3) (N := 20) hx hb hts inX3_does_X3 hown hK.1 hP 18 pz_a18 rfl 11 (by decide) (hts (.fieldLink RX3 72 "PowderMillModel" "deep" "I") (by decide +kernel)) (fun _ h9 => h9) rfl dX3_does_61 ?_
    refine lv_aload_n hx hb dX3_does_64 rfl (lv_at hl 0 rfl) ?_
    refine va_get (D := (dC, dI)) (ci := 5) (C := RX3) (T := TX3) (N := 20) hx hb hts inX3_does_X3 hown hK.1 hP 18 pz_a18 rfl 11 (by decide) (hts (.fieldLink RX3 72 "PowderMillModel" "deep" "I") (by decide +kernel)) (fun _ h9 => h9) rfl dX3_does_65 ?_
    refine lv_if_le (tgt := 75) hx hb dX3_does_68 (by decide) (fun c_68 => ?_) (fun c_68 => ?_)
    · refine lv_iconst (v := 0) hx hb dX3_does_75 (by decide) ?_
      refine lv_isub hx hb dX3_does_76 ?_
      refine pr_putR (ci := 5) (C := RX3) (T := TX3) (N := 20) (ty := .int) (v := ((h 18 11) - 0)) hx hb hts inX3_does_X3 tyX3 tyX3_ok nmX3 hown hK.1 hP hD hS 18 (by omega) (by omega) pz_a18 rfl 11 (by decide) (hts (.fieldLink RX3 72 "PowderMillModel" "deep" "I") (by decide +kernel)) (fun _ h9 => h9) rfl (by decide +kernel) rfl rfl (Nat.le_of_ble_eq_true rfl) rfl dX3_does_77 (fun h_5 H locs e_h_5 hP hD hS => ?_)
      refine lv_iconst (v := 0) hx hb dX3_does_80 (by decide) ?_
      exact pr_iret (h_5) hx hb hr hlocks hP hD hS dX3_does_81 (by subst e_h_5; refine ⟨?_, ?_⟩ <;> (simp only [f_X3_does, if_neg t_1_0, if_pos t_1_1, if_pos c_68] <;> rfl))
    · refine lv_iconst (v := 1) hx hb dX3_does_71 (by decide) ?_
      refine lv_goto (tgt := 76) hx hb dX3_does_72 (by decide) ?_
      refine lv_isub hx hb dX3_does_76 ?_
      refine pr_putR (ci := 5) (C := RX3) (T := TX3) (N := 20) (ty := .int) (v := ((h 18 11) - 1)) hx hb hts inX3_does_X3 tyX3 tyX3_ok nmX3 hown hK.1 hP hD hS 18 (by omega) (by omega) pz_a18 rfl 11 (by decide) (hts (.fieldLink RX3 72 "PowderMillModel" "deep" "I") (by decide +kernel)) (fun _ h9 => h9) rfl (by decide +kernel) rfl rfl (Nat.le_of_ble_eq_true rfl) rfl dX3_does_77 (fun h_6 H locs e_h_6 hP hD hS => ?_)
      refine lv_iconst (v := 0) hx hb dX3_does_80 (by decide) ?_
      exact pr_iret (h_6) hx hb hr hlocks hP hD hS dX3_does_81 (by subst e_h_6; refine ⟨?_, ?_⟩ <;> (simp only [f_X3_does, if_neg t_1_0, if_pos t_1_1, if_neg c_68] <;> rfl))
  by_cases t_1_2 : a = 2
  · refine pr_tabIn (ki := 2) (tgt := 82) hx hb dX3_does_1 t_1_2 (by rfl) (by decide) (by decide) (by rfl) (by decide) ?_
    refine lv_aload_n hx hb dX3_does_82 rfl (lv_at hl 0 rfl) ?_
    refine va_get (D := (dC, dI)) (ci := 5) (C := RX3) (T := TX3) (N := 20) hx hb hts inX3_does_X3 hown hK.1 hP 18 pz_a18 rfl 11 (by decide) (hts (.fieldLink RX3 72 "PowderMillModel" "deep" "I") (by decide +kernel)) (fun _ h9 => h9) rfl dX3_does_83 ?_
    refine lv_if_ne (tgt := 93) hx hb dX3_does_86 (by decide) (fun c_86 => ?_) (fun c_86 => ?_)
    · obtain ⟨i1, i2⟩ := pz_V1 hv c_86
      refine lv_aload_n hx hb dX3_does_93 rfl (lv_at hl 0 rfl) ?_
      refine lv_aload_n hx hb dX3_does_94 rfl (lv_at hl 0 rfl) ?_
      refine va_get (D := (dC, dI)) (ci := 5) (C := RX3) (T := TX3) (N := 20) hx hb hts inX3_does_X3 hown hK.1 hP 18 pz_a18 rfl 12 (by decide) (hts (.fieldLink RX3 38 "PowderMillModel" "in" "[I") (by decide +kernel)) (fun _ h9 => h9) rfl dX3_does_95 ?_
      refine lv_aload_n hx hb dX3_does_98 rfl (lv_at hl 0 rfl) ?_
      refine va_get (D := (dC, dI)) (ci := 5) (C := RX3) (T := TX3) (N := 20) hx hb hts inX3_does_X3 hown hK.1 hP 18 pz_a18 rfl 11 (by decide) (hts (.fieldLink RX3 72 "PowderMillModel" "deep" "I") (by decide +kernel)) (fun _ h9 => h9) rfl dX3_does_99 ?_
      refine lv_iconst (v := 1) hx hb dX3_does_102 (by decide) ?_
      refine lv_isub hx hb dX3_does_103 ?_
      refine va_iald hx hb hK.1 hP 28 0 pz_a28 rfl i1 dX3_does_104 ?_
      refine lv_iload_n hx hb dX3_does_105 rfl (lv_at hl 2 rfl) ?_
      refine lv_sipush (v := 1000) hx hb dX3_does_106 (by decide) ?_
      refine pr_Si (As := [.int b, .int 1000]) (rest := [.int (h 28 ((h 18 11) - 1).toNatClampNeg), .ref (ad 18)]) ⟨hx, hb, hml, hown, hts⟩ (c_X3_modulo b 1000 (by decide)) (va_cwS 2 hts gX3_does_X3_modulo rfl rfl rfl (by decide +kernel) ⟨Nat.le_of_ble_eq_true rfl, Nat.le_of_ble_eq_true rfl⟩) hK hP hD hS hA rfl hl.1 rfl (Nat.le_of_ble_eq_true rfl) ⟨Nat.le_of_ble_eq_true rfl, Nat.le_of_ble_eq_true rfl⟩ dX3_does_109 (fun r_7 _ H locs e_r_7 hP hD hS => ?_)
      refine pr_Vi (As := [.int (h 28 ((h 18 11) - 1).toNatClampNeg), .int r_7]) (rest := []) ⟨hx, hb, hml, hown, hts⟩ (c_X3_comes (h 28 ((h 18 11) - 1).toNatClampNeg) r_7 i2) (cwV 2 hts gX3_does_X3_comes rfl rfl rfl (by decide +kernel) ⟨Nat.le_of_ble_eq_true rfl, Nat.le_of_ble_eq_true rfl⟩) (va_recv hK.1 hP (ci := 5) rfl pz_a18) hK hP hD hS hA rfl hl.1 rfl (Nat.le_of_ble_eq_true rfl) ⟨Nat.le_of_ble_eq_true rfl, Nat.le_of_ble_eq_true rfl⟩ dX3_does_112 (fun r_8 h_10 H locs e_q_9 hP hD hS => ?_)
      obtain ⟨e_r_8, e_h_10⟩ := e_q_9
      exact pr_iret (h_10) hx hb hr hlocks hP hD hS dX3_does_115 (by subst e_h_10 e_r_8 e_r_7; refine ⟨?_, ?_⟩ <;> (simp only [f_X3_does, if_neg t_1_0, if_neg t_1_1, if_pos t_1_2, if_neg c_86] <;> rfl))
    · refine lv_iconst (v := 0) hx hb dX3_does_89 (by decide) ?_
      refine lv_goto (tgt := 115) hx hb dX3_does_90 (by decide) ?_
      exact pr_iret (h) hx hb hr hlocks hP hD hS dX3_does_115 (by refine ⟨?_, ?_⟩ <;> (simp only [f_X3_does, if_neg t_1_0, if_neg t_1_1, if_pos t_1_2, if_pos c_86] <;> rfl))
  by_cases t_1_3 : a = 3
  · refine pr_tabIn (ki := 3) (tgt := 116) hx hb dX3_does_1 t_1_3 (by rfl) (by decide) (by decide) (by rfl) (by decide) ?_
    refine lv_aload_n hx hb dX3_does_116 rfl (lv_at hl 0 rfl) ?_
    refine va_get (D := (dC, dI)) (ci := 5) (C := RX3) (T := TX3) (N := 20) hx hb hts inX3_does_X3 hown hK.1 hP 18 pz_a18 rfl 11 (by decide) (hts (.fieldLink RX3 72 "PowderMillModel" "deep" "I") (by decide +kernel)) (fun _ h9 => h9) rfl dX3_does_117 ?_
    refine lv_iconst (v := 2) hx hb dX3_does_120 (by decide) ?_
    refine lv_icmp_ge (tgt := 128) hx hb dX3_does_121 (by decide) (fun c_121 => ?_) (fun c_121 => ?_)
    · refine lv_aload_n hx hb dX3_does_128 rfl (lv_at hl 0 rfl) ?_
      refine lv_iload_n hx hb dX3_does_129 rfl (lv_at hl 2 rfl) ?_
      refine lv_sipush (v := 1000) hx hb dX3_does_130 (by decide) ?_
      refine pr_Si (As := [.int b, .int 1000]) (rest := [.ref (ad 18)]) ⟨hx, hb, hml, hown, hts⟩ (c_X3_modulo b 1000 (by decide)) (va_cwS 2 hts gX3_does_X3_modulo rfl rfl rfl (by decide +kernel) ⟨Nat.le_of_ble_eq_true rfl, Nat.le_of_ble_eq_true rfl⟩) hK hP hD hS hA rfl hl.1 rfl (Nat.le_of_ble_eq_true rfl) ⟨Nat.le_of_ble_eq_true rfl, Nat.le_of_ble_eq_true rfl⟩ dX3_does_133 (fun r_11 _ H locs e_r_11 hP hD hS => ?_)
      refine pr_Vi (As := [.int r_11]) (rest := []) ⟨hx, hb, hml, hown, hts⟩ (c_X3_carry r_11 hv c_121) (cwV 1 hts gX3_does_X3_carry rfl rfl rfl (by decide +kernel) ⟨Nat.le_of_ble_eq_true rfl, Nat.le_of_ble_eq_true rfl⟩) (va_recv hK.1 hP (ci := 5) rfl pz_a18) hK hP hD hS hA rfl hl.1 rfl (Nat.le_of_ble_eq_true rfl) ⟨Nat.le_of_ble_eq_true rfl, Nat.le_of_ble_eq_true rfl⟩ dX3_does_136 (fun r_12 h_14 H locs e_q_13 hP hD hS => ?_)
      obtain ⟨e_r_12, e_h_14⟩ := e_q_13
      exact pr_iret (h_14) hx hb hr hlocks hP hD hS dX3_does_139 (by subst e_h_14 e_r_12 e_r_11; refine ⟨?_, ?_⟩ <;> (simp only [f_X3_does, if_neg t_1_0, if_neg t_1_1, if_neg t_1_2, if_pos t_1_3, if_pos c_121] <;> rfl))
    · refine lv_iconst (v := 0) hx hb dX3_does_124 (by decide) ?_
      refine lv_goto (tgt := 139) hx hb dX3_does_125 (by decide) ?_
      exact pr_iret (h) hx hb hr hlocks hP hD hS dX3_does_139 (by refine ⟨?_, ?_⟩ <;> (simp only [f_X3_does, if_neg t_1_0, if_neg t_1_1, if_neg t_1_2, if_pos t_1_3, if_neg c_121] <;> rfl))
  by_cases t_1_4 : a = 4
  · refine pr_tabIn (ki := 4) (tgt := 140) hx hb dX3_does_1 t_1_4 (by rfl) (by decide) (by decide) (by rfl) (by decide) ?_
    refine lv_aload_n hx hb dX3_does_140 rfl (lv_at hl 0 rfl) ?_
    refine va_get (D := (dC, dI)) (ci := 5) (C := RX3) (T := TX3) (N := 20) hx hb hts inX3_does_X3 hown hK.1 hP 18 pz_a18 rfl 11 (by decide) (hts (.fieldLink RX3 72 "PowderMillModel" "deep" "I") (by decide +kernel)) (fun _ h9 => h9) rfl dX3_does_141 ?_
    refine lv_if_ne (tgt := 151) hx hb dX3_does_144 (by decide) (fun c_144 => ?_) (fun c_144 => ?_)
    · refine lv_aload_n hx hb dX3_does_151 rfl (lv_at hl 0 rfl) ?_
      refine lv_iload_n hx hb dX3_does_152 rfl (lv_at hl 2 rfl) ?_
      refine lv_bipush (v := 10) hx hb dX3_does_153 (by decide) ?_
      refine pr_Si (As := [.int b, .int 10]) (rest := [.ref (ad 18)]) ⟨hx, hb, hml, hown, hts⟩ (c_X3_modulo b 10 (by decide)) (va_cwS 2 hts gX3_does_X3_modulo rfl rfl rfl (by decide +kernel) ⟨Nat.le_of_ble_eq_true rfl, Nat.le_of_ble_eq_true rfl⟩) hK hP hD hS hA rfl hl.1 rfl (Nat.le_of_ble_eq_true rfl) ⟨Nat.le_of_ble_eq_true rfl, Nat.le_of_ble_eq_true rfl⟩ dX3_does_155 (fun r_15 _ H locs e_r_15 hP hD hS => ?_)
      refine pr_Vi (As := [.int r_15]) (rest := []) ⟨hx, hb, hml, hown, hts⟩ (c_X3_share r_15 hv c_144) (cwV 1 hts gX3_does_X3_share rfl rfl rfl (by decide +kernel) ⟨Nat.le_of_ble_eq_true rfl, Nat.le_of_ble_eq_true rfl⟩) (va_recv hK.1 hP (ci := 5) rfl pz_a18) hK hP hD hS hA rfl hl.1 rfl (Nat.le_of_ble_eq_true rfl) ⟨Nat.le_of_ble_eq_true rfl, Nat.le_of_ble_eq_true rfl⟩ dX3_does_158 (fun r_16 h_18 H locs e_q_17 hP hD hS => ?_)
      obtain ⟨e_r_16, e_h_18⟩ := e_q_17
      exact pr_iret (h_18) hx hb hr hlocks hP hD hS dX3_does_161 (by subst e_h_18 e_r_16 e_r_15; refine ⟨?_, ?_⟩ <;> (simp only [f_X3_does, if_neg t_1_0, if_neg t_1_1, if_neg t_1_2, if_neg t_1_3, if_pos t_1_4, if_neg c_144] <;> rfl))
    · refine lv_iconst (v := 0) hx hb dX3_does_147 (by decide) ?_
      refine lv_goto (tgt := 161) hx hb dX3_does_148 (by decide) ?_
      exact pr_iret (h) hx hb hr hlocks hP hD hS dX3_does_161 (by refine ⟨?_, ?_⟩ <;> (simp only [f_X3_does, if_neg t_1_0, if_neg t_1_1, if_neg t_1_2, if_neg t_1_3, if_pos t_1_4, if_pos c_144] <;> rfl))
  by_cases t_1_5 : a = 5
  · refine pr_tabIn (ki := 5) (tgt := 162) hx hb dX3_does_1 t_1_5 (by rfl) (by decide) (by decide) (by rfl) (by decide) ?_
    refine lv_aload_n hx hb dX3_does_162 rfl (lv_at hl 0 rfl) ?_
    refine lv_iload_n hx hb dX3_does_163 rfl (lv_at hl 2 rfl) ?_
    refine pr_Vi (As := [.int b]) (rest := []) ⟨hx, hb, hml, hown, hts⟩ (c_X3_write b hv) (cwV 1 hts gX3_does_X3_write rfl rfl rfl (by decide +kernel) ⟨Nat.le_of_ble_eq_true rfl, Nat.le_of_ble_eq_true rfl⟩) (va_recv hK.1 hP (ci := 5) rfl pz_a18) hK hP hD hS hA rfl hl.1 rfl (Nat.le_of_ble_eq_true rfl) ⟨Nat.le_of_ble_eq_true rfl, Nat.le_of_ble_eq_true rfl⟩ dX3_does_164 (fun r_19 h_21 H locs e_q_20 hP hD hS => ?_)
    obtain ⟨e_r_19, e_h_21⟩ := e_q_20
    exact pr_iret (h_21) hx hb hr hlocks hP hD hS dX3_does_167 (by subst e_h_21 e_r_19; refine ⟨?_, ?_⟩ <;> (simp only [f_X3_does, if_neg t_1_0, if_neg t_1_1, if_neg t_1_2, if_neg t_1_3, if_neg t_1_4, if_pos t_1_5] <;> rfl))
  by_cases t_1_6 : a = 6
  · refine pr_tabIn (ki := 6) (tgt := 168) hx hb dX3_does_1 t_1_6 (by rfl) (by decide) (by decide) (by rfl) (by decide) ?_
    refine lv_aload_n hx hb dX3_does_168 rfl (lv_at hl 0 rfl) ?_
    refine lv_iconst (v := 1) hx hb dX3_does_169 (by decide) ?_
    refine pr_putR (ci := 5) (C := RX3) (T := TX3) (N := 20) (ty := .boolean) (v := 1) hx hb hts inX3_does_X3 tyX3 tyX3_ok nmX3 hown hK.1 hP hD hS 18 (by omega) (by omega) pz_a18 rfl 16 (by decide) (hts (.fieldLink RX3 98 "PowderMillModel" "quits" "Z") (by decide +kernel)) (fun _ h9 => h9) rfl (by decide +kernel) rfl rfl (Nat.le_of_ble_eq_true rfl) rfl dX3_does_170 (fun h_22 H locs e_h_22 hP hD hS => ?_)
    refine lv_iconst (v := 0) hx hb dX3_does_173 (by decide) ?_
    exact pr_iret (h_22) hx hb hr hlocks hP hD hS dX3_does_174 (by subst e_h_22; refine ⟨?_, ?_⟩ <;> (simp only [f_X3_does, if_neg t_1_0, if_neg t_1_1, if_neg t_1_2, if_neg t_1_3, if_neg t_1_4, if_neg t_1_5, if_pos t_1_6] <;> rfl))
  by_cases t_1_7 : a = 7
  · refine pr_tabIn (ki := 7) (tgt := 175) hx hb dX3_does_1 t_1_7 (by rfl) (by decide) (by decide) (by rfl) (by decide) ?_
    refine lv_aload_n hx hb dX3_does_175 rfl (lv_at hl 0 rfl) ?_
    refine lv_dup hx hb dX3_does_176 rfl ?_
    refine va_get (D := (dC, dI)) (ci := 5) (C := RX3) (T := TX3) (N := 20) hx hb hts inX3_does_X3 hown hK.1 hP 18 pz_a18 rfl 15 (by decide) (hts (.fieldLink RX3 75 "PowderMillModel" "next" "I") (by decide +kernel)) (fun _ h9 => h9) rfl dX3_does_177 ?_
    refine lv_iload_n hx hb dX3_does_180 rfl (lv_at hl 2 rfl) ?_
    refine lv_iconst (v := 4) hx hb dX3_does_181 (by decide) ?_
    refine pr_Si (As := [.int b, .int 4]) (rest := [.int (h 18 15), .ref (ad 18)]) ⟨hx, hb, hml, hown, hts⟩ (c_X3_modulo b 4 (by decide)) (va_cwS 2 hts gX3_does_X3_modulo rfl rfl rfl (by decide +kernel) ⟨Nat.le_of_ble_eq_true rfl, Nat.le_of_ble_eq_true rfl⟩) hK hP hD hS hA rfl hl.1 rfl (Nat.le_of_ble_eq_true rfl) ⟨Nat.le_of_ble_eq_true rfl, Nat.le_of_ble_eq_true rfl⟩ dX3_does_182 (fun r_23 _ H locs e_r_23 hP hD hS => ?_)
    refine lv_iadd hx hb dX3_does_185 ?_
    refine pr_putR (ci := 5) (C := RX3) (T := TX3) (N := 20) (ty := .int) (v := ((h 18 15) + r_23)) hx hb hts inX3_does_X3 tyX3 tyX3_ok nmX3 hown hK.1 hP hD hS 18 (by omega) (by omega) pz_a18 rfl 15 (by decide) (hts (.fieldLink RX3 75 "PowderMillModel" "next" "I") (by decide +kernel)) (fun _ h9 => h9) rfl (by decide +kernel) rfl rfl (Nat.le_of_ble_eq_true rfl) rfl dX3_does_186 (fun h_24 H locs e_h_24 hP hD hS => ?_)
    refine lv_iconst (v := 0) hx hb dX3_does_189 (by decide) ?_
    exact pr_iret (h_24) hx hb hr hlocks hP hD hS dX3_does_190 (by subst e_h_24 e_r_23; refine ⟨?_, ?_⟩ <;> (simp only [f_X3_does, if_neg t_1_0, if_neg t_1_1, if_neg t_1_2, if_neg t_1_3, if_neg t_1_4, if_neg t_1_5, if_neg t_1_6, if_pos t_1_7] <;> rfl))
  refine lv_tableOut (tgt := 191) hx hb dX3_does_1 (by have q0 := lv_neT t_1_0 (by rfl : (0 : Int32).toInt = 0); have q1 := lv_neT t_1_1 (by rfl : (1 : Int32).toInt = 1); have q2 := lv_neT t_1_2 (by rfl : (2 : Int32).toInt = 2); have q3 := lv_neT t_1_3 (by rfl : (3 : Int32).toInt = 3); have q4 := lv_neT t_1_4 (by rfl : (4 : Int32).toInt = 4); have q5 := lv_neT t_1_5 (by rfl : (5 : Int32).toInt = 5); have q6 := lv_neT t_1_6 (by rfl : (6 : Int32).toInt = 6); have q7 := lv_neT t_1_7 (by rfl : (7 : Int32).toInt = 7); omega) (by decide) ?_
  refine lv_aload_n hx hb dX3_does_191 rfl (lv_at hl 0 rfl) ?_
  refine va_get (D := (dC, dI)) (ci := 5) (C := RX3) (T := TX3) (N := 20) hx hb hts inX3_does_X3 hown hK.1 hP 18 pz_a18 rfl 11 (by decide) (hts (.fieldLink RX3 72 "PowderMillModel" "deep" "I") (by decide +kernel)) (fun _ h9 => h9) rfl dX3_does_192 ?_
  refine lv_if_le (tgt := 247) hx hb dX3_does_195 (by decide) (fun c_195 => ?_) (fun c_195 => ?_)
  · refine lv_iconst (v := 0) hx hb dX3_does_247 (by decide) ?_
    exact pr_iret (h) hx hb hr hlocks hP hD hS dX3_does_248 (by refine ⟨?_, ?_⟩ <;> (simp only [f_X3_does, if_neg t_1_0, if_neg t_1_1, if_neg t_1_2, if_neg t_1_3, if_neg t_1_4, if_neg t_1_5, if_neg t_1_6, if_neg t_1_7, if_pos c_195] <;> rfl))
  · obtain ⟨i1, -⟩ := pz_V1 hv (pz_Vgt c_195)
    refine lv_aload_n hx hb dX3_does_198 rfl (lv_at hl 0 rfl) ?_
    refine va_get (D := (dC, dI)) (ci := 5) (C := RX3) (T := TX3) (N := 20) hx hb hts inX3_does_X3 hown hK.1 hP 18 pz_a18 rfl 14 (by decide) (hts (.fieldLink RX3 44 "PowderMillModel" "agains" "[I") (by decide +kernel)) (fun _ h9 => h9) rfl dX3_does_199 ?_
    refine lv_aload_n hx hb dX3_does_202 rfl (lv_at hl 0 rfl) ?_
    refine va_get (D := (dC, dI)) (ci := 5) (C := RX3) (T := TX3) (N := 20) hx hb hts inX3_does_X3 hown hK.1 hP 18 pz_a18 rfl 11 (by decide) (hts (.fieldLink RX3 72 "PowderMillModel" "deep" "I") (by decide +kernel)) (fun _ h9 => h9) rfl dX3_does_203 ?_
    refine lv_iconst (v := 1) hx hb dX3_does_206 (by decide) ?_
    refine lv_isub hx hb dX3_does_207 ?_
    refine va_iald hx hb hK.1 hP 30 0 pz_a30 rfl i1 dX3_does_208 ?_
    refine lv_iload_n hx hb dX3_does_209 rfl (lv_at hl 2 rfl) ?_
    refine lv_iconst (v := 4) hx hb dX3_does_210 (by decide) ?_
    refine pr_Si (As := [.int b, .int 4]) (rest := [.int (h 30 ((h 18 11) - 1).toNatClampNeg)]) ⟨hx, hb, hml, hown, hts⟩ (c_X3_modulo b 4 (by decide)) (va_cwS 2 hts gX3_does_X3_modulo rfl rfl rfl (by decide +kernel) ⟨Nat.le_of_ble_eq_true rfl, Nat.le_of_ble_eq_true rfl⟩) hK hP hD hS hA rfl hl.1 rfl (Nat.le_of_ble_eq_true rfl) ⟨Nat.le_of_ble_eq_true rfl, Nat.le_of_ble_eq_true rfl⟩ dX3_does_211 (fun r_25 _ H locs e_r_25 hP hD hS => ?_)
    refine lv_icmp_ge (tgt := 247) hx hb dX3_does_214 (by decide) (fun c_214 => ?_) (fun c_214 => ?_)
    · refine lv_iconst (v := 0) hx hb dX3_does_247 (by decide) ?_
      exact pr_iret (h) hx hb hr hlocks hP hD hS dX3_does_248 (by subst e_r_25; refine ⟨?_, ?_⟩ <;> (simp only [f_X3_does, if_neg t_1_0, if_neg t_1_1, if_neg t_1_2, if_neg t_1_3, if_neg t_1_4, if_neg t_1_5, if_neg t_1_6, if_neg t_1_7, if_neg c_195, if_pos c_214] <;> rfl))
    · refine lv_aload_n hx hb dX3_does_217 rfl (lv_at hl 0 rfl) ?_
      refine va_get (D := (dC, dI)) (ci := 5) (C := RX3) (T := TX3) (N := 20) hx hb hts inX3_does_X3 hown hK.1 hP 18 pz_a18 rfl 14 (by decide) (hts (.fieldLink RX3 44 "PowderMillModel" "agains" "[I") (by decide +kernel)) (fun _ h9 => h9) rfl dX3_does_218 ?_
      refine lv_aload_n hx hb dX3_does_221 rfl (lv_at hl 0 rfl) ?_
      refine va_get (D := (dC, dI)) (ci := 5) (C := RX3) (T := TX3) (N := 20) hx hb hts inX3_does_X3 hown hK.1 hP 18 pz_a18 rfl 11 (by decide) (hts (.fieldLink RX3 72 "PowderMillModel" "deep" "I") (by decide +kernel)) (fun _ h9 => h9) rfl dX3_does_222 ?_
      refine lv_iconst (v := 1) hx hb dX3_does_225 (by decide) ?_
      refine lv_isub hx hb dX3_does_226 ?_
      refine lv_dup2_11 hx hb dX3_does_227 rfl rfl ?_
      refine va_iald hx hb hK.1 hP 30 0 pz_a30 rfl i1 dX3_does_228 ?_
      refine lv_iconst (v := 1) hx hb dX3_does_229 (by decide) ?_
      refine lv_iadd hx hb dX3_does_230 ?_
      refine pr_iastR hx hb hK.1 hP hD hS 30 (by omega) (by omega) pz_a30 (fun _ => rfl) i1 dX3_does_231 (fun h_26 H locs e_h_26 hP hD hS => ?_)
      refine lv_aload_n hx hb dX3_does_232 rfl (lv_at hl 0 rfl) ?_
      refine lv_aload_n hx hb dX3_does_233 rfl (lv_at hl 0 rfl) ?_
      refine va_get (D := (dC, dI)) (ci := 5) (C := RX3) (T := TX3) (N := 20) hx hb hts inX3_does_X3 hown hK.1 hP 18 pz_a18 rfl 13 (by decide) (hts (.fieldLink RX3 41 "PowderMillModel" "from" "[I") (by decide +kernel)) (fun _ h9 => h9) rfl dX3_does_234 ?_
      refine lv_aload_n hx hb dX3_does_237 rfl (lv_at hl 0 rfl) ?_
      refine va_get (D := (dC, dI)) (ci := 5) (C := RX3) (T := TX3) (N := 20) hx hb hts inX3_does_X3 hown hK.1 hP 18 pz_a18 rfl 11 (by decide) (hts (.fieldLink RX3 72 "PowderMillModel" "deep" "I") (by decide +kernel)) (fun _ h9 => h9) rfl dX3_does_238 ?_
      refine lv_iconst (v := 1) hx hb dX3_does_241 (by decide) ?_
      refine lv_isub hx hb dX3_does_242 ?_
      refine va_iald hx hb hK.1 hP 29 0 pz_a29 rfl (by subst e_h_26; rw [pz_t2 (by decide)]; exact i1) dX3_does_243 ?_
      refine pr_putR (ci := 5) (C := RX3) (T := TX3) (N := 20) (ty := .int) (v := (h_26 29 ((h_26 18 11) - 1).toNatClampNeg)) hx hb hts inX3_does_X3 tyX3 tyX3_ok nmX3 hown hK.1 hP hD hS 18 (by omega) (by omega) pz_a18 rfl 15 (by decide) (hts (.fieldLink RX3 75 "PowderMillModel" "next" "I") (by decide +kernel)) (fun _ h9 => h9) rfl (by decide +kernel) rfl rfl (Nat.le_of_ble_eq_true rfl) rfl dX3_does_244 (fun h_27 H locs e_h_27 hP hD hS => ?_)
      refine lv_iconst (v := 0) hx hb dX3_does_247 (by decide) ?_
      exact pr_iret (h_27) hx hb hr hlocks hP hD hS dX3_does_248 (by subst e_h_27 e_h_26 e_r_25; refine ⟨?_, ?_⟩ <;> (simp only [f_X3_does, if_neg t_1_0, if_neg t_1_1, if_neg t_1_2, if_neg t_1_3, if_neg t_1_4, if_neg t_1_5, if_neg t_1_6, if_neg t_1_7, if_neg c_195, if_neg c_214] <;> rfl))
theorem pz_Vn {h : pz_M} {n : Nat} (hw : ∃ d : Nat, d ≤ 6 ∧ d < n ∧ h 18 11 = nI d ∧ ∀ i, i < d → vp_in (h 28 i) 8) (hc : ¬ h 18 11 ≤ 0) : vp_in (h 18 11 - 1) 6 ∧ vp_in (h 28 (h 18 11 - 1).toNatClampNeg) 8 := by
  obtain ⟨d, h6, -, hd, hs⟩ := hw
  exact pz_V1 ⟨d, h6, hd, hs⟩ (pz_Vgt hc)
theorem pz_Vd {g g2 : pz_M} {n : Nat} (hw : ∃ d : Nat, d ≤ 6 ∧ d < n + 1 ∧ g 18 11 = nI d ∧ ∀ i, i < d → vp_in (g 28 i) 8) (hc : ¬ g 18 11 ≤ 0) (h2 : g2 18 11 = g 18 11 - 1) (h3 : ∀ i, g2 28 i = g 28 i) : ∃ d : Nat, d ≤ 6 ∧ d < n ∧ g2 18 11 = nI d ∧ ∀ i, i < d → vp_in (g2 28 i) 8 := by
  obtain ⟨d, h6, hn, hd, hs⟩ := hw
  have h1 : 1 ≤ d := by
    rcases Nat.lt_or_ge d 1 with q | q
    · have : d = 0 := by omega
      subst this
      exact absurd (by rw [hd]; exact (nI_leI (by decide) (by decide)).mpr (Nat.le_refl 0)) hc
    · exact q
  exact ⟨d - 1, by omega, by omega, by rw [h2, hd]; exact pk_sub (a := d) (b := 1) h1, fun i hi => by rw [h3]; exact hs i (by omega)⟩
theorem pz_Vv {g : pz_M} (hw : pz_V g) : ∃ d : Nat, d ≤ 6 ∧ d < 7 ∧ g 18 11 = nI d ∧ ∀ i, i < d → vp_in (g 28 i) 8 := by
  obtain ⟨d, h6, hd, hs⟩ := hw
  exact ⟨d, h6, by omega, hd, hs⟩
theorem inX3_isCaught_X3 : ∀ w ∈ u_ws RX3 TX3 20, w ∈ wsX3_isCaught := by decide +kernel
def f_mic : Nat → pz_M → Int32 × pz_M
  | 0, w => (0, w)
  | n + 1, w =>
    if (w 18 11) ≤ 0 then
      (0, w)
    else
      let h_1 := pz_st w 18 11 ((w 18 11) - 1)
      if (h_1 21 (h_1 28 (h_1 18 11).toNatClampNeg).toNatClampNeg) = 0 then
        f_mic n h_1
      else
        let h_2 := pz_st h_1 24 (h_1 28 (h_1 18 11).toNatClampNeg).toNatClampNeg ((h_1 24 (h_1 28 (h_1 18 11).toNatClampNeg).toNatClampNeg) + 1)
        (1, h_2)
def f_X3_isCaught (h : pz_M) : Int32 × pz_M := f_mic 7 h
set_option maxHeartbeats 4000000 in
set_option maxRecDepth 100000 in
theorem c_X3_isCaught {l : Launch} {dC : Nat → ClassId} {dI : Nat → Nat → Nat} {cl : Nat → ClassId} {ad : Nat → Nat} {ph : Nat → Option Nat} {o : Nat → Int64} {g h : pz_M} (hv : pz_V h) : pz_Mi l dC dI cl yX3_isCaught wsX3_isCaught { frames := 0, cells := 0, slots := 0, locals := 0 } [.ref (ad 18)] (pz_wd ad cl ph o g h) (fun u : pz_M => pz_wd ad cl ph o g u) (fun r u => r = (f_X3_isCaught h).1 ∧ u = (f_X3_isCaught h).2) := by
  intro sz
  refine pr_ofW (Qc := pz_Qi dC dI _ _) (cb := cX3_isCaught) (maxL := 1) (ret := (some .boolean)) (by decide) rfl (Nat.le_of_ble_eq_true rfl) ?_
  intro p e s m below meth c A ls hx hb hml hr hlocks hts hown hK hP hD hS hA hl
  have hl : lv_has ls 1 [(0, .ref (ad 18))] := hl
  have key : ∀ (n : Nat) (w : pz_M) (H : Heap) (locs : List Loc) (ls : Array Slot), (∃ d : Nat, d ≤ 6 ∧ d < n ∧ w 18 11 = nI d ∧ ∀ i, i < d → vp_in (w 28 i) 8) → f_mic n w = f_mic 7 h → va_P (dC, dI) vwCl (pz_wd ad cl ph o g w) H → va_D A (pz_wd ad cl ph o g w) → va_S A s.heap H locs → lv_has ls 1 [(0, .ref (ad 18))] → W p l e { frames := 0, cells := 0, slots := 0, locals := 0 } s m [.ref (ad 18)].toArray below meth c H locs 0 0 (MQ below (pz_Qi dC dI (fun r u => r = (f_X3_isCaught h).1 ∧ u = (f_X3_isCaught h).2) (fun u : pz_M => pz_wd ad cl ph o g u) A) [.ref (ad 18)].toArray s 0 0 A) (F0 m 0 ls []) := by
    intro n
    induction n with
    | zero => intro w H locs ls hw; obtain ⟨d, -, h2, -⟩ := hw; omega
    | succ n ih =>
      intro w H locs ls hw hF hP hD hS hl
      refine lv_aload_n hx hb dX3_isCaught_0 rfl (lv_at hl 0 rfl) ?_
      refine va_get (D := (dC, dI)) (ci := 5) (C := RX3) (T := TX3) (N := 20) hx hb hts inX3_isCaught_X3 hown hK.1 hP 18 pz_a18 rfl 11 (by decide) (hts (.fieldLink RX3 72 "PowderMillModel" "deep" "I") (by decide +kernel)) (fun _ h9 => h9) rfl dX3_isCaught_1 ?_
      refine lv_if_le (tgt := 54) hx hb dX3_isCaught_4 (by decide) (fun c_4 => ?_) (fun c_4 => ?_)
      · refine lv_iconst (v := 0) hx hb dX3_isCaught_54 (by decide) ?_
        exact pr_zret (w) hx hb hr hlocks (by decide) hP hD hS dX3_isCaught_55 (by refine ⟨?_, ?_⟩ <;> (show _ = _; unfold f_X3_isCaught; rw [← hF]; simp only [f_mic, if_pos c_4]))
      · obtain ⟨i1, i2⟩ := pz_Vn hw c_4
        refine lv_aload_n hx hb dX3_isCaught_7 rfl (lv_at hl 0 rfl) ?_
        refine lv_dup hx hb dX3_isCaught_8 rfl ?_
        refine va_get (D := (dC, dI)) (ci := 5) (C := RX3) (T := TX3) (N := 20) hx hb hts inX3_isCaught_X3 hown hK.1 hP 18 pz_a18 rfl 11 (by decide) (hts (.fieldLink RX3 72 "PowderMillModel" "deep" "I") (by decide +kernel)) (fun _ h9 => h9) rfl dX3_isCaught_9 ?_
        refine lv_iconst (v := 1) hx hb dX3_isCaught_12 (by decide) ?_
        refine lv_isub hx hb dX3_isCaught_13 ?_
        refine pr_putR (ci := 5) (C := RX3) (T := TX3) (N := 20) (ty := .int) (v := ((w 18 11) - 1)) hx hb hts inX3_isCaught_X3 tyX3 tyX3_ok nmX3 hown hK.1 hP hD hS 18 (by omega) (by omega) pz_a18 rfl 11 (by decide) (hts (.fieldLink RX3 72 "PowderMillModel" "deep" "I") (by decide +kernel)) (fun _ h9 => h9) rfl (by decide +kernel) rfl rfl (Nat.le_of_ble_eq_true rfl) rfl dX3_isCaught_14 (fun h_1 H locs e_h_1 hP hD hS => ?_)
        refine lv_aload_n hx hb dX3_isCaught_17 rfl (lv_at hl 0 rfl) ?_
        refine va_get (D := (dC, dI)) (ci := 5) (C := RX3) (T := TX3) (N := 20) hx hb hts inX3_isCaught_X3 hown hK.1 hP 18 pz_a18 rfl 3 (by decide) (hts (.fieldLink RX3 16 "PowderMillModel" "refuge" "[Z") (by decide +kernel)) (fun _ h9 => h9) rfl dX3_isCaught_18 ?_
        refine lv_aload_n hx hb dX3_isCaught_21 rfl (lv_at hl 0 rfl) ?_
        refine va_get (D := (dC, dI)) (ci := 5) (C := RX3) (T := TX3) (N := 20) hx hb hts inX3_isCaught_X3 hown hK.1 hP 18 pz_a18 rfl 12 (by decide) (hts (.fieldLink RX3 38 "PowderMillModel" "in" "[I") (by decide +kernel)) (fun _ h9 => h9) rfl dX3_isCaught_22 ?_
        refine lv_aload_n hx hb dX3_isCaught_25 rfl (lv_at hl 0 rfl) ?_
        refine va_get (D := (dC, dI)) (ci := 5) (C := RX3) (T := TX3) (N := 20) hx hb hts inX3_isCaught_X3 hown hK.1 hP 18 pz_a18 rfl 11 (by decide) (hts (.fieldLink RX3 72 "PowderMillModel" "deep" "I") (by decide +kernel)) (fun _ h9 => h9) rfl dX3_isCaught_26 ?_
        refine va_iald hx hb hK.1 hP 28 0 pz_a28 rfl (by subst e_h_1; rw [pz_st_s, pk_us]; exact i1) dX3_isCaught_29 ?_
        refine va_zald hx hb hK.1 hP 21 1 pz_a21 rfl (by subst e_h_1; rw [pz_st_s, pk_us, pz_t2 (by decide)]; exact i2) dX3_isCaught_30 ?_
        refine lv_if_eq (tgt := 0) hx hb dX3_isCaught_31 (by decide) (fun c_31 => ?_) (fun c_31 => ?_)
        · exact ih h_1 _ _ _ (pz_Vd hw c_4 (by subst e_h_1; rw [pz_st_s, pk_us]) (by subst e_h_1; intro i; rw [pz_t2 (by decide)])) (by rw [← hF]; subst e_h_1; simp only [f_mic, if_neg c_4, if_pos c_31]) hP hD hS hl
        · refine lv_aload_n hx hb dX3_isCaught_34 rfl (lv_at hl 0 rfl) ?_
          refine va_get (D := (dC, dI)) (ci := 5) (C := RX3) (T := TX3) (N := 20) hx hb hts inX3_isCaught_X3 hown hK.1 hP 18 pz_a18 rfl 6 (by decide) (hts (.fieldLink RX3 26 "PowderMillModel" "caught" "[I") (by decide +kernel)) (fun _ h9 => h9) rfl dX3_isCaught_35 ?_
          refine lv_aload_n hx hb dX3_isCaught_38 rfl (lv_at hl 0 rfl) ?_
          refine va_get (D := (dC, dI)) (ci := 5) (C := RX3) (T := TX3) (N := 20) hx hb hts inX3_isCaught_X3 hown hK.1 hP 18 pz_a18 rfl 12 (by decide) (hts (.fieldLink RX3 38 "PowderMillModel" "in" "[I") (by decide +kernel)) (fun _ h9 => h9) rfl dX3_isCaught_39 ?_
          refine lv_aload_n hx hb dX3_isCaught_42 rfl (lv_at hl 0 rfl) ?_
          refine va_get (D := (dC, dI)) (ci := 5) (C := RX3) (T := TX3) (N := 20) hx hb hts inX3_isCaught_X3 hown hK.1 hP 18 pz_a18 rfl 11 (by decide) (hts (.fieldLink RX3 72 "PowderMillModel" "deep" "I") (by decide +kernel)) (fun _ h9 => h9) rfl dX3_isCaught_43 ?_
          refine va_iald hx hb hK.1 hP 28 0 pz_a28 rfl (by subst e_h_1; rw [pz_st_s, pk_us]; exact i1) dX3_isCaught_46 ?_
          refine lv_dup2_11 hx hb dX3_isCaught_47 rfl rfl ?_
          refine va_iald hx hb hK.1 hP 24 0 pz_a24 rfl (by subst e_h_1; rw [pz_st_s, pk_us, pz_t2 (by decide)]; exact i2) dX3_isCaught_48 ?_
          refine lv_iconst (v := 1) hx hb dX3_isCaught_49 (by decide) ?_
          refine lv_iadd hx hb dX3_isCaught_50 ?_
          refine pr_iastR hx hb hK.1 hP hD hS 24 (by omega) (by omega) pz_a24 (fun _ => rfl) (by subst e_h_1; rw [pz_st_s, pk_us, pz_t2 (by decide)]; exact i2) dX3_isCaught_51 (fun h_2 H locs e_h_2 hP hD hS => ?_)
          refine lv_iconst (v := 1) hx hb dX3_isCaught_52 (by decide) ?_
          exact pr_zret (h_2) hx hb hr hlocks (by decide) hP hD hS dX3_isCaught_53 (by subst e_h_2 e_h_1; refine ⟨?_, ?_⟩ <;> (show _ = _; unfold f_X3_isCaught; rw [← hF]; simp only [f_mic, if_neg c_4, if_neg c_31]))
  exact key 7 h _ _ ls (pz_Vv hv) rfl hP hD hS hl
theorem inX3_begun_X3 : ∀ w ∈ u_ws RX3 TX3 20, w ∈ wsX3_begun := by decide +kernel
def f_X3_begun (h : pz_M) : Int32 × pz_M :=
  let h_1 := pz_st h 18 0 0
  (h_1 18 17, h_1)
set_option maxHeartbeats 4000000 in
set_option maxRecDepth 100000 in
theorem c_X3_begun {l : Launch} {dC : Nat → ClassId} {dI : Nat → Nat → Nat} {cl : Nat → ClassId} {ad : Nat → Nat} {ph : Nat → Option Nat} {o : Nat → Int64} {g h : pz_M} : pz_Mi l dC dI cl yX3_begun wsX3_begun { frames := 0, cells := 0, slots := 0, locals := 0 } [.ref (ad 18)] (pz_wd ad cl ph o g h) (fun u : pz_M => pz_wd ad cl ph o g u) (fun r u => r = (f_X3_begun h).1 ∧ u = (f_X3_begun h).2) := by
  intro sz
  refine pr_ofW (Qc := pz_Qi dC dI _ _) (cb := cX3_begun) (maxL := 1) (ret := (some .int)) (by decide) rfl (Nat.le_of_ble_eq_true rfl) ?_
  intro p e s m below meth c A ls hx hb hml hr hlocks hts hown hK hP hD hS hA hl
  have hl : lv_has ls 1 [(0, .ref (ad 18))] := hl
  refine lv_aload_n hx hb dX3_begun_0 rfl (lv_at hl 0 rfl) ?_
  refine lv_iconst (v := 0) hx hb dX3_begun_1 (by decide) ?_
  refine pr_putR (ci := 5) (C := RX3) (T := TX3) (N := 20) (ty := .int) (v := 0) hx hb hts inX3_begun_X3 tyX3 tyX3_ok nmX3 hown hK.1 hP hD hS 18 (by omega) (by omega) pz_a18 rfl 0 (by decide) (hts (.fieldLink RX3 57 "PowderMillModel" "thrown" "I") (by decide +kernel)) (fun _ h9 => h9) rfl (by decide +kernel) rfl rfl (Nat.le_of_ble_eq_true rfl) rfl dX3_begun_2 (fun h_1 H locs e_h_1 hP hD hS => ?_)
  refine lv_aload_n hx hb dX3_begun_5 rfl (lv_at hl 0 rfl) ?_
  refine va_get (D := (dC, dI)) (ci := 5) (C := RX3) (T := TX3) (N := 20) hx hb hts inX3_begun_X3 hown hK.1 hP 18 pz_a18 rfl 17 (by decide) (hts (.fieldLink RX3 102 "PowderMillModel" "begun" "I") (by decide +kernel)) (fun _ h9 => h9) rfl dX3_begun_6 ?_
  exact pr_iret (h_1) hx hb hr hlocks hP hD hS dX3_begun_9 (by subst e_h_1; refine ⟨?_, ?_⟩ <;> (simp only [f_X3_begun] <;> rfl))
theorem inX3_where_X3 : ∀ w ∈ u_ws RX3 TX3 20, w ∈ wsX3_where := by decide +kernel
def f_X3_where (h : pz_M) : Int32 × pz_M :=
  let h_1 := pz_st h 18 0 0
  (h_1 18 18, h_1)
set_option maxHeartbeats 4000000 in
set_option maxRecDepth 100000 in
theorem c_X3_where {l : Launch} {dC : Nat → ClassId} {dI : Nat → Nat → Nat} {cl : Nat → ClassId} {ad : Nat → Nat} {ph : Nat → Option Nat} {o : Nat → Int64} {g h : pz_M} : pz_Mi l dC dI cl yX3_where wsX3_where { frames := 0, cells := 0, slots := 0, locals := 0 } [.ref (ad 18)] (pz_wd ad cl ph o g h) (fun u : pz_M => pz_wd ad cl ph o g u) (fun r u => r = (f_X3_where h).1 ∧ u = (f_X3_where h).2) := by
  intro sz
  refine pr_ofW (Qc := pz_Qi dC dI _ _) (cb := cX3_where) (maxL := 1) (ret := (some .int)) (by decide) rfl (Nat.le_of_ble_eq_true rfl) ?_
  intro p e s m below meth c A ls hx hb hml hr hlocks hts hown hK hP hD hS hA hl
  have hl : lv_has ls 1 [(0, .ref (ad 18))] := hl
  refine lv_aload_n hx hb dX3_where_0 rfl (lv_at hl 0 rfl) ?_
  refine lv_iconst (v := 0) hx hb dX3_where_1 (by decide) ?_
  refine pr_putR (ci := 5) (C := RX3) (T := TX3) (N := 20) (ty := .int) (v := 0) hx hb hts inX3_where_X3 tyX3 tyX3_ok nmX3 hown hK.1 hP hD hS 18 (by omega) (by omega) pz_a18 rfl 0 (by decide) (hts (.fieldLink RX3 57 "PowderMillModel" "thrown" "I") (by decide +kernel)) (fun _ h9 => h9) rfl (by decide +kernel) rfl rfl (Nat.le_of_ble_eq_true rfl) rfl dX3_where_2 (fun h_1 H locs e_h_1 hP hD hS => ?_)
  refine lv_aload_n hx hb dX3_where_5 rfl (lv_at hl 0 rfl) ?_
  refine va_get (D := (dC, dI)) (ci := 5) (C := RX3) (T := TX3) (N := 20) hx hb hts inX3_where_X3 hown hK.1 hP 18 pz_a18 rfl 18 (by decide) (hts (.fieldLink RX3 47 "PowderMillModel" "where" "I") (by decide +kernel)) (fun _ h9 => h9) rfl dX3_where_6 ?_
  exact pr_iret (h_1) hx hb hr hlocks hP hD hS dX3_where_9 (by subst e_h_1; refine ⟨?_, ?_⟩ <;> (simp only [f_X3_where] <;> rfl))
theorem inX3_house_X3 : ∀ w ∈ u_ws RX3 TX3 20, w ∈ wsX3_house := by decide +kernel
def f_X3_house (h : pz_M) (a : Int32) (b : Int32) : Int32 × pz_M :=
  let h_1 := pz_st h 18 0 0
  let r_2 := f_X3_isHouse h_1 a
  if r_2 = 0 then
    ((-1), h_1)
  else
    if b = 0 then
      (h_1 19 a.toNatClampNeg, h_1)
    else
      if b = 1 then
        (h_1 20 a.toNatClampNeg, h_1)
      else
        if b = 2 then
          if (h_1 21 a.toNatClampNeg) = 0 then
            (0, h_1)
          else
            (1, h_1)
        else
          if b = 3 then
            (h_1 22 a.toNatClampNeg, h_1)
          else
            if b = 4 then
              (h_1 23 a.toNatClampNeg, h_1)
            else
              if b = 5 then
                (h_1 24 a.toNatClampNeg, h_1)
              else
                if b = 6 then
                  (0, h_1)
                else
                  ((-1), h_1)
set_option maxHeartbeats 4000000 in
set_option maxRecDepth 100000 in
theorem c_X3_house {l : Launch} {dC : Nat → ClassId} {dI : Nat → Nat → Nat} {cl : Nat → ClassId} {ad : Nat → Nat} {ph : Nat → Option Nat} {o : Nat → Int64} {g h : pz_M} (a : Int32) (b : Int32) : pz_Mi l dC dI cl yX3_house wsX3_house { frames := 3, cells := 0, slots := 0, locals := 63 } [.ref (ad 18), .int a, .int b] (pz_wd ad cl ph o g h) (fun u : pz_M => pz_wd ad cl ph o g u) (fun r u => r = (f_X3_house h a b).1 ∧ u = (f_X3_house h a b).2) := by
  intro sz
  refine pr_ofW (Qc := pz_Qi dC dI _ _) (cb := cX3_house) (maxL := 3) (ret := (some .int)) (by decide) rfl (Nat.le_of_ble_eq_true rfl) ?_
  intro p e s m below meth c A ls hx hb hml hr hlocks hts hown hK hP hD hS hA hl
  have hl : lv_has ls 3 [(0, .ref (ad 18)), (1, .int a), (2, .int b)] := hl
  refine lv_aload_n hx hb dX3_house_0 rfl (lv_at hl 0 rfl) ?_
  refine lv_iconst (v := 0) hx hb dX3_house_1 (by decide) ?_
  refine pr_putR (ci := 5) (C := RX3) (T := TX3) (N := 20) (ty := .int) (v := 0) hx hb hts inX3_house_X3 tyX3 tyX3_ok nmX3 hown hK.1 hP hD hS 18 (by omega) (by omega) pz_a18 rfl 0 (by decide) (hts (.fieldLink RX3 57 "PowderMillModel" "thrown" "I") (by decide +kernel)) (fun _ h9 => h9) rfl (by decide +kernel) rfl rfl (Nat.le_of_ble_eq_true rfl) rfl dX3_house_2 (fun h_1 H locs e_h_1 hP hD hS => ?_)
  refine lv_aload_n hx hb dX3_house_5 rfl (lv_at hl 0 rfl) ?_
  refine lv_iload_n hx hb dX3_house_6 rfl (lv_at hl 1 rfl) ?_
  refine pr_Vi (As := [.int a]) (rest := []) ⟨hx, hb, hml, hown, hts⟩ (c_X3_isHouse a) (cwV 1 hts gX3_house_X3_isHouse rfl rfl rfl (by decide +kernel) ⟨Nat.le_of_ble_eq_true rfl, Nat.le_of_ble_eq_true rfl⟩) (va_recv hK.1 hP (ci := 5) rfl pz_a18) hK hP hD hS hA rfl hl.1 rfl (Nat.le_of_ble_eq_true rfl) ⟨Nat.le_of_ble_eq_true rfl, Nat.le_of_ble_eq_true rfl⟩ dX3_house_7 (fun r_2 _ H locs e_r_2 hP hD hS => ?_)
  refine lv_if_ne (tgt := 15) hx hb dX3_house_10 (by decide) (fun c_10 => ?_) (fun c_10 => ?_)
  · have i1 : vp_in a 8 := pz_mhouse (by rw [← e_r_2]; exact c_10)
    refine lv_iload_n hx hb dX3_house_15 rfl (lv_at hl 2 rfl) ?_
    by_cases t_16_0 : b = 0
    · refine pr_tabIn (ki := 0) (tgt := 60) hx hb dX3_house_16 t_16_0 (by rfl) (by decide) (by decide) (by rfl) (by decide) ?_
      refine lv_aload_n hx hb dX3_house_60 rfl (lv_at hl 0 rfl) ?_
      refine va_get (D := (dC, dI)) (ci := 5) (C := RX3) (T := TX3) (N := 20) hx hb hts inX3_house_X3 hown hK.1 hP 18 pz_a18 rfl 1 (by decide) (hts (.fieldLink RX3 7 "PowderMillModel" "walls" "[I") (by decide +kernel)) (fun _ h9 => h9) rfl dX3_house_61 ?_
      refine lv_iload_n hx hb dX3_house_64 rfl (lv_at hl 1 rfl) ?_
      refine va_iald hx hb hK.1 hP 19 0 pz_a19 rfl i1 dX3_house_65 ?_
      exact pr_iret (h_1) hx hb hr hlocks hP hD hS dX3_house_66 (by subst e_r_2 e_h_1; refine ⟨?_, ?_⟩ <;> (simp only [f_X3_house, if_neg c_10, if_pos t_16_0] <;> rfl))
    by_cases t_16_1 : b = 1
    · refine pr_tabIn (ki := 1) (tgt := 67) hx hb dX3_house_16 t_16_1 (by rfl) (by decide) (by decide) (by rfl) (by decide) ?_
      refine lv_aload_n hx hb dX3_house_67 rfl (lv_at hl 0 rfl) ?_
      refine va_get (D := (dC, dI)) (ci := 5) (C := RX3) (T := TX3) (N := 20) hx hb hts inX3_house_X3 hown hK.1 hP 18 pz_a18 rfl 2 (by decide) (hts (.fieldLink RX3 13 "PowderMillModel" "powder" "[I") (by decide +kernel)) (fun _ h9 => h9) rfl dX3_house_68 ?_
      refine lv_iload_n hx hb dX3_house_71 rfl (lv_at hl 1 rfl) ?_
      refine va_iald hx hb hK.1 hP 20 0 pz_a20 rfl i1 dX3_house_72 ?_
      exact pr_iret (h_1) hx hb hr hlocks hP hD hS dX3_house_73 (by subst e_r_2 e_h_1; refine ⟨?_, ?_⟩ <;> (simp only [f_X3_house, if_neg c_10, if_neg t_16_0, if_pos t_16_1] <;> rfl))
    by_cases t_16_2 : b = 2
    · refine pr_tabIn (ki := 2) (tgt := 74) hx hb dX3_house_16 t_16_2 (by rfl) (by decide) (by decide) (by rfl) (by decide) ?_
      refine lv_aload_n hx hb dX3_house_74 rfl (lv_at hl 0 rfl) ?_
      refine va_get (D := (dC, dI)) (ci := 5) (C := RX3) (T := TX3) (N := 20) hx hb hts inX3_house_X3 hown hK.1 hP 18 pz_a18 rfl 3 (by decide) (hts (.fieldLink RX3 16 "PowderMillModel" "refuge" "[Z") (by decide +kernel)) (fun _ h9 => h9) rfl dX3_house_75 ?_
      refine lv_iload_n hx hb dX3_house_78 rfl (lv_at hl 1 rfl) ?_
      refine va_zald hx hb hK.1 hP 21 1 pz_a21 rfl i1 dX3_house_79 ?_
      refine lv_if_eq (tgt := 87) hx hb dX3_house_80 (by decide) (fun c_80 => ?_) (fun c_80 => ?_)
      · refine lv_iconst (v := 0) hx hb dX3_house_87 (by decide) ?_
        exact pr_iret (h_1) hx hb hr hlocks hP hD hS dX3_house_88 (by subst e_r_2 e_h_1; refine ⟨?_, ?_⟩ <;> (simp only [f_X3_house, if_neg c_10, if_neg t_16_0, if_neg t_16_1, if_pos t_16_2, if_pos c_80] <;> rfl))
      · refine lv_iconst (v := 1) hx hb dX3_house_83 (by decide) ?_
        refine lv_goto (tgt := 88) hx hb dX3_house_84 (by decide) ?_
        exact pr_iret (h_1) hx hb hr hlocks hP hD hS dX3_house_88 (by subst e_r_2 e_h_1; refine ⟨?_, ?_⟩ <;> (simp only [f_X3_house, if_neg c_10, if_neg t_16_0, if_neg t_16_1, if_pos t_16_2, if_neg c_80] <;> rfl))
    by_cases t_16_3 : b = 3
    · refine pr_tabIn (ki := 3) (tgt := 89) hx hb dX3_house_16 t_16_3 (by rfl) (by decide) (by decide) (by rfl) (by decide) ?_
      refine lv_aload_n hx hb dX3_house_89 rfl (lv_at hl 0 rfl) ?_
      refine va_get (D := (dC, dI)) (ci := 5) (C := RX3) (T := TX3) (N := 20) hx hb hts inX3_house_X3 hown hK.1 hP 18 pz_a18 rfl 4 (by decide) (hts (.fieldLink RX3 20 "PowderMillModel" "ins" "[I") (by decide +kernel)) (fun _ h9 => h9) rfl dX3_house_90 ?_
      refine lv_iload_n hx hb dX3_house_93 rfl (lv_at hl 1 rfl) ?_
      refine va_iald hx hb hK.1 hP 22 0 pz_a22 rfl i1 dX3_house_94 ?_
      exact pr_iret (h_1) hx hb hr hlocks hP hD hS dX3_house_95 (by subst e_r_2 e_h_1; refine ⟨?_, ?_⟩ <;> (simp only [f_X3_house, if_neg c_10, if_neg t_16_0, if_neg t_16_1, if_neg t_16_2, if_pos t_16_3] <;> rfl))
    by_cases t_16_4 : b = 4
    · refine pr_tabIn (ki := 4) (tgt := 96) hx hb dX3_house_16 t_16_4 (by rfl) (by decide) (by decide) (by rfl) (by decide) ?_
      refine lv_aload_n hx hb dX3_house_96 rfl (lv_at hl 0 rfl) ?_
      refine va_get (D := (dC, dI)) (ci := 5) (C := RX3) (T := TX3) (N := 20) hx hb hts inX3_house_X3 hown hK.1 hP 18 pz_a18 rfl 5 (by decide) (hts (.fieldLink RX3 23 "PowderMillModel" "sparks" "[I") (by decide +kernel)) (fun _ h9 => h9) rfl dX3_house_97 ?_
      refine lv_iload_n hx hb dX3_house_100 rfl (lv_at hl 1 rfl) ?_
      refine va_iald hx hb hK.1 hP 23 0 pz_a23 rfl i1 dX3_house_101 ?_
      exact pr_iret (h_1) hx hb hr hlocks hP hD hS dX3_house_102 (by subst e_r_2 e_h_1; refine ⟨?_, ?_⟩ <;> (simp only [f_X3_house, if_neg c_10, if_neg t_16_0, if_neg t_16_1, if_neg t_16_2, if_neg t_16_3, if_pos t_16_4] <;> rfl))
    by_cases t_16_5 : b = 5
    · refine pr_tabIn (ki := 5) (tgt := 103) hx hb dX3_house_16 t_16_5 (by rfl) (by decide) (by decide) (by rfl) (by decide) ?_
      refine lv_aload_n hx hb dX3_house_103 rfl (lv_at hl 0 rfl) ?_
      refine va_get (D := (dC, dI)) (ci := 5) (C := RX3) (T := TX3) (N := 20) hx hb hts inX3_house_X3 hown hK.1 hP 18 pz_a18 rfl 6 (by decide) (hts (.fieldLink RX3 26 "PowderMillModel" "caught" "[I") (by decide +kernel)) (fun _ h9 => h9) rfl dX3_house_104 ?_
      refine lv_iload_n hx hb dX3_house_107 rfl (lv_at hl 1 rfl) ?_
      refine va_iald hx hb hK.1 hP 24 0 pz_a24 rfl i1 dX3_house_108 ?_
      exact pr_iret (h_1) hx hb hr hlocks hP hD hS dX3_house_109 (by subst e_r_2 e_h_1; refine ⟨?_, ?_⟩ <;> (simp only [f_X3_house, if_neg c_10, if_neg t_16_0, if_neg t_16_1, if_neg t_16_2, if_neg t_16_3, if_neg t_16_4, if_pos t_16_5] <;> rfl))
    by_cases t_16_6 : b = 6
    · refine pr_tabIn (ki := 6) (tgt := 110) hx hb dX3_house_16 t_16_6 (by rfl) (by decide) (by decide) (by rfl) (by decide) ?_
      refine lv_iconst (v := 0) hx hb dX3_house_110 (by decide) ?_
      exact pr_iret (h_1) hx hb hr hlocks hP hD hS dX3_house_111 (by subst e_r_2 e_h_1; refine ⟨?_, ?_⟩ <;> (simp only [f_X3_house, if_neg c_10, if_neg t_16_0, if_neg t_16_1, if_neg t_16_2, if_neg t_16_3, if_neg t_16_4, if_neg t_16_5, if_pos t_16_6] <;> rfl))
    refine lv_tableOut (tgt := 112) hx hb dX3_house_16 (by have q0 := lv_neT t_16_0 (by rfl : (0 : Int32).toInt = 0); have q1 := lv_neT t_16_1 (by rfl : (1 : Int32).toInt = 1); have q2 := lv_neT t_16_2 (by rfl : (2 : Int32).toInt = 2); have q3 := lv_neT t_16_3 (by rfl : (3 : Int32).toInt = 3); have q4 := lv_neT t_16_4 (by rfl : (4 : Int32).toInt = 4); have q5 := lv_neT t_16_5 (by rfl : (5 : Int32).toInt = 5); have q6 := lv_neT t_16_6 (by rfl : (6 : Int32).toInt = 6); omega) (by decide) ?_
    refine lv_iconst (v := (-1)) hx hb dX3_house_112 (by decide) ?_
    exact pr_iret (h_1) hx hb hr hlocks hP hD hS dX3_house_113 (by subst e_r_2 e_h_1; refine ⟨?_, ?_⟩ <;> (simp only [f_X3_house, if_neg c_10, if_neg t_16_0, if_neg t_16_1, if_neg t_16_2, if_neg t_16_3, if_neg t_16_4, if_neg t_16_5, if_neg t_16_6] <;> rfl))
  · refine lv_iconst (v := (-1)) hx hb dX3_house_13 (by decide) ?_
    exact pr_iret (h_1) hx hb hr hlocks hP hD hS dX3_house_14 (by subst e_r_2 e_h_1; refine ⟨?_, ?_⟩ <;> (simp only [f_X3_house, if_pos c_10] <;> rfl))
theorem inX3_row_X3 : ∀ w ∈ u_ws RX3 TX3 20, w ∈ wsX3_row := by decide +kernel
def f_X3_row (h : pz_M) (a : Int32) : Int32 × pz_M :=
  let r_1 := f_X3_isIn a 0 7
  if r_1 = 0 then
    let h_2 := pz_st h 18 0 1
    if (h_2 18 0) = 0 then
      (h_2 25 a.toNatClampNeg, h_2)
    else
      (0, h_2)
  else
    let h_3 := pz_st h 18 0 0
    if (h_3 18 0) = 0 then
      (h_3 25 a.toNatClampNeg, h_3)
    else
      (0, h_3)
set_option maxHeartbeats 4000000 in
set_option maxRecDepth 100000 in
theorem c_X3_row {l : Launch} {dC : Nat → ClassId} {dI : Nat → Nat → Nat} {cl : Nat → ClassId} {ad : Nat → Nat} {ph : Nat → Option Nat} {o : Nat → Int64} {g h : pz_M} (a : Int32) : pz_Mi l dC dI cl yX3_row wsX3_row { frames := 1, cells := 0, slots := 0, locals := 22 } [.ref (ad 18), .int a] (pz_wd ad cl ph o g h) (fun u : pz_M => pz_wd ad cl ph o g u) (fun r u => r = (f_X3_row h a).1 ∧ u = (f_X3_row h a).2) := by
  intro sz
  refine pr_ofW (Qc := pz_Qi dC dI _ _) (cb := cX3_row) (maxL := 2) (ret := (some .int)) (by decide) rfl (Nat.le_of_ble_eq_true rfl) ?_
  intro p e s m below meth c A ls hx hb hml hr hlocks hts hown hK hP hD hS hA hl
  have hl : lv_has ls 2 [(0, .ref (ad 18)), (1, .int a)] := hl
  refine lv_aload_n hx hb dX3_row_0 rfl (lv_at hl 0 rfl) ?_
  refine lv_iload_n hx hb dX3_row_1 rfl (lv_at hl 1 rfl) ?_
  refine lv_iconst (v := 0) hx hb dX3_row_2 (by decide) ?_
  refine lv_bipush (v := 7) hx hb dX3_row_3 (by decide) ?_
  refine pr_Si (As := [.int a, .int 0, .int 7]) (rest := [.ref (ad 18)]) ⟨hx, hb, hml, hown, hts⟩ (c_X3_isIn a 0 7) (va_cwS 3 hts gX3_row_X3_isIn rfl rfl rfl (by decide +kernel) ⟨Nat.le_of_ble_eq_true rfl, Nat.le_of_ble_eq_true rfl⟩) hK hP hD hS hA rfl hl.1 rfl (Nat.le_of_ble_eq_true rfl) ⟨Nat.le_of_ble_eq_true rfl, Nat.le_of_ble_eq_true rfl⟩ dX3_row_5 (fun r_1 _ H locs e_r_1 hP hD hS => ?_)
  refine lv_if_eq (tgt := 15) hx hb dX3_row_8 (by decide) (fun c_8 => ?_) (fun c_8 => ?_)
  · refine lv_iconst (v := 1) hx hb dX3_row_15 (by decide) ?_
    refine pr_putR (ci := 5) (C := RX3) (T := TX3) (N := 20) (ty := .int) (v := 1) hx hb hts inX3_row_X3 tyX3 tyX3_ok nmX3 hown hK.1 hP hD hS 18 (by omega) (by omega) pz_a18 rfl 0 (by decide) (hts (.fieldLink RX3 57 "PowderMillModel" "thrown" "I") (by decide +kernel)) (fun _ h9 => h9) rfl (by decide +kernel) rfl rfl (Nat.le_of_ble_eq_true rfl) rfl dX3_row_16 (fun h_2 H locs e_h_2 hP hD hS => ?_)
    refine lv_aload_n hx hb dX3_row_19 rfl (lv_at hl 0 rfl) ?_
    refine va_get (D := (dC, dI)) (ci := 5) (C := RX3) (T := TX3) (N := 20) hx hb hts inX3_row_X3 hown hK.1 hP 18 pz_a18 rfl 0 (by decide) (hts (.fieldLink RX3 57 "PowderMillModel" "thrown" "I") (by decide +kernel)) (fun _ h9 => h9) rfl dX3_row_20 ?_
    refine lv_if_ne (tgt := 35) hx hb dX3_row_23 (by decide) (fun c_23 => ?_) (fun c_23 => ?_)
    · refine lv_iconst (v := 0) hx hb dX3_row_35 (by decide) ?_
      exact pr_iret (h_2) hx hb hr hlocks hP hD hS dX3_row_36 (by subst e_h_2 e_r_1; refine ⟨?_, ?_⟩ <;> (simp only [f_X3_row, if_pos c_8, if_neg c_23] <;> rfl))
    · refine lv_aload_n hx hb dX3_row_26 rfl (lv_at hl 0 rfl) ?_
      refine va_get (D := (dC, dI)) (ci := 5) (C := RX3) (T := TX3) (N := 20) hx hb hts inX3_row_X3 hown hK.1 hP 18 pz_a18 rfl 7 (by decide) (hts (.fieldLink RX3 29 "PowderMillModel" "ledger" "[I") (by decide +kernel)) (fun _ h9 => h9) rfl dX3_row_27 ?_
      refine lv_iload_n hx hb dX3_row_30 rfl (lv_at hl 1 rfl) ?_
      refine va_iald hx hb hK.1 hP 25 0 pz_a25 rfl (absurd (show (1 : Int32) = 0 by have q := c_23; subst e_h_2; rw [pz_st_s, pk_us] at q; exact q) (by decide)) dX3_row_31 ?_
      refine lv_goto (tgt := 36) hx hb dX3_row_32 (by decide) ?_
      exact pr_iret (h_2) hx hb hr hlocks hP hD hS dX3_row_36 (by subst e_h_2 e_r_1; refine ⟨?_, ?_⟩ <;> (simp only [f_X3_row, if_pos c_8, if_pos c_23] <;> rfl))
  · refine lv_iconst (v := 0) hx hb dX3_row_11 (by decide) ?_
    refine lv_goto (tgt := 16) hx hb dX3_row_12 (by decide) ?_
    refine pr_putR (ci := 5) (C := RX3) (T := TX3) (N := 20) (ty := .int) (v := 0) hx hb hts inX3_row_X3 tyX3 tyX3_ok nmX3 hown hK.1 hP hD hS 18 (by omega) (by omega) pz_a18 rfl 0 (by decide) (hts (.fieldLink RX3 57 "PowderMillModel" "thrown" "I") (by decide +kernel)) (fun _ h9 => h9) rfl (by decide +kernel) rfl rfl (Nat.le_of_ble_eq_true rfl) rfl dX3_row_16 (fun h_3 H locs e_h_3 hP hD hS => ?_)
    refine lv_aload_n hx hb dX3_row_19 rfl (lv_at hl 0 rfl) ?_
    refine va_get (D := (dC, dI)) (ci := 5) (C := RX3) (T := TX3) (N := 20) hx hb hts inX3_row_X3 hown hK.1 hP 18 pz_a18 rfl 0 (by decide) (hts (.fieldLink RX3 57 "PowderMillModel" "thrown" "I") (by decide +kernel)) (fun _ h9 => h9) rfl dX3_row_20 ?_
    refine lv_if_ne (tgt := 35) hx hb dX3_row_23 (by decide) (fun c_23 => ?_) (fun c_23 => ?_)
    · refine lv_iconst (v := 0) hx hb dX3_row_35 (by decide) ?_
      exact pr_iret (h_3) hx hb hr hlocks hP hD hS dX3_row_36 (by subst e_h_3 e_r_1; refine ⟨?_, ?_⟩ <;> (simp only [f_X3_row, if_neg c_8, if_neg c_23] <;> rfl))
    · refine lv_aload_n hx hb dX3_row_26 rfl (lv_at hl 0 rfl) ?_
      refine va_get (D := (dC, dI)) (ci := 5) (C := RX3) (T := TX3) (N := 20) hx hb hts inX3_row_X3 hown hK.1 hP 18 pz_a18 rfl 7 (by decide) (hts (.fieldLink RX3 29 "PowderMillModel" "ledger" "[I") (by decide +kernel)) (fun _ h9 => h9) rfl dX3_row_27 ?_
      refine lv_iload_n hx hb dX3_row_30 rfl (lv_at hl 1 rfl) ?_
      refine va_iald hx hb hK.1 hP 25 0 pz_a25 rfl (pz_in7 (by rw [← e_r_1]; exact c_8)) dX3_row_31 ?_
      refine lv_goto (tgt := 36) hx hb dX3_row_32 (by decide) ?_
      exact pr_iret (h_3) hx hb hr hlocks hP hD hS dX3_row_36 (by subst e_h_3 e_r_1; refine ⟨?_, ?_⟩ <;> (simp only [f_X3_row, if_neg c_8, if_pos c_23] <;> rfl))
theorem inX3_count_X3 : ∀ w ∈ u_ws RX3 TX3 20, w ∈ wsX3_count := by decide +kernel
def f_mct (w : pz_M) : Nat → Int32 → Int32 → Int32
  | 0, v, _ => v
  | n + 1, v, i =>
    if 8 ≤ i then
      v
    else
      if (w 19 i.toNatClampNeg) ≤ 0 then
        f_mct w n (v + 0) (i + 1)
      else
        f_mct w n (v + 1) (i + 1)
def f_X3_count (h : pz_M) (a : Int32) : Int32 × pz_M :=
  let h_1 := pz_st h 18 0 0
  if a = 0 then
    (f_mct h_1 9 0 0, h_1)
  else
    if a = 1 then
      (h_1 18 8, h_1)
    else
      let r_2 := f_X3_isIn a 2 5
      if r_2 = 0 then
        let r_3 := f_X3_isIn a 11 16
        if r_3 = 0 then
          ((-1), h_1)
        else
          (h_1 31 a.toNatClampNeg, h_1)
      else
        (h_1 31 a.toNatClampNeg, h_1)
set_option maxHeartbeats 4000000 in
set_option maxRecDepth 100000 in
theorem c_X3_count {l : Launch} {dC : Nat → ClassId} {dI : Nat → Nat → Nat} {cl : Nat → ClassId} {ad : Nat → Nat} {ph : Nat → Option Nat} {o : Nat → Int64} {g h : pz_M} (a : Int32) : pz_Mi l dC dI cl yX3_count wsX3_count { frames := 1, cells := 0, slots := 0, locals := 22 } [.ref (ad 18), .int a] (pz_wd ad cl ph o g h) (fun u : pz_M => pz_wd ad cl ph o g u) (fun r u => r = (f_X3_count h a).1 ∧ u = (f_X3_count h a).2) := by
  intro sz
  refine pr_ofW (Qc := pz_Qi dC dI _ _) (cb := cX3_count) (maxL := 4) (ret := (some .int)) (by decide) rfl (Nat.le_of_ble_eq_true rfl) ?_
  intro p e s m below meth c A ls hx hb hml hr hlocks hts hown hK hP hD hS hA hl
  have hl : lv_has ls 4 [(0, .ref (ad 18)), (1, .int a)] := hl
  have key : ∀ (n : Nat) (w : pz_M) (v i : Int32) (j : Nat) (H : Heap) (locs : List Loc) (ls : Array Slot), j ≤ 8 → 8 - j < n → i = nI j → (f_mct w n v i, w) = f_X3_count h a → va_P (dC, dI) vwCl (pz_wd ad cl ph o g w) H → va_D A (pz_wd ad cl ph o g w) → va_S A s.heap H locs → lv_has ls 4 [(0, .ref (ad 18)), (1, .int a), (2, .int v), (3, .int i)] → W p l e { frames := 1, cells := 0, slots := 0, locals := 22 } s m [.ref (ad 18), .int a].toArray below meth c H locs 0 0 (MQ below (pz_Qi dC dI (fun r u => r = (f_X3_count h a).1 ∧ u = (f_X3_count h a).2) (fun u : pz_M => pz_wd ad cl ph o g u) A) [.ref (ad 18), .int a].toArray s 0 0 A) (F0 m 13 ls []) := by
    intro n
    induction n with
    | zero => intro w v i j H locs ls h1 h2; omega
    | succ n ih =>
      intro w v i j H locs ls hj hjn hi hF hP hD hS hl
      refine lv_iload_n hx hb dX3_count_13 rfl (lv_at hl 3 rfl) ?_
      refine lv_bipush (v := 8) hx hb dX3_count_14 (by decide) ?_
      refine lv_icmp_ge (tgt := 42) hx hb dX3_count_16 (by decide) (fun c_16 => ?_) (fun c_16 => ?_)
      · refine lv_iload_n hx hb dX3_count_42 rfl (lv_at hl 2 rfl) ?_
        exact pr_iret w hx hb hr hlocks hP hD hS dX3_count_43 ⟨by rw [← hF]; simp only [f_mct, if_pos c_16], by rw [← hF]⟩
      · have hj8 : j < 8 := by
          rcases Nat.lt_or_ge j 8 with q | q
          · exact q
          · exact absurd (by rw [hi]; exact nI_le q (by omega)) c_16
        have i1 : vp_in i 8 := by rw [hi]; exact vp_in_nI hj8 (by decide)
        refine lv_iload_n hx hb dX3_count_19 rfl (lv_at hl 2 rfl) ?_
        refine lv_aload_n hx hb dX3_count_20 rfl (lv_at hl 0 rfl) ?_
        refine va_get (D := (dC, dI)) (ci := 5) (C := RX3) (T := TX3) (N := 20) hx hb hts inX3_count_X3 hown hK.1 hP 18 pz_a18 rfl 1 (by decide) (hts (.fieldLink RX3 7 "PowderMillModel" "walls" "[I") (by decide +kernel)) (fun _ h9 => h9) rfl dX3_count_21 ?_
        refine lv_iload_n hx hb dX3_count_24 rfl (lv_at hl 3 rfl) ?_
        refine va_iald hx hb hK.1 hP 19 0 pz_a19 rfl i1 dX3_count_25 ?_
        refine lv_if_le (tgt := 33) hx hb dX3_count_26 (by decide) (fun c_26 => ?_) (fun c_26 => ?_)
        · refine lv_iconst (v := 0) hx hb dX3_count_33 (by decide) ?_
          refine lv_iadd hx hb dX3_count_34 ?_
          refine lv_istore_n (lv' := [(2, .int (v + 0)), (0, .ref (ad 18)), (1, .int a), (3, .int i)]) hx hb dX3_count_35 rfl hl (by decide) rfl (fun ls hl => ?_)
          refine lv_iinc (v := i + 1) (lv' := [(3, .int (i + 1)), (2, .int (v + 0)), (0, .ref (ad 18)), (1, .int a)]) hx hb dX3_count_36 hl (k := 3) rfl (by rfl) (by decide) rfl (fun ls hl => ?_)
          refine lv_goto (tgt := 13) hx hb dX3_count_39 (by decide) ?_
          exact ih w (v + 0) (i + 1) (j + 1) _ _ _ (by omega) (by omega) (by rw [hi]; exact nI_1 j) (by rw [← hF]; simp only [f_mct, if_neg c_16, if_pos c_26]) hP hD hS (lv_sub hl [2, 3, 1, 0] rfl)
        · refine lv_iconst (v := 1) hx hb dX3_count_29 (by decide) ?_
          refine lv_goto (tgt := 34) hx hb dX3_count_30 (by decide) ?_
          refine lv_iadd hx hb dX3_count_34 ?_
          refine lv_istore_n (lv' := [(2, .int (v + 1)), (0, .ref (ad 18)), (1, .int a), (3, .int i)]) hx hb dX3_count_35 rfl hl (by decide) rfl (fun ls hl => ?_)
          refine lv_iinc (v := i + 1) (lv' := [(3, .int (i + 1)), (2, .int (v + 1)), (0, .ref (ad 18)), (1, .int a)]) hx hb dX3_count_36 hl (k := 3) rfl (by rfl) (by decide) rfl (fun ls hl => ?_)
          refine lv_goto (tgt := 13) hx hb dX3_count_39 (by decide) ?_
          exact ih w (v + 1) (i + 1) (j + 1) _ _ _ (by omega) (by omega) (by rw [hi]; exact nI_1 j) (by rw [← hF]; simp only [f_mct, if_neg c_16, if_neg c_26]) hP hD hS (lv_sub hl [2, 3, 1, 0] rfl)
  refine lv_aload_n hx hb dX3_count_0 rfl (lv_at hl 0 rfl) ?_
  refine lv_iconst (v := 0) hx hb dX3_count_1 (by decide) ?_
  refine pr_putR (ci := 5) (C := RX3) (T := TX3) (N := 20) (ty := .int) (v := 0) hx hb hts inX3_count_X3 tyX3 tyX3_ok nmX3 hown hK.1 hP hD hS 18 (by omega) (by omega) pz_a18 rfl 0 (by decide) (hts (.fieldLink RX3 57 "PowderMillModel" "thrown" "I") (by decide +kernel)) (fun _ h9 => h9) rfl (by decide +kernel) rfl rfl (Nat.le_of_ble_eq_true rfl) rfl dX3_count_2 (fun h_1 H locs e_h_1 hP hD hS => ?_)
  refine lv_iload_n hx hb dX3_count_5 rfl (lv_at hl 1 rfl) ?_
  refine lv_if_ne (tgt := 44) hx hb dX3_count_6 (by decide) (fun c_6 => ?_) (fun c_6 => ?_)
  · refine lv_iload_n hx hb dX3_count_44 rfl (lv_at hl 1 rfl) ?_
    refine lv_iconst (v := 1) hx hb dX3_count_45 (by decide) ?_
    refine lv_icmp_ne (tgt := 56) hx hb dX3_count_46 (by decide) (fun c_46 => ?_) (fun c_46 => ?_)
    · refine lv_iload_n hx hb dX3_count_56 rfl (lv_at hl 1 rfl) ?_
      refine lv_iconst (v := 2) hx hb dX3_count_57 (by decide) ?_
      refine lv_iconst (v := 5) hx hb dX3_count_58 (by decide) ?_
      refine pr_Si (As := [.int a, .int 2, .int 5]) (rest := []) ⟨hx, hb, hml, hown, hts⟩ (c_X3_isIn a 2 5) (va_cwS 3 hts gX3_count_X3_isIn rfl rfl rfl (by decide +kernel) ⟨Nat.le_of_ble_eq_true rfl, Nat.le_of_ble_eq_true rfl⟩) hK hP hD hS hA rfl hl.1 rfl (Nat.le_of_ble_eq_true rfl) ⟨Nat.le_of_ble_eq_true rfl, Nat.le_of_ble_eq_true rfl⟩ dX3_count_59 (fun r_2 _ H locs e_r_2 hP hD hS => ?_)
      refine lv_if_ne (tgt := 76) hx hb dX3_count_62 (by decide) (fun c_62 => ?_) (fun c_62 => ?_)
      · refine lv_aload_n hx hb dX3_count_76 rfl (lv_at hl 0 rfl) ?_
        refine va_get (D := (dC, dI)) (ci := 5) (C := RX3) (T := TX3) (N := 20) hx hb hts inX3_count_X3 hown hK.1 hP 18 pz_a18 rfl 19 (by decide) (hts (.fieldLink RX3 51 "PowderMillModel" "counts" "[I") (by decide +kernel)) (fun _ h9 => h9) rfl dX3_count_77 ?_
        refine lv_iload_n hx hb dX3_count_80 rfl (lv_at hl 1 rfl) ?_
        refine va_iald hx hb hK.1 hP 31 0 pz_a31 rfl (pz_mcount (Or.inl (by rw [← e_r_2]; exact c_62))) dX3_count_81 ?_
        refine lv_goto (tgt := 86) hx hb dX3_count_82 (by decide) ?_
        exact pr_iret (h_1) hx hb hr hlocks hP hD hS dX3_count_86 (by subst e_r_2 e_h_1; refine ⟨?_, ?_⟩ <;> (simp only [f_X3_count, if_neg c_6, if_neg c_46, if_neg c_62] <;> rfl))
      · refine lv_iload_n hx hb dX3_count_65 rfl (lv_at hl 1 rfl) ?_
        refine lv_bipush (v := 11) hx hb dX3_count_66 (by decide) ?_
        refine lv_bipush (v := 16) hx hb dX3_count_68 (by decide) ?_
        refine pr_Si (As := [.int a, .int 11, .int 16]) (rest := []) ⟨hx, hb, hml, hown, hts⟩ (c_X3_isIn a 11 16) (va_cwS 3 hts gX3_count_X3_isIn rfl rfl rfl (by decide +kernel) ⟨Nat.le_of_ble_eq_true rfl, Nat.le_of_ble_eq_true rfl⟩) hK hP hD hS hA rfl hl.1 rfl (Nat.le_of_ble_eq_true rfl) ⟨Nat.le_of_ble_eq_true rfl, Nat.le_of_ble_eq_true rfl⟩ dX3_count_70 (fun r_3 _ H locs e_r_3 hP hD hS => ?_)
        refine lv_if_eq (tgt := 85) hx hb dX3_count_73 (by decide) (fun c_73 => ?_) (fun c_73 => ?_)
        · refine lv_iconst (v := (-1)) hx hb dX3_count_85 (by decide) ?_
          exact pr_iret (h_1) hx hb hr hlocks hP hD hS dX3_count_86 (by subst e_r_3 e_r_2 e_h_1; refine ⟨?_, ?_⟩ <;> (simp only [f_X3_count, if_neg c_6, if_neg c_46, if_pos c_62, if_pos c_73] <;> rfl))
        · refine lv_aload_n hx hb dX3_count_76 rfl (lv_at hl 0 rfl) ?_
          refine va_get (D := (dC, dI)) (ci := 5) (C := RX3) (T := TX3) (N := 20) hx hb hts inX3_count_X3 hown hK.1 hP 18 pz_a18 rfl 19 (by decide) (hts (.fieldLink RX3 51 "PowderMillModel" "counts" "[I") (by decide +kernel)) (fun _ h9 => h9) rfl dX3_count_77 ?_
          refine lv_iload_n hx hb dX3_count_80 rfl (lv_at hl 1 rfl) ?_
          refine va_iald hx hb hK.1 hP 31 0 pz_a31 rfl (pz_mcount (Or.inr (by rw [← e_r_3]; exact c_73))) dX3_count_81 ?_
          refine lv_goto (tgt := 86) hx hb dX3_count_82 (by decide) ?_
          exact pr_iret (h_1) hx hb hr hlocks hP hD hS dX3_count_86 (by subst e_r_3 e_r_2 e_h_1; refine ⟨?_, ?_⟩ <;> (simp only [f_X3_count, if_neg c_6, if_neg c_46, if_pos c_62, if_neg c_73] <;> rfl))
    · refine lv_aload_n hx hb dX3_count_49 rfl (lv_at hl 0 rfl) ?_
      refine va_get (D := (dC, dI)) (ci := 5) (C := RX3) (T := TX3) (N := 20) hx hb hts inX3_count_X3 hown hK.1 hP 18 pz_a18 rfl 8 (by decide) (hts (.fieldLink RX3 54 "PowderMillModel" "many" "I") (by decide +kernel)) (fun _ h9 => h9) rfl dX3_count_50 ?_
      refine lv_goto (tgt := 86) hx hb dX3_count_53 (by decide) ?_
      exact pr_iret (h_1) hx hb hr hlocks hP hD hS dX3_count_86 (by subst e_h_1; refine ⟨?_, ?_⟩ <;> (simp only [f_X3_count, if_neg c_6, if_pos c_46] <;> rfl))
  · refine lv_iconst (v := 0) hx hb dX3_count_9 (by decide) ?_
    refine lv_istore_n (lv' := [(2, .int 0), (0, .ref (ad 18)), (1, .int a)]) hx hb dX3_count_10 rfl hl (by decide) rfl (fun ls hl => ?_)
    refine lv_iconst (v := 0) hx hb dX3_count_11 (by decide) ?_
    refine lv_istore_n (lv' := [(3, .int 0), (2, .int 0), (0, .ref (ad 18)), (1, .int a)]) hx hb dX3_count_12 rfl hl (by decide) rfl (fun ls hl => ?_)
    exact key 9 h_1 0 0 0 _ _ _ (by omega) (by omega) rfl (by subst e_h_1; simp only [f_X3_count, if_pos c_6]) hP hD hS (lv_sub hl [2, 3, 1, 0] rfl)
