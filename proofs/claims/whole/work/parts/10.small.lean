theorem inX0_setUp_X0 : ∀ w ∈ u_ws RX0 TX0 8, w ∈ wsX0_setUp := by decide +kernel
def f_X0_setUp (g : pz_M) (ph : Nat → Option Nat) (k : Nat) (a : Int32) (b : Int32) : pz_M × (Nat → Option Nat) :=
  let g_1 := pz_st g (10 + k) 0 1
  let g_2 := pz_st g_1 (10 + k) 1 a
  let g_3 := pz_st g_2 (10 + k) 2 0
  let g_4 := pz_st g_3 (10 + k) 3 b
  let g_5 := pz_st g_4 (10 + k) 4 0
  let g_6 := pz_st g_5 (10 + k) 5 0
  let g_7 := pz_st g_6 (10 + k) 6 0
  let g_8 := pz_st g_7 (10 + k) 7 0
  (g_8, ph)
set_option maxHeartbeats 4000000 in
set_option maxRecDepth 100000 in
theorem c_X0_setUp {l : Launch} {dC : Nat → ClassId} {dI : Nat → Nat → Nat} {cl : Nat → ClassId} {ad : Nat → Nat} {ph : Nat → Option Nat} {o : Nat → Int64} {g h : pz_M} (k : Nat) (a : Int32) (b : Int32) (hk : k < 8) (hz : b = 0 ∨ b = 1) : pz_Mv l dC dI cl yX0_setUp wsX0_setUp { frames := 0, cells := 0, slots := 0, locals := 0 } [.ref (ad (10 + k)), .int a, .int b] (pz_wd ad cl ph o g h) (fun u : pz_M × (Nat → Option Nat) => pz_wd ad cl u.2 o u.1 h) (fun u => u = f_X0_setUp g ph k a b) := by
  intro sz
  refine pr_ofW (Qc := pz_Qv dC dI _ _) (cb := cX0_setUp) (maxL := 3) (ret := none) (by decide) rfl (Nat.le_of_ble_eq_true rfl) ?_
  intro p e s m below meth c A ls hx hb hml hr hlocks hts hown hK hP hD hS hA hl
  have hl : lv_has ls 3 [(0, .ref (ad (10 + k))), (1, .int a), (2, .int b)] := hl
  refine lv_aload_n hx hb dX0_setUp_0 rfl (lv_at hl 0 rfl) ?_
  refine lv_iconst (v := 1) hx hb dX0_setUp_1 (by decide) ?_
  refine pr_putC (ci := 2) (C := RX0) (T := TX0) (N := 8) (ty := .boolean) (v := 1) hx hb hts inX0_setUp_X0 tyX0 tyX0_ok nmX0 hown hK.1 hP hD hS (10 + k) (by have := hk; omega) (pz_aH hk) rfl 0 (by decide) (hts (.fieldLink RX0 9 "PowderMill$House" "stands" "Z") (by decide +kernel)) (fun _ h9 => h9) rfl (by decide +kernel) rfl rfl (Nat.le_of_ble_eq_true rfl) (by rw [pz_ceH hk]; rfl) dX0_setUp_2 (fun g_1 H locs e_g_1 hP hD hS => ?_)
  refine lv_aload_n hx hb dX0_setUp_5 rfl (lv_at hl 0 rfl) ?_
  refine lv_iload_n hx hb dX0_setUp_6 rfl (lv_at hl 1 rfl) ?_
  refine pr_putC (ci := 2) (C := RX0) (T := TX0) (N := 8) (ty := .int) (v := a) hx hb hts inX0_setUp_X0 tyX0 tyX0_ok nmX0 hown hK.1 hP hD hS (10 + k) (by have := hk; omega) (pz_aH hk) rfl 1 (by decide) (hts (.fieldLink RX0 15 "PowderMill$House" "walls" "I") (by decide +kernel)) (fun _ h9 => h9) rfl (by decide +kernel) rfl rfl (Nat.le_of_ble_eq_true rfl) (by rw [pz_ceH hk]; rfl) dX0_setUp_7 (fun g_2 H locs e_g_2 hP hD hS => ?_)
  refine lv_aload_n hx hb dX0_setUp_10 rfl (lv_at hl 0 rfl) ?_
  refine lv_iconst (v := 0) hx hb dX0_setUp_11 (by decide) ?_
  refine pr_putC (ci := 2) (C := RX0) (T := TX0) (N := 8) (ty := .int) (v := 0) hx hb hts inX0_setUp_X0 tyX0 tyX0_ok nmX0 hown hK.1 hP hD hS (10 + k) (by have := hk; omega) (pz_aH hk) rfl 2 (by decide) (hts (.fieldLink RX0 19 "PowderMill$House" "powder" "I") (by decide +kernel)) (fun _ h9 => h9) rfl (by decide +kernel) rfl rfl (Nat.le_of_ble_eq_true rfl) (by rw [pz_ceH hk]; rfl) dX0_setUp_12 (fun g_3 H locs e_g_3 hP hD hS => ?_)
  refine lv_aload_n hx hb dX0_setUp_15 rfl (lv_at hl 0 rfl) ?_
  refine lv_iload_n hx hb dX0_setUp_16 rfl (lv_at hl 2 rfl) ?_
  refine pr_putC (ci := 2) (C := RX0) (T := TX0) (N := 8) (ty := .boolean) (v := b) hx hb hts inX0_setUp_X0 tyX0 tyX0_ok nmX0 hown hK.1 hP hD hS (10 + k) (by have := hk; omega) (pz_aH hk) rfl 3 (by decide) (hts (.fieldLink RX0 22 "PowderMill$House" "refuge" "Z") (by decide +kernel)) (fun _ h9 => h9) rfl (by decide +kernel) (by rcases hz with rfl | rfl <;> rfl) (by rcases hz with rfl | rfl <;> rfl) (Nat.le_of_ble_eq_true rfl) (by rw [pz_ceH hk]; rfl) dX0_setUp_17 (fun g_4 H locs e_g_4 hP hD hS => ?_)
  refine lv_aload_n hx hb dX0_setUp_20 rfl (lv_at hl 0 rfl) ?_
  refine lv_iconst (v := 0) hx hb dX0_setUp_21 (by decide) ?_
  refine pr_putC (ci := 2) (C := RX0) (T := TX0) (N := 8) (ty := .int) (v := 0) hx hb hts inX0_setUp_X0 tyX0 tyX0_ok nmX0 hown hK.1 hP hD hS (10 + k) (by have := hk; omega) (pz_aH hk) rfl 4 (by decide) (hts (.fieldLink RX0 25 "PowderMill$House" "timesIn" "I") (by decide +kernel)) (fun _ h9 => h9) rfl (by decide +kernel) rfl rfl (Nat.le_of_ble_eq_true rfl) (by rw [pz_ceH hk]; rfl) dX0_setUp_22 (fun g_5 H locs e_g_5 hP hD hS => ?_)
  refine lv_aload_n hx hb dX0_setUp_25 rfl (lv_at hl 0 rfl) ?_
  refine lv_iconst (v := 0) hx hb dX0_setUp_26 (by decide) ?_
  refine pr_putC (ci := 2) (C := RX0) (T := TX0) (N := 8) (ty := .int) (v := 0) hx hb hts inX0_setUp_X0 tyX0 tyX0_ok nmX0 hown hK.1 hP hD hS (10 + k) (by have := hk; omega) (pz_aH hk) rfl 5 (by decide) (hts (.fieldLink RX0 28 "PowderMill$House" "sparks" "I") (by decide +kernel)) (fun _ h9 => h9) rfl (by decide +kernel) rfl rfl (Nat.le_of_ble_eq_true rfl) (by rw [pz_ceH hk]; rfl) dX0_setUp_27 (fun g_6 H locs e_g_6 hP hD hS => ?_)
  refine lv_aload_n hx hb dX0_setUp_30 rfl (lv_at hl 0 rfl) ?_
  refine lv_iconst (v := 0) hx hb dX0_setUp_31 (by decide) ?_
  refine pr_putC (ci := 2) (C := RX0) (T := TX0) (N := 8) (ty := .int) (v := 0) hx hb hts inX0_setUp_X0 tyX0 tyX0_ok nmX0 hown hK.1 hP hD hS (10 + k) (by have := hk; omega) (pz_aH hk) rfl 6 (by decide) (hts (.fieldLink RX0 31 "PowderMill$House" "timesCaught" "I") (by decide +kernel)) (fun _ h9 => h9) rfl (by decide +kernel) rfl rfl (Nat.le_of_ble_eq_true rfl) (by rw [pz_ceH hk]; rfl) dX0_setUp_32 (fun g_7 H locs e_g_7 hP hD hS => ?_)
  refine lv_aload_n hx hb dX0_setUp_35 rfl (lv_at hl 0 rfl) ?_
  refine lv_iconst (v := 0) hx hb dX0_setUp_36 (by decide) ?_
  refine pr_putC (ci := 2) (C := RX0) (T := TX0) (N := 8) (ty := .int) (v := 0) hx hb hts inX0_setUp_X0 tyX0 tyX0_ok nmX0 hown hK.1 hP hD hS (10 + k) (by have := hk; omega) (pz_aH hk) rfl 7 (by decide) (hts (.fieldLink RX0 34 "PowderMill$House" "staysNow" "I") (by decide +kernel)) (fun _ h9 => h9) rfl (by decide +kernel) rfl rfl (Nat.le_of_ble_eq_true rfl) (by rw [pz_ceH hk]; rfl) dX0_setUp_37 (fun g_8 H locs e_g_8 hP hD hS => ?_)
  exact pr_vret (g_8, ph) hx hb hr hlocks hP hD hS dX0_setUp_40 (by subst e_g_8 e_g_7 e_g_6 e_g_5 e_g_4 e_g_3 e_g_2 e_g_1; (simp only [f_X0_setUp] <;> rfl))
theorem inX0_receive_X0 : ∀ w ∈ u_ws RX0 TX0 8, w ∈ wsX0_receive := by decide +kernel
def f_X0_receive (g : pz_M) (ph : Nat → Option Nat) (k : Nat) (a : Int32) : Int32 × pz_M × (Nat → Option Nat) :=
  let g_1 := pz_st g (10 + k) 2 ((g (10 + k) 2) + a)
  if (10 * (g_1 (10 + k) 1)) < (g_1 (10 + k) 2) then
    let g_2 := pz_st g_1 (10 + k) 2 0
    let g_3 := pz_st g_2 (10 + k) 5 ((g_2 (10 + k) 5) + 1)
    (3, g_3, ph)
  else
    (0, g_1, ph)
set_option maxHeartbeats 4000000 in
set_option maxRecDepth 100000 in
theorem c_X0_receive {l : Launch} {dC : Nat → ClassId} {dI : Nat → Nat → Nat} {cl : Nat → ClassId} {ad : Nat → Nat} {ph : Nat → Option Nat} {o : Nat → Int64} {g h : pz_M} (k : Nat) (a : Int32) (hk : k < 8) : pz_Mi l dC dI cl yX0_receive wsX0_receive { frames := 0, cells := 0, slots := 0, locals := 0 } [.ref (ad (10 + k)), .int a] (pz_wd ad cl ph o g h) (fun u : pz_M × (Nat → Option Nat) => pz_wd ad cl u.2 o u.1 h) (fun r u => r = (f_X0_receive g ph k a).1 ∧ u = (f_X0_receive g ph k a).2) := by
  intro sz
  refine pr_ofW (Qc := pz_Qi dC dI _ _) (cb := cX0_receive) (maxL := 2) (ret := (some .int)) (by decide) rfl (Nat.le_of_ble_eq_true rfl) ?_
  intro p e s m below meth c A ls hx hb hml hr hlocks hts hown hK hP hD hS hA hl
  have hl : lv_has ls 2 [(0, .ref (ad (10 + k))), (1, .int a)] := hl
  refine lv_aload_n hx hb dX0_receive_0 rfl (lv_at hl 0 rfl) ?_
  refine lv_dup hx hb dX0_receive_1 rfl ?_
  refine va_get (D := (dC, dI)) (ci := 2) (C := RX0) (T := TX0) (N := 8) hx hb hts inX0_receive_X0 hown hK.1 hP (10 + k) (pz_aH hk) rfl 2 (by decide) (hts (.fieldLink RX0 19 "PowderMill$House" "powder" "I") (by decide +kernel)) (fun _ h9 => h9) rfl dX0_receive_2 ?_
  refine lv_iload_n hx hb dX0_receive_5 rfl (lv_at hl 1 rfl) ?_
  refine lv_iadd hx hb dX0_receive_6 ?_
  refine pr_putC (ci := 2) (C := RX0) (T := TX0) (N := 8) (ty := .int) (v := ((g (10 + k) 2) + a)) hx hb hts inX0_receive_X0 tyX0 tyX0_ok nmX0 hown hK.1 hP hD hS (10 + k) (by have := hk; omega) (pz_aH hk) rfl 2 (by decide) (hts (.fieldLink RX0 19 "PowderMill$House" "powder" "I") (by decide +kernel)) (fun _ h9 => h9) rfl (by decide +kernel) rfl rfl (Nat.le_of_ble_eq_true rfl) (by rw [pz_ceH hk]; rfl) dX0_receive_7 (fun g_1 H locs e_g_1 hP hD hS => ?_)
  refine lv_aload_n hx hb dX0_receive_10 rfl (lv_at hl 0 rfl) ?_
  refine va_get (D := (dC, dI)) (ci := 2) (C := RX0) (T := TX0) (N := 8) hx hb hts inX0_receive_X0 hown hK.1 hP (10 + k) (pz_aH hk) rfl 2 (by decide) (hts (.fieldLink RX0 19 "PowderMill$House" "powder" "I") (by decide +kernel)) (fun _ h9 => h9) rfl dX0_receive_11 ?_
  refine lv_bipush (v := 10) hx hb dX0_receive_14 (by decide) ?_
  refine lv_aload_n hx hb dX0_receive_16 rfl (lv_at hl 0 rfl) ?_
  refine va_get (D := (dC, dI)) (ci := 2) (C := RX0) (T := TX0) (N := 8) hx hb hts inX0_receive_X0 hown hK.1 hP (10 + k) (pz_aH hk) rfl 1 (by decide) (hts (.fieldLink RX0 15 "PowderMill$House" "walls" "I") (by decide +kernel)) (fun _ h9 => h9) rfl dX0_receive_17 ?_
  refine lv_imul hx hb dX0_receive_20 ?_
  refine lv_icmp_gt (tgt := 26) hx hb dX0_receive_21 (by decide) (fun c_21 => ?_) (fun c_21 => ?_)
  · refine lv_aload_n hx hb dX0_receive_26 rfl (lv_at hl 0 rfl) ?_
    refine lv_iconst (v := 0) hx hb dX0_receive_27 (by decide) ?_
    refine pr_putC (ci := 2) (C := RX0) (T := TX0) (N := 8) (ty := .int) (v := 0) hx hb hts inX0_receive_X0 tyX0 tyX0_ok nmX0 hown hK.1 hP hD hS (10 + k) (by have := hk; omega) (pz_aH hk) rfl 2 (by decide) (hts (.fieldLink RX0 19 "PowderMill$House" "powder" "I") (by decide +kernel)) (fun _ h9 => h9) rfl (by decide +kernel) rfl rfl (Nat.le_of_ble_eq_true rfl) (by rw [pz_ceH hk]; rfl) dX0_receive_28 (fun g_2 H locs e_g_2 hP hD hS => ?_)
    refine lv_aload_n hx hb dX0_receive_31 rfl (lv_at hl 0 rfl) ?_
    refine lv_dup hx hb dX0_receive_32 rfl ?_
    refine va_get (D := (dC, dI)) (ci := 2) (C := RX0) (T := TX0) (N := 8) hx hb hts inX0_receive_X0 hown hK.1 hP (10 + k) (pz_aH hk) rfl 5 (by decide) (hts (.fieldLink RX0 28 "PowderMill$House" "sparks" "I") (by decide +kernel)) (fun _ h9 => h9) rfl dX0_receive_33 ?_
    refine lv_iconst (v := 1) hx hb dX0_receive_36 (by decide) ?_
    refine lv_iadd hx hb dX0_receive_37 ?_
    refine pr_putC (ci := 2) (C := RX0) (T := TX0) (N := 8) (ty := .int) (v := ((g_2 (10 + k) 5) + 1)) hx hb hts inX0_receive_X0 tyX0 tyX0_ok nmX0 hown hK.1 hP hD hS (10 + k) (by have := hk; omega) (pz_aH hk) rfl 5 (by decide) (hts (.fieldLink RX0 28 "PowderMill$House" "sparks" "I") (by decide +kernel)) (fun _ h9 => h9) rfl (by decide +kernel) rfl rfl (Nat.le_of_ble_eq_true rfl) (by rw [pz_ceH hk]; rfl) dX0_receive_38 (fun g_3 H locs e_g_3 hP hD hS => ?_)
    refine lv_iconst (v := 3) hx hb dX0_receive_41 (by decide) ?_
    exact pr_iret (g_3, ph) hx hb hr hlocks hP hD hS dX0_receive_42 (by subst e_g_3 e_g_2 e_g_1; refine ⟨?_, ?_⟩ <;> (simp only [f_X0_receive, if_pos c_21] <;> rfl))
  · refine lv_iconst (v := 0) hx hb dX0_receive_24 (by decide) ?_
    exact pr_iret (g_1, ph) hx hb hr hlocks hP hD hS dX0_receive_25 (by subst e_g_1; refine ⟨?_, ?_⟩ <;> (simp only [f_X0_receive, if_neg c_21] <;> rfl))
theorem inX0_tell_X0 : ∀ w ∈ u_ws RX0 TX0 8, w ∈ wsX0_tell := by decide +kernel
def f_X0_tell (g : pz_M) (ph : Nat → Option Nat) (k : Nat) (a : Int32) : Int32 :=
  if a = 0 then
    g (10 + k) 1
  else
    if a = 1 then
      g (10 + k) 2
    else
      if a = 2 then
        if (g (10 + k) 3) = 0 then
          0
        else
          1
      else
        if a = 3 then
          g (10 + k) 4
        else
          if a = 4 then
            g (10 + k) 5
          else
            if a = 5 then
              g (10 + k) 6
            else
              if a = 6 then
                g (10 + k) 7
              else
                (-1)
set_option maxHeartbeats 4000000 in
set_option maxRecDepth 100000 in
theorem c_X0_tell {l : Launch} {dC : Nat → ClassId} {dI : Nat → Nat → Nat} {cl : Nat → ClassId} {ad : Nat → Nat} {ph : Nat → Option Nat} {o : Nat → Int64} {g h : pz_M} (k : Nat) (a : Int32) (hk : k < 8) : pz_Mi l dC dI cl yX0_tell wsX0_tell { frames := 0, cells := 0, slots := 0, locals := 0 } [.ref (ad (10 + k)), .int a] (pz_wd ad cl ph o g h) (fun _ : Unit => pz_wd ad cl ph o g h) (fun r _ => r = f_X0_tell g ph k a) := by
  intro sz
  refine pr_ofW (Qc := pz_Qi dC dI _ _) (cb := cX0_tell) (maxL := 2) (ret := (some .int)) (by decide) rfl (Nat.le_of_ble_eq_true rfl) ?_
  intro p e s m below meth c A ls hx hb hml hr hlocks hts hown hK hP hD hS hA hl
  have hl : lv_has ls 2 [(0, .ref (ad (10 + k))), (1, .int a)] := hl
  refine lv_iload_n hx hb dX0_tell_0 rfl (lv_at hl 1 rfl) ?_
  by_cases t_1_0 : a = 0
  · refine pr_tabIn (ki := 0) (tgt := 44) hx hb dX0_tell_1 t_1_0 (by rfl) (by decide) (by decide) (by rfl) (by decide) ?_
    refine lv_aload_n hx hb dX0_tell_44 rfl (lv_at hl 0 rfl) ?_
    refine va_get (D := (dC, dI)) (ci := 2) (C := RX0) (T := TX0) (N := 8) hx hb hts inX0_tell_X0 hown hK.1 hP (10 + k) (pz_aH hk) rfl 1 (by decide) (hts (.fieldLink RX0 15 "PowderMill$House" "walls" "I") (by decide +kernel)) (fun _ h9 => h9) rfl dX0_tell_45 ?_
    exact pr_iret () hx hb hr hlocks hP hD hS dX0_tell_48 (by (simp only [f_X0_tell, if_pos t_1_0] <;> rfl))
  by_cases t_1_1 : a = 1
  · refine pr_tabIn (ki := 1) (tgt := 49) hx hb dX0_tell_1 t_1_1 (by rfl) (by decide) (by decide) (by rfl) (by decide) ?_
    refine lv_aload_n hx hb dX0_tell_49 rfl (lv_at hl 0 rfl) ?_
    refine va_get (D := (dC, dI)) (ci := 2) (C := RX0) (T := TX0) (N := 8) hx hb hts inX0_tell_X0 hown hK.1 hP (10 + k) (pz_aH hk) rfl 2 (by decide) (hts (.fieldLink RX0 19 "PowderMill$House" "powder" "I") (by decide +kernel)) (fun _ h9 => h9) rfl dX0_tell_50 ?_
    exact pr_iret () hx hb hr hlocks hP hD hS dX0_tell_53 (by (simp only [f_X0_tell, if_neg t_1_0, if_pos t_1_1] <;> rfl))
  by_cases t_1_2 : a = 2
  · refine pr_tabIn (ki := 2) (tgt := 54) hx hb dX0_tell_1 t_1_2 (by rfl) (by decide) (by decide) (by rfl) (by decide) ?_
    refine lv_aload_n hx hb dX0_tell_54 rfl (lv_at hl 0 rfl) ?_
    refine va_get (D := (dC, dI)) (ci := 2) (C := RX0) (T := TX0) (N := 8) hx hb hts inX0_tell_X0 hown hK.1 hP (10 + k) (pz_aH hk) rfl 3 (by decide) (hts (.fieldLink RX0 22 "PowderMill$House" "refuge" "Z") (by decide +kernel)) (fun _ h9 => h9) rfl dX0_tell_55 ?_
    refine lv_if_eq (tgt := 65) hx hb dX0_tell_58 (by decide) (fun c_58 => ?_) (fun c_58 => ?_)
    · refine lv_iconst (v := 0) hx hb dX0_tell_65 (by decide) ?_
      exact pr_iret () hx hb hr hlocks hP hD hS dX0_tell_66 (by (simp only [f_X0_tell, if_neg t_1_0, if_neg t_1_1, if_pos t_1_2, if_pos c_58] <;> rfl))
    · refine lv_iconst (v := 1) hx hb dX0_tell_61 (by decide) ?_
      refine lv_goto (tgt := 66) hx hb dX0_tell_62 (by decide) ?_
      exact pr_iret () hx hb hr hlocks hP hD hS dX0_tell_66 (by (simp only [f_X0_tell, if_neg t_1_0, if_neg t_1_1, if_pos t_1_2, if_neg c_58] <;> rfl))
  by_cases t_1_3 : a = 3
  · refine pr_tabIn (ki := 3) (tgt := 67) hx hb dX0_tell_1 t_1_3 (by rfl) (by decide) (by decide) (by rfl) (by decide) ?_
    refine lv_aload_n hx hb dX0_tell_67 rfl (lv_at hl 0 rfl) ?_
    refine va_get (D := (dC, dI)) (ci := 2) (C := RX0) (T := TX0) (N := 8) hx hb hts inX0_tell_X0 hown hK.1 hP (10 + k) (pz_aH hk) rfl 4 (by decide) (hts (.fieldLink RX0 25 "PowderMill$House" "timesIn" "I") (by decide +kernel)) (fun _ h9 => h9) rfl dX0_tell_68 ?_
    exact pr_iret () hx hb hr hlocks hP hD hS dX0_tell_71 (by (simp only [f_X0_tell, if_neg t_1_0, if_neg t_1_1, if_neg t_1_2, if_pos t_1_3] <;> rfl))
  by_cases t_1_4 : a = 4
  · refine pr_tabIn (ki := 4) (tgt := 72) hx hb dX0_tell_1 t_1_4 (by rfl) (by decide) (by decide) (by rfl) (by decide) ?_
    refine lv_aload_n hx hb dX0_tell_72 rfl (lv_at hl 0 rfl) ?_
    refine va_get (D := (dC, dI)) (ci := 2) (C := RX0) (T := TX0) (N := 8) hx hb hts inX0_tell_X0 hown hK.1 hP (10 + k) (pz_aH hk) rfl 5 (by decide) (hts (.fieldLink RX0 28 "PowderMill$House" "sparks" "I") (by decide +kernel)) (fun _ h9 => h9) rfl dX0_tell_73 ?_
    exact pr_iret () hx hb hr hlocks hP hD hS dX0_tell_76 (by (simp only [f_X0_tell, if_neg t_1_0, if_neg t_1_1, if_neg t_1_2, if_neg t_1_3, if_pos t_1_4] <;> rfl))
  by_cases t_1_5 : a = 5
  · refine pr_tabIn (ki := 5) (tgt := 77) hx hb dX0_tell_1 t_1_5 (by rfl) (by decide) (by decide) (by rfl) (by decide) ?_
    refine lv_aload_n hx hb dX0_tell_77 rfl (lv_at hl 0 rfl) ?_
    refine va_get (D := (dC, dI)) (ci := 2) (C := RX0) (T := TX0) (N := 8) hx hb hts inX0_tell_X0 hown hK.1 hP (10 + k) (pz_aH hk) rfl 6 (by decide) (hts (.fieldLink RX0 31 "PowderMill$House" "timesCaught" "I") (by decide +kernel)) (fun _ h9 => h9) rfl dX0_tell_78 ?_
    exact pr_iret () hx hb hr hlocks hP hD hS dX0_tell_81 (by (simp only [f_X0_tell, if_neg t_1_0, if_neg t_1_1, if_neg t_1_2, if_neg t_1_3, if_neg t_1_4, if_pos t_1_5] <;> rfl))
  by_cases t_1_6 : a = 6
  · refine pr_tabIn (ki := 6) (tgt := 82) hx hb dX0_tell_1 t_1_6 (by rfl) (by decide) (by decide) (by rfl) (by decide) ?_
    refine lv_aload_n hx hb dX0_tell_82 rfl (lv_at hl 0 rfl) ?_
    refine va_get (D := (dC, dI)) (ci := 2) (C := RX0) (T := TX0) (N := 8) hx hb hts inX0_tell_X0 hown hK.1 hP (10 + k) (pz_aH hk) rfl 7 (by decide) (hts (.fieldLink RX0 34 "PowderMill$House" "staysNow" "I") (by decide +kernel)) (fun _ h9 => h9) rfl dX0_tell_83 ?_
    exact pr_iret () hx hb hr hlocks hP hD hS dX0_tell_86 (by (simp only [f_X0_tell, if_neg t_1_0, if_neg t_1_1, if_neg t_1_2, if_neg t_1_3, if_neg t_1_4, if_neg t_1_5, if_pos t_1_6] <;> rfl))
  refine lv_tableOut (tgt := 87) hx hb dX0_tell_1 (by have q0 := lv_neT t_1_0 (by rfl : (0 : Int32).toInt = 0); have q1 := lv_neT t_1_1 (by rfl : (1 : Int32).toInt = 1); have q2 := lv_neT t_1_2 (by rfl : (2 : Int32).toInt = 2); have q3 := lv_neT t_1_3 (by rfl : (3 : Int32).toInt = 3); have q4 := lv_neT t_1_4 (by rfl : (4 : Int32).toInt = 4); have q5 := lv_neT t_1_5 (by rfl : (5 : Int32).toInt = 5); have q6 := lv_neT t_1_6 (by rfl : (6 : Int32).toInt = 6); omega) (by decide) ?_
  refine lv_iconst (v := (-1)) hx hb dX0_tell_87 (by decide) ?_
  exact pr_iret () hx hb hr hlocks hP hD hS dX0_tell_88 (by (simp only [f_X0_tell, if_neg t_1_0, if_neg t_1_1, if_neg t_1_2, if_neg t_1_3, if_neg t_1_4, if_neg t_1_5, if_neg t_1_6] <;> rfl))
def f_X2_isPlace (a : Int32) : Int32 :=
  if a < 0 then
    0
  else
    if 8 ≤ a then
      0
    else
      1
set_option maxHeartbeats 4000000 in
set_option maxRecDepth 100000 in
theorem c_X2_isPlace {l : Launch} {dC : Nat → ClassId} {dI : Nat → Nat → Nat} {cl : Nat → ClassId} {ad : Nat → Nat} {ph : Nat → Option Nat} {o : Nat → Int64} {g h : pz_M} (a : Int32) : pz_Mi l dC dI cl yX2_isPlace wsX2_isPlace { frames := 0, cells := 0, slots := 0, locals := 0 } [.int a] (pz_wd ad cl ph o g h) (fun _ : Unit => pz_wd ad cl ph o g h) (fun r _ => r = f_X2_isPlace a) := by
  intro sz
  refine pr_ofW (Qc := pz_Qi dC dI _ _) (cb := cX2_isPlace) (maxL := 1) (ret := (some .boolean)) (by decide) rfl (Nat.le_of_ble_eq_true rfl) ?_
  intro p e s m below meth c A ls hx hb hml hr hlocks hts hown hK hP hD hS hA hl
  have hl : lv_has ls 1 [(0, .int a)] := hl
  refine lv_iload_n hx hb dX2_isPlace_0 rfl (lv_at hl 0 rfl) ?_
  refine lv_if_lt (tgt := 14) hx hb dX2_isPlace_1 (by decide) (fun c_1 => ?_) (fun c_1 => ?_)
  · refine lv_iconst (v := 0) hx hb dX2_isPlace_14 (by decide) ?_
    exact pr_zret () hx hb hr hlocks (by decide) hP hD hS dX2_isPlace_15 (by (simp only [f_X2_isPlace, if_pos c_1] <;> rfl))
  · refine lv_iload_n hx hb dX2_isPlace_4 rfl (lv_at hl 0 rfl) ?_
    refine lv_bipush (v := 8) hx hb dX2_isPlace_5 (by decide) ?_
    refine lv_icmp_ge (tgt := 14) hx hb dX2_isPlace_7 (by decide) (fun c_7 => ?_) (fun c_7 => ?_)
    · refine lv_iconst (v := 0) hx hb dX2_isPlace_14 (by decide) ?_
      exact pr_zret () hx hb hr hlocks (by decide) hP hD hS dX2_isPlace_15 (by (simp only [f_X2_isPlace, if_neg c_1, if_pos c_7] <;> rfl))
    · refine lv_iconst (v := 1) hx hb dX2_isPlace_10 (by decide) ?_
      refine lv_goto (tgt := 15) hx hb dX2_isPlace_11 (by decide) ?_
      exact pr_zret () hx hb hr hlocks (by decide) hP hD hS dX2_isPlace_15 (by (simp only [f_X2_isPlace, if_neg c_1, if_neg c_7] <;> rfl))
def f_X2_isAct (a : Int32) : Int32 :=
  if a < 0 then
    0
  else
    if 8 < a then
      0
    else
      1
set_option maxHeartbeats 4000000 in
set_option maxRecDepth 100000 in
theorem c_X2_isAct {l : Launch} {dC : Nat → ClassId} {dI : Nat → Nat → Nat} {cl : Nat → ClassId} {ad : Nat → Nat} {ph : Nat → Option Nat} {o : Nat → Int64} {g h : pz_M} (a : Int32) : pz_Mi l dC dI cl yX2_isAct wsX2_isAct { frames := 0, cells := 0, slots := 0, locals := 0 } [.int a] (pz_wd ad cl ph o g h) (fun _ : Unit => pz_wd ad cl ph o g h) (fun r _ => r = f_X2_isAct a) := by
  intro sz
  refine pr_ofW (Qc := pz_Qi dC dI _ _) (cb := cX2_isAct) (maxL := 1) (ret := (some .boolean)) (by decide) rfl (Nat.le_of_ble_eq_true rfl) ?_
  intro p e s m below meth c A ls hx hb hml hr hlocks hts hown hK hP hD hS hA hl
  have hl : lv_has ls 1 [(0, .int a)] := hl
  refine lv_iload_n hx hb dX2_isAct_0 rfl (lv_at hl 0 rfl) ?_
  refine lv_if_lt (tgt := 14) hx hb dX2_isAct_1 (by decide) (fun c_1 => ?_) (fun c_1 => ?_)
  · refine lv_iconst (v := 0) hx hb dX2_isAct_14 (by decide) ?_
    exact pr_zret () hx hb hr hlocks (by decide) hP hD hS dX2_isAct_15 (by (simp only [f_X2_isAct, if_pos c_1] <;> rfl))
  · refine lv_iload_n hx hb dX2_isAct_4 rfl (lv_at hl 0 rfl) ?_
    refine lv_bipush (v := 8) hx hb dX2_isAct_5 (by decide) ?_
    refine lv_icmp_gt (tgt := 14) hx hb dX2_isAct_7 (by decide) (fun c_7 => ?_) (fun c_7 => ?_)
    · refine lv_iconst (v := 0) hx hb dX2_isAct_14 (by decide) ?_
      exact pr_zret () hx hb hr hlocks (by decide) hP hD hS dX2_isAct_15 (by (simp only [f_X2_isAct, if_neg c_1, if_pos c_7] <;> rfl))
    · refine lv_iconst (v := 1) hx hb dX2_isAct_10 (by decide) ?_
      refine lv_goto (tgt := 15) hx hb dX2_isAct_11 (by decide) ?_
      exact pr_zret () hx hb hr hlocks (by decide) hP hD hS dX2_isAct_15 (by (simp only [f_X2_isAct, if_neg c_1, if_neg c_7] <;> rfl))
def f_X2_isRow (a : Int32) : Int32 :=
  if a < 0 then
    0
  else
    if 8 ≤ a then
      0
    else
      1
set_option maxHeartbeats 4000000 in
set_option maxRecDepth 100000 in
theorem c_X2_isRow {l : Launch} {dC : Nat → ClassId} {dI : Nat → Nat → Nat} {cl : Nat → ClassId} {ad : Nat → Nat} {ph : Nat → Option Nat} {o : Nat → Int64} {g h : pz_M} (a : Int32) : pz_Mi l dC dI cl yX2_isRow wsX2_isRow { frames := 0, cells := 0, slots := 0, locals := 0 } [.int a] (pz_wd ad cl ph o g h) (fun _ : Unit => pz_wd ad cl ph o g h) (fun r _ => r = f_X2_isRow a) := by
  intro sz
  refine pr_ofW (Qc := pz_Qi dC dI _ _) (cb := cX2_isRow) (maxL := 1) (ret := (some .boolean)) (by decide) rfl (Nat.le_of_ble_eq_true rfl) ?_
  intro p e s m below meth c A ls hx hb hml hr hlocks hts hown hK hP hD hS hA hl
  have hl : lv_has ls 1 [(0, .int a)] := hl
  refine lv_iload_n hx hb dX2_isRow_0 rfl (lv_at hl 0 rfl) ?_
  refine lv_if_lt (tgt := 14) hx hb dX2_isRow_1 (by decide) (fun c_1 => ?_) (fun c_1 => ?_)
  · refine lv_iconst (v := 0) hx hb dX2_isRow_14 (by decide) ?_
    exact pr_zret () hx hb hr hlocks (by decide) hP hD hS dX2_isRow_15 (by (simp only [f_X2_isRow, if_pos c_1] <;> rfl))
  · refine lv_iload_n hx hb dX2_isRow_4 rfl (lv_at hl 0 rfl) ?_
    refine lv_bipush (v := 8) hx hb dX2_isRow_5 (by decide) ?_
    refine lv_icmp_ge (tgt := 14) hx hb dX2_isRow_7 (by decide) (fun c_7 => ?_) (fun c_7 => ?_)
    · refine lv_iconst (v := 0) hx hb dX2_isRow_14 (by decide) ?_
      exact pr_zret () hx hb hr hlocks (by decide) hP hD hS dX2_isRow_15 (by (simp only [f_X2_isRow, if_neg c_1, if_pos c_7] <;> rfl))
    · refine lv_iconst (v := 1) hx hb dX2_isRow_10 (by decide) ?_
      refine lv_goto (tgt := 15) hx hb dX2_isRow_11 (by decide) ?_
      exact pr_zret () hx hb hr hlocks (by decide) hP hD hS dX2_isRow_15 (by (simp only [f_X2_isRow, if_neg c_1, if_neg c_7] <;> rfl))
def f_J9_floorMod_7cf53 (a : Int32) (b : Int32) : Int32 :=
  if 0 ≤ (a ^^^ b) then
    a - a / b * b
  else
    if (a - a / b * b) = 0 then
      a - a / b * b
    else
      (a - a / b * b) + b
set_option maxHeartbeats 4000000 in
set_option maxRecDepth 100000 in
theorem c_J9_floorMod_7cf53 {l : Launch} {dC : Nat → ClassId} {dI : Nat → Nat → Nat} {cl : Nat → ClassId} {ad : Nat → Nat} {ph : Nat → Option Nat} {o : Nat → Int64} {g h : pz_M} (a : Int32) (b : Int32) (hne : ¬ b = 0) : pz_Mi l dC dI cl yJ9_floorMod_7cf53 wsJ9_floorMod_7cf53 { frames := 0, cells := 0, slots := 0, locals := 0 } [.int a, .int b] (pz_wd ad cl ph o g h) (fun _ : Unit => pz_wd ad cl ph o g h) (fun r _ => r = f_J9_floorMod_7cf53 a b) := by
  intro sz
  refine pr_ofWF (Qc := pz_Qi dC dI _ _) (cb := cJ9_floorMod_7cf53) (maxL := 3) (ret := (some .int)) (by decide +kernel) rfl (Nat.le_of_ble_eq_true rfl) ?_
  intro p e s m below meth c A ls hx hb hml hr hlocks hts hown hK hP hD hS hA hl
  have hl : lv_has ls 3 [(0, .int a), (1, .int b)] := hl
  refine lv_iload_n hx hb dJ9_floorMod_7cf53_0 rfl (lv_at hl 0 rfl) ?_
  refine lv_iload_n hx hb dJ9_floorMod_7cf53_1 rfl (lv_at hl 1 rfl) ?_
  refine lv_irem hx hb dJ9_floorMod_7cf53_2 hne ?_
  refine lv_istore_n (lv' := [(2, .int (a - a / b * b)), (0, .int a), (1, .int b)]) hx hb dJ9_floorMod_7cf53_3 rfl hl (by decide) rfl (fun ls hl => ?_)
  refine lv_iload_n hx hb dJ9_floorMod_7cf53_4 rfl (lv_at hl 1 rfl) ?_
  refine lv_iload_n hx hb dJ9_floorMod_7cf53_5 rfl (lv_at hl 2 rfl) ?_
  refine lv_ixor hx hb dJ9_floorMod_7cf53_6 ?_
  refine lv_if_ge (tgt := 18) hx hb dJ9_floorMod_7cf53_7 (by decide) (fun c_7 => ?_) (fun c_7 => ?_)
  · refine lv_iload_n hx hb dJ9_floorMod_7cf53_18 rfl (lv_at hl 0 rfl) ?_
    exact pr_iret () hx hb hr hlocks hP hD hS dJ9_floorMod_7cf53_19 (by (simp only [f_J9_floorMod_7cf53, if_pos c_7] <;> rfl))
  · refine lv_iload_n hx hb dJ9_floorMod_7cf53_10 rfl (lv_at hl 0 rfl) ?_
    refine lv_if_eq (tgt := 18) hx hb dJ9_floorMod_7cf53_11 (by decide) (fun c_11 => ?_) (fun c_11 => ?_)
    · refine lv_iload_n hx hb dJ9_floorMod_7cf53_18 rfl (lv_at hl 0 rfl) ?_
      exact pr_iret () hx hb hr hlocks hP hD hS dJ9_floorMod_7cf53_19 (by (simp only [f_J9_floorMod_7cf53, if_neg c_7, if_pos c_11] <;> rfl))
    · refine lv_iload_n hx hb dJ9_floorMod_7cf53_14 rfl (lv_at hl 0 rfl) ?_
      refine lv_iload_n hx hb dJ9_floorMod_7cf53_15 rfl (lv_at hl 2 rfl) ?_
      refine lv_iadd hx hb dJ9_floorMod_7cf53_16 ?_
      exact pr_iret () hx hb hr hlocks hP hD hS dJ9_floorMod_7cf53_17 (by (simp only [f_J9_floorMod_7cf53, if_neg c_7, if_neg c_11] <;> rfl))
theorem inX1_isFull_X1 : ∀ w ∈ u_ws RX1 TX1 4, w ∈ wsX1_isFull := by decide +kernel
def f_X1_isFull (g : pz_M) (ph : Nat → Option Nat) : Int32 :=
  if (g 2 3) < 6 then
    0
  else
    1
set_option maxHeartbeats 4000000 in
set_option maxRecDepth 100000 in
theorem c_X1_isFull {l : Launch} {dC : Nat → ClassId} {dI : Nat → Nat → Nat} {cl : Nat → ClassId} {ad : Nat → Nat} {ph : Nat → Option Nat} {o : Nat → Int64} {g h : pz_M} : pz_Mi l dC dI cl yX1_isFull wsX1_isFull { frames := 0, cells := 0, slots := 0, locals := 0 } [.ref (ad 2)] (pz_wd ad cl ph o g h) (fun _ : Unit => pz_wd ad cl ph o g h) (fun r _ => r = f_X1_isFull g ph) := by
  intro sz
  refine pr_ofW (Qc := pz_Qi dC dI _ _) (cb := cX1_isFull) (maxL := 1) (ret := (some .boolean)) (by decide) rfl (Nat.le_of_ble_eq_true rfl) ?_
  intro p e s m below meth c A ls hx hb hml hr hlocks hts hown hK hP hD hS hA hl
  have hl : lv_has ls 1 [(0, .ref (ad 2))] := hl
  refine lv_aload_n hx hb dX1_isFull_0 rfl (lv_at hl 0 rfl) ?_
  refine va_get (D := (dC, dI)) (ci := 3) (C := RX1) (T := TX1) (N := 4) hx hb hts inX1_isFull_X1 hown hK.1 hP 2 pz_a2 rfl 3 (by decide) (hts (.fieldLink RX1 24 "PowderMill$Path" "depth" "I") (by decide +kernel)) (fun _ h9 => h9) rfl dX1_isFull_1 ?_
  refine lv_bipush (v := 6) hx hb dX1_isFull_4 (by decide) ?_
  refine lv_icmp_lt (tgt := 13) hx hb dX1_isFull_6 (by decide) (fun c_6 => ?_) (fun c_6 => ?_)
  · refine lv_iconst (v := 0) hx hb dX1_isFull_13 (by decide) ?_
    exact pr_zret () hx hb hr hlocks (by decide) hP hD hS dX1_isFull_14 (by (simp only [f_X1_isFull, if_pos c_6] <;> rfl))
  · refine lv_iconst (v := 1) hx hb dX1_isFull_9 (by decide) ?_
    refine lv_goto (tgt := 14) hx hb dX1_isFull_10 (by decide) ?_
    exact pr_zret () hx hb hr hlocks (by decide) hP hD hS dX1_isFull_14 (by (simp only [f_X1_isFull, if_neg c_6] <;> rfl))
theorem inX1_here_X1 : ∀ w ∈ u_ws RX1 TX1 4, w ∈ wsX1_here := by decide +kernel
def f_X1_here (g : pz_M) (ph : Nat → Option Nat) : Option Nat :=
  if (g 2 3) < 1 then
    none
  else
    (some (pz_h ph (g 2 3 - 1).toNatClampNeg))
set_option maxHeartbeats 4000000 in
set_option maxRecDepth 100000 in
theorem c_X1_here {l : Launch} {dC : Nat → ClassId} {dI : Nat → Nat → Nat} {cl : Nat → ClassId} {ad : Nat → Nat} {ph : Nat → Option Nat} {o : Nat → Int64} {g h : pz_M} (hw : pz_W g ph) : pz_Me l dC dI cl ad yX1_here wsX1_here { frames := 0, cells := 0, slots := 0, locals := 0 } [.ref (ad 2)] (pz_wd ad cl ph o g h) (fun _ : Unit => pz_wd ad cl ph o g h) (fun r _ => r = f_X1_here g ph) := by
  intro sz
  refine pr_ofW (Qc := pz_Qe dC dI ad _ _) (cb := cX1_here) (maxL := 1) (ret := (some (.object "PowderMill$House"))) (by decide) rfl (Nat.le_of_ble_eq_true rfl) ?_
  intro p e s m below meth c A ls hx hb hml hr hlocks hts hown hK hP hD hS hA hl
  have hl : lv_has ls 1 [(0, .ref (ad 2))] := hl
  refine lv_aload_n hx hb dX1_here_0 rfl (lv_at hl 0 rfl) ?_
  refine va_get (D := (dC, dI)) (ci := 3) (C := RX1) (T := TX1) (N := 4) hx hb hts inX1_here_X1 hown hK.1 hP 2 pz_a2 rfl 3 (by decide) (hts (.fieldLink RX1 24 "PowderMill$Path" "depth" "I") (by decide +kernel)) (fun _ h9 => h9) rfl dX1_here_1 ?_
  refine lv_iconst (v := 1) hx hb dX1_here_4 (by decide) ?_
  refine lv_icmp_lt (tgt := 22) hx hb dX1_here_5 (by decide) (fun c_5 => ?_) (fun c_5 => ?_)
  · refine lv_null hx hb dX1_here_22 ?_
    exact pr_aret none () hx hb hr hlocks rfl hP hD hS dX1_here_23 (by (simp only [f_X1_here, if_pos c_5] <;> rfl))
  · obtain ⟨i1, i2, i3⟩ := pz_W1 hw c_5
    refine lv_aload_n hx hb dX1_here_8 rfl (lv_at hl 0 rfl) ?_
    refine va_get (D := (dC, dI)) (ci := 3) (C := RX1) (T := TX1) (N := 4) hx hb hts inX1_here_X1 hown hK.1 hP 2 pz_a2 rfl 0 (by decide) (hts (.fieldLink RX1 11 "PowderMill$Path" "houses" "[LPowderMill$House;") (by decide +kernel)) (fun _ h9 => h9) rfl dX1_here_9 ?_
    refine lv_aload_n hx hb dX1_here_12 rfl (lv_at hl 0 rfl) ?_
    refine va_get (D := (dC, dI)) (ci := 3) (C := RX1) (T := TX1) (N := 4) hx hb hts inX1_here_X1 hown hK.1 hP 2 pz_a2 rfl 3 (by decide) (hts (.fieldLink RX1 24 "PowderMill$Path" "depth" "I") (by decide +kernel)) (fun _ h9 => h9) rfl dX1_here_13 ?_
    refine lv_iconst (v := 1) hx hb dX1_here_16 (by decide) ?_
    refine lv_isub hx hb dX1_here_17 ?_
    refine pr_stay hx hb hK.1 hP (k := (pz_h ph (g 2 3 - 1).toNatClampNeg)) i2 i1 dX1_here_18 ?_
    refine lv_goto (tgt := 23) hx hb dX1_here_19 (by decide) ?_
    exact pr_aret (some (pz_h ph (g 2 3 - 1).toNatClampNeg)) () hx hb hr hlocks rfl hP hD hS dX1_here_23 (by (simp only [f_X1_here, if_neg c_5] <;> rfl))
theorem inX1_around_X1 : ∀ w ∈ u_ws RX1 TX1 4, w ∈ wsX1_around := by decide +kernel
def f_X1_around (g : pz_M) (ph : Nat → Option Nat) : Option Nat :=
  if (g 2 3) < 2 then
    none
  else
    (some (pz_h ph (g 2 3 - 2).toNatClampNeg))
set_option maxHeartbeats 4000000 in
set_option maxRecDepth 100000 in
theorem c_X1_around {l : Launch} {dC : Nat → ClassId} {dI : Nat → Nat → Nat} {cl : Nat → ClassId} {ad : Nat → Nat} {ph : Nat → Option Nat} {o : Nat → Int64} {g h : pz_M} (hw : pz_W g ph) : pz_Me l dC dI cl ad yX1_around wsX1_around { frames := 0, cells := 0, slots := 0, locals := 0 } [.ref (ad 2)] (pz_wd ad cl ph o g h) (fun _ : Unit => pz_wd ad cl ph o g h) (fun r _ => r = f_X1_around g ph) := by
  intro sz
  refine pr_ofW (Qc := pz_Qe dC dI ad _ _) (cb := cX1_around) (maxL := 1) (ret := (some (.object "PowderMill$House"))) (by decide) rfl (Nat.le_of_ble_eq_true rfl) ?_
  intro p e s m below meth c A ls hx hb hml hr hlocks hts hown hK hP hD hS hA hl
  have hl : lv_has ls 1 [(0, .ref (ad 2))] := hl
  refine lv_aload_n hx hb dX1_around_0 rfl (lv_at hl 0 rfl) ?_
  refine va_get (D := (dC, dI)) (ci := 3) (C := RX1) (T := TX1) (N := 4) hx hb hts inX1_around_X1 hown hK.1 hP 2 pz_a2 rfl 3 (by decide) (hts (.fieldLink RX1 24 "PowderMill$Path" "depth" "I") (by decide +kernel)) (fun _ h9 => h9) rfl dX1_around_1 ?_
  refine lv_iconst (v := 2) hx hb dX1_around_4 (by decide) ?_
  refine lv_icmp_lt (tgt := 22) hx hb dX1_around_5 (by decide) (fun c_5 => ?_) (fun c_5 => ?_)
  · refine lv_null hx hb dX1_around_22 ?_
    exact pr_aret none () hx hb hr hlocks rfl hP hD hS dX1_around_23 (by (simp only [f_X1_around, if_pos c_5] <;> rfl))
  · obtain ⟨i1, i2, i3⟩ := pz_W2 hw c_5
    refine lv_aload_n hx hb dX1_around_8 rfl (lv_at hl 0 rfl) ?_
    refine va_get (D := (dC, dI)) (ci := 3) (C := RX1) (T := TX1) (N := 4) hx hb hts inX1_around_X1 hown hK.1 hP 2 pz_a2 rfl 0 (by decide) (hts (.fieldLink RX1 11 "PowderMill$Path" "houses" "[LPowderMill$House;") (by decide +kernel)) (fun _ h9 => h9) rfl dX1_around_9 ?_
    refine lv_aload_n hx hb dX1_around_12 rfl (lv_at hl 0 rfl) ?_
    refine va_get (D := (dC, dI)) (ci := 3) (C := RX1) (T := TX1) (N := 4) hx hb hts inX1_around_X1 hown hK.1 hP 2 pz_a2 rfl 3 (by decide) (hts (.fieldLink RX1 24 "PowderMill$Path" "depth" "I") (by decide +kernel)) (fun _ h9 => h9) rfl dX1_around_13 ?_
    refine lv_iconst (v := 2) hx hb dX1_around_16 (by decide) ?_
    refine lv_isub hx hb dX1_around_17 ?_
    refine pr_stay hx hb hK.1 hP (k := (pz_h ph (g 2 3 - 2).toNatClampNeg)) i2 i1 dX1_around_18 ?_
    refine lv_goto (tgt := 23) hx hb dX1_around_19 (by decide) ?_
    exact pr_aret (some (pz_h ph (g 2 3 - 2).toNatClampNeg)) () hx hb hr hlocks rfl hP hD hS dX1_around_23 (by (simp only [f_X1_around, if_neg c_5] <;> rfl))
theorem inX1_enter_X0 : ∀ w ∈ u_ws RX0 TX0 8, w ∈ wsX1_enter := by decide +kernel
theorem inX1_enter_X1 : ∀ w ∈ u_ws RX1 TX1 4, w ∈ wsX1_enter := by decide +kernel
def f_X1_enter (g : pz_M) (ph : Nat → Option Nat) (k : Nat) (a : Int32) : pz_M × (Nat → Option Nat) :=
  let ph_1 := va_up ph (g 2 3).toNatClampNeg (some k)
  let g_2 := pz_st g 8 (g 2 3).toNatClampNeg a
  let g_3 := pz_st g_2 9 (g_2 2 3).toNatClampNeg 0
  let g_4 := pz_st g_3 2 3 ((g_3 2 3) + 1)
  let g_5 := pz_st g_4 (10 + k) 4 ((g_4 (10 + k) 4) + 1)
  let g_6 := pz_st g_5 (10 + k) 7 ((g_5 (10 + k) 7) + 1)
  (g_6, ph_1)
set_option maxHeartbeats 4000000 in
set_option maxRecDepth 100000 in
theorem c_X1_enter {l : Launch} {dC : Nat → ClassId} {dI : Nat → Nat → Nat} {cl : Nat → ClassId} {ad : Nat → Nat} {ph : Nat → Option Nat} {o : Nat → Int64} {g h : pz_M} (k : Nat) (a : Int32) (hk : k < 8) (hi : vp_in (g 2 3) 6) : pz_Mv l dC dI cl yX1_enter wsX1_enter { frames := 0, cells := 0, slots := 0, locals := 0 } [.ref (ad 2), .ref (ad (10 + k)), .int a] (pz_wd ad cl ph o g h) (fun u : pz_M × (Nat → Option Nat) => pz_wd ad cl u.2 o u.1 h) (fun u => u = f_X1_enter g ph k a) := by
  intro sz
  refine pr_ofW (Qc := pz_Qv dC dI _ _) (cb := cX1_enter) (maxL := 3) (ret := none) (by decide) rfl (Nat.le_of_ble_eq_true rfl) ?_
  intro p e s m below meth c A ls hx hb hml hr hlocks hts hown hK hP hD hS hA hl
  have hl : lv_has ls 3 [(0, .ref (ad 2)), (1, .ref (ad (10 + k))), (2, .int a)] := hl
  refine lv_aload_n hx hb dX1_enter_0 rfl (lv_at hl 0 rfl) ?_
  refine va_get (D := (dC, dI)) (ci := 3) (C := RX1) (T := TX1) (N := 4) hx hb hts inX1_enter_X1 hown hK.1 hP 2 pz_a2 rfl 0 (by decide) (hts (.fieldLink RX1 11 "PowderMill$Path" "houses" "[LPowderMill$House;") (by decide +kernel)) (fun _ h9 => h9) rfl dX1_enter_1 ?_
  refine lv_aload_n hx hb dX1_enter_4 rfl (lv_at hl 0 rfl) ?_
  refine va_get (D := (dC, dI)) (ci := 3) (C := RX1) (T := TX1) (N := 4) hx hb hts inX1_enter_X1 hown hK.1 hP 2 pz_a2 rfl 3 (by decide) (hts (.fieldLink RX1 24 "PowderMill$Path" "depth" "I") (by decide +kernel)) (fun _ h9 => h9) rfl dX1_enter_5 ?_
  refine lv_aload_n hx hb dX1_enter_8 rfl (lv_at hl 1 rfl) ?_
  refine pr_enter hx hb hK.1 hP hD hS (k := k) hk hi dX1_enter_9 (fun ph_1 H locs e_ph_1 hP hD hS => ?_)
  refine lv_aload_n hx hb dX1_enter_10 rfl (lv_at hl 0 rfl) ?_
  refine va_get (D := (dC, dI)) (ci := 3) (C := RX1) (T := TX1) (N := 4) hx hb hts inX1_enter_X1 hown hK.1 hP 2 pz_a2 rfl 1 (by decide) (hts (.fieldLink RX1 17 "PowderMill$Path" "inSteps" "[I") (by decide +kernel)) (fun _ h9 => h9) rfl dX1_enter_11 ?_
  refine lv_aload_n hx hb dX1_enter_14 rfl (lv_at hl 0 rfl) ?_
  refine va_get (D := (dC, dI)) (ci := 3) (C := RX1) (T := TX1) (N := 4) hx hb hts inX1_enter_X1 hown hK.1 hP 2 pz_a2 rfl 3 (by decide) (hts (.fieldLink RX1 24 "PowderMill$Path" "depth" "I") (by decide +kernel)) (fun _ h9 => h9) rfl dX1_enter_15 ?_
  refine lv_iload_n hx hb dX1_enter_18 rfl (lv_at hl 2 rfl) ?_
  refine pr_iastC hx hb hK.1 hP hD hS 8 (by omega) pz_a8 (fun _ => rfl) hi dX1_enter_19 (fun g_2 H locs e_g_2 hP hD hS => ?_)
  refine lv_aload_n hx hb dX1_enter_20 rfl (lv_at hl 0 rfl) ?_
  refine va_get (D := (dC, dI)) (ci := 3) (C := RX1) (T := TX1) (N := 4) hx hb hts inX1_enter_X1 hown hK.1 hP 2 pz_a2 rfl 2 (by decide) (hts (.fieldLink RX1 21 "PowderMill$Path" "timesBack" "[I") (by decide +kernel)) (fun _ h9 => h9) rfl dX1_enter_21 ?_
  refine lv_aload_n hx hb dX1_enter_24 rfl (lv_at hl 0 rfl) ?_
  refine va_get (D := (dC, dI)) (ci := 3) (C := RX1) (T := TX1) (N := 4) hx hb hts inX1_enter_X1 hown hK.1 hP 2 pz_a2 rfl 3 (by decide) (hts (.fieldLink RX1 24 "PowderMill$Path" "depth" "I") (by decide +kernel)) (fun _ h9 => h9) rfl dX1_enter_25 ?_
  refine lv_iconst (v := 0) hx hb dX1_enter_28 (by decide) ?_
  refine pr_iastC hx hb hK.1 hP hD hS 9 (by omega) pz_a9 (fun _ => rfl) (by subst e_g_2; rw [pz_st_n (by decide)]; exact hi) dX1_enter_29 (fun g_3 H locs e_g_3 hP hD hS => ?_)
  refine lv_aload_n hx hb dX1_enter_30 rfl (lv_at hl 0 rfl) ?_
  refine lv_dup hx hb dX1_enter_31 rfl ?_
  refine va_get (D := (dC, dI)) (ci := 3) (C := RX1) (T := TX1) (N := 4) hx hb hts inX1_enter_X1 hown hK.1 hP 2 pz_a2 rfl 3 (by decide) (hts (.fieldLink RX1 24 "PowderMill$Path" "depth" "I") (by decide +kernel)) (fun _ h9 => h9) rfl dX1_enter_32 ?_
  refine lv_iconst (v := 1) hx hb dX1_enter_35 (by decide) ?_
  refine lv_iadd hx hb dX1_enter_36 ?_
  refine pr_putC (ci := 3) (C := RX1) (T := TX1) (N := 4) (ty := .int) (v := ((g_3 2 3) + 1)) hx hb hts inX1_enter_X1 tyX1 tyX1_ok nmX1 hown hK.1 hP hD hS 2 (by omega) pz_a2 rfl 3 (by decide) (hts (.fieldLink RX1 24 "PowderMill$Path" "depth" "I") (by decide +kernel)) (fun _ h9 => h9) rfl (by decide +kernel) rfl rfl (Nat.le_of_ble_eq_true rfl) rfl dX1_enter_37 (fun g_4 H locs e_g_4 hP hD hS => ?_)
  refine lv_aload_n hx hb dX1_enter_40 rfl (lv_at hl 1 rfl) ?_
  refine lv_dup hx hb dX1_enter_41 rfl ?_
  refine va_getN (D := (dC, dI)) (ci := 2) (C := RX0) (T := TX0) (N := 8) hx hb hts inX1_enter_X0 hown hK.1 hP (10 + k) (pz_aH hk) rfl 4 (by decide) (va_Nw.use rfl hK.2.2.2.1) (fun _ h9 => h9) rfl dX1_enter_42 ?_
  refine lv_iconst (v := 1) hx hb dX1_enter_45 (by decide) ?_
  refine lv_iadd hx hb dX1_enter_46 ?_
  refine pr_putN (ci := 2) (C := RX0) (T := TX0) (N := 8) (ty := .int) (v := ((g_4 (10 + k) 4) + 1)) hx hb hts inX1_enter_X0 tyX0 tyX0_ok nmX0 hown hK.1 hP hD hS (10 + k) (by have := hk; omega) (pz_aH hk) rfl 4 (by decide) (va_Nw.use rfl hK.2.2.2.1) (fun _ h9 => h9) rfl (by decide +kernel) rfl rfl (Nat.le_of_ble_eq_true rfl) (by rw [pz_ceH hk]; rfl) dX1_enter_47 (fun g_5 H locs e_g_5 hP hD hS => ?_)
  refine lv_aload_n hx hb dX1_enter_50 rfl (lv_at hl 1 rfl) ?_
  refine lv_dup hx hb dX1_enter_51 rfl ?_
  refine va_getN (D := (dC, dI)) (ci := 2) (C := RX0) (T := TX0) (N := 8) hx hb hts inX1_enter_X0 hown hK.1 hP (10 + k) (pz_aH hk) rfl 7 (by decide) (va_Nw.use rfl hK.2.2.2.2.1) (fun _ h9 => h9) rfl dX1_enter_52 ?_
  refine lv_iconst (v := 1) hx hb dX1_enter_55 (by decide) ?_
  refine lv_iadd hx hb dX1_enter_56 ?_
  refine pr_putN (ci := 2) (C := RX0) (T := TX0) (N := 8) (ty := .int) (v := ((g_5 (10 + k) 7) + 1)) hx hb hts inX1_enter_X0 tyX0 tyX0_ok nmX0 hown hK.1 hP hD hS (10 + k) (by have := hk; omega) (pz_aH hk) rfl 7 (by decide) (va_Nw.use rfl hK.2.2.2.2.1) (fun _ h9 => h9) rfl (by decide +kernel) rfl rfl (Nat.le_of_ble_eq_true rfl) (by rw [pz_ceH hk]; rfl) dX1_enter_57 (fun g_6 H locs e_g_6 hP hD hS => ?_)
  exact pr_vret (g_6, ph_1) hx hb hr hlocks hP hD hS dX1_enter_60 (by subst e_g_6 e_g_5 e_g_4 e_g_3 e_g_2 e_ph_1; (simp only [f_X1_enter] <;> rfl))
