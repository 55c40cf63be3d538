theorem inX2_followOrder_X2 : ∀ w ∈ u_ws RX2 TX2 14, w ∈ wsX2_followOrder := by decide +kernel
def f_fo : Nat → pz_M → (Nat → Option Nat) → Int32 × pz_M × (Nat → Option Nat)
  | 0, w, v => (0, w, v)
  | n + 1, w, v =>
    if 80 ≤ (w 0 7) then
      if (w 0 5) ≤ (w 0 6) then
        (0, w, v)
      else
        ((-3), w, v)
    else
      if (w 0 6) < (w 0 5) then
        let g_1 := pz_st w 0 7 ((w 0 7) + 1)
        let g_2 := pz_st g_1 0 6 ((w 0 6) + 1)
        if (g_2 4 (w 0 6).toNatClampNeg) = 6 then
          let g_11 := pz_st g_2 0 13 ((g_2 0 13) + 1)
          (0, g_11, v)
        else
          let r_3 := (f_X2_perform g_2 v (w 0 6)).1
          let g_5 := (f_X2_perform g_2 v (w 0 6)).2.1
          let ph_6 := (f_X2_perform g_2 v (w 0 6)).2.2
          if r_3 = 0 then
            f_fo n g_5 ph_6
          else
            let r_7 := (f_X2_isCaught g_5 ph_6 r_3 (w 0 6)).1
            let g_9 := (f_X2_isCaught g_5 ph_6 r_3 (w 0 6)).2.1
            let ph_10 := (f_X2_isCaught g_5 ph_6 r_3 (w 0 6)).2.2
            if r_7 = 0 then
              (r_3, g_9, ph_10)
            else
              f_fo n g_9 ph_10
      else
        (0, w, v)
def f_X2_followOrder (g : pz_M) (ph : Nat → Option Nat) : Int32 × pz_M × (Nat → Option Nat) := f_fo 81 g ph
set_option maxHeartbeats 4000000 in
set_option maxRecDepth 100000 in
theorem c_X2_followOrder {l : Launch} {dC : Nat → ClassId} {dI : Nat → Nat → Nat} {cl : Nat → ClassId} {ad : Nat → Nat} {ph : Nat → Option Nat} {o : Nat → Int64} {g h : pz_M} (hI : pz_IC 81 g ph) : pz_Mi l dC dI cl yX2_followOrder wsX2_followOrder { frames := 3, cells := 0, slots := 0, locals := 66 } [.ref (ad 0)] (pz_wd ad cl ph o g h) (fun u : pz_M × (Nat → Option Nat) => pz_wd ad cl u.2 o u.1 h) (fun r u => r = (f_X2_followOrder g ph).1 ∧ u = (f_X2_followOrder g ph).2) := by
  intro sz
  refine pr_ofW (Qc := pz_Qi dC dI _ _) (cb := cX2_followOrder) (maxL := 3) (ret := (some .int)) (by decide) rfl (Nat.le_of_ble_eq_true rfl) ?_
  intro p e s m below meth c A ls hx hb hml hr hlocks hts hown hK hP hD hS hA hl
  have hl : lv_has ls 3 [(0, .ref (ad 0))] := hl
  have key : ∀ (n : Nat) (w : pz_M) (v : Nat → Option Nat) (H : Heap) (locs : List Loc) (ls : Array Slot), pz_IC n w v → f_fo n w v = f_fo 81 g ph → va_P (dC, dI) vwCl (pz_wd ad cl v o w h) H → va_D A (pz_wd ad cl v o w h) → va_S A s.heap H locs → lv_has ls 3 [(0, .ref (ad 0))] → W p l e { frames := 3, cells := 0, slots := 0, locals := 66 } s m [.ref (ad 0)].toArray below meth c H locs 0 0 (MQ below (pz_Qi dC dI (fun r u => r = (f_X2_followOrder g ph).1 ∧ u = (f_X2_followOrder g ph).2) (fun u : pz_M × (Nat → Option Nat) => pz_wd ad cl u.2 o u.1 h) A) [.ref (ad 0)].toArray s 0 0 A) (F0 m 0 ls []) := by
    intro n
    induction n with
    | zero => intro w v H locs ls hI; obtain ⟨d, hh, b, -, -, -, q⟩ := hI; omega
    | succ n ih =>
      intro w v H locs ls hI hF hP hD hS hl
      refine lv_aload_n hx hb dX2_followOrder_0 rfl (lv_at hl 0 rfl) ?_
      refine va_get (D := (dC, dI)) (ci := 4) (C := RX2) (T := TX2) (N := 14) hx hb hts inX2_followOrder_X2 hown hK.1 hP 0 pz_a0 rfl 7 (by decide) (hts (.fieldLink RX2 39 "PowderMill" "latestBegun" "I") (by decide +kernel)) (fun _ h9 => h9) rfl dX2_followOrder_1 ?_
      refine lv_bipush (v := 80) hx hb dX2_followOrder_4 (by decide) ?_
      refine lv_icmp_ge (tgt := 91) hx hb dX2_followOrder_6 (by decide) (fun c_6 => ?_) (fun c_6 => ?_)
      · refine lv_aload_n hx hb dX2_followOrder_91 rfl (lv_at hl 0 rfl) ?_
        refine va_get (D := (dC, dI)) (ci := 4) (C := RX2) (T := TX2) (N := 14) hx hb hts inX2_followOrder_X2 hown hK.1 hP 0 pz_a0 rfl 6 (by decide) (hts (.fieldLink RX2 36 "PowderMill" "nextStep" "I") (by decide +kernel)) (fun _ h9 => h9) rfl dX2_followOrder_92 ?_
        refine lv_aload_n hx hb dX2_followOrder_95 rfl (lv_at hl 0 rfl) ?_
        refine va_get (D := (dC, dI)) (ci := 4) (C := RX2) (T := TX2) (N := 14) hx hb hts inX2_followOrder_X2 hown hK.1 hP 0 pz_a0 rfl 5 (by decide) (hts (.fieldLink RX2 32 "PowderMill" "stepCount" "I") (by decide +kernel)) (fun _ h9 => h9) rfl dX2_followOrder_96 ?_
        refine lv_icmp_ge (tgt := 107) hx hb dX2_followOrder_99 (by decide) (fun c_99 => ?_) (fun c_99 => ?_)
        · refine lv_iconst (v := 0) hx hb dX2_followOrder_107 (by decide) ?_
          exact pr_iret (w, v) hx hb hr hlocks hP hD hS dX2_followOrder_108 (by unfold f_X2_followOrder; rw [← hF]; refine ⟨?_, ?_⟩ <;> simp only [f_fo, if_pos c_6, if_pos c_99])
        · refine lv_bipush (v := (-3)) hx hb dX2_followOrder_102 (by decide) ?_
          refine lv_goto (tgt := 108) hx hb dX2_followOrder_104 (by decide) ?_
          exact pr_iret (w, v) hx hb hr hlocks hP hD hS dX2_followOrder_108 (by unfold f_X2_followOrder; rw [← hF]; refine ⟨?_, ?_⟩ <;> simp only [f_fo, if_pos c_6, if_neg c_99])
      · refine lv_aload_n hx hb dX2_followOrder_9 rfl (lv_at hl 0 rfl) ?_
        refine va_get (D := (dC, dI)) (ci := 4) (C := RX2) (T := TX2) (N := 14) hx hb hts inX2_followOrder_X2 hown hK.1 hP 0 pz_a0 rfl 6 (by decide) (hts (.fieldLink RX2 36 "PowderMill" "nextStep" "I") (by decide +kernel)) (fun _ h9 => h9) rfl dX2_followOrder_10 ?_
        refine lv_aload_n hx hb dX2_followOrder_13 rfl (lv_at hl 0 rfl) ?_
        refine va_get (D := (dC, dI)) (ci := 4) (C := RX2) (T := TX2) (N := 14) hx hb hts inX2_followOrder_X2 hown hK.1 hP 0 pz_a0 rfl 5 (by decide) (hts (.fieldLink RX2 32 "PowderMill" "stepCount" "I") (by decide +kernel)) (fun _ h9 => h9) rfl dX2_followOrder_14 ?_
        refine lv_icmp_lt (tgt := 22) hx hb dX2_followOrder_17 (by decide) (fun c_17 => ?_) (fun c_17 => ?_)
        · obtain ⟨i1, -, -⟩ := ps_iterC hI c_6 c_17 rfl
          refine lv_aload_n hx hb dX2_followOrder_22 rfl (lv_at hl 0 rfl) ?_
          refine va_get (D := (dC, dI)) (ci := 4) (C := RX2) (T := TX2) (N := 14) hx hb hts inX2_followOrder_X2 hown hK.1 hP 0 pz_a0 rfl 6 (by decide) (hts (.fieldLink RX2 36 "PowderMill" "nextStep" "I") (by decide +kernel)) (fun _ h9 => h9) rfl dX2_followOrder_23 ?_
          refine lv_istore_n (lv' := [(1, .int (w 0 6)), (0, .ref (ad 0))]) hx hb dX2_followOrder_26 rfl hl (by decide) rfl (fun ls hl => ?_)
          refine lv_aload_n hx hb dX2_followOrder_27 rfl (lv_at hl 1 rfl) ?_
          refine lv_dup hx hb dX2_followOrder_28 rfl ?_
          refine va_get (D := (dC, dI)) (ci := 4) (C := RX2) (T := TX2) (N := 14) hx hb hts inX2_followOrder_X2 hown hK.1 hP 0 pz_a0 rfl 7 (by decide) (hts (.fieldLink RX2 39 "PowderMill" "latestBegun" "I") (by decide +kernel)) (fun _ h9 => h9) rfl dX2_followOrder_29 ?_
          refine lv_iconst (v := 1) hx hb dX2_followOrder_32 (by decide) ?_
          refine lv_iadd hx hb dX2_followOrder_33 ?_
          refine pr_putC (ci := 4) (C := RX2) (T := TX2) (N := 14) (ty := .int) (v := ((w 0 7) + 1)) hx hb hts inX2_followOrder_X2 tyX2 tyX2_ok nmX2 hown hK.1 hP hD hS 0 (by omega) pz_a0 rfl 7 (by decide) (hts (.fieldLink RX2 39 "PowderMill" "latestBegun" "I") (by decide +kernel)) (fun _ h9 => h9) rfl (by decide +kernel) rfl rfl (Nat.le_of_ble_eq_true rfl) rfl dX2_followOrder_34 (fun g_1 H locs e_g_1 hP hD hS => ?_)
          refine lv_aload_n hx hb dX2_followOrder_37 rfl (lv_at hl 1 rfl) ?_
          refine lv_iload_n hx hb dX2_followOrder_38 rfl (lv_at hl 0 rfl) ?_
          refine lv_iconst (v := 1) hx hb dX2_followOrder_39 (by decide) ?_
          refine lv_iadd hx hb dX2_followOrder_40 ?_
          refine pr_putC (ci := 4) (C := RX2) (T := TX2) (N := 14) (ty := .int) (v := ((w 0 6) + 1)) hx hb hts inX2_followOrder_X2 tyX2 tyX2_ok nmX2 hown hK.1 hP hD hS 0 (by omega) pz_a0 rfl 6 (by decide) (hts (.fieldLink RX2 36 "PowderMill" "nextStep" "I") (by decide +kernel)) (fun _ h9 => h9) rfl (by decide +kernel) rfl rfl (Nat.le_of_ble_eq_true rfl) rfl dX2_followOrder_41 (fun g_2 H locs e_g_2 hP hD hS => ?_)
          obtain ⟨-, i2, i3⟩ := ps_iterC hI c_6 c_17 (w2 := g_2) (by subst e_g_2 e_g_1; rfl)
          refine lv_aload_n hx hb dX2_followOrder_44 rfl (lv_at hl 1 rfl) ?_
          refine va_get (D := (dC, dI)) (ci := 4) (C := RX2) (T := TX2) (N := 14) hx hb hts inX2_followOrder_X2 hown hK.1 hP 0 pz_a0 rfl 3 (by decide) (hts (.fieldLink RX2 26 "PowderMill" "acts" "[I") (by decide +kernel)) (fun _ h9 => h9) rfl dX2_followOrder_45 ?_
          refine lv_iload_n hx hb dX2_followOrder_48 rfl (lv_at hl 0 rfl) ?_
          refine va_iald hx hb hK.1 hP 4 0 pz_a4 rfl i1 dX2_followOrder_49 ?_
          refine lv_bipush (v := 6) hx hb dX2_followOrder_50 (by decide) ?_
          refine lv_icmp_ne (tgt := 67) hx hb dX2_followOrder_52 (by decide) (fun c_52 => ?_) (fun c_52 => ?_)
          · obtain ⟨i4, i5, i6, i7⟩ := i3 c_52
            refine lv_aload_n hx hb dX2_followOrder_67 rfl (lv_at hl 1 rfl) ?_
            refine lv_iload_n hx hb dX2_followOrder_68 rfl (lv_at hl 0 rfl) ?_
            refine pr_Vi (As := [.int (w 0 6)]) (rest := []) ⟨hx, hb, hml, hown, hts⟩ (c_X2_perform (w 0 6) i2 i1) (cwV 1 hts gX2_followOrder_X2_perform rfl rfl rfl (by decide +kernel) ⟨Nat.le_of_ble_eq_true rfl, Nat.le_of_ble_eq_true rfl⟩) (va_recv hK.1 hP (ci := 4) rfl pz_a0) hK hP hD hS hA rfl hl.1 rfl (Nat.le_of_ble_eq_true rfl) ⟨Nat.le_of_ble_eq_true rfl, Nat.le_of_ble_eq_true rfl⟩ dX2_followOrder_69 (fun r_3 ⟨g_5, ph_6⟩ H locs e_q_4 hP hD hS => ?_)
            obtain ⟨e_r_3, e_q_4⟩ := e_q_4
            obtain ⟨e_g_5, e_ph_6⟩ : g_5 = (f_X2_perform g_2 v (w 0 6)).2.1 ∧ ph_6 = (f_X2_perform g_2 v (w 0 6)).2.2 := ⟨congrArg Prod.fst e_q_4, congrArg Prod.snd e_q_4⟩
            clear e_q_4
            dsimp only at hP hD
            refine lv_istore_n (lv' := [(2, .int r_3), (1, .int (w 0 6)), (0, .ref (ad 0))]) hx hb dX2_followOrder_72 rfl hl (by decide) rfl (fun ls hl => ?_)
            refine lv_iload_n hx hb dX2_followOrder_73 rfl (lv_at hl 0 rfl) ?_
            refine lv_if_eq (tgt := 88) hx hb dX2_followOrder_74 (by decide) (fun c_74 => ?_) (fun c_74 => ?_)
            · refine lv_goto (tgt := 0) hx hb dX2_followOrder_88 (by decide) ?_
              exact ih g_5 ph_6 _ _ _ (by subst e_ph_6 e_g_5 e_r_3 e_g_2 e_g_1; exact i6 c_74) (by rw [← hF]; subst e_ph_6 e_g_5 e_r_3 e_g_2 e_g_1; simp only [f_fo, if_neg c_6, if_pos c_17, if_neg c_52, if_pos c_74]) hP hD hS (lv_sub hl [2] rfl)
            · refine lv_aload_n hx hb dX2_followOrder_77 rfl (lv_at hl 2 rfl) ?_
              refine lv_iload_n hx hb dX2_followOrder_78 rfl (lv_at hl 0 rfl) ?_
              refine lv_iload_n hx hb dX2_followOrder_79 rfl (lv_at hl 1 rfl) ?_
              refine pr_Vi (As := [.int r_3, .int (w 0 6)]) (rest := []) ⟨hx, hb, hml, hown, hts⟩ (c_X2_isCaught r_3 (w 0 6) (by rw [e_g_5, e_ph_6]; exact i5) (by rw [e_r_3]; exact i4)) (cwV 2 hts gX2_followOrder_X2_isCaught rfl rfl rfl (by decide +kernel) ⟨Nat.le_of_ble_eq_true rfl, Nat.le_of_ble_eq_true rfl⟩) (va_recv hK.1 hP (ci := 4) rfl pz_a0) hK hP hD hS hA rfl hl.1 rfl (Nat.le_of_ble_eq_true rfl) ⟨Nat.le_of_ble_eq_true rfl, Nat.le_of_ble_eq_true rfl⟩ dX2_followOrder_80 (fun r_7 ⟨g_9, ph_10⟩ H locs e_q_8 hP hD hS => ?_)
              obtain ⟨e_r_7, e_q_8⟩ := e_q_8
              obtain ⟨e_g_9, e_ph_10⟩ : g_9 = (f_X2_isCaught g_5 ph_6 r_3 (w 0 6)).2.1 ∧ ph_10 = (f_X2_isCaught g_5 ph_6 r_3 (w 0 6)).2.2 := ⟨congrArg Prod.fst e_q_8, congrArg Prod.snd e_q_8⟩
              clear e_q_8
              dsimp only at hP hD
              refine lv_if_ne (tgt := 88) hx hb dX2_followOrder_83 (by decide) (fun c_83 => ?_) (fun c_83 => ?_)
              · refine lv_goto (tgt := 0) hx hb dX2_followOrder_88 (by decide) ?_
                exact ih g_9 ph_10 _ _ _ (by subst e_ph_10 e_g_9 e_r_7 e_ph_6 e_g_5 e_r_3 e_g_2 e_g_1; exact i7 c_74 c_83) (by rw [← hF]; subst e_ph_10 e_g_9 e_r_7 e_ph_6 e_g_5 e_r_3 e_g_2 e_g_1; simp only [f_fo, if_neg c_6, if_pos c_17, if_neg c_52, if_neg c_74, if_neg c_83]) hP hD hS (lv_sub hl [2] rfl)
              · refine lv_iload_n hx hb dX2_followOrder_86 rfl (lv_at hl 0 rfl) ?_
                exact pr_iret (g_9, ph_10) hx hb hr hlocks hP hD hS dX2_followOrder_87 (by subst e_ph_10 e_g_9 e_r_7 e_ph_6 e_g_5 e_r_3 e_g_2 e_g_1; unfold f_X2_followOrder; rw [← hF]; refine ⟨?_, ?_⟩ <;> simp only [f_fo, if_neg c_6, if_pos c_17, if_neg c_52, if_neg c_74, if_pos c_83])
          · refine lv_aload_n hx hb dX2_followOrder_55 rfl (lv_at hl 1 rfl) ?_
            refine lv_dup hx hb dX2_followOrder_56 rfl ?_
            refine va_get (D := (dC, dI)) (ci := 4) (C := RX2) (T := TX2) (N := 14) hx hb hts inX2_followOrder_X2 hown hK.1 hP 0 pz_a0 rfl 13 (by decide) (hts (.fieldLink RX2 57 "PowderMill" "quitRuns" "I") (by decide +kernel)) (fun _ h9 => h9) rfl dX2_followOrder_57 ?_
            refine lv_iconst (v := 1) hx hb dX2_followOrder_60 (by decide) ?_
            refine lv_iadd hx hb dX2_followOrder_61 ?_
            refine pr_putC (ci := 4) (C := RX2) (T := TX2) (N := 14) (ty := .int) (v := ((g_2 0 13) + 1)) hx hb hts inX2_followOrder_X2 tyX2 tyX2_ok nmX2 hown hK.1 hP hD hS 0 (by omega) pz_a0 rfl 13 (by decide) (hts (.fieldLink RX2 57 "PowderMill" "quitRuns" "I") (by decide +kernel)) (fun _ h9 => h9) rfl (by decide +kernel) rfl rfl (Nat.le_of_ble_eq_true rfl) rfl dX2_followOrder_62 (fun g_11 H locs e_g_11 hP hD hS => ?_)
            refine lv_iconst (v := 0) hx hb dX2_followOrder_65 (by decide) ?_
            exact pr_iret (g_11, v) hx hb hr hlocks hP hD hS dX2_followOrder_66 (by subst e_g_11 e_g_2 e_g_1; unfold f_X2_followOrder; rw [← hF]; refine ⟨?_, ?_⟩ <;> simp only [f_fo, if_neg c_6, if_pos c_17, if_pos c_52])
        · refine lv_iconst (v := 0) hx hb dX2_followOrder_20 (by decide) ?_
          exact pr_iret (w, v) hx hb hr hlocks hP hD hS dX2_followOrder_21 (by unfold f_X2_followOrder; rw [← hF]; refine ⟨?_, ?_⟩ <;> simp only [f_fo, if_neg c_6, if_neg c_17])
  exact key 81 g ph _ _ ls hI rfl hP hD hS hl
