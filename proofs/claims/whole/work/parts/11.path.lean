theorem inX1_leaveDownTo_X0 : ∀ w ∈ u_ws RX0 TX0 8, w ∈ wsX1_leaveDownTo := by decide +kernel
theorem inX1_leaveDownTo_X1 : ∀ w ∈ u_ws RX1 TX1 4, w ∈ wsX1_leaveDownTo := by decide +kernel
def f_ldt (ph : Nat → Option Nat) (a : Int32) : Nat → pz_M → pz_M
  | 0, w => w
  | n + 1, w =>
    if (w 2 3) ≤ a then
      w
    else
      if (w 2 3) ≤ 0 then
        w
      else
        let g_1 := pz_st w (10 + pz_h ph (w 2 3 - 1).toNatClampNeg) 7 ((w (10 + pz_h ph (w 2 3 - 1).toNatClampNeg) 7) - 1)
        let g_2 := pz_st g_1 2 3 ((g_1 2 3) - 1)
        f_ldt ph a n g_2
def f_X1_leaveDownTo (g : pz_M) (ph : Nat → Option Nat) (a : Int32) : pz_M × (Nat → Option Nat) := (f_ldt ph a 7 g, ph)
set_option maxHeartbeats 4000000 in
set_option maxRecDepth 100000 in
theorem c_X1_leaveDownTo {l : Launch} {dC : Nat → ClassId} {dI : Nat → Nat → Nat} {cl : Nat → ClassId} {ad : Nat → Nat} {ph : Nat → Option Nat} {o : Nat → Int64} {g h : pz_M} (a : Int32) (hw : pz_W g ph) : pz_Mv l dC dI cl yX1_leaveDownTo wsX1_leaveDownTo { frames := 0, cells := 0, slots := 0, locals := 0 } [.ref (ad 2), .int a] (pz_wd ad cl ph o g h) (fun u : pz_M × (Nat → Option Nat) => pz_wd ad cl u.2 o u.1 h) (fun u => u = f_X1_leaveDownTo g ph a) := by
  intro sz
  refine pr_ofW (Qc := pz_Qv dC dI _ _) (cb := cX1_leaveDownTo) (maxL := 2) (ret := none) (by decide) rfl (Nat.le_of_ble_eq_true rfl) ?_
  intro p e s m below meth c A ls hx hb hml hr hlocks hts hown hK hP hD hS hA hl
  have hl : lv_has ls 2 [(0, .ref (ad 2)), (1, .int a)] := hl
  have key : ∀ (n : Nat) (w : pz_M) (H : Heap) (locs : List Loc) (ls : Array Slot), (∃ d : Nat, d ≤ 6 ∧ d < n ∧ w 2 3 = nI d ∧ ∀ i, i < d → ∃ k, k < 8 ∧ ph i = some k) → f_ldt ph a n w = f_ldt ph a 7 g → va_P (dC, dI) vwCl (pz_wd ad cl ph o w h) H → va_D A (pz_wd ad cl ph o w h) → va_S A s.heap H locs → lv_has ls 2 [(0, .ref (ad 2)), (1, .int a)] → W p l e { frames := 0, cells := 0, slots := 0, locals := 0 } s m [.ref (ad 2), .int a].toArray below meth c H locs 0 0 (MQ below (pz_Qv dC dI (fun u => u = f_X1_leaveDownTo g ph a) (fun u : pz_M × (Nat → Option Nat) => pz_wd ad cl u.2 o u.1 h) A) [.ref (ad 2), .int a].toArray s 0 0 A) (F0 m 0 ls []) := by
    intro n
    induction n with
    | zero => intro w H locs ls hw; obtain ⟨d, -, h2, -⟩ := hw; omega
    | succ n ih =>
      intro w H locs ls hw hF hP hD hS hl
      refine lv_aload_n hx hb dX1_leaveDownTo_0 rfl (lv_at hl 0 rfl) ?_
      refine va_get (D := (dC, dI)) (ci := 3) (C := RX1) (T := TX1) (N := 4) hx hb hts inX1_leaveDownTo_X1 hown hK.1 hP 2 pz_a2 rfl 3 (by decide) (hts (.fieldLink RX1 24 "PowderMill$Path" "depth" "I") (by decide +kernel)) (fun _ h9 => h9) rfl dX1_leaveDownTo_1 ?_
      refine lv_iload_n hx hb dX1_leaveDownTo_4 rfl (lv_at hl 1 rfl) ?_
      refine lv_icmp_le (tgt := 48) hx hb dX1_leaveDownTo_5 (by decide) (fun c_5 => ?_) (fun c_5 => ?_)
      · exact pr_vret (w, ph) hx hb hr hlocks hP hD hS dX1_leaveDownTo_48 (by show (w, ph) = (f_ldt ph a 7 g, ph); rw [← hF]; simp only [f_ldt, if_pos c_5])
      · refine lv_aload_n hx hb dX1_leaveDownTo_8 rfl (lv_at hl 0 rfl) ?_
        refine va_get (D := (dC, dI)) (ci := 3) (C := RX1) (T := TX1) (N := 4) hx hb hts inX1_leaveDownTo_X1 hown hK.1 hP 2 pz_a2 rfl 3 (by decide) (hts (.fieldLink RX1 24 "PowderMill$Path" "depth" "I") (by decide +kernel)) (fun _ h9 => h9) rfl dX1_leaveDownTo_9 ?_
        refine lv_if_le (tgt := 48) hx hb dX1_leaveDownTo_12 (by decide) (fun c_12 => ?_) (fun c_12 => ?_)
        · exact pr_vret (w, ph) hx hb hr hlocks hP hD hS dX1_leaveDownTo_48 (by show (w, ph) = (f_ldt ph a 7 g, ph); rw [← hF]; simp only [f_ldt, if_neg c_5, if_pos c_12])
        · obtain ⟨i1, i2, i3⟩ := pz_W0 hw c_12
          refine lv_aload_n hx hb dX1_leaveDownTo_15 rfl (lv_at hl 0 rfl) ?_
          refine va_get (D := (dC, dI)) (ci := 3) (C := RX1) (T := TX1) (N := 4) hx hb hts inX1_leaveDownTo_X1 hown hK.1 hP 2 pz_a2 rfl 0 (by decide) (hts (.fieldLink RX1 11 "PowderMill$Path" "houses" "[LPowderMill$House;") (by decide +kernel)) (fun _ h9 => h9) rfl dX1_leaveDownTo_16 ?_
          refine lv_aload_n hx hb dX1_leaveDownTo_19 rfl (lv_at hl 0 rfl) ?_
          refine va_get (D := (dC, dI)) (ci := 3) (C := RX1) (T := TX1) (N := 4) hx hb hts inX1_leaveDownTo_X1 hown hK.1 hP 2 pz_a2 rfl 3 (by decide) (hts (.fieldLink RX1 24 "PowderMill$Path" "depth" "I") (by decide +kernel)) (fun _ h9 => h9) rfl dX1_leaveDownTo_20 ?_
          refine lv_iconst (v := 1) hx hb dX1_leaveDownTo_23 (by decide) ?_
          refine lv_isub hx hb dX1_leaveDownTo_24 ?_
          refine pr_stay hx hb hK.1 hP (k := (pz_h ph (w 2 3 - 1).toNatClampNeg)) i2 i1 dX1_leaveDownTo_25 ?_
          refine lv_dup hx hb dX1_leaveDownTo_26 rfl ?_
          refine va_getN (D := (dC, dI)) (ci := 2) (C := RX0) (T := TX0) (N := 8) hx hb hts inX1_leaveDownTo_X0 hown hK.1 hP (10 + pz_h ph (w 2 3 - 1).toNatClampNeg) (pz_aH i3) rfl 7 (by decide) (va_Nw.use rfl hK.2.2.2.2.1) (fun _ h9 => h9) rfl dX1_leaveDownTo_27 ?_
          refine lv_iconst (v := 1) hx hb dX1_leaveDownTo_30 (by decide) ?_
          refine lv_isub hx hb dX1_leaveDownTo_31 ?_
          refine pr_putN (ci := 2) (C := RX0) (T := TX0) (N := 8) (ty := .int) (v := ((w (10 + pz_h ph (w 2 3 - 1).toNatClampNeg) 7) - 1)) hx hb hts inX1_leaveDownTo_X0 tyX0 tyX0_ok nmX0 hown hK.1 hP hD hS (10 + pz_h ph (w 2 3 - 1).toNatClampNeg) (by have := i3; omega) (pz_aH i3) rfl 7 (by decide) (va_Nw.use rfl hK.2.2.2.2.1) (fun _ h9 => h9) rfl (by decide +kernel) rfl rfl (Nat.le_of_ble_eq_true rfl) (by rw [pz_ceH i3]; rfl) dX1_leaveDownTo_32 (fun g_1 H locs e_g_1 hP hD hS => ?_)
          refine lv_aload_n hx hb dX1_leaveDownTo_35 rfl (lv_at hl 0 rfl) ?_
          refine lv_dup hx hb dX1_leaveDownTo_36 rfl ?_
          refine va_get (D := (dC, dI)) (ci := 3) (C := RX1) (T := TX1) (N := 4) hx hb hts inX1_leaveDownTo_X1 hown hK.1 hP 2 pz_a2 rfl 3 (by decide) (hts (.fieldLink RX1 24 "PowderMill$Path" "depth" "I") (by decide +kernel)) (fun _ h9 => h9) rfl dX1_leaveDownTo_37 ?_
          refine lv_iconst (v := 1) hx hb dX1_leaveDownTo_40 (by decide) ?_
          refine lv_isub hx hb dX1_leaveDownTo_41 ?_
          refine pr_putC (ci := 3) (C := RX1) (T := TX1) (N := 4) (ty := .int) (v := ((g_1 2 3) - 1)) hx hb hts inX1_leaveDownTo_X1 tyX1 tyX1_ok nmX1 hown hK.1 hP hD hS 2 (by omega) pz_a2 rfl 3 (by decide) (hts (.fieldLink RX1 24 "PowderMill$Path" "depth" "I") (by decide +kernel)) (fun _ h9 => h9) rfl (by decide +kernel) rfl rfl (Nat.le_of_ble_eq_true rfl) rfl dX1_leaveDownTo_42 (fun g_2 H locs e_g_2 hP hD hS => ?_)
          refine lv_goto (tgt := 0) hx hb dX1_leaveDownTo_45 (by decide) ?_
          exact ih g_2 _ _ _ (pz_Wd hw c_12 (by subst e_g_2 e_g_1; rw [pz_st_s, pk_us, pz_st_n (by omega)])) (by rw [← hF]; subst e_g_2 e_g_1; simp only [f_ldt, if_neg c_5, if_neg c_12]) hP hD hS hl
  exact key 7 g _ _ ls (pz_Wv hw) rfl hP hD hS hl
theorem inX1_leaveHere_X1 : ∀ w ∈ u_ws RX1 TX1 4, w ∈ wsX1_leaveHere := by decide +kernel
def f_X1_leaveHere (g : pz_M) (ph : Nat → Option Nat) : pz_M × (Nat → Option Nat) :=
  let g_3 := (f_X1_leaveDownTo g ph ((g 2 3) - 1)).1
  let ph_4 := (f_X1_leaveDownTo g ph ((g 2 3) - 1)).2
  (g_3, ph_4)
set_option maxHeartbeats 4000000 in
set_option maxRecDepth 100000 in
theorem c_X1_leaveHere {l : Launch} {dC : Nat → ClassId} {dI : Nat → Nat → Nat} {cl : Nat → ClassId} {ad : Nat → Nat} {ph : Nat → Option Nat} {o : Nat → Int64} {g h : pz_M} (hw : pz_W g ph) : pz_Mv l dC dI cl yX1_leaveHere wsX1_leaveHere { frames := 1, cells := 0, slots := 0, locals := 21 } [.ref (ad 2)] (pz_wd ad cl ph o g h) (fun u : pz_M × (Nat → Option Nat) => pz_wd ad cl u.2 o u.1 h) (fun u => u = f_X1_leaveHere g ph) := by
  intro sz
  refine pr_ofW (Qc := pz_Qv dC dI _ _) (cb := cX1_leaveHere) (maxL := 1) (ret := none) (by decide) rfl (Nat.le_of_ble_eq_true rfl) ?_
  intro p e s m below meth c A ls hx hb hml hr hlocks hts hown hK hP hD hS hA hl
  have hl : lv_has ls 1 [(0, .ref (ad 2))] := hl
  refine lv_aload_n hx hb dX1_leaveHere_0 rfl (lv_at hl 0 rfl) ?_
  refine lv_aload_n hx hb dX1_leaveHere_1 rfl (lv_at hl 0 rfl) ?_
  refine va_get (D := (dC, dI)) (ci := 3) (C := RX1) (T := TX1) (N := 4) hx hb hts inX1_leaveHere_X1 hown hK.1 hP 2 pz_a2 rfl 3 (by decide) (hts (.fieldLink RX1 24 "PowderMill$Path" "depth" "I") (by decide +kernel)) (fun _ h9 => h9) rfl dX1_leaveHere_2 ?_
  refine lv_iconst (v := 1) hx hb dX1_leaveHere_5 (by decide) ?_
  refine lv_isub hx hb dX1_leaveHere_6 ?_
  refine pr_Vv (As := [.int ((g 2 3) - 1)]) (rest := []) ⟨hx, hb, hml, hown, hts⟩ (c_X1_leaveDownTo ((g 2 3) - 1) hw) (cwV 1 hts gX1_leaveHere_X1_leaveDownTo rfl rfl rfl (by decide +kernel) ⟨Nat.le_of_ble_eq_true rfl, Nat.le_of_ble_eq_true rfl⟩) (va_recv hK.1 hP (ci := 3) rfl pz_a2) hK hP hD hS hA rfl hl.1 rfl (Nat.le_of_ble_eq_true rfl) ⟨Nat.le_of_ble_eq_true rfl, Nat.le_of_ble_eq_true rfl⟩ dX1_leaveHere_7 (fun ⟨g_3, ph_4⟩ H locs e_q_2 hP hD hS => ?_)
  obtain ⟨e_g_3, e_ph_4⟩ : g_3 = (f_X1_leaveDownTo g ph ((g 2 3) - 1)).1 ∧ ph_4 = (f_X1_leaveDownTo g ph ((g 2 3) - 1)).2 := ⟨congrArg Prod.fst e_q_2, congrArg Prod.snd e_q_2⟩
  clear e_q_2
  dsimp only at hP hD
  exact pr_vret (g_3, ph_4) hx hb hr hlocks hP hD hS dX1_leaveHere_10 (by subst e_ph_4 e_g_3; (simp only [f_X1_leaveHere] <;> rfl))
theorem inX1_leaveByRefuge_X0 : ∀ w ∈ u_ws RX0 TX0 8, w ∈ wsX1_leaveByRefuge := by decide +kernel
theorem inX1_leaveByRefuge_X1 : ∀ w ∈ u_ws RX1 TX1 4, w ∈ wsX1_leaveByRefuge := by decide +kernel
def f_lbr (g : pz_M) (ph : Nat → Option Nat) : Nat → Int32 → Int32 × pz_M × (Nat → Option Nat)
  | 0, _ => (0, g, ph)
  | n + 1, i =>
    if i < 0 then
      (0, g, ph)
    else
      if (g (10 + pz_h ph i.toNatClampNeg) 3) = 0 then
        f_lbr g ph n (i + (-1))
      else
        let g_1 := pz_st g (10 + pz_h ph i.toNatClampNeg) 6 ((g (10 + pz_h ph i.toNatClampNeg) 6) + 1)
        let g_4 := (f_X1_leaveDownTo g_1 ph i).1
        let ph_5 := (f_X1_leaveDownTo g_1 ph i).2
        (1, g_4, ph_5)
def f_X1_leaveByRefuge (g : pz_M) (ph : Nat → Option Nat) : Int32 × pz_M × (Nat → Option Nat) := f_lbr g ph 8 (g 2 3 - 1)
set_option maxHeartbeats 4000000 in
set_option maxRecDepth 100000 in
theorem c_X1_leaveByRefuge {l : Launch} {dC : Nat → ClassId} {dI : Nat → Nat → Nat} {cl : Nat → ClassId} {ad : Nat → Nat} {ph : Nat → Option Nat} {o : Nat → Int64} {g h : pz_M} (hw : pz_W g ph) : pz_Mi l dC dI cl yX1_leaveByRefuge wsX1_leaveByRefuge { frames := 1, cells := 0, slots := 0, locals := 21 } [.ref (ad 2)] (pz_wd ad cl ph o g h) (fun u : pz_M × (Nat → Option Nat) => pz_wd ad cl u.2 o u.1 h) (fun r u => r = (f_X1_leaveByRefuge g ph).1 ∧ u = (f_X1_leaveByRefuge g ph).2) := by
  intro sz
  refine pr_ofW (Qc := pz_Qi dC dI _ _) (cb := cX1_leaveByRefuge) (maxL := 2) (ret := (some .boolean)) (by decide) rfl (Nat.le_of_ble_eq_true rfl) ?_
  intro p e s m below meth c A ls hx hb hml hr hlocks hts hown hK hP hD hS hA hl
  have hl : lv_has ls 2 [(0, .ref (ad 2))] := hl
  obtain ⟨d, hd6, hd, hs⟩ := hw
  have key : ∀ (n : Nat) (i : Int32) (j : Nat) (H : Heap) (locs : List Loc) (ls : Array Slot), j ≤ d → j < n → i + 1 = nI j → f_lbr g ph n i = f_lbr g ph 8 (g 2 3 - 1) → va_P (dC, dI) vwCl (pz_wd ad cl ph o g h) H → va_D A (pz_wd ad cl ph o g h) → va_S A s.heap H locs → lv_has ls 2 [(0, .ref (ad 2)), (1, .int i)] → W p l e { frames := 1, cells := 0, slots := 0, locals := 21 } s m [.ref (ad 2)].toArray below meth c H locs 0 0 (MQ below (pz_Qi dC dI (fun r u => r = (f_X1_leaveByRefuge g ph).1 ∧ u = (f_X1_leaveByRefuge g ph).2) (fun u : pz_M × (Nat → Option Nat) => pz_wd ad cl u.2 o u.1 h) A) [.ref (ad 2)].toArray s 0 0 A) (F0 m 7 ls []) := by
    intro n
    induction n with
    | zero => intro i j H locs ls h1 h2; omega
    | succ n ih =>
      intro i j H locs ls hjd hjn hi hF hP hD hS hl
      refine lv_iload_n hx hb dX1_leaveByRefuge_7 rfl (lv_at hl 1 rfl) ?_
      refine lv_if_lt (tgt := 51) hx hb dX1_leaveByRefuge_8 (by decide) (fun c_8 => ?_) (fun c_8 => ?_)
      · refine lv_iconst (v := 0) hx hb dX1_leaveByRefuge_51 (by decide) ?_
        exact pr_zret (g, ph) hx hb hr hlocks (by decide) hP hD hS dX1_leaveByRefuge_52 (by refine ⟨?_, ?_⟩ <;> (show _ = _; unfold f_X1_leaveByRefuge; rw [← hF]; simp only [f_lbr, if_pos c_8]))
      · obtain ⟨j1, j2, j3⟩ := pz_j1 (by omega) hi c_8
        have i1 : vp_in i 6 := by rw [j2]; exact vp_in_nI (by omega) (by decide)
        obtain ⟨i2, i3⟩ := pz_Wi (g := g) hs (show j - 1 < d by omega)
        rw [← j3] at i2 i3
        refine lv_aload_n hx hb dX1_leaveByRefuge_11 rfl (lv_at hl 0 rfl) ?_
        refine va_get (D := (dC, dI)) (ci := 3) (C := RX1) (T := TX1) (N := 4) hx hb hts inX1_leaveByRefuge_X1 hown hK.1 hP 2 pz_a2 rfl 0 (by decide) (hts (.fieldLink RX1 11 "PowderMill$Path" "houses" "[LPowderMill$House;") (by decide +kernel)) (fun _ h9 => h9) rfl dX1_leaveByRefuge_12 ?_
        refine lv_iload_n hx hb dX1_leaveByRefuge_15 rfl (lv_at hl 1 rfl) ?_
        refine pr_stay hx hb hK.1 hP (k := (pz_h ph i.toNatClampNeg)) i2 i1 dX1_leaveByRefuge_16 ?_
        refine va_getN (D := (dC, dI)) (ci := 2) (C := RX0) (T := TX0) (N := 8) hx hb hts inX1_leaveByRefuge_X0 hown hK.1 hP (10 + pz_h ph i.toNatClampNeg) (pz_aH i3) rfl 3 (by decide) (va_Nw.use rfl hK.2.2.2.2.2.1) (fun _ h9 => h9) rfl dX1_leaveByRefuge_17 ?_
        refine lv_if_eq (tgt := 45) hx hb dX1_leaveByRefuge_20 (by decide) (fun c_20 => ?_) (fun c_20 => ?_)
        · refine lv_iinc (v := i + (-1)) (lv' := [(1, .int (i + (-1))), (0, .ref (ad 2))]) hx hb dX1_leaveByRefuge_45 hl (k := 1) rfl (by rfl) (by decide) rfl (fun ls hl => ?_)
          refine lv_goto (tgt := 7) hx hb dX1_leaveByRefuge_48 (by decide) ?_
          exact ih (i + (-1)) (j - 1) _ _ _ (by omega) (by omega) (pz_j2 (by omega) hi c_8) (by rw [← hF]; simp only [f_lbr, if_neg c_8, if_pos c_20]) hP hD hS (lv_sub hl [1, 0] rfl)
        · refine lv_aload_n hx hb dX1_leaveByRefuge_23 rfl (lv_at hl 0 rfl) ?_
          refine va_get (D := (dC, dI)) (ci := 3) (C := RX1) (T := TX1) (N := 4) hx hb hts inX1_leaveByRefuge_X1 hown hK.1 hP 2 pz_a2 rfl 0 (by decide) (hts (.fieldLink RX1 11 "PowderMill$Path" "houses" "[LPowderMill$House;") (by decide +kernel)) (fun _ h9 => h9) rfl dX1_leaveByRefuge_24 ?_
          refine lv_iload_n hx hb dX1_leaveByRefuge_27 rfl (lv_at hl 1 rfl) ?_
          refine pr_stay hx hb hK.1 hP (k := (pz_h ph i.toNatClampNeg)) i2 i1 dX1_leaveByRefuge_28 ?_
          refine lv_dup hx hb dX1_leaveByRefuge_29 rfl ?_
          refine va_getN (D := (dC, dI)) (ci := 2) (C := RX0) (T := TX0) (N := 8) hx hb hts inX1_leaveByRefuge_X0 hown hK.1 hP (10 + pz_h ph i.toNatClampNeg) (pz_aH i3) rfl 6 (by decide) (va_Nw.use rfl hK.2.2.2.2.2.2) (fun _ h9 => h9) rfl dX1_leaveByRefuge_30 ?_
          refine lv_iconst (v := 1) hx hb dX1_leaveByRefuge_33 (by decide) ?_
          refine lv_iadd hx hb dX1_leaveByRefuge_34 ?_
          refine pr_putN (ci := 2) (C := RX0) (T := TX0) (N := 8) (ty := .int) (v := ((g (10 + pz_h ph i.toNatClampNeg) 6) + 1)) hx hb hts inX1_leaveByRefuge_X0 tyX0 tyX0_ok nmX0 hown hK.1 hP hD hS (10 + pz_h ph i.toNatClampNeg) (by have := i3; omega) (pz_aH i3) rfl 6 (by decide) (va_Nw.use rfl hK.2.2.2.2.2.2) (fun _ h9 => h9) rfl (by decide +kernel) rfl rfl (Nat.le_of_ble_eq_true rfl) (by rw [pz_ceH i3]; rfl) dX1_leaveByRefuge_35 (fun g_1 H locs e_g_1 hP hD hS => ?_)
          refine lv_aload_n hx hb dX1_leaveByRefuge_38 rfl (lv_at hl 0 rfl) ?_
          refine lv_iload_n hx hb dX1_leaveByRefuge_39 rfl (lv_at hl 1 rfl) ?_
          refine pr_Vv (As := [.int i]) (rest := []) ⟨hx, hb, hml, hown, hts⟩ (c_X1_leaveDownTo i (show pz_W g_1 ph from ⟨d, hd6, by subst e_g_1; rw [pz_st_n (by omega)]; exact hd, hs⟩)) (cwV 1 hts gX1_leaveByRefuge_X1_leaveDownTo rfl rfl rfl (by decide +kernel) ⟨Nat.le_of_ble_eq_true rfl, Nat.le_of_ble_eq_true rfl⟩) (va_recv hK.1 hP (ci := 3) rfl pz_a2) hK hP hD hS hA rfl hl.1 rfl (Nat.le_of_ble_eq_true rfl) ⟨Nat.le_of_ble_eq_true rfl, Nat.le_of_ble_eq_true rfl⟩ dX1_leaveByRefuge_40 (fun ⟨g_4, ph_5⟩ H locs e_q_3 hP hD hS => ?_)
          obtain ⟨e_g_4, e_ph_5⟩ : g_4 = (f_X1_leaveDownTo g_1 ph i).1 ∧ ph_5 = (f_X1_leaveDownTo g_1 ph i).2 := ⟨congrArg Prod.fst e_q_3, congrArg Prod.snd e_q_3⟩
          clear e_q_3
          dsimp only at hP hD
          refine lv_iconst (v := 1) hx hb dX1_leaveByRefuge_43 (by decide) ?_
          exact pr_zret (g_4, ph_5) hx hb hr hlocks (by decide) hP hD hS dX1_leaveByRefuge_44 (by subst e_ph_5 e_g_4 e_g_1; refine ⟨?_, ?_⟩ <;> (show _ = _; unfold f_X1_leaveByRefuge; rw [← hF]; simp only [f_lbr, if_neg c_8, if_neg c_20] <;> rfl))
  refine lv_aload_n hx hb dX1_leaveByRefuge_0 rfl (lv_at hl 0 rfl) ?_
  refine va_get (D := (dC, dI)) (ci := 3) (C := RX1) (T := TX1) (N := 4) hx hb hts inX1_leaveByRefuge_X1 hown hK.1 hP 2 pz_a2 rfl 3 (by decide) (hts (.fieldLink RX1 24 "PowderMill$Path" "depth" "I") (by decide +kernel)) (fun _ h9 => h9) rfl dX1_leaveByRefuge_1 ?_
  refine lv_iconst (v := 1) hx hb dX1_leaveByRefuge_4 (by decide) ?_
  refine lv_isub hx hb dX1_leaveByRefuge_5 ?_
  refine lv_istore_n (lv' := [(1, .int ((g 2 3) - 1)), (0, .ref (ad 2))]) hx hb dX1_leaveByRefuge_6 rfl hl (by decide) rfl (fun ls hl => ?_)
  exact key 8 (g 2 3 - 1) d _ _ _ (Nat.le_refl d) (by omega) (by rw [hd]; simp) rfl hP hD hS (lv_sub hl [1, 0] rfl)
theorem inX1_stepBehindAgain_X1 : ∀ w ∈ u_ws RX1 TX1 4, w ∈ wsX1_stepBehindAgain := by decide +kernel
def f_X1_stepBehindAgain (g : pz_M) (ph : Nat → Option Nat) (a : Int32) (b : Int32) : Int32 × pz_M × (Nat → Option Nat) :=
  if (g 2 3) = 0 then
    (b, g, ph)
  else
    if (g 9 ((g 2 3) - 1).toNatClampNeg) < a then
      let g_1 := pz_st g 9 ((g 2 3) - 1).toNatClampNeg ((g 9 ((g 2 3) - 1).toNatClampNeg) + 1)
      ((g_1 8 ((g_1 2 3) - 1).toNatClampNeg) + 1, g_1, ph)
    else
      (b, g, ph)
set_option maxHeartbeats 4000000 in
set_option maxRecDepth 100000 in
theorem c_X1_stepBehindAgain {l : Launch} {dC : Nat → ClassId} {dI : Nat → Nat → Nat} {cl : Nat → ClassId} {ad : Nat → Nat} {ph : Nat → Option Nat} {o : Nat → Int64} {g h : pz_M} (a : Int32) (b : Int32) (hi : ¬ g 2 3 = 0 → vp_in (g 2 3 - 1) 6) : pz_Mi l dC dI cl yX1_stepBehindAgain wsX1_stepBehindAgain { frames := 0, cells := 0, slots := 0, locals := 0 } [.ref (ad 2), .int a, .int b] (pz_wd ad cl ph o g h) (fun u : pz_M × (Nat → Option Nat) => pz_wd ad cl u.2 o u.1 h) (fun r u => r = (f_X1_stepBehindAgain g ph a b).1 ∧ u = (f_X1_stepBehindAgain g ph a b).2) := by
  intro sz
  refine pr_ofW (Qc := pz_Qi dC dI _ _) (cb := cX1_stepBehindAgain) (maxL := 3) (ret := (some .int)) (by decide) rfl (Nat.le_of_ble_eq_true rfl) ?_
  intro p e s m below meth c A ls hx hb hml hr hlocks hts hown hK hP hD hS hA hl
  have hl : lv_has ls 3 [(0, .ref (ad 2)), (1, .int a), (2, .int b)] := hl
  refine lv_aload_n hx hb dX1_stepBehindAgain_0 rfl (lv_at hl 0 rfl) ?_
  refine va_get (D := (dC, dI)) (ci := 3) (C := RX1) (T := TX1) (N := 4) hx hb hts inX1_stepBehindAgain_X1 hown hK.1 hP 2 pz_a2 rfl 3 (by decide) (hts (.fieldLink RX1 24 "PowderMill$Path" "depth" "I") (by decide +kernel)) (fun _ h9 => h9) rfl dX1_stepBehindAgain_1 ?_
  refine lv_if_eq (tgt := 22) hx hb dX1_stepBehindAgain_4 (by decide) (fun c_4 => ?_) (fun c_4 => ?_)
  · refine lv_iload_n hx hb dX1_stepBehindAgain_22 rfl (lv_at hl 2 rfl) ?_
    exact pr_iret (g, ph) hx hb hr hlocks hP hD hS dX1_stepBehindAgain_23 (by refine ⟨?_, ?_⟩ <;> (simp only [f_X1_stepBehindAgain, if_pos c_4] <;> rfl))
  · refine lv_aload_n hx hb dX1_stepBehindAgain_7 rfl (lv_at hl 0 rfl) ?_
    refine va_get (D := (dC, dI)) (ci := 3) (C := RX1) (T := TX1) (N := 4) hx hb hts inX1_stepBehindAgain_X1 hown hK.1 hP 2 pz_a2 rfl 2 (by decide) (hts (.fieldLink RX1 21 "PowderMill$Path" "timesBack" "[I") (by decide +kernel)) (fun _ h9 => h9) rfl dX1_stepBehindAgain_8 ?_
    refine lv_aload_n hx hb dX1_stepBehindAgain_11 rfl (lv_at hl 0 rfl) ?_
    refine va_get (D := (dC, dI)) (ci := 3) (C := RX1) (T := TX1) (N := 4) hx hb hts inX1_stepBehindAgain_X1 hown hK.1 hP 2 pz_a2 rfl 3 (by decide) (hts (.fieldLink RX1 24 "PowderMill$Path" "depth" "I") (by decide +kernel)) (fun _ h9 => h9) rfl dX1_stepBehindAgain_12 ?_
    refine lv_iconst (v := 1) hx hb dX1_stepBehindAgain_15 (by decide) ?_
    refine lv_isub hx hb dX1_stepBehindAgain_16 ?_
    refine va_iald hx hb hK.1 hP 9 0 pz_a9 rfl (hi c_4) dX1_stepBehindAgain_17 ?_
    refine lv_iload_n hx hb dX1_stepBehindAgain_18 rfl (lv_at hl 1 rfl) ?_
    refine lv_icmp_lt (tgt := 24) hx hb dX1_stepBehindAgain_19 (by decide) (fun c_19 => ?_) (fun c_19 => ?_)
    · refine lv_aload_n hx hb dX1_stepBehindAgain_24 rfl (lv_at hl 0 rfl) ?_
      refine va_get (D := (dC, dI)) (ci := 3) (C := RX1) (T := TX1) (N := 4) hx hb hts inX1_stepBehindAgain_X1 hown hK.1 hP 2 pz_a2 rfl 2 (by decide) (hts (.fieldLink RX1 21 "PowderMill$Path" "timesBack" "[I") (by decide +kernel)) (fun _ h9 => h9) rfl dX1_stepBehindAgain_25 ?_
      refine lv_aload_n hx hb dX1_stepBehindAgain_28 rfl (lv_at hl 0 rfl) ?_
      refine va_get (D := (dC, dI)) (ci := 3) (C := RX1) (T := TX1) (N := 4) hx hb hts inX1_stepBehindAgain_X1 hown hK.1 hP 2 pz_a2 rfl 3 (by decide) (hts (.fieldLink RX1 24 "PowderMill$Path" "depth" "I") (by decide +kernel)) (fun _ h9 => h9) rfl dX1_stepBehindAgain_29 ?_
      refine lv_iconst (v := 1) hx hb dX1_stepBehindAgain_32 (by decide) ?_
      refine lv_isub hx hb dX1_stepBehindAgain_33 ?_
      refine lv_dup2_11 hx hb dX1_stepBehindAgain_34 rfl rfl ?_
      refine va_iald hx hb hK.1 hP 9 0 pz_a9 rfl (hi c_4) dX1_stepBehindAgain_35 ?_
      refine lv_iconst (v := 1) hx hb dX1_stepBehindAgain_36 (by decide) ?_
      refine lv_iadd hx hb dX1_stepBehindAgain_37 ?_
      refine pr_iastC hx hb hK.1 hP hD hS 9 (by omega) pz_a9 (fun _ => rfl) (hi c_4) dX1_stepBehindAgain_38 (fun g_1 H locs e_g_1 hP hD hS => ?_)
      refine lv_aload_n hx hb dX1_stepBehindAgain_39 rfl (lv_at hl 0 rfl) ?_
      refine va_get (D := (dC, dI)) (ci := 3) (C := RX1) (T := TX1) (N := 4) hx hb hts inX1_stepBehindAgain_X1 hown hK.1 hP 2 pz_a2 rfl 1 (by decide) (hts (.fieldLink RX1 17 "PowderMill$Path" "inSteps" "[I") (by decide +kernel)) (fun _ h9 => h9) rfl dX1_stepBehindAgain_40 ?_
      refine lv_aload_n hx hb dX1_stepBehindAgain_43 rfl (lv_at hl 0 rfl) ?_
      refine va_get (D := (dC, dI)) (ci := 3) (C := RX1) (T := TX1) (N := 4) hx hb hts inX1_stepBehindAgain_X1 hown hK.1 hP 2 pz_a2 rfl 3 (by decide) (hts (.fieldLink RX1 24 "PowderMill$Path" "depth" "I") (by decide +kernel)) (fun _ h9 => h9) rfl dX1_stepBehindAgain_44 ?_
      refine lv_iconst (v := 1) hx hb dX1_stepBehindAgain_47 (by decide) ?_
      refine lv_isub hx hb dX1_stepBehindAgain_48 ?_
      refine va_iald hx hb hK.1 hP 8 0 pz_a8 rfl (by subst e_g_1; rw [pz_st_n (by decide)]; exact hi c_4) dX1_stepBehindAgain_49 ?_
      refine lv_iconst (v := 1) hx hb dX1_stepBehindAgain_50 (by decide) ?_
      refine lv_iadd hx hb dX1_stepBehindAgain_51 ?_
      exact pr_iret (g_1, ph) hx hb hr hlocks hP hD hS dX1_stepBehindAgain_52 (by subst e_g_1; refine ⟨?_, ?_⟩ <;> (simp only [f_X1_stepBehindAgain, if_neg c_4, if_pos c_19] <;> rfl))
    · refine lv_iload_n hx hb dX1_stepBehindAgain_22 rfl (lv_at hl 2 rfl) ?_
      exact pr_iret (g, ph) hx hb hr hlocks hP hD hS dX1_stepBehindAgain_23 (by refine ⟨?_, ?_⟩ <;> (simp only [f_X1_stepBehindAgain, if_neg c_4, if_neg c_19] <;> rfl))
