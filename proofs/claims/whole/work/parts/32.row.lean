/-! row: it may throw; and the law's own method that catches it -/
abbrev pz_tx : String := "there is no such row"
abbrev pz_ns : List String := ["java/lang/IndexOutOfBoundsException", "java/lang/RuntimeException", "java/lang/Exception"]
def wsQ_row : List Cond := wsX2_row ++ [.methodLink RX2 95 yJx00060_init_a7421]
def wsR_row : List Cond := wsL_row ++ [.methodLink RX2 95 yJx00060_init_a7421]
theorem inQ_row_X2 : ∀ w ∈ u_ws RX2 TX2 14, w ∈ wsQ_row := by decide +kernel
theorem gQ_row_X2_isRow : GoodIn wsQ_row (va_wsS RX2 88 yX2_isRow wsX2_isRow) := fun w h => ⟨List.mem_append_left _ (gX2_row_X2_isRow w h).1, (gX2_row_X2_isRow w h).2⟩
theorem gR_row_X2_row : GoodIn wsR_row (wsV RL 7 RX2 yX2_row wsQ_row) := by
  intro w h
  have h' : w ∈ wsV RL 7 RX2 yX2_row wsX2_row ∨ w ∈ ([.methodLink RX2 95 yJx00060_init_a7421] : List Cond) := by
    unfold wsV wsQ_row at h
    unfold wsV
    rcases List.mem_append.mp h with h | h
    · exact Or.inl (List.mem_append_left _ h)
    · rcases List.mem_append.mp h with h | h
      · exact Or.inl (List.mem_append_right _ h)
      · exact Or.inr h
  rcases h' with h' | h'
  · exact ⟨List.mem_append_left _ (gL_row_X2_row w h').1, (gL_row_X2_row w h').2⟩
  · refine ⟨List.mem_append_right _ h', ?_⟩
    rw [List.mem_singleton.mp h']
    exact good_of_word (by decide +kernel)
theorem pz_own1 : ∀ w ∈ (vx_atS RX2 95 RJx00060 pz_ns).filter goodWord, w ∈ wsQ_row := by decide +kernel
def pz_Bd : List Cond := [.declares ⟨"java/lang/IndexOutOfBoundsException", "<init>", "(Ljava/lang/String;)V"⟩, .declares ⟨"java/lang/RuntimeException", "<init>", "(Ljava/lang/String;)V"⟩, .declares ⟨"java/lang/Exception", "<init>", "(Ljava/lang/String;)V"⟩, .declares ⟨"java/lang/Throwable", "<init>", "(Ljava/lang/String;)V"⟩, .castable RJx00060 RJx00060]
theorem pz_own2 : ∀ w ∈ (vx_atS RX2 95 RJx00060 pz_ns).filter (fun w => !goodWord w), w ∈ pz_Bd := by decide +kernel
theorem pz_Bd_tbl : ∀ w ∈ pz_Bd, w ∈ lw_tbl := by decide +kernel
def pz_N5 (U : State) : Prop := va_Nw (.declares ⟨"java/lang/IndexOutOfBoundsException", "<init>", "(Ljava/lang/String;)V"⟩) U ∧ va_Nw (.declares ⟨"java/lang/RuntimeException", "<init>", "(Ljava/lang/String;)V"⟩) U ∧ va_Nw (.declares ⟨"java/lang/Exception", "<init>", "(Ljava/lang/String;)V"⟩) U ∧ va_Nw (.declares ⟨"java/lang/Throwable", "<init>", "(Ljava/lang/String;)V"⟩) U ∧ va_Nw (.castable RJx00060 RJx00060) U
theorem pz_N5.same {u U : State} (h : u.vm = U.vm) (z : pz_N5 u) : pz_N5 U := ⟨va_Nw.same rfl h z.1, va_Nw.same rfl h z.2.1, va_Nw.same rfl h z.2.2.1, va_Nw.same rfl h z.2.2.2.1, va_Nw.same rfl h z.2.2.2.2⟩
theorem pz_N5.warm {s U : State} (hW : s.WarmedH U.vm) (z : pz_N5 s) : pz_N5 U := ⟨va_Nw.warmD hW z.1, va_Nw.warmD hW z.2.1, va_Nw.warmD hW z.2.2.1, va_Nw.warmD hW z.2.2.2.1, va_Nw.warmC hW z.2.2.2.2⟩
theorem pz_N5.bad {s : State} {args : Array Value} (z : pz_N5 s) : ∀ w ∈ pz_Bd, w.before args s = true := vx_c (va_Nw.use rfl z.1) (vx_c (va_Nw.use rfl z.2.1) (vx_c (va_Nw.use rfl z.2.2.1) (vx_c (va_Nw.use rfl z.2.2.2.1) (vx_c (va_Nw.use rfl z.2.2.2.2) vx_n))))
theorem pz_N5.of {s : State} {args : Array Value} (h : ∀ w ∈ pz_Bd, w.before args s = true) : pz_N5 s := ⟨va_Nw.of rfl (h _ (by decide)), va_Nw.of rfl (h _ (by decide)), va_Nw.of rfl (h _ (by decide)), va_Nw.of rfl (h _ (by decide)), va_Nw.of rfl (h _ (by decide))⟩
theorem pz_own3 : ∀ w ∈ Cond.classLink RX2 91 RJx00060 :: Cond.initialized RJx00060 :: vx_atS RX2 95 RJx00060 pz_ns, vx_ot w = true := by decide +kernel
def pz_X (dC : Nat → ClassId) (dI : Nat → Nat → Nat) (cc : Nat → ClassId) (w : va_W) (sa sz : Nat) (U : State) : Prop := pz_Pre dC dI cc w sz U ∧ vk_R RX2 93 pz_tx sa U ∧ vx_Zq Bundle.tN "UNASSIGNED_STACK" Bundle.steD (va_A w sz) U U.heap ∧ vx_Zq Bundle.tN "SUPPRESSED_SENTINEL" Bundle.listD (va_A w sz) U U.heap ∧ pz_N5 U
theorem pz_Xblind {dC : Nat → ClassId} {dI : Nat → Nat → Nat} {cc : Nat → ClassId} {w : va_W} {sa sz : Nat} {av : List Value} : FrameBlind (va_Pc av (pz_X dC dI cc w sa sz)) := by
  intro a U g mk q
  obtain ⟨q0, q1, q2, q3, q4, q5⟩ := q
  exact ⟨q0, (pz_blind (av := av) a U g mk ⟨q0, q1⟩).2, vk_R.same (u := U) (U := U.calling g mk a) rfl q2, vx_Zq.moved (u := U) (U := U.calling g mk a) (Vm.Alike.refl U.vm) q3, vx_Zq.moved (u := U) (U := U.calling g mk a) (Vm.Alike.refl U.vm) q4, pz_N5.same (u := U) (U := U.calling g mk a) rfl q5⟩
theorem pz_Xgo {dC : Nat → ClassId} {dI : Nat → Nat → Nat} {cc : Nat → ClassId} {w : va_W} {sa : Nat} {A : Nat → Prop} {s U : State} {H : Heap} {locs : List Loc} (hU : U.heap = H) (hW : s.WarmedH U.vm) (hK : pz_K dC dI cc s) (hP : va_P (dC, dI) vwCl w H) (hD : va_D A w) (hS : va_S A s.heap H locs) (hA : ∀ q, s.heap.size ≤ q → A q) (hstr : vk_R RX2 93 pz_tx sa s) (h1 : vx_Zq Bundle.tN "UNASSIGNED_STACK" Bundle.steD A s s.heap) (h2 : vx_Zq Bundle.tN "SUPPRESSED_SENTINEL" Bundle.listD A s s.heap) (h5 : pz_N5 s) : pz_X dC dI cc w sa H.size U :=
  ⟨⟨by rw [hU], by rw [hU]; exact hP, hK.warm hW, hD.weaken (fun _ _ _ _ => trivial)⟩, vk_R.warm hW hstr, by rw [hU]; exact vx_Zq.moved hW.alike ((h1.kept hS.2.1).narrow (pr_up hD hS hA)), by rw [hU]; exact vx_Zq.moved hW.alike ((h2.kept hS.2.1).narrow (pr_up hD hS hA)), h5.warm hW⟩
set_option maxHeartbeats 4000000 in
set_option maxRecDepth 100000 in
theorem c_X2_row {l : Launch} {dC : Nat → ClassId} {dI : Nat → Nat → Nat} {cl : Nat → ClassId} {ad : Nat → Nat} {ph : Nat → Option Nat} {o : Nat → Int64} {g h : pz_M} (hst : l.stackTraces = false) (a : Int32) (sa sz : Nat) :
    vx_Met l yX2_row wsQ_row { frames := 7, cells := 1, slots := 6, locals := 100 } (va_Pc [.ref (ad 0), .int a] (pz_X dC dI cl (pz_wd ad cl ph o g h) sa sz)) (va_Qi (fun r (_ : Unit) => ¬ f_X2_isRow a = 0 ∧ r = g 3 a.toNatClampNeg) (fun _ t => va_P (dC, dI) vwCl (pz_wd ad cl ph o g h) t.heap ∧ va_D (va_A (pz_wd ad cl ph o g h) sz) (pz_wd ad cl ph o g h)) (va_A (pz_wd ad cl ph o g h) sz))
      (vx_X (fun _ : Unit => f_X2_isRow a = 0) (fun E _ t => E = RJx00060 ∧ va_P (dC, dI) vwCl (pz_wd ad cl ph o g h) t.heap) (va_A (pz_wd ad cl ph o g h) sz)) 1 6 (va_A (pz_wd ad cl ph o g h) sz) := by
  refine vx_ofW (cc := cX2_row) (maxL := 2) (ret := some .int) (by decide) rfl ?_
  intro p e s m args below meth c s₁ B hml hnt hv
  obtain ⟨rfl, ⟨hsz, hP, hK, hD0⟩, hstr, hU, hN, h5⟩ := hv
  have hx := B.exec
  have hb := B.bytes
  have hr := B.returns
  have hts := atoms_spec (ws := wsQ_row) B.pre
  have hown : s.vm.findClass RX2 = some m.cls := findClass_of_methodNamed B.named
  have hlocks := B.notSynchronized
  subst hsz
  have hD := hD0.self (sz := s.heap.size)
  generalize hAe : va_A (pz_wd ad cl ph o g h) s.heap.size = A at hD hU hN ⊢
  have hA : ∀ q : Nat, s.heap.size ≤ q → A q := fun q h => by rw [← hAe]; exact Or.inr h
  have hS : va_S A s.heap s.heap [] := va_S.rf
  have hl := lv_entry ([.ref (ad 0), .int a]) (n := 2) (Nat.le_of_ble_eq_true rfl)
  rw [lg_entry_eq]
  generalize (lg_sl ([.ref (ad 0), .int a]) ++ List.replicate (2 - (lg_sl ([.ref (ad 0), .int a])).length) Slot.unset).toArray = ls at hl ⊢
  have hl : lv_has ls 2 [(0, .ref (ad 0)), (1, .int a)] := hl
  refine lv_iload_n hx hb dX2_row_0 rfl (lv_at hl 1 rfl) ?_
  refine pr_Si (As := [.int a]) (rest := []) ⟨hx, hb, hml, hown, hts⟩ (c_X2_isRow a) (va_cwS 1 hts gQ_row_X2_isRow rfl rfl rfl (by decide +kernel) ⟨Nat.le_of_ble_eq_true rfl, Nat.le_of_ble_eq_true rfl⟩) hK hP hD hS hA rfl hl.1 rfl (Nat.le_of_ble_eq_true rfl) ⟨Nat.le_of_ble_eq_true rfl, Nat.le_of_ble_eq_true rfl⟩ dX2_row_1 (fun r_1 _ H locs e_r_1 hP hD hS => ?_)
  refine lv_if_ne (tgt := 17) hx hb dX2_row_4 (by decide) (fun c_4 => ?_) (fun c_4 => ?_)
  · have i1 : ¬ f_X2_isRow a = 0 := by rw [← e_r_1]; exact c_4
    refine vx_ret ?_
    refine lv_aload_n hx hb dX2_row_17 rfl (lv_at hl 0 rfl) ?_
    refine va_get (D := (dC, dI)) (ci := 4) (C := RX2) (T := TX2) (N := 14) hx hb hts inQ_row_X2 hown hK.1 hP 0 pz_a0 rfl 2 (by decide) (hts (.fieldLink RX2 22 "PowderMill" "ledger" "[I") (by decide +kernel)) (fun _ h9 => h9) rfl dX2_row_18 ?_
    refine lv_iload_n hx hb dX2_row_21 rfl (lv_at hl 1 rfl) ?_
    refine va_iald hx hb hK.1 hP 3 0 pz_a3 rfl (pz_row i1) dX2_row_22 ?_
    refine W.widen (k := 1) (n := 6) (by decide) (by decide) ?_
    exact W.iret (v := g 3 a.toNatClampNeg) hx hb hr (fun t ht _ => ⟨⟨_, (), rfl, ⟨i1, rfl⟩, by rw [ht]; exact hP, hD⟩, hS.F ht⟩) hS.2.2 dX2_row_23 hlocks
  · have i1 : f_X2_isRow a = 0 := by rw [← e_r_1]; exact c_4
    exact vx_throwS hx hb hst (own := RX2) (cls := RJx00060) (text := pz_tx) (names := pz_ns) (ik := 91) (is := 93) (ic := 95) (sa := sa) (A := A) hown (by decide +kernel) (by decide +kernel) (hts (.classLink RX2 91 RJx00060) (by decide +kernel)) (hts (.initialized RJx00060) (by decide +kernel)) hstr (vx_hat (fun w hw => hts w (pz_own1 w hw)) pz_own2 h5.bad) pz_own3 hU hN hS (by rw [hml]; exact hl.1) dX2_row_7 dX2_row_10 dX2_row_11 dX2_row_13 dX2_row_16 (fun x hx9 => (hnt x hx9).elim) (by decide) (by decide) (by decide) (by decide) hlocks
      (fun t _ hz hq => ⟨(), i1, ⟨rfl, hP.kept (fun k q hk => hq q.1 ((hP k q hk).lt))⟩, Nat.le_trans hS.1 hz, fun q h1 h2 => (hq q (Nat.lt_of_lt_of_le h1 hS.1)).trans (hS.2.1 q h1 h2)⟩) hS.2.2 (by decide) (by decide)
set_option maxHeartbeats 4000000 in
set_option maxRecDepth 100000 in
theorem c_L_row {l : Launch} {dC : Nat → ClassId} {dI : Nat → Nat → Nat} {cl : Nat → ClassId} {ad : Nat → Nat} {ph : Nat → Option Nat} {o : Nat → Int64} {g h : pz_M} (hst : l.stackTraces = false) (a : Int32) (sa sz : Nat) :
    Met l yL_row wsR_row { frames := 8, cells := 1, slots := 6, locals := 130 } (va_Pc [.ref (ad 0), .int a, .ref (ad 32)] (pz_X dC dI cl (pz_wd ad cl ph o g h) sa sz)) (va_Qi (fun r (o2 : Nat → Int64) => (f_X2_isRow a = 0 ∧ r = 1 ∧ o2 = o) ∨ (¬ f_X2_isRow a = 0 ∧ r = 0 ∧ o2 = vp_updL o 0 (g 3 a.toNatClampNeg).toInt64)) (fun o2 t => va_P (dC, dI) vwCl (pz_wd ad cl ph o2 g h) t.heap ∧ va_D (va_A (pz_wd ad cl ph o g h) sz) (pz_wd ad cl ph o2 g h)) (va_A (pz_wd ad cl ph o g h) sz)) 1 6 (va_A (pz_wd ad cl ph o g h) sz) := by
  refine va_MetW (cc := cL_row) (maxL := 4) (ret := some .int) (hh := [(0, 9, 12, 13)]) (by decide) rfl ?_
  intro p e s m args below meth c s₁ B hml hv
  obtain ⟨rfl, ⟨hsz, hP, hK, hD0⟩, hstr, hU, hN, h5⟩ := hv
  have hx := B.exec
  have hb := B.bytes
  have hr := B.returns
  have hts := atoms_spec (ws := wsR_row) B.pre
  have hown : s.vm.findClass RL = some m.cls := findClass_of_methodNamed B.named
  have hlocks := B.notSynchronized
  have htab : c.exceptionTable.toList = tableOf [(0, 9, 12, 13)] := vx_table (x := yL_row) B (hts (.codeWith yL_row cL_row 4 (some .int) [(0, 9, 12, 13)]) (List.mem_append_left _ List.mem_cons_self))
  subst hsz
  have hD := hD0.self (sz := s.heap.size)
  generalize hAe : va_A (pz_wd ad cl ph o g h) s.heap.size = A at hD hU hN ⊢
  have hA : ∀ q : Nat, s.heap.size ≤ q → A q := fun q h => by rw [← hAe]; exact Or.inr h
  have hS : va_S A s.heap s.heap [] := va_S.rf
  have hl := lv_entry ([.ref (ad 0), .int a, .ref (ad 32)]) (n := 4) (Nat.le_of_ble_eq_true rfl)
  rw [lg_entry_eq]
  generalize (lg_sl ([.ref (ad 0), .int a, .ref (ad 32)]) ++ List.replicate (4 - (lg_sl ([.ref (ad 0), .int a, .ref (ad 32)])).length) Slot.unset).toArray = ls at hl ⊢
  have hl : lv_has ls 4 [(0, .ref (ad 0)), (1, .int a), (2, .ref (ad 32))] := hl
  refine lv_aload_n hx hb dL_row_0 rfl (lv_at hl 2 rfl) ?_
  refine lv_iconst (v := 0) hx hb dL_row_1 (by decide) ?_
  refine lv_aload_n hx hb dL_row_2 rfl (lv_at hl 0 rfl) ?_
  refine lv_iload_n hx hb dL_row_3 rfl (lv_at hl 1 rfl) ?_
  refine vx_calli (vx_runV (As := [.int a]) (rest := [.int 0, .ref (ad 32)]) ⟨hx, hb, hml, hown, hts⟩ (c_X2_row hst a sa s.heap.size) (cwV 1 hts gR_row_X2_row rfl rfl rfl (by decide +kernel) ⟨Nat.le_of_ble_eq_true rfl, Nat.le_of_ble_eq_true rfl⟩) ⟨pz_Xblind, va_recv hK.1 hP (ci := 4) rfl pz_a0, fun U hU9 hW9 => ⟨rfl, pz_Xgo hU9 hW9 hK hP hD hS hA hstr hU hN h5⟩⟩ rfl rfl hl.1 rfl (lv_room (Nat.le_of_ble_eq_true rfl)) dL_row_4 ⟨Nat.le_of_ble_eq_true rfl, Nat.le_of_ble_eq_true rfl⟩) hS (fun q _ h9 => pr_up hD hS hA q h9) (pr_up hD hS hA) (fun q _ h9 => pr_up hD hS hA q h9)
    (fun E ce q9 u t H1 locs1 ht hvm hp hB hz hk hS1 hce hcv hcl => ?_) (fun r u t H1 locs1 ht hvm hp hB hz hk hS1 => ?_)
  · obtain ⟨rfl, hP1⟩ := hB
    rw [ht] at hP1
    refine vx_catch hown ⟨0, 9, 12, 13⟩ [] htab (by decide) (by decide) (hts (.classLink RL 13 "java/lang/ArrayIndexOutOfBoundsException") (by decide +kernel)) (va_Nw.use rfl h5.2.2.2.2) hce hcv hcl ?_
    refine lv_astore_n (lv' := [(3, .ref q9), (0, .ref (ad 0)), (1, .int a), (2, .ref (ad 32))]) hx hb dL_row_12 rfl hl (by decide) rfl (fun ls hl => ?_)
    refine lv_iconst (v := 1) hx hb dL_row_13 (by decide) ?_
    exact W.iret (v := 1) hx hb hr (fun t9 ht9 _ => ⟨⟨1, o, rfl, Or.inl ⟨hp, rfl, rfl⟩, by rw [ht9]; exact hP1, hD⟩, hS1.F ht9⟩) hS1.2.2 dL_row_14 hlocks
  · obtain ⟨hP1, hD1⟩ := hB
    rw [ht] at hP1
    rw [hAe] at hD1
    obtain ⟨i1, rfl⟩ := hp
    refine lv_i2l (v := (g 3 a.toNatClampNeg).toInt64) hx hb dL_row_7 rfl ?_
    refine va_last hx hb hK.1 hP1 hD1 hS1 32 3 pz_a32 rfl (vp_in_nI (n := 0) (N := 1) (by decide) (by decide)) dL_row_8 (fun H locs hP hD hS => ?_)
    have hP : va_P (dC, dI) vwCl (pz_wd ad cl ph (vp_updL o 0 (g 3 a.toNatClampNeg).toInt64) g h) H := (pz_setO rfl) ▸ hP
    have hD : va_D A (pz_wd ad cl ph (vp_updL o 0 (g 3 a.toNatClampNeg).toInt64) g h) := pz_D hD1
    refine lv_goto (tgt := 15) hx hb dL_row_9 (by decide) ?_
    refine lv_iconst (v := 0) hx hb dL_row_15 (by decide) ?_
    exact W.iret (v := 0) hx hb hr (fun t9 ht9 _ => ⟨⟨0, _, rfl, Or.inr ⟨i1, rfl, rfl⟩, by rw [ht9]; exact hP, hD⟩, hS.F ht9⟩) hS.2.2 dL_row_16 hlocks
