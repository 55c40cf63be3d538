/-! the law: its loop -/
def R_law : String := "PowderMillLaw"
def lw_P (b : Addr) (xs : List Int32) (args : Array Value) (s : State) : Prop := args = #[.ref b] ∧ s.IntsAt b xs ∧ xs.length ≤ 2048 ∧ (Jvm.Cond.and given_1 narrow_1).before args s = true
def lw_Q (_ : Array Value) (s : State) (o : Outcome) (t : State) : Prop := o = .returned (some (.int 1)) ∧ Framed s o t [] 649968 7082712
def lw_Z (below : List Frame) (a : Array Value) (s : State) : State → Prop := fun t => ∃ o, t.status = .running ∧ Ended t below o ∧ lw_Q a s o t
/-- the law's own end, with 1 on the stack, nothing written that was there before, its room as the claim has it -/
theorem lw_ret {p : Program} {l : Launch} {e : Env} {s : State} {m : MethodId} {below : List Frame} {meth : Method} {c : Code} {b : Nat} (hx : p.tables.exec = Jvm.exec) (hb : c.code = code) (hr : meth.sig.returnType = ret) (hlocks : meth.locks = false) {pc : Nat} {H : Heap} {ls : Array Slot} (hdg : decode code pc = .ok (.ireturn, 1)) : W p l e room_1 s m #[Value.ref b] below meth c H [] 649968 7082712 (lw_Z below #[Value.ref b] s) (F0 m pc ls [.int 1]) := by
  intro T hT X
  obtain ⟨fs, hret, hrun, hended, hW, hframe⟩ := X.leave (v := some (.int 1)) (hlocks := hlocks) (fun h => by rw [hr] at h; cases h)
  have hmeth' : T.vm.method? m = some meth := X.method'
  refine ⟨T.setFrames fs, ?_, .returned (some (.int 1)), hrun, hended, rfl, ⟨_, rfl⟩, hW, hframe⟩
  jvm_step X.here [X.here.top, hx, hb, hdg, hmeth', hr, ret, narrow_b1]
  (try refine ⟨rfl, ?_⟩); (try refine ⟨rfl, ?_⟩)
  first | (intro acts; rw [hret _ acts rfl rfl rfl]) | rw [hret _ _ rfl rfl rfl]
  exact Steps.refl _
/-- what holds at the law's entry: the machine, the code, the tables' words (any of lw_tbl by 'hts w (by decide +kernel)'), the script of L ints xs at the cell b, what the Statement gives of the start (any of its parts by flat_of_before) -/
def lw_At (p : Program) (s : State) (m : MethodId) (meth : Method) (c : Code) (b L : Nat) (xs : Nat → Int32) : Prop :=
  p.tables.exec = Jvm.exec ∧ c.code = code ∧ meth.sig.returnType = ret ∧ c.maxLocals = 7 ∧ s.vm.findClass R_law = some m.cls ∧ (∀ w ∈ lw_tbl, w.before #[Value.ref b] s = true) ∧ va_X b L xs s s.heap ∧ b < s.heap.size ∧ meth.locks = false ∧ (Jvm.Cond.and given_1 narrow_1).before #[Value.ref b] s = true
theorem pw_cond {x L : Nat} (hx : x ≤ 2051) (hL : L ≤ 2048) (h : ¬ Int32.ofNat L - 4 < nI x) : x + 4 ≤ L := by
  have e1 : (nI x).toInt = x := nI_toInt (by omega)
  have e2 : (Int32.ofNat L).toInt = L := nI_toInt (n := L) (by omega)
  have e3 : (Int32.ofNat L - 4).toInt = (L : Int) - 4 := by
    rw [Int32.toInt_sub, e2, show (4 : Int32).toInt = 4 from rfl]
    rw [Int.bmod_def]
    split <;> omega
  have h' : ¬ (Int32.ofNat L - 4).toInt < (nI x).toInt := fun q => h (Int32.lt_iff_toInt_lt.mpr q)
  rw [e1, e3] at h'
  omega
theorem pw_in {x j L : Nat} (h : x + 4 ≤ L) (hj : j < 4) (hL : L ≤ 2048) : vp_in (nI x + nI j) L := by
  rw [nI_add]
  exact vp_in_nI (by omega) (by omega)
theorem pw_m {g h : pz_M} {ph : Nat → Option Nat} (hB : pz_B g ph h) : ∃ n : Nat, n ≤ 30 ∧ h 18 8 = nI n := by
  obtain ⟨⟨⟨n, a, -, b, -⟩, -⟩, -⟩ := hB
  exact ⟨n, a, b⟩
theorem pw_0 {g h : pz_M} {ph : Nat → Option Nat} (hB : pz_B g ph h) : ¬ g 0 5 < 0 := by
  obtain ⟨⟨⟨n, a, b, -⟩, -⟩, -⟩ := hB
  rw [b]
  exact nI_pos (by omega)
theorem pw_30 {g h : pz_M} {ph : Nat → Option Nat} (hB : pz_B g ph h) : g 0 5 ≤ 30 := by
  obtain ⟨⟨⟨n, a, b, -⟩, -⟩, -⟩ := hB
  rw [b]
  exact nI_le (b := 30) a (by omega)
theorem pw_cmp (x : Int64) : lg_cmp x x = 0 := by
  unfold lg_cmp
  rw [if_neg (fun q : x < x => Int64.lt_irrefl q), if_pos rfl]
theorem gT_law_L_row : GoodIn lw_tbl (va_wsS RL 59 yL_row wsR_row) := by
  intro w h
  have h' : w ∈ va_wsS RL 59 yL_row wsL_row ∨ w ∈ ([.methodLink RX2 95 yJx00060_init_a7421] : List Cond) := by
    unfold va_wsS wsR_row at h
    unfold va_wsS
    rcases List.mem_append.mp h with h | h
    · exact Or.inl (List.mem_append_left _ h)
    · rcases List.mem_append.mp h with h | h
      · exact Or.inl (List.mem_append_right _ h)
      · exact Or.inr h
  rcases h' with h' | h'
  · exact ⟨wsL_law_in w (gL_law_L_row w h').1, (gL_law_L_row w h').2⟩
  · rw [List.mem_singleton.mp h']
    exact ⟨by decide +kernel, good_of_word (by decide +kernel)⟩
set_option maxHeartbeats 8000000 in
set_option maxRecDepth 100000 in
theorem law_loop {p : Program} {l : Launch} {e : Env} {s : State} {m : MethodId} {below : List Frame} {meth : Method} {c : Code} {dC : Nat → ClassId} {dI : Nat → Nat → Nat} {cl : Nat → ClassId} {ad : Nat → Nat} {b L : Nat} {xs : Nat → Int32} {sa : Nat} {A : Nat → Prop} (hst : l.stackTraces = false) (hL : L ≤ 2048) (C0 : lw_At p s m meth c b L xs) (hA : ∀ q, s.heap.size ≤ q → A q) (hAf : ∀ q, A q → s.heap.size ≤ q) (hK : pz_K dC dI cl s) (hstr : vk_R RX2 93 pz_tx sa s) (hU : vx_Zq Bundle.tN "UNASSIGNED_STACK" Bundle.steD A s s.heap) (hN : vx_Zq Bundle.tN "SUPPRESSED_SENTINEL" Bundle.listD A s s.heap) (h5 : pz_N5 s) :
    ∀ (n k : Nat) (g h : pz_M) (ph : Nat → Option Nat) (o : Nat → Int64) (H : Heap) (locs : List Loc) (ls : Array Slot), k + n = 513 → 4 * k ≤ L + 3 → pz_B g ph h → va_P (dC, dI) vwCl (pz_wd ad cl ph o g h) H → va_D A (pz_wd ad cl ph o g h) → va_S A s.heap H locs → lv_has ls 7 [(4, .int (nI (4 * k))), (0, .ref b), (1, .ref (ad 0)), (2, .ref (ad 18)), (3, .ref (ad 32))] → W p l e room_1 s m #[Value.ref b] below meth c H locs (33 + k) (355 + 6 * k) (lw_Z below #[Value.ref b] s) (F0 m 23 ls []) := by
  obtain ⟨hx, hb, hr, hml, hown, htb, hX, hbl, hlocks, hgv⟩ := C0
  have hts : ∀ w ∈ wsL_law, w.before #[Value.ref b] s = true := fun w h => htb w (wsL_law_in w h)
  have hb : c.code = cL_law := hb
  have hown : s.vm.findClass RL = some m.cls := hown
  have hbA : ¬ A b := fun q => absurd (hAf b q) (by omega)
  intro n
  induction n with
  | zero => intro k g h ph o H locs ls hk hkL; omega
  | succ n ih =>
  intro k g h ph o H locs ls hk hkL hB hP hD hS hl
  have hroom : 33 + k ≤ room_1.cells ∧ 355 + 6 * k ≤ room_1.slots := ⟨by show 33 + k ≤ 649968; omega, by show 355 + 6 * k ≤ 7082712; omega⟩
  have hroom1 : 33 + k + 1 ≤ room_1.cells ∧ 355 + 6 * k + 6 ≤ room_1.slots := ⟨by show 33 + k + 1 ≤ 649968; omega, by show 355 + 6 * k + 6 ≤ 7082712; omega⟩
  have back : ∀ (g h : pz_M) (ph : Nat → Option Nat) (o : Nat → Int64) (H : Heap) (locs : List Loc) (ls : Array Slot), 4 * k + 4 ≤ L → pz_B g ph h → va_P (dC, dI) vwCl (pz_wd ad cl ph o g h) H → va_D A (pz_wd ad cl ph o g h) → va_S A s.heap H locs → lv_has ls 7 [(4, .int (nI (4 * k))), (0, .ref b), (1, .ref (ad 0)), (2, .ref (ad 18)), (3, .ref (ad 32))] → W p l e room_1 s m #[Value.ref b] below meth c H locs (33 + k + 1) (355 + 6 * k + 6) (lw_Z below #[Value.ref b] s) (F0 m 442 ls []) := by
    intro g h ph o H locs ls h4 hB hP hD hS hl
    refine lv_iinc (v := nI (4 * (k + 1))) (lv' := [(4, .int (nI (4 * (k + 1)))), (0, .ref b), (1, .ref (ad 0)), (2, .ref (ad 18)), (3, .ref (ad 32))]) hx hb dL_law_442 hl (k := 0) rfl (by rw [show Int32.ofInt 4 = nI 4 by decide +kernel, nI_add]; rfl) (by decide) rfl (fun ls hl => ?_)
    refine lv_goto (tgt := 23) hx hb dL_law_445 (by decide) ?_
    refine W.widen (k := 33 + (k + 1)) (n := 355 + 6 * (k + 1)) (by omega) (by omega) ?_
    exact ih (k + 1) g h ph o H locs ls (by omega) (by omega) hB hP hD hS hl
  refine lv_iload hx hb dL_law_23 (lv_at hl 0 rfl) ?_
  refine lv_aload_n hx hb dL_law_25 rfl (lv_at hl 1 rfl) ?_
  refine va_slen hx hb hX hbl hbA hS dL_law_26 ?_
  refine lv_iconst (v := 4) hx hb dL_law_27 (by decide) ?_
  refine lv_isub hx hb dL_law_28 ?_
  refine lv_icmp_gt (tgt := 448) hx hb dL_law_29 (by decide) (fun _ => ?_) (fun q => ?_)
  · refine lv_iconst (v := 1) hx hb dL_law_448 (by decide) ?_
    refine va_forget (fun q h => hAf _ (hS.2.2 q h)) ?_
    refine W.widen (k := 649968) (n := 7082712) (by omega) (by omega) ?_
    exact lw_ret hx hb hr hlocks dL_law_449
  have h4 : 4 * k + 4 ≤ L := pw_cond (by omega) hL q
  have v1 : vp_in (nI (4 * k) + 1) L := pw_in (j := 1) h4 (by omega) hL
  have v2 : vp_in (nI (4 * k) + 2) L := pw_in (j := 2) h4 (by omega) hL
  have v3 : vp_in (nI (4 * k) + 3) L := pw_in (j := 3) h4 (by omega) hL
  refine lv_aload_n hx hb dL_law_32 rfl (lv_at hl 1 rfl) ?_
  refine lv_iload hx hb dL_law_33 (lv_at hl 0 rfl) ?_
  refine va_sld hx hb hX hbl hbA hS (vp_in_nI (by omega) (by omega)) dL_law_35 ?_
  refine lv_bipush (v := 15) hx hb dL_law_36 (by decide) ?_
  refine lv_iand hx hb dL_law_38 ?_
  generalize (xs (nI (4 * k)).toNatClampNeg &&& 15) = sel
  by_cases t0 : sel = 0
  · refine pr_tabIn (ki := 0) (tgt := 96) hx hb dL_law_39 t0 (by rfl) (by decide) (by decide) (by rfl) (by decide) ?_
    refine lv_aload_n hx hb dL_law_96 rfl (lv_at hl 2 rfl) ?_
    refine lv_aload_n hx hb dL_law_97 rfl (lv_at hl 1 rfl) ?_
    refine lv_iload hx hb dL_law_98 (lv_at hl 0 rfl) ?_
    refine lv_iconst (v := 1) hx hb dL_law_100 (by decide) ?_
    refine lv_iadd hx hb dL_law_101 ?_
    refine va_sld hx hb hX hbl hbA hS v1 dL_law_102 ?_
    refine lv_aload_n hx hb dL_law_103 rfl (lv_at hl 1 rfl) ?_
    refine lv_iload hx hb dL_law_104 (lv_at hl 0 rfl) ?_
    refine lv_iconst (v := 2) hx hb dL_law_106 (by decide) ?_
    refine lv_iadd hx hb dL_law_107 ?_
    refine va_sld hx hb hX hbl hbA hS v2 dL_law_108 ?_
    refine lv_aload_n hx hb dL_law_109 rfl (lv_at hl 1 rfl) ?_
    refine lv_iload hx hb dL_law_110 (lv_at hl 0 rfl) ?_
    refine lv_iconst (v := 3) hx hb dL_law_112 (by decide) ?_
    refine lv_iadd hx hb dL_law_113 ?_
    refine va_sld hx hb hX hbl hbA hS v3 dL_law_114 ?_
    refine lv_if_eq (tgt := 122) hx hb dL_law_115 (by decide) (fun c1 => ?_) (fun c1 => ?_)
    · refine lv_iconst (v := 0) hx hb dL_law_122 (by decide) ?_
      refine pr_Vi (As := [.int (xs (nI (4 * k) + 1).toNatClampNeg), .int (xs (nI (4 * k) + 2).toNatClampNeg), .int (0)]) (rest := []) ⟨hx, hb, hml, hown, hts⟩ (c_X2_build (xs (nI (4 * k) + 1).toNatClampNeg) (xs (nI (4 * k) + 2).toNatClampNeg) (0) (Or.inl rfl)) (cwV 3 hts gL_law_X2_build rfl rfl rfl (by decide +kernel) ⟨Nat.le_of_ble_eq_true rfl, Nat.le_of_ble_eq_true rfl⟩) (va_recv hK.1 hP (ci := 4) rfl pz_a0) hK hP hD hS hA rfl hl.1 rfl (Nat.le_of_ble_eq_true rfl) hroom dL_law_123 (fun r1 u1 H locs e1 hP hD hS => ?_)
      obtain ⟨rfl, rfl⟩ := e1
      have hP : va_P (dC, dI) vwCl (pz_wd ad cl (f_X2_build g ph (xs (nI (4 * k) + 1).toNatClampNeg) (xs (nI (4 * k) + 2).toNatClampNeg) (0)).2.2 o (f_X2_build g ph (xs (nI (4 * k) + 1).toNatClampNeg) (xs (nI (4 * k) + 2).toNatClampNeg) (0)).2.1 h) H := hP
      have hD : va_D A (pz_wd ad cl (f_X2_build g ph (xs (nI (4 * k) + 1).toNatClampNeg) (xs (nI (4 * k) + 2).toNatClampNeg) (0)).2.2 o (f_X2_build g ph (xs (nI (4 * k) + 1).toNatClampNeg) (xs (nI (4 * k) + 2).toNatClampNeg) (0)).2.1 h) := hD
      refine lv_aload_n hx hb dL_law_126 rfl (lv_at hl 3 rfl) ?_
      refine lv_aload_n hx hb dL_law_127 rfl (lv_at hl 1 rfl) ?_
      refine lv_iload hx hb dL_law_128 (lv_at hl 0 rfl) ?_
      refine lv_iconst (v := 1) hx hb dL_law_130 (by decide) ?_
      refine lv_iadd hx hb dL_law_131 ?_
      refine va_sld hx hb hX hbl hbA hS v1 dL_law_132 ?_
      refine lv_aload_n hx hb dL_law_133 rfl (lv_at hl 1 rfl) ?_
      refine lv_iload hx hb dL_law_134 (lv_at hl 0 rfl) ?_
      refine lv_iconst (v := 2) hx hb dL_law_136 (by decide) ?_
      refine lv_iadd hx hb dL_law_137 ?_
      refine va_sld hx hb hX hbl hbA hS v2 dL_law_138 ?_
      refine lv_aload_n hx hb dL_law_139 rfl (lv_at hl 1 rfl) ?_
      refine lv_iload hx hb dL_law_140 (lv_at hl 0 rfl) ?_
      refine lv_iconst (v := 3) hx hb dL_law_142 (by decide) ?_
      refine lv_iadd hx hb dL_law_143 ?_
      refine va_sld hx hb hX hbl hbA hS v3 dL_law_144 ?_
      refine lv_if_eq (tgt := 152) hx hb dL_law_145 (by decide) (fun _ => ?_) (fun q9 => absurd c1 q9)
      refine lv_iconst (v := 0) hx hb dL_law_152 (by decide) ?_
      refine pr_Vi (As := [.int (xs (nI (4 * k) + 1).toNatClampNeg), .int (xs (nI (4 * k) + 2).toNatClampNeg), .int (0)]) (rest := [.int ((f_X2_build g ph (xs (nI (4 * k) + 1).toNatClampNeg) (xs (nI (4 * k) + 2).toNatClampNeg) (0)).1)]) ⟨hx, hb, hml, hown, hts⟩ (c_X3_build (xs (nI (4 * k) + 1).toNatClampNeg) (xs (nI (4 * k) + 2).toNatClampNeg) (0) (Or.inl rfl)) (cwV 3 hts gL_law_X3_build rfl rfl rfl (by decide +kernel) ⟨Nat.le_of_ble_eq_true rfl, Nat.le_of_ble_eq_true rfl⟩) (va_recv hK.1 hP (ci := 5) rfl pz_a18) hK hP hD hS hA rfl hl.1 rfl (Nat.le_of_ble_eq_true rfl) hroom dL_law_153 (fun r2 u2 H locs e2 hP hD hS => ?_)
      obtain ⟨rfl, rfl⟩ := e2
      have hP : va_P (dC, dI) vwCl (pz_wd ad cl (f_X2_build g ph (xs (nI (4 * k) + 1).toNatClampNeg) (xs (nI (4 * k) + 2).toNatClampNeg) (0)).2.2 o (f_X2_build g ph (xs (nI (4 * k) + 1).toNatClampNeg) (xs (nI (4 * k) + 2).toNatClampNeg) (0)).2.1 (f_X3_build h (xs (nI (4 * k) + 1).toNatClampNeg) (xs (nI (4 * k) + 2).toNatClampNeg) (0)).2) H := hP
      have hD : va_D A (pz_wd ad cl (f_X2_build g ph (xs (nI (4 * k) + 1).toNatClampNeg) (xs (nI (4 * k) + 2).toNatClampNeg) (0)).2.2 o (f_X2_build g ph (xs (nI (4 * k) + 1).toNatClampNeg) (xs (nI (4 * k) + 2).toNatClampNeg) (0)).2.1 (f_X3_build h (xs (nI (4 * k) + 1).toNatClampNeg) (xs (nI (4 * k) + 2).toNatClampNeg) (0)).2) := hD
      refine lv_icmp_eq (tgt := 442) hx hb dL_law_156 (by decide) (fun _ => ?_) (fun q9 => absurd (ps_build hB (xs (nI (4 * k) + 1).toNatClampNeg) (xs (nI (4 * k) + 2).toNatClampNeg) (0)).1 q9)
      refine W.widen (k := 33 + k + 1) (n := 355 + 6 * k + 6) (by omega) (by omega) ?_
      exact back _ _ _ _ H locs ls h4 (ps_build hB (xs (nI (4 * k) + 1).toNatClampNeg) (xs (nI (4 * k) + 2).toNatClampNeg) (0)).2 hP hD hS hl
    · refine lv_iconst (v := 1) hx hb dL_law_118 (by decide) ?_
      refine lv_goto (tgt := 123) hx hb dL_law_119 (by decide) ?_
      refine pr_Vi (As := [.int (xs (nI (4 * k) + 1).toNatClampNeg), .int (xs (nI (4 * k) + 2).toNatClampNeg), .int (1)]) (rest := []) ⟨hx, hb, hml, hown, hts⟩ (c_X2_build (xs (nI (4 * k) + 1).toNatClampNeg) (xs (nI (4 * k) + 2).toNatClampNeg) (1) (Or.inr rfl)) (cwV 3 hts gL_law_X2_build rfl rfl rfl (by decide +kernel) ⟨Nat.le_of_ble_eq_true rfl, Nat.le_of_ble_eq_true rfl⟩) (va_recv hK.1 hP (ci := 4) rfl pz_a0) hK hP hD hS hA rfl hl.1 rfl (Nat.le_of_ble_eq_true rfl) hroom dL_law_123 (fun r1 u1 H locs e1 hP hD hS => ?_)
      obtain ⟨rfl, rfl⟩ := e1
      have hP : va_P (dC, dI) vwCl (pz_wd ad cl (f_X2_build g ph (xs (nI (4 * k) + 1).toNatClampNeg) (xs (nI (4 * k) + 2).toNatClampNeg) (1)).2.2 o (f_X2_build g ph (xs (nI (4 * k) + 1).toNatClampNeg) (xs (nI (4 * k) + 2).toNatClampNeg) (1)).2.1 h) H := hP
      have hD : va_D A (pz_wd ad cl (f_X2_build g ph (xs (nI (4 * k) + 1).toNatClampNeg) (xs (nI (4 * k) + 2).toNatClampNeg) (1)).2.2 o (f_X2_build g ph (xs (nI (4 * k) + 1).toNatClampNeg) (xs (nI (4 * k) + 2).toNatClampNeg) (1)).2.1 h) := hD
      refine lv_aload_n hx hb dL_law_126 rfl (lv_at hl 3 rfl) ?_
      refine lv_aload_n hx hb dL_law_127 rfl (lv_at hl 1 rfl) ?_
      refine lv_iload hx hb dL_law_128 (lv_at hl 0 rfl) ?_
      refine lv_iconst (v := 1) hx hb dL_law_130 (by decide) ?_
      refine lv_iadd hx hb dL_law_131 ?_
      refine va_sld hx hb hX hbl hbA hS v1 dL_law_132 ?_
      refine lv_aload_n hx hb dL_law_133 rfl (lv_at hl 1 rfl) ?_
      refine lv_iload hx hb dL_law_134 (lv_at hl 0 rfl) ?_
      refine lv_iconst (v := 2) hx hb dL_law_136 (by decide) ?_
      refine lv_iadd hx hb dL_law_137 ?_
      refine va_sld hx hb hX hbl hbA hS v2 dL_law_138 ?_
      refine lv_aload_n hx hb dL_law_139 rfl (lv_at hl 1 rfl) ?_
      refine lv_iload hx hb dL_law_140 (lv_at hl 0 rfl) ?_
      refine lv_iconst (v := 3) hx hb dL_law_142 (by decide) ?_
      refine lv_iadd hx hb dL_law_143 ?_
      refine va_sld hx hb hX hbl hbA hS v3 dL_law_144 ?_
      refine lv_if_eq (tgt := 152) hx hb dL_law_145 (by decide) (fun q9 => absurd q9 c1) (fun _ => ?_)
      refine lv_iconst (v := 1) hx hb dL_law_148 (by decide) ?_
      refine lv_goto (tgt := 153) hx hb dL_law_149 (by decide) ?_
      refine pr_Vi (As := [.int (xs (nI (4 * k) + 1).toNatClampNeg), .int (xs (nI (4 * k) + 2).toNatClampNeg), .int (1)]) (rest := [.int ((f_X2_build g ph (xs (nI (4 * k) + 1).toNatClampNeg) (xs (nI (4 * k) + 2).toNatClampNeg) (1)).1)]) ⟨hx, hb, hml, hown, hts⟩ (c_X3_build (xs (nI (4 * k) + 1).toNatClampNeg) (xs (nI (4 * k) + 2).toNatClampNeg) (1) (Or.inr rfl)) (cwV 3 hts gL_law_X3_build rfl rfl rfl (by decide +kernel) ⟨Nat.le_of_ble_eq_true rfl, Nat.le_of_ble_eq_true rfl⟩) (va_recv hK.1 hP (ci := 5) rfl pz_a18) hK hP hD hS hA rfl hl.1 rfl (Nat.le_of_ble_eq_true rfl) hroom dL_law_153 (fun r2 u2 H locs e2 hP hD hS => ?_)
      obtain ⟨rfl, rfl⟩ := e2
      have hP : va_P (dC, dI) vwCl (pz_wd ad cl (f_X2_build g ph (xs (nI (4 * k) + 1).toNatClampNeg) (xs (nI (4 * k) + 2).toNatClampNeg) (1)).2.2 o (f_X2_build g ph (xs (nI (4 * k) + 1).toNatClampNeg) (xs (nI (4 * k) + 2).toNatClampNeg) (1)).2.1 (f_X3_build h (xs (nI (4 * k) + 1).toNatClampNeg) (xs (nI (4 * k) + 2).toNatClampNeg) (1)).2) H := hP
      have hD : va_D A (pz_wd ad cl (f_X2_build g ph (xs (nI (4 * k) + 1).toNatClampNeg) (xs (nI (4 * k) + 2).toNatClampNeg) (1)).2.2 o (f_X2_build g ph (xs (nI (4 * k) + 1).toNatClampNeg) (xs (nI (4 * k) + 2).toNatClampNeg) (1)).2.1 (f_X3_build h (xs (nI (4 * k) + 1).toNatClampNeg) (xs (nI (4 * k) + 2).toNatClampNeg) (1)).2) := hD
      refine lv_icmp_eq (tgt := 442) hx hb dL_law_156 (by decide) (fun _ => ?_) (fun q9 => absurd (ps_build hB (xs (nI (4 * k) + 1).toNatClampNeg) (xs (nI (4 * k) + 2).toNatClampNeg) (1)).1 q9)
      refine W.widen (k := 33 + k + 1) (n := 355 + 6 * k + 6) (by omega) (by omega) ?_
      exact back _ _ _ _ H locs ls h4 (ps_build hB (xs (nI (4 * k) + 1).toNatClampNeg) (xs (nI (4 * k) + 2).toNatClampNeg) (1)).2 hP hD hS hl
  by_cases t1 : sel = 1
  · refine pr_tabIn (ki := 1) (tgt := 161) hx hb dL_law_39 t1 (by rfl) (by decide) (by decide) (by rfl) (by decide) ?_
    refine lv_aload_n hx hb dL_law_161 rfl (lv_at hl 2 rfl) ?_
    refine lv_aload_n hx hb dL_law_162 rfl (lv_at hl 1 rfl) ?_
    refine lv_iload hx hb dL_law_163 (lv_at hl 0 rfl) ?_
    refine lv_iconst (v := 1) hx hb dL_law_165 (by decide) ?_
    refine lv_iadd hx hb dL_law_166 ?_
    refine va_sld hx hb hX hbl hbA hS v1 dL_law_167 ?_
    refine pr_Vi (As := [.int (xs (nI (4 * k) + 1).toNatClampNeg)]) (rest := []) ⟨hx, hb, hml, hown, hts⟩ (c_X2_raze (xs (nI (4 * k) + 1).toNatClampNeg)) (cwV 1 hts gL_law_X2_raze rfl rfl rfl (by decide +kernel) ⟨Nat.le_of_ble_eq_true rfl, Nat.le_of_ble_eq_true rfl⟩) (va_recv hK.1 hP (ci := 4) rfl pz_a0) hK hP hD hS hA rfl hl.1 rfl (Nat.le_of_ble_eq_true rfl) hroom dL_law_168 (fun r1 u1 H locs e1 hP hD hS => ?_)
    obtain ⟨rfl, rfl⟩ := e1
    have hP : va_P (dC, dI) vwCl (pz_wd ad cl (f_X2_raze g ph (xs (nI (4 * k) + 1).toNatClampNeg)).2.2 o (f_X2_raze g ph (xs (nI (4 * k) + 1).toNatClampNeg)).2.1 h) H := hP
    have hD : va_D A (pz_wd ad cl (f_X2_raze g ph (xs (nI (4 * k) + 1).toNatClampNeg)).2.2 o (f_X2_raze g ph (xs (nI (4 * k) + 1).toNatClampNeg)).2.1 h) := hD
    refine lv_aload_n hx hb dL_law_171 rfl (lv_at hl 3 rfl) ?_
    refine lv_aload_n hx hb dL_law_172 rfl (lv_at hl 1 rfl) ?_
    refine lv_iload hx hb dL_law_173 (lv_at hl 0 rfl) ?_
    refine lv_iconst (v := 1) hx hb dL_law_175 (by decide) ?_
    refine lv_iadd hx hb dL_law_176 ?_
    refine va_sld hx hb hX hbl hbA hS v1 dL_law_177 ?_
    refine pr_Vi (As := [.int (xs (nI (4 * k) + 1).toNatClampNeg)]) (rest := [.int ((f_X2_raze g ph (xs (nI (4 * k) + 1).toNatClampNeg)).1)]) ⟨hx, hb, hml, hown, hts⟩ (c_X3_raze (xs (nI (4 * k) + 1).toNatClampNeg)) (cwV 1 hts gL_law_X3_raze rfl rfl rfl (by decide +kernel) ⟨Nat.le_of_ble_eq_true rfl, Nat.le_of_ble_eq_true rfl⟩) (va_recv hK.1 hP (ci := 5) rfl pz_a18) hK hP hD hS hA rfl hl.1 rfl (Nat.le_of_ble_eq_true rfl) hroom dL_law_178 (fun r2 u2 H locs e2 hP hD hS => ?_)
    obtain ⟨rfl, rfl⟩ := e2
    have hP : va_P (dC, dI) vwCl (pz_wd ad cl (f_X2_raze g ph (xs (nI (4 * k) + 1).toNatClampNeg)).2.2 o (f_X2_raze g ph (xs (nI (4 * k) + 1).toNatClampNeg)).2.1 (f_X3_raze h (xs (nI (4 * k) + 1).toNatClampNeg)).2) H := hP
    have hD : va_D A (pz_wd ad cl (f_X2_raze g ph (xs (nI (4 * k) + 1).toNatClampNeg)).2.2 o (f_X2_raze g ph (xs (nI (4 * k) + 1).toNatClampNeg)).2.1 (f_X3_raze h (xs (nI (4 * k) + 1).toNatClampNeg)).2) := hD
    refine lv_icmp_eq (tgt := 442) hx hb dL_law_181 (by decide) (fun _ => ?_) (fun q9 => absurd (ps_raze hB (xs (nI (4 * k) + 1).toNatClampNeg)).1 q9)
    refine W.widen (k := 33 + k + 1) (n := 355 + 6 * k + 6) (by omega) (by omega) ?_
    exact back _ _ _ _ H locs ls h4 (ps_raze hB (xs (nI (4 * k) + 1).toNatClampNeg)).2 hP hD hS hl
  by_cases t2 : sel = 2
  · refine pr_tabIn (ki := 2) (tgt := 186) hx hb dL_law_39 t2 (by rfl) (by decide) (by decide) (by rfl) (by decide) ?_
    refine lv_aload_n hx hb dL_law_186 rfl (lv_at hl 2 rfl) ?_
    refine lv_aload_n hx hb dL_law_187 rfl (lv_at hl 1 rfl) ?_
    refine lv_iload hx hb dL_law_188 (lv_at hl 0 rfl) ?_
    refine lv_iconst (v := 1) hx hb dL_law_190 (by decide) ?_
    refine lv_iadd hx hb dL_law_191 ?_
    refine va_sld hx hb hX hbl hbA hS v1 dL_law_192 ?_
    refine lv_aload_n hx hb dL_law_193 rfl (lv_at hl 1 rfl) ?_
    refine lv_iload hx hb dL_law_194 (lv_at hl 0 rfl) ?_
    refine lv_iconst (v := 2) hx hb dL_law_196 (by decide) ?_
    refine lv_iadd hx hb dL_law_197 ?_
    refine va_sld hx hb hX hbl hbA hS v2 dL_law_198 ?_
    refine pr_Vi (As := [.int (xs (nI (4 * k) + 1).toNatClampNeg), .int (xs (nI (4 * k) + 2).toNatClampNeg)]) (rest := []) ⟨hx, hb, hml, hown, hts⟩ (c_X2_step (xs (nI (4 * k) + 1).toNatClampNeg) (xs (nI (4 * k) + 2).toNatClampNeg) (pw_0 hB)) (cwV 2 hts gL_law_X2_step rfl rfl rfl (by decide +kernel) ⟨Nat.le_of_ble_eq_true rfl, Nat.le_of_ble_eq_true rfl⟩) (va_recv hK.1 hP (ci := 4) rfl pz_a0) hK hP hD hS hA rfl hl.1 rfl (Nat.le_of_ble_eq_true rfl) hroom dL_law_199 (fun r1 u1 H locs e1 hP hD hS => ?_)
    obtain ⟨rfl, rfl⟩ := e1
    have hP : va_P (dC, dI) vwCl (pz_wd ad cl (f_X2_step g ph (xs (nI (4 * k) + 1).toNatClampNeg) (xs (nI (4 * k) + 2).toNatClampNeg)).2.2 o (f_X2_step g ph (xs (nI (4 * k) + 1).toNatClampNeg) (xs (nI (4 * k) + 2).toNatClampNeg)).2.1 h) H := hP
    have hD : va_D A (pz_wd ad cl (f_X2_step g ph (xs (nI (4 * k) + 1).toNatClampNeg) (xs (nI (4 * k) + 2).toNatClampNeg)).2.2 o (f_X2_step g ph (xs (nI (4 * k) + 1).toNatClampNeg) (xs (nI (4 * k) + 2).toNatClampNeg)).2.1 h) := hD
    refine lv_aload_n hx hb dL_law_202 rfl (lv_at hl 3 rfl) ?_
    refine lv_aload_n hx hb dL_law_203 rfl (lv_at hl 1 rfl) ?_
    refine lv_iload hx hb dL_law_204 (lv_at hl 0 rfl) ?_
    refine lv_iconst (v := 1) hx hb dL_law_206 (by decide) ?_
    refine lv_iadd hx hb dL_law_207 ?_
    refine va_sld hx hb hX hbl hbA hS v1 dL_law_208 ?_
    refine lv_aload_n hx hb dL_law_209 rfl (lv_at hl 1 rfl) ?_
    refine lv_iload hx hb dL_law_210 (lv_at hl 0 rfl) ?_
    refine lv_iconst (v := 2) hx hb dL_law_212 (by decide) ?_
    refine lv_iadd hx hb dL_law_213 ?_
    refine va_sld hx hb hX hbl hbA hS v2 dL_law_214 ?_
    refine pr_Vi (As := [.int (xs (nI (4 * k) + 1).toNatClampNeg), .int (xs (nI (4 * k) + 2).toNatClampNeg)]) (rest := [.int ((f_X2_step g ph (xs (nI (4 * k) + 1).toNatClampNeg) (xs (nI (4 * k) + 2).toNatClampNeg)).1)]) ⟨hx, hb, hml, hown, hts⟩ (c_X3_step (xs (nI (4 * k) + 1).toNatClampNeg) (xs (nI (4 * k) + 2).toNatClampNeg) (pw_m hB)) (cwV 2 hts gL_law_X3_step rfl rfl rfl (by decide +kernel) ⟨Nat.le_of_ble_eq_true rfl, Nat.le_of_ble_eq_true rfl⟩) (va_recv hK.1 hP (ci := 5) rfl pz_a18) hK hP hD hS hA rfl hl.1 rfl (Nat.le_of_ble_eq_true rfl) hroom dL_law_215 (fun r2 u2 H locs e2 hP hD hS => ?_)
    obtain ⟨rfl, rfl⟩ := e2
    have hP : va_P (dC, dI) vwCl (pz_wd ad cl (f_X2_step g ph (xs (nI (4 * k) + 1).toNatClampNeg) (xs (nI (4 * k) + 2).toNatClampNeg)).2.2 o (f_X2_step g ph (xs (nI (4 * k) + 1).toNatClampNeg) (xs (nI (4 * k) + 2).toNatClampNeg)).2.1 (f_X3_step h (xs (nI (4 * k) + 1).toNatClampNeg) (xs (nI (4 * k) + 2).toNatClampNeg)).2) H := hP
    have hD : va_D A (pz_wd ad cl (f_X2_step g ph (xs (nI (4 * k) + 1).toNatClampNeg) (xs (nI (4 * k) + 2).toNatClampNeg)).2.2 o (f_X2_step g ph (xs (nI (4 * k) + 1).toNatClampNeg) (xs (nI (4 * k) + 2).toNatClampNeg)).2.1 (f_X3_step h (xs (nI (4 * k) + 1).toNatClampNeg) (xs (nI (4 * k) + 2).toNatClampNeg)).2) := hD
    refine lv_icmp_eq (tgt := 442) hx hb dL_law_218 (by decide) (fun _ => ?_) (fun q9 => absurd (ps_stepc hB (xs (nI (4 * k) + 1).toNatClampNeg) (xs (nI (4 * k) + 2).toNatClampNeg)).1 q9)
    refine W.widen (k := 33 + k + 1) (n := 355 + 6 * k + 6) (by omega) (by omega) ?_
    exact back _ _ _ _ H locs ls h4 (ps_stepc hB (xs (nI (4 * k) + 1).toNatClampNeg) (xs (nI (4 * k) + 2).toNatClampNeg)).2 hP hD hS hl
  by_cases t3 : sel = 3
  · refine pr_tabIn (ki := 3) (tgt := 223) hx hb dL_law_39 t3 (by rfl) (by decide) (by decide) (by rfl) (by decide) ?_
    refine lv_aload_n hx hb dL_law_223 rfl (lv_at hl 2 rfl) ?_
    refine pr_Vi (As := []) (rest := []) ⟨hx, hb, hml, hown, hts⟩ (c_X2_clear) (cwV 0 hts gL_law_X2_clear rfl rfl rfl (by decide +kernel) ⟨Nat.le_of_ble_eq_true rfl, Nat.le_of_ble_eq_true rfl⟩) (va_recv hK.1 hP (ci := 4) rfl pz_a0) hK hP hD hS hA rfl hl.1 rfl (Nat.le_of_ble_eq_true rfl) hroom dL_law_224 (fun r1 u1 H locs e1 hP hD hS => ?_)
    obtain ⟨rfl, rfl⟩ := e1
    have hP : va_P (dC, dI) vwCl (pz_wd ad cl (f_X2_clear g ph).2.2 o (f_X2_clear g ph).2.1 h) H := hP
    have hD : va_D A (pz_wd ad cl (f_X2_clear g ph).2.2 o (f_X2_clear g ph).2.1 h) := hD
    refine lv_aload_n hx hb dL_law_227 rfl (lv_at hl 3 rfl) ?_
    refine pr_Vi (As := []) (rest := [.int ((f_X2_clear g ph).1)]) ⟨hx, hb, hml, hown, hts⟩ (c_X3_clear) (cwV 0 hts gL_law_X3_clear rfl rfl rfl (by decide +kernel) ⟨Nat.le_of_ble_eq_true rfl, Nat.le_of_ble_eq_true rfl⟩) (va_recv hK.1 hP (ci := 5) rfl pz_a18) hK hP hD hS hA rfl hl.1 rfl (Nat.le_of_ble_eq_true rfl) hroom dL_law_228 (fun r2 u2 H locs e2 hP hD hS => ?_)
    obtain ⟨rfl, rfl⟩ := e2
    have hP : va_P (dC, dI) vwCl (pz_wd ad cl (f_X2_clear g ph).2.2 o (f_X2_clear g ph).2.1 (f_X3_clear h).2) H := hP
    have hD : va_D A (pz_wd ad cl (f_X2_clear g ph).2.2 o (f_X2_clear g ph).2.1 (f_X3_clear h).2) := hD
    refine lv_icmp_eq (tgt := 442) hx hb dL_law_231 (by decide) (fun _ => ?_) (fun q9 => absurd (ps_clear hB).1 q9)
    refine W.widen (k := 33 + k + 1) (n := 355 + 6 * k + 6) (by omega) (by omega) ?_
    exact back _ _ _ _ H locs ls h4 (ps_clear hB).2 hP hD hS hl
  by_cases t4 : sel = 4
  · refine pr_tabIn (ki := 4) (tgt := 236) hx hb dL_law_39 t4 (by rfl) (by decide) (by decide) (by rfl) (by decide) ?_
    refine lv_aload_n hx hb dL_law_236 rfl (lv_at hl 2 rfl) ?_
    refine lv_aload_n hx hb dL_law_237 rfl (lv_at hl 1 rfl) ?_
    refine lv_iload hx hb dL_law_238 (lv_at hl 0 rfl) ?_
    refine lv_iconst (v := 1) hx hb dL_law_240 (by decide) ?_
    refine lv_iadd hx hb dL_law_241 ?_
    refine va_sld hx hb hX hbl hbA hS v1 dL_law_242 ?_
    refine lv_aload_n hx hb dL_law_243 rfl (lv_at hl 1 rfl) ?_
    refine lv_iload hx hb dL_law_244 (lv_at hl 0 rfl) ?_
    refine lv_iconst (v := 2) hx hb dL_law_246 (by decide) ?_
    refine lv_iadd hx hb dL_law_247 ?_
    refine va_sld hx hb hX hbl hbA hS v2 dL_law_248 ?_
    refine lv_aload_n hx hb dL_law_249 rfl (lv_at hl 1 rfl) ?_
    refine lv_iload hx hb dL_law_250 (lv_at hl 0 rfl) ?_
    refine lv_iconst (v := 3) hx hb dL_law_252 (by decide) ?_
    refine lv_iadd hx hb dL_law_253 ?_
    refine va_sld hx hb hX hbl hbA hS v3 dL_law_254 ?_
    refine pr_Vi (As := [.int (xs (nI (4 * k) + 1).toNatClampNeg), .int (xs (nI (4 * k) + 2).toNatClampNeg), .int (xs (nI (4 * k) + 3).toNatClampNeg)]) (rest := []) ⟨hx, hb, hml, hown, hts⟩ (c_X2_alter (xs (nI (4 * k) + 1).toNatClampNeg) (xs (nI (4 * k) + 2).toNatClampNeg) (xs (nI (4 * k) + 3).toNatClampNeg) (pw_30 hB)) (cwV 3 hts gL_law_X2_alter rfl rfl rfl (by decide +kernel) ⟨Nat.le_of_ble_eq_true rfl, Nat.le_of_ble_eq_true rfl⟩) (va_recv hK.1 hP (ci := 4) rfl pz_a0) hK hP hD hS hA rfl hl.1 rfl (Nat.le_of_ble_eq_true rfl) hroom dL_law_255 (fun r1 u1 H locs e1 hP hD hS => ?_)
    obtain ⟨rfl, rfl⟩ := e1
    have hP : va_P (dC, dI) vwCl (pz_wd ad cl (f_X2_alter g ph (xs (nI (4 * k) + 1).toNatClampNeg) (xs (nI (4 * k) + 2).toNatClampNeg) (xs (nI (4 * k) + 3).toNatClampNeg)).2.2 o (f_X2_alter g ph (xs (nI (4 * k) + 1).toNatClampNeg) (xs (nI (4 * k) + 2).toNatClampNeg) (xs (nI (4 * k) + 3).toNatClampNeg)).2.1 h) H := hP
    have hD : va_D A (pz_wd ad cl (f_X2_alter g ph (xs (nI (4 * k) + 1).toNatClampNeg) (xs (nI (4 * k) + 2).toNatClampNeg) (xs (nI (4 * k) + 3).toNatClampNeg)).2.2 o (f_X2_alter g ph (xs (nI (4 * k) + 1).toNatClampNeg) (xs (nI (4 * k) + 2).toNatClampNeg) (xs (nI (4 * k) + 3).toNatClampNeg)).2.1 h) := hD
    refine lv_aload_n hx hb dL_law_258 rfl (lv_at hl 3 rfl) ?_
    refine lv_aload_n hx hb dL_law_259 rfl (lv_at hl 1 rfl) ?_
    refine lv_iload hx hb dL_law_260 (lv_at hl 0 rfl) ?_
    refine lv_iconst (v := 1) hx hb dL_law_262 (by decide) ?_
    refine lv_iadd hx hb dL_law_263 ?_
    refine va_sld hx hb hX hbl hbA hS v1 dL_law_264 ?_
    refine lv_aload_n hx hb dL_law_265 rfl (lv_at hl 1 rfl) ?_
    refine lv_iload hx hb dL_law_266 (lv_at hl 0 rfl) ?_
    refine lv_iconst (v := 2) hx hb dL_law_268 (by decide) ?_
    refine lv_iadd hx hb dL_law_269 ?_
    refine va_sld hx hb hX hbl hbA hS v2 dL_law_270 ?_
    refine lv_aload_n hx hb dL_law_271 rfl (lv_at hl 1 rfl) ?_
    refine lv_iload hx hb dL_law_272 (lv_at hl 0 rfl) ?_
    refine lv_iconst (v := 3) hx hb dL_law_274 (by decide) ?_
    refine lv_iadd hx hb dL_law_275 ?_
    refine va_sld hx hb hX hbl hbA hS v3 dL_law_276 ?_
    refine pr_Vi (As := [.int (xs (nI (4 * k) + 1).toNatClampNeg), .int (xs (nI (4 * k) + 2).toNatClampNeg), .int (xs (nI (4 * k) + 3).toNatClampNeg)]) (rest := [.int ((f_X2_alter g ph (xs (nI (4 * k) + 1).toNatClampNeg) (xs (nI (4 * k) + 2).toNatClampNeg) (xs (nI (4 * k) + 3).toNatClampNeg)).1)]) ⟨hx, hb, hml, hown, hts⟩ (c_X3_alter (xs (nI (4 * k) + 1).toNatClampNeg) (xs (nI (4 * k) + 2).toNatClampNeg) (xs (nI (4 * k) + 3).toNatClampNeg) (pw_m hB)) (cwV 3 hts gL_law_X3_alter rfl rfl rfl (by decide +kernel) ⟨Nat.le_of_ble_eq_true rfl, Nat.le_of_ble_eq_true rfl⟩) (va_recv hK.1 hP (ci := 5) rfl pz_a18) hK hP hD hS hA rfl hl.1 rfl (Nat.le_of_ble_eq_true rfl) hroom dL_law_277 (fun r2 u2 H locs e2 hP hD hS => ?_)
    obtain ⟨rfl, rfl⟩ := e2
    have hP : va_P (dC, dI) vwCl (pz_wd ad cl (f_X2_alter g ph (xs (nI (4 * k) + 1).toNatClampNeg) (xs (nI (4 * k) + 2).toNatClampNeg) (xs (nI (4 * k) + 3).toNatClampNeg)).2.2 o (f_X2_alter g ph (xs (nI (4 * k) + 1).toNatClampNeg) (xs (nI (4 * k) + 2).toNatClampNeg) (xs (nI (4 * k) + 3).toNatClampNeg)).2.1 (f_X3_alter h (xs (nI (4 * k) + 1).toNatClampNeg) (xs (nI (4 * k) + 2).toNatClampNeg) (xs (nI (4 * k) + 3).toNatClampNeg)).2) H := hP
    have hD : va_D A (pz_wd ad cl (f_X2_alter g ph (xs (nI (4 * k) + 1).toNatClampNeg) (xs (nI (4 * k) + 2).toNatClampNeg) (xs (nI (4 * k) + 3).toNatClampNeg)).2.2 o (f_X2_alter g ph (xs (nI (4 * k) + 1).toNatClampNeg) (xs (nI (4 * k) + 2).toNatClampNeg) (xs (nI (4 * k) + 3).toNatClampNeg)).2.1 (f_X3_alter h (xs (nI (4 * k) + 1).toNatClampNeg) (xs (nI (4 * k) + 2).toNatClampNeg) (xs (nI (4 * k) + 3).toNatClampNeg)).2) := hD
    refine lv_icmp_eq (tgt := 442) hx hb dL_law_280 (by decide) (fun _ => ?_) (fun q9 => absurd (ps_alter hB (xs (nI (4 * k) + 1).toNatClampNeg) (xs (nI (4 * k) + 2).toNatClampNeg) (xs (nI (4 * k) + 3).toNatClampNeg)).1 q9)
    refine W.widen (k := 33 + k + 1) (n := 355 + 6 * k + 6) (by omega) (by omega) ?_
    exact back _ _ _ _ H locs ls h4 (ps_alter hB (xs (nI (4 * k) + 1).toNatClampNeg) (xs (nI (4 * k) + 2).toNatClampNeg) (xs (nI (4 * k) + 3).toNatClampNeg)).2 hP hD hS hl
  by_cases t5 : sel = 5
  · refine pr_tabIn (ki := 5) (tgt := 285) hx hb dL_law_39 t5 (by rfl) (by decide) (by decide) (by rfl) (by decide) ?_
    refine lv_aload_n hx hb dL_law_285 rfl (lv_at hl 2 rfl) ?_
    refine pr_Vi (As := []) (rest := []) ⟨hx, hb, hml, hown, hts⟩ (c_X2_run (ps_IC hB) (pz_OOW (ps_OO hB))) (cwV 0 hts gL_law_X2_run rfl rfl rfl (by decide +kernel) ⟨Nat.le_of_ble_eq_true rfl, Nat.le_of_ble_eq_true rfl⟩) (va_recv hK.1 hP (ci := 4) rfl pz_a0) hK hP hD hS hA rfl hl.1 rfl (Nat.le_of_ble_eq_true rfl) hroom dL_law_286 (fun r1 u1 H locs e1 hP hD hS => ?_)
    obtain ⟨rfl, rfl⟩ := e1
    have hP : va_P (dC, dI) vwCl (pz_wd ad cl (f_X2_run g ph).2.2 o (f_X2_run g ph).2.1 h) H := hP
    have hD : va_D A (pz_wd ad cl (f_X2_run g ph).2.2 o (f_X2_run g ph).2.1 h) := hD
    refine lv_aload_n hx hb dL_law_289 rfl (lv_at hl 3 rfl) ?_
    refine pr_Vi (As := []) (rest := [.int ((f_X2_run g ph).1)]) ⟨hx, hb, hml, hown, hts⟩ (c_X3_run (ps_IM hB)) (cwV 0 hts gL_law_X3_run rfl rfl rfl (by decide +kernel) ⟨Nat.le_of_ble_eq_true rfl, Nat.le_of_ble_eq_true rfl⟩) (va_recv hK.1 hP (ci := 5) rfl pz_a18) hK hP hD hS hA rfl hl.1 rfl (Nat.le_of_ble_eq_true rfl) hroom dL_law_290 (fun r2 u2 H locs e2 hP hD hS => ?_)
    obtain ⟨rfl, rfl⟩ := e2
    have hP : va_P (dC, dI) vwCl (pz_wd ad cl (f_X2_run g ph).2.2 o (f_X2_run g ph).2.1 (f_X3_run h).2) H := hP
    have hD : va_D A (pz_wd ad cl (f_X2_run g ph).2.2 o (f_X2_run g ph).2.1 (f_X3_run h).2) := hD
    refine lv_icmp_eq (tgt := 442) hx hb dL_law_293 (by decide) (fun _ => ?_) (fun q9 => absurd (ps_run hB).1 q9)
    refine W.widen (k := 33 + k + 1) (n := 355 + 6 * k + 6) (by omega) (by omega) ?_
    exact back _ _ _ _ H locs ls h4 (ps_run hB).2 hP hD hS hl
  by_cases t6 : sel = 6
  · refine pr_tabIn (ki := 6) (tgt := 298) hx hb dL_law_39 t6 (by rfl) (by decide) (by decide) (by rfl) (by decide) ?_
    refine lv_aload_n hx hb dL_law_298 rfl (lv_at hl 2 rfl) ?_
    refine pr_Vi (As := []) (rest := []) ⟨hx, hb, hml, hown, hts⟩ (c_X2_begun) (cwV 0 hts gL_law_X2_begun rfl rfl rfl (by decide +kernel) ⟨Nat.le_of_ble_eq_true rfl, Nat.le_of_ble_eq_true rfl⟩) (va_recv hK.1 hP (ci := 4) rfl pz_a0) hK hP hD hS hA rfl hl.1 rfl (Nat.le_of_ble_eq_true rfl) hroom dL_law_299 (fun r1 u1 H locs e1 hP hD hS => ?_)
    obtain rfl := e1
    have hP : va_P (dC, dI) vwCl (pz_wd ad cl ph o g h) H := hP
    have hD : va_D A (pz_wd ad cl ph o g h) := hD
    refine lv_aload_n hx hb dL_law_302 rfl (lv_at hl 3 rfl) ?_
    refine pr_Vi (As := []) (rest := [.int (f_X2_begun g ph)]) ⟨hx, hb, hml, hown, hts⟩ (c_X3_begun) (cwV 0 hts gL_law_X3_begun rfl rfl rfl (by decide +kernel) ⟨Nat.le_of_ble_eq_true rfl, Nat.le_of_ble_eq_true rfl⟩) (va_recv hK.1 hP (ci := 5) rfl pz_a18) hK hP hD hS hA rfl hl.1 rfl (Nat.le_of_ble_eq_true rfl) hroom dL_law_303 (fun r2 u2 H locs e2 hP hD hS => ?_)
    obtain ⟨rfl, rfl⟩ := e2
    have hP : va_P (dC, dI) vwCl (pz_wd ad cl ph o g (f_X3_begun h).2) H := hP
    have hD : va_D A (pz_wd ad cl ph o g (f_X3_begun h).2) := hD
    refine lv_icmp_eq (tgt := 442) hx hb dL_law_306 (by decide) (fun _ => ?_) (fun q9 => absurd (ps_begun hB).1 q9)
    refine W.widen (k := 33 + k + 1) (n := 355 + 6 * k + 6) (by omega) (by omega) ?_
    exact back _ _ _ _ H locs ls h4 (ps_begun hB).2 hP hD hS hl
  by_cases t7 : sel = 7
  · refine pr_tabIn (ki := 7) (tgt := 311) hx hb dL_law_39 t7 (by rfl) (by decide) (by decide) (by rfl) (by decide) ?_
    refine lv_aload_n hx hb dL_law_311 rfl (lv_at hl 2 rfl) ?_
    refine pr_Vi (As := []) (rest := []) ⟨hx, hb, hml, hown, hts⟩ (c_X2_where) (cwV 0 hts gL_law_X2_where rfl rfl rfl (by decide +kernel) ⟨Nat.le_of_ble_eq_true rfl, Nat.le_of_ble_eq_true rfl⟩) (va_recv hK.1 hP (ci := 4) rfl pz_a0) hK hP hD hS hA rfl hl.1 rfl (Nat.le_of_ble_eq_true rfl) hroom dL_law_312 (fun r1 u1 H locs e1 hP hD hS => ?_)
    obtain rfl := e1
    have hP : va_P (dC, dI) vwCl (pz_wd ad cl ph o g h) H := hP
    have hD : va_D A (pz_wd ad cl ph o g h) := hD
    refine lv_aload_n hx hb dL_law_315 rfl (lv_at hl 3 rfl) ?_
    refine pr_Vi (As := []) (rest := [.int (f_X2_where g ph)]) ⟨hx, hb, hml, hown, hts⟩ (c_X3_where) (cwV 0 hts gL_law_X3_where rfl rfl rfl (by decide +kernel) ⟨Nat.le_of_ble_eq_true rfl, Nat.le_of_ble_eq_true rfl⟩) (va_recv hK.1 hP (ci := 5) rfl pz_a18) hK hP hD hS hA rfl hl.1 rfl (Nat.le_of_ble_eq_true rfl) hroom dL_law_316 (fun r2 u2 H locs e2 hP hD hS => ?_)
    obtain ⟨rfl, rfl⟩ := e2
    have hP : va_P (dC, dI) vwCl (pz_wd ad cl ph o g (f_X3_where h).2) H := hP
    have hD : va_D A (pz_wd ad cl ph o g (f_X3_where h).2) := hD
    refine lv_icmp_eq (tgt := 442) hx hb dL_law_319 (by decide) (fun _ => ?_) (fun q9 => absurd (ps_where hB).1 q9)
    refine W.widen (k := 33 + k + 1) (n := 355 + 6 * k + 6) (by omega) (by omega) ?_
    exact back _ _ _ _ H locs ls h4 (ps_where hB).2 hP hD hS hl
  by_cases t8 : sel = 8
  · refine pr_tabIn (ki := 8) (tgt := 324) hx hb dL_law_39 t8 (by rfl) (by decide) (by decide) (by rfl) (by decide) ?_
    refine lv_aload_n hx hb dL_law_324 rfl (lv_at hl 2 rfl) ?_
    refine lv_aload_n hx hb dL_law_325 rfl (lv_at hl 1 rfl) ?_
    refine lv_iload hx hb dL_law_326 (lv_at hl 0 rfl) ?_
    refine lv_iconst (v := 1) hx hb dL_law_328 (by decide) ?_
    refine lv_iadd hx hb dL_law_329 ?_
    refine va_sld hx hb hX hbl hbA hS v1 dL_law_330 ?_
    refine lv_aload_n hx hb dL_law_331 rfl (lv_at hl 1 rfl) ?_
    refine lv_iload hx hb dL_law_332 (lv_at hl 0 rfl) ?_
    refine lv_iconst (v := 2) hx hb dL_law_334 (by decide) ?_
    refine lv_iadd hx hb dL_law_335 ?_
    refine va_sld hx hb hX hbl hbA hS v2 dL_law_336 ?_
    refine pr_Vi (As := [.int (xs (nI (4 * k) + 1).toNatClampNeg), .int (xs (nI (4 * k) + 2).toNatClampNeg)]) (rest := []) ⟨hx, hb, hml, hown, hts⟩ (c_X2_house (xs (nI (4 * k) + 1).toNatClampNeg) (xs (nI (4 * k) + 2).toNatClampNeg)) (cwV 2 hts gL_law_X2_house rfl rfl rfl (by decide +kernel) ⟨Nat.le_of_ble_eq_true rfl, Nat.le_of_ble_eq_true rfl⟩) (va_recv hK.1 hP (ci := 4) rfl pz_a0) hK hP hD hS hA rfl hl.1 rfl (Nat.le_of_ble_eq_true rfl) hroom dL_law_337 (fun r1 u1 H locs e1 hP hD hS => ?_)
    obtain rfl := e1
    have hP : va_P (dC, dI) vwCl (pz_wd ad cl ph o g h) H := hP
    have hD : va_D A (pz_wd ad cl ph o g h) := hD
    refine lv_aload_n hx hb dL_law_340 rfl (lv_at hl 3 rfl) ?_
    refine lv_aload_n hx hb dL_law_341 rfl (lv_at hl 1 rfl) ?_
    refine lv_iload hx hb dL_law_342 (lv_at hl 0 rfl) ?_
    refine lv_iconst (v := 1) hx hb dL_law_344 (by decide) ?_
    refine lv_iadd hx hb dL_law_345 ?_
    refine va_sld hx hb hX hbl hbA hS v1 dL_law_346 ?_
    refine lv_aload_n hx hb dL_law_347 rfl (lv_at hl 1 rfl) ?_
    refine lv_iload hx hb dL_law_348 (lv_at hl 0 rfl) ?_
    refine lv_iconst (v := 2) hx hb dL_law_350 (by decide) ?_
    refine lv_iadd hx hb dL_law_351 ?_
    refine va_sld hx hb hX hbl hbA hS v2 dL_law_352 ?_
    refine pr_Vi (As := [.int (xs (nI (4 * k) + 1).toNatClampNeg), .int (xs (nI (4 * k) + 2).toNatClampNeg)]) (rest := [.int (f_X2_house g ph (xs (nI (4 * k) + 1).toNatClampNeg) (xs (nI (4 * k) + 2).toNatClampNeg))]) ⟨hx, hb, hml, hown, hts⟩ (c_X3_house (xs (nI (4 * k) + 1).toNatClampNeg) (xs (nI (4 * k) + 2).toNatClampNeg)) (cwV 2 hts gL_law_X3_house rfl rfl rfl (by decide +kernel) ⟨Nat.le_of_ble_eq_true rfl, Nat.le_of_ble_eq_true rfl⟩) (va_recv hK.1 hP (ci := 5) rfl pz_a18) hK hP hD hS hA rfl hl.1 rfl (Nat.le_of_ble_eq_true rfl) hroom dL_law_353 (fun r2 u2 H locs e2 hP hD hS => ?_)
    obtain ⟨rfl, rfl⟩ := e2
    have hP : va_P (dC, dI) vwCl (pz_wd ad cl ph o g (f_X3_house h (xs (nI (4 * k) + 1).toNatClampNeg) (xs (nI (4 * k) + 2).toNatClampNeg)).2) H := hP
    have hD : va_D A (pz_wd ad cl ph o g (f_X3_house h (xs (nI (4 * k) + 1).toNatClampNeg) (xs (nI (4 * k) + 2).toNatClampNeg)).2) := hD
    refine lv_icmp_eq (tgt := 442) hx hb dL_law_356 (by decide) (fun _ => ?_) (fun q9 => absurd (ps_house hB (xs (nI (4 * k) + 1).toNatClampNeg) (xs (nI (4 * k) + 2).toNatClampNeg)).1 q9)
    refine W.widen (k := 33 + k + 1) (n := 355 + 6 * k + 6) (by omega) (by omega) ?_
    exact back _ _ _ _ H locs ls h4 (ps_house hB (xs (nI (4 * k) + 1).toNatClampNeg) (xs (nI (4 * k) + 2).toNatClampNeg)).2 hP hD hS hl
  by_cases t9 : sel = 9
  · refine pr_tabIn (ki := 9) (tgt := 361) hx hb dL_law_39 t9 (by rfl) (by decide) (by decide) (by rfl) (by decide) ?_
    refine lv_aload_n hx hb dL_law_361 rfl (lv_at hl 2 rfl) ?_
    refine lv_aload_n hx hb dL_law_362 rfl (lv_at hl 1 rfl) ?_
    refine lv_iload hx hb dL_law_363 (lv_at hl 0 rfl) ?_
    refine lv_iconst (v := 1) hx hb dL_law_365 (by decide) ?_
    refine lv_iadd hx hb dL_law_366 ?_
    refine va_sld hx hb hX hbl hbA hS v1 dL_law_367 ?_
    refine lv_aload_n hx hb dL_law_368 rfl (lv_at hl 4 rfl) ?_
    refine va_calli (vx_runSW (As := [.ref (ad 0), .int (xs (nI (4 * k) + 1).toNatClampNeg), .ref (ad 32)]) (rest := []) ⟨hx, hb, hml, hown, htb⟩ (c_L_row (o := o) (g := g) (h := h) (ph := ph) hst (xs (nI (4 * k) + 1).toNatClampNeg) sa H.size) (vx_cwSW 3 htb gT_law_L_row rfl rfl rfl (by decide +kernel) ⟨Nat.le_of_ble_eq_true rfl, Nat.le_of_ble_eq_true rfl⟩) ⟨pz_Xblind, fun U hU9 hW9 => ⟨rfl, pz_Xgo hU9 hW9 hK hP hD hS hA hstr hU hN h5⟩⟩ rfl rfl hl.1 rfl (lv_room (Nat.le_of_ble_eq_true rfl)) dL_law_369 hroom1) hS (fun q _ h9 => pr_up hD hS hA q h9) (pr_up hD hS hA) (fun r o2 t H1 locs1 ht hvm hp hB9 hz9 hk9 hS1 => ?_)
    obtain ⟨hP9, hD9⟩ := hB9
    rw [ht] at hP9
    have hD9 := hD9.weaken (fun _ q _ h9 => pr_up hD hS hA q.1 h9)
    clear ht hz9 hk9 hvm hP hD hS
    have hP := hP9
    have hD := hD9
    have hS := hS1
    clear hP9 hD9 hS1
    obtain ⟨hBR, hTR, hVR⟩ := ps_row hB (xs (nI (4 * k) + 1).toNatClampNeg)
    rcases hp with ⟨i1, rfl, rfl⟩ | ⟨i1, rfl, rfl⟩
    · refine lv_istore (lv' := [(5, .int 1), (4, .int (nI (4 * k))), (0, .ref b), (1, .ref (ad 0)), (2, .ref (ad 18)), (3, .ref (ad 32))]) hx hb dL_law_372 hl (by decide) rfl (fun ls hl => ?_)
      refine lv_aload_n hx hb dL_law_374 rfl (lv_at hl 4 rfl) ?_
      refine lv_aload_n hx hb dL_law_375 rfl (lv_at hl 2 rfl) ?_
      refine lv_iload hx hb dL_law_376 (lv_at hl 1 rfl) ?_
      refine lv_iconst (v := 1) hx hb dL_law_378 (by decide) ?_
      refine lv_iadd hx hb dL_law_379 ?_
      refine va_sld hx hb hX hbl hbA hS v1 dL_law_380 ?_
      refine pr_Vi (As := [.int (xs (nI (4 * k) + 1).toNatClampNeg)]) (rest := []) ⟨hx, hb, hml, hown, hts⟩ (c_X3_row (xs (nI (4 * k) + 1).toNatClampNeg)) (cwV 1 hts gL_law_X3_row rfl rfl rfl (by decide +kernel) ⟨Nat.le_of_ble_eq_true rfl, Nat.le_of_ble_eq_true rfl⟩) (va_recv hK.1 hP (ci := 5) rfl pz_a18) hK hP hD hS hA rfl hl.1 rfl (Nat.le_of_ble_eq_true rfl) hroom1 dL_law_381 (fun r2 u2 H locs e2 hP hD hS => ?_)
      obtain ⟨rfl, rfl⟩ := e2
      refine lv_istore (lv' := [(6, .int (f_X3_row h (xs (nI (4 * k) + 1).toNatClampNeg)).1), (5, .int 1), (4, .int (nI (4 * k))), (0, .ref b), (1, .ref (ad 0)), (2, .ref (ad 18)), (3, .ref (ad 32))]) hx hb dL_law_384 hl (by decide) rfl (fun ls hl => ?_)
      refine lv_aload_n hx hb dL_law_386 rfl (lv_at hl 5 rfl) ?_
      refine pr_Vi (As := []) (rest := []) ⟨hx, hb, hml, hown, hts⟩ (c_X3_thrown) (cwV 0 hts gL_law_X3_thrown rfl rfl rfl (by decide +kernel) ⟨Nat.le_of_ble_eq_true rfl, Nat.le_of_ble_eq_true rfl⟩) (va_recv hK.1 hP (ci := 5) rfl pz_a18) hK hP hD hS hA rfl hl.1 rfl (Nat.le_of_ble_eq_true rfl) hroom1 dL_law_387 (fun r3 u3 H locs e3 hP hD hS => ?_)
      obtain rfl := e3
      refine lv_iload hx hb dL_law_390 (lv_at hl 1 rfl) ?_
      refine lv_icmp_eq (tgt := 397) hx hb dL_law_392 (by decide) (fun _ => ?_) (fun q9 => absurd (hTR.trans (if_pos i1)) q9)
      refine lv_iload hx hb dL_law_397 (lv_at hl 1 rfl) ?_
      refine lv_if_ne (tgt := 414) hx hb dL_law_399 (by decide) (fun _ => ?_) (fun q9 => absurd q9 (by decide))
      refine lv_goto (tgt := 442) hx hb dL_law_414 (by decide) ?_
      exact back _ _ _ _ H locs ls h4 hBR hP hD hS (lv_sub hl [2, 3, 4, 5, 6] rfl)
    · refine lv_istore (lv' := [(5, .int 0), (4, .int (nI (4 * k))), (0, .ref b), (1, .ref (ad 0)), (2, .ref (ad 18)), (3, .ref (ad 32))]) hx hb dL_law_372 hl (by decide) rfl (fun ls hl => ?_)
      refine lv_aload_n hx hb dL_law_374 rfl (lv_at hl 4 rfl) ?_
      refine lv_aload_n hx hb dL_law_375 rfl (lv_at hl 2 rfl) ?_
      refine lv_iload hx hb dL_law_376 (lv_at hl 1 rfl) ?_
      refine lv_iconst (v := 1) hx hb dL_law_378 (by decide) ?_
      refine lv_iadd hx hb dL_law_379 ?_
      refine va_sld hx hb hX hbl hbA hS v1 dL_law_380 ?_
      refine pr_Vi (As := [.int (xs (nI (4 * k) + 1).toNatClampNeg)]) (rest := []) ⟨hx, hb, hml, hown, hts⟩ (c_X3_row (xs (nI (4 * k) + 1).toNatClampNeg)) (cwV 1 hts gL_law_X3_row rfl rfl rfl (by decide +kernel) ⟨Nat.le_of_ble_eq_true rfl, Nat.le_of_ble_eq_true rfl⟩) (va_recv hK.1 hP (ci := 5) rfl pz_a18) hK hP hD hS hA rfl hl.1 rfl (Nat.le_of_ble_eq_true rfl) hroom1 dL_law_381 (fun r2 u2 H locs e2 hP hD hS => ?_)
      obtain ⟨rfl, rfl⟩ := e2
      refine lv_istore (lv' := [(6, .int (f_X3_row h (xs (nI (4 * k) + 1).toNatClampNeg)).1), (5, .int 0), (4, .int (nI (4 * k))), (0, .ref b), (1, .ref (ad 0)), (2, .ref (ad 18)), (3, .ref (ad 32))]) hx hb dL_law_384 hl (by decide) rfl (fun ls hl => ?_)
      refine lv_aload_n hx hb dL_law_386 rfl (lv_at hl 5 rfl) ?_
      refine pr_Vi (As := []) (rest := []) ⟨hx, hb, hml, hown, hts⟩ (c_X3_thrown) (cwV 0 hts gL_law_X3_thrown rfl rfl rfl (by decide +kernel) ⟨Nat.le_of_ble_eq_true rfl, Nat.le_of_ble_eq_true rfl⟩) (va_recv hK.1 hP (ci := 5) rfl pz_a18) hK hP hD hS hA rfl hl.1 rfl (Nat.le_of_ble_eq_true rfl) hroom1 dL_law_387 (fun r3 u3 H locs e3 hP hD hS => ?_)
      obtain rfl := e3
      refine lv_iload hx hb dL_law_390 (lv_at hl 1 rfl) ?_
      refine lv_icmp_eq (tgt := 397) hx hb dL_law_392 (by decide) (fun _ => ?_) (fun q9 => absurd (hTR.trans (if_neg i1)) q9)
      refine lv_iload hx hb dL_law_397 (lv_at hl 1 rfl) ?_
      refine lv_if_ne (tgt := 414) hx hb dL_law_399 (by decide) (fun q9 => absurd rfl q9) (fun _ => ?_)
      refine lv_aload_n hx hb dL_law_402 rfl (lv_at hl 6 rfl) ?_
      refine lv_iconst (v := 0) hx hb dL_law_403 (by decide) ?_
      refine va_lald hx hb hK.1 hP 32 3 pz_a32 rfl (vp_in_nI (n := 0) (N := 1) (by decide) (by decide)) dL_law_404 ?_
      refine lv_iload hx hb dL_law_405 (lv_at hl 0 rfl) ?_
      refine lv_i2l (v := (g 3 (xs (nI (4 * k) + 1).toNatClampNeg).toNatClampNeg).toInt64) hx hb dL_law_407 (by rw [hVR i1]) ?_
      refine W.lcmp hx hb dL_law_408 ?_
      refine lv_if_eq (tgt := 414) hx hb dL_law_409 (by decide) (fun _ => ?_) (fun q9 => absurd (pw_cmp _) q9)
      refine lv_goto (tgt := 442) hx hb dL_law_414 (by decide) ?_
      exact back _ _ _ _ H locs ls h4 hBR hP hD hS (lv_sub hl [2, 3, 4, 5, 6] rfl)
  by_cases t10 : sel = 10
  · refine pr_tabIn (ki := 10) (tgt := 417) hx hb dL_law_39 t10 (by rfl) (by decide) (by decide) (by rfl) (by decide) ?_
    refine lv_aload_n hx hb dL_law_417 rfl (lv_at hl 2 rfl) ?_
    refine lv_aload_n hx hb dL_law_418 rfl (lv_at hl 1 rfl) ?_
    refine lv_iload hx hb dL_law_419 (lv_at hl 0 rfl) ?_
    refine lv_iconst (v := 1) hx hb dL_law_421 (by decide) ?_
    refine lv_iadd hx hb dL_law_422 ?_
    refine va_sld hx hb hX hbl hbA hS v1 dL_law_423 ?_
    refine pr_Vi (As := [.int (xs (nI (4 * k) + 1).toNatClampNeg)]) (rest := []) ⟨hx, hb, hml, hown, hts⟩ (c_X2_count (xs (nI (4 * k) + 1).toNatClampNeg)) (cwV 1 hts gL_law_X2_count rfl rfl rfl (by decide +kernel) ⟨Nat.le_of_ble_eq_true rfl, Nat.le_of_ble_eq_true rfl⟩) (va_recv hK.1 hP (ci := 4) rfl pz_a0) hK hP hD hS hA rfl hl.1 rfl (Nat.le_of_ble_eq_true rfl) hroom dL_law_424 (fun r1 u1 H locs e1 hP hD hS => ?_)
    obtain rfl := e1
    have hP : va_P (dC, dI) vwCl (pz_wd ad cl ph o g h) H := hP
    have hD : va_D A (pz_wd ad cl ph o g h) := hD
    refine lv_aload_n hx hb dL_law_427 rfl (lv_at hl 3 rfl) ?_
    refine lv_aload_n hx hb dL_law_428 rfl (lv_at hl 1 rfl) ?_
    refine lv_iload hx hb dL_law_429 (lv_at hl 0 rfl) ?_
    refine lv_iconst (v := 1) hx hb dL_law_431 (by decide) ?_
    refine lv_iadd hx hb dL_law_432 ?_
    refine va_sld hx hb hX hbl hbA hS v1 dL_law_433 ?_
    refine pr_Vi (As := [.int (xs (nI (4 * k) + 1).toNatClampNeg)]) (rest := [.int (f_X2_count g ph (xs (nI (4 * k) + 1).toNatClampNeg))]) ⟨hx, hb, hml, hown, hts⟩ (c_X3_count (xs (nI (4 * k) + 1).toNatClampNeg)) (cwV 1 hts gL_law_X3_count rfl rfl rfl (by decide +kernel) ⟨Nat.le_of_ble_eq_true rfl, Nat.le_of_ble_eq_true rfl⟩) (va_recv hK.1 hP (ci := 5) rfl pz_a18) hK hP hD hS hA rfl hl.1 rfl (Nat.le_of_ble_eq_true rfl) hroom dL_law_434 (fun r2 u2 H locs e2 hP hD hS => ?_)
    obtain ⟨rfl, rfl⟩ := e2
    have hP : va_P (dC, dI) vwCl (pz_wd ad cl ph o g (f_X3_count h (xs (nI (4 * k) + 1).toNatClampNeg)).2) H := hP
    have hD : va_D A (pz_wd ad cl ph o g (f_X3_count h (xs (nI (4 * k) + 1).toNatClampNeg)).2) := hD
    refine lv_icmp_eq (tgt := 442) hx hb dL_law_437 (by decide) (fun _ => ?_) (fun q9 => absurd (ps_count hB (xs (nI (4 * k) + 1).toNatClampNeg)).1 q9)
    refine W.widen (k := 33 + k + 1) (n := 355 + 6 * k + 6) (by omega) (by omega) ?_
    exact back _ _ _ _ H locs ls h4 (ps_count hB (xs (nI (4 * k) + 1).toNatClampNeg)).2 hP hD hS hl
  refine lv_tableOut (tgt := 442) hx hb dL_law_39 (by have q0 := lv_neT t0 (by rfl : (0 : Int32).toInt = 0); have q1 := lv_neT t1 (by rfl : (1 : Int32).toInt = 1); have q2 := lv_neT t2 (by rfl : (2 : Int32).toInt = 2); have q3 := lv_neT t3 (by rfl : (3 : Int32).toInt = 3); have q4 := lv_neT t4 (by rfl : (4 : Int32).toInt = 4); have q5 := lv_neT t5 (by rfl : (5 : Int32).toInt = 5); have q6 := lv_neT t6 (by rfl : (6 : Int32).toInt = 6); have q7 := lv_neT t7 (by rfl : (7 : Int32).toInt = 7); have q8 := lv_neT t8 (by rfl : (8 : Int32).toInt = 8); have q9 := lv_neT t9 (by rfl : (9 : Int32).toInt = 9); have q10 := lv_neT t10 (by rfl : (10 : Int32).toInt = 10); omega) (by decide) ?_
  refine W.widen (k := 33 + k + 1) (n := 355 + 6 * k + 6) (by omega) (by omega) ?_
  exact back _ _ _ _ H locs ls h4 hB hP hD hS hl
