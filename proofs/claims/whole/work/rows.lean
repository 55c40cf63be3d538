section
-- ===== PART A: goes FIRST, ahead of the names: the tables' words, and 'selects' of the private methods out of them =====
/-- a private method of a class that the tables say can be made, by its rows of tables_1 -/
def lw_okq (q : MethodName × Nat) : Prop := (q.1.cls ≠ "java/lang/invoke/MethodHandle" ∧ q.1.cls ≠ "java/lang/invoke/VarHandle") ∧ Cond.instantiable q.1.cls q.2 ∈ tables_1 ∧ Cond.privateMethod q.1 ∈ tables_1 ∧ Cond.instanceMethod q.1 ∈ tables_1
theorem lw_p0 : lw_okq (⟨"PowderMill", "followOrder", "()I"⟩, 14) := ⟨⟨by decide +kernel, by decide +kernel⟩, List.mem_of_getElem? (i := 13) (by decide +kernel), List.mem_of_getElem? (i := 157) (by decide +kernel), List.mem_of_getElem? (i := 158) (by decide +kernel)⟩
theorem lw_p1 : lw_okq (⟨"PowderMill", "perform", "(I)I"⟩, 14) := ⟨⟨by decide +kernel, by decide +kernel⟩, List.mem_of_getElem? (i := 13) (by decide +kernel), List.mem_of_getElem? (i := 161) (by decide +kernel), List.mem_of_getElem? (i := 162) (by decide +kernel)⟩
theorem lw_p2 : lw_okq (⟨"PowderMill", "goIn", "(II)I"⟩, 14) := ⟨⟨by decide +kernel, by decide +kernel⟩, List.mem_of_getElem? (i := 13) (by decide +kernel), List.mem_of_getElem? (i := 168) (by decide +kernel), List.mem_of_getElem? (i := 169) (by decide +kernel)⟩
theorem lw_p3 : lw_okq (⟨"PowderMill", "grind", "(I)I"⟩, 14) := ⟨⟨by decide +kernel, by decide +kernel⟩, List.mem_of_getElem? (i := 13) (by decide +kernel), List.mem_of_getElem? (i := 188) (by decide +kernel), List.mem_of_getElem? (i := 189) (by decide +kernel)⟩
theorem lw_p4 : lw_okq (⟨"PowderMill", "carry", "(I)I"⟩, 14) := ⟨⟨by decide +kernel, by decide +kernel⟩, List.mem_of_getElem? (i := 13) (by decide +kernel), List.mem_of_getElem? (i := 200) (by decide +kernel), List.mem_of_getElem? (i := 201) (by decide +kernel)⟩
theorem lw_p5 : lw_okq (⟨"PowderMill", "share", "(I)I"⟩, 14) := ⟨⟨by decide +kernel, by decide +kernel⟩, List.mem_of_getElem? (i := 13) (by decide +kernel), List.mem_of_getElem? (i := 208) (by decide +kernel), List.mem_of_getElem? (i := 209) (by decide +kernel)⟩
theorem lw_p6 : lw_okq (⟨"PowderMill", "write", "(I)I"⟩, 14) := ⟨⟨by decide +kernel, by decide +kernel⟩, List.mem_of_getElem? (i := 13) (by decide +kernel), List.mem_of_getElem? (i := 212) (by decide +kernel), List.mem_of_getElem? (i := 213) (by decide +kernel)⟩
theorem lw_p7 : lw_okq (⟨"PowderMill", "isCaught", "(II)Z"⟩, 14) := ⟨⟨by decide +kernel, by decide +kernel⟩, List.mem_of_getElem? (i := 13) (by decide +kernel), List.mem_of_getElem? (i := 223) (by decide +kernel), List.mem_of_getElem? (i := 224) (by decide +kernel)⟩
theorem lw_p8 : lw_okq (⟨"PowderMill", "standingHouses", "()I"⟩, 14) := ⟨⟨by decide +kernel, by decide +kernel⟩, List.mem_of_getElem? (i := 13) (by decide +kernel), List.mem_of_getElem? (i := 252) (by decide +kernel), List.mem_of_getElem? (i := 253) (by decide +kernel)⟩
theorem lw_p9 : lw_okq (⟨"java/lang/Throwable", "fillInStackTrace", "(I)Ljava/lang/Throwable;"⟩, 6) := ⟨⟨by decide +kernel, by decide +kernel⟩, List.mem_of_getElem? (i := 287) (by decide +kernel), List.mem_of_getElem? (i := 285) (by decide +kernel), List.mem_of_getElem? (i := 286) (by decide +kernel)⟩
theorem lw_p10 : lw_okq (⟨"PowderMillModel", "cleared", "(IIZ)V"⟩, 20) := ⟨⟨by decide +kernel, by decide +kernel⟩, List.mem_of_getElem? (i := 340) (by decide +kernel), List.mem_of_getElem? (i := 422) (by decide +kernel), List.mem_of_getElem? (i := 423) (by decide +kernel)⟩
theorem lw_p11 : lw_okq (⟨"PowderMillModel", "does", "(II)I"⟩, 20) := ⟨⟨by decide +kernel, by decide +kernel⟩, List.mem_of_getElem? (i := 340) (by decide +kernel), List.mem_of_getElem? (i := 446) (by decide +kernel), List.mem_of_getElem? (i := 447) (by decide +kernel)⟩
theorem lw_p12 : lw_okq (⟨"PowderMillModel", "goIn", "(I)I"⟩, 20) := ⟨⟨by decide +kernel, by decide +kernel⟩, List.mem_of_getElem? (i := 340) (by decide +kernel), List.mem_of_getElem? (i := 453) (by decide +kernel), List.mem_of_getElem? (i := 454) (by decide +kernel)⟩
theorem lw_p13 : lw_okq (⟨"PowderMillModel", "comes", "(II)I"⟩, 20) := ⟨⟨by decide +kernel, by decide +kernel⟩, List.mem_of_getElem? (i := 340) (by decide +kernel), List.mem_of_getElem? (i := 457) (by decide +kernel), List.mem_of_getElem? (i := 458) (by decide +kernel)⟩
theorem lw_p14 : lw_okq (⟨"PowderMillModel", "carry", "(I)I"⟩, 20) := ⟨⟨by decide +kernel, by decide +kernel⟩, List.mem_of_getElem? (i := 340) (by decide +kernel), List.mem_of_getElem? (i := 461) (by decide +kernel), List.mem_of_getElem? (i := 462) (by decide +kernel)⟩
theorem lw_p15 : lw_okq (⟨"PowderMillModel", "share", "(I)I"⟩, 20) := ⟨⟨by decide +kernel, by decide +kernel⟩, List.mem_of_getElem? (i := 340) (by decide +kernel), List.mem_of_getElem? (i := 465) (by decide +kernel), List.mem_of_getElem? (i := 466) (by decide +kernel)⟩
def lw_privs_1 : List (MethodName × Nat) := [(⟨"PowderMill", "followOrder", "()I"⟩, 14), (⟨"PowderMill", "perform", "(I)I"⟩, 14), (⟨"PowderMill", "goIn", "(II)I"⟩, 14), (⟨"PowderMill", "grind", "(I)I"⟩, 14), (⟨"PowderMill", "carry", "(I)I"⟩, 14), (⟨"PowderMill", "share", "(I)I"⟩, 14), (⟨"PowderMill", "write", "(I)I"⟩, 14), (⟨"PowderMill", "isCaught", "(II)Z"⟩, 14), (⟨"PowderMill", "standingHouses", "()I"⟩, 14), (⟨"java/lang/Throwable", "fillInStackTrace", "(I)Ljava/lang/Throwable;"⟩, 6), (⟨"PowderMillModel", "cleared", "(IIZ)V"⟩, 20), (⟨"PowderMillModel", "does", "(II)I"⟩, 20), (⟨"PowderMillModel", "goIn", "(I)I"⟩, 20), (⟨"PowderMillModel", "comes", "(II)I"⟩, 20), (⟨"PowderMillModel", "carry", "(I)I"⟩, 20), (⟨"PowderMillModel", "share", "(I)I"⟩, 20)]
theorem lw_r1 : ∀ q ∈ lw_privs_1, lw_okq q := List.forall_mem_cons.mpr ⟨lw_p0, List.forall_mem_cons.mpr ⟨lw_p1, List.forall_mem_cons.mpr ⟨lw_p2, List.forall_mem_cons.mpr ⟨lw_p3, List.forall_mem_cons.mpr ⟨lw_p4, List.forall_mem_cons.mpr ⟨lw_p5, List.forall_mem_cons.mpr ⟨lw_p6, List.forall_mem_cons.mpr ⟨lw_p7, List.forall_mem_cons.mpr ⟨lw_p8, List.forall_mem_cons.mpr ⟨lw_p9, List.forall_mem_cons.mpr ⟨lw_p10, List.forall_mem_cons.mpr ⟨lw_p11, List.forall_mem_cons.mpr ⟨lw_p12, List.forall_mem_cons.mpr ⟨lw_p13, List.forall_mem_cons.mpr ⟨lw_p14, List.forall_mem_cons.mpr ⟨lw_p15, fun _ h => absurd h List.not_mem_nil⟩⟩⟩⟩⟩⟩⟩⟩⟩⟩⟩⟩⟩⟩⟩⟩
theorem lw_p16 : lw_okq (⟨"PowderMillModel", "write", "(I)I"⟩, 20) := ⟨⟨by decide +kernel, by decide +kernel⟩, List.mem_of_getElem? (i := 340) (by decide +kernel), List.mem_of_getElem? (i := 469) (by decide +kernel), List.mem_of_getElem? (i := 470) (by decide +kernel)⟩
theorem lw_p17 : lw_okq (⟨"PowderMillModel", "isCaught", "()Z"⟩, 20) := ⟨⟨by decide +kernel, by decide +kernel⟩, List.mem_of_getElem? (i := 340) (by decide +kernel), List.mem_of_getElem? (i := 473) (by decide +kernel), List.mem_of_getElem? (i := 474) (by decide +kernel)⟩
theorem lw_p18 : lw_okq (⟨"PowderMillModel", "isHouse", "(I)Z"⟩, 20) := ⟨⟨by decide +kernel, by decide +kernel⟩, List.mem_of_getElem? (i := 340) (by decide +kernel), List.mem_of_getElem? (i := 489) (by decide +kernel), List.mem_of_getElem? (i := 490) (by decide +kernel)⟩
def lw_privs_2 : List (MethodName × Nat) := [(⟨"PowderMillModel", "write", "(I)I"⟩, 20), (⟨"PowderMillModel", "isCaught", "()Z"⟩, 20), (⟨"PowderMillModel", "isHouse", "(I)Z"⟩, 20)]
theorem lw_r2 : ∀ q ∈ lw_privs_2, lw_okq q := List.forall_mem_cons.mpr ⟨lw_p16, List.forall_mem_cons.mpr ⟨lw_p17, List.forall_mem_cons.mpr ⟨lw_p18, fun _ h => absurd h List.not_mem_nil⟩⟩⟩
def lw_privs : List (MethodName × Nat) := lw_privs_1 ++ (lw_privs_2)
def lw_tbl : List Cond := k2_sels lw_privs ++ tables_1
theorem lw_privs_ok : ∀ q ∈ lw_privs, lw_okq q := by
  show ∀ q ∈ lw_privs_1 ++ (lw_privs_2), lw_okq q
  exact List.forall_mem_append.mpr ⟨lw_r1, lw_r2⟩
/-! ===== BEGIN words of one list among another's, by their places ===== -/
theorem goodIn_r {big : List Cond} (ws : List Cond) (ps : List Nat) (hp : ws = ps.filterMap (fun i => big[i]?)) (h : ws.all goodWord = true) : GoodIn big ws := by
  intro w hw
  have h1 := List.all_eq_true.mp h w hw
  rw [hp] at hw
  obtain ⟨i, -, hi⟩ := List.mem_filterMap.mp hw
  have hm : w ∈ big := by first | exact List.mem_of_getElem? hi | exact List.getElem?_mem hi
  exact ⟨hm, good_of_word h1⟩
theorem goodIn_app {big a b : List Cond} (ha : GoodIn big a) (hb : GoodIn big b) : GoodIn big (a ++ b) := fun w h => (List.mem_append.mp h).elim (ha w) (hb w)
theorem goodIn_ca {big a b : List Cond} {c : Cond} (ha : GoodIn big (c :: a)) (hb : GoodIn big b) : GoodIn big (c :: (a ++ b)) := fun w h => (List.mem_cons.mp h).elim (fun e => ha w (List.mem_cons.mpr (Or.inl e))) (fun h => (List.mem_append.mp h).elim (fun h => ha w (List.mem_cons.mpr (Or.inr h))) (hb w))
theorem goodIn_sub {big ws : List Cond} (hm : ∀ w ∈ ws, w ∈ big) (h : ws.all goodWord = true) : GoodIn big ws := fun w hw => ⟨hm w hw, good_of_word (List.all_eq_true.mp h w hw)⟩
/-! ===== END ===== -/
end
section
/-! ===== BEGIN exceptions that leave a method, and their catching by the caller (launches without stack traces) ===== -/
section VXA
/-! The laws vx_back, vx_callV, vx_callS, vx_callSW, vx_throw0, vx_throwS follow proofs of the library, with one case more: JvmDerived/Free/Laws.lean (Back.of_free), Shelf42/LK1.lean (callV, callS), Shelf/KitTraced.lean (throwNew0V, throwNewS). -/
/-- where a method has thrown q: the class by its name, the cell, what was written, the world -/
def vx_T (XC : String → State → State → Prop) (st : State) (q : Addr) (t : State) (mc ms : Nat) (free : Addr → Prop) : Prop :=
  ∃ (E : String) (ce : Cell) (L : List Loc), XC E st t ∧ t.heap[q]? = some ce ∧ ce.vm = .none ∧ st.vm.findClass E = some ce.cls ∧ st.WarmedH t.vm ∧ st.sameButNew ({ t with vm := st.vm } : State) L mc ms ∧ ∀ z ∈ L, free z.base
def vx_Q (Qc : Array Value → State → Outcome → State → Prop) (XC : String → State → State → Prop) (mc ms : Nat) (free : Addr → Prop) : Array Value → State → Outcome → State → Prop := fun a st o t =>
  (Qc a st o t ∧ ∃ L, FrameEnd st o t L mc ms ∧ ∀ q ∈ L, free q.base) ∨ ∃ q, o = .threw q ∧ vx_T XC st q t mc ms free
/-- a callee that returns or throws -/
def vx_Met (l : Launch) (y : MethodName) (ws : List Cond) (rm : Room) (Pc : Array Value → State → Prop) (Qc : Array Value → State → Outcome → State → Prop) (XC : String → State → State → Prop) (mc ms : Nat) (free : Addr → Prop) : Prop :=
  MetFree l y (headSpec ws rm) Pc (fun _ _ _ _ _ => True) (vx_Q Qc XC mc ms free)
def vx_Post (XC : String → State → State → Prop) (mc ms : Nat) (free : Addr → Prop) : Pt → Array Value → Addr → Pt → Prop := fun A a q B =>
  ∃ (g : JFrame) (mk : MethodId) (t : State) (L : List Loc) (E : String) (ce : Cell), B.U.heap = t.heap ∧ B.U.vm = t.vm ∧ XC E (A.U.calling g mk a) t ∧ t.heap[q]? = some ce ∧ ce.vm = .none ∧ A.U.vm.findClass E = some ce.cls ∧ B.locs = A.locs ++ L ∧ (∀ z ∈ L, free z.base) ∧ B.cells = A.cells + mc ∧ B.slots = A.slots + ms
def vx_Back (l : Launch) (R : Room) (p : Program) (e : Env) (below : List Frame) (s : State) (sargs : Array Value) (y : MethodName) (len W9 : Nat)
    (Pre : Pt → Array Value → Prop) (Post : Pt → Array Value → Option Value → Pt → Prop) (PostX : Pt → Array Value → Addr → Pt → Prop) : Prop :=
  ∀ (m : MethodId) (meth : Method) (c : Code) (A : Pt) (g : JFrame) (ig : Instr) (mk : MethodId) (a : Array Value),
    Stand p l e R s m sargs below meth c A.U A.locs A.cells A.slots → g.method = m → g.locals.size = c.maxLocals → decode c.code g.pc = .ok (ig, len) →
    2 * g.monitorRoom + (g.stack.map fun v => v.category).sum ≤ W9 → A.U.methodNamed? y = some mk → Pre A a →
    (∃ (v : Option Value) (B : Pt), Stand p l e R s m sargs below meth c B.U B.locs B.cells B.slots ∧ Post A a v B ∧
      Steps p.tables e below (doInvoke e (A.U.setTop g) [] mk a).1 (B.U.setTop { g with pc := g.pc + len, stack := v.toList ++ g.stack })) ∨
    (∃ (q : Addr) (B : Pt), Stand p l e R s m sargs below meth c B.U B.locs B.cells B.slots ∧ PostX A a q B ∧
      Steps p.tables e below (doInvoke e (A.U.setTop g) [] mk a).1 ((B.U.setTop g).pushFrame (.throwing q)))
section Payer
variable {l : Launch} {R : Room} {p : Program} {e : Env} {below : List Frame} {s : State} {sargs : Array Value} {y : MethodName} {len W9 : Nat}
theorem vx_back {ws : List Cond} {rm : Room} {Pc : Array Value → State → Prop} {Qc : Array Value → State → Outcome → State → Prop} {XC : String → State → State → Prop} {mc ms : Nat} {free : Addr → Prop} {bytes : ByteArray} {maxL : Nat} {ret : Option FieldType}
    (hM : vx_Met l y ws rm Pc Qc XC mc ms free) (hblind : FrameBlind Pc) (hrc : rm.cells = mc) (hrs : rm.slots = ms)
    (hframes : rm.frames + 1 ≤ R.frames) (hlocals : W9 + (maxL + 11) + rm.locals ≤ R.locals)
    (hws : ∀ w ∈ ws, ∀ a' U, s.WarmedH U.vm → w.before a' U = true) (hcode : Cond.code y bytes maxL ret ∈ ws) (hinit : ∀ a' U, s.WarmedH U.vm → (Cond.initialized y.cls).before a' U = true) :
    vx_Back l R p e below s sargs y len W9 (PreOf R mc ms Pc) (PostOf Qc mc ms free) (vx_Post XC mc ms free) := by
  intro m meth c A g ig mk a X hg hsize hdg hW hn hp
  have h1 : (headSpec ws rm).pre.before a A.U = true := atoms_intro fun w hw => hws w hw _ _ X.warmed
  have h2 : (Cond.code y bytes maxL ret).before a A.U = true := hws _ hcode _ _ X.warmed
  have h3 : (Cond.initialized y.cls).before a A.U = true := hinit _ _ X.warmed
  have h4 : A.cells + (headSpec ws rm).room.cells ≤ R.cells := by rw [show (headSpec ws rm).room.cells = mc from hrc]; exact hp.1
  have h5 : A.slots + (headSpec ws rm).room.slots ≤ R.slots := by rw [show (headSpec ws rm).room.slots = ms from hrs]; exact hp.2.1
  have hPc : Pc a (A.U.calling g mk a) := hblind _ _ _ _ hp.2.2
  obtain ⟨U, Ls, c0, s0⟩ := A
  dsimp only [Pt.U, Pt.locs, Pt.cells, Pt.slots] at h1 h2 h3 h4 h5 X hn hPc ⊢
  obtain ⟨methY, cY, hmY, hcY, -, hlY, -, -, -, -⟩ := Cond.code_spec hn h2
  obtain ⟨kY, hkY, -⟩ := className_of_methodNamed hn
  have hinitY : kY.init = .initialized := Cond.initialized_spec (findClass_of_methodNamed hn) hkY h3
  have h : At U g.method c below := by rw [hg]; exact X.here
  have hlocals9 : W9 + (maxL + 11) + (headSpec ws rm).room.locals ≤ R.locals := hlocals
  have happ : (headSpec ws rm).appliesLoose y e.platform (U.calling g mk a) = true :=
    Spec.appliesLoose_calling (g := g) h hdg hn hkY hinitY
      (X.room_calling (g := g) (R' := (headSpec ws rm).room) hsize hmY hcY hframes (by rw [hlY]; omega) h4 h5) h1
  obtain ⟨mid, hmid⟩ := h.above
  have hfr : (U.setTop g).frames = (.java g :: mid) ++ below := by rw [State.frames_setTop' g h.top, hmid]; rfl
  obtain ⟨o, s₂, hsteps, -, hend, hq⟩ := Steps.callFree hM p X.admits X.cas X.clock (acts := []) hfr happ hPc trivial
  have hq' : vx_Q Qc XC mc ms free a (U.calling g mk a) o s₂ := hq
  rw [State.frames_setTop' g h.top] at hend
  obtain ⟨g₀, hg0⟩ := Option.isSome_iff_exists.mp h.top
  obtain ⟨r, hr⟩ := State.topJava?_eq_some.mp hg0
  have hr' : (({ U with heap := s₂.heap, slotsUsed := s₂.slotsUsed } : State).setVm s₂.vm).frames = .java g₀ :: r := hr
  rcases hq' with ⟨hqc, L, hfe, hL⟩ | ⟨q, rfl, E, ce, L, hx, hce, hcv, hcl, hW₂, hsm, hL⟩
  · obtain ⟨⟨v, rfl⟩, hW₂, e2, q2, q3, q4, q5, q6⟩ := id hfe
    have e3 : s₂ = ({ (U.calling g mk a).setFrames s₂.frames with heap := s₂.heap, slotsUsed := s₂.slotsUsed } : State).setVm s₂.vm := by
      have : s₂ = ({ s₂ with vm := (U.calling g mk a).vm } : State).setVm s₂.vm := rfl
      rw [e2] at this
      exact this
    obtain ⟨c₂, i₂, len₂, hc₂, hd₂, hf₂⟩ := hend
    have hW' : U.WarmedH s₂.vm := hW₂
    have hcc : c₂ = c := by
      have h1 : s₂.code? g.method = U.code? g.method := by
        rw [State.code?_eq, State.code?_eq, hW'.alike.method?]
      exact Option.some.inj (hc₂.symm.trans (h1.trans h.code))
    subst hcc
    have hlen : len₂ = len := by rw [hdg] at hd₂; cases hd₂; rfl
    subst hlen
    have hs₂ : s₂ = (({ U with heap := s₂.heap, slotsUsed := s₂.slotsUsed } : State).setVm s₂.vm).setTop { g with pc := g.pc + len₂, stack := v.toList ++ g.stack } := by
      refine e3.trans ?_
      rw [hf₂, State.calling_eq h.top, State.setFrames_setFrames, State.setTop_of_frames _ hr', hr]
      rfl
    have hsame : U.sameButNew ({ U with heap := s₂.heap, slotsUsed := s₂.slotsUsed } : State) L mc ms := by
      refine ⟨?_, q2, q3, q4, q5, q6⟩
      obtain ⟨t, ht, -⟩ := State.frames_cons hr
      show ({ U with heap := s₂.heap, slotsUsed := s₂.slotsUsed } : State) = { U.setFrames U.frames with heap := s₂.heap, slotsUsed := s₂.slotsUsed }
      rw [State.setFrames_self ht]
    subst hg
    refine Or.inl ⟨v, ⟨(({ U with heap := s₂.heap, slotsUsed := s₂.slotsUsed } : State).setVm s₂.vm), Ls ++ L, c0 + mc, s0 + ms⟩,
      ⟨X.admits, X.cas, X.clock, X.frames, X.room, X.hears, X.method, X.code, (X.here.setHeapUsed s₂.heap s₂.slotsUsed).setVm hW'.alike, X.tail, State.WarmedH.trans X.warmed hW', X.limits, X.bytes, X.same.trans (hsame.setVm s.vm)⟩,
      ⟨g, mk, s₂, L, rfl, rfl, hqc, rfl, hL, rfl, rfl⟩, ?_⟩
    show Steps p.tables e below _ ((({ U with heap := s₂.heap, slotsUsed := s₂.slotsUsed } : State).setVm s₂.vm).setTop { g with pc := g.pc + len₂, stack := v.toList ++ g.stack })
    rw [← hs₂]
    exact hsteps
  · obtain ⟨e2, q2, q3, q4, q5, q6⟩ := id hsm
    have e3 : s₂ = ({ (U.calling g mk a).setFrames s₂.frames with heap := s₂.heap, slotsUsed := s₂.slotsUsed } : State).setVm s₂.vm := by
      have : s₂ = ({ s₂ with vm := (U.calling g mk a).vm } : State).setVm s₂.vm := rfl
      rw [e2] at this
      exact this
    have hf₂ : s₂.frames = .throwing q :: .java g :: U.frames.tail := hend
    have hW' : U.WarmedH s₂.vm := hW₂
    have hs₂ : s₂ = ((({ U with heap := s₂.heap, slotsUsed := s₂.slotsUsed } : State).setVm s₂.vm).setTop g).pushFrame (.throwing q) := by
      refine e3.trans ?_
      rw [hf₂, State.calling_eq h.top, State.setFrames_setFrames, State.pushFrame, State.frames_setTop _ hr', State.setTop_of_frames _ hr', State.setFrames_setFrames, hr]
      rfl
    have hsame : U.sameButNew ({ U with heap := s₂.heap, slotsUsed := s₂.slotsUsed } : State) L mc ms := by
      refine ⟨?_, q2, q3, q4, q5, q6⟩
      obtain ⟨t, ht, -⟩ := State.frames_cons hr
      show ({ U with heap := s₂.heap, slotsUsed := s₂.slotsUsed } : State) = { U.setFrames U.frames with heap := s₂.heap, slotsUsed := s₂.slotsUsed }
      rw [State.setFrames_self ht]
    subst hg
    refine Or.inr ⟨q, ⟨(({ U with heap := s₂.heap, slotsUsed := s₂.slotsUsed } : State).setVm s₂.vm), Ls ++ L, c0 + mc, s0 + ms⟩,
      ⟨X.admits, X.cas, X.clock, X.frames, X.room, X.hears, X.method, X.code, (X.here.setHeapUsed s₂.heap s₂.slotsUsed).setVm hW'.alike, X.tail, State.WarmedH.trans X.warmed hW', X.limits, X.bytes, X.same.trans (hsame.setVm s.vm)⟩,
      ⟨g, mk, s₂, L, E, ce, rfl, rfl, hx, hce, hcv, hcl, rfl, hL, rfl, rfl⟩, ?_⟩
    show Steps p.tables e below _ (((({ U with heap := s₂.heap, slotsUsed := s₂.slotsUsed } : State).setVm s₂.vm).setTop g).pushFrame (.throwing q))
    rw [← hs₂]
    exact hsteps
end Payer
section Calls
variable {p : Program} {l : Launch} {e : Env} {R : Room} {s : State} {m : MethodId} {args : Array Value} {below : List Frame} {meth : Method} {c : Code} {T : State} {locs : List Loc} {cells slots : Nat}
theorem vx_callV (X : Stand p l e R s m args below meth c T locs cells slots) (hexec : p.tables.exec = Jvm.exec) {own C : String} {index : Nat} {y : MethodName} {bytes : ByteArray} {maxL : Nat} {ret : Option FieldType}
    (hown : s.vm.findClass own = some m.cls) (hlink : (Cond.methodLink own index y).before args s = true) (hinst : (Cond.instanceMethod y).before args s = true) (hsel : (Cond.selects C y y).before args s = true)
    (hcode : (Cond.code y bytes maxL ret).before args s = true) (hy : y.cls ≠ "java/lang/invoke/MethodHandle" ∧ y.cls ≠ "java/lang/invoke/VarHandle")
    {W9 : Nat} {Pre : Pt → Array Value → Prop} {Post : Pt → Array Value → Option Value → Pt → Prop} {PostX : Pt → Array Value → Addr → Pt → Prop} (hK : vx_Back l R p e below s args y 3 W9 Pre Post PostX)
    {b : Addr} {cellB : Cell} (hcell : T.heap[b]? = some cellB) (hobj : cellB.vm.isStatics = false) (hcls : s.vm.findClass C = some cellB.cls)
    {g : JFrame} (hg : g.method = m) (hsize : g.locals.size = c.maxLocals) {argsL rest : List Value} (hlen : ∀ sig, parseMethodDescriptor y.desc = some sig → argsL.length = sig.parameters.length)
    (hstack : g.stack = argsL.reverse ++ .ref b :: rest) (hW : 2 * g.monitorRoom + (rest.map fun v => v.category).sum ≤ W9) (hdg : decode c.code g.pc = .ok (.invokevirtual index, 3))
    (hpre : ∀ vm₁, s.WarmedH vm₁ → Pre ⟨T.setVm vm₁, locs, cells, slots⟩ (Value.ref b :: argsL).toArray) :
    (∃ (v : Option Value) (vm₁ : Vm) (B : Pt), s.WarmedH vm₁ ∧ Stand p l e R s m args below meth c B.U B.locs B.cells B.slots ∧ Post ⟨T.setVm vm₁, locs, cells, slots⟩ (Value.ref b :: argsL).toArray v B ∧
      ∀ target, Steps p.tables e below (B.U.setTop { g with pc := g.pc + 3, stack := v.toList ++ rest }) target → Steps p.tables e below (T.setTop g) target) ∨
    (∃ (q : Addr) (vm₁ : Vm) (B : Pt), s.WarmedH vm₁ ∧ Stand p l e R s m args below meth c B.U B.locs B.cells B.slots ∧ PostX ⟨T.setVm vm₁, locs, cells, slots⟩ (Value.ref b :: argsL).toArray q B ∧
      Steps p.tables e below (T.setTop g) ((B.U.setTop { g with stack := rest }).pushFrame (.throwing q))) := by
  obtain ⟨mk, methM, hnamed, hmethM, hstM, habM⟩ := Cond.instanceMethod_spec hinst
  obtain ⟨methM', cM, hmethM', -, -, -, -, -, -, hsigM⟩ := Cond.code_spec hnamed hcode
  cases hmethM.symm.trans hmethM'
  obtain ⟨c2, r2, m2, q1, q2, q3, q4, kP, hkP, hkPi⟩ := Cond.selects_spec hsel
  cases hcls.symm.trans q1
  cases (State.methodFound?_of_named hnamed hy).symm.trans q2
  cases hnamed.symm.trans q3
  have hselP : selectMethod e.platform s.vm cellB.cls mk = .method mk := by rw [Launch.admits_selectMethod X.admits]; exact q4
  obtain ⟨vm₁, X₁, hstep₁⟩ := X.invokevirtual hexec hown hlink hnamed hmethM hstM hkP hkPi hy (a := b) (cell := cellB) hcell
    (fun z h => by rw [h] at hobj; cases hobj) hselP hmethM habM hkP hkPi (g := g) hg (argsL := argsL) (rest := rest) (hlen _ hsigM) hstack hdg
  rcases hK m meth c ⟨T.setVm vm₁, locs, cells, slots⟩ { g with stack := rest } (.invokevirtual index) mk (Value.ref b :: argsL).toArray X₁ hg hsize hdg hW (X₁.named hnamed) (hpre vm₁ X₁.warmed) with ⟨v, B, X', hpost, hsteps⟩ | ⟨q, B, X', hpost, hsteps⟩
  · exact Or.inl ⟨v, vm₁, B, X₁.warmed, X', hpost, fun target h => hstep₁ _ fun acts => by rw [doInvoke_state]; exact hsteps.trans h⟩
  · exact Or.inr ⟨q, vm₁, B, X₁.warmed, X', hpost, hstep₁ _ fun acts => by rw [doInvoke_state]; exact hsteps⟩
theorem vx_callS (X : Stand p l e R s m args below meth c T locs cells slots) (hexec : p.tables.exec = Jvm.exec) {own : String} {index : Nat} {y : MethodName} {bytes : ByteArray} {maxL : Nat} {ret : Option FieldType}
    (hown : s.vm.findClass own = some m.cls) (hlink : (Cond.methodLink own index y).before args s = true) (hstat : (Cond.static y).before args s = true) (hinit : (Cond.initialized y.cls).before args s = true)
    (hcode : (Cond.code y bytes maxL ret).before args s = true) (hy : y.cls ≠ "java/lang/invoke/MethodHandle" ∧ y.cls ≠ "java/lang/invoke/VarHandle")
    {W9 : Nat} {Pre : Pt → Array Value → Prop} {Post : Pt → Array Value → Option Value → Pt → Prop} {PostX : Pt → Array Value → Addr → Pt → Prop} (hK : vx_Back l R p e below s args y 3 W9 Pre Post PostX)
    {g : JFrame} (hg : g.method = m) (hsize : g.locals.size = c.maxLocals) {argsL rest : List Value} (hlen : ∀ sig, parseMethodDescriptor y.desc = some sig → argsL.length = sig.parameters.length)
    (hstack : g.stack = argsL.reverse ++ rest) (hW : 2 * g.monitorRoom + (rest.map fun v => v.category).sum ≤ W9) (hdg : decode c.code g.pc = .ok (.invokestatic index, 3))
    (hpre : ∀ vm₁, s.WarmedH vm₁ → Pre ⟨T.setVm vm₁, locs, cells, slots⟩ argsL.toArray) :
    (∃ (v : Option Value) (vm₁ : Vm) (B : Pt), s.WarmedH vm₁ ∧ Stand p l e R s m args below meth c B.U B.locs B.cells B.slots ∧ Post ⟨T.setVm vm₁, locs, cells, slots⟩ argsL.toArray v B ∧
      ∀ target, Steps p.tables e below (B.U.setTop { g with pc := g.pc + 3, stack := v.toList ++ rest }) target → Steps p.tables e below (T.setTop g) target) ∨
    (∃ (q : Addr) (vm₁ : Vm) (B : Pt), s.WarmedH vm₁ ∧ Stand p l e R s m args below meth c B.U B.locs B.cells B.slots ∧ PostX ⟨T.setVm vm₁, locs, cells, slots⟩ argsL.toArray q B ∧
      Steps p.tables e below (T.setTop g) ((B.U.setTop { g with stack := rest }).pushFrame (.throwing q))) := by
  obtain ⟨mk, hnamed⟩ := Cond.code_named hcode
  obtain ⟨methM, cM, hmethM, -, -, -, -, -, -, hsigM⟩ := Cond.code_spec hnamed hcode
  have hstatic : methM.isStatic = true := Cond.static_spec hnamed hmethM hstat
  obtain ⟨kP, hkP, -⟩ := className_of_methodNamed hnamed
  have hinitP : kP.init = .initialized := Cond.initialized_spec (findClass_of_methodNamed hnamed) hkP hinit
  obtain ⟨vm₁, X₁, hstep₁⟩ := X.invokestatic hexec hown hlink hnamed hmethM hstatic hkP hinitP hy (g := g) hg (argsL := argsL) (rest := rest) (hlen _ hsigM) hstack hdg
  rcases hK m meth c ⟨T.setVm vm₁, locs, cells, slots⟩ { g with stack := rest } (.invokestatic index) mk argsL.toArray X₁ hg hsize hdg hW (X₁.named hnamed) (hpre vm₁ X₁.warmed) with ⟨v, B, X', hpost, hsteps⟩ | ⟨q, B, X', hpost, hsteps⟩
  · exact Or.inl ⟨v, vm₁, B, X₁.warmed, X', hpost, fun target h => hstep₁ _ fun acts => by rw [doInvoke_state]; exact hsteps.trans h⟩
  · exact Or.inr ⟨q, vm₁, B, X₁.warmed, X', hpost, hstep₁ _ fun acts => by rw [doInvoke_state]; exact hsteps⟩
end Calls
theorem vx_cls {s : State} {T : State} {vm₁ : Vm} {E : String} {k : ClassId} (hW : s.WarmedH vm₁) (h : (T.setVm vm₁).vm.findClass E = some k) : s.vm.findClass E = some k := by
  have h1 : vm₁.findClass E = some k := h
  rw [hW.alike.findClass] at h1
  exact h1
/-- the method's frame g, with q thrown over it -/
def vx_W (p : Program) (l : Launch) (e : Env) (R : Room) (s : State) (m : MethodId) (args : Array Value) (below : List Frame) (meth : Method) (c : Code) (H : Heap) (locs : List Loc) (cells slots : Nat) (Q : State → Prop) (g : JFrame) (q : Addr) : Prop :=
  ∀ T : State, T.heap = H → Stand p l e R s m args below meth c T locs cells slots → ∃ t, Steps p.tables e below ((T.setTop g).pushFrame (.throwing q)) t ∧ Q t
def vx_Run (p : Program) (l : Launch) (e : Env) (R : Room) (s : State) (m : MethodId) (args : Array Value) (below : List Frame) (meth : Method) (c : Code) (H : Heap) (locs : List Loc) (cells slots mc ms : Nat) (g : JFrame) (rest : List Value) (Qa : State → Outcome → State → Prop) (XC : String → State → State → Prop) (free : Addr → Prop) : Prop :=
  ∀ T : State, T.heap = H → Stand p l e R s m args below meth c T locs cells slots →
    (∃ (v : Option Value) (st₀ t T' : State) (L : List Loc), st₀.heap = H ∧ Stand p l e R s m args below meth c T' (locs ++ L) (cells + mc) (slots + ms) ∧ (∀ q ∈ L, free q.base) ∧ T'.heap = t.heap ∧ T'.vm = t.vm ∧ Qa st₀ (.returned v) t ∧
      Goes p e below T g T' { g with pc := g.pc + 3, stack := v.toList ++ rest }) ∨
    (∃ (q : Addr) (st₀ t T' : State) (L : List Loc) (E : String) (ce : Cell), st₀.heap = H ∧ Stand p l e R s m args below meth c T' (locs ++ L) (cells + mc) (slots + ms) ∧ (∀ z ∈ L, free z.base) ∧ T'.heap = t.heap ∧ T'.vm = t.vm ∧ XC E st₀ t ∧ t.heap[q]? = some ce ∧ ce.vm = .none ∧ s.vm.findClass E = some ce.cls ∧
      Steps p.tables e below (T.setTop g) ((T'.setTop { g with stack := rest }).pushFrame (.throwing q)))
def vx_X {S : Type} (px : S → Prop) (B : String → S → State → Prop) (A : Nat → Prop) : String → State → State → Prop := fun E st t => ∃ u : S, px u ∧ B E u t ∧ va_F A st t
section Runs
variable {p : Program} {l : Launch} {e : Env} {R : Room} {s : State} {m : MethodId} {args : Array Value} {below : List Frame} {meth : Method} {c : Code} {H : Heap} {locs : List Loc} {cells slots : Nat}
variable {y : MethodName} {bytes cc : ByteArray} {maxL nL mc ms n index : Nat} {ret : Option FieldType} {ws : List Cond} {rm : Room} {Pc : Array Value → State → Prop} {Qc : Array Value → State → Outcome → State → Prop} {XC : String → State → State → Prop} {free : Addr → Prop} {Ts : List Cond} {own C : String} {b : Addr} {As rest : List Value} {g : JFrame}
theorem vx_callBack (cb : CallB R s args own index y bytes maxL ret ws rm mc ms n) (hM : vx_Met l y ws rm Pc Qc XC mc ms free) (hbl : FrameBlind Pc) : vx_Back l R p e below s args y 3 8 (PreOf R mc ms Pc) (PostOf Qc mc ms free) (vx_Post XC mc ms free) := by
  obtain ⟨hrc, hrs, hfr, hlo, hws, hcw, -, hini, -⟩ := cb
  exact vx_back (bytes := bytes) (maxL := maxL) (ret := ret) hM hbl hrc hrs hfr hlo hws hcw (fun a' U hW => word_at hW (Or.inl (by first | rfl | simp [Cond.onTables, Cond.keeps, Cond.steady])) hini)
theorem vx_runV (S : CallFix p m c cc nL s args Ts own) (hM : vx_Met l y ws rm Pc Qc XC mc ms free) (cw : CallW R s args own C index y bytes maxL ret ws rm mc ms n) (hp : PreV s H C b Pc As)
    (hg : g.method = m) (hn : As.length = n) (hsize : g.locals.size = nL) (hstack : g.stack = As.reverse ++ .ref b :: rest) (hW : 2 * g.monitorRoom + (rest.map fun v => v.category).sum ≤ 8) (hdg : decode cc g.pc = .ok (.invokevirtual index, 3)) (hf : cells + mc ≤ R.cells ∧ slots + ms ≤ R.slots) :
    vx_Run p l e R s m args below meth c H locs cells slots mc ms g rest (Qc (Value.ref b :: As).toArray) XC free := by
  have hK : vx_Back l R p e below s args y 3 8 (PreOf R mc ms Pc) (PostOf Qc mc ms free) (vx_Post XC mc ms free) := vx_callBack cw.1 hM hp.1
  obtain ⟨⟨-, -, -, -, -, -, hcode, -, hy, hlen, hl⟩, hin, hse⟩ := cw
  obtain ⟨hx, hb, hml, ho, -⟩ := S
  obtain ⟨-, ⟨cellB, hcB, hoB, hclB⟩, hPc⟩ := hp
  intro T hT X
  rcases vx_callV X hx (C := C) (bytes := bytes) (maxL := maxL) (ret := ret) ho hl hin hse hcode hy hK (by rw [hT]; exact hcB) hoB hclB hg (hsize.trans hml.symm) (argsL := As) (rest := rest) (fun sig h => hn.trans (hlen sig h)) hstack hW (by rw [hb]; exact hdg)
    (fun vm₁ hW₁ => ⟨hf.1, hf.2, hPc (T.setVm vm₁) hT hW₁⟩) with ⟨v, vm₁, ⟨U', l2, c2, s2⟩, hW₁, X', ⟨g', mk, t, L, e1, e2, hq, h1, hL, h2, h3⟩, st⟩ | ⟨q, vm₁, ⟨U', l2, c2, s2⟩, hW₁, X', ⟨g', mk, t, L, E, ce, e1, e2, hq, hce, hcv, hcl, h1, hL, h2, h3⟩, st⟩
  · dsimp only [Pt.U, Pt.locs, Pt.cells, Pt.slots] at X' e1 e2 h1 h2 h3 st
    subst h1; subst h2; subst h3
    exact Or.inl ⟨v, (T.setVm vm₁).calling g' mk (Value.ref b :: As).toArray, t, U', L, hT, X', hL, e1, e2, hq, st⟩
  · dsimp only [Pt.U, Pt.locs, Pt.cells, Pt.slots] at X' e1 e2 h1 h2 h3 st hcl
    subst h1; subst h2; subst h3
    exact Or.inr ⟨q, (T.setVm vm₁).calling g' mk (Value.ref b :: As).toArray, t, U', L, E, ce, hT, X', hL, e1, e2, hq, hce, hcv, vx_cls hW₁ hcl, st⟩
theorem vx_runS (S : CallFix p m c cc nL s args Ts own) (hM : vx_Met l y ws rm Pc Qc XC mc ms free) (cw : CallB R s args own index y bytes maxL ret ws rm mc ms n ∧ (Cond.static y).before args s = true) (hp : PreS s H Pc As)
    (hg : g.method = m) (hn : As.length = n) (hsize : g.locals.size = nL) (hstack : g.stack = As.reverse ++ rest) (hW : 2 * g.monitorRoom + (rest.map fun v => v.category).sum ≤ 8) (hdg : decode cc g.pc = .ok (.invokestatic index, 3)) (hf : cells + mc ≤ R.cells ∧ slots + ms ≤ R.slots) :
    vx_Run p l e R s m args below meth c H locs cells slots mc ms g rest (Qc As.toArray) XC free := by
  have hK : vx_Back l R p e below s args y 3 8 (PreOf R mc ms Pc) (PostOf Qc mc ms free) (vx_Post XC mc ms free) := vx_callBack cw.1 hM hp.1
  obtain ⟨⟨-, -, -, -, -, -, hcode, hini, hy, hlen, hl⟩, hstt⟩ := cw
  obtain ⟨hx, hb, hml, ho, -⟩ := S
  intro T hT X
  rcases vx_callS X hx (bytes := bytes) (maxL := maxL) (ret := ret) ho hl hstt hini hcode hy hK hg (hsize.trans hml.symm) (argsL := As) (rest := rest) (fun sig h => hn.trans (hlen sig h)) hstack hW (by rw [hb]; exact hdg)
    (fun vm₁ hW₁ => ⟨hf.1, hf.2, hp.2 (T.setVm vm₁) hT hW₁⟩) with ⟨v, vm₁, ⟨U', l2, c2, s2⟩, hW₁, X', ⟨g', mk, t, L, e1, e2, hq, h1, hL, h2, h3⟩, st⟩ | ⟨q, vm₁, ⟨U', l2, c2, s2⟩, hW₁, X', ⟨g', mk, t, L, E, ce, e1, e2, hq, hce, hcv, hcl, h1, hL, h2, h3⟩, st⟩
  · dsimp only [Pt.U, Pt.locs, Pt.cells, Pt.slots] at X' e1 e2 h1 h2 h3 st
    subst h1; subst h2; subst h3
    exact Or.inl ⟨v, (T.setVm vm₁).calling g' mk As.toArray, t, U', L, hT, X', hL, e1, e2, hq, st⟩
  · dsimp only [Pt.U, Pt.locs, Pt.cells, Pt.slots] at X' e1 e2 h1 h2 h3 st hcl
    subst h1; subst h2; subst h3
    exact Or.inr ⟨q, (T.setVm vm₁).calling g' mk As.toArray, t, U', L, E, ce, hT, X', hL, e1, e2, hq, hce, hcv, vx_cls hW₁ hcl, st⟩
end Runs
section Rows
variable {p : Program} {l : Launch} {e : Env} {R : Room} {s : State} {m : MethodId} {args : Array Value} {below : List Frame} {meth : Method} {c : Code} {H : Heap} {locs : List Loc} {cells slots : Nat} {Q : State → Prop}
variable {mc ms : Nat} {free : Addr → Prop} {A0 A1 : Nat → Prop} {H0 : Heap} {a : Array Value} {pc : Nat} {ls : Array Slot} {st0 rest : List Value}
theorem vx_keep {st₀ t T' : State} {L : List Loc} (h0 : st₀.heap = H) (e1 : T'.heap = t.heap) (hS : va_S A0 H0 H locs) (hA : ∀ q, q < H.size → A1 q → A0 q) (hf : ∀ q, free q → A0 q) (hL : ∀ q ∈ L, free q.base) (hF : va_F A1 st₀ t) :
    H.size ≤ T'.heap.size ∧ (∀ q : Nat, q < H.size → ¬ A1 q → T'.heap[q]? = H[q]?) ∧ va_S A0 H0 T'.heap (locs ++ L) := by
  obtain ⟨hz, hk⟩ := hF
  rw [h0] at hz hk
  exact ⟨by rw [e1]; exact hz, fun q h1 h2 => by rw [e1]; exact hk q h1 h2,
    ⟨Nat.le_trans hS.1 (by rw [e1]; exact hz), fun q h1 h2 => by rw [e1, hk q (Nat.lt_of_lt_of_le h1 hS.1) (fun z => h2 (hA q (Nat.lt_of_lt_of_le h1 hS.1) z))]; exact hS.2.1 q h1 h2, fun q hq => by
      rcases List.mem_append.mp hq with h | h
      · exact hS.2.2 q h
      · exact hf _ (hL q h)⟩⟩
theorem vx_calli {S SX : Type} {post : Int32 → S → Prop} {px : SX → Prop} {B : S → State → Prop} {BX : String → SX → State → Prop} {AX : Nat → Prop} (hr : vx_Run p l e R s m args below meth c H locs cells slots mc ms (F0 m pc ls st0) rest (va_Qi post B A1 a) (vx_X px BX AX) free) (hS : va_S A0 H0 H locs) (hA : ∀ q, q < H.size → A1 q → A0 q) (hf : ∀ q, free q → A0 q) (hAX : ∀ q, q < H.size → AX q → A0 q)
    (kx : ∀ (E : String) (ce : Cell) (q9 : Addr) (u : SX) (t : State) (H1 : Heap) (locs1 : List Loc), t.heap = H1 → s.vm.Alike t.vm → px u → BX E u t → H.size ≤ H1.size → (∀ q : Nat, q < H.size → ¬ AX q → H1[q]? = H[q]?) → va_S A0 H0 H1 locs1 → H1[q9]? = some ce → ce.vm = .none → s.vm.findClass E = some ce.cls → vx_W p l e R s m args below meth c H1 locs1 (cells + mc) (slots + ms) Q (F0 m pc ls rest) q9)
    (kk : ∀ (r : Int32) (u : S) (t : State) (H1 : Heap) (locs1 : List Loc), t.heap = H1 → s.vm.Alike t.vm → post r u → B u t → H.size ≤ H1.size → (∀ q : Nat, q < H.size → ¬ A1 q → H1[q]? = H[q]?) → va_S A0 H0 H1 locs1 → W p l e R s m args below meth c H1 locs1 (cells + mc) (slots + ms) Q (F0 m (pc + 3) ls (.int r :: rest))) : W p l e R s m args below meth c H locs cells slots Q (F0 m pc ls st0) := by
  intro T hT X
  rcases hr T hT X with ⟨v, st₀, t, T', L, h0, X', hL, e1, e2, ⟨⟨r, u, hv, hp, hb⟩, hF⟩, st⟩ | ⟨q, st₀, t, T', L, E, ce, h0, X', hL, e1, e2, ⟨u, hp, hb, hF⟩, hce, hcv, hcl, st⟩
  · cases hv
    obtain ⟨k1, k2, k3⟩ := vx_keep h0 e1 hS hA hf hL hF
    obtain ⟨t2, a1, b1⟩ := kk r u t T'.heap (locs ++ L) e1.symm (by rw [← e2]; exact X'.warmed.alike) hp hb k1 k2 k3 T' rfl X'
    exact ⟨t2, st t2 a1, b1⟩
  · obtain ⟨k1, k2, k3⟩ := vx_keep h0 e1 hS hAX hf hL hF
    obtain ⟨t2, a1, b1⟩ := kx E ce q u t T'.heap (locs ++ L) e1.symm (by rw [← e2]; exact X'.warmed.alike) hp hb k1 k2 k3 (by rw [e1]; exact hce) hcv hcl T' rfl X'
    exact ⟨t2, st.trans a1, b1⟩
theorem vx_calll {S SX : Type} {post : Int64 → S → Prop} {px : SX → Prop} {B : S → State → Prop} {BX : String → SX → State → Prop} {AX : Nat → Prop} (hr : vx_Run p l e R s m args below meth c H locs cells slots mc ms (F0 m pc ls st0) rest (va_Ql post B A1 a) (vx_X px BX AX) free) (hS : va_S A0 H0 H locs) (hA : ∀ q, q < H.size → A1 q → A0 q) (hf : ∀ q, free q → A0 q) (hAX : ∀ q, q < H.size → AX q → A0 q)
    (kx : ∀ (E : String) (ce : Cell) (q9 : Addr) (u : SX) (t : State) (H1 : Heap) (locs1 : List Loc), t.heap = H1 → s.vm.Alike t.vm → px u → BX E u t → H.size ≤ H1.size → (∀ q : Nat, q < H.size → ¬ AX q → H1[q]? = H[q]?) → va_S A0 H0 H1 locs1 → H1[q9]? = some ce → ce.vm = .none → s.vm.findClass E = some ce.cls → vx_W p l e R s m args below meth c H1 locs1 (cells + mc) (slots + ms) Q (F0 m pc ls rest) q9)
    (kk : ∀ (r : Int64) (u : S) (t : State) (H1 : Heap) (locs1 : List Loc), t.heap = H1 → s.vm.Alike t.vm → post r u → B u t → H.size ≤ H1.size → (∀ q : Nat, q < H.size → ¬ A1 q → H1[q]? = H[q]?) → va_S A0 H0 H1 locs1 → W p l e R s m args below meth c H1 locs1 (cells + mc) (slots + ms) Q (F0 m (pc + 3) ls (.long r :: rest))) : W p l e R s m args below meth c H locs cells slots Q (F0 m pc ls st0) := by
  intro T hT X
  rcases hr T hT X with ⟨v, st₀, t, T', L, h0, X', hL, e1, e2, ⟨⟨r, u, hv, hp, hb⟩, hF⟩, st⟩ | ⟨q, st₀, t, T', L, E, ce, h0, X', hL, e1, e2, ⟨u, hp, hb, hF⟩, hce, hcv, hcl, st⟩
  · cases hv
    obtain ⟨k1, k2, k3⟩ := vx_keep h0 e1 hS hA hf hL hF
    obtain ⟨t2, a1, b1⟩ := kk r u t T'.heap (locs ++ L) e1.symm (by rw [← e2]; exact X'.warmed.alike) hp hb k1 k2 k3 T' rfl X'
    exact ⟨t2, st t2 a1, b1⟩
  · obtain ⟨k1, k2, k3⟩ := vx_keep h0 e1 hS hAX hf hL hF
    obtain ⟨t2, a1, b1⟩ := kx E ce q u t T'.heap (locs ++ L) e1.symm (by rw [← e2]; exact X'.warmed.alike) hp hb k1 k2 k3 (by rw [e1]; exact hce) hcv hcl T' rfl X'
    exact ⟨t2, st.trans a1, b1⟩
theorem vx_callf {S SX : Type} {post : UInt32 → S → Prop} {px : SX → Prop} {B : S → State → Prop} {BX : String → SX → State → Prop} {AX : Nat → Prop} (hr : vx_Run p l e R s m args below meth c H locs cells slots mc ms (F0 m pc ls st0) rest (va_Qf post B A1 a) (vx_X px BX AX) free) (hS : va_S A0 H0 H locs) (hA : ∀ q, q < H.size → A1 q → A0 q) (hf : ∀ q, free q → A0 q) (hAX : ∀ q, q < H.size → AX q → A0 q)
    (kx : ∀ (E : String) (ce : Cell) (q9 : Addr) (u : SX) (t : State) (H1 : Heap) (locs1 : List Loc), t.heap = H1 → s.vm.Alike t.vm → px u → BX E u t → H.size ≤ H1.size → (∀ q : Nat, q < H.size → ¬ AX q → H1[q]? = H[q]?) → va_S A0 H0 H1 locs1 → H1[q9]? = some ce → ce.vm = .none → s.vm.findClass E = some ce.cls → vx_W p l e R s m args below meth c H1 locs1 (cells + mc) (slots + ms) Q (F0 m pc ls rest) q9)
    (kk : ∀ (r : UInt32) (u : S) (t : State) (H1 : Heap) (locs1 : List Loc), t.heap = H1 → s.vm.Alike t.vm → post r u → B u t → H.size ≤ H1.size → (∀ q : Nat, q < H.size → ¬ A1 q → H1[q]? = H[q]?) → va_S A0 H0 H1 locs1 → W p l e R s m args below meth c H1 locs1 (cells + mc) (slots + ms) Q (F0 m (pc + 3) ls (.float r :: rest))) : W p l e R s m args below meth c H locs cells slots Q (F0 m pc ls st0) := by
  intro T hT X
  rcases hr T hT X with ⟨v, st₀, t, T', L, h0, X', hL, e1, e2, ⟨⟨r, u, hv, hp, hb⟩, hF⟩, st⟩ | ⟨q, st₀, t, T', L, E, ce, h0, X', hL, e1, e2, ⟨u, hp, hb, hF⟩, hce, hcv, hcl, st⟩
  · cases hv
    obtain ⟨k1, k2, k3⟩ := vx_keep h0 e1 hS hA hf hL hF
    obtain ⟨t2, a1, b1⟩ := kk r u t T'.heap (locs ++ L) e1.symm (by rw [← e2]; exact X'.warmed.alike) hp hb k1 k2 k3 T' rfl X'
    exact ⟨t2, st t2 a1, b1⟩
  · obtain ⟨k1, k2, k3⟩ := vx_keep h0 e1 hS hAX hf hL hF
    obtain ⟨t2, a1, b1⟩ := kx E ce q u t T'.heap (locs ++ L) e1.symm (by rw [← e2]; exact X'.warmed.alike) hp hb k1 k2 k3 (by rw [e1]; exact hce) hcv hcl T' rfl X'
    exact ⟨t2, st.trans a1, b1⟩
theorem vx_calld {S SX : Type} {post : UInt64 → S → Prop} {px : SX → Prop} {B : S → State → Prop} {BX : String → SX → State → Prop} {AX : Nat → Prop} (hr : vx_Run p l e R s m args below meth c H locs cells slots mc ms (F0 m pc ls st0) rest (va_Qd post B A1 a) (vx_X px BX AX) free) (hS : va_S A0 H0 H locs) (hA : ∀ q, q < H.size → A1 q → A0 q) (hf : ∀ q, free q → A0 q) (hAX : ∀ q, q < H.size → AX q → A0 q)
    (kx : ∀ (E : String) (ce : Cell) (q9 : Addr) (u : SX) (t : State) (H1 : Heap) (locs1 : List Loc), t.heap = H1 → s.vm.Alike t.vm → px u → BX E u t → H.size ≤ H1.size → (∀ q : Nat, q < H.size → ¬ AX q → H1[q]? = H[q]?) → va_S A0 H0 H1 locs1 → H1[q9]? = some ce → ce.vm = .none → s.vm.findClass E = some ce.cls → vx_W p l e R s m args below meth c H1 locs1 (cells + mc) (slots + ms) Q (F0 m pc ls rest) q9)
    (kk : ∀ (r : UInt64) (u : S) (t : State) (H1 : Heap) (locs1 : List Loc), t.heap = H1 → s.vm.Alike t.vm → post r u → B u t → H.size ≤ H1.size → (∀ q : Nat, q < H.size → ¬ A1 q → H1[q]? = H[q]?) → va_S A0 H0 H1 locs1 → W p l e R s m args below meth c H1 locs1 (cells + mc) (slots + ms) Q (F0 m (pc + 3) ls (.double r :: rest))) : W p l e R s m args below meth c H locs cells slots Q (F0 m pc ls st0) := by
  intro T hT X
  rcases hr T hT X with ⟨v, st₀, t, T', L, h0, X', hL, e1, e2, ⟨⟨r, u, hv, hp, hb⟩, hF⟩, st⟩ | ⟨q, st₀, t, T', L, E, ce, h0, X', hL, e1, e2, ⟨u, hp, hb, hF⟩, hce, hcv, hcl, st⟩
  · cases hv
    obtain ⟨k1, k2, k3⟩ := vx_keep h0 e1 hS hA hf hL hF
    obtain ⟨t2, a1, b1⟩ := kk r u t T'.heap (locs ++ L) e1.symm (by rw [← e2]; exact X'.warmed.alike) hp hb k1 k2 k3 T' rfl X'
    exact ⟨t2, st t2 a1, b1⟩
  · obtain ⟨k1, k2, k3⟩ := vx_keep h0 e1 hS hAX hf hL hF
    obtain ⟨t2, a1, b1⟩ := kx E ce q u t T'.heap (locs ++ L) e1.symm (by rw [← e2]; exact X'.warmed.alike) hp hb k1 k2 k3 (by rw [e1]; exact hce) hcv hcl T' rfl X'
    exact ⟨t2, st.trans a1, b1⟩
theorem vx_callv {S SX : Type} {post : S → Prop} {px : SX → Prop} {B : S → State → Prop} {BX : String → SX → State → Prop} {AX : Nat → Prop} (hr : vx_Run p l e R s m args below meth c H locs cells slots mc ms (F0 m pc ls st0) rest (va_Qv post B A1 a) (vx_X px BX AX) free) (hS : va_S A0 H0 H locs) (hA : ∀ q, q < H.size → A1 q → A0 q) (hf : ∀ q, free q → A0 q) (hAX : ∀ q, q < H.size → AX q → A0 q)
    (kx : ∀ (E : String) (ce : Cell) (q9 : Addr) (u : SX) (t : State) (H1 : Heap) (locs1 : List Loc), t.heap = H1 → s.vm.Alike t.vm → px u → BX E u t → H.size ≤ H1.size → (∀ q : Nat, q < H.size → ¬ AX q → H1[q]? = H[q]?) → va_S A0 H0 H1 locs1 → H1[q9]? = some ce → ce.vm = .none → s.vm.findClass E = some ce.cls → vx_W p l e R s m args below meth c H1 locs1 (cells + mc) (slots + ms) Q (F0 m pc ls rest) q9)
    (kk : ∀ (u : S) (t : State) (H1 : Heap) (locs1 : List Loc), t.heap = H1 → s.vm.Alike t.vm → post u → B u t → H.size ≤ H1.size → (∀ q : Nat, q < H.size → ¬ A1 q → H1[q]? = H[q]?) → va_S A0 H0 H1 locs1 → W p l e R s m args below meth c H1 locs1 (cells + mc) (slots + ms) Q (F0 m (pc + 3) ls (rest))) : W p l e R s m args below meth c H locs cells slots Q (F0 m pc ls st0) := by
  intro T hT X
  rcases hr T hT X with ⟨v, st₀, t, T', L, h0, X', hL, e1, e2, ⟨⟨u, hv, hp, hb⟩, hF⟩, st⟩ | ⟨q, st₀, t, T', L, E, ce, h0, X', hL, e1, e2, ⟨u, hp, hb, hF⟩, hce, hcv, hcl, st⟩
  · cases hv
    obtain ⟨k1, k2, k3⟩ := vx_keep h0 e1 hS hA hf hL hF
    obtain ⟨t2, a1, b1⟩ := kk u t T'.heap (locs ++ L) e1.symm (by rw [← e2]; exact X'.warmed.alike) hp hb k1 k2 k3 T' rfl X'
    exact ⟨t2, st t2 a1, b1⟩
  · obtain ⟨k1, k2, k3⟩ := vx_keep h0 e1 hS hAX hf hL hF
    obtain ⟨t2, a1, b1⟩ := kx E ce q u t T'.heap (locs ++ L) e1.symm (by rw [← e2]; exact X'.warmed.alike) hp hb k1 k2 k3 (by rw [e1]; exact hce) hcv hcl T' rfl X'
    exact ⟨t2, st.trans a1, b1⟩
end Rows
section Ends
variable {p : Program} {l : Launch} {e : Env} {R : Room} {s : State} {m : MethodId} {args : Array Value} {below : List Frame} {meth : Method} {c : Code} {H : Heap} {locs : List Loc} {cells slots : Nat} {Q : State → Prop}
variable {mc ms : Nat} {free : Addr → Prop} {A0 A1 : Nat → Prop} {H0 : Heap} {a : Array Value} {ls : Array Slot} {st0 rest : List Value}
variable {Qc : Array Value → State → Outcome → State → Prop} {XC : String → State → State → Prop}
/-- what a body that may throw owes at its end -/
def vx_MQ (below : List Frame) (Qc : Array Value → State → Outcome → State → Prop) (XC : String → State → State → Prop) (a : Array Value) (s : State) (mc ms : Nat) (free : Addr → Prop) : State → Prop := fun t =>
  ∃ o, t.status = .running ∧ Ended t below o ∧ vx_Q Qc XC mc ms free a s o t
theorem vx_ret {g : JFrame} {mc ms : Nat} (k : W p l e R s m args below meth c H locs cells slots (MQ below Qc args s mc ms free) g) : W p l e R s m args below meth c H locs cells slots (vx_MQ below Qc XC args s mc ms free) g := by
  intro T hT X
  obtain ⟨t, a1, o, b1, b2, b3, b4⟩ := k T hT X
  exact ⟨t, a1, o, b1, b2, Or.inl ⟨b3, b4⟩⟩
/-- not caught here: it goes on to the caller -/
theorem vx_widen {g : JFrame} {q : Addr} {k n : Nat} (h1 : cells ≤ k) (h2 : slots ≤ n) (kk : vx_W p l e R s m args below meth c H locs k n Q g q) : vx_W p l e R s m args below meth c H locs cells slots Q g q := fun T hT X => kk T hT (stand_widen X h1 h2)
theorem vx_out {pc : Nat} {E : String} {ce : Cell} {q : Addr} {mc ms : Nat} (hout : ∀ x ∈ c.exceptionTable.toList, covers x pc = false) (hlocks : meth.locks = false) (hcell : H[q]? = some ce) (hv : ce.vm = .none) (hcl : s.vm.findClass E = some ce.cls)
    (hx : ∀ t : State, t.heap = H → s.vm.Alike t.vm → XC E s t) (hf : ∀ z ∈ locs, free z.base) (hc : cells ≤ mc) (hs : slots ≤ ms) :
    vx_W p l e R s m args below meth c H locs cells slots (vx_MQ below Qc XC args s mc ms free) (F0 m pc ls rest) q := by
  intro T hT X
  obtain ⟨st1, hrun, hend, hW, hsm⟩ := X.leaveThrown q (g := F0 m pc ls rest) rfl rfl rfl hout hlocks
  have hcell9 : (T.setFrames (.throwing q :: below)).heap[q]? = some ce := by
    show T.heap[q]? = some ce
    rw [hT]; exact hcell
  exact ⟨_, st1, .threw q, hrun, hend, Or.inr ⟨q, rfl, E, ce, locs, hx _ hT hW.alike, hcell9, hv, hcl, hW, hsm.mono hc hs, hf⟩⟩
theorem vx_frame {U : State} {k n : Nat} (h : s.sameButNew ({ U with vm := s.vm } : State) locs k n) : s.heap.size ≤ U.heap.size ∧ ∀ q : Nat, q < s.heap.size → (∀ z ∈ locs, z.base ≠ q) → U.heap[q]? = s.heap[q]? := by
  obtain ⟨-, h2, -, -, -, h6⟩ := h
  refine ⟨h2, fun q hq hz => ?_⟩
  obtain ⟨c9, e1, e2, e3, e4⟩ := h6 q _ (Array.getElem?_eq_getElem hq)
  have hs : c9.slots = (s.heap[q]).slots := Array.ext_getElem? fun i => e4 i fun hm => hz _ hm rfl
  have h9 : c9 = s.heap[q] := by
    rw [hs] at e2
    exact e2
  have e5 : U.heap[q]? = some c9 := e1
  rw [e5, h9, Array.getElem?_eq_getElem hq]
/-- the words of a throw but the four that speak of the heap -/
def vx_no (w : Cond) : Bool := decide (w ≠ .isRef (.static Bundle.tN "UNASSIGNED_STACK" Bundle.steD)) && decide (w ≠ .isRef (.static Bundle.tN "SUPPRESSED_SENTINEL" Bundle.listD)) && decide (w ≠ .laysStatic Bundle.tN "UNASSIGNED_STACK" Bundle.steD) && decide (w ≠ .laysStatic Bundle.tN "SUPPRESSED_SENTINEL" Bundle.listD)
def vx_at0 (own : String) (ic : Nat) (X : String) (names : List String) : List Cond := (Bundle.ownAtoms0 own ic X names).filter vx_no
def vx_atS (own : String) (ic : Nat) (X : String) (names : List String) : List Cond := (Bundle.ownAtoms own ic X names).filter vx_no
/-- a word that the tables alone decide, or a good one -/
def vx_ot (w : Cond) : Bool := w.onTables || goodWord w
theorem vx_ot_at {args a' : Array Value} {s U : State} {w : Cond} (hW : s.WarmedH U.vm) (hvm : s.vm = U.vm) (hg : vx_ot w = true) (h : w.before args s = true) : w.before a' U = true := by
  simp only [vx_ot, Bool.or_eq_true] at hg
  rcases hg with hg | hg
  · exact va_tabs hg hvm h
  · exact word_at hW (good_of_word hg) h
/-- a list's words: the good ones out of the method's own list, the others by premises of their own -/
theorem vx_hat {args : Array Value} {s : State} {L B : List Cond} (h1 : ∀ w ∈ L.filter goodWord, w.before args s = true) (h2 : ∀ w ∈ L.filter (fun w => !goodWord w), w ∈ B) (h3 : ∀ w ∈ B, w.before args s = true) : ∀ w ∈ L, w.before args s = true := by
  intro w hw
  by_cases g : goodWord w = true
  · exact h1 w (List.mem_filter.mpr ⟨hw, g⟩)
  · refine h3 w (h2 w (List.mem_filter.mpr ⟨hw, ?_⟩))
    show (!goodWord w) = true
    cases hgw : goodWord w
    · rfl
    · exact absurd hgw g
theorem vx_c {args : Array Value} {s : State} {w : Cond} {B : List Cond} (h : w.before args s = true) (t : ∀ w ∈ B, w.before args s = true) : ∀ w' ∈ w :: B, w'.before args s = true := fun w' h' => (List.mem_cons.mp h').elim (fun e => by rw [e]; exact h) (t w')
theorem vx_n {args : Array Value} {s : State} : ∀ w ∈ ([] : List Cond), w.before args s = true := fun _ h => nomatch h
theorem vx_own {args : Array Value} {s : State} {L : List Cond} (h1 : ∀ w ∈ L.filter vx_no, w.before args s = true)
    (hU : (Cond.isRef (.static Bundle.tN "UNASSIGNED_STACK" Bundle.steD)).before args s = true) (hN : (Cond.isRef (.static Bundle.tN "SUPPRESSED_SENTINEL" Bundle.listD)).before args s = true)
    (lU : (Cond.laysStatic Bundle.tN "UNASSIGNED_STACK" Bundle.steD).before args s = true) (lN : (Cond.laysStatic Bundle.tN "SUPPRESSED_SENTINEL" Bundle.listD).before args s = true) : ∀ w ∈ L, w.before args s = true := by
  intro w hw
  by_cases e1 : w = .isRef (.static Bundle.tN "UNASSIGNED_STACK" Bundle.steD)
  · rw [e1]; exact hU
  · by_cases e2 : w = .isRef (.static Bundle.tN "SUPPRESSED_SENTINEL" Bundle.listD)
    · rw [e2]; exact hN
    · by_cases e3 : w = .laysStatic Bundle.tN "UNASSIGNED_STACK" Bundle.steD
      · rw [e3]; exact lU
      · by_cases e4 : w = .laysStatic Bundle.tN "SUPPRESSED_SENTINEL" Bundle.listD
        · rw [e4]; exact lN
        · exact h1 w (List.mem_filter.mpr ⟨hw, by unfold vx_no; rw [decide_eq_true e1, decide_eq_true e2, decide_eq_true e3, decide_eq_true e4]; rfl⟩)
/-- where a static field lies, its class's statics cell in H -/
def vx_L (C n d : String) (A : Nat → Prop) (U : State) (H : Heap) : Prop := ∃ (c : ClassId) (k : Class) (i : Nat) (f : Field) (a : Nat) (cell : Cell), U.vm.findClass C = some c ∧ U.fieldFound? C n d = some (c, k, i, f) ∧ f.isStatic = true ∧ k.statics = some a ∧ H[a]? = some cell ∧ cell.vm.isStatics = true ∧ cell.cls = c ∧ f.slot < cell.slots.size ∧ k.staticTypes[f.slot]? = some f.type ∧ ¬ A a
theorem vx_L.moved {C n d : String} {A : Nat → Prop} {u U : State} {H : Heap} (hvm : u.vm.Alike U.vm) (h : vx_L C n d A u H) : vx_L C n d A U H := by
  obtain ⟨c, k, i, f, a, cell, h1, h2, h3, h4, h5, h6, h7, h8, h9, h10⟩ := h
  obtain ⟨k', hi', he⟩ := State.fieldFound?_setVm hvm h2
  exact ⟨c, k', i, f, a, cell, by rw [hvm.findClass]; exact h1, hi', h3, by rw [he]; exact h4, h5, h6, h7, h8, by rw [he]; exact h9, h10⟩
theorem vx_L.kept {C n d : String} {A : Nat → Prop} {U : State} {H H1 : Heap} (h : vx_L C n d A U H) (hq : ∀ a : Nat, a < H.size → ¬ A a → H1[a]? = H[a]?) : vx_L C n d A U H1 := by
  obtain ⟨c, k, i, f, a, cell, h1, h2, h3, h4, h5, h6, h7, h8, h9, h10⟩ := h
  exact ⟨c, k, i, f, a, cell, h1, h2, h3, h4, by rw [hq a (Array.getElem?_eq_some_iff.mp h5).1 h10]; exact h5, h6, h7, h8, h9, h10⟩
theorem vx_L.narrow {C n d : String} {A B : Nat → Prop} {U : State} {H : Heap} (h : vx_L C n d A U H) (hAB : ∀ q, B q → A q) : vx_L C n d B U H := by
  obtain ⟨c, k, i, f, a, cell, h1, h2, h3, h4, h5, h6, h7, h8, h9, h10⟩ := h
  exact ⟨c, k, i, f, a, cell, h1, h2, h3, h4, h5, h6, h7, h8, h9, fun z => h10 (hAB _ z)⟩
theorem vx_L.word {C n d : String} {A : Nat → Prop} {s : State} {args : Array Value} (h : vx_L C n d A s s.heap) : (Cond.laysStatic C n d).before args s = true := by
  obtain ⟨c, k, i, f, a, cell, h1, h2, h3, h4, h5, h6, h7, h8, h9, -⟩ := h
  show (Cond.laysStatic C n d).holds args s none s [] = true
  exact Cond.laysStatic_of h1 h2 h3 h4 h5 h6 h7 h8 h9
/-- .. and what it holds: null or some reference -/
def vx_Zq (C n d : String) (A : Nat → Prop) (U : State) (H : Heap) : Prop := va_Zq C n d A U H ∧ vx_L C n d A U H
theorem vx_Zq.moved {C n d : String} {A : Nat → Prop} {u U : State} {H : Heap} (hvm : u.vm.Alike U.vm) (h : vx_Zq C n d A u H) : vx_Zq C n d A U H := ⟨va_Zq.moved hvm h.1, vx_L.moved hvm h.2⟩
theorem vx_Zq.kept {C n d : String} {A : Nat → Prop} {U : State} {H H1 : Heap} (h : vx_Zq C n d A U H) (hq : ∀ a : Nat, a < H.size → ¬ A a → H1[a]? = H[a]?) : vx_Zq C n d A U H1 := ⟨va_Zq.kept h.1 hq, vx_L.kept h.2 hq⟩
theorem vx_Zq.narrow {C n d : String} {A B : Nat → Prop} {U : State} {H : Heap} (h : vx_Zq C n d A U H) (hAB : ∀ q, B q → A q) : vx_Zq C n d B U H := ⟨va_Zq.narrow h.1 hAB, vx_L.narrow h.2 hAB⟩
theorem vx_Zqof {args : Array Value} {s : State} {C n d : String} {A : Nat → Prop} (hl : (Cond.laysStatic C n d).before args s = true) (hini : (Cond.initialized C).before args s = true) (h : (Cond.isRef (.static C n d)).before args s = true) (hA : ∀ a : Nat, a < s.heap.size → ¬ A a) : vx_Zq C n d A s s.heap := by
  refine ⟨va_Zqof hl hini h hA, ?_⟩
  obtain ⟨c, k, i, f, a, cell, h1, h2, h3, h4, h5, h6, h7, h8, h9⟩ := Cond.laysStatic_spec hl
  exact ⟨c, k, i, f, a, cell, h1, h2, h3, h4, h5, h6, h7, h8, h9, hA a (Array.getElem?_eq_some_iff.mp h5).1⟩
theorem vx_isRef {C n d : String} {v : Value} {A : Nat → Prop} {s : State} {args : Array Value} (h : va_Z C n d v A s s.heap) (hv : v.isRef = true) : (Cond.isRef (.static C n d)).before args s = true := by
  obtain ⟨cf, kf, fi, f, a, cell, h1, h2, h3, h4, h5, h6, h7, -⟩ := h
  have he : (Term.static C n d).eval args s none [] s = some v := by
    simp [Term.eval, State.fieldNamed?, h1, h2, h4, h5, h6, h7]
  simp only [Cond.before, Cond.holds, Cond.value, he]
  cases v <;> simp_all [Value.isRef]
theorem vx_isRefq {C n d : String} {A : Nat → Prop} {s : State} {args : Array Value} (h : va_Zq C n d A s s.heap) : (Cond.isRef (.static C n d)).before args s = true := by
  rcases h with h | ⟨t, h⟩
  · exact vx_isRef h rfl
  · exact vx_isRef h rfl
/-- the same frame, seen from here: as if the method were called anew in this heap -/
theorem vx_rebase {T : State} (X : Stand p l e R s m args below meth c T locs cells slots) {R' : Room} (hf : R'.frames ≤ R.frames) (hl : R'.locals ≤ R.locals) (hc : cells + R'.cells ≤ R.cells) (hs : slots + R'.slots ≤ R.slots) :
    Stand p l e R' ((T.setVm s.vm).setFrames (.invoking m args :: below)) m args below meth c T [] 0 0 := by
  have htop : (T.setVm s.vm).topJava?.isSome := X.here.top
  have hF : ((T.setVm s.vm).setFrames (.invoking m args :: below)).frames = .invoking m args :: below := State.frames_setFrames _ (State.cur_lt_of_top htop)
  obtain ⟨g₀, hg0⟩ := Option.isSome_iff_exists.mp htop
  obtain ⟨r, hr⟩ := State.topJava?_eq_some.mp hg0
  have hl9 : e.platform.stackLimits (T.setVm s.vm).me = e.platform.stackLimits s.me := X.limits
  have hb9 : (T.setVm s.vm).me.stackBytes = s.me.stackBytes := X.bytes
  refine ⟨X.admits, X.cas, X.clock, hF, ?_, X.hears, X.method, X.code, X.here, X.tail, X.warmed, ?_, ?_, ?_⟩
  · have h := X.room
    have hU : ((T.setVm s.vm).setFrames (.invoking m args :: below)).localsInUse = s.localsInUse := by
      rw [State.localsInUse_invoking hF (meth := meth) (c := c) X.method X.code, State.localsInUse_invoking X.frames X.method X.code]
    simp only [State.hasRoom, Bool.and_eq_true, decide_eq_true_eq] at h ⊢
    obtain ⟨⟨⟨⟨h1, h2, h3, h4, h5, h6⟩, h7⟩, h8⟩, h9⟩ := h
    rw [X.frames, List.length_cons] at h2 h3
    have q1 := X.heapSize
    have q2 := X.used
    simp only [hF, hU, List.length_cons, State.stackLimits_setFrames, State.stackBytes_setFrames, hl9, hb9]
    refine ⟨⟨⟨⟨by omega, by omega, by omega, by omega, by omega, h6⟩, ?_⟩, ?_⟩, X.book⟩
    · show T.heap.size + R'.cells ≤ e.platform.maxCells
      omega
    · show T.slotsUsed + R'.slots ≤ e.platform.maxSlots
      omega
  · rw [State.stackLimits_setFrames]; rfl
  · rw [State.stackBytes_setFrames]; rfl
  · refine ⟨?_, Nat.le_refl _, Nat.le_refl _, ?_, ?_, fun a c9 h9 => ⟨c9, h9, rfl, rfl, fun _ _ => rfl⟩⟩
    · obtain ⟨t, ht, -⟩ := State.frames_cons hr
      show T.setVm s.vm = { ((T.setVm s.vm).setFrames (.invoking m args :: below)).setFrames (T.setVm s.vm).frames with heap := T.heap, slotsUsed := T.slotsUsed }
      rw [State.setFrames_setFrames, State.setFrames_self ht]
      rfl
    · show T.slotsUsed = T.slotsUsed + ((T.heap.toList.drop T.heap.size).map (·.slots.size)).sum
      rw [List.drop_eq_nil_of_le (Nat.le_of_eq Array.length_toList)]
      rfl
    · show ((T.heap.toList.drop T.heap.size).map (·.slots.size)).sum ≤ 0
      rw [List.drop_eq_nil_of_le (Nat.le_of_eq Array.length_toList)]
      exact Nat.le_refl _
/-- 'throw new E()': new; dup; invokespecial; athrow -/
theorem vx_throw0 {cc : ByteArray} {pc : Nat} (hexec : p.tables.exec = Jvm.exec) (hb : c.code = cc) (hl : l.stackTraces = false) {own cls : String} {names : List String} {ik ic mc ms : Nat} {A : Nat → Prop}
    (hown : s.vm.findClass own = some m.cls) (hcls : Bundle.fit cls = true) (hnames : ∀ n ∈ names, Bundle.fit n = true)
    (hk : (Cond.classLink own ik cls).before args s = true) (hini : (Cond.initialized cls).before args s = true) (hat : ∀ w ∈ vx_at0 own ic cls names, w.before args s = true)
    (hgood : ∀ w ∈ Cond.classLink own ik cls :: Cond.initialized cls :: vx_at0 own ic cls names, vx_ot w = true)
    (hU : vx_Zq Bundle.tN "UNASSIGNED_STACK" Bundle.steD A s s.heap) (hN : vx_Zq Bundle.tN "SUPPRESSED_SENTINEL" Bundle.listD A s s.heap) (hS : va_S A s.heap H locs) (hsize : ls.size = c.maxLocals)
    (d0 : decode cc pc = .ok (.new ik, 3)) (d3 : decode cc (pc + 3) = .ok (.dup, 1)) (d4 : decode cc (pc + 4) = .ok (.invokespecial ic, 3)) (d7 : decode cc (pc + 7) = .ok (.athrow, 1))
    (hout : ∀ x ∈ c.exceptionTable.toList, covers x (pc + 7) = false)
    (hRframes : names.length + 3 < R.frames) (hRlocals : (rest.map fun v => v.category).sum + (13 * (names.length + 1) + 42) ≤ R.locals) (hRcells : cells + 1 ≤ R.cells) (hRslots : slots + 6 ≤ R.slots) (hlocks : meth.locks = false)
    (hx : ∀ t : State, s.vm.Alike t.vm → H.size ≤ t.heap.size → (∀ q : Nat, q < H.size → t.heap[q]? = H[q]?) → XC cls s t)
    (hf : ∀ z ∈ locs, free z.base) (hc : cells + 1 ≤ mc) (hs : slots + 6 ≤ ms) :
    W p l e R s m args below meth c H locs cells slots (vx_MQ below Qc XC args s mc ms free) (F0 m pc ls rest) := by
  intro T hT X
  have htr : e.platform.stackTraces = false := (show e.platform.stackTraces = l.stackTraces by rw [X.admits.platform]).trans hl
  have Y := vx_rebase X (R' := { frames := R.frames, locals := R.locals, cells := 1, slots := 6 }) (Nat.le_refl _) (Nat.le_refl _) hRcells hRslots
  obtain ⟨s', hA⟩ : ∃ z, z = (T.setVm s.vm).setFrames (.invoking m args :: below) := ⟨_, rfl⟩
  rw [← hA] at Y
  have hvm : s'.vm = s.vm := by rw [hA]; rfl
  have hhp : s'.heap = H := by rw [hA]; exact hT
  have hW0 : s.WarmedH s'.vm := by rw [hvm]; exact State.WarmedH.refl s
  have hat' : ∀ w ∈ vx_at0 own ic cls names, w.before args s' = true := fun w hw => vx_ot_at hW0 hvm.symm (hgood w (List.mem_cons_of_mem _ (List.mem_cons_of_mem _ hw))) (hat w hw)
  have hk' : (Cond.classLink own ik cls).before args s' = true := vx_ot_at hW0 hvm.symm (hgood _ List.mem_cons_self) hk
  have hini' : (Cond.initialized cls).before args s' = true := vx_ot_at hW0 hvm.symm (hgood _ (List.mem_cons_of_mem _ List.mem_cons_self)) hini
  have hU' : vx_Zq Bundle.tN "UNASSIGNED_STACK" Bundle.steD A s' s'.heap := by rw [hhp]; exact vx_Zq.moved hW0.alike (hU.kept hS.2.1)
  have hN' : vx_Zq Bundle.tN "SUPPRESSED_SENTINEL" Bundle.listD A s' s'.heap := by rw [hhp]; exact vx_Zq.moved hW0.alike (hN.kept hS.2.1)
  have h : ∀ w ∈ Bundle.ownAtoms0 own ic cls names, w.before args s' = true := vx_own hat' (vx_isRefq hU'.1) (vx_isRefq hN'.1) hU'.2.word hN'.2.word
  have hown' : s'.vm.findClass own = some m.cls := by rw [hvm]; exact hown
  have hins : (Cond.instantiable cls 6).before args s' = true := h _ (by simp [Bundle.ownAtoms0])
  obtain ⟨vm₁, cX, kX, hfX, hkX, -, -, X₁, st1⟩ := Y.newCold hexec (own := own) (C := cls) (index := ik) (n := 6) hown' hk' hins hini'
    (g := F0 m pc ls rest) rfl (by rw [hb]; exact d0) (Nat.le_refl _) (Nat.le_refl _)
  generalize hT1 : (T.setVm vm₁).pushCell { cls := cX, slots := kX.instanceTypes.map defaultValue, vm := .none } = T1 at X₁ st1
  have hcat : (Value.ref T.heap.size).category = 1 := rfl
  have hcellA : T1.heap[T.heap.size]? = some (freshCell cX kX) := by rw [← hT1]; exact State.heap_pushCell_size _ _
  have d3' : decode c.code (pc + 3) = .ok (.dup, 1) := by rw [hb]; exact d3
  obtain ⟨U, hsteps, hrun, hend, hW, hsame, ce, hce, hO⟩ := X₁.ctorThrow0 hexec htr (own := own) (cls := cls) (names := names) (ic := ic) hown' hcls hnames h (fun x hx => nomatch hx) hfX hkX hcellA (by rw [hhp, hT]; exact Nat.le_refl _)
    (g := { method := m, pc := pc + 4, locals := ls, stack := .ref T.heap.size :: .ref T.heap.size :: rest, locked := none }) rfl hsize rfl rfl (rest := rest) rfl
    (by rw [hb]; exact d4) (by rw [hb]; exact d7) hout hRframes (by simp only [List.map_cons, List.sum_cons, hcat]; omega) hlocks
  obtain ⟨f1, f2⟩ := vx_frame hsame
  rw [hhp] at f1 f2
  have hWs : s.WarmedH U.vm := State.WarmedH.trans hW0 hW
  have hcl : s.vm.findClass cls = some ce.cls := by
    have h9 := hO.cls
    rw [hvm] at h9
    exact h9
  have hall : s.sameButNew ({ U with vm := s.vm } : State) locs mc ms := by
    subst hA
    obtain ⟨e1, e2⟩ := hsame
    rw [State.setFrames_setFrames] at e1
    have h2 : (T.setVm s.vm).sameButNew ({ U with vm := s.vm } : State) [] (0 + 1) (0 + 6) := ⟨e1, e2⟩
    have h3 := X.same.trans h2
    rw [List.append_nil] at h3
    exact h3.mono hc hs
  refine ⟨U, ?_, .threw T.heap.size, hrun, hend, Or.inr ⟨T.heap.size, rfl, cls, ce, locs, hx U hWs.alike f1 (fun q hq => f2 q hq (fun z hz => nomatch hz)), hce, hO.vm, hcl, hWs, hall, hf⟩⟩
  refine st1 _ ?_
  show Steps p.tables e below (T1.setTop { method := m, pc := pc + 3, locals := ls, stack := .ref T.heap.size :: rest, locked := none }) _
  jvm_step X₁.here [X₁.here.top, hexec, d3', Value.category]
  exact hsteps
/-- 'throw new E("text")': new; dup; ldc; invokespecial; athrow -/
theorem vx_throwS {cc : ByteArray} {pc : Nat} (hexec : p.tables.exec = Jvm.exec) (hb : c.code = cc) (hl : l.stackTraces = false) {own cls text : String} {names : List String} {ik is ic mc ms sa : Nat} {A : Nat → Prop}
    (hown : s.vm.findClass own = some m.cls) (hcls : Bundle.fit cls = true) (hnames : ∀ n ∈ names, Bundle.fit n = true)
    (hk : (Cond.classLink own ik cls).before args s = true) (hini : (Cond.initialized cls).before args s = true) (hstr : vk_R own is text sa s) (hat : ∀ w ∈ vx_atS own ic cls names, w.before args s = true)
    (hgood : ∀ w ∈ Cond.classLink own ik cls :: Cond.initialized cls :: vx_atS own ic cls names, vx_ot w = true)
    (hU : vx_Zq Bundle.tN "UNASSIGNED_STACK" Bundle.steD A s s.heap) (hN : vx_Zq Bundle.tN "SUPPRESSED_SENTINEL" Bundle.listD A s s.heap) (hS : va_S A s.heap H locs) (hsize : ls.size = c.maxLocals)
    (d0 : decode cc pc = .ok (.new ik, 3)) (d3 : decode cc (pc + 3) = .ok (.dup, 1)) (d4 : decode cc (pc + 4) = .ok (.ldc is, 2)) (d6 : decode cc (pc + 6) = .ok (.invokespecial ic, 3)) (d9 : decode cc (pc + 9) = .ok (.athrow, 1))
    (hout : ∀ x ∈ c.exceptionTable.toList, covers x (pc + 9) = false)
    (hRframes : names.length + 3 < R.frames) (hRlocals : (rest.map fun v => v.category).sum + (13 * (names.length + 1) + 43) ≤ R.locals) (hRcells : cells + 1 ≤ R.cells) (hRslots : slots + 6 ≤ R.slots) (hlocks : meth.locks = false)
    (hx : ∀ t : State, s.vm.Alike t.vm → H.size ≤ t.heap.size → (∀ q : Nat, q < H.size → t.heap[q]? = H[q]?) → XC cls s t)
    (hf : ∀ z ∈ locs, free z.base) (hc : cells + 1 ≤ mc) (hs : slots + 6 ≤ ms) :
    W p l e R s m args below meth c H locs cells slots (vx_MQ below Qc XC args s mc ms free) (F0 m pc ls rest) := by
  intro T hT X
  have htr : e.platform.stackTraces = false := (show e.platform.stackTraces = l.stackTraces by rw [X.admits.platform]).trans hl
  have Y := vx_rebase X (R' := { frames := R.frames, locals := R.locals, cells := 1, slots := 6 }) (Nat.le_refl _) (Nat.le_refl _) hRcells hRslots
  obtain ⟨s', hA⟩ : ∃ z, z = (T.setVm s.vm).setFrames (.invoking m args :: below) := ⟨_, rfl⟩
  rw [← hA] at Y
  have hvm : s'.vm = s.vm := by rw [hA]; rfl
  have hhp : s'.heap = H := by rw [hA]; exact hT
  have hW0 : s.WarmedH s'.vm := by rw [hvm]; exact State.WarmedH.refl s
  have hat' : ∀ w ∈ vx_atS own ic cls names, w.before args s' = true := fun w hw => vx_ot_at hW0 hvm.symm (hgood w (List.mem_cons_of_mem _ (List.mem_cons_of_mem _ hw))) (hat w hw)
  have hk' : (Cond.classLink own ik cls).before args s' = true := vx_ot_at hW0 hvm.symm (hgood _ List.mem_cons_self) hk
  have hini' : (Cond.initialized cls).before args s' = true := vx_ot_at hW0 hvm.symm (hgood _ (List.mem_cons_of_mem _ List.mem_cons_self)) hini
  have hU' : vx_Zq Bundle.tN "UNASSIGNED_STACK" Bundle.steD A s' s'.heap := by rw [hhp]; exact vx_Zq.moved hW0.alike (hU.kept hS.2.1)
  have hN' : vx_Zq Bundle.tN "SUPPRESSED_SENTINEL" Bundle.listD A s' s'.heap := by rw [hhp]; exact vx_Zq.moved hW0.alike (hN.kept hS.2.1)
  have h : ∀ w ∈ Bundle.ownAtoms own ic cls names, w.before args s' = true := vx_own hat' (vx_isRefq hU'.1) (vx_isRefq hN'.1) hU'.2.word hN'.2.word
  have hown' : s'.vm.findClass own = some m.cls := by rw [hvm]; exact hown
  have hins : (Cond.instantiable cls 6).before args s' = true := h _ (by simp [Bundle.ownAtoms])
  obtain ⟨vm₁, cX, kX, hfX, hkX, -, -, X₁, st1⟩ := Y.newCold hexec (own := own) (C := cls) (index := ik) (n := 6) hown' hk' hins hini'
    (g := F0 m pc ls rest) rfl (by rw [hb]; exact d0) (Nat.le_refl _) (Nat.le_refl _)
  generalize hT1 : (T.setVm vm₁).pushCell { cls := cX, slots := kX.instanceTypes.map defaultValue, vm := .none } = T1 at X₁ st1
  have hcat : (Value.ref T.heap.size).category = 1 := rfl
  have hcellA : T1.heap[T.heap.size]? = some (freshCell cX kX) := by rw [← hT1]; exact State.heap_pushCell_size _ _
  have d3' : decode c.code (pc + 3) = .ok (.dup, 1) := by rw [hb]; exact d3
  have d4' : decode c.code (pc + 4) = .ok (.ldc is, 2) := by rw [hb]; exact d4
  have hstr' : vk_R own is text sa s' := vk_R.warm hW0 hstr
  obtain ⟨U, hsteps, hrun, hend, hW, hsame, ce, hce, hO⟩ := X₁.ctorThrowS hexec htr (own := own) (cls := cls) (names := names) (ic := ic) hown' hcls hnames h (fun x hx => nomatch hx) hfX hkX hcellA (by rw [hhp, hT]; exact Nat.le_refl _) (msg := .ref sa) rfl
    (g := { method := m, pc := pc + 6, locals := ls, stack := .ref sa :: .ref T.heap.size :: .ref T.heap.size :: rest, locked := none }) rfl hsize rfl rfl (rest := rest) rfl
    (by rw [hb]; exact d6) (by rw [hb]; exact d9) hout hRframes (by simp only [List.map_cons, List.sum_cons, hcat]; omega) hlocks
  obtain ⟨f1, f2⟩ := vx_frame hsame
  rw [hhp] at f1 f2
  have hWs : s.WarmedH U.vm := State.WarmedH.trans hW0 hW
  have hcl : s.vm.findClass cls = some ce.cls := by
    have h9 := hO.cls
    rw [hvm] at h9
    exact h9
  have hall : s.sameButNew ({ U with vm := s.vm } : State) locs mc ms := by
    subst hA
    obtain ⟨e1, e2⟩ := hsame
    rw [State.setFrames_setFrames] at e1
    have h2 : (T.setVm s.vm).sameButNew ({ U with vm := s.vm } : State) [] (0 + 1) (0 + 6) := ⟨e1, e2⟩
    have h3 := X.same.trans h2
    rw [List.append_nil] at h3
    exact h3.mono hc hs
  refine ⟨U, ?_, .threw T.heap.size, hrun, hend, Or.inr ⟨T.heap.size, rfl, cls, ce, locs, hx U hWs.alike f1 (fun q hq => f2 q hq (fun z hz => nomatch hz)), hce, hO.vm, hcl, hWs, hall, hf⟩⟩
  refine st1 _ ?_
  show Steps p.tables e below (T1.setTop { method := m, pc := pc + 3, locals := ls, stack := .ref T.heap.size :: rest, locked := none }) _
  jvm_step X₁.here [X₁.here.top, hexec, d3', Value.category]
  exact X₁.ldcString hexec (own := own) (text := text) (index := is) (a := sa) hown' hstr'.1 hstr'.2
    (g := { method := m, pc := pc + 4, locals := ls, stack := .ref T.heap.size :: .ref T.heap.size :: rest, locked := none }) rfl d4' _ hsteps
/-- 'throw new E("text")', the text by a wide index -/
theorem vx_throwSW {cc : ByteArray} {pc : Nat} (hexec : p.tables.exec = Jvm.exec) (hb : c.code = cc) (hl : l.stackTraces = false) {own cls text : String} {names : List String} {ik is ic mc ms sa : Nat} {A : Nat → Prop}
    (hown : s.vm.findClass own = some m.cls) (hcls : Bundle.fit cls = true) (hnames : ∀ n ∈ names, Bundle.fit n = true)
    (hk : (Cond.classLink own ik cls).before args s = true) (hini : (Cond.initialized cls).before args s = true) (hstr : vk_R own is text sa s) (hat : ∀ w ∈ vx_atS own ic cls names, w.before args s = true)
    (hgood : ∀ w ∈ Cond.classLink own ik cls :: Cond.initialized cls :: vx_atS own ic cls names, vx_ot w = true)
    (hU : vx_Zq Bundle.tN "UNASSIGNED_STACK" Bundle.steD A s s.heap) (hN : vx_Zq Bundle.tN "SUPPRESSED_SENTINEL" Bundle.listD A s s.heap) (hS : va_S A s.heap H locs) (hsize : ls.size = c.maxLocals)
    (d0 : decode cc pc = .ok (.new ik, 3)) (d3 : decode cc (pc + 3) = .ok (.dup, 1)) (d4 : decode cc (pc + 4) = .ok (.ldc_w is, 3)) (d7 : decode cc (pc + 7) = .ok (.invokespecial ic, 3)) (d10 : decode cc (pc + 10) = .ok (.athrow, 1))
    (hout : ∀ x ∈ c.exceptionTable.toList, covers x (pc + 10) = false)
    (hRframes : names.length + 3 < R.frames) (hRlocals : (rest.map fun v => v.category).sum + (13 * (names.length + 1) + 43) ≤ R.locals) (hRcells : cells + 1 ≤ R.cells) (hRslots : slots + 6 ≤ R.slots) (hlocks : meth.locks = false)
    (hx : ∀ t : State, s.vm.Alike t.vm → H.size ≤ t.heap.size → (∀ q : Nat, q < H.size → t.heap[q]? = H[q]?) → XC cls s t)
    (hf : ∀ z ∈ locs, free z.base) (hc : cells + 1 ≤ mc) (hs : slots + 6 ≤ ms) :
    W p l e R s m args below meth c H locs cells slots (vx_MQ below Qc XC args s mc ms free) (F0 m pc ls rest) := by
  intro T hT X
  have htr : e.platform.stackTraces = false := (show e.platform.stackTraces = l.stackTraces by rw [X.admits.platform]).trans hl
  have Y := vx_rebase X (R' := { frames := R.frames, locals := R.locals, cells := 1, slots := 6 }) (Nat.le_refl _) (Nat.le_refl _) hRcells hRslots
  obtain ⟨s', hA⟩ : ∃ z, z = (T.setVm s.vm).setFrames (.invoking m args :: below) := ⟨_, rfl⟩
  rw [← hA] at Y
  have hvm : s'.vm = s.vm := by rw [hA]; rfl
  have hhp : s'.heap = H := by rw [hA]; exact hT
  have hW0 : s.WarmedH s'.vm := by rw [hvm]; exact State.WarmedH.refl s
  have hat' : ∀ w ∈ vx_atS own ic cls names, w.before args s' = true := fun w hw => vx_ot_at hW0 hvm.symm (hgood w (List.mem_cons_of_mem _ (List.mem_cons_of_mem _ hw))) (hat w hw)
  have hk' : (Cond.classLink own ik cls).before args s' = true := vx_ot_at hW0 hvm.symm (hgood _ List.mem_cons_self) hk
  have hini' : (Cond.initialized cls).before args s' = true := vx_ot_at hW0 hvm.symm (hgood _ (List.mem_cons_of_mem _ List.mem_cons_self)) hini
  have hU' : vx_Zq Bundle.tN "UNASSIGNED_STACK" Bundle.steD A s' s'.heap := by rw [hhp]; exact vx_Zq.moved hW0.alike (hU.kept hS.2.1)
  have hN' : vx_Zq Bundle.tN "SUPPRESSED_SENTINEL" Bundle.listD A s' s'.heap := by rw [hhp]; exact vx_Zq.moved hW0.alike (hN.kept hS.2.1)
  have h : ∀ w ∈ Bundle.ownAtoms own ic cls names, w.before args s' = true := vx_own hat' (vx_isRefq hU'.1) (vx_isRefq hN'.1) hU'.2.word hN'.2.word
  have hown' : s'.vm.findClass own = some m.cls := by rw [hvm]; exact hown
  have hins : (Cond.instantiable cls 6).before args s' = true := h _ (by simp [Bundle.ownAtoms])
  obtain ⟨vm₁, cX, kX, hfX, hkX, -, -, X₁, st1⟩ := Y.newCold hexec (own := own) (C := cls) (index := ik) (n := 6) hown' hk' hins hini'
    (g := F0 m pc ls rest) rfl (by rw [hb]; exact d0) (Nat.le_refl _) (Nat.le_refl _)
  generalize hT1 : (T.setVm vm₁).pushCell { cls := cX, slots := kX.instanceTypes.map defaultValue, vm := .none } = T1 at X₁ st1
  have hcat : (Value.ref T.heap.size).category = 1 := rfl
  have hcellA : T1.heap[T.heap.size]? = some (freshCell cX kX) := by rw [← hT1]; exact State.heap_pushCell_size _ _
  have d3' : decode c.code (pc + 3) = .ok (.dup, 1) := by rw [hb]; exact d3
  have d4' : decode c.code (pc + 4) = .ok (.ldc_w is, 3) := by rw [hb]; exact d4
  have hstr' : vk_R own is text sa s' := vk_R.warm hW0 hstr
  obtain ⟨U, hsteps, hrun, hend, hW, hsame, ce, hce, hO⟩ := X₁.ctorThrowS hexec htr (own := own) (cls := cls) (names := names) (ic := ic) hown' hcls hnames h (fun x hx => nomatch hx) hfX hkX hcellA (by rw [hhp, hT]; exact Nat.le_refl _) (msg := .ref sa) rfl
    (g := { method := m, pc := pc + 7, locals := ls, stack := .ref sa :: .ref T.heap.size :: .ref T.heap.size :: rest, locked := none }) rfl hsize rfl rfl (rest := rest) rfl
    (by rw [hb]; exact d7) (by rw [hb]; exact d10) hout hRframes (by simp only [List.map_cons, List.sum_cons, hcat]; omega) hlocks
  obtain ⟨f1, f2⟩ := vx_frame hsame
  rw [hhp] at f1 f2
  have hWs : s.WarmedH U.vm := State.WarmedH.trans hW0 hW
  have hcl : s.vm.findClass cls = some ce.cls := by
    have h9 := hO.cls
    rw [hvm] at h9
    exact h9
  have hall : s.sameButNew ({ U with vm := s.vm } : State) locs mc ms := by
    subst hA
    obtain ⟨e1, e2⟩ := hsame
    rw [State.setFrames_setFrames] at e1
    have h2 : (T.setVm s.vm).sameButNew ({ U with vm := s.vm } : State) [] (0 + 1) (0 + 6) := ⟨e1, e2⟩
    have h3 := X.same.trans h2
    rw [List.append_nil] at h3
    exact h3.mono hc hs
  refine ⟨U, ?_, .threw T.heap.size, hrun, hend, Or.inr ⟨T.heap.size, rfl, cls, ce, locs, hx U hWs.alike f1 (fun q hq => f2 q hq (fun z hz => nomatch hz)), hce, hO.vm, hcl, hWs, hall, hf⟩⟩
  refine st1 _ ?_
  show Steps p.tables e below (T1.setTop { method := m, pc := pc + 3, locals := ls, stack := .ref T.heap.size :: rest, locked := none }) _
  jvm_step X₁.here [X₁.here.top, hexec, d3', Value.category]
  exact X₁.ldcStringW hexec (own := own) (text := text) (index := is) (a := sa) hown' hstr'.1 hstr'.2
    (g := { method := m, pc := pc + 4, locals := ls, stack := .ref T.heap.size :: .ref T.heap.size :: rest, locked := none }) rfl d4' _ hsteps
end Ends
section Bodies
variable {l : Launch}
theorem vx_ofW {y : MethodName} {ws ws' : List Cond} {rm : Room} {Pc : Array Value → State → Prop} {Qc : Array Value → State → Outcome → State → Prop} {XC : String → State → State → Prop} {mc ms : Nat} {free : Addr → Prop} {cc : ByteArray} {maxL : Nat} {ret : Option FieldType}
    (hy : plainName y.cls = true) (hw : ws = Cond.code y cc maxL ret :: ws')
    (body : ∀ p e s m args below meth c s₁, BodyLoose p l y (headSpec ws rm) cc maxL ret e s m args below meth c s₁ → c.maxLocals = maxL → (∀ x ∈ c.exceptionTable.toList, False) → Pc args s →
      W p l e (headSpec ws rm).room s m args below meth c s.heap [] 0 0 (vx_MQ below Qc XC args s mc ms free) (entryFrame m args maxL)) : vx_Met l y ws rm Pc Qc XC mc ms free := by
  refine MetFree.of_bodyS (code := cc) (maxLocals := maxL) (ret := ret) hy ?_ ?_
  · intro args s m h hn
    obtain ⟨meth, c, h1, h2, h3, h4, h5, h6, -, -⟩ := Cond.code_spec hn (atoms_spec (ws := ws) h _ (by rw [hw]; exact List.mem_cons_self))
    exact ⟨meth, c, h1, h2, h3, h4, h5, h6⟩
  · intro p e s m args below meth c s₁ B hml hP _
    have hh0 : s₁.heap = s.heap := by rw [B.state]; rfl
    have ht : ∀ x ∈ c.exceptionTable.toList, False := by
      obtain ⟨meth9, c9, h1, h2, -, -, -, -, h7, -⟩ := Cond.code_spec B.named (atoms_spec (ws := ws) B.pre _ (by rw [hw]; exact List.mem_cons_self))
      cases Option.some.inj (h1.symm.trans B.method)
      cases Option.some.inj (h2.symm.trans (Stand.of_body B).code)
      intro x hx
      rw [Array.isEmpty_iff.mp h7] at hx
      cases hx
    obtain ⟨t, a1, o, b1, b2, b3⟩ := body p e s m args below meth c s₁ B hml ht hP s₁ hh0 (Stand.of_body B)
    exact ⟨t, o, a1, b1, b2, b3⟩
/-- the table of a body with handlers -/
theorem vx_table {p : Program} {x y : MethodName} {S : Spec} {cc bytes : ByteArray} {maxL maxL' : Nat} {ret ret' : Option FieldType} {e : Env} {s s₁ : State} {m : MethodId} {args : Array Value} {below : List Frame} {meth : Method} {c : Code} {hh : List (Nat × Nat × Nat × Nat)}
    (B : BodyLoose p l y S cc maxL ret e s m args below meth c s₁) (h : (Cond.codeWith y bytes maxL' ret' hh).before args s = true) : c.exceptionTable.toList = tableOf hh := by
  obtain ⟨m9, meth9, c9, hn9, h1, h2, -, -, h6, -⟩ := Cond.codeWith_spec h
  cases Option.some.inj (hn9.symm.trans B.named)
  cases Option.some.inj (h1.symm.trans B.method)
  cases Option.some.inj (h2.symm.trans (Stand.of_body B).code)
  rw [← h6, table_eq]
end Bodies
end VXA
/-! ===== END ===== -/
/-! ===== BEGIN a static call of a method with an exception table ===== -/
section VXS
variable {p : Program} {l : Launch} {e : Env} {R : Room} {s : State} {m : MethodId} {args : Array Value} {below : List Frame} {meth : Method} {c : Code} {T : State} {H : Heap} {locs : List Loc} {cells slots : Nat}
abbrev vx_CSW (R : Room) (s : State) (args : Array Value) (own : String) (index : Nat) (y : MethodName) (bytes : ByteArray) (maxL : Nat) (ret : Option FieldType) (hh : List (Nat × Nat × Nat × Nat)) (ws : List Cond) (rm : Room) (mc ms n : Nat) : Prop :=
  (rm.cells = mc ∧ rm.slots = ms ∧ rm.frames + 1 ≤ R.frames ∧ 8 + (maxL + 11) + rm.locals ≤ R.locals ∧ (∀ w ∈ ws, ∀ (a' : Array Value) (U : State), s.WarmedH U.vm → w.before a' U = true) ∧ Cond.codeWith y bytes maxL ret hh ∈ ws) ∧
  (Cond.codeWith y bytes maxL ret hh).before args s = true ∧ (Cond.initialized y.cls).before args s = true ∧ (y.cls ≠ "java/lang/invoke/MethodHandle" ∧ y.cls ≠ "java/lang/invoke/VarHandle") ∧
  (∀ sig, parseMethodDescriptor y.desc = some sig → n = sig.parameters.length) ∧ (Cond.methodLink own index y).before args s = true ∧ (Cond.static y).before args s = true
theorem vx_cwSW {own : String} {index maxL mc ms : Nat} {y : MethodName} {bytes : ByteArray} {ret : Option FieldType} {hh : List (Nat × Nat × Nat × Nat)} {Ts ws ws' : List Cond} {rm : Room} (n : Nat) (ht : ∀ w ∈ Ts, w.before args s = true) (hT : GoodIn Ts (va_wsS own index y ws)) (hw : ws = Cond.codeWith y bytes maxL ret hh :: ws') (hrc : rm.cells = mc) (hrs : rm.slots = ms)
    (hd : y.cls ≠ "java/lang/invoke/MethodHandle" ∧ y.cls ≠ "java/lang/invoke/VarHandle" ∧ (parseMethodDescriptor y.desc).map (fun d => d.parameters.length) = some n) (hR : rm.frames + 1 ≤ R.frames ∧ 8 + (maxL + 11) + rm.locals ≤ R.locals) :
    vx_CSW R s args own index y bytes maxL ret hh ws rm mc ms n := by
  have ok : ∀ w ∈ va_wsS own index y ws, w.before args s = true := fun w h => ht w (hT w h).1
  have hG : GoodIn Ts ws := fun w h => hT w (by unfold va_wsS; exact List.mem_append_right _ h)
  have hc : Cond.codeWith y bytes maxL ret hh ∈ ws := by rw [hw]; exact List.mem_cons_self
  refine ⟨⟨hrc, hrs, hR.1, hR.2, pay_in ht hG, hc⟩, ht _ (hG _ hc).1, ok _ (by simp [va_wsS]), ⟨hd.1, hd.2.1⟩, fun sig h => ?_, ok _ (by simp [va_wsS]), ok _ (by simp [va_wsS])⟩
  have h2 := hd.2.2
  rw [h] at h2
  exact (Option.some.inj h2).symm
theorem vx_callSW (X : Stand p l e R s m args below meth c T locs cells slots) (hexec : p.tables.exec = Jvm.exec) {own : String} {index : Nat} {y : MethodName} {bytes : ByteArray} {maxL : Nat} {ret : Option FieldType} {hh : List (Nat × Nat × Nat × Nat)}
    (hown : s.vm.findClass own = some m.cls) (hlink : (Cond.methodLink own index y).before args s = true) (hstat : (Cond.static y).before args s = true) (hinit : (Cond.initialized y.cls).before args s = true)
    (hcode : (Cond.codeWith y bytes maxL ret hh).before args s = true) (hy : y.cls ≠ "java/lang/invoke/MethodHandle" ∧ y.cls ≠ "java/lang/invoke/VarHandle")
    {W9 : Nat} {Pre : Pt → Array Value → Prop} {Post : Pt → Array Value → Option Value → Pt → Prop} (hK : Back l R p e below s args y 3 W9 Pre Post)
    {g : JFrame} (hg : g.method = m) (hsize : g.locals.size = c.maxLocals) {argsL rest : List Value} (hlen : ∀ sig, parseMethodDescriptor y.desc = some sig → argsL.length = sig.parameters.length)
    (hstack : g.stack = argsL.reverse ++ rest) (hW : 2 * g.monitorRoom + (rest.map fun v => v.category).sum ≤ W9) (hdg : decode c.code g.pc = .ok (.invokestatic index, 3))
    (hpre : ∀ vm₁, s.WarmedH vm₁ → Pre ⟨T.setVm vm₁, locs, cells, slots⟩ argsL.toArray) :
    ∃ (v : Option Value) (vm₁ : Vm) (B : Pt), s.WarmedH vm₁ ∧ Stand p l e R s m args below meth c B.U B.locs B.cells B.slots ∧ Post ⟨T.setVm vm₁, locs, cells, slots⟩ argsL.toArray v B ∧
      ∀ target, Steps p.tables e below (B.U.setTop { g with pc := g.pc + 3, stack := v.toList ++ rest }) target → Steps p.tables e below (T.setTop g) target := by
  obtain ⟨mk, methM, cM, hnamed, hmethM, -, -, -, -, -, -, hsigM⟩ := Cond.codeWith_spec hcode
  have hstatic : methM.isStatic = true := Cond.static_spec hnamed hmethM hstat
  obtain ⟨kP, hkP, -⟩ := className_of_methodNamed hnamed
  have hinitP : kP.init = .initialized := Cond.initialized_spec (findClass_of_methodNamed hnamed) hkP hinit
  obtain ⟨vm₁, X₁, hstep₁⟩ := X.invokestatic hexec hown hlink hnamed hmethM hstatic hkP hinitP hy (g := g) hg (argsL := argsL) (rest := rest) (hlen _ hsigM) hstack hdg
  obtain ⟨v, B, X', hpost, hsteps⟩ := hK m meth c ⟨T.setVm vm₁, locs, cells, slots⟩ { g with stack := rest } (.invokestatic index) mk argsL.toArray X₁ hg hsize hdg hW (X₁.named hnamed) (hpre vm₁ X₁.warmed)
  exact ⟨v, vm₁, B, X₁.warmed, X', hpost, fun target h => hstep₁ _ fun acts => by rw [doInvoke_state]; exact hsteps.trans h⟩
theorem vx_runSW {y : MethodName} {bytes cc : ByteArray} {maxL nL mc ms n index : Nat} {ret : Option FieldType} {hh : List (Nat × Nat × Nat × Nat)} {ws : List Cond} {rm : Room} {Pc : Array Value → State → Prop} {Qc : Array Value → State → Outcome → State → Prop} {free : Addr → Prop} {Ts : List Cond} {own : String} {As rest : List Value} {g : JFrame}
    (S : CallFix p m c cc nL s args Ts own) (hM : Met l y ws rm Pc Qc mc ms free) (cw : vx_CSW R s args own index y bytes maxL ret hh ws rm mc ms n) (hp : PreS s H Pc As)
    (hg : g.method = m) (hn : As.length = n) (hsize : g.locals.size = nL) (hstack : g.stack = As.reverse ++ rest) (hW : 2 * g.monitorRoom + (rest.map fun v => v.category).sum ≤ 8) (hdg : decode cc g.pc = .ok (.invokestatic index, 3)) (hf : cells + mc ≤ R.cells ∧ slots + ms ≤ R.slots) :
    va_Run p l e R s m args below meth c H locs cells slots mc ms g rest (Qc As.toArray) (free) := by
  obtain ⟨⟨hrc, hrs, hfr, hlo, hws, hcw⟩, hcode, hini, hy, hlen, hl, hstt⟩ := cw
  have hK : Back l R p e below s args y 3 8 (PreOf R mc ms Pc) (PostOf Qc mc ms free) := va_backW (hh := hh) (bytes := bytes) (maxL := maxL) (ret := ret) hM hp.1 hrc hrs hfr hlo hws hcw (fun a' U hW => word_at hW (Or.inl (by first | rfl | simp [Cond.onTables, Cond.keeps, Cond.steady])) hini)
  obtain ⟨hx, hb, hml, ho, -⟩ := S
  intro T hT X
  obtain ⟨v, vm₁, ⟨U', l2, c2, s2⟩, hW₁, X', ⟨g', mk, t, L, e1, e2, hq, h1, hL, h2, h3⟩, st⟩ := vx_callSW X hx (hh := hh) (bytes := bytes) (maxL := maxL) (ret := ret) ho hl hstt hini hcode hy hK hg (hsize.trans hml.symm) (argsL := As) (rest := rest) (fun sig h => hn.trans (hlen sig h)) hstack hW (by rw [hb]; exact hdg)
    (fun vm₁ hW₁ => ⟨hf.1, hf.2, hp.2 (T.setVm vm₁) hT hW₁⟩)
  dsimp only [Pt.U, Pt.locs, Pt.cells, Pt.slots] at X' e1 e2 h1 h2 h3 st
  subst h1; subst h2; subst h3
  exact ⟨v, (T.setVm vm₁).calling g' mk As.toArray, t, U', L, hT, X', hL, e1, e2, hq, st⟩
/-- a thing of a world lies in the heap -/
theorem vx_lt {D : va_G} {cl : List vw_C} {ws : va_W} {H1 : Heap} (h : va_P D cl ws H1) {k : Nat} {q : Nat × va_E} (hk : ws[k]? = some q) : q.1 < H1.size := (h k q hk).lt
end VXS
/-! ===== END ===== -/
/-! ===== BEGIN methods with a table of their own: called by a name, returning or throwing ===== -/
section VXH
/-! vx_backW, vx_callVX, vx_callSX, vx_callVW, vx_runVW, vx_runVX, vx_runSX, vx_ofWH follow the same proofs as their sisters above (Free/Laws.lean, Shelf42/LK1.lean); vx_outP calls Shelf42/NT130.lean (outThrough). -/
section
variable {l : Launch} {R : Room} {p : Program} {e : Env} {below : List Frame} {s : State} {sargs : Array Value} {y : MethodName} {len W9 : Nat}
theorem vx_backW {ws : List Cond} {rm : Room} {Pc : Array Value → State → Prop} {Qc : Array Value → State → Outcome → State → Prop} {XC : String → State → State → Prop} {mc ms : Nat} {free : Addr → Prop} {bytes : ByteArray} {maxL : Nat} {ret : Option FieldType} {hh : List (Nat × Nat × Nat × Nat)}
    (hM : vx_Met l y ws rm Pc Qc XC mc ms free) (hblind : FrameBlind Pc) (hrc : rm.cells = mc) (hrs : rm.slots = ms)
    (hframes : rm.frames + 1 ≤ R.frames) (hlocals : W9 + (maxL + 11) + rm.locals ≤ R.locals)
    (hws : ∀ w ∈ ws, ∀ a' U, s.WarmedH U.vm → w.before a' U = true) (hcode : Cond.codeWith y bytes maxL ret hh ∈ ws) (hinit : ∀ a' U, s.WarmedH U.vm → (Cond.initialized y.cls).before a' U = true) :
    vx_Back l R p e below s sargs y len W9 (PreOf R mc ms Pc) (PostOf Qc mc ms free) (vx_Post XC mc ms free) := by
  intro m meth c A g ig mk a X hg hsize hdg hW hn hp
  have h1 : (headSpec ws rm).pre.before a A.U = true := atoms_intro fun w hw => hws w hw _ _ X.warmed
  have h2 : (Cond.codeWith y bytes maxL ret hh).before a A.U = true := hws _ hcode _ _ X.warmed
  have h3 : (Cond.initialized y.cls).before a A.U = true := hinit _ _ X.warmed
  have h4 : A.cells + (headSpec ws rm).room.cells ≤ R.cells := by rw [show (headSpec ws rm).room.cells = mc from hrc]; exact hp.1
  have h5 : A.slots + (headSpec ws rm).room.slots ≤ R.slots := by rw [show (headSpec ws rm).room.slots = ms from hrs]; exact hp.2.1
  have hPc : Pc a (A.U.calling g mk a) := hblind _ _ _ _ hp.2.2
  obtain ⟨U, Ls, c0, s0⟩ := A
  dsimp only [Pt.U, Pt.locs, Pt.cells, Pt.slots] at h1 h2 h3 h4 h5 X hn hPc ⊢
  obtain ⟨m9, methY, cY, hn9, hmY, hcY, -, hlY, -⟩ := Cond.codeWith_spec h2
  cases Option.some.inj (hn9.symm.trans hn)
  obtain ⟨kY, hkY, -⟩ := className_of_methodNamed hn
  have hinitY : kY.init = .initialized := Cond.initialized_spec (findClass_of_methodNamed hn) hkY h3
  have h : At U g.method c below := by rw [hg]; exact X.here
  have hlocals9 : W9 + (maxL + 11) + (headSpec ws rm).room.locals ≤ R.locals := hlocals
  have happ : (headSpec ws rm).appliesLoose y e.platform (U.calling g mk a) = true :=
    Spec.appliesLoose_calling (g := g) h hdg hn hkY hinitY
      (X.room_calling (g := g) (R' := (headSpec ws rm).room) hsize hmY hcY hframes (by rw [hlY]; omega) h4 h5) h1
  obtain ⟨mid, hmid⟩ := h.above
  have hfr : (U.setTop g).frames = (.java g :: mid) ++ below := by rw [State.frames_setTop' g h.top, hmid]; rfl
  obtain ⟨o, s₂, hsteps, -, hend, hq⟩ := Steps.callFree hM p X.admits X.cas X.clock (acts := []) hfr happ hPc trivial
  have hq' : vx_Q Qc XC mc ms free a (U.calling g mk a) o s₂ := hq
  rw [State.frames_setTop' g h.top] at hend
  obtain ⟨g₀, hg0⟩ := Option.isSome_iff_exists.mp h.top
  obtain ⟨r, hr⟩ := State.topJava?_eq_some.mp hg0
  have hr' : (({ U with heap := s₂.heap, slotsUsed := s₂.slotsUsed } : State).setVm s₂.vm).frames = .java g₀ :: r := hr
  rcases hq' with ⟨hqc, L, hfe, hL⟩ | ⟨q, rfl, E, ce, L, hx, hce, hcv, hcl, hW₂, hsm, hL⟩
  · obtain ⟨⟨v, rfl⟩, hW₂, e2, q2, q3, q4, q5, q6⟩ := id hfe
    have e3 : s₂ = ({ (U.calling g mk a).setFrames s₂.frames with heap := s₂.heap, slotsUsed := s₂.slotsUsed } : State).setVm s₂.vm := by
      have : s₂ = ({ s₂ with vm := (U.calling g mk a).vm } : State).setVm s₂.vm := rfl
      rw [e2] at this
      exact this
    obtain ⟨c₂, i₂, len₂, hc₂, hd₂, hf₂⟩ := hend
    have hW' : U.WarmedH s₂.vm := hW₂
    have hcc : c₂ = c := by
      have h1 : s₂.code? g.method = U.code? g.method := by
        rw [State.code?_eq, State.code?_eq, hW'.alike.method?]
      exact Option.some.inj (hc₂.symm.trans (h1.trans h.code))
    subst hcc
    have hlen : len₂ = len := by rw [hdg] at hd₂; cases hd₂; rfl
    subst hlen
    have hs₂ : s₂ = (({ U with heap := s₂.heap, slotsUsed := s₂.slotsUsed } : State).setVm s₂.vm).setTop { g with pc := g.pc + len₂, stack := v.toList ++ g.stack } := by
      refine e3.trans ?_
      rw [hf₂, State.calling_eq h.top, State.setFrames_setFrames, State.setTop_of_frames _ hr', hr]
      rfl
    have hsame : U.sameButNew ({ U with heap := s₂.heap, slotsUsed := s₂.slotsUsed } : State) L mc ms := by
      refine ⟨?_, q2, q3, q4, q5, q6⟩
      obtain ⟨t, ht, -⟩ := State.frames_cons hr
      show ({ U with heap := s₂.heap, slotsUsed := s₂.slotsUsed } : State) = { U.setFrames U.frames with heap := s₂.heap, slotsUsed := s₂.slotsUsed }
      rw [State.setFrames_self ht]
    subst hg
    refine Or.inl ⟨v, ⟨(({ U with heap := s₂.heap, slotsUsed := s₂.slotsUsed } : State).setVm s₂.vm), Ls ++ L, c0 + mc, s0 + ms⟩,
      ⟨X.admits, X.cas, X.clock, X.frames, X.room, X.hears, X.method, X.code, (X.here.setHeapUsed s₂.heap s₂.slotsUsed).setVm hW'.alike, X.tail, State.WarmedH.trans X.warmed hW', X.limits, X.bytes, X.same.trans (hsame.setVm s.vm)⟩,
      ⟨g, mk, s₂, L, rfl, rfl, hqc, rfl, hL, rfl, rfl⟩, ?_⟩
    show Steps p.tables e below _ ((({ U with heap := s₂.heap, slotsUsed := s₂.slotsUsed } : State).setVm s₂.vm).setTop { g with pc := g.pc + len₂, stack := v.toList ++ g.stack })
    rw [← hs₂]
    exact hsteps
  · obtain ⟨e2, q2, q3, q4, q5, q6⟩ := id hsm
    have e3 : s₂ = ({ (U.calling g mk a).setFrames s₂.frames with heap := s₂.heap, slotsUsed := s₂.slotsUsed } : State).setVm s₂.vm := by
      have : s₂ = ({ s₂ with vm := (U.calling g mk a).vm } : State).setVm s₂.vm := rfl
      rw [e2] at this
      exact this
    have hf₂ : s₂.frames = .throwing q :: .java g :: U.frames.tail := hend
    have hW' : U.WarmedH s₂.vm := hW₂
    have hs₂ : s₂ = ((({ U with heap := s₂.heap, slotsUsed := s₂.slotsUsed } : State).setVm s₂.vm).setTop g).pushFrame (.throwing q) := by
      refine e3.trans ?_
      rw [hf₂, State.calling_eq h.top, State.setFrames_setFrames, State.pushFrame, State.frames_setTop _ hr', State.setTop_of_frames _ hr', State.setFrames_setFrames, hr]
      rfl
    have hsame : U.sameButNew ({ U with heap := s₂.heap, slotsUsed := s₂.slotsUsed } : State) L mc ms := by
      refine ⟨?_, q2, q3, q4, q5, q6⟩
      obtain ⟨t, ht, -⟩ := State.frames_cons hr
      show ({ U with heap := s₂.heap, slotsUsed := s₂.slotsUsed } : State) = { U.setFrames U.frames with heap := s₂.heap, slotsUsed := s₂.slotsUsed }
      rw [State.setFrames_self ht]
    subst hg
    refine Or.inr ⟨q, ⟨(({ U with heap := s₂.heap, slotsUsed := s₂.slotsUsed } : State).setVm s₂.vm), Ls ++ L, c0 + mc, s0 + ms⟩,
      ⟨X.admits, X.cas, X.clock, X.frames, X.room, X.hears, X.method, X.code, (X.here.setHeapUsed s₂.heap s₂.slotsUsed).setVm hW'.alike, X.tail, State.WarmedH.trans X.warmed hW', X.limits, X.bytes, X.same.trans (hsame.setVm s.vm)⟩,
      ⟨g, mk, s₂, L, E, ce, rfl, rfl, hx, hce, hcv, hcl, rfl, hL, rfl, rfl⟩, ?_⟩
    show Steps p.tables e below _ (((({ U with heap := s₂.heap, slotsUsed := s₂.slotsUsed } : State).setVm s₂.vm).setTop g).pushFrame (.throwing q))
    rw [← hs₂]
    exact hsteps
end
variable {p : Program} {l : Launch} {e : Env} {R : Room} {s : State} {m : MethodId} {args : Array Value} {below : List Frame} {meth : Method} {c : Code} {T : State} {H : Heap} {locs : List Loc} {cells slots : Nat}
theorem vx_callVX (X : Stand p l e R s m args below meth c T locs cells slots) (hexec : p.tables.exec = Jvm.exec) {own C : String} {index : Nat} {y : MethodName} {bytes : ByteArray} {maxL : Nat} {ret : Option FieldType} {hh : List (Nat × Nat × Nat × Nat)}
    (hown : s.vm.findClass own = some m.cls) (hlink : (Cond.methodLink own index y).before args s = true) (hinst : (Cond.instanceMethod y).before args s = true) (hsel : (Cond.selects C y y).before args s = true)
    (hcode : (Cond.codeWith y bytes maxL ret hh).before args s = true) (hy : y.cls ≠ "java/lang/invoke/MethodHandle" ∧ y.cls ≠ "java/lang/invoke/VarHandle")
    {W9 : Nat} {Pre : Pt → Array Value → Prop} {Post : Pt → Array Value → Option Value → Pt → Prop} {PostX : Pt → Array Value → Addr → Pt → Prop} (hK : vx_Back l R p e below s args y 3 W9 Pre Post PostX)
    {b : Addr} {cellB : Cell} (hcell : T.heap[b]? = some cellB) (hobj : cellB.vm.isStatics = false) (hcls : s.vm.findClass C = some cellB.cls)
    {g : JFrame} (hg : g.method = m) (hsize : g.locals.size = c.maxLocals) {argsL rest : List Value} (hlen : ∀ sig, parseMethodDescriptor y.desc = some sig → argsL.length = sig.parameters.length)
    (hstack : g.stack = argsL.reverse ++ .ref b :: rest) (hW : 2 * g.monitorRoom + (rest.map fun v => v.category).sum ≤ W9) (hdg : decode c.code g.pc = .ok (.invokevirtual index, 3))
    (hpre : ∀ vm₁, s.WarmedH vm₁ → Pre ⟨T.setVm vm₁, locs, cells, slots⟩ (Value.ref b :: argsL).toArray) :
    (∃ (v : Option Value) (vm₁ : Vm) (B : Pt), s.WarmedH vm₁ ∧ Stand p l e R s m args below meth c B.U B.locs B.cells B.slots ∧ Post ⟨T.setVm vm₁, locs, cells, slots⟩ (Value.ref b :: argsL).toArray v B ∧
      ∀ target, Steps p.tables e below (B.U.setTop { g with pc := g.pc + 3, stack := v.toList ++ rest }) target → Steps p.tables e below (T.setTop g) target) ∨
    (∃ (q : Addr) (vm₁ : Vm) (B : Pt), s.WarmedH vm₁ ∧ Stand p l e R s m args below meth c B.U B.locs B.cells B.slots ∧ PostX ⟨T.setVm vm₁, locs, cells, slots⟩ (Value.ref b :: argsL).toArray q B ∧
      Steps p.tables e below (T.setTop g) ((B.U.setTop { g with stack := rest }).pushFrame (.throwing q))) := by
  obtain ⟨mk, methM, hnamed, hmethM, hstM, habM⟩ := Cond.instanceMethod_spec hinst
  obtain ⟨m8, methM', cM, hn8, hmethM', -, -, -, -, -, -, hsigM⟩ := Cond.codeWith_spec hcode
  cases Option.some.inj (hn8.symm.trans hnamed)
  cases hmethM.symm.trans hmethM'
  obtain ⟨c2, r2, m2, q1, q2, q3, q4, kP, hkP, hkPi⟩ := Cond.selects_spec hsel
  cases hcls.symm.trans q1
  cases (State.methodFound?_of_named hnamed hy).symm.trans q2
  cases hnamed.symm.trans q3
  have hselP : selectMethod e.platform s.vm cellB.cls mk = .method mk := by rw [Launch.admits_selectMethod X.admits]; exact q4
  obtain ⟨vm₁, X₁, hstep₁⟩ := X.invokevirtual hexec hown hlink hnamed hmethM hstM hkP hkPi hy (a := b) (cell := cellB) hcell
    (fun z h => by rw [h] at hobj; cases hobj) hselP hmethM habM hkP hkPi (g := g) hg (argsL := argsL) (rest := rest) (hlen _ hsigM) hstack hdg
  rcases hK m meth c ⟨T.setVm vm₁, locs, cells, slots⟩ { g with stack := rest } (.invokevirtual index) mk (Value.ref b :: argsL).toArray X₁ hg hsize hdg hW (X₁.named hnamed) (hpre vm₁ X₁.warmed) with ⟨v, B, X', hpost, hsteps⟩ | ⟨q, B, X', hpost, hsteps⟩
  · exact Or.inl ⟨v, vm₁, B, X₁.warmed, X', hpost, fun target h => hstep₁ _ fun acts => by rw [doInvoke_state]; exact hsteps.trans h⟩
  · exact Or.inr ⟨q, vm₁, B, X₁.warmed, X', hpost, hstep₁ _ fun acts => by rw [doInvoke_state]; exact hsteps⟩
theorem vx_callSX (X : Stand p l e R s m args below meth c T locs cells slots) (hexec : p.tables.exec = Jvm.exec) {own : String} {index : Nat} {y : MethodName} {bytes : ByteArray} {maxL : Nat} {ret : Option FieldType} {hh : List (Nat × Nat × Nat × Nat)}
    (hown : s.vm.findClass own = some m.cls) (hlink : (Cond.methodLink own index y).before args s = true) (hstat : (Cond.static y).before args s = true) (hinit : (Cond.initialized y.cls).before args s = true)
    (hcode : (Cond.codeWith y bytes maxL ret hh).before args s = true) (hy : y.cls ≠ "java/lang/invoke/MethodHandle" ∧ y.cls ≠ "java/lang/invoke/VarHandle")
    {W9 : Nat} {Pre : Pt → Array Value → Prop} {Post : Pt → Array Value → Option Value → Pt → Prop} {PostX : Pt → Array Value → Addr → Pt → Prop} (hK : vx_Back l R p e below s args y 3 W9 Pre Post PostX)
    {g : JFrame} (hg : g.method = m) (hsize : g.locals.size = c.maxLocals) {argsL rest : List Value} (hlen : ∀ sig, parseMethodDescriptor y.desc = some sig → argsL.length = sig.parameters.length)
    (hstack : g.stack = argsL.reverse ++ rest) (hW : 2 * g.monitorRoom + (rest.map fun v => v.category).sum ≤ W9) (hdg : decode c.code g.pc = .ok (.invokestatic index, 3))
    (hpre : ∀ vm₁, s.WarmedH vm₁ → Pre ⟨T.setVm vm₁, locs, cells, slots⟩ argsL.toArray) :
    (∃ (v : Option Value) (vm₁ : Vm) (B : Pt), s.WarmedH vm₁ ∧ Stand p l e R s m args below meth c B.U B.locs B.cells B.slots ∧ Post ⟨T.setVm vm₁, locs, cells, slots⟩ argsL.toArray v B ∧
      ∀ target, Steps p.tables e below (B.U.setTop { g with pc := g.pc + 3, stack := v.toList ++ rest }) target → Steps p.tables e below (T.setTop g) target) ∨
    (∃ (q : Addr) (vm₁ : Vm) (B : Pt), s.WarmedH vm₁ ∧ Stand p l e R s m args below meth c B.U B.locs B.cells B.slots ∧ PostX ⟨T.setVm vm₁, locs, cells, slots⟩ argsL.toArray q B ∧
      Steps p.tables e below (T.setTop g) ((B.U.setTop { g with stack := rest }).pushFrame (.throwing q))) := by
  obtain ⟨mk, methM, cM, hnamed, hmethM, -, -, -, -, -, -, hsigM⟩ := Cond.codeWith_spec hcode
  have hstatic : methM.isStatic = true := Cond.static_spec hnamed hmethM hstat
  obtain ⟨kP, hkP, -⟩ := className_of_methodNamed hnamed
  have hinitP : kP.init = .initialized := Cond.initialized_spec (findClass_of_methodNamed hnamed) hkP hinit
  obtain ⟨vm₁, X₁, hstep₁⟩ := X.invokestatic hexec hown hlink hnamed hmethM hstatic hkP hinitP hy (g := g) hg (argsL := argsL) (rest := rest) (hlen _ hsigM) hstack hdg
  rcases hK m meth c ⟨T.setVm vm₁, locs, cells, slots⟩ { g with stack := rest } (.invokestatic index) mk argsL.toArray X₁ hg hsize hdg hW (X₁.named hnamed) (hpre vm₁ X₁.warmed) with ⟨v, B, X', hpost, hsteps⟩ | ⟨q, B, X', hpost, hsteps⟩
  · exact Or.inl ⟨v, vm₁, B, X₁.warmed, X', hpost, fun target h => hstep₁ _ fun acts => by rw [doInvoke_state]; exact hsteps.trans h⟩
  · exact Or.inr ⟨q, vm₁, B, X₁.warmed, X', hpost, hstep₁ _ fun acts => by rw [doInvoke_state]; exact hsteps⟩
theorem vx_callVW (X : Stand p l e R s m args below meth c T locs cells slots) (hexec : p.tables.exec = Jvm.exec) {own C : String} {index : Nat} {y : MethodName} {bytes : ByteArray} {maxL : Nat} {ret : Option FieldType} {hh : List (Nat × Nat × Nat × Nat)}
    (hown : s.vm.findClass own = some m.cls) (hlink : (Cond.methodLink own index y).before args s = true) (hinst : (Cond.instanceMethod y).before args s = true) (hsel : (Cond.selects C y y).before args s = true)
    (hcode : (Cond.codeWith y bytes maxL ret hh).before args s = true) (hy : y.cls ≠ "java/lang/invoke/MethodHandle" ∧ y.cls ≠ "java/lang/invoke/VarHandle")
    {W9 : Nat} {Pre : Pt → Array Value → Prop} {Post : Pt → Array Value → Option Value → Pt → Prop} (hK : Back l R p e below s args y 3 W9 Pre Post)
    {b : Addr} {cellB : Cell} (hcell : T.heap[b]? = some cellB) (hobj : cellB.vm.isStatics = false) (hcls : s.vm.findClass C = some cellB.cls)
    {g : JFrame} (hg : g.method = m) (hsize : g.locals.size = c.maxLocals) {argsL rest : List Value} (hlen : ∀ sig, parseMethodDescriptor y.desc = some sig → argsL.length = sig.parameters.length)
    (hstack : g.stack = argsL.reverse ++ .ref b :: rest) (hW : 2 * g.monitorRoom + (rest.map fun v => v.category).sum ≤ W9) (hdg : decode c.code g.pc = .ok (.invokevirtual index, 3))
    (hpre : ∀ vm₁, s.WarmedH vm₁ → Pre ⟨T.setVm vm₁, locs, cells, slots⟩ (Value.ref b :: argsL).toArray) :
    ∃ (v : Option Value) (vm₁ : Vm) (B : Pt), s.WarmedH vm₁ ∧ Stand p l e R s m args below meth c B.U B.locs B.cells B.slots ∧ Post ⟨T.setVm vm₁, locs, cells, slots⟩ (Value.ref b :: argsL).toArray v B ∧
      ∀ target, Steps p.tables e below (B.U.setTop { g with pc := g.pc + 3, stack := v.toList ++ rest }) target → Steps p.tables e below (T.setTop g) target := by
  obtain ⟨mk, methM, hnamed, hmethM, hstM, habM⟩ := Cond.instanceMethod_spec hinst
  obtain ⟨m8, methM', cM, hn8, hmethM', -, -, -, -, -, -, hsigM⟩ := Cond.codeWith_spec hcode
  cases Option.some.inj (hn8.symm.trans hnamed)
  cases hmethM.symm.trans hmethM'
  obtain ⟨c2, r2, m2, q1, q2, q3, q4, kP, hkP, hkPi⟩ := Cond.selects_spec hsel
  cases hcls.symm.trans q1
  cases (State.methodFound?_of_named hnamed hy).symm.trans q2
  cases hnamed.symm.trans q3
  have hselP : selectMethod e.platform s.vm cellB.cls mk = .method mk := by rw [Launch.admits_selectMethod X.admits]; exact q4
  obtain ⟨vm₁, X₁, hstep₁⟩ := X.invokevirtual hexec hown hlink hnamed hmethM hstM hkP hkPi hy (a := b) (cell := cellB) hcell
    (fun z h => by rw [h] at hobj; cases hobj) hselP hmethM habM hkP hkPi (g := g) hg (argsL := argsL) (rest := rest) (hlen _ hsigM) hstack hdg
  obtain ⟨v, B, X', hpost, hsteps⟩ := hK m meth c ⟨T.setVm vm₁, locs, cells, slots⟩ { g with stack := rest } (.invokevirtual index) mk (Value.ref b :: argsL).toArray X₁ hg hsize hdg hW (X₁.named hnamed) (hpre vm₁ X₁.warmed)
  exact ⟨v, vm₁, B, X₁.warmed, X', hpost, fun target h => hstep₁ _ fun acts => by rw [doInvoke_state]; exact hsteps.trans h⟩
abbrev vx_CVW (R : Room) (s : State) (args : Array Value) (own C : String) (index : Nat) (y : MethodName) (bytes : ByteArray) (maxL : Nat) (ret : Option FieldType) (hh : List (Nat × Nat × Nat × Nat)) (ws : List Cond) (rm : Room) (mc ms n : Nat) : Prop :=
  (rm.cells = mc ∧ rm.slots = ms ∧ rm.frames + 1 ≤ R.frames ∧ 8 + (maxL + 11) + rm.locals ≤ R.locals ∧ (∀ w ∈ ws, ∀ (a' : Array Value) (U : State), s.WarmedH U.vm → w.before a' U = true) ∧ Cond.codeWith y bytes maxL ret hh ∈ ws) ∧
  (Cond.codeWith y bytes maxL ret hh).before args s = true ∧ (Cond.initialized y.cls).before args s = true ∧ (y.cls ≠ "java/lang/invoke/MethodHandle" ∧ y.cls ≠ "java/lang/invoke/VarHandle") ∧
  (∀ sig, parseMethodDescriptor y.desc = some sig → n = sig.parameters.length) ∧ (Cond.methodLink own index y).before args s = true ∧ (Cond.instanceMethod y).before args s = true ∧ (Cond.selects C y y).before args s = true
theorem vx_cwVW {own C : String} {index maxL mc ms : Nat} {y : MethodName} {bytes : ByteArray} {ret : Option FieldType} {hh : List (Nat × Nat × Nat × Nat)} {Ts ws ws' : List Cond} {rm : Room} (n : Nat) (ht : ∀ w ∈ Ts, w.before args s = true) (hT : GoodIn Ts (wsV own index C y ws)) (hw : ws = Cond.codeWith y bytes maxL ret hh :: ws') (hrc : rm.cells = mc) (hrs : rm.slots = ms)
    (hd : y.cls = C ∧ y.cls ≠ "java/lang/invoke/MethodHandle" ∧ y.cls ≠ "java/lang/invoke/VarHandle" ∧ (parseMethodDescriptor y.desc).map (fun d => d.parameters.length) = some n) (hR : rm.frames + 1 ≤ R.frames ∧ 8 + (maxL + 11) + rm.locals ≤ R.locals) :
    vx_CVW R s args own C index y bytes maxL ret hh ws rm mc ms n := by
  obtain ⟨hC, hd⟩ := hd
  subst hC
  have ok : ∀ w ∈ wsV own index y.cls y ws, w.before args s = true := fun w h => ht w (hT w h).1
  have hG : GoodIn Ts ws := fun w h => hT w (by unfold wsV; exact List.mem_append_right _ h)
  have hc : Cond.codeWith y bytes maxL ret hh ∈ ws := by rw [hw]; exact List.mem_cons_self
  refine ⟨⟨hrc, hrs, hR.1, hR.2, pay_in ht hG, hc⟩, ht _ (hG _ hc).1, ok _ (by simp [wsV]), ⟨hd.1, hd.2.1⟩, fun sig h => ?_, ok _ (by simp [wsV]), ok _ (by simp [wsV]), ok _ (by simp [wsV])⟩
  have h2 := hd.2.2
  rw [h] at h2
  exact (Option.some.inj h2).symm
theorem vx_runVW {y : MethodName} {bytes cc : ByteArray} {maxL nL mc ms n index : Nat} {ret : Option FieldType} {hh : List (Nat × Nat × Nat × Nat)} {ws : List Cond} {rm : Room} {Pc : Array Value → State → Prop} {Qc : Array Value → State → Outcome → State → Prop} {free : Addr → Prop} {Ts : List Cond} {own C : String} {b : Addr} {As rest : List Value} {g : JFrame}
    (S : CallFix p m c cc nL s args Ts own) (hM : Met l y ws rm Pc Qc mc ms free) (cw : vx_CVW R s args own C index y bytes maxL ret hh ws rm mc ms n) (hp : PreV s H C b Pc As)
    (hg : g.method = m) (hn : As.length = n) (hsize : g.locals.size = nL) (hstack : g.stack = As.reverse ++ .ref b :: rest) (hW : 2 * g.monitorRoom + (rest.map fun v => v.category).sum ≤ 8) (hdg : decode cc g.pc = .ok (.invokevirtual index, 3)) (hf : cells + mc ≤ R.cells ∧ slots + ms ≤ R.slots) :
    va_Run p l e R s m args below meth c H locs cells slots mc ms g rest (Qc (Value.ref b :: As).toArray) free := by
  obtain ⟨⟨hrc, hrs, hfr, hlo, hws, hcw⟩, hcode, hini, hy, hlen, hl, hin, hse⟩ := cw
  have hK : Back l R p e below s args y 3 8 (PreOf R mc ms Pc) (PostOf Qc mc ms free) := va_backW (hh := hh) (bytes := bytes) (maxL := maxL) (ret := ret) hM hp.1 hrc hrs hfr hlo hws hcw (fun a' U hW => word_at hW (Or.inl (by first | rfl | simp [Cond.onTables, Cond.keeps, Cond.steady])) hini)
  obtain ⟨hx, hb, hml, ho, -⟩ := S
  obtain ⟨-, ⟨cellB, hcB, hoB, hclB⟩, hPc⟩ := hp
  intro T hT X
  obtain ⟨v, vm₁, ⟨U', l2, c2, s2⟩, hW₁, X', ⟨g', mk, t, L, e1, e2, hq, h1, hL, h2, h3⟩, st⟩ := vx_callVW X hx (C := C) (hh := hh) (bytes := bytes) (maxL := maxL) (ret := ret) ho hl hin hse hcode hy hK (by rw [hT]; exact hcB) hoB hclB hg (hsize.trans hml.symm) (argsL := As) (rest := rest) (fun sig h => hn.trans (hlen sig h)) hstack hW (by rw [hb]; exact hdg)
    (fun vm₁ hW₁ => ⟨hf.1, hf.2, hPc (T.setVm vm₁) hT hW₁⟩)
  dsimp only [Pt.U, Pt.locs, Pt.cells, Pt.slots] at X' e1 e2 h1 h2 h3 st
  subst h1; subst h2; subst h3
  exact ⟨v, (T.setVm vm₁).calling g' mk (Value.ref b :: As).toArray, t, U', L, hT, X', hL, e1, e2, hq, st⟩
section
variable {y : MethodName} {bytes cc : ByteArray} {maxL nL mc ms n index : Nat} {ret : Option FieldType} {ws : List Cond} {rm : Room} {Pc : Array Value → State → Prop} {Qc : Array Value → State → Outcome → State → Prop} {XC : String → State → State → Prop} {free : Addr → Prop} {Ts : List Cond} {own C : String} {b : Addr} {As rest : List Value} {g : JFrame}
theorem vx_runVX {hh : List (Nat × Nat × Nat × Nat)} (S : CallFix p m c cc nL s args Ts own) (hM : vx_Met l y ws rm Pc Qc XC mc ms free) (cw : vx_CVW R s args own C index y bytes maxL ret hh ws rm mc ms n) (hp : PreV s H C b Pc As)
    (hg : g.method = m) (hn : As.length = n) (hsize : g.locals.size = nL) (hstack : g.stack = As.reverse ++ .ref b :: rest) (hW : 2 * g.monitorRoom + (rest.map fun v => v.category).sum ≤ 8) (hdg : decode cc g.pc = .ok (.invokevirtual index, 3)) (hf : cells + mc ≤ R.cells ∧ slots + ms ≤ R.slots) :
    vx_Run p l e R s m args below meth c H locs cells slots mc ms g rest (Qc (Value.ref b :: As).toArray) XC free := by
  obtain ⟨⟨hrc, hrs, hfr, hlo, hws, hcw⟩, hcode, hini, hy, hlen, hl, hin, hse⟩ := cw
  have hK : vx_Back l R p e below s args y 3 8 (PreOf R mc ms Pc) (PostOf Qc mc ms free) (vx_Post XC mc ms free) := vx_backW (hh := hh) (bytes := bytes) (maxL := maxL) (ret := ret) hM hp.1 hrc hrs hfr hlo hws hcw (fun a' U hW => word_at hW (Or.inl (by first | rfl | simp [Cond.onTables, Cond.keeps, Cond.steady])) hini)
  obtain ⟨hx, hb, hml, ho, -⟩ := S
  obtain ⟨-, ⟨cellB, hcB, hoB, hclB⟩, hPc⟩ := hp
  intro T hT X
  rcases vx_callVX X hx (C := C) (hh := hh) (bytes := bytes) (maxL := maxL) (ret := ret) ho hl hin hse hcode hy hK (by rw [hT]; exact hcB) hoB hclB hg (hsize.trans hml.symm) (argsL := As) (rest := rest) (fun sig h => hn.trans (hlen sig h)) hstack hW (by rw [hb]; exact hdg)
    (fun vm₁ hW₁ => ⟨hf.1, hf.2, hPc (T.setVm vm₁) hT hW₁⟩) with ⟨v, vm₁, ⟨U', l2, c2, s2⟩, hW₁, X', ⟨g', mk, t, L, e1, e2, hq, h1, hL, h2, h3⟩, st⟩ | ⟨q, vm₁, ⟨U', l2, c2, s2⟩, hW₁, X', ⟨g', mk, t, L, E, ce, e1, e2, hq, hce, hcv, hcl, h1, hL, h2, h3⟩, st⟩
  · dsimp only [Pt.U, Pt.locs, Pt.cells, Pt.slots] at X' e1 e2 h1 h2 h3 st
    subst h1; subst h2; subst h3
    exact Or.inl ⟨v, (T.setVm vm₁).calling g' mk (Value.ref b :: As).toArray, t, U', L, hT, X', hL, e1, e2, hq, st⟩
  · dsimp only [Pt.U, Pt.locs, Pt.cells, Pt.slots] at X' e1 e2 h1 h2 h3 st hcl
    subst h1; subst h2; subst h3
    exact Or.inr ⟨q, (T.setVm vm₁).calling g' mk (Value.ref b :: As).toArray, t, U', L, E, ce, hT, X', hL, e1, e2, hq, hce, hcv, vx_cls hW₁ hcl, st⟩
theorem vx_runSX {hh : List (Nat × Nat × Nat × Nat)} (S : CallFix p m c cc nL s args Ts own) (hM : vx_Met l y ws rm Pc Qc XC mc ms free) (cw : vx_CSW R s args own index y bytes maxL ret hh ws rm mc ms n) (hp : PreS s H Pc As)
    (hg : g.method = m) (hn : As.length = n) (hsize : g.locals.size = nL) (hstack : g.stack = As.reverse ++ rest) (hW : 2 * g.monitorRoom + (rest.map fun v => v.category).sum ≤ 8) (hdg : decode cc g.pc = .ok (.invokestatic index, 3)) (hf : cells + mc ≤ R.cells ∧ slots + ms ≤ R.slots) :
    vx_Run p l e R s m args below meth c H locs cells slots mc ms g rest (Qc As.toArray) XC free := by
  obtain ⟨⟨hrc, hrs, hfr, hlo, hws, hcw⟩, hcode, hini, hy, hlen, hl, hstt⟩ := cw
  have hK : vx_Back l R p e below s args y 3 8 (PreOf R mc ms Pc) (PostOf Qc mc ms free) (vx_Post XC mc ms free) := vx_backW (hh := hh) (bytes := bytes) (maxL := maxL) (ret := ret) hM hp.1 hrc hrs hfr hlo hws hcw (fun a' U hW => word_at hW (Or.inl (by first | rfl | simp [Cond.onTables, Cond.keeps, Cond.steady])) hini)
  obtain ⟨hx, hb, hml, ho, -⟩ := S
  intro T hT X
  rcases vx_callSX X hx (hh := hh) (bytes := bytes) (maxL := maxL) (ret := ret) ho hl hstt hini hcode hy hK hg (hsize.trans hml.symm) (argsL := As) (rest := rest) (fun sig h => hn.trans (hlen sig h)) hstack hW (by rw [hb]; exact hdg)
    (fun vm₁ hW₁ => ⟨hf.1, hf.2, hp.2 (T.setVm vm₁) hT hW₁⟩) with ⟨v, vm₁, ⟨U', l2, c2, s2⟩, hW₁, X', ⟨g', mk, t, L, e1, e2, hq, h1, hL, h2, h3⟩, st⟩ | ⟨q, vm₁, ⟨U', l2, c2, s2⟩, hW₁, X', ⟨g', mk, t, L, E, ce, e1, e2, hq, hce, hcv, hcl, h1, hL, h2, h3⟩, st⟩
  · dsimp only [Pt.U, Pt.locs, Pt.cells, Pt.slots] at X' e1 e2 h1 h2 h3 st
    subst h1; subst h2; subst h3
    exact Or.inl ⟨v, (T.setVm vm₁).calling g' mk As.toArray, t, U', L, hT, X', hL, e1, e2, hq, st⟩
  · dsimp only [Pt.U, Pt.locs, Pt.cells, Pt.slots] at X' e1 e2 h1 h2 h3 st hcl
    subst h1; subst h2; subst h3
    exact Or.inr ⟨q, (T.setVm vm₁).calling g' mk As.toArray, t, U', L, E, ce, hT, X', hL, e1, e2, hq, hce, hcv, vx_cls hW₁ hcl, st⟩
end
end VXH
theorem vx_ofWH {l : Launch} {y : MethodName} {ws ws' : List Cond} {rm : Room} {Pc : Array Value → State → Prop} {Qc : Array Value → State → Outcome → State → Prop} {XC : String → State → State → Prop} {mc ms : Nat} {free : Addr → Prop} {cc : ByteArray} {maxL : Nat} {ret : Option FieldType} {hh : List (Nat × Nat × Nat × Nat)}
    (hy : plainName y.cls = true) (hw : ws = Cond.codeWith y cc maxL ret hh :: ws')
    (body : ∀ p e s m args below meth c s₁, BodyLoose p l y (headSpec ws rm) cc maxL ret e s m args below meth c s₁ → c.maxLocals = maxL → Pc args s →
      W p l e (headSpec ws rm).room s m args below meth c s.heap [] 0 0 (vx_MQ below Qc XC args s mc ms free) (entryFrame m args maxL)) : vx_Met l y ws rm Pc Qc XC mc ms free := by
  refine MetFree.of_bodyS (code := cc) (maxLocals := maxL) (ret := ret) hy ?_ ?_
  · intro args s m h hn
    obtain ⟨m9, meth, c, hn9, h1, h2, h3, h4, -, h5, h6, -⟩ := Cond.codeWith_spec (atoms_spec (ws := ws) h _ (by rw [hw]; exact List.mem_cons_self))
    cases hn.symm.trans hn9
    exact ⟨meth, c, h1, h2, h3, h4, h5, h6⟩
  · intro p e s m args below meth c s₁ B hml hP _
    have hh0 : s₁.heap = s.heap := by rw [B.state]; rfl
    obtain ⟨t, a1, o, b1, b2, b3⟩ := body p e s m args below meth c s₁ B hml hP s₁ hh0 (Stand.of_body B)
    exact ⟨t, o, a1, b1, b2, b3⟩
/-! ===== END ===== -/

def vx_atN (n : Nat) : List Cond := (Bundle.npeArmAtoms n).filter vx_no
def vx_atM (X : String) (names : List String) : List Cond := (Bundle.messageArmAtoms X names).filter vx_no
end
section
/-! ===== BEGIN printed: names, fields, word lists, decode rows ===== -/
def RX0 : String := "PowderMill$House"
def TX0 : u_T := fun k => match k with
  | 0 => ("PowderMill$House", "stands", "Z", false)
  | 1 => ("PowderMill$House", "walls", "I", false)
  | 2 => ("PowderMill$House", "powder", "I", false)
  | 3 => ("PowderMill$House", "refuge", "Z", false)
  | 4 => ("PowderMill$House", "timesIn", "I", false)
  | 5 => ("PowderMill$House", "sparks", "I", false)
  | 6 => ("PowderMill$House", "timesCaught", "I", false)
  | _ => ("PowderMill$House", "staysNow", "I", false)
def tyX0 : Nat → FieldType := fun k => match k with
  | 0 => .boolean
  | 1 => .int
  | 2 => .int
  | 3 => .boolean
  | 4 => .int
  | 5 => .int
  | 6 => .int
  | _ => .int
abbrev wsX00 : List Cond := u_ws RX0 TX0 8
theorem nmX0 : ∀ a, a < 8 → ∀ b, b < 8 → a ≠ b → (TX0 a).2.1 ≠ (TX0 b).2.1 := by decide +kernel
theorem tyX0_ok : ∀ k, k < 8 → parseFieldDescriptor (TX0 k).2.2.1 = some (tyX0 k) := by decide +kernel
abbrev cX0_init : ByteArray := prog_2_method_1_code
def yX0_init : MethodName := ⟨RX0, "<init>", "()V"⟩
abbrev cX0_setUp : ByteArray := prog_2_method_2_code
def yX0_setUp : MethodName := ⟨RX0, "setUp", "(IZ)V"⟩
abbrev cX0_receive : ByteArray := prog_2_method_3_code
def yX0_receive : MethodName := ⟨RX0, "receive", "(I)I"⟩
abbrev cX0_tell : ByteArray := prog_2_method_4_code
def yX0_tell : MethodName := ⟨RX0, "tell", "(I)I"⟩
def RX1 : String := "PowderMill$Path"
def TX1 : u_T := fun k => match k with
  | 0 => ("PowderMill$Path", "houses", "[LPowderMill$House;", true)
  | 1 => ("PowderMill$Path", "inSteps", "[I", true)
  | 2 => ("PowderMill$Path", "timesBack", "[I", true)
  | _ => ("PowderMill$Path", "depth", "I", false)
def tyX1 : Nat → FieldType := fun k => match k with
  | 0 => .array (.object "PowderMill$House")
  | 1 => .array .int
  | 2 => .array .int
  | _ => .int
abbrev wsX10 : List Cond := u_ws RX1 TX1 4
theorem nmX1 : ∀ a, a < 4 → ∀ b, b < 4 → a ≠ b → (TX1 a).2.1 ≠ (TX1 b).2.1 := by decide +kernel
theorem tyX1_ok : ∀ k, k < 4 → parseFieldDescriptor (TX1 k).2.2.1 = some (tyX1 k) := by decide +kernel
abbrev cX1_init : ByteArray := prog_3_method_1_code
def yX1_init : MethodName := ⟨RX1, "<init>", "()V"⟩
abbrev cX1_isFull : ByteArray := prog_3_method_2_code
def yX1_isFull : MethodName := ⟨RX1, "isFull", "()Z"⟩
abbrev cX1_here : ByteArray := prog_3_method_3_code
def yX1_here : MethodName := ⟨RX1, "here", "()LPowderMill$House;"⟩
abbrev cX1_around : ByteArray := prog_3_method_4_code
def yX1_around : MethodName := ⟨RX1, "around", "()LPowderMill$House;"⟩
abbrev cX1_enter : ByteArray := prog_3_method_5_code
def yX1_enter : MethodName := ⟨RX1, "enter", "(LPowderMill$House;I)V"⟩
abbrev cX1_leaveHere : ByteArray := prog_3_method_6_code
def yX1_leaveHere : MethodName := ⟨RX1, "leaveHere", "()V"⟩
abbrev cX1_leaveDownTo : ByteArray := prog_3_method_7_code
def yX1_leaveDownTo : MethodName := ⟨RX1, "leaveDownTo", "(I)V"⟩
abbrev cX1_leaveByRefuge : ByteArray := prog_3_method_8_code
def yX1_leaveByRefuge : MethodName := ⟨RX1, "leaveByRefuge", "()Z"⟩
abbrev cX1_stepBehindAgain : ByteArray := prog_3_method_9_code
def yX1_stepBehindAgain : MethodName := ⟨RX1, "stepBehindAgain", "(II)I"⟩
def RX2 : String := "PowderMill"
def TX2 : u_T := fun k => match k with
  | 0 => ("PowderMill", "places", "[LPowderMill$House;", true)
  | 1 => ("PowderMill", "path", "LPowderMill$Path;", true)
  | 2 => ("PowderMill", "ledger", "[I", true)
  | 3 => ("PowderMill", "acts", "[I", true)
  | 4 => ("PowderMill", "numbers", "[I", true)
  | 5 => ("PowderMill", "stepCount", "I", false)
  | 6 => ("PowderMill", "nextStep", "I", false)
  | 7 => ("PowderMill", "latestBegun", "I", false)
  | 8 => ("PowderMill", "latestFaultStep", "I", false)
  | 9 => ("PowderMill", "faultsMet", "[I", true)
  | 10 => ("PowderMill", "runs", "I", false)
  | 11 => ("PowderMill", "faultRuns", "I", false)
  | 12 => ("PowderMill", "spentRuns", "I", false)
  | _ => ("PowderMill", "quitRuns", "I", false)
def tyX2 : Nat → FieldType := fun k => match k with
  | 0 => .array (.object "PowderMill$House")
  | 1 => .object "PowderMill$Path"
  | 2 => .array .int
  | 3 => .array .int
  | 4 => .array .int
  | 5 => .int
  | 6 => .int
  | 7 => .int
  | 8 => .int
  | 9 => .array .int
  | 10 => .int
  | 11 => .int
  | 12 => .int
  | _ => .int
abbrev wsX20 : List Cond := u_ws RX2 TX2 14
theorem nmX2 : ∀ a, a < 14 → ∀ b, b < 14 → a ≠ b → (TX2 a).2.1 ≠ (TX2 b).2.1 := by decide +kernel
theorem tyX2_ok : ∀ k, k < 14 → parseFieldDescriptor (TX2 k).2.2.1 = some (tyX2 k) := by decide +kernel
abbrev cX2_init : ByteArray := prog_1_method_1_code
def yX2_init : MethodName := ⟨RX2, "<init>", "()V"⟩
abbrev cX2_build : ByteArray := prog_1_method_2_code
def yX2_build : MethodName := ⟨RX2, "build", "(IIZ)I"⟩
abbrev cX2_raze : ByteArray := prog_1_method_3_code
def yX2_raze : MethodName := ⟨RX2, "raze", "(I)I"⟩
abbrev cX2_step : ByteArray := prog_1_method_4_code
def yX2_step : MethodName := ⟨RX2, "step", "(II)I"⟩
abbrev cX2_clear : ByteArray := prog_1_method_5_code
def yX2_clear : MethodName := ⟨RX2, "clear", "()I"⟩
abbrev cX2_alter : ByteArray := prog_1_method_6_code
def yX2_alter : MethodName := ⟨RX2, "alter", "(III)I"⟩
abbrev cX2_run : ByteArray := prog_1_method_7_code
def yX2_run : MethodName := ⟨RX2, "run", "()I"⟩
abbrev cX2_begun : ByteArray := prog_1_method_8_code
def yX2_begun : MethodName := ⟨RX2, "begun", "()I"⟩
abbrev cX2_where : ByteArray := prog_1_method_9_code
def yX2_where : MethodName := ⟨RX2, "where", "()I"⟩
abbrev cX2_house : ByteArray := prog_1_method_10_code
def yX2_house : MethodName := ⟨RX2, "house", "(II)I"⟩
abbrev cX2_row : ByteArray := prog_1_method_11_code
def yX2_row : MethodName := ⟨RX2, "row", "(I)I"⟩
abbrev cX2_count : ByteArray := prog_1_method_12_code
def yX2_count : MethodName := ⟨RX2, "count", "(I)I"⟩
abbrev cX2_isPlace : ByteArray := prog_1_method_13_code
def yX2_isPlace : MethodName := ⟨RX2, "isPlace", "(I)Z"⟩
abbrev cX2_isAct : ByteArray := prog_1_method_14_code
def yX2_isAct : MethodName := ⟨RX2, "isAct", "(I)Z"⟩
abbrev cX2_isRow : ByteArray := prog_1_method_15_code
def yX2_isRow : MethodName := ⟨RX2, "isRow", "(I)Z"⟩
abbrev cX2_standingHouses : ByteArray := prog_1_method_16_code
def yX2_standingHouses : MethodName := ⟨RX2, "standingHouses", "()I"⟩
abbrev cX2_followOrder : ByteArray := prog_1_method_17_code
def yX2_followOrder : MethodName := ⟨RX2, "followOrder", "()I"⟩
abbrev cX2_isCaught : ByteArray := prog_1_method_18_code
def yX2_isCaught : MethodName := ⟨RX2, "isCaught", "(II)Z"⟩
abbrev cX2_perform : ByteArray := prog_1_method_19_code
def yX2_perform : MethodName := ⟨RX2, "perform", "(I)I"⟩
abbrev cX2_goIn : ByteArray := prog_1_method_20_code
def yX2_goIn : MethodName := ⟨RX2, "goIn", "(II)I"⟩
abbrev cX2_grind : ByteArray := prog_1_method_21_code
def yX2_grind : MethodName := ⟨RX2, "grind", "(I)I"⟩
abbrev cX2_carry : ByteArray := prog_1_method_22_code
def yX2_carry : MethodName := ⟨RX2, "carry", "(I)I"⟩
abbrev cX2_share : ByteArray := prog_1_method_23_code
def yX2_share : MethodName := ⟨RX2, "share", "(I)I"⟩
abbrev cX2_write : ByteArray := prog_1_method_24_code
def yX2_write : MethodName := ⟨RX2, "write", "(I)I"⟩
def RX3 : String := "PowderMillModel"
def TX3 : u_T := fun k => match k with
  | 0 => ("PowderMillModel", "thrown", "I", false)
  | 1 => ("PowderMillModel", "walls", "[I", true)
  | 2 => ("PowderMillModel", "powder", "[I", true)
  | 3 => ("PowderMillModel", "refuge", "[Z", true)
  | 4 => ("PowderMillModel", "ins", "[I", true)
  | 5 => ("PowderMillModel", "sparks", "[I", true)
  | 6 => ("PowderMillModel", "caught", "[I", true)
  | 7 => ("PowderMillModel", "ledger", "[I", true)
  | 8 => ("PowderMillModel", "many", "I", false)
  | 9 => ("PowderMillModel", "acts", "[I", true)
  | 10 => ("PowderMillModel", "numbers", "[I", true)
  | 11 => ("PowderMillModel", "deep", "I", false)
  | 12 => ("PowderMillModel", "in", "[I", true)
  | 13 => ("PowderMillModel", "from", "[I", true)
  | 14 => ("PowderMillModel", "agains", "[I", true)
  | 15 => ("PowderMillModel", "next", "I", false)
  | 16 => ("PowderMillModel", "quits", "Z", false)
  | 17 => ("PowderMillModel", "begun", "I", false)
  | 18 => ("PowderMillModel", "where", "I", false)
  | _ => ("PowderMillModel", "counts", "[I", true)
def tyX3 : Nat → FieldType := fun k => match k with
  | 0 => .int
  | 1 => .array .int
  | 2 => .array .int
  | 3 => .array .boolean
  | 4 => .array .int
  | 5 => .array .int
  | 6 => .array .int
  | 7 => .array .int
  | 8 => .int
  | 9 => .array .int
  | 10 => .array .int
  | 11 => .int
  | 12 => .array .int
  | 13 => .array .int
  | 14 => .array .int
  | 15 => .int
  | 16 => .boolean
  | 17 => .int
  | 18 => .int
  | _ => .array .int
abbrev wsX30 : List Cond := u_ws RX3 TX3 20
theorem nmX3 : ∀ a, a < 20 → ∀ b, b < 20 → a ≠ b → (TX3 a).2.1 ≠ (TX3 b).2.1 := by decide +kernel
theorem tyX3_ok : ∀ k, k < 20 → parseFieldDescriptor (TX3 k).2.2.1 = some (tyX3 k) := by decide +kernel
abbrev cX3_init : ByteArray := prog_5_method_1_code
def yX3_init : MethodName := ⟨RX3, "<init>", "()V"⟩
abbrev cX3_thrown : ByteArray := prog_5_method_2_code
def yX3_thrown : MethodName := ⟨RX3, "thrown", "()I"⟩
abbrev cX3_isIn : ByteArray := prog_5_method_3_code
def yX3_isIn : MethodName := ⟨RX3, "isIn", "(III)Z"⟩
abbrev cX3_modulo : ByteArray := prog_5_method_4_code
def yX3_modulo : MethodName := ⟨RX3, "modulo", "(II)I"⟩
abbrev cX3_isPlace : ByteArray := prog_5_method_5_code
def yX3_isPlace : MethodName := ⟨RX3, "isPlace", "(I)Z"⟩
abbrev cX3_isHouse : ByteArray := prog_5_method_6_code
def yX3_isHouse : MethodName := ⟨RX3, "isHouse", "(I)Z"⟩
abbrev cX3_cleared : ByteArray := prog_5_method_7_code
def yX3_cleared : MethodName := ⟨RX3, "cleared", "(IIZ)V"⟩
abbrev cX3_build : ByteArray := prog_5_method_8_code
def yX3_build : MethodName := ⟨RX3, "build", "(IIZ)I"⟩
abbrev cX3_raze : ByteArray := prog_5_method_9_code
def yX3_raze : MethodName := ⟨RX3, "raze", "(I)I"⟩
abbrev cX3_step : ByteArray := prog_5_method_10_code
def yX3_step : MethodName := ⟨RX3, "step", "(II)I"⟩
abbrev cX3_clear : ByteArray := prog_5_method_11_code
def yX3_clear : MethodName := ⟨RX3, "clear", "()I"⟩
abbrev cX3_alter : ByteArray := prog_5_method_12_code
def yX3_alter : MethodName := ⟨RX3, "alter", "(III)I"⟩
abbrev cX3_comes : ByteArray := prog_5_method_13_code
def yX3_comes : MethodName := ⟨RX3, "comes", "(II)I"⟩
abbrev cX3_goIn : ByteArray := prog_5_method_14_code
def yX3_goIn : MethodName := ⟨RX3, "goIn", "(I)I"⟩
abbrev cX3_carry : ByteArray := prog_5_method_15_code
def yX3_carry : MethodName := ⟨RX3, "carry", "(I)I"⟩
abbrev cX3_share : ByteArray := prog_5_method_16_code
def yX3_share : MethodName := ⟨RX3, "share", "(I)I"⟩
abbrev cX3_write : ByteArray := prog_5_method_17_code
def yX3_write : MethodName := ⟨RX3, "write", "(I)I"⟩
abbrev cX3_does : ByteArray := prog_5_method_18_code
def yX3_does : MethodName := ⟨RX3, "does", "(II)I"⟩
abbrev cX3_isCaught : ByteArray := prog_5_method_19_code
def yX3_isCaught : MethodName := ⟨RX3, "isCaught", "()Z"⟩
abbrev cX3_run : ByteArray := prog_5_method_20_code
def yX3_run : MethodName := ⟨RX3, "run", "()I"⟩
abbrev cX3_begun : ByteArray := prog_5_method_21_code
def yX3_begun : MethodName := ⟨RX3, "begun", "()I"⟩
abbrev cX3_where : ByteArray := prog_5_method_22_code
def yX3_where : MethodName := ⟨RX3, "where", "()I"⟩
abbrev cX3_house : ByteArray := prog_5_method_23_code
def yX3_house : MethodName := ⟨RX3, "house", "(II)I"⟩
abbrev cX3_row : ByteArray := prog_5_method_24_code
def yX3_row : MethodName := ⟨RX3, "row", "(I)I"⟩
abbrev cX3_count : ByteArray := prog_5_method_25_code
def yX3_count : MethodName := ⟨RX3, "count", "(I)I"⟩
def RJx00060 : String := "java/lang/ArrayIndexOutOfBoundsException"
def TJx00060 : u_T := fun k => match k with
  | 0 => ("java/lang/Throwable", "backtrace", "Ljava/lang/Object;", false)
  | 1 => ("java/lang/Throwable", "detailMessage", "Ljava/lang/String;", false)
  | 2 => ("java/lang/Throwable", "cause", "Ljava/lang/Throwable;", false)
  | 3 => ("java/lang/Throwable", "stackTrace", "[Ljava/lang/StackTraceElement;", false)
  | 4 => ("java/lang/Throwable", "depth", "I", false)
  | _ => ("java/lang/Throwable", "suppressedExceptions", "Ljava/util/List;", false)
def tyJx00060 : Nat → FieldType := fun k => match k with
  | 0 => .object "java/lang/Object"
  | 1 => .object "java/lang/String"
  | 2 => .object "java/lang/Throwable"
  | 3 => .array (.object "java/lang/StackTraceElement")
  | 4 => .int
  | _ => .object "java/util/List"
abbrev wsJx000600 : List Cond := u_ws RJx00060 TJx00060 6
theorem nmJx00060 : ∀ a, a < 6 → ∀ b, b < 6 → a ≠ b → (TJx00060 a).2.1 ≠ (TJx00060 b).2.1 := by decide +kernel
theorem tyJx00060_ok : ∀ k, k < 6 → parseFieldDescriptor (TJx00060 k).2.2.1 = some (tyJx00060 k) := by decide +kernel
abbrev cJx00060_init_a7421 : ByteArray := prog_6_method_2_code
def yJx00060_init_a7421 : MethodName := ⟨RJx00060, "<init>", "(Ljava/lang/String;)V"⟩
def RJ9 : String := "java/lang/Math"
def TJ9 : u_T := fun k => match k with
  | _ => ("", "", "", false)
def tyJ9 : Nat → FieldType := fun k => match k with
  | _ => .int
abbrev wsJ90 : List Cond := u_ws RJ9 TJ9 0
theorem nmJ9 : ∀ a, a < 0 → ∀ b, b < 0 → a ≠ b → (TJ9 a).2.1 ≠ (TJ9 b).2.1 := by decide +kernel
theorem tyJ9_ok : ∀ k, k < 0 → parseFieldDescriptor (TJ9 k).2.2.1 = some (tyJ9 k) := by decide +kernel
abbrev cJ9_floorMod_7cf53 : ByteArray := prog_9_method_50_code
def yJ9_floorMod_7cf53 : MethodName := ⟨RJ9, "floorMod", "(II)I"⟩
def RJ0 : String := "java/lang/String"
def TJ0 : u_T := fun k => match k with
  | 0 => ("java/lang/String", "value", "[B", true)
  | _ => ("java/lang/String", "coder", "B", true)
def tyJ0 : Nat → FieldType := fun k => match k with
  | 0 => .array .byte
  | _ => .byte
abbrev wsJ00 : List Cond := u_ws RJ0 TJ0 2
theorem nmJ0 : ∀ a, a < 2 → ∀ b, b < 2 → a ≠ b → (TJ0 a).2.1 ≠ (TJ0 b).2.1 := by decide +kernel
theorem tyJ0_ok : ∀ k, k < 2 → parseFieldDescriptor (TJ0 k).2.2.1 = some (tyJ0 k) := by decide +kernel
def RL : String := "PowderMillLaw"
abbrev cL_row : ByteArray := method_3_code
def yL_row : MethodName := ⟨RL, "row", "(LPowderMill;I[J)I"⟩
abbrev cL_law : ByteArray := code
def yL_law : MethodName := ⟨RL, "law", "([I)Z"⟩
def wsX0_init : List Cond := .code yX0_init cX0_init 1 none :: ([.methodLink RX0 3 objectInit, .instanceMethod objectInit, .code objectInit ⟨#[0xb1]⟩ 1 none])
def wsX0_setUp : List Cond := .code yX0_setUp cX0_setUp 3 none :: ([.fieldLink RX0 9 "PowderMill$House" "stands" "Z", .fieldLink RX0 15 "PowderMill$House" "walls" "I", .fieldLink RX0 19 "PowderMill$House" "powder" "I", .fieldLink RX0 22 "PowderMill$House" "refuge" "Z", .fieldLink RX0 25 "PowderMill$House" "timesIn" "I", .fieldLink RX0 28 "PowderMill$House" "sparks" "I", .fieldLink RX0 31 "PowderMill$House" "timesCaught" "I", .fieldLink RX0 34 "PowderMill$House" "staysNow" "I"] ++ wsX00)
def wsX0_receive : List Cond := .code yX0_receive cX0_receive 2 (some .int) :: ([.fieldLink RX0 19 "PowderMill$House" "powder" "I", .fieldLink RX0 15 "PowderMill$House" "walls" "I", .fieldLink RX0 28 "PowderMill$House" "sparks" "I"] ++ wsX00)
def wsX0_tell : List Cond := .code yX0_tell cX0_tell 2 (some .int) :: ([.fieldLink RX0 15 "PowderMill$House" "walls" "I", .fieldLink RX0 19 "PowderMill$House" "powder" "I", .fieldLink RX0 22 "PowderMill$House" "refuge" "Z", .fieldLink RX0 25 "PowderMill$House" "timesIn" "I", .fieldLink RX0 28 "PowderMill$House" "sparks" "I", .fieldLink RX0 31 "PowderMill$House" "timesCaught" "I", .fieldLink RX0 34 "PowderMill$House" "staysNow" "I"] ++ wsX00)
def wsX1_init : List Cond := .code yX1_init cX1_init 1 none :: ([.methodLink RX1 3 objectInit, .instanceMethod objectInit, .code objectInit ⟨#[0xb1]⟩ 1 none, .classLink RX1 9 RX0, .fieldLink RX1 11 "PowderMill$Path" "houses" "[LPowderMill$House;", .arrayClass .int, .fieldLink RX1 17 "PowderMill$Path" "inSteps" "[I", .fieldLink RX1 21 "PowderMill$Path" "timesBack" "[I", .fieldLink RX1 24 "PowderMill$Path" "depth" "I"] ++ wsX10)
def wsX1_isFull : List Cond := .code yX1_isFull cX1_isFull 1 (some .boolean) :: ([.fieldLink RX1 24 "PowderMill$Path" "depth" "I"] ++ wsX10)
def wsX1_here : List Cond := .code yX1_here cX1_here 1 (some (.object "PowderMill$House")) :: ([.fieldLink RX1 24 "PowderMill$Path" "depth" "I", .fieldLink RX1 11 "PowderMill$Path" "houses" "[LPowderMill$House;"] ++ wsX10)
def wsX1_around : List Cond := .code yX1_around cX1_around 1 (some (.object "PowderMill$House")) :: ([.fieldLink RX1 24 "PowderMill$Path" "depth" "I", .fieldLink RX1 11 "PowderMill$Path" "houses" "[LPowderMill$House;"] ++ wsX10)
def wsX1_enter : List Cond := .code yX1_enter cX1_enter 3 none :: ([.fieldLink RX1 11 "PowderMill$Path" "houses" "[LPowderMill$House;", .fieldLink RX1 24 "PowderMill$Path" "depth" "I", .fieldLink RX1 17 "PowderMill$Path" "inSteps" "[I", .fieldLink RX1 21 "PowderMill$Path" "timesBack" "[I"] ++ wsX10 ++ wsX00 ++ (vx_atM "java/lang/ArrayIndexOutOfBoundsException" ["java/lang/IndexOutOfBoundsException", "java/lang/RuntimeException", "java/lang/Exception"]).filter goodWord)
def wsX1_leaveDownTo : List Cond := .code yX1_leaveDownTo cX1_leaveDownTo 2 none :: ([.fieldLink RX1 24 "PowderMill$Path" "depth" "I", .fieldLink RX1 11 "PowderMill$Path" "houses" "[LPowderMill$House;"] ++ wsX10 ++ wsX00)
def wsX1_leaveHere : List Cond := .code yX1_leaveHere cX1_leaveHere 1 none :: ([.fieldLink RX1 24 "PowderMill$Path" "depth" "I", .methodLink RX1 34 yX1_leaveDownTo, .instanceMethod yX1_leaveDownTo, .selects RX1 yX1_leaveDownTo yX1_leaveDownTo, .initialized RX1, .code yX1_leaveDownTo cX1_leaveDownTo 2 none, .fieldLink RX1 11 "PowderMill$Path" "houses" "[LPowderMill$House;"] ++ wsX10 ++ wsX00)
def wsX1_leaveByRefuge : List Cond := .code yX1_leaveByRefuge cX1_leaveByRefuge 2 (some .boolean) :: ([.fieldLink RX1 24 "PowderMill$Path" "depth" "I", .fieldLink RX1 11 "PowderMill$Path" "houses" "[LPowderMill$House;", .methodLink RX1 34 yX1_leaveDownTo, .instanceMethod yX1_leaveDownTo, .selects RX1 yX1_leaveDownTo yX1_leaveDownTo, .initialized RX1, .code yX1_leaveDownTo cX1_leaveDownTo 2 none] ++ wsX10 ++ wsX00)
def wsX1_stepBehindAgain : List Cond := .code yX1_stepBehindAgain cX1_stepBehindAgain 3 (some .int) :: ([.fieldLink RX1 24 "PowderMill$Path" "depth" "I", .fieldLink RX1 21 "PowderMill$Path" "timesBack" "[I", .fieldLink RX1 17 "PowderMill$Path" "inSteps" "[I"] ++ wsX10 ++ (vx_atM "java/lang/ArrayIndexOutOfBoundsException" ["java/lang/IndexOutOfBoundsException", "java/lang/RuntimeException", "java/lang/Exception"]).filter goodWord)
def wsX2_init_r1 : List Cond := [Cond.methodLink RX2 1 objectInit, Cond.instanceMethod objectInit, Cond.code objectInit ⟨#[0xb1]⟩ 1 none, Cond.classLink RX2 9 RX0, Cond.fieldLink RX2 11 "PowderMill" "places" "[LPowderMill$House;", Cond.classLink RX2 15 RX1, Cond.instantiable RX1 4, Cond.initialized RX1, Cond.fieldLink RX2 18 "PowderMill" "path" "LPowderMill$Path;", Cond.arrayClass .int, Cond.fieldLink RX2 22 "PowderMill" "ledger" "[I", Cond.fieldLink RX2 26 "PowderMill" "acts" "[I", Cond.fieldLink RX2 29 "PowderMill" "numbers" "[I", Cond.fieldLink RX2 32 "PowderMill" "stepCount" "I", Cond.fieldLink RX2 36 "PowderMill" "nextStep" "I", Cond.fieldLink RX2 39 "PowderMill" "latestBegun" "I", Cond.fieldLink RX2 42 "PowderMill" "latestFaultStep" "I", Cond.fieldLink RX2 45 "PowderMill" "faultsMet" "[I", Cond.fieldLink RX2 48 "PowderMill" "runs" "I", Cond.fieldLink RX2 51 "PowderMill" "faultRuns" "I", Cond.fieldLink RX2 54 "PowderMill" "spentRuns" "I", Cond.fieldLink RX2 57 "PowderMill" "quitRuns" "I", Cond.instantiable RX0 8, Cond.initialized RX0]
def wsX2_init_r2 : List Cond := [Cond.instanceMethod yX1_init, Cond.code yX1_init cX1_init 1 none, Cond.methodLink RX1 3 objectInit, Cond.classLink RX1 9 RX0, Cond.fieldLink RX1 11 "PowderMill$Path" "houses" "[LPowderMill$House;", Cond.fieldLink RX1 17 "PowderMill$Path" "inSteps" "[I", Cond.fieldLink RX1 21 "PowderMill$Path" "timesBack" "[I", Cond.fieldLink RX1 24 "PowderMill$Path" "depth" "I", Cond.instanceMethod yX0_init, Cond.code yX0_init cX0_init 1 none, Cond.methodLink RX0 3 objectInit]
def wsX2_init : List Cond := .code yX2_init cX2_init 2 none :: ((wsX2_init_r1 ++ wsX2_init_r2) ++ wsX20 ++ wsX10 ++ wsX00)
def wsX2_isPlace : List Cond := .code yX2_isPlace cX2_isPlace 1 (some .boolean) :: ([])
def wsX2_build : List Cond := .code yX2_build cX2_build 5 (some .int) :: ([.fieldLink RX2 11 "PowderMill" "places" "[LPowderMill$House;", .methodLink RX2 61 yX2_isPlace, .static yX2_isPlace, .initialized RX2, .code yX2_isPlace cX2_isPlace 1 (some .boolean), .methodLink RX2 69 yX0_setUp, .instanceMethod yX0_setUp, .selects RX0 yX0_setUp yX0_setUp, .initialized RX0, .code yX0_setUp cX0_setUp 3 none, .fieldLink RX0 9 "PowderMill$House" "stands" "Z", .fieldLink RX0 15 "PowderMill$House" "walls" "I", .fieldLink RX0 19 "PowderMill$House" "powder" "I", .fieldLink RX0 22 "PowderMill$House" "refuge" "Z", .fieldLink RX0 25 "PowderMill$House" "timesIn" "I", .fieldLink RX0 28 "PowderMill$House" "sparks" "I", .fieldLink RX0 31 "PowderMill$House" "timesCaught" "I", .fieldLink RX0 34 "PowderMill$House" "staysNow" "I"] ++ wsX20 ++ wsX00)
def wsX2_raze : List Cond := .code yX2_raze cX2_raze 3 (some .int) :: ([.fieldLink RX2 11 "PowderMill" "places" "[LPowderMill$House;", .methodLink RX2 61 yX2_isPlace, .static yX2_isPlace, .initialized RX2, .code yX2_isPlace cX2_isPlace 1 (some .boolean)] ++ wsX20 ++ wsX00)
def wsX2_isAct : List Cond := .code yX2_isAct cX2_isAct 1 (some .boolean) :: ([])
def wsX2_step : List Cond := .code yX2_step cX2_step 3 (some .int) :: ([.fieldLink RX2 32 "PowderMill" "stepCount" "I", .fieldLink RX2 26 "PowderMill" "acts" "[I", .fieldLink RX2 29 "PowderMill" "numbers" "[I", .methodLink RX2 73 yX2_isAct, .static yX2_isAct, .initialized RX2, .code yX2_isAct cX2_isAct 1 (some .boolean)] ++ wsX20 ++ (vx_atM "java/lang/ArrayIndexOutOfBoundsException" ["java/lang/IndexOutOfBoundsException", "java/lang/RuntimeException", "java/lang/Exception"]).filter goodWord)
def wsX2_clear : List Cond := .code yX2_clear cX2_clear 2 (some .int) :: ([.fieldLink RX2 32 "PowderMill" "stepCount" "I"] ++ wsX20)
def wsX2_alter : List Cond := .code yX2_alter cX2_alter 5 (some .int) :: ([.fieldLink RX2 32 "PowderMill" "stepCount" "I", .fieldLink RX2 26 "PowderMill" "acts" "[I", .fieldLink RX2 29 "PowderMill" "numbers" "[I", .methodLink RX2 73 yX2_isAct, .static yX2_isAct, .initialized RX2, .code yX2_isAct cX2_isAct 1 (some .boolean)] ++ wsX20 ++ (vx_atM "java/lang/ArrayIndexOutOfBoundsException" ["java/lang/IndexOutOfBoundsException", "java/lang/RuntimeException", "java/lang/Exception"]).filter goodWord)
def wsJ9_floorMod_7cf53 : List Cond := .code yJ9_floorMod_7cf53 cJ9_floorMod_7cf53 3 (some .int) :: ([])
def wsX2_goIn : List Cond := .code yX2_goIn cX2_goIn 3 (some .int) :: ([.fieldLink RX2 18 "PowderMill" "path" "LPowderMill$Path;", .fieldLink RX2 11 "PowderMill" "places" "[LPowderMill$House;", .methodLink RX2 139 yX1_isFull, .instanceMethod yX1_isFull, .selects RX1 yX1_isFull yX1_isFull, .initialized RX1, .code yX1_isFull cX1_isFull 1 (some .boolean), .fieldLink RX1 24 "PowderMill$Path" "depth" "I", .methodLink RX2 142 yX1_enter, .instanceMethod yX1_enter, .selects RX1 yX1_enter yX1_enter, .code yX1_enter cX1_enter 3 none, .fieldLink RX1 11 "PowderMill$Path" "houses" "[LPowderMill$House;", .fieldLink RX1 17 "PowderMill$Path" "inSteps" "[I", .fieldLink RX1 21 "PowderMill$Path" "timesBack" "[I"] ++ wsX20 ++ wsX00 ++ wsX10 ++ (vx_atM "java/lang/ArrayIndexOutOfBoundsException" ["java/lang/IndexOutOfBoundsException", "java/lang/RuntimeException", "java/lang/Exception"]).filter goodWord)
def wsX2_grind : List Cond := .code yX2_grind cX2_grind 3 (some .int) :: ([.fieldLink RX2 18 "PowderMill" "path" "LPowderMill$Path;", .methodLink RX2 146 yX1_here, .instanceMethod yX1_here, .selects RX1 yX1_here yX1_here, .initialized RX1, .code yX1_here cX1_here 1 (some (.object "PowderMill$House")), .fieldLink RX1 24 "PowderMill$Path" "depth" "I", .fieldLink RX1 11 "PowderMill$Path" "houses" "[LPowderMill$House;", .methodLink RX2 150 yX0_receive, .instanceMethod yX0_receive, .selects RX0 yX0_receive yX0_receive, .initialized RX0, .code yX0_receive cX0_receive 2 (some .int), .fieldLink RX0 19 "PowderMill$House" "powder" "I", .fieldLink RX0 15 "PowderMill$House" "walls" "I", .fieldLink RX0 28 "PowderMill$House" "sparks" "I"] ++ wsX20 ++ wsX10 ++ wsX00)
def wsX2_carry : List Cond := .code yX2_carry cX2_carry 4 (some .int) :: ([.fieldLink RX2 18 "PowderMill" "path" "LPowderMill$Path;", .methodLink RX2 146 yX1_here, .instanceMethod yX1_here, .selects RX1 yX1_here yX1_here, .initialized RX1, .code yX1_here cX1_here 1 (some (.object "PowderMill$House")), .fieldLink RX1 24 "PowderMill$Path" "depth" "I", .fieldLink RX1 11 "PowderMill$Path" "houses" "[LPowderMill$House;", .methodLink RX2 153 yX1_around, .instanceMethod yX1_around, .selects RX1 yX1_around yX1_around, .code yX1_around cX1_around 1 (some (.object "PowderMill$House")), .methodLink RX2 150 yX0_receive, .instanceMethod yX0_receive, .selects RX0 yX0_receive yX0_receive, .initialized RX0, .code yX0_receive cX0_receive 2 (some .int), .fieldLink RX0 19 "PowderMill$House" "powder" "I", .fieldLink RX0 15 "PowderMill$House" "walls" "I", .fieldLink RX0 28 "PowderMill$House" "sparks" "I"] ++ wsX20 ++ wsX00 ++ wsX10)
def wsX2_share : List Cond := .code yX2_share cX2_share 3 (some .int) :: ([.fieldLink RX2 18 "PowderMill" "path" "LPowderMill$Path;", .methodLink RX2 146 yX1_here, .instanceMethod yX1_here, .selects RX1 yX1_here yX1_here, .initialized RX1, .code yX1_here cX1_here 1 (some (.object "PowderMill$House")), .fieldLink RX1 24 "PowderMill$Path" "depth" "I", .fieldLink RX1 11 "PowderMill$Path" "houses" "[LPowderMill$House;"] ++ wsX20 ++ wsX00 ++ wsX10)
def wsX2_isRow : List Cond := .code yX2_isRow cX2_isRow 1 (some .boolean) :: ([])
def wsX2_write : List Cond := .code yX2_write cX2_write 3 (some .int) :: ([.fieldLink RX2 18 "PowderMill" "path" "LPowderMill$Path;", .fieldLink RX2 22 "PowderMill" "ledger" "[I", .methodLink RX2 88 yX2_isRow, .static yX2_isRow, .initialized RX2, .code yX2_isRow cX2_isRow 1 (some .boolean), .methodLink RX2 146 yX1_here, .instanceMethod yX1_here, .selects RX1 yX1_here yX1_here, .initialized RX1, .code yX1_here cX1_here 1 (some (.object "PowderMill$House")), .fieldLink RX1 24 "PowderMill$Path" "depth" "I", .fieldLink RX1 11 "PowderMill$Path" "houses" "[LPowderMill$House;"] ++ wsX20 ++ wsX00 ++ wsX10 ++ (vx_atM "java/lang/ArrayIndexOutOfBoundsException" ["java/lang/IndexOutOfBoundsException", "java/lang/RuntimeException", "java/lang/Exception"]).filter goodWord)
def wsX2_perform_r1 : List Cond := [Cond.fieldLink RX2 29 "PowderMill" "numbers" "[I", Cond.fieldLink RX2 26 "PowderMill" "acts" "[I", Cond.fieldLink RX2 18 "PowderMill" "path" "LPowderMill$Path;", Cond.fieldLink RX2 36 "PowderMill" "nextStep" "I", Cond.methodLink RX2 112 yJ9_floorMod_7cf53, Cond.static yJ9_floorMod_7cf53, Cond.initialized RJ9, Cond.code yJ9_floorMod_7cf53 cJ9_floorMod_7cf53 3 (some .int), Cond.methodLink RX2 118 yX2_goIn, Cond.instanceMethod yX2_goIn, Cond.selects RX2 yX2_goIn yX2_goIn, Cond.initialized RX2, Cond.code yX2_goIn cX2_goIn 3 (some .int), Cond.fieldLink RX2 11 "PowderMill" "places" "[LPowderMill$House;", Cond.methodLink RX2 139 yX1_isFull, Cond.instanceMethod yX1_isFull, Cond.selects RX1 yX1_isFull yX1_isFull, Cond.initialized RX1, Cond.code yX1_isFull cX1_isFull 1 (some .boolean), Cond.fieldLink RX1 24 "PowderMill$Path" "depth" "I", Cond.methodLink RX2 142 yX1_enter, Cond.instanceMethod yX1_enter, Cond.selects RX1 yX1_enter yX1_enter, Cond.code yX1_enter cX1_enter 3 none]
def wsX2_perform_r2 : List Cond := [Cond.fieldLink RX1 11 "PowderMill$Path" "houses" "[LPowderMill$House;", Cond.fieldLink RX1 17 "PowderMill$Path" "inSteps" "[I", Cond.fieldLink RX1 21 "PowderMill$Path" "timesBack" "[I", Cond.methodLink RX2 121 yX1_leaveHere, Cond.instanceMethod yX1_leaveHere, Cond.selects RX1 yX1_leaveHere yX1_leaveHere, Cond.code yX1_leaveHere cX1_leaveHere 1 none, Cond.methodLink RX1 34 yX1_leaveDownTo, Cond.instanceMethod yX1_leaveDownTo, Cond.selects RX1 yX1_leaveDownTo yX1_leaveDownTo, Cond.code yX1_leaveDownTo cX1_leaveDownTo 2 none, Cond.methodLink RX2 124 yX2_grind, Cond.instanceMethod yX2_grind, Cond.selects RX2 yX2_grind yX2_grind, Cond.code yX2_grind cX2_grind 3 (some .int), Cond.methodLink RX2 146 yX1_here, Cond.instanceMethod yX1_here, Cond.selects RX1 yX1_here yX1_here, Cond.code yX1_here cX1_here 1 (some (.object "PowderMill$House")), Cond.methodLink RX2 150 yX0_receive, Cond.instanceMethod yX0_receive, Cond.selects RX0 yX0_receive yX0_receive, Cond.initialized RX0, Cond.code yX0_receive cX0_receive 2 (some .int)]
def wsX2_perform_r3 : List Cond := [Cond.fieldLink RX0 19 "PowderMill$House" "powder" "I", Cond.fieldLink RX0 15 "PowderMill$House" "walls" "I", Cond.fieldLink RX0 28 "PowderMill$House" "sparks" "I", Cond.methodLink RX2 127 yX2_carry, Cond.instanceMethod yX2_carry, Cond.selects RX2 yX2_carry yX2_carry, Cond.code yX2_carry cX2_carry 4 (some .int), Cond.methodLink RX2 153 yX1_around, Cond.instanceMethod yX1_around, Cond.selects RX1 yX1_around yX1_around, Cond.code yX1_around cX1_around 1 (some (.object "PowderMill$House")), Cond.methodLink RX2 130 yX2_share, Cond.instanceMethod yX2_share, Cond.selects RX2 yX2_share yX2_share, Cond.code yX2_share cX2_share 3 (some .int), Cond.methodLink RX2 133 yX2_write, Cond.instanceMethod yX2_write, Cond.selects RX2 yX2_write yX2_write, Cond.code yX2_write cX2_write 3 (some .int), Cond.fieldLink RX2 22 "PowderMill" "ledger" "[I", Cond.methodLink RX2 88 yX2_isRow, Cond.static yX2_isRow, Cond.code yX2_isRow cX2_isRow 1 (some .boolean), Cond.methodLink RX2 136 yX1_stepBehindAgain]
def wsX2_perform_r4 : List Cond := [Cond.instanceMethod yX1_stepBehindAgain, Cond.selects RX1 yX1_stepBehindAgain yX1_stepBehindAgain, Cond.code yX1_stepBehindAgain cX1_stepBehindAgain 3 (some .int)]
def wsX2_perform : List Cond := .code yX2_perform cX2_perform 3 (some .int) :: ((wsX2_perform_r1 ++ (wsX2_perform_r2 ++ (wsX2_perform_r3 ++ wsX2_perform_r4))) ++ wsX20 ++ wsX00 ++ wsX10 ++ (vx_atM "java/lang/ArrayIndexOutOfBoundsException" ["java/lang/IndexOutOfBoundsException", "java/lang/RuntimeException", "java/lang/Exception"]).filter goodWord)
def wsX2_isCaught : List Cond := .code yX2_isCaught cX2_isCaught 3 (some .boolean) :: ([.fieldLink RX2 45 "PowderMill" "faultsMet" "[I", .fieldLink RX2 42 "PowderMill" "latestFaultStep" "I", .fieldLink RX2 18 "PowderMill" "path" "LPowderMill$Path;", .methodLink RX2 108 yX1_leaveByRefuge, .instanceMethod yX1_leaveByRefuge, .selects RX1 yX1_leaveByRefuge yX1_leaveByRefuge, .initialized RX1, .code yX1_leaveByRefuge cX1_leaveByRefuge 2 (some .boolean), .fieldLink RX1 24 "PowderMill$Path" "depth" "I", .fieldLink RX1 11 "PowderMill$Path" "houses" "[LPowderMill$House;", .methodLink RX1 34 yX1_leaveDownTo, .instanceMethod yX1_leaveDownTo, .selects RX1 yX1_leaveDownTo yX1_leaveDownTo, .code yX1_leaveDownTo cX1_leaveDownTo 2 none] ++ wsX20 ++ wsX10 ++ wsX00 ++ (vx_atM "java/lang/ArrayIndexOutOfBoundsException" ["java/lang/IndexOutOfBoundsException", "java/lang/RuntimeException", "java/lang/Exception"]).filter goodWord)
def wsX2_followOrder_r1 : List Cond := [Cond.fieldLink RX2 39 "PowderMill" "latestBegun" "I", Cond.fieldLink RX2 36 "PowderMill" "nextStep" "I", Cond.fieldLink RX2 32 "PowderMill" "stepCount" "I", Cond.fieldLink RX2 26 "PowderMill" "acts" "[I", Cond.fieldLink RX2 57 "PowderMill" "quitRuns" "I", Cond.methodLink RX2 101 yX2_perform, Cond.instanceMethod yX2_perform, Cond.selects RX2 yX2_perform yX2_perform, Cond.initialized RX2, Cond.code yX2_perform cX2_perform 3 (some .int), Cond.fieldLink RX2 29 "PowderMill" "numbers" "[I", Cond.fieldLink RX2 18 "PowderMill" "path" "LPowderMill$Path;", Cond.methodLink RX2 112 yJ9_floorMod_7cf53, Cond.static yJ9_floorMod_7cf53, Cond.initialized RJ9, Cond.code yJ9_floorMod_7cf53 cJ9_floorMod_7cf53 3 (some .int), Cond.methodLink RX2 118 yX2_goIn, Cond.instanceMethod yX2_goIn, Cond.selects RX2 yX2_goIn yX2_goIn, Cond.code yX2_goIn cX2_goIn 3 (some .int), Cond.fieldLink RX2 11 "PowderMill" "places" "[LPowderMill$House;", Cond.methodLink RX2 139 yX1_isFull, Cond.instanceMethod yX1_isFull, Cond.selects RX1 yX1_isFull yX1_isFull]
def wsX2_followOrder_r2 : List Cond := [Cond.initialized RX1, Cond.code yX1_isFull cX1_isFull 1 (some .boolean), Cond.fieldLink RX1 24 "PowderMill$Path" "depth" "I", Cond.methodLink RX2 142 yX1_enter, Cond.instanceMethod yX1_enter, Cond.selects RX1 yX1_enter yX1_enter, Cond.code yX1_enter cX1_enter 3 none, Cond.fieldLink RX1 11 "PowderMill$Path" "houses" "[LPowderMill$House;", Cond.fieldLink RX1 17 "PowderMill$Path" "inSteps" "[I", Cond.fieldLink RX1 21 "PowderMill$Path" "timesBack" "[I", Cond.methodLink RX2 121 yX1_leaveHere, Cond.instanceMethod yX1_leaveHere, Cond.selects RX1 yX1_leaveHere yX1_leaveHere, Cond.code yX1_leaveHere cX1_leaveHere 1 none, Cond.methodLink RX1 34 yX1_leaveDownTo, Cond.instanceMethod yX1_leaveDownTo, Cond.selects RX1 yX1_leaveDownTo yX1_leaveDownTo, Cond.code yX1_leaveDownTo cX1_leaveDownTo 2 none, Cond.methodLink RX2 124 yX2_grind, Cond.instanceMethod yX2_grind, Cond.selects RX2 yX2_grind yX2_grind, Cond.code yX2_grind cX2_grind 3 (some .int), Cond.methodLink RX2 146 yX1_here, Cond.instanceMethod yX1_here]
def wsX2_followOrder_r3 : List Cond := [Cond.selects RX1 yX1_here yX1_here, Cond.code yX1_here cX1_here 1 (some (.object "PowderMill$House")), Cond.methodLink RX2 150 yX0_receive, Cond.instanceMethod yX0_receive, Cond.selects RX0 yX0_receive yX0_receive, Cond.initialized RX0, Cond.code yX0_receive cX0_receive 2 (some .int), Cond.fieldLink RX0 19 "PowderMill$House" "powder" "I", Cond.fieldLink RX0 15 "PowderMill$House" "walls" "I", Cond.fieldLink RX0 28 "PowderMill$House" "sparks" "I", Cond.methodLink RX2 127 yX2_carry, Cond.instanceMethod yX2_carry, Cond.selects RX2 yX2_carry yX2_carry, Cond.code yX2_carry cX2_carry 4 (some .int), Cond.methodLink RX2 153 yX1_around, Cond.instanceMethod yX1_around, Cond.selects RX1 yX1_around yX1_around, Cond.code yX1_around cX1_around 1 (some (.object "PowderMill$House")), Cond.methodLink RX2 130 yX2_share, Cond.instanceMethod yX2_share, Cond.selects RX2 yX2_share yX2_share, Cond.code yX2_share cX2_share 3 (some .int), Cond.methodLink RX2 133 yX2_write, Cond.instanceMethod yX2_write]
def wsX2_followOrder_r4 : List Cond := [Cond.selects RX2 yX2_write yX2_write, Cond.code yX2_write cX2_write 3 (some .int), Cond.fieldLink RX2 22 "PowderMill" "ledger" "[I", Cond.methodLink RX2 88 yX2_isRow, Cond.static yX2_isRow, Cond.code yX2_isRow cX2_isRow 1 (some .boolean), Cond.methodLink RX2 136 yX1_stepBehindAgain, Cond.instanceMethod yX1_stepBehindAgain, Cond.selects RX1 yX1_stepBehindAgain yX1_stepBehindAgain, Cond.code yX1_stepBehindAgain cX1_stepBehindAgain 3 (some .int), Cond.methodLink RX2 104 yX2_isCaught, Cond.instanceMethod yX2_isCaught, Cond.selects RX2 yX2_isCaught yX2_isCaught, Cond.code yX2_isCaught cX2_isCaught 3 (some .boolean), Cond.fieldLink RX2 45 "PowderMill" "faultsMet" "[I", Cond.fieldLink RX2 42 "PowderMill" "latestFaultStep" "I", Cond.methodLink RX2 108 yX1_leaveByRefuge, Cond.instanceMethod yX1_leaveByRefuge, Cond.selects RX1 yX1_leaveByRefuge yX1_leaveByRefuge, Cond.code yX1_leaveByRefuge cX1_leaveByRefuge 2 (some .boolean)]
def wsX2_followOrder : List Cond := .code yX2_followOrder cX2_followOrder 3 (some .int) :: ((wsX2_followOrder_r1 ++ (wsX2_followOrder_r2 ++ (wsX2_followOrder_r3 ++ wsX2_followOrder_r4))) ++ wsX20 ++ wsX00 ++ wsX10 ++ (vx_atM "java/lang/ArrayIndexOutOfBoundsException" ["java/lang/IndexOutOfBoundsException", "java/lang/RuntimeException", "java/lang/Exception"]).filter goodWord)
def wsX2_run_r1 : List Cond := [Cond.fieldLink RX2 48 "PowderMill" "runs" "I", Cond.fieldLink RX2 39 "PowderMill" "latestBegun" "I", Cond.fieldLink RX2 36 "PowderMill" "nextStep" "I", Cond.fieldLink RX2 18 "PowderMill" "path" "LPowderMill$Path;", Cond.fieldLink RX2 54 "PowderMill" "spentRuns" "I", Cond.fieldLink RX2 51 "PowderMill" "faultRuns" "I", Cond.methodLink RX2 76 yX2_followOrder, Cond.instanceMethod yX2_followOrder, Cond.selects RX2 yX2_followOrder yX2_followOrder, Cond.initialized RX2, Cond.code yX2_followOrder cX2_followOrder 3 (some .int), Cond.fieldLink RX2 32 "PowderMill" "stepCount" "I", Cond.fieldLink RX2 26 "PowderMill" "acts" "[I", Cond.fieldLink RX2 57 "PowderMill" "quitRuns" "I", Cond.methodLink RX2 101 yX2_perform, Cond.instanceMethod yX2_perform, Cond.selects RX2 yX2_perform yX2_perform, Cond.code yX2_perform cX2_perform 3 (some .int), Cond.fieldLink RX2 29 "PowderMill" "numbers" "[I", Cond.methodLink RX2 112 yJ9_floorMod_7cf53, Cond.static yJ9_floorMod_7cf53, Cond.initialized RJ9, Cond.code yJ9_floorMod_7cf53 cJ9_floorMod_7cf53 3 (some .int), Cond.methodLink RX2 118 yX2_goIn]
def wsX2_run_r2 : List Cond := [Cond.instanceMethod yX2_goIn, Cond.selects RX2 yX2_goIn yX2_goIn, Cond.code yX2_goIn cX2_goIn 3 (some .int), Cond.fieldLink RX2 11 "PowderMill" "places" "[LPowderMill$House;", Cond.methodLink RX2 139 yX1_isFull, Cond.instanceMethod yX1_isFull, Cond.selects RX1 yX1_isFull yX1_isFull, Cond.initialized RX1, Cond.code yX1_isFull cX1_isFull 1 (some .boolean), Cond.fieldLink RX1 24 "PowderMill$Path" "depth" "I", Cond.methodLink RX2 142 yX1_enter, Cond.instanceMethod yX1_enter, Cond.selects RX1 yX1_enter yX1_enter, Cond.code yX1_enter cX1_enter 3 none, Cond.fieldLink RX1 11 "PowderMill$Path" "houses" "[LPowderMill$House;", Cond.fieldLink RX1 17 "PowderMill$Path" "inSteps" "[I", Cond.fieldLink RX1 21 "PowderMill$Path" "timesBack" "[I", Cond.methodLink RX2 121 yX1_leaveHere, Cond.instanceMethod yX1_leaveHere, Cond.selects RX1 yX1_leaveHere yX1_leaveHere, Cond.code yX1_leaveHere cX1_leaveHere 1 none, Cond.methodLink RX1 34 yX1_leaveDownTo, Cond.instanceMethod yX1_leaveDownTo, Cond.selects RX1 yX1_leaveDownTo yX1_leaveDownTo]
def wsX2_run_r3 : List Cond := [Cond.code yX1_leaveDownTo cX1_leaveDownTo 2 none, Cond.methodLink RX2 124 yX2_grind, Cond.instanceMethod yX2_grind, Cond.selects RX2 yX2_grind yX2_grind, Cond.code yX2_grind cX2_grind 3 (some .int), Cond.methodLink RX2 146 yX1_here, Cond.instanceMethod yX1_here, Cond.selects RX1 yX1_here yX1_here, Cond.code yX1_here cX1_here 1 (some (.object "PowderMill$House")), Cond.methodLink RX2 150 yX0_receive, Cond.instanceMethod yX0_receive, Cond.selects RX0 yX0_receive yX0_receive, Cond.initialized RX0, Cond.code yX0_receive cX0_receive 2 (some .int), Cond.fieldLink RX0 19 "PowderMill$House" "powder" "I", Cond.fieldLink RX0 15 "PowderMill$House" "walls" "I", Cond.fieldLink RX0 28 "PowderMill$House" "sparks" "I", Cond.methodLink RX2 127 yX2_carry, Cond.instanceMethod yX2_carry, Cond.selects RX2 yX2_carry yX2_carry, Cond.code yX2_carry cX2_carry 4 (some .int), Cond.methodLink RX2 153 yX1_around, Cond.instanceMethod yX1_around, Cond.selects RX1 yX1_around yX1_around]
def wsX2_run_r4 : List Cond := [Cond.code yX1_around cX1_around 1 (some (.object "PowderMill$House")), Cond.methodLink RX2 130 yX2_share, Cond.instanceMethod yX2_share, Cond.selects RX2 yX2_share yX2_share, Cond.code yX2_share cX2_share 3 (some .int), Cond.methodLink RX2 133 yX2_write, Cond.instanceMethod yX2_write, Cond.selects RX2 yX2_write yX2_write, Cond.code yX2_write cX2_write 3 (some .int), Cond.fieldLink RX2 22 "PowderMill" "ledger" "[I", Cond.methodLink RX2 88 yX2_isRow, Cond.static yX2_isRow, Cond.code yX2_isRow cX2_isRow 1 (some .boolean), Cond.methodLink RX2 136 yX1_stepBehindAgain, Cond.instanceMethod yX1_stepBehindAgain, Cond.selects RX1 yX1_stepBehindAgain yX1_stepBehindAgain, Cond.code yX1_stepBehindAgain cX1_stepBehindAgain 3 (some .int), Cond.methodLink RX2 104 yX2_isCaught, Cond.instanceMethod yX2_isCaught, Cond.selects RX2 yX2_isCaught yX2_isCaught, Cond.code yX2_isCaught cX2_isCaught 3 (some .boolean), Cond.fieldLink RX2 45 "PowderMill" "faultsMet" "[I", Cond.fieldLink RX2 42 "PowderMill" "latestFaultStep" "I", Cond.methodLink RX2 108 yX1_leaveByRefuge]
def wsX2_run_r5 : List Cond := [Cond.instanceMethod yX1_leaveByRefuge, Cond.selects RX1 yX1_leaveByRefuge yX1_leaveByRefuge, Cond.code yX1_leaveByRefuge cX1_leaveByRefuge 2 (some .boolean), Cond.methodLink RX2 80 yX1_leaveDownTo]
def wsX2_run : List Cond := .code yX2_run cX2_run 2 (some .int) :: ((wsX2_run_r1 ++ (wsX2_run_r2 ++ (wsX2_run_r3 ++ (wsX2_run_r4 ++ wsX2_run_r5)))) ++ wsX20 ++ wsX00 ++ wsX10 ++ (vx_atM "java/lang/ArrayIndexOutOfBoundsException" ["java/lang/IndexOutOfBoundsException", "java/lang/RuntimeException", "java/lang/Exception"]).filter goodWord)
def wsX2_begun : List Cond := .code yX2_begun cX2_begun 1 (some .int) :: ([.fieldLink RX2 39 "PowderMill" "latestBegun" "I"] ++ wsX20)
def wsX2_where : List Cond := .code yX2_where cX2_where 1 (some .int) :: ([.fieldLink RX2 42 "PowderMill" "latestFaultStep" "I"] ++ wsX20)
def wsX2_house : List Cond := .code yX2_house cX2_house 3 (some .int) :: ([.fieldLink RX2 11 "PowderMill" "places" "[LPowderMill$House;", .methodLink RX2 61 yX2_isPlace, .static yX2_isPlace, .initialized RX2, .code yX2_isPlace cX2_isPlace 1 (some .boolean), .methodLink RX2 84 yX0_tell, .instanceMethod yX0_tell, .selects RX0 yX0_tell yX0_tell, .initialized RX0, .code yX0_tell cX0_tell 2 (some .int), .fieldLink RX0 15 "PowderMill$House" "walls" "I", .fieldLink RX0 19 "PowderMill$House" "powder" "I", .fieldLink RX0 22 "PowderMill$House" "refuge" "Z", .fieldLink RX0 25 "PowderMill$House" "timesIn" "I", .fieldLink RX0 28 "PowderMill$House" "sparks" "I", .fieldLink RX0 31 "PowderMill$House" "timesCaught" "I", .fieldLink RX0 34 "PowderMill$House" "staysNow" "I"] ++ wsX20 ++ wsX00)
def wsX2_row : List Cond := .code yX2_row cX2_row 2 (some .int) :: ([.classLink RX2 91 RJx00060, .instantiable RJx00060 6, .initialized RJx00060, .fieldLink RX2 22 "PowderMill" "ledger" "[I", .methodLink RX2 88 yX2_isRow, .static yX2_isRow, .initialized RX2, .code yX2_isRow cX2_isRow 1 (some .boolean)] ++ wsJx000600 ++ wsX20 ++ (vx_atM "java/lang/ArrayIndexOutOfBoundsException" ["java/lang/IndexOutOfBoundsException", "java/lang/RuntimeException", "java/lang/Exception"]).filter goodWord)
def wsX2_standingHouses : List Cond := .code yX2_standingHouses cX2_standingHouses 3 (some .int) :: ([.fieldLink RX2 11 "PowderMill" "places" "[LPowderMill$House;"] ++ wsX20 ++ wsX00)
def wsX2_count : List Cond := .code yX2_count cX2_count 2 (some .int) :: ([.fieldLink RX2 45 "PowderMill" "faultsMet" "[I", .fieldLink RX2 32 "PowderMill" "stepCount" "I", .fieldLink RX2 48 "PowderMill" "runs" "I", .fieldLink RX2 51 "PowderMill" "faultRuns" "I", .fieldLink RX2 54 "PowderMill" "spentRuns" "I", .fieldLink RX2 57 "PowderMill" "quitRuns" "I", .methodLink RX2 98 yX2_standingHouses, .instanceMethod yX2_standingHouses, .selects RX2 yX2_standingHouses yX2_standingHouses, .initialized RX2, .code yX2_standingHouses cX2_standingHouses 3 (some .int), .fieldLink RX2 11 "PowderMill" "places" "[LPowderMill$House;"] ++ wsX20 ++ wsX00 ++ (vx_atM "java/lang/ArrayIndexOutOfBoundsException" ["java/lang/IndexOutOfBoundsException", "java/lang/RuntimeException", "java/lang/Exception"]).filter goodWord)
def wsX3_init : List Cond := .code yX3_init cX3_init 1 none :: ([.methodLink RX3 1 objectInit, .instanceMethod objectInit, .code objectInit ⟨#[0xb1]⟩ 1 none, .arrayClass .int, .fieldLink RX3 7 "PowderMillModel" "walls" "[I", .fieldLink RX3 13 "PowderMillModel" "powder" "[I", .arrayClass .boolean, .fieldLink RX3 16 "PowderMillModel" "refuge" "[Z", .fieldLink RX3 20 "PowderMillModel" "ins" "[I", .fieldLink RX3 23 "PowderMillModel" "sparks" "[I", .fieldLink RX3 26 "PowderMillModel" "caught" "[I", .fieldLink RX3 29 "PowderMillModel" "ledger" "[I", .fieldLink RX3 32 "PowderMillModel" "acts" "[I", .fieldLink RX3 35 "PowderMillModel" "numbers" "[I", .fieldLink RX3 38 "PowderMillModel" "in" "[I", .fieldLink RX3 41 "PowderMillModel" "from" "[I", .fieldLink RX3 44 "PowderMillModel" "agains" "[I", .fieldLink RX3 47 "PowderMillModel" "where" "I", .fieldLink RX3 51 "PowderMillModel" "counts" "[I", .fieldLink RX3 54 "PowderMillModel" "many" "I"] ++ wsX30)
def wsX3_thrown : List Cond := .code yX3_thrown cX3_thrown 1 (some .int) :: ([.fieldLink RX3 57 "PowderMillModel" "thrown" "I"] ++ wsX30)
def wsX3_isIn : List Cond := .code yX3_isIn cX3_isIn 3 (some .boolean) :: ([])
def wsX3_modulo : List Cond := .code yX3_modulo cX3_modulo 3 (some .int) :: ([])
def wsX3_isPlace : List Cond := .code yX3_isPlace cX3_isPlace 1 (some .boolean) :: ([.methodLink RX3 60 yX3_isIn, .static yX3_isIn, .initialized RX3, .code yX3_isIn cX3_isIn 3 (some .boolean)])
def wsX3_isHouse : List Cond := .code yX3_isHouse cX3_isHouse 2 (some .boolean) :: ([.fieldLink RX3 7 "PowderMillModel" "walls" "[I", .methodLink RX3 64 yX3_isPlace, .static yX3_isPlace, .initialized RX3, .code yX3_isPlace cX3_isPlace 1 (some .boolean), .methodLink RX3 60 yX3_isIn, .static yX3_isIn, .code yX3_isIn cX3_isIn 3 (some .boolean)] ++ wsX30 ++ (vx_atM "java/lang/ArrayIndexOutOfBoundsException" ["java/lang/IndexOutOfBoundsException", "java/lang/RuntimeException", "java/lang/Exception"]).filter goodWord)
def wsX3_cleared : List Cond := .code yX3_cleared cX3_cleared 4 none :: ([.fieldLink RX3 7 "PowderMillModel" "walls" "[I", .fieldLink RX3 13 "PowderMillModel" "powder" "[I", .fieldLink RX3 16 "PowderMillModel" "refuge" "[Z", .fieldLink RX3 20 "PowderMillModel" "ins" "[I", .fieldLink RX3 23 "PowderMillModel" "sparks" "[I", .fieldLink RX3 26 "PowderMillModel" "caught" "[I"] ++ wsX30 ++ (vx_atM "java/lang/ArrayIndexOutOfBoundsException" ["java/lang/IndexOutOfBoundsException", "java/lang/RuntimeException", "java/lang/Exception"]).filter goodWord)
def wsX3_build : List Cond := .code yX3_build cX3_build 5 (some .int) :: ([.fieldLink RX3 57 "PowderMillModel" "thrown" "I", .fieldLink RX3 7 "PowderMillModel" "walls" "[I", .methodLink RX3 64 yX3_isPlace, .static yX3_isPlace, .initialized RX3, .code yX3_isPlace cX3_isPlace 1 (some .boolean), .methodLink RX3 60 yX3_isIn, .static yX3_isIn, .code yX3_isIn cX3_isIn 3 (some .boolean), .methodLink RX3 68 yX3_cleared, .instanceMethod yX3_cleared, .selects RX3 yX3_cleared yX3_cleared, .code yX3_cleared cX3_cleared 4 none, .fieldLink RX3 13 "PowderMillModel" "powder" "[I", .fieldLink RX3 16 "PowderMillModel" "refuge" "[Z", .fieldLink RX3 20 "PowderMillModel" "ins" "[I", .fieldLink RX3 23 "PowderMillModel" "sparks" "[I", .fieldLink RX3 26 "PowderMillModel" "caught" "[I"] ++ wsX30 ++ (vx_atM "java/lang/ArrayIndexOutOfBoundsException" ["java/lang/IndexOutOfBoundsException", "java/lang/RuntimeException", "java/lang/Exception"]).filter goodWord)
def wsX3_raze : List Cond := .code yX3_raze cX3_raze 3 (some .int) :: ([.fieldLink RX3 57 "PowderMillModel" "thrown" "I", .fieldLink RX3 7 "PowderMillModel" "walls" "[I", .methodLink RX3 64 yX3_isPlace, .static yX3_isPlace, .initialized RX3, .code yX3_isPlace cX3_isPlace 1 (some .boolean), .methodLink RX3 60 yX3_isIn, .static yX3_isIn, .code yX3_isIn cX3_isIn 3 (some .boolean), .methodLink RX3 68 yX3_cleared, .instanceMethod yX3_cleared, .selects RX3 yX3_cleared yX3_cleared, .code yX3_cleared cX3_cleared 4 none, .fieldLink RX3 13 "PowderMillModel" "powder" "[I", .fieldLink RX3 16 "PowderMillModel" "refuge" "[Z", .fieldLink RX3 20 "PowderMillModel" "ins" "[I", .fieldLink RX3 23 "PowderMillModel" "sparks" "[I", .fieldLink RX3 26 "PowderMillModel" "caught" "[I"] ++ wsX30 ++ (vx_atM "java/lang/ArrayIndexOutOfBoundsException" ["java/lang/IndexOutOfBoundsException", "java/lang/RuntimeException", "java/lang/Exception"]).filter goodWord)
def wsX3_step : List Cond := .code yX3_step cX3_step 3 (some .int) :: ([.fieldLink RX3 57 "PowderMillModel" "thrown" "I", .fieldLink RX3 54 "PowderMillModel" "many" "I", .fieldLink RX3 32 "PowderMillModel" "acts" "[I", .fieldLink RX3 35 "PowderMillModel" "numbers" "[I", .methodLink RX3 60 yX3_isIn, .static yX3_isIn, .initialized RX3, .code yX3_isIn cX3_isIn 3 (some .boolean)] ++ wsX30 ++ (vx_atM "java/lang/ArrayIndexOutOfBoundsException" ["java/lang/IndexOutOfBoundsException", "java/lang/RuntimeException", "java/lang/Exception"]).filter goodWord)
def wsX3_clear : List Cond := .code yX3_clear cX3_clear 2 (some .int) :: ([.fieldLink RX3 57 "PowderMillModel" "thrown" "I", .fieldLink RX3 54 "PowderMillModel" "many" "I"] ++ wsX30)
def wsX3_alter : List Cond := .code yX3_alter cX3_alter 5 (some .int) :: ([.fieldLink RX3 57 "PowderMillModel" "thrown" "I", .fieldLink RX3 54 "PowderMillModel" "many" "I", .fieldLink RX3 32 "PowderMillModel" "acts" "[I", .fieldLink RX3 35 "PowderMillModel" "numbers" "[I", .methodLink RX3 60 yX3_isIn, .static yX3_isIn, .initialized RX3, .code yX3_isIn cX3_isIn 3 (some .boolean)] ++ wsX30 ++ (vx_atM "java/lang/ArrayIndexOutOfBoundsException" ["java/lang/IndexOutOfBoundsException", "java/lang/RuntimeException", "java/lang/Exception"]).filter goodWord)
def wsX3_comes : List Cond := .code yX3_comes cX3_comes 3 (some .int) :: ([.fieldLink RX3 13 "PowderMillModel" "powder" "[I", .fieldLink RX3 7 "PowderMillModel" "walls" "[I", .fieldLink RX3 23 "PowderMillModel" "sparks" "[I"] ++ wsX30 ++ (vx_atM "java/lang/ArrayIndexOutOfBoundsException" ["java/lang/IndexOutOfBoundsException", "java/lang/RuntimeException", "java/lang/Exception"]).filter goodWord)
def wsX3_goIn : List Cond := .code yX3_goIn cX3_goIn 2 (some .int) :: ([.fieldLink RX3 72 "PowderMillModel" "deep" "I", .fieldLink RX3 7 "PowderMillModel" "walls" "[I", .fieldLink RX3 20 "PowderMillModel" "ins" "[I", .fieldLink RX3 38 "PowderMillModel" "in" "[I", .fieldLink RX3 41 "PowderMillModel" "from" "[I", .fieldLink RX3 75 "PowderMillModel" "next" "I", .fieldLink RX3 44 "PowderMillModel" "agains" "[I"] ++ wsX30 ++ (vx_atM "java/lang/ArrayIndexOutOfBoundsException" ["java/lang/IndexOutOfBoundsException", "java/lang/RuntimeException", "java/lang/Exception"]).filter goodWord)
def wsX3_carry : List Cond := .code yX3_carry cX3_carry 3 (some .int) :: ([.fieldLink RX3 38 "PowderMillModel" "in" "[I", .fieldLink RX3 72 "PowderMillModel" "deep" "I", .fieldLink RX3 13 "PowderMillModel" "powder" "[I", .methodLink RX3 78 yX3_comes, .instanceMethod yX3_comes, .selects RX3 yX3_comes yX3_comes, .initialized RX3, .code yX3_comes cX3_comes 3 (some .int), .fieldLink RX3 7 "PowderMillModel" "walls" "[I", .fieldLink RX3 23 "PowderMillModel" "sparks" "[I"] ++ wsX30 ++ (vx_atM "java/lang/ArrayIndexOutOfBoundsException" ["java/lang/IndexOutOfBoundsException", "java/lang/RuntimeException", "java/lang/Exception"]).filter goodWord)
def wsX3_share : List Cond := .code yX3_share cX3_share 2 (some .int) :: ([.fieldLink RX3 13 "PowderMillModel" "powder" "[I", .fieldLink RX3 38 "PowderMillModel" "in" "[I", .fieldLink RX3 72 "PowderMillModel" "deep" "I"] ++ wsX30 ++ (vx_atM "java/lang/ArrayIndexOutOfBoundsException" ["java/lang/IndexOutOfBoundsException", "java/lang/RuntimeException", "java/lang/Exception"]).filter goodWord)
def wsX3_write : List Cond := .code yX3_write cX3_write 2 (some .int) :: ([.fieldLink RX3 29 "PowderMillModel" "ledger" "[I", .fieldLink RX3 72 "PowderMillModel" "deep" "I", .fieldLink RX3 13 "PowderMillModel" "powder" "[I", .fieldLink RX3 38 "PowderMillModel" "in" "[I", .methodLink RX3 60 yX3_isIn, .static yX3_isIn, .initialized RX3, .code yX3_isIn cX3_isIn 3 (some .boolean)] ++ wsX30 ++ (vx_atM "java/lang/ArrayIndexOutOfBoundsException" ["java/lang/IndexOutOfBoundsException", "java/lang/RuntimeException", "java/lang/Exception"]).filter goodWord)
def wsX3_does_r1 : List Cond := [Cond.fieldLink RX3 72 "PowderMillModel" "deep" "I", Cond.fieldLink RX3 38 "PowderMillModel" "in" "[I", Cond.fieldLink RX3 98 "PowderMillModel" "quits" "Z", Cond.fieldLink RX3 75 "PowderMillModel" "next" "I", Cond.fieldLink RX3 44 "PowderMillModel" "agains" "[I", Cond.fieldLink RX3 41 "PowderMillModel" "from" "[I", Cond.methodLink RX3 82 yX3_modulo, Cond.static yX3_modulo, Cond.initialized RX3, Cond.code yX3_modulo cX3_modulo 3 (some .int), Cond.methodLink RX3 85 yX3_goIn, Cond.instanceMethod yX3_goIn, Cond.selects RX3 yX3_goIn yX3_goIn, Cond.code yX3_goIn cX3_goIn 2 (some .int), Cond.fieldLink RX3 7 "PowderMillModel" "walls" "[I", Cond.fieldLink RX3 20 "PowderMillModel" "ins" "[I", Cond.methodLink RX3 78 yX3_comes, Cond.instanceMethod yX3_comes, Cond.selects RX3 yX3_comes yX3_comes, Cond.code yX3_comes cX3_comes 3 (some .int), Cond.fieldLink RX3 13 "PowderMillModel" "powder" "[I", Cond.fieldLink RX3 23 "PowderMillModel" "sparks" "[I", Cond.methodLink RX3 89 yX3_carry, Cond.instanceMethod yX3_carry]
def wsX3_does_r2 : List Cond := [Cond.selects RX3 yX3_carry yX3_carry, Cond.code yX3_carry cX3_carry 3 (some .int), Cond.methodLink RX3 92 yX3_share, Cond.instanceMethod yX3_share, Cond.selects RX3 yX3_share yX3_share, Cond.code yX3_share cX3_share 2 (some .int), Cond.methodLink RX3 95 yX3_write, Cond.instanceMethod yX3_write, Cond.selects RX3 yX3_write yX3_write, Cond.code yX3_write cX3_write 2 (some .int), Cond.fieldLink RX3 29 "PowderMillModel" "ledger" "[I", Cond.methodLink RX3 60 yX3_isIn, Cond.static yX3_isIn, Cond.code yX3_isIn cX3_isIn 3 (some .boolean)]
def wsX3_does : List Cond := .code yX3_does cX3_does 3 (some .int) :: ((wsX3_does_r1 ++ wsX3_does_r2) ++ wsX30 ++ (vx_atM "java/lang/ArrayIndexOutOfBoundsException" ["java/lang/IndexOutOfBoundsException", "java/lang/RuntimeException", "java/lang/Exception"]).filter goodWord)
def wsX3_isCaught : List Cond := .code yX3_isCaught cX3_isCaught 1 (some .boolean) :: ([.fieldLink RX3 72 "PowderMillModel" "deep" "I", .fieldLink RX3 16 "PowderMillModel" "refuge" "[Z", .fieldLink RX3 38 "PowderMillModel" "in" "[I", .fieldLink RX3 26 "PowderMillModel" "caught" "[I"] ++ wsX30 ++ (vx_atM "java/lang/ArrayIndexOutOfBoundsException" ["java/lang/IndexOutOfBoundsException", "java/lang/RuntimeException", "java/lang/Exception"]).filter goodWord)
def wsX3_run_r1 : List Cond := [Cond.fieldLink RX3 57 "PowderMillModel" "thrown" "I", Cond.fieldLink RX3 51 "PowderMillModel" "counts" "[I", Cond.fieldLink RX3 102 "PowderMillModel" "begun" "I", Cond.fieldLink RX3 72 "PowderMillModel" "deep" "I", Cond.fieldLink RX3 75 "PowderMillModel" "next" "I", Cond.fieldLink RX3 98 "PowderMillModel" "quits" "Z", Cond.fieldLink RX3 54 "PowderMillModel" "many" "I", Cond.fieldLink RX3 32 "PowderMillModel" "acts" "[I", Cond.fieldLink RX3 35 "PowderMillModel" "numbers" "[I", Cond.fieldLink RX3 47 "PowderMillModel" "where" "I", Cond.methodLink RX3 105 yX3_does, Cond.instanceMethod yX3_does, Cond.selects RX3 yX3_does yX3_does, Cond.initialized RX3, Cond.code yX3_does cX3_does 3 (some .int), Cond.fieldLink RX3 38 "PowderMillModel" "in" "[I", Cond.fieldLink RX3 44 "PowderMillModel" "agains" "[I", Cond.fieldLink RX3 41 "PowderMillModel" "from" "[I", Cond.methodLink RX3 82 yX3_modulo, Cond.static yX3_modulo, Cond.code yX3_modulo cX3_modulo 3 (some .int), Cond.methodLink RX3 85 yX3_goIn, Cond.instanceMethod yX3_goIn, Cond.selects RX3 yX3_goIn yX3_goIn]
def wsX3_run_r2 : List Cond := [Cond.code yX3_goIn cX3_goIn 2 (some .int), Cond.fieldLink RX3 7 "PowderMillModel" "walls" "[I", Cond.fieldLink RX3 20 "PowderMillModel" "ins" "[I", Cond.methodLink RX3 78 yX3_comes, Cond.instanceMethod yX3_comes, Cond.selects RX3 yX3_comes yX3_comes, Cond.code yX3_comes cX3_comes 3 (some .int), Cond.fieldLink RX3 13 "PowderMillModel" "powder" "[I", Cond.fieldLink RX3 23 "PowderMillModel" "sparks" "[I", Cond.methodLink RX3 89 yX3_carry, Cond.instanceMethod yX3_carry, Cond.selects RX3 yX3_carry yX3_carry, Cond.code yX3_carry cX3_carry 3 (some .int), Cond.methodLink RX3 92 yX3_share, Cond.instanceMethod yX3_share, Cond.selects RX3 yX3_share yX3_share, Cond.code yX3_share cX3_share 2 (some .int), Cond.methodLink RX3 95 yX3_write, Cond.instanceMethod yX3_write, Cond.selects RX3 yX3_write yX3_write, Cond.code yX3_write cX3_write 2 (some .int), Cond.fieldLink RX3 29 "PowderMillModel" "ledger" "[I", Cond.methodLink RX3 60 yX3_isIn, Cond.static yX3_isIn]
def wsX3_run_r3 : List Cond := [Cond.code yX3_isIn cX3_isIn 3 (some .boolean), Cond.methodLink RX3 108 yX3_isCaught, Cond.instanceMethod yX3_isCaught, Cond.selects RX3 yX3_isCaught yX3_isCaught, Cond.code yX3_isCaught cX3_isCaught 1 (some .boolean), Cond.fieldLink RX3 16 "PowderMillModel" "refuge" "[Z", Cond.fieldLink RX3 26 "PowderMillModel" "caught" "[I"]
def wsX3_run : List Cond := .code yX3_run cX3_run 3 (some .int) :: ((wsX3_run_r1 ++ (wsX3_run_r2 ++ wsX3_run_r3)) ++ wsX30 ++ (vx_atM "java/lang/ArrayIndexOutOfBoundsException" ["java/lang/IndexOutOfBoundsException", "java/lang/RuntimeException", "java/lang/Exception"]).filter goodWord)
def wsX3_begun : List Cond := .code yX3_begun cX3_begun 1 (some .int) :: ([.fieldLink RX3 57 "PowderMillModel" "thrown" "I", .fieldLink RX3 102 "PowderMillModel" "begun" "I"] ++ wsX30)
def wsX3_where : List Cond := .code yX3_where cX3_where 1 (some .int) :: ([.fieldLink RX3 57 "PowderMillModel" "thrown" "I", .fieldLink RX3 47 "PowderMillModel" "where" "I"] ++ wsX30)
def wsX3_house : List Cond := .code yX3_house cX3_house 3 (some .int) :: ([.fieldLink RX3 57 "PowderMillModel" "thrown" "I", .fieldLink RX3 7 "PowderMillModel" "walls" "[I", .fieldLink RX3 13 "PowderMillModel" "powder" "[I", .fieldLink RX3 16 "PowderMillModel" "refuge" "[Z", .fieldLink RX3 20 "PowderMillModel" "ins" "[I", .fieldLink RX3 23 "PowderMillModel" "sparks" "[I", .fieldLink RX3 26 "PowderMillModel" "caught" "[I", .methodLink RX3 112 yX3_isHouse, .instanceMethod yX3_isHouse, .selects RX3 yX3_isHouse yX3_isHouse, .initialized RX3, .code yX3_isHouse cX3_isHouse 2 (some .boolean), .methodLink RX3 64 yX3_isPlace, .static yX3_isPlace, .code yX3_isPlace cX3_isPlace 1 (some .boolean), .methodLink RX3 60 yX3_isIn, .static yX3_isIn, .code yX3_isIn cX3_isIn 3 (some .boolean)] ++ wsX30 ++ (vx_atM "java/lang/ArrayIndexOutOfBoundsException" ["java/lang/IndexOutOfBoundsException", "java/lang/RuntimeException", "java/lang/Exception"]).filter goodWord)
def wsX3_row : List Cond := .code yX3_row cX3_row 2 (some .int) :: ([.fieldLink RX3 57 "PowderMillModel" "thrown" "I", .fieldLink RX3 29 "PowderMillModel" "ledger" "[I", .methodLink RX3 60 yX3_isIn, .static yX3_isIn, .initialized RX3, .code yX3_isIn cX3_isIn 3 (some .boolean)] ++ wsX30 ++ (vx_atM "java/lang/ArrayIndexOutOfBoundsException" ["java/lang/IndexOutOfBoundsException", "java/lang/RuntimeException", "java/lang/Exception"]).filter goodWord)
def wsX3_count : List Cond := .code yX3_count cX3_count 4 (some .int) :: ([.fieldLink RX3 57 "PowderMillModel" "thrown" "I", .fieldLink RX3 7 "PowderMillModel" "walls" "[I", .fieldLink RX3 54 "PowderMillModel" "many" "I", .fieldLink RX3 51 "PowderMillModel" "counts" "[I", .methodLink RX3 60 yX3_isIn, .static yX3_isIn, .initialized RX3, .code yX3_isIn cX3_isIn 3 (some .boolean)] ++ wsX30 ++ (vx_atM "java/lang/ArrayIndexOutOfBoundsException" ["java/lang/IndexOutOfBoundsException", "java/lang/RuntimeException", "java/lang/Exception"]).filter goodWord)
def wsJx00060_init_a7421 : List Cond := .code yJx00060_init_a7421 cJx00060_init_a7421 2 none :: ([])
def wsL_row : List Cond := .codeWith yL_row cL_row 4 (some .int) [(0, 9, 12, 13)] :: ([.classLink RL 13 "java/lang/ArrayIndexOutOfBoundsException", .methodLink RL 7 yX2_row, .instanceMethod yX2_row, .selects RX2 yX2_row yX2_row, .initialized RX2, .code yX2_row cX2_row 2 (some .int), .classLink RX2 91 RJx00060, .instantiable RJx00060 6, .initialized RJx00060, .fieldLink RX2 22 "PowderMill" "ledger" "[I", .methodLink RX2 88 yX2_isRow, .static yX2_isRow, .code yX2_isRow cX2_isRow 1 (some .boolean)] ++ wsJx000600 ++ wsX20 ++ (vx_atM "java/lang/ArrayIndexOutOfBoundsException" ["java/lang/IndexOutOfBoundsException", "java/lang/RuntimeException", "java/lang/Exception"]).filter goodWord)
def wsL_law0_r1 : List Cond := [Cond.classLink RL 8 RX2, Cond.instantiable RX2 14, Cond.initialized RX2, Cond.classLink RL 16 RX3, Cond.instantiable RX3 20, Cond.initialized RX3, Cond.arrayClass .long, Cond.methodLink RL 15 yX2_init, Cond.instanceMethod yX2_init, Cond.code yX2_init cX2_init 2 none, Cond.methodLink RX2 1 objectInit, Cond.instanceMethod objectInit, Cond.code objectInit ⟨#[0xb1]⟩ 1 none, Cond.classLink RX2 9 RX0, Cond.fieldLink RX2 11 "PowderMill" "places" "[LPowderMill$House;", Cond.classLink RX2 15 RX1, Cond.instantiable RX1 4, Cond.initialized RX1, Cond.fieldLink RX2 18 "PowderMill" "path" "LPowderMill$Path;", Cond.arrayClass .int, Cond.fieldLink RX2 22 "PowderMill" "ledger" "[I", Cond.fieldLink RX2 26 "PowderMill" "acts" "[I", Cond.fieldLink RX2 29 "PowderMill" "numbers" "[I", Cond.fieldLink RX2 32 "PowderMill" "stepCount" "I"]
def wsL_law0_r2 : List Cond := [Cond.fieldLink RX2 36 "PowderMill" "nextStep" "I", Cond.fieldLink RX2 39 "PowderMill" "latestBegun" "I", Cond.fieldLink RX2 42 "PowderMill" "latestFaultStep" "I", Cond.fieldLink RX2 45 "PowderMill" "faultsMet" "[I", Cond.fieldLink RX2 48 "PowderMill" "runs" "I", Cond.fieldLink RX2 51 "PowderMill" "faultRuns" "I", Cond.fieldLink RX2 54 "PowderMill" "spentRuns" "I", Cond.fieldLink RX2 57 "PowderMill" "quitRuns" "I", Cond.instantiable RX0 8, Cond.initialized RX0, Cond.instanceMethod yX1_init, Cond.code yX1_init cX1_init 1 none, Cond.methodLink RX1 3 objectInit, Cond.classLink RX1 9 RX0, Cond.fieldLink RX1 11 "PowderMill$Path" "houses" "[LPowderMill$House;", Cond.fieldLink RX1 17 "PowderMill$Path" "inSteps" "[I", Cond.fieldLink RX1 21 "PowderMill$Path" "timesBack" "[I", Cond.fieldLink RX1 24 "PowderMill$Path" "depth" "I", Cond.instanceMethod yX0_init, Cond.code yX0_init cX0_init 1 none, Cond.methodLink RX0 3 objectInit, Cond.methodLink RL 18 yX3_init, Cond.instanceMethod yX3_init, Cond.code yX3_init cX3_init 1 none]
def wsL_law0_r3 : List Cond := [Cond.methodLink RX3 1 objectInit, Cond.fieldLink RX3 7 "PowderMillModel" "walls" "[I", Cond.fieldLink RX3 13 "PowderMillModel" "powder" "[I", Cond.arrayClass .boolean, Cond.fieldLink RX3 16 "PowderMillModel" "refuge" "[Z", Cond.fieldLink RX3 20 "PowderMillModel" "ins" "[I", Cond.fieldLink RX3 23 "PowderMillModel" "sparks" "[I", Cond.fieldLink RX3 26 "PowderMillModel" "caught" "[I", Cond.fieldLink RX3 29 "PowderMillModel" "ledger" "[I", Cond.fieldLink RX3 32 "PowderMillModel" "acts" "[I", Cond.fieldLink RX3 35 "PowderMillModel" "numbers" "[I", Cond.fieldLink RX3 38 "PowderMillModel" "in" "[I", Cond.fieldLink RX3 41 "PowderMillModel" "from" "[I", Cond.fieldLink RX3 44 "PowderMillModel" "agains" "[I", Cond.fieldLink RX3 47 "PowderMillModel" "where" "I", Cond.fieldLink RX3 51 "PowderMillModel" "counts" "[I", Cond.fieldLink RX3 54 "PowderMillModel" "many" "I", Cond.methodLink RL 19 yX2_build, Cond.instanceMethod yX2_build, Cond.selects RX2 yX2_build yX2_build, Cond.code yX2_build cX2_build 5 (some .int), Cond.methodLink RX2 61 yX2_isPlace, Cond.static yX2_isPlace, Cond.code yX2_isPlace cX2_isPlace 1 (some .boolean)]
def wsL_law0_r4 : List Cond := [Cond.methodLink RX2 69 yX0_setUp, Cond.instanceMethod yX0_setUp, Cond.selects RX0 yX0_setUp yX0_setUp, Cond.code yX0_setUp cX0_setUp 3 none, Cond.fieldLink RX0 9 "PowderMill$House" "stands" "Z", Cond.fieldLink RX0 15 "PowderMill$House" "walls" "I", Cond.fieldLink RX0 19 "PowderMill$House" "powder" "I", Cond.fieldLink RX0 22 "PowderMill$House" "refuge" "Z", Cond.fieldLink RX0 25 "PowderMill$House" "timesIn" "I", Cond.fieldLink RX0 28 "PowderMill$House" "sparks" "I", Cond.fieldLink RX0 31 "PowderMill$House" "timesCaught" "I", Cond.fieldLink RX0 34 "PowderMill$House" "staysNow" "I", Cond.methodLink RL 23 yX3_build, Cond.instanceMethod yX3_build, Cond.selects RX3 yX3_build yX3_build, Cond.code yX3_build cX3_build 5 (some .int), Cond.fieldLink RX3 57 "PowderMillModel" "thrown" "I", Cond.methodLink RX3 64 yX3_isPlace, Cond.static yX3_isPlace, Cond.code yX3_isPlace cX3_isPlace 1 (some .boolean), Cond.methodLink RX3 60 yX3_isIn, Cond.static yX3_isIn, Cond.code yX3_isIn cX3_isIn 3 (some .boolean), Cond.methodLink RX3 68 yX3_cleared]
def wsL_law0_r5 : List Cond := [Cond.instanceMethod yX3_cleared, Cond.selects RX3 yX3_cleared yX3_cleared, Cond.code yX3_cleared cX3_cleared 4 none, Cond.methodLink RL 24 yX2_raze, Cond.instanceMethod yX2_raze, Cond.selects RX2 yX2_raze yX2_raze, Cond.code yX2_raze cX2_raze 3 (some .int), Cond.methodLink RL 27 yX3_raze, Cond.instanceMethod yX3_raze, Cond.selects RX3 yX3_raze yX3_raze, Cond.code yX3_raze cX3_raze 3 (some .int), Cond.methodLink RL 28 yX2_step, Cond.instanceMethod yX2_step, Cond.selects RX2 yX2_step yX2_step, Cond.code yX2_step cX2_step 3 (some .int), Cond.methodLink RX2 73 yX2_isAct, Cond.static yX2_isAct, Cond.code yX2_isAct cX2_isAct 1 (some .boolean), Cond.methodLink RL 32 yX3_step, Cond.instanceMethod yX3_step, Cond.selects RX3 yX3_step yX3_step, Cond.code yX3_step cX3_step 3 (some .int), Cond.methodLink RL 33 yX2_clear, Cond.instanceMethod yX2_clear]
def wsL_law0_r6 : List Cond := [Cond.selects RX2 yX2_clear yX2_clear, Cond.code yX2_clear cX2_clear 2 (some .int), Cond.methodLink RL 37 yX3_clear, Cond.instanceMethod yX3_clear, Cond.selects RX3 yX3_clear yX3_clear, Cond.code yX3_clear cX3_clear 2 (some .int), Cond.methodLink RL 38 yX2_alter, Cond.instanceMethod yX2_alter, Cond.selects RX2 yX2_alter yX2_alter, Cond.code yX2_alter cX2_alter 5 (some .int), Cond.methodLink RL 42 yX3_alter, Cond.instanceMethod yX3_alter, Cond.selects RX3 yX3_alter yX3_alter, Cond.code yX3_alter cX3_alter 5 (some .int), Cond.methodLink RL 43 yX2_run, Cond.instanceMethod yX2_run, Cond.selects RX2 yX2_run yX2_run, Cond.code yX2_run cX2_run 2 (some .int), Cond.methodLink RX2 76 yX2_followOrder, Cond.instanceMethod yX2_followOrder, Cond.selects RX2 yX2_followOrder yX2_followOrder, Cond.code yX2_followOrder cX2_followOrder 3 (some .int), Cond.methodLink RX2 101 yX2_perform, Cond.instanceMethod yX2_perform]
def wsL_law0_r7 : List Cond := [Cond.selects RX2 yX2_perform yX2_perform, Cond.code yX2_perform cX2_perform 3 (some .int), Cond.methodLink RX2 112 yJ9_floorMod_7cf53, Cond.static yJ9_floorMod_7cf53, Cond.initialized RJ9, Cond.code yJ9_floorMod_7cf53 cJ9_floorMod_7cf53 3 (some .int), Cond.methodLink RX2 118 yX2_goIn, Cond.instanceMethod yX2_goIn, Cond.selects RX2 yX2_goIn yX2_goIn, Cond.code yX2_goIn cX2_goIn 3 (some .int), Cond.methodLink RX2 139 yX1_isFull, Cond.instanceMethod yX1_isFull, Cond.selects RX1 yX1_isFull yX1_isFull, Cond.code yX1_isFull cX1_isFull 1 (some .boolean), Cond.methodLink RX2 142 yX1_enter, Cond.instanceMethod yX1_enter, Cond.selects RX1 yX1_enter yX1_enter, Cond.code yX1_enter cX1_enter 3 none, Cond.methodLink RX2 121 yX1_leaveHere, Cond.instanceMethod yX1_leaveHere, Cond.selects RX1 yX1_leaveHere yX1_leaveHere, Cond.code yX1_leaveHere cX1_leaveHere 1 none, Cond.methodLink RX1 34 yX1_leaveDownTo, Cond.instanceMethod yX1_leaveDownTo]
def wsL_law0_r8 : List Cond := [Cond.selects RX1 yX1_leaveDownTo yX1_leaveDownTo, Cond.code yX1_leaveDownTo cX1_leaveDownTo 2 none, Cond.methodLink RX2 124 yX2_grind, Cond.instanceMethod yX2_grind, Cond.selects RX2 yX2_grind yX2_grind, Cond.code yX2_grind cX2_grind 3 (some .int), Cond.methodLink RX2 146 yX1_here, Cond.instanceMethod yX1_here, Cond.selects RX1 yX1_here yX1_here, Cond.code yX1_here cX1_here 1 (some (.object "PowderMill$House")), Cond.methodLink RX2 150 yX0_receive, Cond.instanceMethod yX0_receive, Cond.selects RX0 yX0_receive yX0_receive, Cond.code yX0_receive cX0_receive 2 (some .int), Cond.methodLink RX2 127 yX2_carry, Cond.instanceMethod yX2_carry, Cond.selects RX2 yX2_carry yX2_carry, Cond.code yX2_carry cX2_carry 4 (some .int), Cond.methodLink RX2 153 yX1_around, Cond.instanceMethod yX1_around, Cond.selects RX1 yX1_around yX1_around, Cond.code yX1_around cX1_around 1 (some (.object "PowderMill$House")), Cond.methodLink RX2 130 yX2_share, Cond.instanceMethod yX2_share]
def wsL_law0_r9 : List Cond := [Cond.selects RX2 yX2_share yX2_share, Cond.code yX2_share cX2_share 3 (some .int), Cond.methodLink RX2 133 yX2_write, Cond.instanceMethod yX2_write, Cond.selects RX2 yX2_write yX2_write, Cond.code yX2_write cX2_write 3 (some .int), Cond.methodLink RX2 88 yX2_isRow, Cond.static yX2_isRow, Cond.code yX2_isRow cX2_isRow 1 (some .boolean), Cond.methodLink RX2 136 yX1_stepBehindAgain, Cond.instanceMethod yX1_stepBehindAgain, Cond.selects RX1 yX1_stepBehindAgain yX1_stepBehindAgain, Cond.code yX1_stepBehindAgain cX1_stepBehindAgain 3 (some .int), Cond.methodLink RX2 104 yX2_isCaught, Cond.instanceMethod yX2_isCaught, Cond.selects RX2 yX2_isCaught yX2_isCaught, Cond.code yX2_isCaught cX2_isCaught 3 (some .boolean), Cond.methodLink RX2 108 yX1_leaveByRefuge, Cond.instanceMethod yX1_leaveByRefuge, Cond.selects RX1 yX1_leaveByRefuge yX1_leaveByRefuge, Cond.code yX1_leaveByRefuge cX1_leaveByRefuge 2 (some .boolean), Cond.methodLink RX2 80 yX1_leaveDownTo, Cond.methodLink RL 46 yX3_run, Cond.instanceMethod yX3_run]
def wsL_law0_r10 : List Cond := [Cond.selects RX3 yX3_run yX3_run, Cond.code yX3_run cX3_run 3 (some .int), Cond.fieldLink RX3 102 "PowderMillModel" "begun" "I", Cond.fieldLink RX3 72 "PowderMillModel" "deep" "I", Cond.fieldLink RX3 75 "PowderMillModel" "next" "I", Cond.fieldLink RX3 98 "PowderMillModel" "quits" "Z", Cond.methodLink RX3 105 yX3_does, Cond.instanceMethod yX3_does, Cond.selects RX3 yX3_does yX3_does, Cond.code yX3_does cX3_does 3 (some .int), Cond.methodLink RX3 82 yX3_modulo, Cond.static yX3_modulo, Cond.code yX3_modulo cX3_modulo 3 (some .int), Cond.methodLink RX3 85 yX3_goIn, Cond.instanceMethod yX3_goIn, Cond.selects RX3 yX3_goIn yX3_goIn, Cond.code yX3_goIn cX3_goIn 2 (some .int), Cond.methodLink RX3 78 yX3_comes, Cond.instanceMethod yX3_comes, Cond.selects RX3 yX3_comes yX3_comes, Cond.code yX3_comes cX3_comes 3 (some .int), Cond.methodLink RX3 89 yX3_carry, Cond.instanceMethod yX3_carry, Cond.selects RX3 yX3_carry yX3_carry]
def wsL_law0_r11 : List Cond := [Cond.code yX3_carry cX3_carry 3 (some .int), Cond.methodLink RX3 92 yX3_share, Cond.instanceMethod yX3_share, Cond.selects RX3 yX3_share yX3_share, Cond.code yX3_share cX3_share 2 (some .int), Cond.methodLink RX3 95 yX3_write, Cond.instanceMethod yX3_write, Cond.selects RX3 yX3_write yX3_write, Cond.code yX3_write cX3_write 2 (some .int), Cond.methodLink RX3 108 yX3_isCaught, Cond.instanceMethod yX3_isCaught, Cond.selects RX3 yX3_isCaught yX3_isCaught, Cond.code yX3_isCaught cX3_isCaught 1 (some .boolean), Cond.methodLink RL 47 yX2_begun, Cond.instanceMethod yX2_begun, Cond.selects RX2 yX2_begun yX2_begun, Cond.code yX2_begun cX2_begun 1 (some .int), Cond.methodLink RL 50 yX3_begun, Cond.instanceMethod yX3_begun, Cond.selects RX3 yX3_begun yX3_begun, Cond.code yX3_begun cX3_begun 1 (some .int), Cond.methodLink RL 51 yX2_where, Cond.instanceMethod yX2_where, Cond.selects RX2 yX2_where yX2_where]
def wsL_law0_r12 : List Cond := [Cond.code yX2_where cX2_where 1 (some .int), Cond.methodLink RL 54 yX3_where, Cond.instanceMethod yX3_where, Cond.selects RX3 yX3_where yX3_where, Cond.code yX3_where cX3_where 1 (some .int), Cond.methodLink RL 55 yX2_house, Cond.instanceMethod yX2_house, Cond.selects RX2 yX2_house yX2_house, Cond.code yX2_house cX2_house 3 (some .int), Cond.methodLink RX2 84 yX0_tell, Cond.instanceMethod yX0_tell, Cond.selects RX0 yX0_tell yX0_tell, Cond.code yX0_tell cX0_tell 2 (some .int), Cond.methodLink RL 58 yX3_house, Cond.instanceMethod yX3_house, Cond.selects RX3 yX3_house yX3_house, Cond.code yX3_house cX3_house 3 (some .int), Cond.methodLink RX3 112 yX3_isHouse, Cond.instanceMethod yX3_isHouse, Cond.selects RX3 yX3_isHouse yX3_isHouse, Cond.code yX3_isHouse cX3_isHouse 2 (some .boolean), Cond.methodLink RL 59 yL_row, Cond.static yL_row, Cond.initialized RL]
def wsL_law0_r13 : List Cond := [Cond.codeWith yL_row cL_row 4 (some .int) [(0, 9, 12, 13)], Cond.classLink RL 13 "java/lang/ArrayIndexOutOfBoundsException", Cond.methodLink RL 7 yX2_row, Cond.instanceMethod yX2_row, Cond.selects RX2 yX2_row yX2_row, Cond.code yX2_row cX2_row 2 (some .int), Cond.classLink RX2 91 RJx00060, Cond.instantiable RJx00060 6, Cond.initialized RJx00060, Cond.methodLink RL 64 yX3_row, Cond.instanceMethod yX3_row, Cond.selects RX3 yX3_row yX3_row, Cond.code yX3_row cX3_row 2 (some .int), Cond.methodLink RL 65 yX3_thrown, Cond.instanceMethod yX3_thrown, Cond.selects RX3 yX3_thrown yX3_thrown, Cond.code yX3_thrown cX3_thrown 1 (some .int), Cond.methodLink RL 68 yX2_count, Cond.instanceMethod yX2_count, Cond.selects RX2 yX2_count yX2_count, Cond.code yX2_count cX2_count 2 (some .int), Cond.methodLink RX2 98 yX2_standingHouses, Cond.instanceMethod yX2_standingHouses, Cond.selects RX2 yX2_standingHouses yX2_standingHouses]
def wsL_law0_r14 : List Cond := [Cond.code yX2_standingHouses cX2_standingHouses 3 (some .int), Cond.methodLink RL 71 yX3_count, Cond.instanceMethod yX3_count, Cond.selects RX3 yX3_count yX3_count, Cond.code yX3_count cX3_count 4 (some .int)]
def wsL_law0 : List Cond := (wsL_law0_r1 ++ (wsL_law0_r2 ++ (wsL_law0_r3 ++ (wsL_law0_r4 ++ (wsL_law0_r5 ++ (wsL_law0_r6 ++ (wsL_law0_r7 ++ (wsL_law0_r8 ++ (wsL_law0_r9 ++ (wsL_law0_r10 ++ (wsL_law0_r11 ++ (wsL_law0_r12 ++ (wsL_law0_r13 ++ wsL_law0_r14))))))))))))) ++ wsX20 ++ wsX30 ++ wsX10 ++ wsX00 ++ wsJx000600 ++ ([] : List Cond)
def wsL_law : List Cond := wsL_law0 ++ (vx_atM "java/lang/ArrayIndexOutOfBoundsException" ["java/lang/IndexOutOfBoundsException", "java/lang/RuntimeException", "java/lang/Exception"]).filter goodWord
set_option maxRecDepth 20000 in
theorem wsL_law_in0 : ∀ w ∈ wsL_law0, w ∈ lw_tbl := fun w h => (goodIn_p wsL_law0 [35, 38, 45, 65, 362, 144, 147, 151, 433, 436, 439, 443, 155, 447, 159, 162, 451, 166, 455, 170, 459, 174, 178, 182, 185, 189, 193, 197, 201, 205, 209, 213, 217, 221, 225, 229, 233, 236, 240, 244, 248, 463, 467, 470, 474, 478, 482, 486, 490, 494, 253, 498, 257, 502, 261, 265, 506, 510, 354, 514, 429, 269, 273, 518] (by decide +kernel) (by decide +kernel) w h).1
theorem wsL_law_x0 : ∀ w ∈ (vx_atM "java/lang/ArrayIndexOutOfBoundsException" ["java/lang/IndexOutOfBoundsException", "java/lang/RuntimeException", "java/lang/Exception"]).filter goodWord, w ∈ lw_tbl := by decide +kernel
theorem wsL_law_in : ∀ w ∈ wsL_law, w ∈ lw_tbl := fun w h => (List.mem_append.mp h).elim (fun h => wsL_law_in0 w h) (fun h => wsL_law_x0 w h)
theorem inlX0 : ∀ w ∈ wsX00, w ∈ wsL_law := fun _ h => List.mem_append_left _ (List.mem_append_left _ (List.mem_append_left _ (List.mem_append_right _ h)))
theorem inX0 : ∀ w ∈ wsX00, w ∈ lw_tbl := fun w h => wsL_law_in w (inlX0 w h)
theorem inlX1 : ∀ w ∈ wsX10, w ∈ wsL_law := fun _ h => List.mem_append_left _ (List.mem_append_left _ (List.mem_append_left _ (List.mem_append_left _ (List.mem_append_right _ h))))
theorem inX1 : ∀ w ∈ wsX10, w ∈ lw_tbl := fun w h => wsL_law_in w (inlX1 w h)
theorem inlX2 : ∀ w ∈ wsX20, w ∈ wsL_law := fun _ h => List.mem_append_left _ (List.mem_append_left _ (List.mem_append_left _ (List.mem_append_left _ (List.mem_append_left _ (List.mem_append_left _ (List.mem_append_right _ h))))))
theorem inX2 : ∀ w ∈ wsX20, w ∈ lw_tbl := fun w h => wsL_law_in w (inlX2 w h)
theorem inlX3 : ∀ w ∈ wsX30, w ∈ wsL_law := fun _ h => List.mem_append_left _ (List.mem_append_left _ (List.mem_append_left _ (List.mem_append_left _ (List.mem_append_left _ (List.mem_append_right _ h)))))
theorem inX3 : ∀ w ∈ wsX30, w ∈ lw_tbl := fun w h => wsL_law_in w (inlX3 w h)
theorem inlJx00060 : ∀ w ∈ wsJx000600, w ∈ wsL_law := fun _ h => List.mem_append_left _ (List.mem_append_left _ (List.mem_append_right _ h))
theorem inJx00060 : ∀ w ∈ wsJx000600, w ∈ lw_tbl := fun w h => wsL_law_in w (inlJx00060 w h)
theorem inJ9 : ∀ w ∈ wsJ90, w ∈ lw_tbl := by decide +kernel
theorem inJ0 : ∀ w ∈ wsJ00, w ∈ lw_tbl := by decide +kernel
end
section
theorem dX0_init_0 : decode cX0_init 0 = .ok (.aload_n 0, 1) := by decide +kernel
theorem dX0_init_1 : decode cX0_init 1 = .ok (.invokespecial 3, 3) := by decide +kernel
theorem dX0_init_4 : decode cX0_init 4 = .ok (.return_, 1) := by decide +kernel
theorem dX0_setUp_0 : decode cX0_setUp 0 = .ok (.aload_n 0, 1) := by decide +kernel
theorem dX0_setUp_1 : decode cX0_setUp 1 = .ok (.iconst 1, 1) := by decide +kernel
theorem dX0_setUp_2 : decode cX0_setUp 2 = .ok (.putfield 9, 3) := by decide +kernel
theorem dX0_setUp_5 : decode cX0_setUp 5 = .ok (.aload_n 0, 1) := by decide +kernel
theorem dX0_setUp_6 : decode cX0_setUp 6 = .ok (.iload_n 1, 1) := by decide +kernel
theorem dX0_setUp_7 : decode cX0_setUp 7 = .ok (.putfield 15, 3) := by decide +kernel
theorem dX0_setUp_10 : decode cX0_setUp 10 = .ok (.aload_n 0, 1) := by decide +kernel
theorem dX0_setUp_11 : decode cX0_setUp 11 = .ok (.iconst 0, 1) := by decide +kernel
theorem dX0_setUp_12 : decode cX0_setUp 12 = .ok (.putfield 19, 3) := by decide +kernel
theorem dX0_setUp_15 : decode cX0_setUp 15 = .ok (.aload_n 0, 1) := by decide +kernel
theorem dX0_setUp_16 : decode cX0_setUp 16 = .ok (.iload_n 2, 1) := by decide +kernel
theorem dX0_setUp_17 : decode cX0_setUp 17 = .ok (.putfield 22, 3) := by decide +kernel
theorem dX0_setUp_20 : decode cX0_setUp 20 = .ok (.aload_n 0, 1) := by decide +kernel
theorem dX0_setUp_21 : decode cX0_setUp 21 = .ok (.iconst 0, 1) := by decide +kernel
theorem dX0_setUp_22 : decode cX0_setUp 22 = .ok (.putfield 25, 3) := by decide +kernel
theorem dX0_setUp_25 : decode cX0_setUp 25 = .ok (.aload_n 0, 1) := by decide +kernel
theorem dX0_setUp_26 : decode cX0_setUp 26 = .ok (.iconst 0, 1) := by decide +kernel
theorem dX0_setUp_27 : decode cX0_setUp 27 = .ok (.putfield 28, 3) := by decide +kernel
theorem dX0_setUp_30 : decode cX0_setUp 30 = .ok (.aload_n 0, 1) := by decide +kernel
theorem dX0_setUp_31 : decode cX0_setUp 31 = .ok (.iconst 0, 1) := by decide +kernel
theorem dX0_setUp_32 : decode cX0_setUp 32 = .ok (.putfield 31, 3) := by decide +kernel
theorem dX0_setUp_35 : decode cX0_setUp 35 = .ok (.aload_n 0, 1) := by decide +kernel
theorem dX0_setUp_36 : decode cX0_setUp 36 = .ok (.iconst 0, 1) := by decide +kernel
theorem dX0_setUp_37 : decode cX0_setUp 37 = .ok (.putfield 34, 3) := by decide +kernel
theorem dX0_setUp_40 : decode cX0_setUp 40 = .ok (.return_, 1) := by decide +kernel
theorem dX0_receive_0 : decode cX0_receive 0 = .ok (.aload_n 0, 1) := by decide +kernel
theorem dX0_receive_1 : decode cX0_receive 1 = .ok (.dup, 1) := by decide +kernel
theorem dX0_receive_2 : decode cX0_receive 2 = .ok (.getfield 19, 3) := by decide +kernel
theorem dX0_receive_5 : decode cX0_receive 5 = .ok (.iload_n 1, 1) := by decide +kernel
theorem dX0_receive_6 : decode cX0_receive 6 = .ok (.iadd, 1) := by decide +kernel
theorem dX0_receive_7 : decode cX0_receive 7 = .ok (.putfield 19, 3) := by decide +kernel
theorem dX0_receive_10 : decode cX0_receive 10 = .ok (.aload_n 0, 1) := by decide +kernel
theorem dX0_receive_11 : decode cX0_receive 11 = .ok (.getfield 19, 3) := by decide +kernel
theorem dX0_receive_14 : decode cX0_receive 14 = .ok (.bipush 10, 2) := by decide +kernel
theorem dX0_receive_16 : decode cX0_receive 16 = .ok (.aload_n 0, 1) := by decide +kernel
theorem dX0_receive_17 : decode cX0_receive 17 = .ok (.getfield 15, 3) := by decide +kernel
theorem dX0_receive_20 : decode cX0_receive 20 = .ok (.imul, 1) := by decide +kernel
theorem dX0_receive_21 : decode cX0_receive 21 = .ok (.if_icmp .gt 5, 3) := by decide +kernel
theorem dX0_receive_24 : decode cX0_receive 24 = .ok (.iconst 0, 1) := by decide +kernel
theorem dX0_receive_25 : decode cX0_receive 25 = .ok (.ireturn, 1) := by decide +kernel
theorem dX0_receive_26 : decode cX0_receive 26 = .ok (.aload_n 0, 1) := by decide +kernel
theorem dX0_receive_27 : decode cX0_receive 27 = .ok (.iconst 0, 1) := by decide +kernel
theorem dX0_receive_28 : decode cX0_receive 28 = .ok (.putfield 19, 3) := by decide +kernel
theorem dX0_receive_31 : decode cX0_receive 31 = .ok (.aload_n 0, 1) := by decide +kernel
theorem dX0_receive_32 : decode cX0_receive 32 = .ok (.dup, 1) := by decide +kernel
theorem dX0_receive_33 : decode cX0_receive 33 = .ok (.getfield 28, 3) := by decide +kernel
theorem dX0_receive_36 : decode cX0_receive 36 = .ok (.iconst 1, 1) := by decide +kernel
theorem dX0_receive_37 : decode cX0_receive 37 = .ok (.iadd, 1) := by decide +kernel
theorem dX0_receive_38 : decode cX0_receive 38 = .ok (.putfield 28, 3) := by decide +kernel
theorem dX0_receive_41 : decode cX0_receive 41 = .ok (.iconst 3, 1) := by decide +kernel
theorem dX0_receive_42 : decode cX0_receive 42 = .ok (.ireturn, 1) := by decide +kernel
theorem dX0_tell_0 : decode cX0_tell 0 = .ok (.iload_n 1, 1) := by decide +kernel
theorem dX0_tell_1 : decode cX0_tell 1 = .ok (.tableswitch 86 0 6 #[43, 48, 53, 66, 71, 76, 81], 43) := by decide +kernel
theorem dX0_tell_44 : decode cX0_tell 44 = .ok (.aload_n 0, 1) := by decide +kernel
theorem dX0_tell_45 : decode cX0_tell 45 = .ok (.getfield 15, 3) := by decide +kernel
theorem dX0_tell_48 : decode cX0_tell 48 = .ok (.ireturn, 1) := by decide +kernel
theorem dX0_tell_49 : decode cX0_tell 49 = .ok (.aload_n 0, 1) := by decide +kernel
theorem dX0_tell_50 : decode cX0_tell 50 = .ok (.getfield 19, 3) := by decide +kernel
theorem dX0_tell_53 : decode cX0_tell 53 = .ok (.ireturn, 1) := by decide +kernel
theorem dX0_tell_54 : decode cX0_tell 54 = .ok (.aload_n 0, 1) := by decide +kernel
theorem dX0_tell_55 : decode cX0_tell 55 = .ok (.getfield 22, 3) := by decide +kernel
theorem dX0_tell_58 : decode cX0_tell 58 = .ok (.ifCond .eq 7, 3) := by decide +kernel
theorem dX0_tell_61 : decode cX0_tell 61 = .ok (.iconst 1, 1) := by decide +kernel
theorem dX0_tell_62 : decode cX0_tell 62 = .ok (.goto 4, 3) := by decide +kernel
theorem dX0_tell_65 : decode cX0_tell 65 = .ok (.iconst 0, 1) := by decide +kernel
theorem dX0_tell_66 : decode cX0_tell 66 = .ok (.ireturn, 1) := by decide +kernel
theorem dX0_tell_67 : decode cX0_tell 67 = .ok (.aload_n 0, 1) := by decide +kernel
theorem dX0_tell_68 : decode cX0_tell 68 = .ok (.getfield 25, 3) := by decide +kernel
theorem dX0_tell_71 : decode cX0_tell 71 = .ok (.ireturn, 1) := by decide +kernel
theorem dX0_tell_72 : decode cX0_tell 72 = .ok (.aload_n 0, 1) := by decide +kernel
theorem dX0_tell_73 : decode cX0_tell 73 = .ok (.getfield 28, 3) := by decide +kernel
theorem dX0_tell_76 : decode cX0_tell 76 = .ok (.ireturn, 1) := by decide +kernel
theorem dX0_tell_77 : decode cX0_tell 77 = .ok (.aload_n 0, 1) := by decide +kernel
theorem dX0_tell_78 : decode cX0_tell 78 = .ok (.getfield 31, 3) := by decide +kernel
theorem dX0_tell_81 : decode cX0_tell 81 = .ok (.ireturn, 1) := by decide +kernel
theorem dX0_tell_82 : decode cX0_tell 82 = .ok (.aload_n 0, 1) := by decide +kernel
theorem dX0_tell_83 : decode cX0_tell 83 = .ok (.getfield 34, 3) := by decide +kernel
theorem dX0_tell_86 : decode cX0_tell 86 = .ok (.ireturn, 1) := by decide +kernel
theorem dX0_tell_87 : decode cX0_tell 87 = .ok (.iconst (-1), 1) := by decide +kernel
theorem dX0_tell_88 : decode cX0_tell 88 = .ok (.ireturn, 1) := by decide +kernel
theorem dX1_init_0 : decode cX1_init 0 = .ok (.aload_n 0, 1) := by decide +kernel
theorem dX1_init_1 : decode cX1_init 1 = .ok (.invokespecial 3, 3) := by decide +kernel
theorem dX1_init_4 : decode cX1_init 4 = .ok (.aload_n 0, 1) := by decide +kernel
theorem dX1_init_5 : decode cX1_init 5 = .ok (.bipush 6, 2) := by decide +kernel
theorem dX1_init_7 : decode cX1_init 7 = .ok (.anewarray 9, 3) := by decide +kernel
theorem dX1_init_10 : decode cX1_init 10 = .ok (.putfield 11, 3) := by decide +kernel
theorem dX1_init_13 : decode cX1_init 13 = .ok (.aload_n 0, 1) := by decide +kernel
theorem dX1_init_14 : decode cX1_init 14 = .ok (.bipush 6, 2) := by decide +kernel
theorem dX1_init_16 : decode cX1_init 16 = .ok (.newarray .int, 2) := by decide +kernel
theorem dX1_init_18 : decode cX1_init 18 = .ok (.putfield 17, 3) := by decide +kernel
theorem dX1_init_21 : decode cX1_init 21 = .ok (.aload_n 0, 1) := by decide +kernel
theorem dX1_init_22 : decode cX1_init 22 = .ok (.bipush 6, 2) := by decide +kernel
theorem dX1_init_24 : decode cX1_init 24 = .ok (.newarray .int, 2) := by decide +kernel
theorem dX1_init_26 : decode cX1_init 26 = .ok (.putfield 21, 3) := by decide +kernel
theorem dX1_init_29 : decode cX1_init 29 = .ok (.aload_n 0, 1) := by decide +kernel
theorem dX1_init_30 : decode cX1_init 30 = .ok (.iconst 0, 1) := by decide +kernel
theorem dX1_init_31 : decode cX1_init 31 = .ok (.putfield 24, 3) := by decide +kernel
theorem dX1_init_34 : decode cX1_init 34 = .ok (.return_, 1) := by decide +kernel
theorem dX1_isFull_0 : decode cX1_isFull 0 = .ok (.aload_n 0, 1) := by decide +kernel
theorem dX1_isFull_1 : decode cX1_isFull 1 = .ok (.getfield 24, 3) := by decide +kernel
theorem dX1_isFull_4 : decode cX1_isFull 4 = .ok (.bipush 6, 2) := by decide +kernel
theorem dX1_isFull_6 : decode cX1_isFull 6 = .ok (.if_icmp .lt 7, 3) := by decide +kernel
theorem dX1_isFull_9 : decode cX1_isFull 9 = .ok (.iconst 1, 1) := by decide +kernel
theorem dX1_isFull_10 : decode cX1_isFull 10 = .ok (.goto 4, 3) := by decide +kernel
theorem dX1_isFull_13 : decode cX1_isFull 13 = .ok (.iconst 0, 1) := by decide +kernel
theorem dX1_isFull_14 : decode cX1_isFull 14 = .ok (.ireturn, 1) := by decide +kernel
theorem dX1_here_0 : decode cX1_here 0 = .ok (.aload_n 0, 1) := by decide +kernel
theorem dX1_here_1 : decode cX1_here 1 = .ok (.getfield 24, 3) := by decide +kernel
theorem dX1_here_4 : decode cX1_here 4 = .ok (.iconst 1, 1) := by decide +kernel
theorem dX1_here_5 : decode cX1_here 5 = .ok (.if_icmp .lt 17, 3) := by decide +kernel
theorem dX1_here_8 : decode cX1_here 8 = .ok (.aload_n 0, 1) := by decide +kernel
theorem dX1_here_9 : decode cX1_here 9 = .ok (.getfield 11, 3) := by decide +kernel
theorem dX1_here_12 : decode cX1_here 12 = .ok (.aload_n 0, 1) := by decide +kernel
theorem dX1_here_13 : decode cX1_here 13 = .ok (.getfield 24, 3) := by decide +kernel
theorem dX1_here_16 : decode cX1_here 16 = .ok (.iconst 1, 1) := by decide +kernel
theorem dX1_here_17 : decode cX1_here 17 = .ok (.isub, 1) := by decide +kernel
theorem dX1_here_18 : decode cX1_here 18 = .ok (.aaload, 1) := by decide +kernel
theorem dX1_here_19 : decode cX1_here 19 = .ok (.goto 4, 3) := by decide +kernel
theorem dX1_here_22 : decode cX1_here 22 = .ok (.aconst_null, 1) := by decide +kernel
theorem dX1_here_23 : decode cX1_here 23 = .ok (.areturn, 1) := by decide +kernel
theorem dX1_around_0 : decode cX1_around 0 = .ok (.aload_n 0, 1) := by decide +kernel
theorem dX1_around_1 : decode cX1_around 1 = .ok (.getfield 24, 3) := by decide +kernel
theorem dX1_around_4 : decode cX1_around 4 = .ok (.iconst 2, 1) := by decide +kernel
theorem dX1_around_5 : decode cX1_around 5 = .ok (.if_icmp .lt 17, 3) := by decide +kernel
theorem dX1_around_8 : decode cX1_around 8 = .ok (.aload_n 0, 1) := by decide +kernel
theorem dX1_around_9 : decode cX1_around 9 = .ok (.getfield 11, 3) := by decide +kernel
theorem dX1_around_12 : decode cX1_around 12 = .ok (.aload_n 0, 1) := by decide +kernel
theorem dX1_around_13 : decode cX1_around 13 = .ok (.getfield 24, 3) := by decide +kernel
theorem dX1_around_16 : decode cX1_around 16 = .ok (.iconst 2, 1) := by decide +kernel
theorem dX1_around_17 : decode cX1_around 17 = .ok (.isub, 1) := by decide +kernel
theorem dX1_around_18 : decode cX1_around 18 = .ok (.aaload, 1) := by decide +kernel
theorem dX1_around_19 : decode cX1_around 19 = .ok (.goto 4, 3) := by decide +kernel
theorem dX1_around_22 : decode cX1_around 22 = .ok (.aconst_null, 1) := by decide +kernel
theorem dX1_around_23 : decode cX1_around 23 = .ok (.areturn, 1) := by decide +kernel
theorem dX1_enter_0 : decode cX1_enter 0 = .ok (.aload_n 0, 1) := by decide +kernel
theorem dX1_enter_1 : decode cX1_enter 1 = .ok (.getfield 11, 3) := by decide +kernel
theorem dX1_enter_4 : decode cX1_enter 4 = .ok (.aload_n 0, 1) := by decide +kernel
theorem dX1_enter_5 : decode cX1_enter 5 = .ok (.getfield 24, 3) := by decide +kernel
theorem dX1_enter_8 : decode cX1_enter 8 = .ok (.aload_n 1, 1) := by decide +kernel
theorem dX1_enter_9 : decode cX1_enter 9 = .ok (.aastore, 1) := by decide +kernel
theorem dX1_enter_10 : decode cX1_enter 10 = .ok (.aload_n 0, 1) := by decide +kernel
theorem dX1_enter_11 : decode cX1_enter 11 = .ok (.getfield 17, 3) := by decide +kernel
theorem dX1_enter_14 : decode cX1_enter 14 = .ok (.aload_n 0, 1) := by decide +kernel
theorem dX1_enter_15 : decode cX1_enter 15 = .ok (.getfield 24, 3) := by decide +kernel
theorem dX1_enter_18 : decode cX1_enter 18 = .ok (.iload_n 2, 1) := by decide +kernel
theorem dX1_enter_19 : decode cX1_enter 19 = .ok (.iastore, 1) := by decide +kernel
theorem dX1_enter_20 : decode cX1_enter 20 = .ok (.aload_n 0, 1) := by decide +kernel
theorem dX1_enter_21 : decode cX1_enter 21 = .ok (.getfield 21, 3) := by decide +kernel
theorem dX1_enter_24 : decode cX1_enter 24 = .ok (.aload_n 0, 1) := by decide +kernel
theorem dX1_enter_25 : decode cX1_enter 25 = .ok (.getfield 24, 3) := by decide +kernel
theorem dX1_enter_28 : decode cX1_enter 28 = .ok (.iconst 0, 1) := by decide +kernel
theorem dX1_enter_29 : decode cX1_enter 29 = .ok (.iastore, 1) := by decide +kernel
theorem dX1_enter_30 : decode cX1_enter 30 = .ok (.aload_n 0, 1) := by decide +kernel
theorem dX1_enter_31 : decode cX1_enter 31 = .ok (.dup, 1) := by decide +kernel
theorem dX1_enter_32 : decode cX1_enter 32 = .ok (.getfield 24, 3) := by decide +kernel
theorem dX1_enter_35 : decode cX1_enter 35 = .ok (.iconst 1, 1) := by decide +kernel
theorem dX1_enter_36 : decode cX1_enter 36 = .ok (.iadd, 1) := by decide +kernel
theorem dX1_enter_37 : decode cX1_enter 37 = .ok (.putfield 24, 3) := by decide +kernel
theorem dX1_enter_40 : decode cX1_enter 40 = .ok (.aload_n 1, 1) := by decide +kernel
theorem dX1_enter_41 : decode cX1_enter 41 = .ok (.dup, 1) := by decide +kernel
theorem dX1_enter_42 : decode cX1_enter 42 = .ok (.getfield 28, 3) := by decide +kernel
theorem dX1_enter_45 : decode cX1_enter 45 = .ok (.iconst 1, 1) := by decide +kernel
theorem dX1_enter_46 : decode cX1_enter 46 = .ok (.iadd, 1) := by decide +kernel
theorem dX1_enter_47 : decode cX1_enter 47 = .ok (.putfield 28, 3) := by decide +kernel
theorem dX1_enter_50 : decode cX1_enter 50 = .ok (.aload_n 1, 1) := by decide +kernel
theorem dX1_enter_51 : decode cX1_enter 51 = .ok (.dup, 1) := by decide +kernel
theorem dX1_enter_52 : decode cX1_enter 52 = .ok (.getfield 31, 3) := by decide +kernel
theorem dX1_enter_55 : decode cX1_enter 55 = .ok (.iconst 1, 1) := by decide +kernel
theorem dX1_enter_56 : decode cX1_enter 56 = .ok (.iadd, 1) := by decide +kernel
theorem dX1_enter_57 : decode cX1_enter 57 = .ok (.putfield 31, 3) := by decide +kernel
theorem dX1_enter_60 : decode cX1_enter 60 = .ok (.return_, 1) := by decide +kernel
set_option maxRecDepth 20000 in
theorem ggX1_leaveHere_X1_leaveDownTo : GoodIn wsX1_leaveHere wsX1_leaveDownTo := goodIn_r _ [6, 1, 7, 8, 9, 10, 11, 12, 13, 14, 15, 16, 17, 18, 19] (by decide +kernel) (by decide +kernel)
set_option maxRecDepth 20000 in
theorem gX1_leaveHere_X1_leaveDownTo : GoodIn wsX1_leaveHere (wsV RX1 34 RX1 yX1_leaveDownTo wsX1_leaveDownTo) := goodIn_app (goodIn_of _ (by decide +kernel)) ggX1_leaveHere_X1_leaveDownTo
theorem dX1_leaveHere_0 : decode cX1_leaveHere 0 = .ok (.aload_n 0, 1) := by decide +kernel
theorem dX1_leaveHere_1 : decode cX1_leaveHere 1 = .ok (.aload_n 0, 1) := by decide +kernel
theorem dX1_leaveHere_2 : decode cX1_leaveHere 2 = .ok (.getfield 24, 3) := by decide +kernel
theorem dX1_leaveHere_5 : decode cX1_leaveHere 5 = .ok (.iconst 1, 1) := by decide +kernel
theorem dX1_leaveHere_6 : decode cX1_leaveHere 6 = .ok (.isub, 1) := by decide +kernel
theorem dX1_leaveHere_7 : decode cX1_leaveHere 7 = .ok (.invokevirtual 34, 3) := by decide +kernel
theorem dX1_leaveHere_10 : decode cX1_leaveHere 10 = .ok (.return_, 1) := by decide +kernel
theorem dX1_leaveDownTo_0 : decode cX1_leaveDownTo 0 = .ok (.aload_n 0, 1) := by decide +kernel
theorem dX1_leaveDownTo_1 : decode cX1_leaveDownTo 1 = .ok (.getfield 24, 3) := by decide +kernel
theorem dX1_leaveDownTo_4 : decode cX1_leaveDownTo 4 = .ok (.iload_n 1, 1) := by decide +kernel
theorem dX1_leaveDownTo_5 : decode cX1_leaveDownTo 5 = .ok (.if_icmp .le 43, 3) := by decide +kernel
theorem dX1_leaveDownTo_8 : decode cX1_leaveDownTo 8 = .ok (.aload_n 0, 1) := by decide +kernel
theorem dX1_leaveDownTo_9 : decode cX1_leaveDownTo 9 = .ok (.getfield 24, 3) := by decide +kernel
theorem dX1_leaveDownTo_12 : decode cX1_leaveDownTo 12 = .ok (.ifCond .le 36, 3) := by decide +kernel
theorem dX1_leaveDownTo_15 : decode cX1_leaveDownTo 15 = .ok (.aload_n 0, 1) := by decide +kernel
theorem dX1_leaveDownTo_16 : decode cX1_leaveDownTo 16 = .ok (.getfield 11, 3) := by decide +kernel
theorem dX1_leaveDownTo_19 : decode cX1_leaveDownTo 19 = .ok (.aload_n 0, 1) := by decide +kernel
theorem dX1_leaveDownTo_20 : decode cX1_leaveDownTo 20 = .ok (.getfield 24, 3) := by decide +kernel
theorem dX1_leaveDownTo_23 : decode cX1_leaveDownTo 23 = .ok (.iconst 1, 1) := by decide +kernel
theorem dX1_leaveDownTo_24 : decode cX1_leaveDownTo 24 = .ok (.isub, 1) := by decide +kernel
theorem dX1_leaveDownTo_25 : decode cX1_leaveDownTo 25 = .ok (.aaload, 1) := by decide +kernel
theorem dX1_leaveDownTo_26 : decode cX1_leaveDownTo 26 = .ok (.dup, 1) := by decide +kernel
theorem dX1_leaveDownTo_27 : decode cX1_leaveDownTo 27 = .ok (.getfield 31, 3) := by decide +kernel
theorem dX1_leaveDownTo_30 : decode cX1_leaveDownTo 30 = .ok (.iconst 1, 1) := by decide +kernel
theorem dX1_leaveDownTo_31 : decode cX1_leaveDownTo 31 = .ok (.isub, 1) := by decide +kernel
theorem dX1_leaveDownTo_32 : decode cX1_leaveDownTo 32 = .ok (.putfield 31, 3) := by decide +kernel
theorem dX1_leaveDownTo_35 : decode cX1_leaveDownTo 35 = .ok (.aload_n 0, 1) := by decide +kernel
theorem dX1_leaveDownTo_36 : decode cX1_leaveDownTo 36 = .ok (.dup, 1) := by decide +kernel
theorem dX1_leaveDownTo_37 : decode cX1_leaveDownTo 37 = .ok (.getfield 24, 3) := by decide +kernel
theorem dX1_leaveDownTo_40 : decode cX1_leaveDownTo 40 = .ok (.iconst 1, 1) := by decide +kernel
theorem dX1_leaveDownTo_41 : decode cX1_leaveDownTo 41 = .ok (.isub, 1) := by decide +kernel
theorem dX1_leaveDownTo_42 : decode cX1_leaveDownTo 42 = .ok (.putfield 24, 3) := by decide +kernel
theorem dX1_leaveDownTo_45 : decode cX1_leaveDownTo 45 = .ok (.goto (-45), 3) := by decide +kernel
theorem dX1_leaveDownTo_48 : decode cX1_leaveDownTo 48 = .ok (.return_, 1) := by decide +kernel
set_option maxRecDepth 20000 in
theorem ggX1_leaveByRefuge_X1_leaveDownTo : GoodIn wsX1_leaveByRefuge wsX1_leaveDownTo := goodIn_r _ [7, 1, 2, 8, 9, 10, 11, 12, 13, 14, 15, 16, 17, 18, 19] (by decide +kernel) (by decide +kernel)
set_option maxRecDepth 20000 in
theorem gX1_leaveByRefuge_X1_leaveDownTo : GoodIn wsX1_leaveByRefuge (wsV RX1 34 RX1 yX1_leaveDownTo wsX1_leaveDownTo) := goodIn_app (goodIn_of _ (by decide +kernel)) ggX1_leaveByRefuge_X1_leaveDownTo
theorem dX1_leaveByRefuge_0 : decode cX1_leaveByRefuge 0 = .ok (.aload_n 0, 1) := by decide +kernel
theorem dX1_leaveByRefuge_1 : decode cX1_leaveByRefuge 1 = .ok (.getfield 24, 3) := by decide +kernel
theorem dX1_leaveByRefuge_4 : decode cX1_leaveByRefuge 4 = .ok (.iconst 1, 1) := by decide +kernel
theorem dX1_leaveByRefuge_5 : decode cX1_leaveByRefuge 5 = .ok (.isub, 1) := by decide +kernel
theorem dX1_leaveByRefuge_6 : decode cX1_leaveByRefuge 6 = .ok (.istore_n 1, 1) := by decide +kernel
theorem dX1_leaveByRefuge_7 : decode cX1_leaveByRefuge 7 = .ok (.iload_n 1, 1) := by decide +kernel
theorem dX1_leaveByRefuge_8 : decode cX1_leaveByRefuge 8 = .ok (.ifCond .lt 43, 3) := by decide +kernel
theorem dX1_leaveByRefuge_11 : decode cX1_leaveByRefuge 11 = .ok (.aload_n 0, 1) := by decide +kernel
theorem dX1_leaveByRefuge_12 : decode cX1_leaveByRefuge 12 = .ok (.getfield 11, 3) := by decide +kernel
theorem dX1_leaveByRefuge_15 : decode cX1_leaveByRefuge 15 = .ok (.iload_n 1, 1) := by decide +kernel
theorem dX1_leaveByRefuge_16 : decode cX1_leaveByRefuge 16 = .ok (.aaload, 1) := by decide +kernel
theorem dX1_leaveByRefuge_17 : decode cX1_leaveByRefuge 17 = .ok (.getfield 38, 3) := by decide +kernel
theorem dX1_leaveByRefuge_20 : decode cX1_leaveByRefuge 20 = .ok (.ifCond .eq 25, 3) := by decide +kernel
theorem dX1_leaveByRefuge_23 : decode cX1_leaveByRefuge 23 = .ok (.aload_n 0, 1) := by decide +kernel
theorem dX1_leaveByRefuge_24 : decode cX1_leaveByRefuge 24 = .ok (.getfield 11, 3) := by decide +kernel
theorem dX1_leaveByRefuge_27 : decode cX1_leaveByRefuge 27 = .ok (.iload_n 1, 1) := by decide +kernel
theorem dX1_leaveByRefuge_28 : decode cX1_leaveByRefuge 28 = .ok (.aaload, 1) := by decide +kernel
theorem dX1_leaveByRefuge_29 : decode cX1_leaveByRefuge 29 = .ok (.dup, 1) := by decide +kernel
theorem dX1_leaveByRefuge_30 : decode cX1_leaveByRefuge 30 = .ok (.getfield 42, 3) := by decide +kernel
theorem dX1_leaveByRefuge_33 : decode cX1_leaveByRefuge 33 = .ok (.iconst 1, 1) := by decide +kernel
theorem dX1_leaveByRefuge_34 : decode cX1_leaveByRefuge 34 = .ok (.iadd, 1) := by decide +kernel
theorem dX1_leaveByRefuge_35 : decode cX1_leaveByRefuge 35 = .ok (.putfield 42, 3) := by decide +kernel
theorem dX1_leaveByRefuge_38 : decode cX1_leaveByRefuge 38 = .ok (.aload_n 0, 1) := by decide +kernel
theorem dX1_leaveByRefuge_39 : decode cX1_leaveByRefuge 39 = .ok (.iload_n 1, 1) := by decide +kernel
theorem dX1_leaveByRefuge_40 : decode cX1_leaveByRefuge 40 = .ok (.invokevirtual 34, 3) := by decide +kernel
theorem dX1_leaveByRefuge_43 : decode cX1_leaveByRefuge 43 = .ok (.iconst 1, 1) := by decide +kernel
theorem dX1_leaveByRefuge_44 : decode cX1_leaveByRefuge 44 = .ok (.ireturn, 1) := by decide +kernel
theorem dX1_leaveByRefuge_45 : decode cX1_leaveByRefuge 45 = .ok (.iinc 1 (-1), 3) := by decide +kernel
theorem dX1_leaveByRefuge_48 : decode cX1_leaveByRefuge 48 = .ok (.goto (-41), 3) := by decide +kernel
theorem dX1_leaveByRefuge_51 : decode cX1_leaveByRefuge 51 = .ok (.iconst 0, 1) := by decide +kernel
theorem dX1_leaveByRefuge_52 : decode cX1_leaveByRefuge 52 = .ok (.ireturn, 1) := by decide +kernel
theorem dX1_stepBehindAgain_0 : decode cX1_stepBehindAgain 0 = .ok (.aload_n 0, 1) := by decide +kernel
theorem dX1_stepBehindAgain_1 : decode cX1_stepBehindAgain 1 = .ok (.getfield 24, 3) := by decide +kernel
theorem dX1_stepBehindAgain_4 : decode cX1_stepBehindAgain 4 = .ok (.ifCond .eq 18, 3) := by decide +kernel
theorem dX1_stepBehindAgain_7 : decode cX1_stepBehindAgain 7 = .ok (.aload_n 0, 1) := by decide +kernel
theorem dX1_stepBehindAgain_8 : decode cX1_stepBehindAgain 8 = .ok (.getfield 21, 3) := by decide +kernel
theorem dX1_stepBehindAgain_11 : decode cX1_stepBehindAgain 11 = .ok (.aload_n 0, 1) := by decide +kernel
theorem dX1_stepBehindAgain_12 : decode cX1_stepBehindAgain 12 = .ok (.getfield 24, 3) := by decide +kernel
theorem dX1_stepBehindAgain_15 : decode cX1_stepBehindAgain 15 = .ok (.iconst 1, 1) := by decide +kernel
theorem dX1_stepBehindAgain_16 : decode cX1_stepBehindAgain 16 = .ok (.isub, 1) := by decide +kernel
theorem dX1_stepBehindAgain_17 : decode cX1_stepBehindAgain 17 = .ok (.iaload, 1) := by decide +kernel
theorem dX1_stepBehindAgain_18 : decode cX1_stepBehindAgain 18 = .ok (.iload_n 1, 1) := by decide +kernel
theorem dX1_stepBehindAgain_19 : decode cX1_stepBehindAgain 19 = .ok (.if_icmp .lt 5, 3) := by decide +kernel
theorem dX1_stepBehindAgain_22 : decode cX1_stepBehindAgain 22 = .ok (.iload_n 2, 1) := by decide +kernel
theorem dX1_stepBehindAgain_23 : decode cX1_stepBehindAgain 23 = .ok (.ireturn, 1) := by decide +kernel
theorem dX1_stepBehindAgain_24 : decode cX1_stepBehindAgain 24 = .ok (.aload_n 0, 1) := by decide +kernel
theorem dX1_stepBehindAgain_25 : decode cX1_stepBehindAgain 25 = .ok (.getfield 21, 3) := by decide +kernel
theorem dX1_stepBehindAgain_28 : decode cX1_stepBehindAgain 28 = .ok (.aload_n 0, 1) := by decide +kernel
theorem dX1_stepBehindAgain_29 : decode cX1_stepBehindAgain 29 = .ok (.getfield 24, 3) := by decide +kernel
theorem dX1_stepBehindAgain_32 : decode cX1_stepBehindAgain 32 = .ok (.iconst 1, 1) := by decide +kernel
theorem dX1_stepBehindAgain_33 : decode cX1_stepBehindAgain 33 = .ok (.isub, 1) := by decide +kernel
theorem dX1_stepBehindAgain_34 : decode cX1_stepBehindAgain 34 = .ok (.dup2, 1) := by decide +kernel
theorem dX1_stepBehindAgain_35 : decode cX1_stepBehindAgain 35 = .ok (.iaload, 1) := by decide +kernel
theorem dX1_stepBehindAgain_36 : decode cX1_stepBehindAgain 36 = .ok (.iconst 1, 1) := by decide +kernel
theorem dX1_stepBehindAgain_37 : decode cX1_stepBehindAgain 37 = .ok (.iadd, 1) := by decide +kernel
theorem dX1_stepBehindAgain_38 : decode cX1_stepBehindAgain 38 = .ok (.iastore, 1) := by decide +kernel
theorem dX1_stepBehindAgain_39 : decode cX1_stepBehindAgain 39 = .ok (.aload_n 0, 1) := by decide +kernel
theorem dX1_stepBehindAgain_40 : decode cX1_stepBehindAgain 40 = .ok (.getfield 17, 3) := by decide +kernel
theorem dX1_stepBehindAgain_43 : decode cX1_stepBehindAgain 43 = .ok (.aload_n 0, 1) := by decide +kernel
theorem dX1_stepBehindAgain_44 : decode cX1_stepBehindAgain 44 = .ok (.getfield 24, 3) := by decide +kernel
theorem dX1_stepBehindAgain_47 : decode cX1_stepBehindAgain 47 = .ok (.iconst 1, 1) := by decide +kernel
theorem dX1_stepBehindAgain_48 : decode cX1_stepBehindAgain 48 = .ok (.isub, 1) := by decide +kernel
theorem dX1_stepBehindAgain_49 : decode cX1_stepBehindAgain 49 = .ok (.iaload, 1) := by decide +kernel
theorem dX1_stepBehindAgain_50 : decode cX1_stepBehindAgain 50 = .ok (.iconst 1, 1) := by decide +kernel
theorem dX1_stepBehindAgain_51 : decode cX1_stepBehindAgain 51 = .ok (.iadd, 1) := by decide +kernel
theorem dX1_stepBehindAgain_52 : decode cX1_stepBehindAgain 52 = .ok (.ireturn, 1) := by decide +kernel
set_option maxRecDepth 20000 in
theorem ggX2_init_X1_init : GoodIn wsX2_init wsX1_init := goodIn_r _ [26, 27, 2, 3, 28, 29, 10, 30, 31, 32, 50, 51, 52, 53] (by decide +kernel) (by decide +kernel)
set_option maxRecDepth 20000 in
theorem gX2_init_X1_init_n17 : GoodIn wsX2_init (wsX1_init) := ggX2_init_X1_init
set_option maxRecDepth 20000 in
theorem ggX2_init_X0_init : GoodIn wsX2_init wsX0_init := goodIn_r _ [34, 35, 2, 3] (by decide +kernel) (by decide +kernel)
set_option maxRecDepth 20000 in
theorem gX2_init_X0_init_n60 : GoodIn wsX2_init (wsX0_init) := ggX2_init_X0_init
theorem dX2_init_0 : decode cX2_init 0 = .ok (.aload_n 0, 1) := by decide +kernel
theorem dX2_init_1 : decode cX2_init 1 = .ok (.invokespecial 1, 3) := by decide +kernel
theorem dX2_init_4 : decode cX2_init 4 = .ok (.aload_n 0, 1) := by decide +kernel
theorem dX2_init_5 : decode cX2_init 5 = .ok (.bipush 8, 2) := by decide +kernel
theorem dX2_init_7 : decode cX2_init 7 = .ok (.anewarray 9, 3) := by decide +kernel
theorem dX2_init_10 : decode cX2_init 10 = .ok (.putfield 11, 3) := by decide +kernel
theorem dX2_init_13 : decode cX2_init 13 = .ok (.aload_n 0, 1) := by decide +kernel
theorem dX2_init_14 : decode cX2_init 14 = .ok (.new 15, 3) := by decide +kernel
theorem dX2_init_17 : decode cX2_init 17 = .ok (.dup, 1) := by decide +kernel
theorem dX2_init_18 : decode cX2_init 18 = .ok (.invokespecial 17, 3) := by decide +kernel
theorem dX2_init_21 : decode cX2_init 21 = .ok (.putfield 18, 3) := by decide +kernel
theorem dX2_init_24 : decode cX2_init 24 = .ok (.aload_n 0, 1) := by decide +kernel
theorem dX2_init_25 : decode cX2_init 25 = .ok (.bipush 8, 2) := by decide +kernel
theorem dX2_init_27 : decode cX2_init 27 = .ok (.newarray .int, 2) := by decide +kernel
theorem dX2_init_29 : decode cX2_init 29 = .ok (.putfield 22, 3) := by decide +kernel
theorem dX2_init_32 : decode cX2_init 32 = .ok (.aload_n 0, 1) := by decide +kernel
theorem dX2_init_33 : decode cX2_init 33 = .ok (.bipush 30, 2) := by decide +kernel
theorem dX2_init_35 : decode cX2_init 35 = .ok (.newarray .int, 2) := by decide +kernel
theorem dX2_init_37 : decode cX2_init 37 = .ok (.putfield 26, 3) := by decide +kernel
theorem dX2_init_40 : decode cX2_init 40 = .ok (.aload_n 0, 1) := by decide +kernel
theorem dX2_init_41 : decode cX2_init 41 = .ok (.bipush 30, 2) := by decide +kernel
theorem dX2_init_43 : decode cX2_init 43 = .ok (.newarray .int, 2) := by decide +kernel
theorem dX2_init_45 : decode cX2_init 45 = .ok (.putfield 29, 3) := by decide +kernel
theorem dX2_init_48 : decode cX2_init 48 = .ok (.aload_n 0, 1) := by decide +kernel
theorem dX2_init_49 : decode cX2_init 49 = .ok (.iconst 0, 1) := by decide +kernel
theorem dX2_init_50 : decode cX2_init 50 = .ok (.putfield 32, 3) := by decide +kernel
theorem dX2_init_53 : decode cX2_init 53 = .ok (.aload_n 0, 1) := by decide +kernel
theorem dX2_init_54 : decode cX2_init 54 = .ok (.iconst 0, 1) := by decide +kernel
theorem dX2_init_55 : decode cX2_init 55 = .ok (.putfield 36, 3) := by decide +kernel
theorem dX2_init_58 : decode cX2_init 58 = .ok (.aload_n 0, 1) := by decide +kernel
theorem dX2_init_59 : decode cX2_init 59 = .ok (.iconst 0, 1) := by decide +kernel
theorem dX2_init_60 : decode cX2_init 60 = .ok (.putfield 39, 3) := by decide +kernel
theorem dX2_init_63 : decode cX2_init 63 = .ok (.aload_n 0, 1) := by decide +kernel
theorem dX2_init_64 : decode cX2_init 64 = .ok (.iconst (-1), 1) := by decide +kernel
theorem dX2_init_65 : decode cX2_init 65 = .ok (.putfield 42, 3) := by decide +kernel
theorem dX2_init_68 : decode cX2_init 68 = .ok (.aload_n 0, 1) := by decide +kernel
theorem dX2_init_69 : decode cX2_init 69 = .ok (.bipush 7, 2) := by decide +kernel
theorem dX2_init_71 : decode cX2_init 71 = .ok (.newarray .int, 2) := by decide +kernel
theorem dX2_init_73 : decode cX2_init 73 = .ok (.putfield 45, 3) := by decide +kernel
theorem dX2_init_76 : decode cX2_init 76 = .ok (.aload_n 0, 1) := by decide +kernel
theorem dX2_init_77 : decode cX2_init 77 = .ok (.iconst 0, 1) := by decide +kernel
theorem dX2_init_78 : decode cX2_init 78 = .ok (.putfield 48, 3) := by decide +kernel
theorem dX2_init_81 : decode cX2_init 81 = .ok (.aload_n 0, 1) := by decide +kernel
theorem dX2_init_82 : decode cX2_init 82 = .ok (.iconst 0, 1) := by decide +kernel
theorem dX2_init_83 : decode cX2_init 83 = .ok (.putfield 51, 3) := by decide +kernel
theorem dX2_init_86 : decode cX2_init 86 = .ok (.aload_n 0, 1) := by decide +kernel
theorem dX2_init_87 : decode cX2_init 87 = .ok (.iconst 0, 1) := by decide +kernel
theorem dX2_init_88 : decode cX2_init 88 = .ok (.putfield 54, 3) := by decide +kernel
theorem dX2_init_91 : decode cX2_init 91 = .ok (.aload_n 0, 1) := by decide +kernel
theorem dX2_init_92 : decode cX2_init 92 = .ok (.iconst 0, 1) := by decide +kernel
theorem dX2_init_93 : decode cX2_init 93 = .ok (.putfield 57, 3) := by decide +kernel
theorem dX2_init_96 : decode cX2_init 96 = .ok (.iconst 0, 1) := by decide +kernel
theorem dX2_init_97 : decode cX2_init 97 = .ok (.istore_n 1, 1) := by decide +kernel
theorem dX2_init_98 : decode cX2_init 98 = .ok (.iload_n 1, 1) := by decide +kernel
theorem dX2_init_99 : decode cX2_init 99 = .ok (.bipush 8, 2) := by decide +kernel
theorem dX2_init_101 : decode cX2_init 101 = .ok (.if_icmp .ge 22, 3) := by decide +kernel
theorem dX2_init_104 : decode cX2_init 104 = .ok (.aload_n 0, 1) := by decide +kernel
theorem dX2_init_105 : decode cX2_init 105 = .ok (.getfield 11, 3) := by decide +kernel
theorem dX2_init_108 : decode cX2_init 108 = .ok (.iload_n 1, 1) := by decide +kernel
theorem dX2_init_109 : decode cX2_init 109 = .ok (.new 9, 3) := by decide +kernel
theorem dX2_init_112 : decode cX2_init 112 = .ok (.dup, 1) := by decide +kernel
theorem dX2_init_113 : decode cX2_init 113 = .ok (.invokespecial 60, 3) := by decide +kernel
theorem dX2_init_116 : decode cX2_init 116 = .ok (.aastore, 1) := by decide +kernel
theorem dX2_init_117 : decode cX2_init 117 = .ok (.iinc 1 1, 3) := by decide +kernel
theorem dX2_init_120 : decode cX2_init 120 = .ok (.goto (-22), 3) := by decide +kernel
theorem dX2_init_123 : decode cX2_init 123 = .ok (.return_, 1) := by decide +kernel
set_option maxRecDepth 20000 in
theorem ggX2_build_X2_isPlace : GoodIn wsX2_build wsX2_isPlace := goodIn_r _ [5] (by decide +kernel) (by decide +kernel)
set_option maxRecDepth 20000 in
theorem gX2_build_X2_isPlace : GoodIn wsX2_build (va_wsS RX2 61 yX2_isPlace wsX2_isPlace) := goodIn_app (goodIn_of _ (by decide +kernel)) ggX2_build_X2_isPlace
set_option maxRecDepth 20000 in
theorem ggX2_build_X0_setUp : GoodIn wsX2_build wsX0_setUp := goodIn_r _ [10, 11, 12, 13, 14, 15, 16, 17, 18, 33, 34, 35, 36, 37, 38, 39, 40] (by decide +kernel) (by decide +kernel)
set_option maxRecDepth 20000 in
theorem gX2_build_X0_setUp : GoodIn wsX2_build (wsV RX2 69 RX0 yX0_setUp wsX0_setUp) := goodIn_app (goodIn_of _ (by decide +kernel)) ggX2_build_X0_setUp
theorem dX2_build_0 : decode cX2_build 0 = .ok (.iload_n 1, 1) := by decide +kernel
theorem dX2_build_1 : decode cX2_build 1 = .ok (.invokestatic 61, 3) := by decide +kernel
theorem dX2_build_4 : decode cX2_build 4 = .ok (.ifCond .eq 14, 3) := by decide +kernel
theorem dX2_build_7 : decode cX2_build 7 = .ok (.iload_n 2, 1) := by decide +kernel
theorem dX2_build_8 : decode cX2_build 8 = .ok (.iconst 1, 1) := by decide +kernel
theorem dX2_build_9 : decode cX2_build 9 = .ok (.if_icmp .lt 9, 3) := by decide +kernel
theorem dX2_build_12 : decode cX2_build 12 = .ok (.iload_n 2, 1) := by decide +kernel
theorem dX2_build_13 : decode cX2_build 13 = .ok (.bipush 100, 2) := by decide +kernel
theorem dX2_build_15 : decode cX2_build 15 = .ok (.if_icmp .le 5, 3) := by decide +kernel
theorem dX2_build_18 : decode cX2_build 18 = .ok (.iconst (-1), 1) := by decide +kernel
theorem dX2_build_19 : decode cX2_build 19 = .ok (.ireturn, 1) := by decide +kernel
theorem dX2_build_20 : decode cX2_build 20 = .ok (.aload_n 0, 1) := by decide +kernel
theorem dX2_build_21 : decode cX2_build 21 = .ok (.getfield 11, 3) := by decide +kernel
theorem dX2_build_24 : decode cX2_build 24 = .ok (.iload_n 1, 1) := by decide +kernel
theorem dX2_build_25 : decode cX2_build 25 = .ok (.aaload, 1) := by decide +kernel
theorem dX2_build_26 : decode cX2_build 26 = .ok (.getfield 65, 3) := by decide +kernel
theorem dX2_build_29 : decode cX2_build 29 = .ok (.ifCond .eq 7, 3) := by decide +kernel
theorem dX2_build_32 : decode cX2_build 32 = .ok (.iconst 1, 1) := by decide +kernel
theorem dX2_build_33 : decode cX2_build 33 = .ok (.goto 4, 3) := by decide +kernel
theorem dX2_build_36 : decode cX2_build 36 = .ok (.iconst 0, 1) := by decide +kernel
theorem dX2_build_37 : decode cX2_build 37 = .ok (.istore 4, 2) := by decide +kernel
theorem dX2_build_39 : decode cX2_build 39 = .ok (.aload_n 0, 1) := by decide +kernel
theorem dX2_build_40 : decode cX2_build 40 = .ok (.getfield 11, 3) := by decide +kernel
theorem dX2_build_43 : decode cX2_build 43 = .ok (.iload_n 1, 1) := by decide +kernel
theorem dX2_build_44 : decode cX2_build 44 = .ok (.aaload, 1) := by decide +kernel
theorem dX2_build_45 : decode cX2_build 45 = .ok (.iload_n 2, 1) := by decide +kernel
theorem dX2_build_46 : decode cX2_build 46 = .ok (.iload_n 3, 1) := by decide +kernel
theorem dX2_build_47 : decode cX2_build 47 = .ok (.invokevirtual 69, 3) := by decide +kernel
theorem dX2_build_50 : decode cX2_build 50 = .ok (.iload 4, 2) := by decide +kernel
theorem dX2_build_52 : decode cX2_build 52 = .ok (.ireturn, 1) := by decide +kernel
set_option maxRecDepth 20000 in
theorem ggX2_raze_X2_isPlace : GoodIn wsX2_raze wsX2_isPlace := goodIn_r _ [5] (by decide +kernel) (by decide +kernel)
set_option maxRecDepth 20000 in
theorem gX2_raze_X2_isPlace : GoodIn wsX2_raze (va_wsS RX2 61 yX2_isPlace wsX2_isPlace) := goodIn_app (goodIn_of _ (by decide +kernel)) ggX2_raze_X2_isPlace
theorem dX2_raze_0 : decode cX2_raze 0 = .ok (.iload_n 1, 1) := by decide +kernel
theorem dX2_raze_1 : decode cX2_raze 1 = .ok (.invokestatic 61, 3) := by decide +kernel
theorem dX2_raze_4 : decode cX2_raze 4 = .ok (.ifCond .ne 5, 3) := by decide +kernel
theorem dX2_raze_7 : decode cX2_raze 7 = .ok (.iconst (-1), 1) := by decide +kernel
theorem dX2_raze_8 : decode cX2_raze 8 = .ok (.ireturn, 1) := by decide +kernel
theorem dX2_raze_9 : decode cX2_raze 9 = .ok (.aload_n 0, 1) := by decide +kernel
theorem dX2_raze_10 : decode cX2_raze 10 = .ok (.getfield 11, 3) := by decide +kernel
theorem dX2_raze_13 : decode cX2_raze 13 = .ok (.iload_n 1, 1) := by decide +kernel
theorem dX2_raze_14 : decode cX2_raze 14 = .ok (.aaload, 1) := by decide +kernel
theorem dX2_raze_15 : decode cX2_raze 15 = .ok (.getfield 65, 3) := by decide +kernel
theorem dX2_raze_18 : decode cX2_raze 18 = .ok (.ifCond .eq 7, 3) := by decide +kernel
theorem dX2_raze_21 : decode cX2_raze 21 = .ok (.iconst 1, 1) := by decide +kernel
theorem dX2_raze_22 : decode cX2_raze 22 = .ok (.goto 4, 3) := by decide +kernel
theorem dX2_raze_25 : decode cX2_raze 25 = .ok (.iconst 0, 1) := by decide +kernel
theorem dX2_raze_26 : decode cX2_raze 26 = .ok (.istore_n 2, 1) := by decide +kernel
theorem dX2_raze_27 : decode cX2_raze 27 = .ok (.aload_n 0, 1) := by decide +kernel
theorem dX2_raze_28 : decode cX2_raze 28 = .ok (.getfield 11, 3) := by decide +kernel
theorem dX2_raze_31 : decode cX2_raze 31 = .ok (.iload_n 1, 1) := by decide +kernel
theorem dX2_raze_32 : decode cX2_raze 32 = .ok (.aaload, 1) := by decide +kernel
theorem dX2_raze_33 : decode cX2_raze 33 = .ok (.iconst 0, 1) := by decide +kernel
theorem dX2_raze_34 : decode cX2_raze 34 = .ok (.putfield 65, 3) := by decide +kernel
theorem dX2_raze_37 : decode cX2_raze 37 = .ok (.iload_n 2, 1) := by decide +kernel
theorem dX2_raze_38 : decode cX2_raze 38 = .ok (.ireturn, 1) := by decide +kernel
set_option maxRecDepth 20000 in
theorem ggX2_step_X2_isAct : GoodIn wsX2_step wsX2_isAct := goodIn_r _ [7] (by decide +kernel) (by decide +kernel)
set_option maxRecDepth 20000 in
theorem gX2_step_X2_isAct : GoodIn wsX2_step (va_wsS RX2 73 yX2_isAct wsX2_isAct) := goodIn_app (goodIn_of _ (by decide +kernel)) ggX2_step_X2_isAct
theorem dX2_step_0 : decode cX2_step 0 = .ok (.iload_n 1, 1) := by decide +kernel
theorem dX2_step_1 : decode cX2_step 1 = .ok (.invokestatic 73, 3) := by decide +kernel
theorem dX2_step_4 : decode cX2_step 4 = .ok (.ifCond .ne 5, 3) := by decide +kernel
theorem dX2_step_7 : decode cX2_step 7 = .ok (.iconst (-1), 1) := by decide +kernel
theorem dX2_step_8 : decode cX2_step 8 = .ok (.ireturn, 1) := by decide +kernel
theorem dX2_step_9 : decode cX2_step 9 = .ok (.aload_n 0, 1) := by decide +kernel
theorem dX2_step_10 : decode cX2_step 10 = .ok (.getfield 32, 3) := by decide +kernel
theorem dX2_step_13 : decode cX2_step 13 = .ok (.bipush 30, 2) := by decide +kernel
theorem dX2_step_15 : decode cX2_step 15 = .ok (.if_icmp .lt 6, 3) := by decide +kernel
theorem dX2_step_18 : decode cX2_step 18 = .ok (.bipush (-2), 2) := by decide +kernel
theorem dX2_step_20 : decode cX2_step 20 = .ok (.ireturn, 1) := by decide +kernel
theorem dX2_step_21 : decode cX2_step 21 = .ok (.aload_n 0, 1) := by decide +kernel
theorem dX2_step_22 : decode cX2_step 22 = .ok (.getfield 26, 3) := by decide +kernel
theorem dX2_step_25 : decode cX2_step 25 = .ok (.aload_n 0, 1) := by decide +kernel
theorem dX2_step_26 : decode cX2_step 26 = .ok (.getfield 32, 3) := by decide +kernel
theorem dX2_step_29 : decode cX2_step 29 = .ok (.iload_n 1, 1) := by decide +kernel
theorem dX2_step_30 : decode cX2_step 30 = .ok (.iastore, 1) := by decide +kernel
theorem dX2_step_31 : decode cX2_step 31 = .ok (.aload_n 0, 1) := by decide +kernel
theorem dX2_step_32 : decode cX2_step 32 = .ok (.getfield 29, 3) := by decide +kernel
theorem dX2_step_35 : decode cX2_step 35 = .ok (.aload_n 0, 1) := by decide +kernel
theorem dX2_step_36 : decode cX2_step 36 = .ok (.getfield 32, 3) := by decide +kernel
theorem dX2_step_39 : decode cX2_step 39 = .ok (.iload_n 2, 1) := by decide +kernel
theorem dX2_step_40 : decode cX2_step 40 = .ok (.iastore, 1) := by decide +kernel
theorem dX2_step_41 : decode cX2_step 41 = .ok (.aload_n 0, 1) := by decide +kernel
theorem dX2_step_42 : decode cX2_step 42 = .ok (.dup, 1) := by decide +kernel
theorem dX2_step_43 : decode cX2_step 43 = .ok (.getfield 32, 3) := by decide +kernel
theorem dX2_step_46 : decode cX2_step 46 = .ok (.iconst 1, 1) := by decide +kernel
theorem dX2_step_47 : decode cX2_step 47 = .ok (.iadd, 1) := by decide +kernel
theorem dX2_step_48 : decode cX2_step 48 = .ok (.putfield 32, 3) := by decide +kernel
theorem dX2_step_51 : decode cX2_step 51 = .ok (.aload_n 0, 1) := by decide +kernel
theorem dX2_step_52 : decode cX2_step 52 = .ok (.getfield 32, 3) := by decide +kernel
theorem dX2_step_55 : decode cX2_step 55 = .ok (.ireturn, 1) := by decide +kernel
theorem dX2_clear_0 : decode cX2_clear 0 = .ok (.aload_n 0, 1) := by decide +kernel
theorem dX2_clear_1 : decode cX2_clear 1 = .ok (.getfield 32, 3) := by decide +kernel
theorem dX2_clear_4 : decode cX2_clear 4 = .ok (.istore_n 1, 1) := by decide +kernel
theorem dX2_clear_5 : decode cX2_clear 5 = .ok (.aload_n 0, 1) := by decide +kernel
theorem dX2_clear_6 : decode cX2_clear 6 = .ok (.iconst 0, 1) := by decide +kernel
theorem dX2_clear_7 : decode cX2_clear 7 = .ok (.putfield 32, 3) := by decide +kernel
theorem dX2_clear_10 : decode cX2_clear 10 = .ok (.iload_n 1, 1) := by decide +kernel
theorem dX2_clear_11 : decode cX2_clear 11 = .ok (.ireturn, 1) := by decide +kernel
set_option maxRecDepth 20000 in
theorem ggX2_alter_X2_isAct : GoodIn wsX2_alter wsX2_isAct := goodIn_r _ [7] (by decide +kernel) (by decide +kernel)
set_option maxRecDepth 20000 in
theorem gX2_alter_X2_isAct : GoodIn wsX2_alter (va_wsS RX2 73 yX2_isAct wsX2_isAct) := goodIn_app (goodIn_of _ (by decide +kernel)) ggX2_alter_X2_isAct
theorem dX2_alter_0 : decode cX2_alter 0 = .ok (.iload_n 1, 1) := by decide +kernel
theorem dX2_alter_1 : decode cX2_alter 1 = .ok (.ifCond .lt 18, 3) := by decide +kernel
theorem dX2_alter_4 : decode cX2_alter 4 = .ok (.iload_n 1, 1) := by decide +kernel
theorem dX2_alter_5 : decode cX2_alter 5 = .ok (.aload_n 0, 1) := by decide +kernel
theorem dX2_alter_6 : decode cX2_alter 6 = .ok (.getfield 32, 3) := by decide +kernel
theorem dX2_alter_9 : decode cX2_alter 9 = .ok (.if_icmp .ge 10, 3) := by decide +kernel
theorem dX2_alter_12 : decode cX2_alter 12 = .ok (.iload_n 2, 1) := by decide +kernel
theorem dX2_alter_13 : decode cX2_alter 13 = .ok (.invokestatic 73, 3) := by decide +kernel
theorem dX2_alter_16 : decode cX2_alter 16 = .ok (.ifCond .ne 5, 3) := by decide +kernel
theorem dX2_alter_19 : decode cX2_alter 19 = .ok (.iconst (-1), 1) := by decide +kernel
theorem dX2_alter_20 : decode cX2_alter 20 = .ok (.ireturn, 1) := by decide +kernel
theorem dX2_alter_21 : decode cX2_alter 21 = .ok (.aload_n 0, 1) := by decide +kernel
theorem dX2_alter_22 : decode cX2_alter 22 = .ok (.getfield 26, 3) := by decide +kernel
theorem dX2_alter_25 : decode cX2_alter 25 = .ok (.iload_n 1, 1) := by decide +kernel
theorem dX2_alter_26 : decode cX2_alter 26 = .ok (.iaload, 1) := by decide +kernel
theorem dX2_alter_27 : decode cX2_alter 27 = .ok (.istore 4, 2) := by decide +kernel
theorem dX2_alter_29 : decode cX2_alter 29 = .ok (.aload_n 0, 1) := by decide +kernel
theorem dX2_alter_30 : decode cX2_alter 30 = .ok (.getfield 26, 3) := by decide +kernel
theorem dX2_alter_33 : decode cX2_alter 33 = .ok (.iload_n 1, 1) := by decide +kernel
theorem dX2_alter_34 : decode cX2_alter 34 = .ok (.iload_n 2, 1) := by decide +kernel
theorem dX2_alter_35 : decode cX2_alter 35 = .ok (.iastore, 1) := by decide +kernel
theorem dX2_alter_36 : decode cX2_alter 36 = .ok (.aload_n 0, 1) := by decide +kernel
theorem dX2_alter_37 : decode cX2_alter 37 = .ok (.getfield 29, 3) := by decide +kernel
theorem dX2_alter_40 : decode cX2_alter 40 = .ok (.iload_n 1, 1) := by decide +kernel
theorem dX2_alter_41 : decode cX2_alter 41 = .ok (.iload_n 3, 1) := by decide +kernel
theorem dX2_alter_42 : decode cX2_alter 42 = .ok (.iastore, 1) := by decide +kernel
theorem dX2_alter_43 : decode cX2_alter 43 = .ok (.iload 4, 2) := by decide +kernel
theorem dX2_alter_45 : decode cX2_alter 45 = .ok (.ireturn, 1) := by decide +kernel
set_option maxRecDepth 20000 in
theorem ggX2_run_X2_followOrder : GoodIn wsX2_run wsX2_followOrder := goodIn_ca (goodIn_r _ [11, 2, 3, 12, 13, 14, 15, 16, 17, 10, 18, 19, 4, 20, 21, 22, 23, 24, 25, 26, 27, 28, 29, 30, 31, 32, 33, 34, 35, 36, 37, 38, 39, 40, 41, 42, 43, 44, 45, 46, 47, 48, 49, 50, 51, 52, 53, 54, 55, 56, 57, 58, 59, 60, 61, 62, 63, 64, 65, 66, 67, 68, 69, 70, 71, 72, 73, 74, 75, 76, 77, 78, 79, 80, 81, 82, 83, 84, 85, 86, 87, 88, 89, 90, 91, 92, 93, 94, 95, 96, 97, 98, 99, 101, 102, 103, 104, 105, 106, 107, 108, 109, 110, 111, 112, 113, 114, 115, 116, 117, 118, 119, 120, 121, 122, 123, 124, 125, 126] (by decide +kernel) (by decide +kernel)) (goodIn_sub (fun _ h => List.mem_cons_of_mem _ (List.mem_append_right _ h)) (by decide +kernel))
set_option maxRecDepth 20000 in
theorem gX2_run_X2_followOrder : GoodIn wsX2_run (wsV RX2 76 RX2 yX2_followOrder wsX2_followOrder) := goodIn_app (goodIn_of _ (by decide +kernel)) ggX2_run_X2_followOrder
set_option maxRecDepth 20000 in
theorem ggX2_run_X1_leaveDownTo : GoodIn wsX2_run wsX1_leaveDownTo := goodIn_r _ [49, 34, 39, 123, 124, 125, 126, 115, 116, 117, 118, 119, 120, 121, 122] (by decide +kernel) (by decide +kernel)
set_option maxRecDepth 20000 in
theorem gX2_run_X1_leaveDownTo : GoodIn wsX2_run (wsV RX2 80 RX1 yX1_leaveDownTo wsX1_leaveDownTo) := goodIn_app (goodIn_of _ (by decide +kernel)) ggX2_run_X1_leaveDownTo
theorem dX2_run_0 : decode cX2_run 0 = .ok (.aload_n 0, 1) := by decide +kernel
theorem dX2_run_1 : decode cX2_run 1 = .ok (.dup, 1) := by decide +kernel
theorem dX2_run_2 : decode cX2_run 2 = .ok (.getfield 48, 3) := by decide +kernel
theorem dX2_run_5 : decode cX2_run 5 = .ok (.iconst 1, 1) := by decide +kernel
theorem dX2_run_6 : decode cX2_run 6 = .ok (.iadd, 1) := by decide +kernel
theorem dX2_run_7 : decode cX2_run 7 = .ok (.putfield 48, 3) := by decide +kernel
theorem dX2_run_10 : decode cX2_run 10 = .ok (.aload_n 0, 1) := by decide +kernel
theorem dX2_run_11 : decode cX2_run 11 = .ok (.iconst 0, 1) := by decide +kernel
theorem dX2_run_12 : decode cX2_run 12 = .ok (.putfield 39, 3) := by decide +kernel
theorem dX2_run_15 : decode cX2_run 15 = .ok (.aload_n 0, 1) := by decide +kernel
theorem dX2_run_16 : decode cX2_run 16 = .ok (.iconst 0, 1) := by decide +kernel
theorem dX2_run_17 : decode cX2_run 17 = .ok (.putfield 36, 3) := by decide +kernel
theorem dX2_run_20 : decode cX2_run 20 = .ok (.aload_n 0, 1) := by decide +kernel
theorem dX2_run_21 : decode cX2_run 21 = .ok (.invokevirtual 76, 3) := by decide +kernel
theorem dX2_run_24 : decode cX2_run 24 = .ok (.istore_n 1, 1) := by decide +kernel
theorem dX2_run_25 : decode cX2_run 25 = .ok (.aload_n 0, 1) := by decide +kernel
theorem dX2_run_26 : decode cX2_run 26 = .ok (.getfield 18, 3) := by decide +kernel
theorem dX2_run_29 : decode cX2_run 29 = .ok (.iconst 0, 1) := by decide +kernel
theorem dX2_run_30 : decode cX2_run 30 = .ok (.invokevirtual 80, 3) := by decide +kernel
theorem dX2_run_33 : decode cX2_run 33 = .ok (.iload_n 1, 1) := by decide +kernel
theorem dX2_run_34 : decode cX2_run 34 = .ok (.bipush (-3), 2) := by decide +kernel
theorem dX2_run_36 : decode cX2_run 36 = .ok (.if_icmp .ne 16, 3) := by decide +kernel
theorem dX2_run_39 : decode cX2_run 39 = .ok (.aload_n 0, 1) := by decide +kernel
theorem dX2_run_40 : decode cX2_run 40 = .ok (.dup, 1) := by decide +kernel
theorem dX2_run_41 : decode cX2_run 41 = .ok (.getfield 54, 3) := by decide +kernel
theorem dX2_run_44 : decode cX2_run 44 = .ok (.iconst 1, 1) := by decide +kernel
theorem dX2_run_45 : decode cX2_run 45 = .ok (.iadd, 1) := by decide +kernel
theorem dX2_run_46 : decode cX2_run 46 = .ok (.putfield 54, 3) := by decide +kernel
theorem dX2_run_49 : decode cX2_run 49 = .ok (.bipush (-3), 2) := by decide +kernel
theorem dX2_run_51 : decode cX2_run 51 = .ok (.ireturn, 1) := by decide +kernel
theorem dX2_run_52 : decode cX2_run 52 = .ok (.iload_n 1, 1) := by decide +kernel
theorem dX2_run_53 : decode cX2_run 53 = .ok (.ifCond .eq 18, 3) := by decide +kernel
theorem dX2_run_56 : decode cX2_run 56 = .ok (.aload_n 0, 1) := by decide +kernel
theorem dX2_run_57 : decode cX2_run 57 = .ok (.dup, 1) := by decide +kernel
theorem dX2_run_58 : decode cX2_run 58 = .ok (.getfield 51, 3) := by decide +kernel
theorem dX2_run_61 : decode cX2_run 61 = .ok (.iconst 1, 1) := by decide +kernel
theorem dX2_run_62 : decode cX2_run 62 = .ok (.iadd, 1) := by decide +kernel
theorem dX2_run_63 : decode cX2_run 63 = .ok (.putfield 51, 3) := by decide +kernel
theorem dX2_run_66 : decode cX2_run 66 = .ok (.bipush (-10), 2) := by decide +kernel
theorem dX2_run_68 : decode cX2_run 68 = .ok (.iload_n 1, 1) := by decide +kernel
theorem dX2_run_69 : decode cX2_run 69 = .ok (.isub, 1) := by decide +kernel
theorem dX2_run_70 : decode cX2_run 70 = .ok (.ireturn, 1) := by decide +kernel
theorem dX2_run_71 : decode cX2_run 71 = .ok (.aload_n 0, 1) := by decide +kernel
theorem dX2_run_72 : decode cX2_run 72 = .ok (.getfield 39, 3) := by decide +kernel
theorem dX2_run_75 : decode cX2_run 75 = .ok (.ireturn, 1) := by decide +kernel
theorem dX2_begun_0 : decode cX2_begun 0 = .ok (.aload_n 0, 1) := by decide +kernel
theorem dX2_begun_1 : decode cX2_begun 1 = .ok (.getfield 39, 3) := by decide +kernel
theorem dX2_begun_4 : decode cX2_begun 4 = .ok (.ireturn, 1) := by decide +kernel
theorem dX2_where_0 : decode cX2_where 0 = .ok (.aload_n 0, 1) := by decide +kernel
theorem dX2_where_1 : decode cX2_where 1 = .ok (.getfield 42, 3) := by decide +kernel
theorem dX2_where_4 : decode cX2_where 4 = .ok (.ireturn, 1) := by decide +kernel
set_option maxRecDepth 20000 in
theorem ggX2_house_X2_isPlace : GoodIn wsX2_house wsX2_isPlace := goodIn_r _ [5] (by decide +kernel) (by decide +kernel)
set_option maxRecDepth 20000 in
theorem gX2_house_X2_isPlace : GoodIn wsX2_house (va_wsS RX2 61 yX2_isPlace wsX2_isPlace) := goodIn_app (goodIn_of _ (by decide +kernel)) ggX2_house_X2_isPlace
set_option maxRecDepth 20000 in
theorem ggX2_house_X0_tell : GoodIn wsX2_house wsX0_tell := goodIn_r _ [10, 11, 12, 13, 14, 15, 16, 17, 32, 33, 34, 35, 36, 37, 38, 39] (by decide +kernel) (by decide +kernel)
set_option maxRecDepth 20000 in
theorem gX2_house_X0_tell : GoodIn wsX2_house (wsV RX2 84 RX0 yX0_tell wsX0_tell) := goodIn_app (goodIn_of _ (by decide +kernel)) ggX2_house_X0_tell
theorem dX2_house_0 : decode cX2_house 0 = .ok (.iload_n 1, 1) := by decide +kernel
theorem dX2_house_1 : decode cX2_house 1 = .ok (.invokestatic 61, 3) := by decide +kernel
theorem dX2_house_4 : decode cX2_house 4 = .ok (.ifCond .eq 15, 3) := by decide +kernel
theorem dX2_house_7 : decode cX2_house 7 = .ok (.aload_n 0, 1) := by decide +kernel
theorem dX2_house_8 : decode cX2_house 8 = .ok (.getfield 11, 3) := by decide +kernel
theorem dX2_house_11 : decode cX2_house 11 = .ok (.iload_n 1, 1) := by decide +kernel
theorem dX2_house_12 : decode cX2_house 12 = .ok (.aaload, 1) := by decide +kernel
theorem dX2_house_13 : decode cX2_house 13 = .ok (.getfield 65, 3) := by decide +kernel
theorem dX2_house_16 : decode cX2_house 16 = .ok (.ifCond .ne 5, 3) := by decide +kernel
theorem dX2_house_19 : decode cX2_house 19 = .ok (.iconst (-1), 1) := by decide +kernel
theorem dX2_house_20 : decode cX2_house 20 = .ok (.ireturn, 1) := by decide +kernel
theorem dX2_house_21 : decode cX2_house 21 = .ok (.aload_n 0, 1) := by decide +kernel
theorem dX2_house_22 : decode cX2_house 22 = .ok (.getfield 11, 3) := by decide +kernel
theorem dX2_house_25 : decode cX2_house 25 = .ok (.iload_n 1, 1) := by decide +kernel
theorem dX2_house_26 : decode cX2_house 26 = .ok (.aaload, 1) := by decide +kernel
theorem dX2_house_27 : decode cX2_house 27 = .ok (.iload_n 2, 1) := by decide +kernel
theorem dX2_house_28 : decode cX2_house 28 = .ok (.invokevirtual 84, 3) := by decide +kernel
theorem dX2_house_31 : decode cX2_house 31 = .ok (.ireturn, 1) := by decide +kernel
set_option maxRecDepth 20000 in
theorem ggX2_row_X2_isRow : GoodIn wsX2_row wsX2_isRow := goodIn_r _ [8] (by decide +kernel) (by decide +kernel)
set_option maxRecDepth 20000 in
theorem gX2_row_X2_isRow : GoodIn wsX2_row (va_wsS RX2 88 yX2_isRow wsX2_isRow) := goodIn_app (goodIn_of _ (by decide +kernel)) ggX2_row_X2_isRow
theorem dX2_row_0 : decode cX2_row 0 = .ok (.iload_n 1, 1) := by decide +kernel
theorem dX2_row_1 : decode cX2_row 1 = .ok (.invokestatic 88, 3) := by decide +kernel
theorem dX2_row_4 : decode cX2_row 4 = .ok (.ifCond .ne 13, 3) := by decide +kernel
theorem dX2_row_7 : decode cX2_row 7 = .ok (.new 91, 3) := by decide +kernel
theorem dX2_row_10 : decode cX2_row 10 = .ok (.dup, 1) := by decide +kernel
theorem dX2_row_11 : decode cX2_row 11 = .ok (.ldc 93, 2) := by decide +kernel
theorem dX2_row_13 : decode cX2_row 13 = .ok (.invokespecial 95, 3) := by decide +kernel
theorem dX2_row_16 : decode cX2_row 16 = .ok (.athrow, 1) := by decide +kernel
theorem dX2_row_17 : decode cX2_row 17 = .ok (.aload_n 0, 1) := by decide +kernel
theorem dX2_row_18 : decode cX2_row 18 = .ok (.getfield 22, 3) := by decide +kernel
theorem dX2_row_21 : decode cX2_row 21 = .ok (.iload_n 1, 1) := by decide +kernel
theorem dX2_row_22 : decode cX2_row 22 = .ok (.iaload, 1) := by decide +kernel
theorem dX2_row_23 : decode cX2_row 23 = .ok (.ireturn, 1) := by decide +kernel
set_option maxRecDepth 20000 in
theorem ggX2_count_X2_standingHouses : GoodIn wsX2_count wsX2_standingHouses := goodIn_r _ [11, 12, 13, 14, 15, 16, 17, 18, 19, 20, 21, 22, 23, 24, 25, 26, 27, 28, 29, 30, 31, 32, 33, 34] (by decide +kernel) (by decide +kernel)
set_option maxRecDepth 20000 in
theorem gX2_count_X2_standingHouses : GoodIn wsX2_count (wsV RX2 98 RX2 yX2_standingHouses wsX2_standingHouses) := goodIn_app (goodIn_of _ (by decide +kernel)) ggX2_count_X2_standingHouses
theorem dX2_count_0 : decode cX2_count 0 = .ok (.iload_n 1, 1) := by decide +kernel
theorem dX2_count_1 : decode cX2_count 1 = .ok (.bipush 10, 2) := by decide +kernel
theorem dX2_count_3 : decode cX2_count 3 = .ok (.if_icmp .le 19, 3) := by decide +kernel
theorem dX2_count_6 : decode cX2_count 6 = .ok (.iload_n 1, 1) := by decide +kernel
theorem dX2_count_7 : decode cX2_count 7 = .ok (.bipush 16, 2) := by decide +kernel
theorem dX2_count_9 : decode cX2_count 9 = .ok (.if_icmp .gt 13, 3) := by decide +kernel
theorem dX2_count_12 : decode cX2_count 12 = .ok (.aload_n 0, 1) := by decide +kernel
theorem dX2_count_13 : decode cX2_count 13 = .ok (.getfield 45, 3) := by decide +kernel
theorem dX2_count_16 : decode cX2_count 16 = .ok (.iload_n 1, 1) := by decide +kernel
theorem dX2_count_17 : decode cX2_count 17 = .ok (.bipush 10, 2) := by decide +kernel
theorem dX2_count_19 : decode cX2_count 19 = .ok (.isub, 1) := by decide +kernel
theorem dX2_count_20 : decode cX2_count 20 = .ok (.iaload, 1) := by decide +kernel
theorem dX2_count_21 : decode cX2_count 21 = .ok (.ireturn, 1) := by decide +kernel
theorem dX2_count_22 : decode cX2_count 22 = .ok (.iload_n 1, 1) := by decide +kernel
theorem dX2_count_23 : decode cX2_count 23 = .ok (.tableswitch 67 0 5 #[37, 42, 47, 52, 57, 62], 37) := by decide +kernel
theorem dX2_count_60 : decode cX2_count 60 = .ok (.aload_n 0, 1) := by decide +kernel
theorem dX2_count_61 : decode cX2_count 61 = .ok (.invokevirtual 98, 3) := by decide +kernel
theorem dX2_count_64 : decode cX2_count 64 = .ok (.ireturn, 1) := by decide +kernel
theorem dX2_count_65 : decode cX2_count 65 = .ok (.aload_n 0, 1) := by decide +kernel
theorem dX2_count_66 : decode cX2_count 66 = .ok (.getfield 32, 3) := by decide +kernel
theorem dX2_count_69 : decode cX2_count 69 = .ok (.ireturn, 1) := by decide +kernel
theorem dX2_count_70 : decode cX2_count 70 = .ok (.aload_n 0, 1) := by decide +kernel
theorem dX2_count_71 : decode cX2_count 71 = .ok (.getfield 48, 3) := by decide +kernel
theorem dX2_count_74 : decode cX2_count 74 = .ok (.ireturn, 1) := by decide +kernel
theorem dX2_count_75 : decode cX2_count 75 = .ok (.aload_n 0, 1) := by decide +kernel
theorem dX2_count_76 : decode cX2_count 76 = .ok (.getfield 51, 3) := by decide +kernel
theorem dX2_count_79 : decode cX2_count 79 = .ok (.ireturn, 1) := by decide +kernel
theorem dX2_count_80 : decode cX2_count 80 = .ok (.aload_n 0, 1) := by decide +kernel
theorem dX2_count_81 : decode cX2_count 81 = .ok (.getfield 54, 3) := by decide +kernel
theorem dX2_count_84 : decode cX2_count 84 = .ok (.ireturn, 1) := by decide +kernel
theorem dX2_count_85 : decode cX2_count 85 = .ok (.aload_n 0, 1) := by decide +kernel
theorem dX2_count_86 : decode cX2_count 86 = .ok (.getfield 57, 3) := by decide +kernel
theorem dX2_count_89 : decode cX2_count 89 = .ok (.ireturn, 1) := by decide +kernel
theorem dX2_count_90 : decode cX2_count 90 = .ok (.iconst (-1), 1) := by decide +kernel
theorem dX2_count_91 : decode cX2_count 91 = .ok (.ireturn, 1) := by decide +kernel
theorem dX2_isPlace_0 : decode cX2_isPlace 0 = .ok (.iload_n 0, 1) := by decide +kernel
theorem dX2_isPlace_1 : decode cX2_isPlace 1 = .ok (.ifCond .lt 13, 3) := by decide +kernel
theorem dX2_isPlace_4 : decode cX2_isPlace 4 = .ok (.iload_n 0, 1) := by decide +kernel
theorem dX2_isPlace_5 : decode cX2_isPlace 5 = .ok (.bipush 8, 2) := by decide +kernel
theorem dX2_isPlace_7 : decode cX2_isPlace 7 = .ok (.if_icmp .ge 7, 3) := by decide +kernel
theorem dX2_isPlace_10 : decode cX2_isPlace 10 = .ok (.iconst 1, 1) := by decide +kernel
theorem dX2_isPlace_11 : decode cX2_isPlace 11 = .ok (.goto 4, 3) := by decide +kernel
theorem dX2_isPlace_14 : decode cX2_isPlace 14 = .ok (.iconst 0, 1) := by decide +kernel
theorem dX2_isPlace_15 : decode cX2_isPlace 15 = .ok (.ireturn, 1) := by decide +kernel
theorem dX2_isAct_0 : decode cX2_isAct 0 = .ok (.iload_n 0, 1) := by decide +kernel
theorem dX2_isAct_1 : decode cX2_isAct 1 = .ok (.ifCond .lt 13, 3) := by decide +kernel
theorem dX2_isAct_4 : decode cX2_isAct 4 = .ok (.iload_n 0, 1) := by decide +kernel
theorem dX2_isAct_5 : decode cX2_isAct 5 = .ok (.bipush 8, 2) := by decide +kernel
theorem dX2_isAct_7 : decode cX2_isAct 7 = .ok (.if_icmp .gt 7, 3) := by decide +kernel
theorem dX2_isAct_10 : decode cX2_isAct 10 = .ok (.iconst 1, 1) := by decide +kernel
theorem dX2_isAct_11 : decode cX2_isAct 11 = .ok (.goto 4, 3) := by decide +kernel
theorem dX2_isAct_14 : decode cX2_isAct 14 = .ok (.iconst 0, 1) := by decide +kernel
theorem dX2_isAct_15 : decode cX2_isAct 15 = .ok (.ireturn, 1) := by decide +kernel
theorem dX2_isRow_0 : decode cX2_isRow 0 = .ok (.iload_n 0, 1) := by decide +kernel
theorem dX2_isRow_1 : decode cX2_isRow 1 = .ok (.ifCond .lt 13, 3) := by decide +kernel
theorem dX2_isRow_4 : decode cX2_isRow 4 = .ok (.iload_n 0, 1) := by decide +kernel
theorem dX2_isRow_5 : decode cX2_isRow 5 = .ok (.bipush 8, 2) := by decide +kernel
theorem dX2_isRow_7 : decode cX2_isRow 7 = .ok (.if_icmp .ge 7, 3) := by decide +kernel
theorem dX2_isRow_10 : decode cX2_isRow 10 = .ok (.iconst 1, 1) := by decide +kernel
theorem dX2_isRow_11 : decode cX2_isRow 11 = .ok (.goto 4, 3) := by decide +kernel
theorem dX2_isRow_14 : decode cX2_isRow 14 = .ok (.iconst 0, 1) := by decide +kernel
theorem dX2_isRow_15 : decode cX2_isRow 15 = .ok (.ireturn, 1) := by decide +kernel
theorem dX2_standingHouses_0 : decode cX2_standingHouses 0 = .ok (.iconst 0, 1) := by decide +kernel
theorem dX2_standingHouses_1 : decode cX2_standingHouses 1 = .ok (.istore_n 1, 1) := by decide +kernel
theorem dX2_standingHouses_2 : decode cX2_standingHouses 2 = .ok (.iconst 0, 1) := by decide +kernel
theorem dX2_standingHouses_3 : decode cX2_standingHouses 3 = .ok (.istore_n 2, 1) := by decide +kernel
theorem dX2_standingHouses_4 : decode cX2_standingHouses 4 = .ok (.iload_n 2, 1) := by decide +kernel
theorem dX2_standingHouses_5 : decode cX2_standingHouses 5 = .ok (.bipush 8, 2) := by decide +kernel
theorem dX2_standingHouses_7 : decode cX2_standingHouses 7 = .ok (.if_icmp .ge 24, 3) := by decide +kernel
theorem dX2_standingHouses_10 : decode cX2_standingHouses 10 = .ok (.aload_n 0, 1) := by decide +kernel
theorem dX2_standingHouses_11 : decode cX2_standingHouses 11 = .ok (.getfield 11, 3) := by decide +kernel
theorem dX2_standingHouses_14 : decode cX2_standingHouses 14 = .ok (.iload_n 2, 1) := by decide +kernel
theorem dX2_standingHouses_15 : decode cX2_standingHouses 15 = .ok (.aaload, 1) := by decide +kernel
theorem dX2_standingHouses_16 : decode cX2_standingHouses 16 = .ok (.getfield 65, 3) := by decide +kernel
theorem dX2_standingHouses_19 : decode cX2_standingHouses 19 = .ok (.ifCond .eq 6, 3) := by decide +kernel
theorem dX2_standingHouses_22 : decode cX2_standingHouses 22 = .ok (.iinc 1 1, 3) := by decide +kernel
theorem dX2_standingHouses_25 : decode cX2_standingHouses 25 = .ok (.iinc 2 1, 3) := by decide +kernel
theorem dX2_standingHouses_28 : decode cX2_standingHouses 28 = .ok (.goto (-24), 3) := by decide +kernel
theorem dX2_standingHouses_31 : decode cX2_standingHouses 31 = .ok (.iload_n 1, 1) := by decide +kernel
theorem dX2_standingHouses_32 : decode cX2_standingHouses 32 = .ok (.ireturn, 1) := by decide +kernel
set_option maxRecDepth 20000 in
theorem ggX2_followOrder_X2_perform : GoodIn wsX2_followOrder wsX2_perform := goodIn_ca (goodIn_r _ [10, 11, 4, 12, 2, 13, 14, 15, 16, 17, 18, 19, 9, 20, 21, 22, 23, 24, 25, 26, 27, 28, 29, 30, 31, 32, 33, 34, 35, 36, 37, 38, 39, 40, 41, 42, 43, 44, 45, 46, 47, 48, 49, 50, 51, 52, 53, 54, 55, 56, 57, 58, 59, 60, 61, 62, 63, 64, 65, 66, 67, 68, 69, 70, 71, 72, 73, 74, 75, 76, 77, 78, 79, 80, 81, 82, 93, 94, 95, 96, 97, 98, 99, 100, 101, 102, 103, 104, 105, 106, 107, 108, 109, 110, 111, 112, 113, 114, 115, 116, 117, 118] (by decide +kernel) (by decide +kernel)) (goodIn_sub (fun _ h => List.mem_cons_of_mem _ (List.mem_append_right _ h)) (by decide +kernel))
set_option maxRecDepth 20000 in
theorem gX2_followOrder_X2_perform : GoodIn wsX2_followOrder (wsV RX2 101 RX2 yX2_perform wsX2_perform) := goodIn_app (goodIn_of _ (by decide +kernel)) ggX2_followOrder_X2_perform
set_option maxRecDepth 20000 in
theorem ggX2_followOrder_X2_isCaught : GoodIn wsX2_followOrder wsX2_isCaught := goodIn_ca (goodIn_r _ [86, 87, 88, 12, 89, 90, 91, 25, 92, 27, 32, 39, 40, 41, 42, 93, 94, 95, 96, 97, 98, 99, 100, 101, 102, 103, 104, 105, 106, 115, 116, 117, 118, 107, 108, 109, 110, 111, 112, 113, 114] (by decide +kernel) (by decide +kernel)) (goodIn_sub (fun _ h => List.mem_cons_of_mem _ (List.mem_append_right _ h)) (by decide +kernel))
set_option maxRecDepth 20000 in
theorem gX2_followOrder_X2_isCaught : GoodIn wsX2_followOrder (wsV RX2 104 RX2 yX2_isCaught wsX2_isCaught) := goodIn_app (goodIn_of _ (by decide +kernel)) ggX2_followOrder_X2_isCaught
theorem dX2_followOrder_0 : decode cX2_followOrder 0 = .ok (.aload_n 0, 1) := by decide +kernel
theorem dX2_followOrder_1 : decode cX2_followOrder 1 = .ok (.getfield 39, 3) := by decide +kernel
theorem dX2_followOrder_4 : decode cX2_followOrder 4 = .ok (.bipush 80, 2) := by decide +kernel
theorem dX2_followOrder_6 : decode cX2_followOrder 6 = .ok (.if_icmp .ge 85, 3) := by decide +kernel
theorem dX2_followOrder_9 : decode cX2_followOrder 9 = .ok (.aload_n 0, 1) := by decide +kernel
theorem dX2_followOrder_10 : decode cX2_followOrder 10 = .ok (.getfield 36, 3) := by decide +kernel
theorem dX2_followOrder_13 : decode cX2_followOrder 13 = .ok (.aload_n 0, 1) := by decide +kernel
theorem dX2_followOrder_14 : decode cX2_followOrder 14 = .ok (.getfield 32, 3) := by decide +kernel
theorem dX2_followOrder_17 : decode cX2_followOrder 17 = .ok (.if_icmp .lt 5, 3) := by decide +kernel
theorem dX2_followOrder_20 : decode cX2_followOrder 20 = .ok (.iconst 0, 1) := by decide +kernel
theorem dX2_followOrder_21 : decode cX2_followOrder 21 = .ok (.ireturn, 1) := by decide +kernel
theorem dX2_followOrder_22 : decode cX2_followOrder 22 = .ok (.aload_n 0, 1) := by decide +kernel
theorem dX2_followOrder_23 : decode cX2_followOrder 23 = .ok (.getfield 36, 3) := by decide +kernel
theorem dX2_followOrder_26 : decode cX2_followOrder 26 = .ok (.istore_n 1, 1) := by decide +kernel
theorem dX2_followOrder_27 : decode cX2_followOrder 27 = .ok (.aload_n 0, 1) := by decide +kernel
theorem dX2_followOrder_28 : decode cX2_followOrder 28 = .ok (.dup, 1) := by decide +kernel
theorem dX2_followOrder_29 : decode cX2_followOrder 29 = .ok (.getfield 39, 3) := by decide +kernel
theorem dX2_followOrder_32 : decode cX2_followOrder 32 = .ok (.iconst 1, 1) := by decide +kernel
theorem dX2_followOrder_33 : decode cX2_followOrder 33 = .ok (.iadd, 1) := by decide +kernel
theorem dX2_followOrder_34 : decode cX2_followOrder 34 = .ok (.putfield 39, 3) := by decide +kernel
theorem dX2_followOrder_37 : decode cX2_followOrder 37 = .ok (.aload_n 0, 1) := by decide +kernel
theorem dX2_followOrder_38 : decode cX2_followOrder 38 = .ok (.iload_n 1, 1) := by decide +kernel
theorem dX2_followOrder_39 : decode cX2_followOrder 39 = .ok (.iconst 1, 1) := by decide +kernel
theorem dX2_followOrder_40 : decode cX2_followOrder 40 = .ok (.iadd, 1) := by decide +kernel
theorem dX2_followOrder_41 : decode cX2_followOrder 41 = .ok (.putfield 36, 3) := by decide +kernel
theorem dX2_followOrder_44 : decode cX2_followOrder 44 = .ok (.aload_n 0, 1) := by decide +kernel
theorem dX2_followOrder_45 : decode cX2_followOrder 45 = .ok (.getfield 26, 3) := by decide +kernel
theorem dX2_followOrder_48 : decode cX2_followOrder 48 = .ok (.iload_n 1, 1) := by decide +kernel
theorem dX2_followOrder_49 : decode cX2_followOrder 49 = .ok (.iaload, 1) := by decide +kernel
theorem dX2_followOrder_50 : decode cX2_followOrder 50 = .ok (.bipush 6, 2) := by decide +kernel
theorem dX2_followOrder_52 : decode cX2_followOrder 52 = .ok (.if_icmp .ne 15, 3) := by decide +kernel
theorem dX2_followOrder_55 : decode cX2_followOrder 55 = .ok (.aload_n 0, 1) := by decide +kernel
theorem dX2_followOrder_56 : decode cX2_followOrder 56 = .ok (.dup, 1) := by decide +kernel
theorem dX2_followOrder_57 : decode cX2_followOrder 57 = .ok (.getfield 57, 3) := by decide +kernel
theorem dX2_followOrder_60 : decode cX2_followOrder 60 = .ok (.iconst 1, 1) := by decide +kernel
theorem dX2_followOrder_61 : decode cX2_followOrder 61 = .ok (.iadd, 1) := by decide +kernel
theorem dX2_followOrder_62 : decode cX2_followOrder 62 = .ok (.putfield 57, 3) := by decide +kernel
theorem dX2_followOrder_65 : decode cX2_followOrder 65 = .ok (.iconst 0, 1) := by decide +kernel
theorem dX2_followOrder_66 : decode cX2_followOrder 66 = .ok (.ireturn, 1) := by decide +kernel
theorem dX2_followOrder_67 : decode cX2_followOrder 67 = .ok (.aload_n 0, 1) := by decide +kernel
theorem dX2_followOrder_68 : decode cX2_followOrder 68 = .ok (.iload_n 1, 1) := by decide +kernel
theorem dX2_followOrder_69 : decode cX2_followOrder 69 = .ok (.invokevirtual 101, 3) := by decide +kernel
theorem dX2_followOrder_72 : decode cX2_followOrder 72 = .ok (.istore_n 2, 1) := by decide +kernel
theorem dX2_followOrder_73 : decode cX2_followOrder 73 = .ok (.iload_n 2, 1) := by decide +kernel
theorem dX2_followOrder_74 : decode cX2_followOrder 74 = .ok (.ifCond .eq 14, 3) := by decide +kernel
theorem dX2_followOrder_77 : decode cX2_followOrder 77 = .ok (.aload_n 0, 1) := by decide +kernel
theorem dX2_followOrder_78 : decode cX2_followOrder 78 = .ok (.iload_n 2, 1) := by decide +kernel
theorem dX2_followOrder_79 : decode cX2_followOrder 79 = .ok (.iload_n 1, 1) := by decide +kernel
theorem dX2_followOrder_80 : decode cX2_followOrder 80 = .ok (.invokevirtual 104, 3) := by decide +kernel
theorem dX2_followOrder_83 : decode cX2_followOrder 83 = .ok (.ifCond .ne 5, 3) := by decide +kernel
theorem dX2_followOrder_86 : decode cX2_followOrder 86 = .ok (.iload_n 2, 1) := by decide +kernel
theorem dX2_followOrder_87 : decode cX2_followOrder 87 = .ok (.ireturn, 1) := by decide +kernel
theorem dX2_followOrder_88 : decode cX2_followOrder 88 = .ok (.goto (-88), 3) := by decide +kernel
theorem dX2_followOrder_91 : decode cX2_followOrder 91 = .ok (.aload_n 0, 1) := by decide +kernel
theorem dX2_followOrder_92 : decode cX2_followOrder 92 = .ok (.getfield 36, 3) := by decide +kernel
theorem dX2_followOrder_95 : decode cX2_followOrder 95 = .ok (.aload_n 0, 1) := by decide +kernel
theorem dX2_followOrder_96 : decode cX2_followOrder 96 = .ok (.getfield 32, 3) := by decide +kernel
theorem dX2_followOrder_99 : decode cX2_followOrder 99 = .ok (.if_icmp .ge 8, 3) := by decide +kernel
theorem dX2_followOrder_102 : decode cX2_followOrder 102 = .ok (.bipush (-3), 2) := by decide +kernel
theorem dX2_followOrder_104 : decode cX2_followOrder 104 = .ok (.goto 4, 3) := by decide +kernel
theorem dX2_followOrder_107 : decode cX2_followOrder 107 = .ok (.iconst 0, 1) := by decide +kernel
theorem dX2_followOrder_108 : decode cX2_followOrder 108 = .ok (.ireturn, 1) := by decide +kernel
set_option maxRecDepth 20000 in
theorem ggX2_isCaught_X1_leaveByRefuge : GoodIn wsX2_isCaught wsX1_leaveByRefuge := goodIn_r _ [8, 9, 10, 11, 12, 13, 7, 14, 29, 30, 31, 32, 33, 34, 35, 36, 37, 38, 39, 40] (by decide +kernel) (by decide +kernel)
set_option maxRecDepth 20000 in
theorem gX2_isCaught_X1_leaveByRefuge : GoodIn wsX2_isCaught (wsV RX2 108 RX1 yX1_leaveByRefuge wsX1_leaveByRefuge) := goodIn_app (goodIn_of _ (by decide +kernel)) ggX2_isCaught_X1_leaveByRefuge
theorem dX2_isCaught_0 : decode cX2_isCaught 0 = .ok (.aload_n 0, 1) := by decide +kernel
theorem dX2_isCaught_1 : decode cX2_isCaught 1 = .ok (.getfield 45, 3) := by decide +kernel
theorem dX2_isCaught_4 : decode cX2_isCaught 4 = .ok (.iload_n 1, 1) := by decide +kernel
theorem dX2_isCaught_5 : decode cX2_isCaught 5 = .ok (.dup2, 1) := by decide +kernel
theorem dX2_isCaught_6 : decode cX2_isCaught 6 = .ok (.iaload, 1) := by decide +kernel
theorem dX2_isCaught_7 : decode cX2_isCaught 7 = .ok (.iconst 1, 1) := by decide +kernel
theorem dX2_isCaught_8 : decode cX2_isCaught 8 = .ok (.iadd, 1) := by decide +kernel
theorem dX2_isCaught_9 : decode cX2_isCaught 9 = .ok (.iastore, 1) := by decide +kernel
theorem dX2_isCaught_10 : decode cX2_isCaught 10 = .ok (.aload_n 0, 1) := by decide +kernel
theorem dX2_isCaught_11 : decode cX2_isCaught 11 = .ok (.iload_n 2, 1) := by decide +kernel
theorem dX2_isCaught_12 : decode cX2_isCaught 12 = .ok (.putfield 42, 3) := by decide +kernel
theorem dX2_isCaught_15 : decode cX2_isCaught 15 = .ok (.aload_n 0, 1) := by decide +kernel
theorem dX2_isCaught_16 : decode cX2_isCaught 16 = .ok (.getfield 18, 3) := by decide +kernel
theorem dX2_isCaught_19 : decode cX2_isCaught 19 = .ok (.invokevirtual 108, 3) := by decide +kernel
theorem dX2_isCaught_22 : decode cX2_isCaught 22 = .ok (.ireturn, 1) := by decide +kernel
set_option maxRecDepth 20000 in
theorem ggX2_perform_J9_floorMod_7cf53 : GoodIn wsX2_perform wsJ9_floorMod_7cf53 := goodIn_r _ [8] (by decide +kernel) (by decide +kernel)
set_option maxRecDepth 20000 in
theorem gX2_perform_J9_floorMod_7cf53 : GoodIn wsX2_perform (va_wsS RX2 112 yJ9_floorMod_7cf53 wsJ9_floorMod_7cf53) := goodIn_app (goodIn_of _ (by decide +kernel)) ggX2_perform_J9_floorMod_7cf53
set_option maxRecDepth 20000 in
theorem ggX2_perform_X2_goIn : GoodIn wsX2_perform wsX2_goIn := goodIn_ca (goodIn_r _ [13, 3, 14, 15, 16, 17, 18, 19, 20, 21, 22, 23, 24, 25, 26, 27, 76, 77, 78, 79, 80, 81, 82, 83, 84, 85, 86, 87, 88, 89, 90, 91, 92, 93, 94, 95, 96, 97, 98, 99, 100, 101] (by decide +kernel) (by decide +kernel)) (goodIn_sub (fun _ h => List.mem_cons_of_mem _ (List.mem_append_right _ h)) (by decide +kernel))
set_option maxRecDepth 20000 in
theorem gX2_perform_X2_goIn : GoodIn wsX2_perform (wsV RX2 118 RX2 yX2_goIn wsX2_goIn) := goodIn_app (goodIn_of _ (by decide +kernel)) ggX2_perform_X2_goIn
set_option maxRecDepth 20000 in
theorem ggX2_perform_X1_leaveHere : GoodIn wsX2_perform wsX1_leaveHere := goodIn_r _ [31, 20, 32, 33, 34, 18, 35, 25, 98, 99, 100, 101, 90, 91, 92, 93, 94, 95, 96, 97] (by decide +kernel) (by decide +kernel)
set_option maxRecDepth 20000 in
theorem gX2_perform_X1_leaveHere : GoodIn wsX2_perform (wsV RX2 121 RX1 yX1_leaveHere wsX1_leaveHere) := goodIn_app (goodIn_of _ (by decide +kernel)) ggX2_perform_X1_leaveHere
set_option maxRecDepth 20000 in
theorem ggX2_perform_X2_grind : GoodIn wsX2_perform wsX2_grind := goodIn_r _ [39, 3, 40, 41, 42, 18, 43, 20, 25, 44, 45, 46, 47, 48, 49, 50, 51, 76, 77, 78, 79, 80, 81, 82, 83, 84, 85, 86, 87, 88, 89, 98, 99, 100, 101, 90, 91, 92, 93, 94, 95, 96, 97] (by decide +kernel) (by decide +kernel)
set_option maxRecDepth 20000 in
theorem gX2_perform_X2_grind : GoodIn wsX2_perform (wsV RX2 124 RX2 yX2_grind wsX2_grind) := goodIn_app (goodIn_of _ (by decide +kernel)) ggX2_perform_X2_grind
set_option maxRecDepth 20000 in
theorem ggX2_perform_X2_carry : GoodIn wsX2_perform wsX2_carry := goodIn_r _ [55, 3, 40, 41, 42, 18, 43, 20, 25, 56, 57, 58, 59, 44, 45, 46, 47, 48, 49, 50, 51, 76, 77, 78, 79, 80, 81, 82, 83, 84, 85, 86, 87, 88, 89, 90, 91, 92, 93, 94, 95, 96, 97, 98, 99, 100, 101] (by decide +kernel) (by decide +kernel)
set_option maxRecDepth 20000 in
theorem gX2_perform_X2_carry : GoodIn wsX2_perform (wsV RX2 127 RX2 yX2_carry wsX2_carry) := goodIn_app (goodIn_of _ (by decide +kernel)) ggX2_perform_X2_carry
set_option maxRecDepth 20000 in
theorem ggX2_perform_X2_share : GoodIn wsX2_perform wsX2_share := goodIn_r _ [63, 3, 40, 41, 42, 18, 43, 20, 25, 76, 77, 78, 79, 80, 81, 82, 83, 84, 85, 86, 87, 88, 89, 90, 91, 92, 93, 94, 95, 96, 97, 98, 99, 100, 101] (by decide +kernel) (by decide +kernel)
set_option maxRecDepth 20000 in
theorem gX2_perform_X2_share : GoodIn wsX2_perform (wsV RX2 130 RX2 yX2_share wsX2_share) := goodIn_app (goodIn_of _ (by decide +kernel)) ggX2_perform_X2_share
set_option maxRecDepth 20000 in
theorem ggX2_perform_X2_write : GoodIn wsX2_perform wsX2_write := goodIn_ca (goodIn_r _ [67, 3, 68, 69, 70, 12, 71, 40, 41, 42, 18, 43, 20, 25, 76, 77, 78, 79, 80, 81, 82, 83, 84, 85, 86, 87, 88, 89, 90, 91, 92, 93, 94, 95, 96, 97, 98, 99, 100, 101] (by decide +kernel) (by decide +kernel)) (goodIn_sub (fun _ h => List.mem_cons_of_mem _ (List.mem_append_right _ h)) (by decide +kernel))
set_option maxRecDepth 20000 in
theorem gX2_perform_X2_write : GoodIn wsX2_perform (wsV RX2 133 RX2 yX2_write wsX2_write) := goodIn_app (goodIn_of _ (by decide +kernel)) ggX2_perform_X2_write
set_option maxRecDepth 20000 in
theorem ggX2_perform_X1_stepBehindAgain : GoodIn wsX2_perform wsX1_stepBehindAgain := goodIn_ca (goodIn_r _ [75, 20, 27, 26, 98, 99, 100, 101] (by decide +kernel) (by decide +kernel)) (goodIn_sub (fun _ h => List.mem_cons_of_mem _ (List.mem_append_right _ h)) (by decide +kernel))
set_option maxRecDepth 20000 in
theorem gX2_perform_X1_stepBehindAgain : GoodIn wsX2_perform (wsV RX2 136 RX1 yX1_stepBehindAgain wsX1_stepBehindAgain) := goodIn_app (goodIn_of _ (by decide +kernel)) ggX2_perform_X1_stepBehindAgain
theorem dX2_perform_0 : decode cX2_perform 0 = .ok (.aload_n 0, 1) := by decide +kernel
theorem dX2_perform_1 : decode cX2_perform 1 = .ok (.getfield 29, 3) := by decide +kernel
theorem dX2_perform_4 : decode cX2_perform 4 = .ok (.iload_n 1, 1) := by decide +kernel
theorem dX2_perform_5 : decode cX2_perform 5 = .ok (.iaload, 1) := by decide +kernel
theorem dX2_perform_6 : decode cX2_perform 6 = .ok (.istore_n 2, 1) := by decide +kernel
theorem dX2_perform_7 : decode cX2_perform 7 = .ok (.aload_n 0, 1) := by decide +kernel
theorem dX2_perform_8 : decode cX2_perform 8 = .ok (.getfield 26, 3) := by decide +kernel
theorem dX2_perform_11 : decode cX2_perform 11 = .ok (.iload_n 1, 1) := by decide +kernel
theorem dX2_perform_12 : decode cX2_perform 12 = .ok (.iaload, 1) := by decide +kernel
theorem dX2_perform_13 : decode cX2_perform 13 = .ok (.tableswitch 151 0 8 #[51, 63, 72, 84, 96, 107, 151, 113, 129], 51) := by decide +kernel
theorem dX2_perform_64 : decode cX2_perform 64 = .ok (.aload_n 0, 1) := by decide +kernel
theorem dX2_perform_65 : decode cX2_perform 65 = .ok (.iload_n 2, 1) := by decide +kernel
theorem dX2_perform_66 : decode cX2_perform 66 = .ok (.bipush 8, 2) := by decide +kernel
theorem dX2_perform_68 : decode cX2_perform 68 = .ok (.invokestatic 112, 3) := by decide +kernel
theorem dX2_perform_71 : decode cX2_perform 71 = .ok (.iload_n 1, 1) := by decide +kernel
theorem dX2_perform_72 : decode cX2_perform 72 = .ok (.invokevirtual 118, 3) := by decide +kernel
theorem dX2_perform_75 : decode cX2_perform 75 = .ok (.ireturn, 1) := by decide +kernel
theorem dX2_perform_76 : decode cX2_perform 76 = .ok (.aload_n 0, 1) := by decide +kernel
theorem dX2_perform_77 : decode cX2_perform 77 = .ok (.getfield 18, 3) := by decide +kernel
theorem dX2_perform_80 : decode cX2_perform 80 = .ok (.invokevirtual 121, 3) := by decide +kernel
theorem dX2_perform_83 : decode cX2_perform 83 = .ok (.iconst 0, 1) := by decide +kernel
theorem dX2_perform_84 : decode cX2_perform 84 = .ok (.ireturn, 1) := by decide +kernel
theorem dX2_perform_85 : decode cX2_perform 85 = .ok (.aload_n 0, 1) := by decide +kernel
theorem dX2_perform_86 : decode cX2_perform 86 = .ok (.iload_n 2, 1) := by decide +kernel
theorem dX2_perform_87 : decode cX2_perform 87 = .ok (.sipush 1000, 3) := by decide +kernel
theorem dX2_perform_90 : decode cX2_perform 90 = .ok (.invokestatic 112, 3) := by decide +kernel
theorem dX2_perform_93 : decode cX2_perform 93 = .ok (.invokevirtual 124, 3) := by decide +kernel
theorem dX2_perform_96 : decode cX2_perform 96 = .ok (.ireturn, 1) := by decide +kernel
theorem dX2_perform_97 : decode cX2_perform 97 = .ok (.aload_n 0, 1) := by decide +kernel
theorem dX2_perform_98 : decode cX2_perform 98 = .ok (.iload_n 2, 1) := by decide +kernel
theorem dX2_perform_99 : decode cX2_perform 99 = .ok (.sipush 1000, 3) := by decide +kernel
theorem dX2_perform_102 : decode cX2_perform 102 = .ok (.invokestatic 112, 3) := by decide +kernel
theorem dX2_perform_105 : decode cX2_perform 105 = .ok (.invokevirtual 127, 3) := by decide +kernel
theorem dX2_perform_108 : decode cX2_perform 108 = .ok (.ireturn, 1) := by decide +kernel
theorem dX2_perform_109 : decode cX2_perform 109 = .ok (.aload_n 0, 1) := by decide +kernel
theorem dX2_perform_110 : decode cX2_perform 110 = .ok (.iload_n 2, 1) := by decide +kernel
theorem dX2_perform_111 : decode cX2_perform 111 = .ok (.bipush 10, 2) := by decide +kernel
theorem dX2_perform_113 : decode cX2_perform 113 = .ok (.invokestatic 112, 3) := by decide +kernel
theorem dX2_perform_116 : decode cX2_perform 116 = .ok (.invokevirtual 130, 3) := by decide +kernel
theorem dX2_perform_119 : decode cX2_perform 119 = .ok (.ireturn, 1) := by decide +kernel
theorem dX2_perform_120 : decode cX2_perform 120 = .ok (.aload_n 0, 1) := by decide +kernel
theorem dX2_perform_121 : decode cX2_perform 121 = .ok (.iload_n 2, 1) := by decide +kernel
theorem dX2_perform_122 : decode cX2_perform 122 = .ok (.invokevirtual 133, 3) := by decide +kernel
theorem dX2_perform_125 : decode cX2_perform 125 = .ok (.ireturn, 1) := by decide +kernel
theorem dX2_perform_126 : decode cX2_perform 126 = .ok (.aload_n 0, 1) := by decide +kernel
theorem dX2_perform_127 : decode cX2_perform 127 = .ok (.dup, 1) := by decide +kernel
theorem dX2_perform_128 : decode cX2_perform 128 = .ok (.getfield 36, 3) := by decide +kernel
theorem dX2_perform_131 : decode cX2_perform 131 = .ok (.iload_n 2, 1) := by decide +kernel
theorem dX2_perform_132 : decode cX2_perform 132 = .ok (.iconst 4, 1) := by decide +kernel
theorem dX2_perform_133 : decode cX2_perform 133 = .ok (.invokestatic 112, 3) := by decide +kernel
theorem dX2_perform_136 : decode cX2_perform 136 = .ok (.iadd, 1) := by decide +kernel
theorem dX2_perform_137 : decode cX2_perform 137 = .ok (.putfield 36, 3) := by decide +kernel
theorem dX2_perform_140 : decode cX2_perform 140 = .ok (.iconst 0, 1) := by decide +kernel
theorem dX2_perform_141 : decode cX2_perform 141 = .ok (.ireturn, 1) := by decide +kernel
theorem dX2_perform_142 : decode cX2_perform 142 = .ok (.aload_n 0, 1) := by decide +kernel
theorem dX2_perform_143 : decode cX2_perform 143 = .ok (.aload_n 0, 1) := by decide +kernel
theorem dX2_perform_144 : decode cX2_perform 144 = .ok (.getfield 18, 3) := by decide +kernel
theorem dX2_perform_147 : decode cX2_perform 147 = .ok (.iload_n 2, 1) := by decide +kernel
theorem dX2_perform_148 : decode cX2_perform 148 = .ok (.iconst 4, 1) := by decide +kernel
theorem dX2_perform_149 : decode cX2_perform 149 = .ok (.invokestatic 112, 3) := by decide +kernel
theorem dX2_perform_152 : decode cX2_perform 152 = .ok (.aload_n 0, 1) := by decide +kernel
theorem dX2_perform_153 : decode cX2_perform 153 = .ok (.getfield 36, 3) := by decide +kernel
theorem dX2_perform_156 : decode cX2_perform 156 = .ok (.invokevirtual 136, 3) := by decide +kernel
theorem dX2_perform_159 : decode cX2_perform 159 = .ok (.putfield 36, 3) := by decide +kernel
theorem dX2_perform_162 : decode cX2_perform 162 = .ok (.iconst 0, 1) := by decide +kernel
theorem dX2_perform_163 : decode cX2_perform 163 = .ok (.ireturn, 1) := by decide +kernel
theorem dX2_perform_164 : decode cX2_perform 164 = .ok (.iconst 0, 1) := by decide +kernel
theorem dX2_perform_165 : decode cX2_perform 165 = .ok (.ireturn, 1) := by decide +kernel
set_option maxRecDepth 20000 in
theorem ggX2_goIn_X1_isFull : GoodIn wsX2_goIn wsX1_isFull := goodIn_r _ [7, 8, 38, 39, 40, 41] (by decide +kernel) (by decide +kernel)
set_option maxRecDepth 20000 in
theorem gX2_goIn_X1_isFull : GoodIn wsX2_goIn (wsV RX2 139 RX1 yX1_isFull wsX1_isFull) := goodIn_app (goodIn_of _ (by decide +kernel)) ggX2_goIn_X1_isFull
set_option maxRecDepth 20000 in
theorem ggX2_goIn_X1_enter : GoodIn wsX2_goIn wsX1_enter := goodIn_ca (goodIn_r _ [12, 13, 8, 14, 15, 38, 39, 40, 41, 30, 31, 32, 33, 34, 35, 36, 37] (by decide +kernel) (by decide +kernel)) (goodIn_sub (fun _ h => List.mem_cons_of_mem _ (List.mem_append_right _ h)) (by decide +kernel))
set_option maxRecDepth 20000 in
theorem gX2_goIn_X1_enter : GoodIn wsX2_goIn (wsV RX2 142 RX1 yX1_enter wsX1_enter) := goodIn_app (goodIn_of _ (by decide +kernel)) ggX2_goIn_X1_enter
theorem dX2_goIn_0 : decode cX2_goIn 0 = .ok (.aload_n 0, 1) := by decide +kernel
theorem dX2_goIn_1 : decode cX2_goIn 1 = .ok (.getfield 18, 3) := by decide +kernel
theorem dX2_goIn_4 : decode cX2_goIn 4 = .ok (.invokevirtual 139, 3) := by decide +kernel
theorem dX2_goIn_7 : decode cX2_goIn 7 = .ok (.ifCond .eq 5, 3) := by decide +kernel
theorem dX2_goIn_10 : decode cX2_goIn 10 = .ok (.iconst 2, 1) := by decide +kernel
theorem dX2_goIn_11 : decode cX2_goIn 11 = .ok (.ireturn, 1) := by decide +kernel
theorem dX2_goIn_12 : decode cX2_goIn 12 = .ok (.aload_n 0, 1) := by decide +kernel
theorem dX2_goIn_13 : decode cX2_goIn 13 = .ok (.getfield 11, 3) := by decide +kernel
theorem dX2_goIn_16 : decode cX2_goIn 16 = .ok (.iload_n 1, 1) := by decide +kernel
theorem dX2_goIn_17 : decode cX2_goIn 17 = .ok (.aaload, 1) := by decide +kernel
theorem dX2_goIn_18 : decode cX2_goIn 18 = .ok (.getfield 65, 3) := by decide +kernel
theorem dX2_goIn_21 : decode cX2_goIn 21 = .ok (.ifCond .ne 5, 3) := by decide +kernel
theorem dX2_goIn_24 : decode cX2_goIn 24 = .ok (.iconst 1, 1) := by decide +kernel
theorem dX2_goIn_25 : decode cX2_goIn 25 = .ok (.ireturn, 1) := by decide +kernel
theorem dX2_goIn_26 : decode cX2_goIn 26 = .ok (.aload_n 0, 1) := by decide +kernel
theorem dX2_goIn_27 : decode cX2_goIn 27 = .ok (.getfield 18, 3) := by decide +kernel
theorem dX2_goIn_30 : decode cX2_goIn 30 = .ok (.aload_n 0, 1) := by decide +kernel
theorem dX2_goIn_31 : decode cX2_goIn 31 = .ok (.getfield 11, 3) := by decide +kernel
theorem dX2_goIn_34 : decode cX2_goIn 34 = .ok (.iload_n 1, 1) := by decide +kernel
theorem dX2_goIn_35 : decode cX2_goIn 35 = .ok (.aaload, 1) := by decide +kernel
theorem dX2_goIn_36 : decode cX2_goIn 36 = .ok (.iload_n 2, 1) := by decide +kernel
theorem dX2_goIn_37 : decode cX2_goIn 37 = .ok (.invokevirtual 142, 3) := by decide +kernel
theorem dX2_goIn_40 : decode cX2_goIn 40 = .ok (.iconst 0, 1) := by decide +kernel
theorem dX2_goIn_41 : decode cX2_goIn 41 = .ok (.ireturn, 1) := by decide +kernel
set_option maxRecDepth 20000 in
theorem ggX2_grind_X1_here : GoodIn wsX2_grind wsX1_here := goodIn_r _ [6, 7, 8, 31, 32, 33, 34] (by decide +kernel) (by decide +kernel)
set_option maxRecDepth 20000 in
theorem gX2_grind_X1_here : GoodIn wsX2_grind (wsV RX2 146 RX1 yX1_here wsX1_here) := goodIn_app (goodIn_of _ (by decide +kernel)) ggX2_grind_X1_here
set_option maxRecDepth 20000 in
theorem ggX2_grind_X0_receive : GoodIn wsX2_grind wsX0_receive := goodIn_r _ [13, 14, 15, 16, 35, 36, 37, 38, 39, 40, 41, 42] (by decide +kernel) (by decide +kernel)
set_option maxRecDepth 20000 in
theorem gX2_grind_X0_receive : GoodIn wsX2_grind (wsV RX2 150 RX0 yX0_receive wsX0_receive) := goodIn_app (goodIn_of _ (by decide +kernel)) ggX2_grind_X0_receive
theorem dX2_grind_0 : decode cX2_grind 0 = .ok (.aload_n 0, 1) := by decide +kernel
theorem dX2_grind_1 : decode cX2_grind 1 = .ok (.getfield 18, 3) := by decide +kernel
theorem dX2_grind_4 : decode cX2_grind 4 = .ok (.invokevirtual 146, 3) := by decide +kernel
theorem dX2_grind_7 : decode cX2_grind 7 = .ok (.astore_n 2, 1) := by decide +kernel
theorem dX2_grind_8 : decode cX2_grind 8 = .ok (.aload_n 2, 1) := by decide +kernel
theorem dX2_grind_9 : decode cX2_grind 9 = .ok (.ifnonnull 7, 3) := by decide +kernel
theorem dX2_grind_12 : decode cX2_grind 12 = .ok (.iconst 0, 1) := by decide +kernel
theorem dX2_grind_13 : decode cX2_grind 13 = .ok (.goto 8, 3) := by decide +kernel
theorem dX2_grind_16 : decode cX2_grind 16 = .ok (.aload_n 2, 1) := by decide +kernel
theorem dX2_grind_17 : decode cX2_grind 17 = .ok (.iload_n 1, 1) := by decide +kernel
theorem dX2_grind_18 : decode cX2_grind 18 = .ok (.invokevirtual 150, 3) := by decide +kernel
theorem dX2_grind_21 : decode cX2_grind 21 = .ok (.ireturn, 1) := by decide +kernel
set_option maxRecDepth 20000 in
theorem ggX2_carry_X1_here : GoodIn wsX2_carry wsX1_here := goodIn_r _ [6, 7, 8, 43, 44, 45, 46] (by decide +kernel) (by decide +kernel)
set_option maxRecDepth 20000 in
theorem gX2_carry_X1_here : GoodIn wsX2_carry (wsV RX2 146 RX1 yX1_here wsX1_here) := goodIn_app (goodIn_of _ (by decide +kernel)) ggX2_carry_X1_here
set_option maxRecDepth 20000 in
theorem ggX2_carry_X1_around : GoodIn wsX2_carry wsX1_around := goodIn_r _ [12, 7, 8, 43, 44, 45, 46] (by decide +kernel) (by decide +kernel)
set_option maxRecDepth 20000 in
theorem gX2_carry_X1_around : GoodIn wsX2_carry (wsV RX2 153 RX1 yX1_around wsX1_around) := goodIn_app (goodIn_of _ (by decide +kernel)) ggX2_carry_X1_around
set_option maxRecDepth 20000 in
theorem ggX2_carry_X0_receive : GoodIn wsX2_carry wsX0_receive := goodIn_r _ [17, 18, 19, 20, 35, 36, 37, 38, 39, 40, 41, 42] (by decide +kernel) (by decide +kernel)
set_option maxRecDepth 20000 in
theorem gX2_carry_X0_receive : GoodIn wsX2_carry (wsV RX2 150 RX0 yX0_receive wsX0_receive) := goodIn_app (goodIn_of _ (by decide +kernel)) ggX2_carry_X0_receive
theorem dX2_carry_0 : decode cX2_carry 0 = .ok (.aload_n 0, 1) := by decide +kernel
theorem dX2_carry_1 : decode cX2_carry 1 = .ok (.getfield 18, 3) := by decide +kernel
theorem dX2_carry_4 : decode cX2_carry 4 = .ok (.invokevirtual 146, 3) := by decide +kernel
theorem dX2_carry_7 : decode cX2_carry 7 = .ok (.astore_n 2, 1) := by decide +kernel
theorem dX2_carry_8 : decode cX2_carry 8 = .ok (.aload_n 0, 1) := by decide +kernel
theorem dX2_carry_9 : decode cX2_carry 9 = .ok (.getfield 18, 3) := by decide +kernel
theorem dX2_carry_12 : decode cX2_carry 12 = .ok (.invokevirtual 153, 3) := by decide +kernel
theorem dX2_carry_15 : decode cX2_carry 15 = .ok (.astore_n 3, 1) := by decide +kernel
theorem dX2_carry_16 : decode cX2_carry 16 = .ok (.aload_n 2, 1) := by decide +kernel
theorem dX2_carry_17 : decode cX2_carry 17 = .ok (.ifnull 7, 3) := by decide +kernel
theorem dX2_carry_20 : decode cX2_carry 20 = .ok (.aload_n 3, 1) := by decide +kernel
theorem dX2_carry_21 : decode cX2_carry 21 = .ok (.ifnonnull 5, 3) := by decide +kernel
theorem dX2_carry_24 : decode cX2_carry 24 = .ok (.iconst 0, 1) := by decide +kernel
theorem dX2_carry_25 : decode cX2_carry 25 = .ok (.ireturn, 1) := by decide +kernel
theorem dX2_carry_26 : decode cX2_carry 26 = .ok (.aload_n 2, 1) := by decide +kernel
theorem dX2_carry_27 : decode cX2_carry 27 = .ok (.getfield 156, 3) := by decide +kernel
theorem dX2_carry_30 : decode cX2_carry 30 = .ok (.iload_n 1, 1) := by decide +kernel
theorem dX2_carry_31 : decode cX2_carry 31 = .ok (.if_icmp .ge 5, 3) := by decide +kernel
theorem dX2_carry_34 : decode cX2_carry 34 = .ok (.iconst 4, 1) := by decide +kernel
theorem dX2_carry_35 : decode cX2_carry 35 = .ok (.ireturn, 1) := by decide +kernel
theorem dX2_carry_36 : decode cX2_carry 36 = .ok (.aload_n 2, 1) := by decide +kernel
theorem dX2_carry_37 : decode cX2_carry 37 = .ok (.dup, 1) := by decide +kernel
theorem dX2_carry_38 : decode cX2_carry 38 = .ok (.getfield 156, 3) := by decide +kernel
theorem dX2_carry_41 : decode cX2_carry 41 = .ok (.iload_n 1, 1) := by decide +kernel
theorem dX2_carry_42 : decode cX2_carry 42 = .ok (.isub, 1) := by decide +kernel
theorem dX2_carry_43 : decode cX2_carry 43 = .ok (.putfield 156, 3) := by decide +kernel
theorem dX2_carry_46 : decode cX2_carry 46 = .ok (.aload_n 3, 1) := by decide +kernel
theorem dX2_carry_47 : decode cX2_carry 47 = .ok (.iload_n 1, 1) := by decide +kernel
theorem dX2_carry_48 : decode cX2_carry 48 = .ok (.invokevirtual 150, 3) := by decide +kernel
theorem dX2_carry_51 : decode cX2_carry 51 = .ok (.ireturn, 1) := by decide +kernel
set_option maxRecDepth 20000 in
theorem ggX2_share_X1_here : GoodIn wsX2_share wsX1_here := goodIn_r _ [6, 7, 8, 31, 32, 33, 34] (by decide +kernel) (by decide +kernel)
set_option maxRecDepth 20000 in
theorem gX2_share_X1_here : GoodIn wsX2_share (wsV RX2 146 RX1 yX1_here wsX1_here) := goodIn_app (goodIn_of _ (by decide +kernel)) ggX2_share_X1_here
theorem dX2_share_0 : decode cX2_share 0 = .ok (.aload_n 0, 1) := by decide +kernel
theorem dX2_share_1 : decode cX2_share 1 = .ok (.getfield 18, 3) := by decide +kernel
theorem dX2_share_4 : decode cX2_share 4 = .ok (.invokevirtual 146, 3) := by decide +kernel
theorem dX2_share_7 : decode cX2_share 7 = .ok (.astore_n 2, 1) := by decide +kernel
theorem dX2_share_8 : decode cX2_share 8 = .ok (.aload_n 2, 1) := by decide +kernel
theorem dX2_share_9 : decode cX2_share 9 = .ok (.ifnonnull 5, 3) := by decide +kernel
theorem dX2_share_12 : decode cX2_share 12 = .ok (.iconst 0, 1) := by decide +kernel
theorem dX2_share_13 : decode cX2_share 13 = .ok (.ireturn, 1) := by decide +kernel
theorem dX2_share_14 : decode cX2_share 14 = .ok (.iload_n 1, 1) := by decide +kernel
theorem dX2_share_15 : decode cX2_share 15 = .ok (.ifCond .ne 5, 3) := by decide +kernel
theorem dX2_share_18 : decode cX2_share 18 = .ok (.iconst 5, 1) := by decide +kernel
theorem dX2_share_19 : decode cX2_share 19 = .ok (.ireturn, 1) := by decide +kernel
theorem dX2_share_20 : decode cX2_share 20 = .ok (.aload_n 2, 1) := by decide +kernel
theorem dX2_share_21 : decode cX2_share 21 = .ok (.dup, 1) := by decide +kernel
theorem dX2_share_22 : decode cX2_share 22 = .ok (.getfield 156, 3) := by decide +kernel
theorem dX2_share_25 : decode cX2_share 25 = .ok (.iload_n 1, 1) := by decide +kernel
theorem dX2_share_26 : decode cX2_share 26 = .ok (.idiv, 1) := by decide +kernel
theorem dX2_share_27 : decode cX2_share 27 = .ok (.putfield 156, 3) := by decide +kernel
theorem dX2_share_30 : decode cX2_share 30 = .ok (.iconst 0, 1) := by decide +kernel
theorem dX2_share_31 : decode cX2_share 31 = .ok (.ireturn, 1) := by decide +kernel
set_option maxRecDepth 20000 in
theorem ggX2_write_X2_isRow : GoodIn wsX2_write wsX2_isRow := goodIn_r _ [6] (by decide +kernel) (by decide +kernel)
set_option maxRecDepth 20000 in
theorem gX2_write_X2_isRow : GoodIn wsX2_write (va_wsS RX2 88 yX2_isRow wsX2_isRow) := goodIn_app (goodIn_of _ (by decide +kernel)) ggX2_write_X2_isRow
set_option maxRecDepth 20000 in
theorem ggX2_write_X1_here : GoodIn wsX2_write wsX1_here := goodIn_r _ [11, 12, 13, 36, 37, 38, 39] (by decide +kernel) (by decide +kernel)
set_option maxRecDepth 20000 in
theorem gX2_write_X1_here : GoodIn wsX2_write (wsV RX2 146 RX1 yX1_here wsX1_here) := goodIn_app (goodIn_of _ (by decide +kernel)) ggX2_write_X1_here
theorem dX2_write_0 : decode cX2_write 0 = .ok (.iload_n 1, 1) := by decide +kernel
theorem dX2_write_1 : decode cX2_write 1 = .ok (.invokestatic 88, 3) := by decide +kernel
theorem dX2_write_4 : decode cX2_write 4 = .ok (.ifCond .ne 6, 3) := by decide +kernel
theorem dX2_write_7 : decode cX2_write 7 = .ok (.bipush 6, 2) := by decide +kernel
theorem dX2_write_9 : decode cX2_write 9 = .ok (.ireturn, 1) := by decide +kernel
theorem dX2_write_10 : decode cX2_write 10 = .ok (.aload_n 0, 1) := by decide +kernel
theorem dX2_write_11 : decode cX2_write 11 = .ok (.getfield 18, 3) := by decide +kernel
theorem dX2_write_14 : decode cX2_write 14 = .ok (.invokevirtual 146, 3) := by decide +kernel
theorem dX2_write_17 : decode cX2_write 17 = .ok (.astore_n 2, 1) := by decide +kernel
theorem dX2_write_18 : decode cX2_write 18 = .ok (.aload_n 0, 1) := by decide +kernel
theorem dX2_write_19 : decode cX2_write 19 = .ok (.getfield 22, 3) := by decide +kernel
theorem dX2_write_22 : decode cX2_write 22 = .ok (.iload_n 1, 1) := by decide +kernel
theorem dX2_write_23 : decode cX2_write 23 = .ok (.aload_n 2, 1) := by decide +kernel
theorem dX2_write_24 : decode cX2_write 24 = .ok (.ifnonnull 7, 3) := by decide +kernel
theorem dX2_write_27 : decode cX2_write 27 = .ok (.iconst (-1), 1) := by decide +kernel
theorem dX2_write_28 : decode cX2_write 28 = .ok (.goto 7, 3) := by decide +kernel
theorem dX2_write_31 : decode cX2_write 31 = .ok (.aload_n 2, 1) := by decide +kernel
theorem dX2_write_32 : decode cX2_write 32 = .ok (.getfield 156, 3) := by decide +kernel
theorem dX2_write_35 : decode cX2_write 35 = .ok (.iastore, 1) := by decide +kernel
theorem dX2_write_36 : decode cX2_write 36 = .ok (.iconst 0, 1) := by decide +kernel
theorem dX2_write_37 : decode cX2_write 37 = .ok (.ireturn, 1) := by decide +kernel
end
section
theorem dX3_init_0 : decode cX3_init 0 = .ok (.aload_n 0, 1) := by decide +kernel
theorem dX3_init_1 : decode cX3_init 1 = .ok (.invokespecial 1, 3) := by decide +kernel
theorem dX3_init_4 : decode cX3_init 4 = .ok (.aload_n 0, 1) := by decide +kernel
theorem dX3_init_5 : decode cX3_init 5 = .ok (.bipush 8, 2) := by decide +kernel
theorem dX3_init_7 : decode cX3_init 7 = .ok (.newarray .int, 2) := by decide +kernel
theorem dX3_init_9 : decode cX3_init 9 = .ok (.putfield 7, 3) := by decide +kernel
theorem dX3_init_12 : decode cX3_init 12 = .ok (.aload_n 0, 1) := by decide +kernel
theorem dX3_init_13 : decode cX3_init 13 = .ok (.bipush 8, 2) := by decide +kernel
theorem dX3_init_15 : decode cX3_init 15 = .ok (.newarray .int, 2) := by decide +kernel
theorem dX3_init_17 : decode cX3_init 17 = .ok (.putfield 13, 3) := by decide +kernel
theorem dX3_init_20 : decode cX3_init 20 = .ok (.aload_n 0, 1) := by decide +kernel
theorem dX3_init_21 : decode cX3_init 21 = .ok (.bipush 8, 2) := by decide +kernel
theorem dX3_init_23 : decode cX3_init 23 = .ok (.newarray .boolean, 2) := by decide +kernel
theorem dX3_init_25 : decode cX3_init 25 = .ok (.putfield 16, 3) := by decide +kernel
theorem dX3_init_28 : decode cX3_init 28 = .ok (.aload_n 0, 1) := by decide +kernel
theorem dX3_init_29 : decode cX3_init 29 = .ok (.bipush 8, 2) := by decide +kernel
theorem dX3_init_31 : decode cX3_init 31 = .ok (.newarray .int, 2) := by decide +kernel
theorem dX3_init_33 : decode cX3_init 33 = .ok (.putfield 20, 3) := by decide +kernel
theorem dX3_init_36 : decode cX3_init 36 = .ok (.aload_n 0, 1) := by decide +kernel
theorem dX3_init_37 : decode cX3_init 37 = .ok (.bipush 8, 2) := by decide +kernel
theorem dX3_init_39 : decode cX3_init 39 = .ok (.newarray .int, 2) := by decide +kernel
theorem dX3_init_41 : decode cX3_init 41 = .ok (.putfield 23, 3) := by decide +kernel
theorem dX3_init_44 : decode cX3_init 44 = .ok (.aload_n 0, 1) := by decide +kernel
theorem dX3_init_45 : decode cX3_init 45 = .ok (.bipush 8, 2) := by decide +kernel
theorem dX3_init_47 : decode cX3_init 47 = .ok (.newarray .int, 2) := by decide +kernel
theorem dX3_init_49 : decode cX3_init 49 = .ok (.putfield 26, 3) := by decide +kernel
theorem dX3_init_52 : decode cX3_init 52 = .ok (.aload_n 0, 1) := by decide +kernel
theorem dX3_init_53 : decode cX3_init 53 = .ok (.bipush 8, 2) := by decide +kernel
theorem dX3_init_55 : decode cX3_init 55 = .ok (.newarray .int, 2) := by decide +kernel
theorem dX3_init_57 : decode cX3_init 57 = .ok (.putfield 29, 3) := by decide +kernel
theorem dX3_init_60 : decode cX3_init 60 = .ok (.aload_n 0, 1) := by decide +kernel
theorem dX3_init_61 : decode cX3_init 61 = .ok (.bipush 30, 2) := by decide +kernel
theorem dX3_init_63 : decode cX3_init 63 = .ok (.newarray .int, 2) := by decide +kernel
theorem dX3_init_65 : decode cX3_init 65 = .ok (.putfield 32, 3) := by decide +kernel
theorem dX3_init_68 : decode cX3_init 68 = .ok (.aload_n 0, 1) := by decide +kernel
theorem dX3_init_69 : decode cX3_init 69 = .ok (.bipush 30, 2) := by decide +kernel
theorem dX3_init_71 : decode cX3_init 71 = .ok (.newarray .int, 2) := by decide +kernel
theorem dX3_init_73 : decode cX3_init 73 = .ok (.putfield 35, 3) := by decide +kernel
theorem dX3_init_76 : decode cX3_init 76 = .ok (.aload_n 0, 1) := by decide +kernel
theorem dX3_init_77 : decode cX3_init 77 = .ok (.bipush 6, 2) := by decide +kernel
theorem dX3_init_79 : decode cX3_init 79 = .ok (.newarray .int, 2) := by decide +kernel
theorem dX3_init_81 : decode cX3_init 81 = .ok (.putfield 38, 3) := by decide +kernel
theorem dX3_init_84 : decode cX3_init 84 = .ok (.aload_n 0, 1) := by decide +kernel
theorem dX3_init_85 : decode cX3_init 85 = .ok (.bipush 6, 2) := by decide +kernel
theorem dX3_init_87 : decode cX3_init 87 = .ok (.newarray .int, 2) := by decide +kernel
theorem dX3_init_89 : decode cX3_init 89 = .ok (.putfield 41, 3) := by decide +kernel
theorem dX3_init_92 : decode cX3_init 92 = .ok (.aload_n 0, 1) := by decide +kernel
theorem dX3_init_93 : decode cX3_init 93 = .ok (.bipush 6, 2) := by decide +kernel
theorem dX3_init_95 : decode cX3_init 95 = .ok (.newarray .int, 2) := by decide +kernel
theorem dX3_init_97 : decode cX3_init 97 = .ok (.putfield 44, 3) := by decide +kernel
theorem dX3_init_100 : decode cX3_init 100 = .ok (.aload_n 0, 1) := by decide +kernel
theorem dX3_init_101 : decode cX3_init 101 = .ok (.iconst (-1), 1) := by decide +kernel
theorem dX3_init_102 : decode cX3_init 102 = .ok (.putfield 47, 3) := by decide +kernel
theorem dX3_init_105 : decode cX3_init 105 = .ok (.aload_n 0, 1) := by decide +kernel
theorem dX3_init_106 : decode cX3_init 106 = .ok (.bipush 17, 2) := by decide +kernel
theorem dX3_init_108 : decode cX3_init 108 = .ok (.newarray .int, 2) := by decide +kernel
theorem dX3_init_110 : decode cX3_init 110 = .ok (.putfield 51, 3) := by decide +kernel
theorem dX3_init_113 : decode cX3_init 113 = .ok (.aload_n 0, 1) := by decide +kernel
theorem dX3_init_114 : decode cX3_init 114 = .ok (.iconst 0, 1) := by decide +kernel
theorem dX3_init_115 : decode cX3_init 115 = .ok (.putfield 54, 3) := by decide +kernel
theorem dX3_init_118 : decode cX3_init 118 = .ok (.return_, 1) := by decide +kernel
theorem dX3_thrown_0 : decode cX3_thrown 0 = .ok (.aload_n 0, 1) := by decide +kernel
theorem dX3_thrown_1 : decode cX3_thrown 1 = .ok (.getfield 57, 3) := by decide +kernel
theorem dX3_thrown_4 : decode cX3_thrown 4 = .ok (.ireturn, 1) := by decide +kernel
theorem dX3_isIn_0 : decode cX3_isIn 0 = .ok (.iload_n 0, 1) := by decide +kernel
theorem dX3_isIn_1 : decode cX3_isIn 1 = .ok (.iload_n 1, 1) := by decide +kernel
theorem dX3_isIn_2 : decode cX3_isIn 2 = .ok (.if_icmp .lt 12, 3) := by decide +kernel
theorem dX3_isIn_5 : decode cX3_isIn 5 = .ok (.iload_n 0, 1) := by decide +kernel
theorem dX3_isIn_6 : decode cX3_isIn 6 = .ok (.iload_n 2, 1) := by decide +kernel
theorem dX3_isIn_7 : decode cX3_isIn 7 = .ok (.if_icmp .gt 7, 3) := by decide +kernel
theorem dX3_isIn_10 : decode cX3_isIn 10 = .ok (.iconst 1, 1) := by decide +kernel
theorem dX3_isIn_11 : decode cX3_isIn 11 = .ok (.goto 4, 3) := by decide +kernel
theorem dX3_isIn_14 : decode cX3_isIn 14 = .ok (.iconst 0, 1) := by decide +kernel
theorem dX3_isIn_15 : decode cX3_isIn 15 = .ok (.ireturn, 1) := by decide +kernel
theorem dX3_modulo_0 : decode cX3_modulo 0 = .ok (.iload_n 0, 1) := by decide +kernel
theorem dX3_modulo_1 : decode cX3_modulo 1 = .ok (.iload_n 1, 1) := by decide +kernel
theorem dX3_modulo_2 : decode cX3_modulo 2 = .ok (.irem, 1) := by decide +kernel
theorem dX3_modulo_3 : decode cX3_modulo 3 = .ok (.istore_n 2, 1) := by decide +kernel
theorem dX3_modulo_4 : decode cX3_modulo 4 = .ok (.iload_n 2, 1) := by decide +kernel
theorem dX3_modulo_5 : decode cX3_modulo 5 = .ok (.ifCond .ge 9, 3) := by decide +kernel
theorem dX3_modulo_8 : decode cX3_modulo 8 = .ok (.iload_n 2, 1) := by decide +kernel
theorem dX3_modulo_9 : decode cX3_modulo 9 = .ok (.iload_n 1, 1) := by decide +kernel
theorem dX3_modulo_10 : decode cX3_modulo 10 = .ok (.iadd, 1) := by decide +kernel
theorem dX3_modulo_11 : decode cX3_modulo 11 = .ok (.goto 4, 3) := by decide +kernel
theorem dX3_modulo_14 : decode cX3_modulo 14 = .ok (.iload_n 2, 1) := by decide +kernel
theorem dX3_modulo_15 : decode cX3_modulo 15 = .ok (.ireturn, 1) := by decide +kernel
set_option maxRecDepth 20000 in
theorem ggX3_isPlace_X3_isIn : GoodIn wsX3_isPlace wsX3_isIn := goodIn_r _ [4] (by decide +kernel) (by decide +kernel)
set_option maxRecDepth 20000 in
theorem gX3_isPlace_X3_isIn : GoodIn wsX3_isPlace (va_wsS RX3 60 yX3_isIn wsX3_isIn) := goodIn_app (goodIn_of _ (by decide +kernel)) ggX3_isPlace_X3_isIn
theorem dX3_isPlace_0 : decode cX3_isPlace 0 = .ok (.iload_n 0, 1) := by decide +kernel
theorem dX3_isPlace_1 : decode cX3_isPlace 1 = .ok (.iconst 0, 1) := by decide +kernel
theorem dX3_isPlace_2 : decode cX3_isPlace 2 = .ok (.bipush 7, 2) := by decide +kernel
theorem dX3_isPlace_4 : decode cX3_isPlace 4 = .ok (.invokestatic 60, 3) := by decide +kernel
theorem dX3_isPlace_7 : decode cX3_isPlace 7 = .ok (.ireturn, 1) := by decide +kernel
set_option maxRecDepth 20000 in
theorem ggX3_isHouse_X3_isPlace : GoodIn wsX3_isHouse wsX3_isPlace := goodIn_r _ [5, 6, 7, 4, 8] (by decide +kernel) (by decide +kernel)
set_option maxRecDepth 20000 in
theorem gX3_isHouse_X3_isPlace : GoodIn wsX3_isHouse (va_wsS RX3 64 yX3_isPlace wsX3_isPlace) := goodIn_app (goodIn_of _ (by decide +kernel)) ggX3_isHouse_X3_isPlace
theorem dX3_isHouse_0 : decode cX3_isHouse 0 = .ok (.iload_n 1, 1) := by decide +kernel
theorem dX3_isHouse_1 : decode cX3_isHouse 1 = .ok (.invokestatic 64, 3) := by decide +kernel
theorem dX3_isHouse_4 : decode cX3_isHouse 4 = .ok (.ifCond .eq 16, 3) := by decide +kernel
theorem dX3_isHouse_7 : decode cX3_isHouse 7 = .ok (.aload_n 0, 1) := by decide +kernel
theorem dX3_isHouse_8 : decode cX3_isHouse 8 = .ok (.getfield 7, 3) := by decide +kernel
theorem dX3_isHouse_11 : decode cX3_isHouse 11 = .ok (.iload_n 1, 1) := by decide +kernel
theorem dX3_isHouse_12 : decode cX3_isHouse 12 = .ok (.iaload, 1) := by decide +kernel
theorem dX3_isHouse_13 : decode cX3_isHouse 13 = .ok (.ifCond .le 7, 3) := by decide +kernel
theorem dX3_isHouse_16 : decode cX3_isHouse 16 = .ok (.iconst 1, 1) := by decide +kernel
theorem dX3_isHouse_17 : decode cX3_isHouse 17 = .ok (.goto 4, 3) := by decide +kernel
theorem dX3_isHouse_20 : decode cX3_isHouse 20 = .ok (.iconst 0, 1) := by decide +kernel
theorem dX3_isHouse_21 : decode cX3_isHouse 21 = .ok (.ireturn, 1) := by decide +kernel
theorem dX3_cleared_0 : decode cX3_cleared 0 = .ok (.aload_n 0, 1) := by decide +kernel
theorem dX3_cleared_1 : decode cX3_cleared 1 = .ok (.getfield 7, 3) := by decide +kernel
theorem dX3_cleared_4 : decode cX3_cleared 4 = .ok (.iload_n 1, 1) := by decide +kernel
theorem dX3_cleared_5 : decode cX3_cleared 5 = .ok (.iload_n 2, 1) := by decide +kernel
theorem dX3_cleared_6 : decode cX3_cleared 6 = .ok (.iastore, 1) := by decide +kernel
theorem dX3_cleared_7 : decode cX3_cleared 7 = .ok (.aload_n 0, 1) := by decide +kernel
theorem dX3_cleared_8 : decode cX3_cleared 8 = .ok (.getfield 13, 3) := by decide +kernel
theorem dX3_cleared_11 : decode cX3_cleared 11 = .ok (.iload_n 1, 1) := by decide +kernel
theorem dX3_cleared_12 : decode cX3_cleared 12 = .ok (.iconst 0, 1) := by decide +kernel
theorem dX3_cleared_13 : decode cX3_cleared 13 = .ok (.iastore, 1) := by decide +kernel
theorem dX3_cleared_14 : decode cX3_cleared 14 = .ok (.aload_n 0, 1) := by decide +kernel
theorem dX3_cleared_15 : decode cX3_cleared 15 = .ok (.getfield 16, 3) := by decide +kernel
theorem dX3_cleared_18 : decode cX3_cleared 18 = .ok (.iload_n 1, 1) := by decide +kernel
theorem dX3_cleared_19 : decode cX3_cleared 19 = .ok (.iload_n 3, 1) := by decide +kernel
theorem dX3_cleared_20 : decode cX3_cleared 20 = .ok (.bastore, 1) := by decide +kernel
theorem dX3_cleared_21 : decode cX3_cleared 21 = .ok (.aload_n 0, 1) := by decide +kernel
theorem dX3_cleared_22 : decode cX3_cleared 22 = .ok (.getfield 20, 3) := by decide +kernel
theorem dX3_cleared_25 : decode cX3_cleared 25 = .ok (.iload_n 1, 1) := by decide +kernel
theorem dX3_cleared_26 : decode cX3_cleared 26 = .ok (.iconst 0, 1) := by decide +kernel
theorem dX3_cleared_27 : decode cX3_cleared 27 = .ok (.iastore, 1) := by decide +kernel
theorem dX3_cleared_28 : decode cX3_cleared 28 = .ok (.aload_n 0, 1) := by decide +kernel
theorem dX3_cleared_29 : decode cX3_cleared 29 = .ok (.getfield 23, 3) := by decide +kernel
theorem dX3_cleared_32 : decode cX3_cleared 32 = .ok (.iload_n 1, 1) := by decide +kernel
theorem dX3_cleared_33 : decode cX3_cleared 33 = .ok (.iconst 0, 1) := by decide +kernel
theorem dX3_cleared_34 : decode cX3_cleared 34 = .ok (.iastore, 1) := by decide +kernel
theorem dX3_cleared_35 : decode cX3_cleared 35 = .ok (.aload_n 0, 1) := by decide +kernel
theorem dX3_cleared_36 : decode cX3_cleared 36 = .ok (.getfield 26, 3) := by decide +kernel
theorem dX3_cleared_39 : decode cX3_cleared 39 = .ok (.iload_n 1, 1) := by decide +kernel
theorem dX3_cleared_40 : decode cX3_cleared 40 = .ok (.iconst 0, 1) := by decide +kernel
theorem dX3_cleared_41 : decode cX3_cleared 41 = .ok (.iastore, 1) := by decide +kernel
theorem dX3_cleared_42 : decode cX3_cleared 42 = .ok (.return_, 1) := by decide +kernel
set_option maxRecDepth 20000 in
theorem ggX3_build_X3_isPlace : GoodIn wsX3_build wsX3_isPlace := goodIn_r _ [6, 7, 8, 5, 9] (by decide +kernel) (by decide +kernel)
set_option maxRecDepth 20000 in
theorem gX3_build_X3_isPlace : GoodIn wsX3_build (va_wsS RX3 64 yX3_isPlace wsX3_isPlace) := goodIn_app (goodIn_of _ (by decide +kernel)) ggX3_build_X3_isPlace
set_option maxRecDepth 20000 in
theorem ggX3_build_X3_isIn : GoodIn wsX3_build wsX3_isIn := goodIn_r _ [9] (by decide +kernel) (by decide +kernel)
set_option maxRecDepth 20000 in
theorem gX3_build_X3_isIn : GoodIn wsX3_build (va_wsS RX3 60 yX3_isIn wsX3_isIn) := goodIn_app (goodIn_of _ (by decide +kernel)) ggX3_build_X3_isIn
set_option maxRecDepth 20000 in
theorem ggX3_build_X3_cleared : GoodIn wsX3_build wsX3_cleared := goodIn_ca (goodIn_r _ [13, 2, 14, 15, 16, 17, 18, 19, 20, 21, 22, 23, 24, 25, 26, 27, 28, 29, 30, 31, 32, 33, 34, 35, 36, 37, 38] (by decide +kernel) (by decide +kernel)) (goodIn_sub (fun _ h => List.mem_cons_of_mem _ (List.mem_append_right _ h)) (by decide +kernel))
set_option maxRecDepth 20000 in
theorem gX3_build_X3_cleared : GoodIn wsX3_build (wsV RX3 68 RX3 yX3_cleared wsX3_cleared) := goodIn_app (goodIn_of _ (by decide +kernel)) ggX3_build_X3_cleared
theorem dX3_build_0 : decode cX3_build 0 = .ok (.aload_n 0, 1) := by decide +kernel
theorem dX3_build_1 : decode cX3_build 1 = .ok (.iconst 0, 1) := by decide +kernel
theorem dX3_build_2 : decode cX3_build 2 = .ok (.putfield 57, 3) := by decide +kernel
theorem dX3_build_5 : decode cX3_build 5 = .ok (.iload_n 1, 1) := by decide +kernel
theorem dX3_build_6 : decode cX3_build 6 = .ok (.invokestatic 64, 3) := by decide +kernel
theorem dX3_build_9 : decode cX3_build 9 = .ok (.ifCond .eq 13, 3) := by decide +kernel
theorem dX3_build_12 : decode cX3_build 12 = .ok (.iload_n 2, 1) := by decide +kernel
theorem dX3_build_13 : decode cX3_build 13 = .ok (.iconst 1, 1) := by decide +kernel
theorem dX3_build_14 : decode cX3_build 14 = .ok (.bipush 100, 2) := by decide +kernel
theorem dX3_build_16 : decode cX3_build 16 = .ok (.invokestatic 60, 3) := by decide +kernel
theorem dX3_build_19 : decode cX3_build 19 = .ok (.ifCond .ne 5, 3) := by decide +kernel
theorem dX3_build_22 : decode cX3_build 22 = .ok (.iconst (-1), 1) := by decide +kernel
theorem dX3_build_23 : decode cX3_build 23 = .ok (.ireturn, 1) := by decide +kernel
theorem dX3_build_24 : decode cX3_build 24 = .ok (.aload_n 0, 1) := by decide +kernel
theorem dX3_build_25 : decode cX3_build 25 = .ok (.getfield 7, 3) := by decide +kernel
theorem dX3_build_28 : decode cX3_build 28 = .ok (.iload_n 1, 1) := by decide +kernel
theorem dX3_build_29 : decode cX3_build 29 = .ok (.iaload, 1) := by decide +kernel
theorem dX3_build_30 : decode cX3_build 30 = .ok (.ifCond .le 7, 3) := by decide +kernel
theorem dX3_build_33 : decode cX3_build 33 = .ok (.iconst 1, 1) := by decide +kernel
theorem dX3_build_34 : decode cX3_build 34 = .ok (.goto 4, 3) := by decide +kernel
theorem dX3_build_37 : decode cX3_build 37 = .ok (.iconst 0, 1) := by decide +kernel
theorem dX3_build_38 : decode cX3_build 38 = .ok (.istore 4, 2) := by decide +kernel
theorem dX3_build_40 : decode cX3_build 40 = .ok (.aload_n 0, 1) := by decide +kernel
theorem dX3_build_41 : decode cX3_build 41 = .ok (.iload_n 1, 1) := by decide +kernel
theorem dX3_build_42 : decode cX3_build 42 = .ok (.iload_n 2, 1) := by decide +kernel
theorem dX3_build_43 : decode cX3_build 43 = .ok (.iload_n 3, 1) := by decide +kernel
theorem dX3_build_44 : decode cX3_build 44 = .ok (.invokevirtual 68, 3) := by decide +kernel
theorem dX3_build_47 : decode cX3_build 47 = .ok (.iload 4, 2) := by decide +kernel
theorem dX3_build_49 : decode cX3_build 49 = .ok (.ireturn, 1) := by decide +kernel
set_option maxRecDepth 20000 in
theorem ggX3_raze_X3_isPlace : GoodIn wsX3_raze wsX3_isPlace := goodIn_r _ [6, 7, 8, 5, 9] (by decide +kernel) (by decide +kernel)
set_option maxRecDepth 20000 in
theorem gX3_raze_X3_isPlace : GoodIn wsX3_raze (va_wsS RX3 64 yX3_isPlace wsX3_isPlace) := goodIn_app (goodIn_of _ (by decide +kernel)) ggX3_raze_X3_isPlace
set_option maxRecDepth 20000 in
theorem ggX3_raze_X3_cleared : GoodIn wsX3_raze wsX3_cleared := goodIn_ca (goodIn_r _ [13, 2, 14, 15, 16, 17, 18, 19, 20, 21, 22, 23, 24, 25, 26, 27, 28, 29, 30, 31, 32, 33, 34, 35, 36, 37, 38] (by decide +kernel) (by decide +kernel)) (goodIn_sub (fun _ h => List.mem_cons_of_mem _ (List.mem_append_right _ h)) (by decide +kernel))
set_option maxRecDepth 20000 in
theorem gX3_raze_X3_cleared : GoodIn wsX3_raze (wsV RX3 68 RX3 yX3_cleared wsX3_cleared) := goodIn_app (goodIn_of _ (by decide +kernel)) ggX3_raze_X3_cleared
theorem dX3_raze_0 : decode cX3_raze 0 = .ok (.aload_n 0, 1) := by decide +kernel
theorem dX3_raze_1 : decode cX3_raze 1 = .ok (.iconst 0, 1) := by decide +kernel
theorem dX3_raze_2 : decode cX3_raze 2 = .ok (.putfield 57, 3) := by decide +kernel
theorem dX3_raze_5 : decode cX3_raze 5 = .ok (.iload_n 1, 1) := by decide +kernel
theorem dX3_raze_6 : decode cX3_raze 6 = .ok (.invokestatic 64, 3) := by decide +kernel
theorem dX3_raze_9 : decode cX3_raze 9 = .ok (.ifCond .ne 5, 3) := by decide +kernel
theorem dX3_raze_12 : decode cX3_raze 12 = .ok (.iconst (-1), 1) := by decide +kernel
theorem dX3_raze_13 : decode cX3_raze 13 = .ok (.ireturn, 1) := by decide +kernel
theorem dX3_raze_14 : decode cX3_raze 14 = .ok (.aload_n 0, 1) := by decide +kernel
theorem dX3_raze_15 : decode cX3_raze 15 = .ok (.getfield 7, 3) := by decide +kernel
theorem dX3_raze_18 : decode cX3_raze 18 = .ok (.iload_n 1, 1) := by decide +kernel
theorem dX3_raze_19 : decode cX3_raze 19 = .ok (.iaload, 1) := by decide +kernel
theorem dX3_raze_20 : decode cX3_raze 20 = .ok (.ifCond .le 7, 3) := by decide +kernel
theorem dX3_raze_23 : decode cX3_raze 23 = .ok (.iconst 1, 1) := by decide +kernel
theorem dX3_raze_24 : decode cX3_raze 24 = .ok (.goto 4, 3) := by decide +kernel
theorem dX3_raze_27 : decode cX3_raze 27 = .ok (.iconst 0, 1) := by decide +kernel
theorem dX3_raze_28 : decode cX3_raze 28 = .ok (.istore_n 2, 1) := by decide +kernel
theorem dX3_raze_29 : decode cX3_raze 29 = .ok (.aload_n 0, 1) := by decide +kernel
theorem dX3_raze_30 : decode cX3_raze 30 = .ok (.iload_n 1, 1) := by decide +kernel
theorem dX3_raze_31 : decode cX3_raze 31 = .ok (.iconst 0, 1) := by decide +kernel
theorem dX3_raze_32 : decode cX3_raze 32 = .ok (.iconst 0, 1) := by decide +kernel
theorem dX3_raze_33 : decode cX3_raze 33 = .ok (.invokevirtual 68, 3) := by decide +kernel
theorem dX3_raze_36 : decode cX3_raze 36 = .ok (.iload_n 2, 1) := by decide +kernel
theorem dX3_raze_37 : decode cX3_raze 37 = .ok (.ireturn, 1) := by decide +kernel
set_option maxRecDepth 20000 in
theorem ggX3_step_X3_isIn : GoodIn wsX3_step wsX3_isIn := goodIn_r _ [8] (by decide +kernel) (by decide +kernel)
set_option maxRecDepth 20000 in
theorem gX3_step_X3_isIn : GoodIn wsX3_step (va_wsS RX3 60 yX3_isIn wsX3_isIn) := goodIn_app (goodIn_of _ (by decide +kernel)) ggX3_step_X3_isIn
theorem dX3_step_0 : decode cX3_step 0 = .ok (.aload_n 0, 1) := by decide +kernel
theorem dX3_step_1 : decode cX3_step 1 = .ok (.iconst 0, 1) := by decide +kernel
theorem dX3_step_2 : decode cX3_step 2 = .ok (.putfield 57, 3) := by decide +kernel
theorem dX3_step_5 : decode cX3_step 5 = .ok (.iload_n 1, 1) := by decide +kernel
theorem dX3_step_6 : decode cX3_step 6 = .ok (.iconst 0, 1) := by decide +kernel
theorem dX3_step_7 : decode cX3_step 7 = .ok (.bipush 8, 2) := by decide +kernel
theorem dX3_step_9 : decode cX3_step 9 = .ok (.invokestatic 60, 3) := by decide +kernel
theorem dX3_step_12 : decode cX3_step 12 = .ok (.ifCond .ne 5, 3) := by decide +kernel
theorem dX3_step_15 : decode cX3_step 15 = .ok (.iconst (-1), 1) := by decide +kernel
theorem dX3_step_16 : decode cX3_step 16 = .ok (.ireturn, 1) := by decide +kernel
theorem dX3_step_17 : decode cX3_step 17 = .ok (.aload_n 0, 1) := by decide +kernel
theorem dX3_step_18 : decode cX3_step 18 = .ok (.getfield 54, 3) := by decide +kernel
theorem dX3_step_21 : decode cX3_step 21 = .ok (.bipush 30, 2) := by decide +kernel
theorem dX3_step_23 : decode cX3_step 23 = .ok (.if_icmp .ne 6, 3) := by decide +kernel
theorem dX3_step_26 : decode cX3_step 26 = .ok (.bipush (-2), 2) := by decide +kernel
theorem dX3_step_28 : decode cX3_step 28 = .ok (.ireturn, 1) := by decide +kernel
theorem dX3_step_29 : decode cX3_step 29 = .ok (.aload_n 0, 1) := by decide +kernel
theorem dX3_step_30 : decode cX3_step 30 = .ok (.getfield 32, 3) := by decide +kernel
theorem dX3_step_33 : decode cX3_step 33 = .ok (.aload_n 0, 1) := by decide +kernel
theorem dX3_step_34 : decode cX3_step 34 = .ok (.getfield 54, 3) := by decide +kernel
theorem dX3_step_37 : decode cX3_step 37 = .ok (.iload_n 1, 1) := by decide +kernel
theorem dX3_step_38 : decode cX3_step 38 = .ok (.iastore, 1) := by decide +kernel
theorem dX3_step_39 : decode cX3_step 39 = .ok (.aload_n 0, 1) := by decide +kernel
theorem dX3_step_40 : decode cX3_step 40 = .ok (.getfield 35, 3) := by decide +kernel
theorem dX3_step_43 : decode cX3_step 43 = .ok (.aload_n 0, 1) := by decide +kernel
theorem dX3_step_44 : decode cX3_step 44 = .ok (.getfield 54, 3) := by decide +kernel
theorem dX3_step_47 : decode cX3_step 47 = .ok (.iload_n 2, 1) := by decide +kernel
theorem dX3_step_48 : decode cX3_step 48 = .ok (.iastore, 1) := by decide +kernel
theorem dX3_step_49 : decode cX3_step 49 = .ok (.aload_n 0, 1) := by decide +kernel
theorem dX3_step_50 : decode cX3_step 50 = .ok (.dup, 1) := by decide +kernel
theorem dX3_step_51 : decode cX3_step 51 = .ok (.getfield 54, 3) := by decide +kernel
theorem dX3_step_54 : decode cX3_step 54 = .ok (.iconst 1, 1) := by decide +kernel
theorem dX3_step_55 : decode cX3_step 55 = .ok (.iadd, 1) := by decide +kernel
theorem dX3_step_56 : decode cX3_step 56 = .ok (.putfield 54, 3) := by decide +kernel
theorem dX3_step_59 : decode cX3_step 59 = .ok (.aload_n 0, 1) := by decide +kernel
theorem dX3_step_60 : decode cX3_step 60 = .ok (.getfield 54, 3) := by decide +kernel
theorem dX3_step_63 : decode cX3_step 63 = .ok (.ireturn, 1) := by decide +kernel
theorem dX3_clear_0 : decode cX3_clear 0 = .ok (.aload_n 0, 1) := by decide +kernel
theorem dX3_clear_1 : decode cX3_clear 1 = .ok (.iconst 0, 1) := by decide +kernel
theorem dX3_clear_2 : decode cX3_clear 2 = .ok (.putfield 57, 3) := by decide +kernel
theorem dX3_clear_5 : decode cX3_clear 5 = .ok (.aload_n 0, 1) := by decide +kernel
theorem dX3_clear_6 : decode cX3_clear 6 = .ok (.getfield 54, 3) := by decide +kernel
theorem dX3_clear_9 : decode cX3_clear 9 = .ok (.istore_n 1, 1) := by decide +kernel
theorem dX3_clear_10 : decode cX3_clear 10 = .ok (.aload_n 0, 1) := by decide +kernel
theorem dX3_clear_11 : decode cX3_clear 11 = .ok (.iconst 0, 1) := by decide +kernel
theorem dX3_clear_12 : decode cX3_clear 12 = .ok (.putfield 54, 3) := by decide +kernel
theorem dX3_clear_15 : decode cX3_clear 15 = .ok (.iload_n 1, 1) := by decide +kernel
theorem dX3_clear_16 : decode cX3_clear 16 = .ok (.ireturn, 1) := by decide +kernel
set_option maxRecDepth 20000 in
theorem ggX3_alter_X3_isIn : GoodIn wsX3_alter wsX3_isIn := goodIn_r _ [8] (by decide +kernel) (by decide +kernel)
set_option maxRecDepth 20000 in
theorem gX3_alter_X3_isIn : GoodIn wsX3_alter (va_wsS RX3 60 yX3_isIn wsX3_isIn) := goodIn_app (goodIn_of _ (by decide +kernel)) ggX3_alter_X3_isIn
theorem dX3_alter_0 : decode cX3_alter 0 = .ok (.aload_n 0, 1) := by decide +kernel
theorem dX3_alter_1 : decode cX3_alter 1 = .ok (.iconst 0, 1) := by decide +kernel
theorem dX3_alter_2 : decode cX3_alter 2 = .ok (.putfield 57, 3) := by decide +kernel
theorem dX3_alter_5 : decode cX3_alter 5 = .ok (.iload_n 1, 1) := by decide +kernel
theorem dX3_alter_6 : decode cX3_alter 6 = .ok (.iconst 0, 1) := by decide +kernel
theorem dX3_alter_7 : decode cX3_alter 7 = .ok (.aload_n 0, 1) := by decide +kernel
theorem dX3_alter_8 : decode cX3_alter 8 = .ok (.getfield 54, 3) := by decide +kernel
theorem dX3_alter_11 : decode cX3_alter 11 = .ok (.iconst 1, 1) := by decide +kernel
theorem dX3_alter_12 : decode cX3_alter 12 = .ok (.isub, 1) := by decide +kernel
theorem dX3_alter_13 : decode cX3_alter 13 = .ok (.invokestatic 60, 3) := by decide +kernel
theorem dX3_alter_16 : decode cX3_alter 16 = .ok (.ifCond .eq 13, 3) := by decide +kernel
theorem dX3_alter_19 : decode cX3_alter 19 = .ok (.iload_n 2, 1) := by decide +kernel
theorem dX3_alter_20 : decode cX3_alter 20 = .ok (.iconst 0, 1) := by decide +kernel
theorem dX3_alter_21 : decode cX3_alter 21 = .ok (.bipush 8, 2) := by decide +kernel
theorem dX3_alter_23 : decode cX3_alter 23 = .ok (.invokestatic 60, 3) := by decide +kernel
theorem dX3_alter_26 : decode cX3_alter 26 = .ok (.ifCond .ne 5, 3) := by decide +kernel
theorem dX3_alter_29 : decode cX3_alter 29 = .ok (.iconst (-1), 1) := by decide +kernel
theorem dX3_alter_30 : decode cX3_alter 30 = .ok (.ireturn, 1) := by decide +kernel
theorem dX3_alter_31 : decode cX3_alter 31 = .ok (.aload_n 0, 1) := by decide +kernel
theorem dX3_alter_32 : decode cX3_alter 32 = .ok (.getfield 32, 3) := by decide +kernel
theorem dX3_alter_35 : decode cX3_alter 35 = .ok (.iload_n 1, 1) := by decide +kernel
theorem dX3_alter_36 : decode cX3_alter 36 = .ok (.iaload, 1) := by decide +kernel
theorem dX3_alter_37 : decode cX3_alter 37 = .ok (.istore 4, 2) := by decide +kernel
theorem dX3_alter_39 : decode cX3_alter 39 = .ok (.aload_n 0, 1) := by decide +kernel
theorem dX3_alter_40 : decode cX3_alter 40 = .ok (.getfield 32, 3) := by decide +kernel
theorem dX3_alter_43 : decode cX3_alter 43 = .ok (.iload_n 1, 1) := by decide +kernel
theorem dX3_alter_44 : decode cX3_alter 44 = .ok (.iload_n 2, 1) := by decide +kernel
theorem dX3_alter_45 : decode cX3_alter 45 = .ok (.iastore, 1) := by decide +kernel
theorem dX3_alter_46 : decode cX3_alter 46 = .ok (.aload_n 0, 1) := by decide +kernel
theorem dX3_alter_47 : decode cX3_alter 47 = .ok (.getfield 35, 3) := by decide +kernel
theorem dX3_alter_50 : decode cX3_alter 50 = .ok (.iload_n 1, 1) := by decide +kernel
theorem dX3_alter_51 : decode cX3_alter 51 = .ok (.iload_n 3, 1) := by decide +kernel
theorem dX3_alter_52 : decode cX3_alter 52 = .ok (.iastore, 1) := by decide +kernel
theorem dX3_alter_53 : decode cX3_alter 53 = .ok (.iload 4, 2) := by decide +kernel
theorem dX3_alter_55 : decode cX3_alter 55 = .ok (.ireturn, 1) := by decide +kernel
theorem dX3_comes_0 : decode cX3_comes 0 = .ok (.aload_n 0, 1) := by decide +kernel
theorem dX3_comes_1 : decode cX3_comes 1 = .ok (.getfield 13, 3) := by decide +kernel
theorem dX3_comes_4 : decode cX3_comes 4 = .ok (.iload_n 1, 1) := by decide +kernel
theorem dX3_comes_5 : decode cX3_comes 5 = .ok (.dup2, 1) := by decide +kernel
theorem dX3_comes_6 : decode cX3_comes 6 = .ok (.iaload, 1) := by decide +kernel
theorem dX3_comes_7 : decode cX3_comes 7 = .ok (.iload_n 2, 1) := by decide +kernel
theorem dX3_comes_8 : decode cX3_comes 8 = .ok (.iadd, 1) := by decide +kernel
theorem dX3_comes_9 : decode cX3_comes 9 = .ok (.iastore, 1) := by decide +kernel
theorem dX3_comes_10 : decode cX3_comes 10 = .ok (.aload_n 0, 1) := by decide +kernel
theorem dX3_comes_11 : decode cX3_comes 11 = .ok (.getfield 13, 3) := by decide +kernel
theorem dX3_comes_14 : decode cX3_comes 14 = .ok (.iload_n 1, 1) := by decide +kernel
theorem dX3_comes_15 : decode cX3_comes 15 = .ok (.iaload, 1) := by decide +kernel
theorem dX3_comes_16 : decode cX3_comes 16 = .ok (.bipush 10, 2) := by decide +kernel
theorem dX3_comes_18 : decode cX3_comes 18 = .ok (.aload_n 0, 1) := by decide +kernel
theorem dX3_comes_19 : decode cX3_comes 19 = .ok (.getfield 7, 3) := by decide +kernel
theorem dX3_comes_22 : decode cX3_comes 22 = .ok (.iload_n 1, 1) := by decide +kernel
theorem dX3_comes_23 : decode cX3_comes 23 = .ok (.iaload, 1) := by decide +kernel
theorem dX3_comes_24 : decode cX3_comes 24 = .ok (.imul, 1) := by decide +kernel
theorem dX3_comes_25 : decode cX3_comes 25 = .ok (.if_icmp .gt 5, 3) := by decide +kernel
theorem dX3_comes_28 : decode cX3_comes 28 = .ok (.iconst 0, 1) := by decide +kernel
theorem dX3_comes_29 : decode cX3_comes 29 = .ok (.ireturn, 1) := by decide +kernel
theorem dX3_comes_30 : decode cX3_comes 30 = .ok (.aload_n 0, 1) := by decide +kernel
theorem dX3_comes_31 : decode cX3_comes 31 = .ok (.getfield 13, 3) := by decide +kernel
theorem dX3_comes_34 : decode cX3_comes 34 = .ok (.iload_n 1, 1) := by decide +kernel
theorem dX3_comes_35 : decode cX3_comes 35 = .ok (.iconst 0, 1) := by decide +kernel
theorem dX3_comes_36 : decode cX3_comes 36 = .ok (.iastore, 1) := by decide +kernel
theorem dX3_comes_37 : decode cX3_comes 37 = .ok (.aload_n 0, 1) := by decide +kernel
theorem dX3_comes_38 : decode cX3_comes 38 = .ok (.getfield 23, 3) := by decide +kernel
theorem dX3_comes_41 : decode cX3_comes 41 = .ok (.iload_n 1, 1) := by decide +kernel
theorem dX3_comes_42 : decode cX3_comes 42 = .ok (.dup2, 1) := by decide +kernel
theorem dX3_comes_43 : decode cX3_comes 43 = .ok (.iaload, 1) := by decide +kernel
theorem dX3_comes_44 : decode cX3_comes 44 = .ok (.iconst 1, 1) := by decide +kernel
theorem dX3_comes_45 : decode cX3_comes 45 = .ok (.iadd, 1) := by decide +kernel
theorem dX3_comes_46 : decode cX3_comes 46 = .ok (.iastore, 1) := by decide +kernel
theorem dX3_comes_47 : decode cX3_comes 47 = .ok (.iconst 3, 1) := by decide +kernel
theorem dX3_comes_48 : decode cX3_comes 48 = .ok (.ireturn, 1) := by decide +kernel
theorem dX3_goIn_0 : decode cX3_goIn 0 = .ok (.aload_n 0, 1) := by decide +kernel
theorem dX3_goIn_1 : decode cX3_goIn 1 = .ok (.getfield 72, 3) := by decide +kernel
theorem dX3_goIn_4 : decode cX3_goIn 4 = .ok (.bipush 6, 2) := by decide +kernel
theorem dX3_goIn_6 : decode cX3_goIn 6 = .ok (.if_icmp .ne 5, 3) := by decide +kernel
theorem dX3_goIn_9 : decode cX3_goIn 9 = .ok (.iconst 2, 1) := by decide +kernel
theorem dX3_goIn_10 : decode cX3_goIn 10 = .ok (.ireturn, 1) := by decide +kernel
theorem dX3_goIn_11 : decode cX3_goIn 11 = .ok (.aload_n 0, 1) := by decide +kernel
theorem dX3_goIn_12 : decode cX3_goIn 12 = .ok (.getfield 7, 3) := by decide +kernel
theorem dX3_goIn_15 : decode cX3_goIn 15 = .ok (.iload_n 1, 1) := by decide +kernel
theorem dX3_goIn_16 : decode cX3_goIn 16 = .ok (.iaload, 1) := by decide +kernel
theorem dX3_goIn_17 : decode cX3_goIn 17 = .ok (.ifCond .ne 5, 3) := by decide +kernel
theorem dX3_goIn_20 : decode cX3_goIn 20 = .ok (.iconst 1, 1) := by decide +kernel
theorem dX3_goIn_21 : decode cX3_goIn 21 = .ok (.ireturn, 1) := by decide +kernel
theorem dX3_goIn_22 : decode cX3_goIn 22 = .ok (.aload_n 0, 1) := by decide +kernel
theorem dX3_goIn_23 : decode cX3_goIn 23 = .ok (.getfield 20, 3) := by decide +kernel
theorem dX3_goIn_26 : decode cX3_goIn 26 = .ok (.iload_n 1, 1) := by decide +kernel
theorem dX3_goIn_27 : decode cX3_goIn 27 = .ok (.dup2, 1) := by decide +kernel
theorem dX3_goIn_28 : decode cX3_goIn 28 = .ok (.iaload, 1) := by decide +kernel
theorem dX3_goIn_29 : decode cX3_goIn 29 = .ok (.iconst 1, 1) := by decide +kernel
theorem dX3_goIn_30 : decode cX3_goIn 30 = .ok (.iadd, 1) := by decide +kernel
theorem dX3_goIn_31 : decode cX3_goIn 31 = .ok (.iastore, 1) := by decide +kernel
theorem dX3_goIn_32 : decode cX3_goIn 32 = .ok (.aload_n 0, 1) := by decide +kernel
theorem dX3_goIn_33 : decode cX3_goIn 33 = .ok (.getfield 38, 3) := by decide +kernel
theorem dX3_goIn_36 : decode cX3_goIn 36 = .ok (.aload_n 0, 1) := by decide +kernel
theorem dX3_goIn_37 : decode cX3_goIn 37 = .ok (.getfield 72, 3) := by decide +kernel
theorem dX3_goIn_40 : decode cX3_goIn 40 = .ok (.iload_n 1, 1) := by decide +kernel
theorem dX3_goIn_41 : decode cX3_goIn 41 = .ok (.iastore, 1) := by decide +kernel
theorem dX3_goIn_42 : decode cX3_goIn 42 = .ok (.aload_n 0, 1) := by decide +kernel
theorem dX3_goIn_43 : decode cX3_goIn 43 = .ok (.getfield 41, 3) := by decide +kernel
theorem dX3_goIn_46 : decode cX3_goIn 46 = .ok (.aload_n 0, 1) := by decide +kernel
theorem dX3_goIn_47 : decode cX3_goIn 47 = .ok (.getfield 72, 3) := by decide +kernel
theorem dX3_goIn_50 : decode cX3_goIn 50 = .ok (.aload_n 0, 1) := by decide +kernel
theorem dX3_goIn_51 : decode cX3_goIn 51 = .ok (.getfield 75, 3) := by decide +kernel
theorem dX3_goIn_54 : decode cX3_goIn 54 = .ok (.iastore, 1) := by decide +kernel
theorem dX3_goIn_55 : decode cX3_goIn 55 = .ok (.aload_n 0, 1) := by decide +kernel
theorem dX3_goIn_56 : decode cX3_goIn 56 = .ok (.getfield 44, 3) := by decide +kernel
theorem dX3_goIn_59 : decode cX3_goIn 59 = .ok (.aload_n 0, 1) := by decide +kernel
theorem dX3_goIn_60 : decode cX3_goIn 60 = .ok (.getfield 72, 3) := by decide +kernel
theorem dX3_goIn_63 : decode cX3_goIn 63 = .ok (.iconst 0, 1) := by decide +kernel
theorem dX3_goIn_64 : decode cX3_goIn 64 = .ok (.iastore, 1) := by decide +kernel
theorem dX3_goIn_65 : decode cX3_goIn 65 = .ok (.aload_n 0, 1) := by decide +kernel
theorem dX3_goIn_66 : decode cX3_goIn 66 = .ok (.dup, 1) := by decide +kernel
theorem dX3_goIn_67 : decode cX3_goIn 67 = .ok (.getfield 72, 3) := by decide +kernel
theorem dX3_goIn_70 : decode cX3_goIn 70 = .ok (.iconst 1, 1) := by decide +kernel
theorem dX3_goIn_71 : decode cX3_goIn 71 = .ok (.iadd, 1) := by decide +kernel
theorem dX3_goIn_72 : decode cX3_goIn 72 = .ok (.putfield 72, 3) := by decide +kernel
theorem dX3_goIn_75 : decode cX3_goIn 75 = .ok (.iconst 0, 1) := by decide +kernel
theorem dX3_goIn_76 : decode cX3_goIn 76 = .ok (.ireturn, 1) := by decide +kernel
set_option maxRecDepth 20000 in
theorem ggX3_carry_X3_comes : GoodIn wsX3_carry wsX3_comes := goodIn_ca (goodIn_r _ [8, 3, 9, 10, 11, 12, 13, 14, 15, 16, 17, 18, 19, 20, 21, 22, 23, 24, 25, 26, 27, 28, 29, 30] (by decide +kernel) (by decide +kernel)) (goodIn_sub (fun _ h => List.mem_cons_of_mem _ (List.mem_append_right _ h)) (by decide +kernel))
set_option maxRecDepth 20000 in
theorem gX3_carry_X3_comes : GoodIn wsX3_carry (wsV RX3 78 RX3 yX3_comes wsX3_comes) := goodIn_app (goodIn_of _ (by decide +kernel)) ggX3_carry_X3_comes
theorem dX3_carry_0 : decode cX3_carry 0 = .ok (.aload_n 0, 1) := by decide +kernel
theorem dX3_carry_1 : decode cX3_carry 1 = .ok (.getfield 38, 3) := by decide +kernel
theorem dX3_carry_4 : decode cX3_carry 4 = .ok (.aload_n 0, 1) := by decide +kernel
theorem dX3_carry_5 : decode cX3_carry 5 = .ok (.getfield 72, 3) := by decide +kernel
theorem dX3_carry_8 : decode cX3_carry 8 = .ok (.iconst 1, 1) := by decide +kernel
theorem dX3_carry_9 : decode cX3_carry 9 = .ok (.isub, 1) := by decide +kernel
theorem dX3_carry_10 : decode cX3_carry 10 = .ok (.iaload, 1) := by decide +kernel
theorem dX3_carry_11 : decode cX3_carry 11 = .ok (.istore_n 2, 1) := by decide +kernel
theorem dX3_carry_12 : decode cX3_carry 12 = .ok (.aload_n 0, 1) := by decide +kernel
theorem dX3_carry_13 : decode cX3_carry 13 = .ok (.getfield 13, 3) := by decide +kernel
theorem dX3_carry_16 : decode cX3_carry 16 = .ok (.iload_n 2, 1) := by decide +kernel
theorem dX3_carry_17 : decode cX3_carry 17 = .ok (.iaload, 1) := by decide +kernel
theorem dX3_carry_18 : decode cX3_carry 18 = .ok (.iload_n 1, 1) := by decide +kernel
theorem dX3_carry_19 : decode cX3_carry 19 = .ok (.if_icmp .ge 5, 3) := by decide +kernel
theorem dX3_carry_22 : decode cX3_carry 22 = .ok (.iconst 4, 1) := by decide +kernel
theorem dX3_carry_23 : decode cX3_carry 23 = .ok (.ireturn, 1) := by decide +kernel
theorem dX3_carry_24 : decode cX3_carry 24 = .ok (.aload_n 0, 1) := by decide +kernel
theorem dX3_carry_25 : decode cX3_carry 25 = .ok (.getfield 13, 3) := by decide +kernel
theorem dX3_carry_28 : decode cX3_carry 28 = .ok (.iload_n 2, 1) := by decide +kernel
theorem dX3_carry_29 : decode cX3_carry 29 = .ok (.dup2, 1) := by decide +kernel
theorem dX3_carry_30 : decode cX3_carry 30 = .ok (.iaload, 1) := by decide +kernel
theorem dX3_carry_31 : decode cX3_carry 31 = .ok (.iload_n 1, 1) := by decide +kernel
theorem dX3_carry_32 : decode cX3_carry 32 = .ok (.isub, 1) := by decide +kernel
theorem dX3_carry_33 : decode cX3_carry 33 = .ok (.iastore, 1) := by decide +kernel
theorem dX3_carry_34 : decode cX3_carry 34 = .ok (.aload_n 0, 1) := by decide +kernel
theorem dX3_carry_35 : decode cX3_carry 35 = .ok (.aload_n 0, 1) := by decide +kernel
theorem dX3_carry_36 : decode cX3_carry 36 = .ok (.getfield 38, 3) := by decide +kernel
theorem dX3_carry_39 : decode cX3_carry 39 = .ok (.aload_n 0, 1) := by decide +kernel
theorem dX3_carry_40 : decode cX3_carry 40 = .ok (.getfield 72, 3) := by decide +kernel
theorem dX3_carry_43 : decode cX3_carry 43 = .ok (.iconst 2, 1) := by decide +kernel
theorem dX3_carry_44 : decode cX3_carry 44 = .ok (.isub, 1) := by decide +kernel
theorem dX3_carry_45 : decode cX3_carry 45 = .ok (.iaload, 1) := by decide +kernel
theorem dX3_carry_46 : decode cX3_carry 46 = .ok (.iload_n 1, 1) := by decide +kernel
theorem dX3_carry_47 : decode cX3_carry 47 = .ok (.invokevirtual 78, 3) := by decide +kernel
theorem dX3_carry_50 : decode cX3_carry 50 = .ok (.ireturn, 1) := by decide +kernel
theorem dX3_share_0 : decode cX3_share 0 = .ok (.iload_n 1, 1) := by decide +kernel
theorem dX3_share_1 : decode cX3_share 1 = .ok (.ifCond .ne 5, 3) := by decide +kernel
theorem dX3_share_4 : decode cX3_share 4 = .ok (.iconst 5, 1) := by decide +kernel
theorem dX3_share_5 : decode cX3_share 5 = .ok (.ireturn, 1) := by decide +kernel
theorem dX3_share_6 : decode cX3_share 6 = .ok (.aload_n 0, 1) := by decide +kernel
theorem dX3_share_7 : decode cX3_share 7 = .ok (.getfield 13, 3) := by decide +kernel
theorem dX3_share_10 : decode cX3_share 10 = .ok (.aload_n 0, 1) := by decide +kernel
theorem dX3_share_11 : decode cX3_share 11 = .ok (.getfield 38, 3) := by decide +kernel
theorem dX3_share_14 : decode cX3_share 14 = .ok (.aload_n 0, 1) := by decide +kernel
theorem dX3_share_15 : decode cX3_share 15 = .ok (.getfield 72, 3) := by decide +kernel
theorem dX3_share_18 : decode cX3_share 18 = .ok (.iconst 1, 1) := by decide +kernel
theorem dX3_share_19 : decode cX3_share 19 = .ok (.isub, 1) := by decide +kernel
theorem dX3_share_20 : decode cX3_share 20 = .ok (.iaload, 1) := by decide +kernel
theorem dX3_share_21 : decode cX3_share 21 = .ok (.aload_n 0, 1) := by decide +kernel
theorem dX3_share_22 : decode cX3_share 22 = .ok (.getfield 13, 3) := by decide +kernel
theorem dX3_share_25 : decode cX3_share 25 = .ok (.aload_n 0, 1) := by decide +kernel
theorem dX3_share_26 : decode cX3_share 26 = .ok (.getfield 38, 3) := by decide +kernel
theorem dX3_share_29 : decode cX3_share 29 = .ok (.aload_n 0, 1) := by decide +kernel
theorem dX3_share_30 : decode cX3_share 30 = .ok (.getfield 72, 3) := by decide +kernel
theorem dX3_share_33 : decode cX3_share 33 = .ok (.iconst 1, 1) := by decide +kernel
theorem dX3_share_34 : decode cX3_share 34 = .ok (.isub, 1) := by decide +kernel
theorem dX3_share_35 : decode cX3_share 35 = .ok (.iaload, 1) := by decide +kernel
theorem dX3_share_36 : decode cX3_share 36 = .ok (.iaload, 1) := by decide +kernel
theorem dX3_share_37 : decode cX3_share 37 = .ok (.iload_n 1, 1) := by decide +kernel
theorem dX3_share_38 : decode cX3_share 38 = .ok (.idiv, 1) := by decide +kernel
theorem dX3_share_39 : decode cX3_share 39 = .ok (.iastore, 1) := by decide +kernel
theorem dX3_share_40 : decode cX3_share 40 = .ok (.iconst 0, 1) := by decide +kernel
theorem dX3_share_41 : decode cX3_share 41 = .ok (.ireturn, 1) := by decide +kernel
set_option maxRecDepth 20000 in
theorem ggX3_write_X3_isIn : GoodIn wsX3_write wsX3_isIn := goodIn_r _ [8] (by decide +kernel) (by decide +kernel)
set_option maxRecDepth 20000 in
theorem gX3_write_X3_isIn : GoodIn wsX3_write (va_wsS RX3 60 yX3_isIn wsX3_isIn) := goodIn_app (goodIn_of _ (by decide +kernel)) ggX3_write_X3_isIn
theorem dX3_write_0 : decode cX3_write 0 = .ok (.iload_n 1, 1) := by decide +kernel
theorem dX3_write_1 : decode cX3_write 1 = .ok (.iconst 0, 1) := by decide +kernel
theorem dX3_write_2 : decode cX3_write 2 = .ok (.bipush 7, 2) := by decide +kernel
theorem dX3_write_4 : decode cX3_write 4 = .ok (.invokestatic 60, 3) := by decide +kernel
theorem dX3_write_7 : decode cX3_write 7 = .ok (.ifCond .ne 6, 3) := by decide +kernel
theorem dX3_write_10 : decode cX3_write 10 = .ok (.bipush 6, 2) := by decide +kernel
theorem dX3_write_12 : decode cX3_write 12 = .ok (.ireturn, 1) := by decide +kernel
theorem dX3_write_13 : decode cX3_write 13 = .ok (.aload_n 0, 1) := by decide +kernel
theorem dX3_write_14 : decode cX3_write 14 = .ok (.getfield 29, 3) := by decide +kernel
theorem dX3_write_17 : decode cX3_write 17 = .ok (.iload_n 1, 1) := by decide +kernel
theorem dX3_write_18 : decode cX3_write 18 = .ok (.aload_n 0, 1) := by decide +kernel
theorem dX3_write_19 : decode cX3_write 19 = .ok (.getfield 72, 3) := by decide +kernel
theorem dX3_write_22 : decode cX3_write 22 = .ok (.ifCond .ne 7, 3) := by decide +kernel
theorem dX3_write_25 : decode cX3_write 25 = .ok (.iconst (-1), 1) := by decide +kernel
theorem dX3_write_26 : decode cX3_write 26 = .ok (.goto 19, 3) := by decide +kernel
theorem dX3_write_29 : decode cX3_write 29 = .ok (.aload_n 0, 1) := by decide +kernel
theorem dX3_write_30 : decode cX3_write 30 = .ok (.getfield 13, 3) := by decide +kernel
theorem dX3_write_33 : decode cX3_write 33 = .ok (.aload_n 0, 1) := by decide +kernel
theorem dX3_write_34 : decode cX3_write 34 = .ok (.getfield 38, 3) := by decide +kernel
theorem dX3_write_37 : decode cX3_write 37 = .ok (.aload_n 0, 1) := by decide +kernel
theorem dX3_write_38 : decode cX3_write 38 = .ok (.getfield 72, 3) := by decide +kernel
theorem dX3_write_41 : decode cX3_write 41 = .ok (.iconst 1, 1) := by decide +kernel
theorem dX3_write_42 : decode cX3_write 42 = .ok (.isub, 1) := by decide +kernel
theorem dX3_write_43 : decode cX3_write 43 = .ok (.iaload, 1) := by decide +kernel
theorem dX3_write_44 : decode cX3_write 44 = .ok (.iaload, 1) := by decide +kernel
theorem dX3_write_45 : decode cX3_write 45 = .ok (.iastore, 1) := by decide +kernel
theorem dX3_write_46 : decode cX3_write 46 = .ok (.iconst 0, 1) := by decide +kernel
theorem dX3_write_47 : decode cX3_write 47 = .ok (.ireturn, 1) := by decide +kernel
set_option maxRecDepth 20000 in
theorem ggX3_does_X3_modulo : GoodIn wsX3_does wsX3_modulo := goodIn_r _ [10] (by decide +kernel) (by decide +kernel)
set_option maxRecDepth 20000 in
theorem gX3_does_X3_modulo : GoodIn wsX3_does (va_wsS RX3 82 yX3_modulo wsX3_modulo) := goodIn_app (goodIn_of _ (by decide +kernel)) ggX3_does_X3_modulo
set_option maxRecDepth 20000 in
theorem ggX3_does_X3_goIn : GoodIn wsX3_does wsX3_goIn := goodIn_ca (goodIn_r _ [14, 1, 15, 16, 2, 6, 4, 5, 39, 40, 41, 42, 43, 44, 45, 46, 47, 48, 49, 50, 51, 52, 53, 54, 55, 56, 57, 58] (by decide +kernel) (by decide +kernel)) (goodIn_sub (fun _ h => List.mem_cons_of_mem _ (List.mem_append_right _ h)) (by decide +kernel))
set_option maxRecDepth 20000 in
theorem gX3_does_X3_goIn : GoodIn wsX3_does (wsV RX3 85 RX3 yX3_goIn wsX3_goIn) := goodIn_app (goodIn_of _ (by decide +kernel)) ggX3_does_X3_goIn
set_option maxRecDepth 20000 in
theorem ggX3_does_X3_comes : GoodIn wsX3_does wsX3_comes := goodIn_ca (goodIn_r _ [20, 21, 15, 22, 39, 40, 41, 42, 43, 44, 45, 46, 47, 48, 49, 50, 51, 52, 53, 54, 55, 56, 57, 58] (by decide +kernel) (by decide +kernel)) (goodIn_sub (fun _ h => List.mem_cons_of_mem _ (List.mem_append_right _ h)) (by decide +kernel))
set_option maxRecDepth 20000 in
theorem gX3_does_X3_comes : GoodIn wsX3_does (wsV RX3 78 RX3 yX3_comes wsX3_comes) := goodIn_app (goodIn_of _ (by decide +kernel)) ggX3_does_X3_comes
set_option maxRecDepth 20000 in
theorem ggX3_does_X3_carry : GoodIn wsX3_does wsX3_carry := goodIn_ca (goodIn_r _ [26, 2, 1, 21, 17, 18, 19, 9, 20, 15, 22, 39, 40, 41, 42, 43, 44, 45, 46, 47, 48, 49, 50, 51, 52, 53, 54, 55, 56, 57, 58] (by decide +kernel) (by decide +kernel)) (goodIn_sub (fun _ h => List.mem_cons_of_mem _ (List.mem_append_right _ h)) (by decide +kernel))
set_option maxRecDepth 20000 in
theorem gX3_does_X3_carry : GoodIn wsX3_does (wsV RX3 89 RX3 yX3_carry wsX3_carry) := goodIn_app (goodIn_of _ (by decide +kernel)) ggX3_does_X3_carry
set_option maxRecDepth 20000 in
theorem ggX3_does_X3_share : GoodIn wsX3_does wsX3_share := goodIn_ca (goodIn_r _ [30, 21, 2, 1, 39, 40, 41, 42, 43, 44, 45, 46, 47, 48, 49, 50, 51, 52, 53, 54, 55, 56, 57, 58] (by decide +kernel) (by decide +kernel)) (goodIn_sub (fun _ h => List.mem_cons_of_mem _ (List.mem_append_right _ h)) (by decide +kernel))
set_option maxRecDepth 20000 in
theorem gX3_does_X3_share : GoodIn wsX3_does (wsV RX3 92 RX3 yX3_share wsX3_share) := goodIn_app (goodIn_of _ (by decide +kernel)) ggX3_does_X3_share
set_option maxRecDepth 20000 in
theorem ggX3_does_X3_write : GoodIn wsX3_does wsX3_write := goodIn_ca (goodIn_r _ [34, 35, 1, 21, 2, 36, 37, 9, 38, 39, 40, 41, 42, 43, 44, 45, 46, 47, 48, 49, 50, 51, 52, 53, 54, 55, 56, 57, 58] (by decide +kernel) (by decide +kernel)) (goodIn_sub (fun _ h => List.mem_cons_of_mem _ (List.mem_append_right _ h)) (by decide +kernel))
set_option maxRecDepth 20000 in
theorem gX3_does_X3_write : GoodIn wsX3_does (wsV RX3 95 RX3 yX3_write wsX3_write) := goodIn_app (goodIn_of _ (by decide +kernel)) ggX3_does_X3_write
theorem dX3_does_0 : decode cX3_does 0 = .ok (.iload_n 1, 1) := by decide +kernel
theorem dX3_does_1 : decode cX3_does 1 = .ok (.tableswitch 190 0 7 #[47, 58, 81, 115, 139, 161, 167, 174], 47) := by decide +kernel
theorem dX3_does_48 : decode cX3_does 48 = .ok (.aload_n 0, 1) := by decide +kernel
theorem dX3_does_49 : decode cX3_does 49 = .ok (.iload_n 2, 1) := by decide +kernel
theorem dX3_does_50 : decode cX3_does 50 = .ok (.bipush 8, 2) := by decide +kernel
theorem dX3_does_52 : decode cX3_does 52 = .ok (.invokestatic 82, 3) := by decide +kernel
theorem dX3_does_55 : decode cX3_does 55 = .ok (.invokevirtual 85, 3) := by decide +kernel
theorem dX3_does_58 : decode cX3_does 58 = .ok (.ireturn, 1) := by decide +kernel
theorem dX3_does_59 : decode cX3_does 59 = .ok (.aload_n 0, 1) := by decide +kernel
theorem dX3_does_60 : decode cX3_does 60 = .ok (.dup, 1) := by decide +kernel
theorem dX3_does_61 : decode cX3_does 61 = .ok (.getfield 72, 3) := by decide +kernel
theorem dX3_does_64 : decode cX3_does 64 = .ok (.aload_n 0, 1) := by decide +kernel
theorem dX3_does_65 : decode cX3_does 65 = .ok (.getfield 72, 3) := by decide +kernel
theorem dX3_does_68 : decode cX3_does 68 = .ok (.ifCond .le 7, 3) := by decide +kernel
theorem dX3_does_71 : decode cX3_does 71 = .ok (.iconst 1, 1) := by decide +kernel
theorem dX3_does_72 : decode cX3_does 72 = .ok (.goto 4, 3) := by decide +kernel
theorem dX3_does_75 : decode cX3_does 75 = .ok (.iconst 0, 1) := by decide +kernel
theorem dX3_does_76 : decode cX3_does 76 = .ok (.isub, 1) := by decide +kernel
theorem dX3_does_77 : decode cX3_does 77 = .ok (.putfield 72, 3) := by decide +kernel
theorem dX3_does_80 : decode cX3_does 80 = .ok (.iconst 0, 1) := by decide +kernel
theorem dX3_does_81 : decode cX3_does 81 = .ok (.ireturn, 1) := by decide +kernel
theorem dX3_does_82 : decode cX3_does 82 = .ok (.aload_n 0, 1) := by decide +kernel
theorem dX3_does_83 : decode cX3_does 83 = .ok (.getfield 72, 3) := by decide +kernel
theorem dX3_does_86 : decode cX3_does 86 = .ok (.ifCond .ne 7, 3) := by decide +kernel
theorem dX3_does_89 : decode cX3_does 89 = .ok (.iconst 0, 1) := by decide +kernel
theorem dX3_does_90 : decode cX3_does 90 = .ok (.goto 25, 3) := by decide +kernel
theorem dX3_does_93 : decode cX3_does 93 = .ok (.aload_n 0, 1) := by decide +kernel
theorem dX3_does_94 : decode cX3_does 94 = .ok (.aload_n 0, 1) := by decide +kernel
theorem dX3_does_95 : decode cX3_does 95 = .ok (.getfield 38, 3) := by decide +kernel
theorem dX3_does_98 : decode cX3_does 98 = .ok (.aload_n 0, 1) := by decide +kernel
theorem dX3_does_99 : decode cX3_does 99 = .ok (.getfield 72, 3) := by decide +kernel
theorem dX3_does_102 : decode cX3_does 102 = .ok (.iconst 1, 1) := by decide +kernel
theorem dX3_does_103 : decode cX3_does 103 = .ok (.isub, 1) := by decide +kernel
theorem dX3_does_104 : decode cX3_does 104 = .ok (.iaload, 1) := by decide +kernel
theorem dX3_does_105 : decode cX3_does 105 = .ok (.iload_n 2, 1) := by decide +kernel
theorem dX3_does_106 : decode cX3_does 106 = .ok (.sipush 1000, 3) := by decide +kernel
theorem dX3_does_109 : decode cX3_does 109 = .ok (.invokestatic 82, 3) := by decide +kernel
theorem dX3_does_112 : decode cX3_does 112 = .ok (.invokevirtual 78, 3) := by decide +kernel
theorem dX3_does_115 : decode cX3_does 115 = .ok (.ireturn, 1) := by decide +kernel
theorem dX3_does_116 : decode cX3_does 116 = .ok (.aload_n 0, 1) := by decide +kernel
theorem dX3_does_117 : decode cX3_does 117 = .ok (.getfield 72, 3) := by decide +kernel
theorem dX3_does_120 : decode cX3_does 120 = .ok (.iconst 2, 1) := by decide +kernel
theorem dX3_does_121 : decode cX3_does 121 = .ok (.if_icmp .ge 7, 3) := by decide +kernel
theorem dX3_does_124 : decode cX3_does 124 = .ok (.iconst 0, 1) := by decide +kernel
theorem dX3_does_125 : decode cX3_does 125 = .ok (.goto 14, 3) := by decide +kernel
theorem dX3_does_128 : decode cX3_does 128 = .ok (.aload_n 0, 1) := by decide +kernel
theorem dX3_does_129 : decode cX3_does 129 = .ok (.iload_n 2, 1) := by decide +kernel
theorem dX3_does_130 : decode cX3_does 130 = .ok (.sipush 1000, 3) := by decide +kernel
theorem dX3_does_133 : decode cX3_does 133 = .ok (.invokestatic 82, 3) := by decide +kernel
theorem dX3_does_136 : decode cX3_does 136 = .ok (.invokevirtual 89, 3) := by decide +kernel
theorem dX3_does_139 : decode cX3_does 139 = .ok (.ireturn, 1) := by decide +kernel
theorem dX3_does_140 : decode cX3_does 140 = .ok (.aload_n 0, 1) := by decide +kernel
theorem dX3_does_141 : decode cX3_does 141 = .ok (.getfield 72, 3) := by decide +kernel
theorem dX3_does_144 : decode cX3_does 144 = .ok (.ifCond .ne 7, 3) := by decide +kernel
theorem dX3_does_147 : decode cX3_does 147 = .ok (.iconst 0, 1) := by decide +kernel
theorem dX3_does_148 : decode cX3_does 148 = .ok (.goto 13, 3) := by decide +kernel
theorem dX3_does_151 : decode cX3_does 151 = .ok (.aload_n 0, 1) := by decide +kernel
theorem dX3_does_152 : decode cX3_does 152 = .ok (.iload_n 2, 1) := by decide +kernel
theorem dX3_does_153 : decode cX3_does 153 = .ok (.bipush 10, 2) := by decide +kernel
theorem dX3_does_155 : decode cX3_does 155 = .ok (.invokestatic 82, 3) := by decide +kernel
theorem dX3_does_158 : decode cX3_does 158 = .ok (.invokevirtual 92, 3) := by decide +kernel
theorem dX3_does_161 : decode cX3_does 161 = .ok (.ireturn, 1) := by decide +kernel
theorem dX3_does_162 : decode cX3_does 162 = .ok (.aload_n 0, 1) := by decide +kernel
theorem dX3_does_163 : decode cX3_does 163 = .ok (.iload_n 2, 1) := by decide +kernel
theorem dX3_does_164 : decode cX3_does 164 = .ok (.invokevirtual 95, 3) := by decide +kernel
theorem dX3_does_167 : decode cX3_does 167 = .ok (.ireturn, 1) := by decide +kernel
theorem dX3_does_168 : decode cX3_does 168 = .ok (.aload_n 0, 1) := by decide +kernel
theorem dX3_does_169 : decode cX3_does 169 = .ok (.iconst 1, 1) := by decide +kernel
theorem dX3_does_170 : decode cX3_does 170 = .ok (.putfield 98, 3) := by decide +kernel
theorem dX3_does_173 : decode cX3_does 173 = .ok (.iconst 0, 1) := by decide +kernel
theorem dX3_does_174 : decode cX3_does 174 = .ok (.ireturn, 1) := by decide +kernel
theorem dX3_does_175 : decode cX3_does 175 = .ok (.aload_n 0, 1) := by decide +kernel
theorem dX3_does_176 : decode cX3_does 176 = .ok (.dup, 1) := by decide +kernel
theorem dX3_does_177 : decode cX3_does 177 = .ok (.getfield 75, 3) := by decide +kernel
theorem dX3_does_180 : decode cX3_does 180 = .ok (.iload_n 2, 1) := by decide +kernel
theorem dX3_does_181 : decode cX3_does 181 = .ok (.iconst 4, 1) := by decide +kernel
theorem dX3_does_182 : decode cX3_does 182 = .ok (.invokestatic 82, 3) := by decide +kernel
theorem dX3_does_185 : decode cX3_does 185 = .ok (.iadd, 1) := by decide +kernel
theorem dX3_does_186 : decode cX3_does 186 = .ok (.putfield 75, 3) := by decide +kernel
theorem dX3_does_189 : decode cX3_does 189 = .ok (.iconst 0, 1) := by decide +kernel
theorem dX3_does_190 : decode cX3_does 190 = .ok (.ireturn, 1) := by decide +kernel
theorem dX3_does_191 : decode cX3_does 191 = .ok (.aload_n 0, 1) := by decide +kernel
theorem dX3_does_192 : decode cX3_does 192 = .ok (.getfield 72, 3) := by decide +kernel
theorem dX3_does_195 : decode cX3_does 195 = .ok (.ifCond .le 52, 3) := by decide +kernel
theorem dX3_does_198 : decode cX3_does 198 = .ok (.aload_n 0, 1) := by decide +kernel
theorem dX3_does_199 : decode cX3_does 199 = .ok (.getfield 44, 3) := by decide +kernel
theorem dX3_does_202 : decode cX3_does 202 = .ok (.aload_n 0, 1) := by decide +kernel
theorem dX3_does_203 : decode cX3_does 203 = .ok (.getfield 72, 3) := by decide +kernel
theorem dX3_does_206 : decode cX3_does 206 = .ok (.iconst 1, 1) := by decide +kernel
theorem dX3_does_207 : decode cX3_does 207 = .ok (.isub, 1) := by decide +kernel
theorem dX3_does_208 : decode cX3_does 208 = .ok (.iaload, 1) := by decide +kernel
theorem dX3_does_209 : decode cX3_does 209 = .ok (.iload_n 2, 1) := by decide +kernel
theorem dX3_does_210 : decode cX3_does 210 = .ok (.iconst 4, 1) := by decide +kernel
theorem dX3_does_211 : decode cX3_does 211 = .ok (.invokestatic 82, 3) := by decide +kernel
theorem dX3_does_214 : decode cX3_does 214 = .ok (.if_icmp .ge 33, 3) := by decide +kernel
theorem dX3_does_217 : decode cX3_does 217 = .ok (.aload_n 0, 1) := by decide +kernel
theorem dX3_does_218 : decode cX3_does 218 = .ok (.getfield 44, 3) := by decide +kernel
theorem dX3_does_221 : decode cX3_does 221 = .ok (.aload_n 0, 1) := by decide +kernel
theorem dX3_does_222 : decode cX3_does 222 = .ok (.getfield 72, 3) := by decide +kernel
theorem dX3_does_225 : decode cX3_does 225 = .ok (.iconst 1, 1) := by decide +kernel
theorem dX3_does_226 : decode cX3_does 226 = .ok (.isub, 1) := by decide +kernel
theorem dX3_does_227 : decode cX3_does 227 = .ok (.dup2, 1) := by decide +kernel
theorem dX3_does_228 : decode cX3_does 228 = .ok (.iaload, 1) := by decide +kernel
theorem dX3_does_229 : decode cX3_does 229 = .ok (.iconst 1, 1) := by decide +kernel
theorem dX3_does_230 : decode cX3_does 230 = .ok (.iadd, 1) := by decide +kernel
theorem dX3_does_231 : decode cX3_does 231 = .ok (.iastore, 1) := by decide +kernel
theorem dX3_does_232 : decode cX3_does 232 = .ok (.aload_n 0, 1) := by decide +kernel
theorem dX3_does_233 : decode cX3_does 233 = .ok (.aload_n 0, 1) := by decide +kernel
theorem dX3_does_234 : decode cX3_does 234 = .ok (.getfield 41, 3) := by decide +kernel
theorem dX3_does_237 : decode cX3_does 237 = .ok (.aload_n 0, 1) := by decide +kernel
theorem dX3_does_238 : decode cX3_does 238 = .ok (.getfield 72, 3) := by decide +kernel
theorem dX3_does_241 : decode cX3_does 241 = .ok (.iconst 1, 1) := by decide +kernel
theorem dX3_does_242 : decode cX3_does 242 = .ok (.isub, 1) := by decide +kernel
theorem dX3_does_243 : decode cX3_does 243 = .ok (.iaload, 1) := by decide +kernel
theorem dX3_does_244 : decode cX3_does 244 = .ok (.putfield 75, 3) := by decide +kernel
theorem dX3_does_247 : decode cX3_does 247 = .ok (.iconst 0, 1) := by decide +kernel
theorem dX3_does_248 : decode cX3_does 248 = .ok (.ireturn, 1) := by decide +kernel
theorem dX3_isCaught_0 : decode cX3_isCaught 0 = .ok (.aload_n 0, 1) := by decide +kernel
theorem dX3_isCaught_1 : decode cX3_isCaught 1 = .ok (.getfield 72, 3) := by decide +kernel
theorem dX3_isCaught_4 : decode cX3_isCaught 4 = .ok (.ifCond .le 50, 3) := by decide +kernel
theorem dX3_isCaught_7 : decode cX3_isCaught 7 = .ok (.aload_n 0, 1) := by decide +kernel
theorem dX3_isCaught_8 : decode cX3_isCaught 8 = .ok (.dup, 1) := by decide +kernel
theorem dX3_isCaught_9 : decode cX3_isCaught 9 = .ok (.getfield 72, 3) := by decide +kernel
theorem dX3_isCaught_12 : decode cX3_isCaught 12 = .ok (.iconst 1, 1) := by decide +kernel
theorem dX3_isCaught_13 : decode cX3_isCaught 13 = .ok (.isub, 1) := by decide +kernel
theorem dX3_isCaught_14 : decode cX3_isCaught 14 = .ok (.putfield 72, 3) := by decide +kernel
theorem dX3_isCaught_17 : decode cX3_isCaught 17 = .ok (.aload_n 0, 1) := by decide +kernel
theorem dX3_isCaught_18 : decode cX3_isCaught 18 = .ok (.getfield 16, 3) := by decide +kernel
theorem dX3_isCaught_21 : decode cX3_isCaught 21 = .ok (.aload_n 0, 1) := by decide +kernel
theorem dX3_isCaught_22 : decode cX3_isCaught 22 = .ok (.getfield 38, 3) := by decide +kernel
theorem dX3_isCaught_25 : decode cX3_isCaught 25 = .ok (.aload_n 0, 1) := by decide +kernel
theorem dX3_isCaught_26 : decode cX3_isCaught 26 = .ok (.getfield 72, 3) := by decide +kernel
theorem dX3_isCaught_29 : decode cX3_isCaught 29 = .ok (.iaload, 1) := by decide +kernel
theorem dX3_isCaught_30 : decode cX3_isCaught 30 = .ok (.baload, 1) := by decide +kernel
theorem dX3_isCaught_31 : decode cX3_isCaught 31 = .ok (.ifCond .eq (-31), 3) := by decide +kernel
theorem dX3_isCaught_34 : decode cX3_isCaught 34 = .ok (.aload_n 0, 1) := by decide +kernel
theorem dX3_isCaught_35 : decode cX3_isCaught 35 = .ok (.getfield 26, 3) := by decide +kernel
theorem dX3_isCaught_38 : decode cX3_isCaught 38 = .ok (.aload_n 0, 1) := by decide +kernel
theorem dX3_isCaught_39 : decode cX3_isCaught 39 = .ok (.getfield 38, 3) := by decide +kernel
theorem dX3_isCaught_42 : decode cX3_isCaught 42 = .ok (.aload_n 0, 1) := by decide +kernel
theorem dX3_isCaught_43 : decode cX3_isCaught 43 = .ok (.getfield 72, 3) := by decide +kernel
theorem dX3_isCaught_46 : decode cX3_isCaught 46 = .ok (.iaload, 1) := by decide +kernel
theorem dX3_isCaught_47 : decode cX3_isCaught 47 = .ok (.dup2, 1) := by decide +kernel
theorem dX3_isCaught_48 : decode cX3_isCaught 48 = .ok (.iaload, 1) := by decide +kernel
theorem dX3_isCaught_49 : decode cX3_isCaught 49 = .ok (.iconst 1, 1) := by decide +kernel
theorem dX3_isCaught_50 : decode cX3_isCaught 50 = .ok (.iadd, 1) := by decide +kernel
theorem dX3_isCaught_51 : decode cX3_isCaught 51 = .ok (.iastore, 1) := by decide +kernel
theorem dX3_isCaught_52 : decode cX3_isCaught 52 = .ok (.iconst 1, 1) := by decide +kernel
theorem dX3_isCaught_53 : decode cX3_isCaught 53 = .ok (.ireturn, 1) := by decide +kernel
theorem dX3_isCaught_54 : decode cX3_isCaught 54 = .ok (.iconst 0, 1) := by decide +kernel
theorem dX3_isCaught_55 : decode cX3_isCaught 55 = .ok (.ireturn, 1) := by decide +kernel
set_option maxRecDepth 20000 in
theorem ggX3_run_X3_does : GoodIn wsX3_run wsX3_does := goodIn_ca (goodIn_r _ [15, 4, 16, 6, 5, 17, 18, 19, 20, 14, 21, 22, 23, 24, 25, 26, 27, 28, 29, 30, 31, 32, 33, 34, 35, 36, 37, 38, 39, 40, 41, 42, 43, 44, 45, 46, 47, 48, 49, 56, 57, 58, 59, 60, 61, 62, 63, 64, 65, 66, 67, 68, 69, 70, 71, 72, 73, 74, 75] (by decide +kernel) (by decide +kernel)) (goodIn_sub (fun _ h => List.mem_cons_of_mem _ (List.mem_append_right _ h)) (by decide +kernel))
set_option maxRecDepth 20000 in
theorem gX3_run_X3_does : GoodIn wsX3_run (wsV RX3 105 RX3 yX3_does wsX3_does) := goodIn_app (goodIn_of _ (by decide +kernel)) ggX3_run_X3_does
set_option maxRecDepth 20000 in
theorem ggX3_run_X3_isCaught : GoodIn wsX3_run wsX3_isCaught := goodIn_ca (goodIn_r _ [53, 4, 54, 16, 55, 56, 57, 58, 59, 60, 61, 62, 63, 64, 65, 66, 67, 68, 69, 70, 71, 72, 73, 74, 75] (by decide +kernel) (by decide +kernel)) (goodIn_sub (fun _ h => List.mem_cons_of_mem _ (List.mem_append_right _ h)) (by decide +kernel))
set_option maxRecDepth 20000 in
theorem gX3_run_X3_isCaught : GoodIn wsX3_run (wsV RX3 108 RX3 yX3_isCaught wsX3_isCaught) := goodIn_app (goodIn_of _ (by decide +kernel)) ggX3_run_X3_isCaught
theorem dX3_run_0 : decode cX3_run 0 = .ok (.aload_n 0, 1) := by decide +kernel
theorem dX3_run_1 : decode cX3_run 1 = .ok (.iconst 0, 1) := by decide +kernel
theorem dX3_run_2 : decode cX3_run 2 = .ok (.putfield 57, 3) := by decide +kernel
theorem dX3_run_5 : decode cX3_run 5 = .ok (.aload_n 0, 1) := by decide +kernel
theorem dX3_run_6 : decode cX3_run 6 = .ok (.getfield 51, 3) := by decide +kernel
theorem dX3_run_9 : decode cX3_run 9 = .ok (.iconst 2, 1) := by decide +kernel
theorem dX3_run_10 : decode cX3_run 10 = .ok (.dup2, 1) := by decide +kernel
theorem dX3_run_11 : decode cX3_run 11 = .ok (.iaload, 1) := by decide +kernel
theorem dX3_run_12 : decode cX3_run 12 = .ok (.iconst 1, 1) := by decide +kernel
theorem dX3_run_13 : decode cX3_run 13 = .ok (.iadd, 1) := by decide +kernel
theorem dX3_run_14 : decode cX3_run 14 = .ok (.iastore, 1) := by decide +kernel
theorem dX3_run_15 : decode cX3_run 15 = .ok (.aload_n 0, 1) := by decide +kernel
theorem dX3_run_16 : decode cX3_run 16 = .ok (.iconst 0, 1) := by decide +kernel
theorem dX3_run_17 : decode cX3_run 17 = .ok (.putfield 102, 3) := by decide +kernel
theorem dX3_run_20 : decode cX3_run 20 = .ok (.aload_n 0, 1) := by decide +kernel
theorem dX3_run_21 : decode cX3_run 21 = .ok (.iconst 0, 1) := by decide +kernel
theorem dX3_run_22 : decode cX3_run 22 = .ok (.putfield 72, 3) := by decide +kernel
theorem dX3_run_25 : decode cX3_run 25 = .ok (.aload_n 0, 1) := by decide +kernel
theorem dX3_run_26 : decode cX3_run 26 = .ok (.iconst 0, 1) := by decide +kernel
theorem dX3_run_27 : decode cX3_run 27 = .ok (.putfield 75, 3) := by decide +kernel
theorem dX3_run_30 : decode cX3_run 30 = .ok (.aload_n 0, 1) := by decide +kernel
theorem dX3_run_31 : decode cX3_run 31 = .ok (.iconst 0, 1) := by decide +kernel
theorem dX3_run_32 : decode cX3_run 32 = .ok (.putfield 98, 3) := by decide +kernel
theorem dX3_run_35 : decode cX3_run 35 = .ok (.aload_n 0, 1) := by decide +kernel
theorem dX3_run_36 : decode cX3_run 36 = .ok (.getfield 75, 3) := by decide +kernel
theorem dX3_run_39 : decode cX3_run 39 = .ok (.aload_n 0, 1) := by decide +kernel
theorem dX3_run_40 : decode cX3_run 40 = .ok (.getfield 54, 3) := by decide +kernel
theorem dX3_run_43 : decode cX3_run 43 = .ok (.if_icmp .ge 124, 3) := by decide +kernel
theorem dX3_run_46 : decode cX3_run 46 = .ok (.aload_n 0, 1) := by decide +kernel
theorem dX3_run_47 : decode cX3_run 47 = .ok (.getfield 98, 3) := by decide +kernel
theorem dX3_run_50 : decode cX3_run 50 = .ok (.ifCond .ne 117, 3) := by decide +kernel
theorem dX3_run_53 : decode cX3_run 53 = .ok (.aload_n 0, 1) := by decide +kernel
theorem dX3_run_54 : decode cX3_run 54 = .ok (.getfield 102, 3) := by decide +kernel
theorem dX3_run_57 : decode cX3_run 57 = .ok (.bipush 80, 2) := by decide +kernel
theorem dX3_run_59 : decode cX3_run 59 = .ok (.if_icmp .ne 16, 3) := by decide +kernel
theorem dX3_run_62 : decode cX3_run 62 = .ok (.aload_n 0, 1) := by decide +kernel
theorem dX3_run_63 : decode cX3_run 63 = .ok (.getfield 51, 3) := by decide +kernel
theorem dX3_run_66 : decode cX3_run 66 = .ok (.iconst 4, 1) := by decide +kernel
theorem dX3_run_67 : decode cX3_run 67 = .ok (.dup2, 1) := by decide +kernel
theorem dX3_run_68 : decode cX3_run 68 = .ok (.iaload, 1) := by decide +kernel
theorem dX3_run_69 : decode cX3_run 69 = .ok (.iconst 1, 1) := by decide +kernel
theorem dX3_run_70 : decode cX3_run 70 = .ok (.iadd, 1) := by decide +kernel
theorem dX3_run_71 : decode cX3_run 71 = .ok (.iastore, 1) := by decide +kernel
theorem dX3_run_72 : decode cX3_run 72 = .ok (.bipush (-3), 2) := by decide +kernel
theorem dX3_run_74 : decode cX3_run 74 = .ok (.ireturn, 1) := by decide +kernel
theorem dX3_run_75 : decode cX3_run 75 = .ok (.aload_n 0, 1) := by decide +kernel
theorem dX3_run_76 : decode cX3_run 76 = .ok (.dup, 1) := by decide +kernel
theorem dX3_run_77 : decode cX3_run 77 = .ok (.getfield 102, 3) := by decide +kernel
theorem dX3_run_80 : decode cX3_run 80 = .ok (.iconst 1, 1) := by decide +kernel
theorem dX3_run_81 : decode cX3_run 81 = .ok (.iadd, 1) := by decide +kernel
theorem dX3_run_82 : decode cX3_run 82 = .ok (.putfield 102, 3) := by decide +kernel
theorem dX3_run_85 : decode cX3_run 85 = .ok (.aload_n 0, 1) := by decide +kernel
theorem dX3_run_86 : decode cX3_run 86 = .ok (.getfield 75, 3) := by decide +kernel
theorem dX3_run_89 : decode cX3_run 89 = .ok (.istore_n 1, 1) := by decide +kernel
theorem dX3_run_90 : decode cX3_run 90 = .ok (.aload_n 0, 1) := by decide +kernel
theorem dX3_run_91 : decode cX3_run 91 = .ok (.dup, 1) := by decide +kernel
theorem dX3_run_92 : decode cX3_run 92 = .ok (.getfield 75, 3) := by decide +kernel
theorem dX3_run_95 : decode cX3_run 95 = .ok (.iconst 1, 1) := by decide +kernel
theorem dX3_run_96 : decode cX3_run 96 = .ok (.iadd, 1) := by decide +kernel
theorem dX3_run_97 : decode cX3_run 97 = .ok (.putfield 75, 3) := by decide +kernel
theorem dX3_run_100 : decode cX3_run 100 = .ok (.aload_n 0, 1) := by decide +kernel
theorem dX3_run_101 : decode cX3_run 101 = .ok (.aload_n 0, 1) := by decide +kernel
theorem dX3_run_102 : decode cX3_run 102 = .ok (.getfield 32, 3) := by decide +kernel
theorem dX3_run_105 : decode cX3_run 105 = .ok (.iload_n 1, 1) := by decide +kernel
theorem dX3_run_106 : decode cX3_run 106 = .ok (.iaload, 1) := by decide +kernel
theorem dX3_run_107 : decode cX3_run 107 = .ok (.aload_n 0, 1) := by decide +kernel
theorem dX3_run_108 : decode cX3_run 108 = .ok (.getfield 35, 3) := by decide +kernel
theorem dX3_run_111 : decode cX3_run 111 = .ok (.iload_n 1, 1) := by decide +kernel
theorem dX3_run_112 : decode cX3_run 112 = .ok (.iaload, 1) := by decide +kernel
theorem dX3_run_113 : decode cX3_run 113 = .ok (.invokevirtual 105, 3) := by decide +kernel
theorem dX3_run_116 : decode cX3_run 116 = .ok (.istore_n 2, 1) := by decide +kernel
theorem dX3_run_117 : decode cX3_run 117 = .ok (.iload_n 2, 1) := by decide +kernel
theorem dX3_run_118 : decode cX3_run 118 = .ok (.ifCond .ne 6, 3) := by decide +kernel
theorem dX3_run_121 : decode cX3_run 121 = .ok (.goto (-86), 3) := by decide +kernel
theorem dX3_run_124 : decode cX3_run 124 = .ok (.aload_n 0, 1) := by decide +kernel
theorem dX3_run_125 : decode cX3_run 125 = .ok (.iload_n 1, 1) := by decide +kernel
theorem dX3_run_126 : decode cX3_run 126 = .ok (.putfield 47, 3) := by decide +kernel
theorem dX3_run_129 : decode cX3_run 129 = .ok (.aload_n 0, 1) := by decide +kernel
theorem dX3_run_130 : decode cX3_run 130 = .ok (.getfield 51, 3) := by decide +kernel
theorem dX3_run_133 : decode cX3_run 133 = .ok (.bipush 10, 2) := by decide +kernel
theorem dX3_run_135 : decode cX3_run 135 = .ok (.iload_n 2, 1) := by decide +kernel
theorem dX3_run_136 : decode cX3_run 136 = .ok (.iadd, 1) := by decide +kernel
theorem dX3_run_137 : decode cX3_run 137 = .ok (.dup2, 1) := by decide +kernel
theorem dX3_run_138 : decode cX3_run 138 = .ok (.iaload, 1) := by decide +kernel
theorem dX3_run_139 : decode cX3_run 139 = .ok (.iconst 1, 1) := by decide +kernel
theorem dX3_run_140 : decode cX3_run 140 = .ok (.iadd, 1) := by decide +kernel
theorem dX3_run_141 : decode cX3_run 141 = .ok (.iastore, 1) := by decide +kernel
theorem dX3_run_142 : decode cX3_run 142 = .ok (.aload_n 0, 1) := by decide +kernel
theorem dX3_run_143 : decode cX3_run 143 = .ok (.invokevirtual 108, 3) := by decide +kernel
theorem dX3_run_146 : decode cX3_run 146 = .ok (.ifCond .ne 18, 3) := by decide +kernel
theorem dX3_run_149 : decode cX3_run 149 = .ok (.aload_n 0, 1) := by decide +kernel
theorem dX3_run_150 : decode cX3_run 150 = .ok (.getfield 51, 3) := by decide +kernel
theorem dX3_run_153 : decode cX3_run 153 = .ok (.iconst 3, 1) := by decide +kernel
theorem dX3_run_154 : decode cX3_run 154 = .ok (.dup2, 1) := by decide +kernel
theorem dX3_run_155 : decode cX3_run 155 = .ok (.iaload, 1) := by decide +kernel
theorem dX3_run_156 : decode cX3_run 156 = .ok (.iconst 1, 1) := by decide +kernel
theorem dX3_run_157 : decode cX3_run 157 = .ok (.iadd, 1) := by decide +kernel
theorem dX3_run_158 : decode cX3_run 158 = .ok (.iastore, 1) := by decide +kernel
theorem dX3_run_159 : decode cX3_run 159 = .ok (.bipush (-10), 2) := by decide +kernel
theorem dX3_run_161 : decode cX3_run 161 = .ok (.iload_n 2, 1) := by decide +kernel
theorem dX3_run_162 : decode cX3_run 162 = .ok (.isub, 1) := by decide +kernel
theorem dX3_run_163 : decode cX3_run 163 = .ok (.ireturn, 1) := by decide +kernel
theorem dX3_run_164 : decode cX3_run 164 = .ok (.goto (-129), 3) := by decide +kernel
theorem dX3_run_167 : decode cX3_run 167 = .ok (.aload_n 0, 1) := by decide +kernel
theorem dX3_run_168 : decode cX3_run 168 = .ok (.getfield 51, 3) := by decide +kernel
theorem dX3_run_171 : decode cX3_run 171 = .ok (.iconst 5, 1) := by decide +kernel
theorem dX3_run_172 : decode cX3_run 172 = .ok (.dup2, 1) := by decide +kernel
theorem dX3_run_173 : decode cX3_run 173 = .ok (.iaload, 1) := by decide +kernel
theorem dX3_run_174 : decode cX3_run 174 = .ok (.aload_n 0, 1) := by decide +kernel
theorem dX3_run_175 : decode cX3_run 175 = .ok (.getfield 98, 3) := by decide +kernel
theorem dX3_run_178 : decode cX3_run 178 = .ok (.ifCond .eq 7, 3) := by decide +kernel
theorem dX3_run_181 : decode cX3_run 181 = .ok (.iconst 1, 1) := by decide +kernel
theorem dX3_run_182 : decode cX3_run 182 = .ok (.goto 4, 3) := by decide +kernel
theorem dX3_run_185 : decode cX3_run 185 = .ok (.iconst 0, 1) := by decide +kernel
theorem dX3_run_186 : decode cX3_run 186 = .ok (.iadd, 1) := by decide +kernel
theorem dX3_run_187 : decode cX3_run 187 = .ok (.iastore, 1) := by decide +kernel
theorem dX3_run_188 : decode cX3_run 188 = .ok (.aload_n 0, 1) := by decide +kernel
theorem dX3_run_189 : decode cX3_run 189 = .ok (.getfield 102, 3) := by decide +kernel
theorem dX3_run_192 : decode cX3_run 192 = .ok (.ireturn, 1) := by decide +kernel
theorem dX3_begun_0 : decode cX3_begun 0 = .ok (.aload_n 0, 1) := by decide +kernel
theorem dX3_begun_1 : decode cX3_begun 1 = .ok (.iconst 0, 1) := by decide +kernel
theorem dX3_begun_2 : decode cX3_begun 2 = .ok (.putfield 57, 3) := by decide +kernel
theorem dX3_begun_5 : decode cX3_begun 5 = .ok (.aload_n 0, 1) := by decide +kernel
theorem dX3_begun_6 : decode cX3_begun 6 = .ok (.getfield 102, 3) := by decide +kernel
theorem dX3_begun_9 : decode cX3_begun 9 = .ok (.ireturn, 1) := by decide +kernel
theorem dX3_where_0 : decode cX3_where 0 = .ok (.aload_n 0, 1) := by decide +kernel
theorem dX3_where_1 : decode cX3_where 1 = .ok (.iconst 0, 1) := by decide +kernel
theorem dX3_where_2 : decode cX3_where 2 = .ok (.putfield 57, 3) := by decide +kernel
theorem dX3_where_5 : decode cX3_where 5 = .ok (.aload_n 0, 1) := by decide +kernel
theorem dX3_where_6 : decode cX3_where 6 = .ok (.getfield 47, 3) := by decide +kernel
theorem dX3_where_9 : decode cX3_where 9 = .ok (.ireturn, 1) := by decide +kernel
set_option maxRecDepth 20000 in
theorem ggX3_house_X3_isHouse : GoodIn wsX3_house wsX3_isHouse := goodIn_ca (goodIn_r _ [12, 2, 13, 14, 11, 15, 16, 17, 18, 19, 20, 21, 22, 23, 24, 25, 26, 27, 28, 29, 30, 31, 32, 33, 34, 35, 36, 37, 38] (by decide +kernel) (by decide +kernel)) (goodIn_sub (fun _ h => List.mem_cons_of_mem _ (List.mem_append_right _ h)) (by decide +kernel))
set_option maxRecDepth 20000 in
theorem gX3_house_X3_isHouse : GoodIn wsX3_house (wsV RX3 112 RX3 yX3_isHouse wsX3_isHouse) := goodIn_app (goodIn_of _ (by decide +kernel)) ggX3_house_X3_isHouse
theorem dX3_house_0 : decode cX3_house 0 = .ok (.aload_n 0, 1) := by decide +kernel
theorem dX3_house_1 : decode cX3_house 1 = .ok (.iconst 0, 1) := by decide +kernel
theorem dX3_house_2 : decode cX3_house 2 = .ok (.putfield 57, 3) := by decide +kernel
theorem dX3_house_5 : decode cX3_house 5 = .ok (.aload_n 0, 1) := by decide +kernel
theorem dX3_house_6 : decode cX3_house 6 = .ok (.iload_n 1, 1) := by decide +kernel
theorem dX3_house_7 : decode cX3_house 7 = .ok (.invokevirtual 112, 3) := by decide +kernel
theorem dX3_house_10 : decode cX3_house 10 = .ok (.ifCond .ne 5, 3) := by decide +kernel
theorem dX3_house_13 : decode cX3_house 13 = .ok (.iconst (-1), 1) := by decide +kernel
theorem dX3_house_14 : decode cX3_house 14 = .ok (.ireturn, 1) := by decide +kernel
theorem dX3_house_15 : decode cX3_house 15 = .ok (.iload_n 2, 1) := by decide +kernel
theorem dX3_house_16 : decode cX3_house 16 = .ok (.tableswitch 96 0 6 #[44, 51, 58, 73, 80, 87, 94], 44) := by decide +kernel
theorem dX3_house_60 : decode cX3_house 60 = .ok (.aload_n 0, 1) := by decide +kernel
theorem dX3_house_61 : decode cX3_house 61 = .ok (.getfield 7, 3) := by decide +kernel
theorem dX3_house_64 : decode cX3_house 64 = .ok (.iload_n 1, 1) := by decide +kernel
theorem dX3_house_65 : decode cX3_house 65 = .ok (.iaload, 1) := by decide +kernel
theorem dX3_house_66 : decode cX3_house 66 = .ok (.ireturn, 1) := by decide +kernel
theorem dX3_house_67 : decode cX3_house 67 = .ok (.aload_n 0, 1) := by decide +kernel
theorem dX3_house_68 : decode cX3_house 68 = .ok (.getfield 13, 3) := by decide +kernel
theorem dX3_house_71 : decode cX3_house 71 = .ok (.iload_n 1, 1) := by decide +kernel
theorem dX3_house_72 : decode cX3_house 72 = .ok (.iaload, 1) := by decide +kernel
theorem dX3_house_73 : decode cX3_house 73 = .ok (.ireturn, 1) := by decide +kernel
theorem dX3_house_74 : decode cX3_house 74 = .ok (.aload_n 0, 1) := by decide +kernel
theorem dX3_house_75 : decode cX3_house 75 = .ok (.getfield 16, 3) := by decide +kernel
theorem dX3_house_78 : decode cX3_house 78 = .ok (.iload_n 1, 1) := by decide +kernel
theorem dX3_house_79 : decode cX3_house 79 = .ok (.baload, 1) := by decide +kernel
theorem dX3_house_80 : decode cX3_house 80 = .ok (.ifCond .eq 7, 3) := by decide +kernel
theorem dX3_house_83 : decode cX3_house 83 = .ok (.iconst 1, 1) := by decide +kernel
theorem dX3_house_84 : decode cX3_house 84 = .ok (.goto 4, 3) := by decide +kernel
theorem dX3_house_87 : decode cX3_house 87 = .ok (.iconst 0, 1) := by decide +kernel
theorem dX3_house_88 : decode cX3_house 88 = .ok (.ireturn, 1) := by decide +kernel
theorem dX3_house_89 : decode cX3_house 89 = .ok (.aload_n 0, 1) := by decide +kernel
theorem dX3_house_90 : decode cX3_house 90 = .ok (.getfield 20, 3) := by decide +kernel
theorem dX3_house_93 : decode cX3_house 93 = .ok (.iload_n 1, 1) := by decide +kernel
theorem dX3_house_94 : decode cX3_house 94 = .ok (.iaload, 1) := by decide +kernel
theorem dX3_house_95 : decode cX3_house 95 = .ok (.ireturn, 1) := by decide +kernel
theorem dX3_house_96 : decode cX3_house 96 = .ok (.aload_n 0, 1) := by decide +kernel
theorem dX3_house_97 : decode cX3_house 97 = .ok (.getfield 23, 3) := by decide +kernel
theorem dX3_house_100 : decode cX3_house 100 = .ok (.iload_n 1, 1) := by decide +kernel
theorem dX3_house_101 : decode cX3_house 101 = .ok (.iaload, 1) := by decide +kernel
theorem dX3_house_102 : decode cX3_house 102 = .ok (.ireturn, 1) := by decide +kernel
theorem dX3_house_103 : decode cX3_house 103 = .ok (.aload_n 0, 1) := by decide +kernel
theorem dX3_house_104 : decode cX3_house 104 = .ok (.getfield 26, 3) := by decide +kernel
theorem dX3_house_107 : decode cX3_house 107 = .ok (.iload_n 1, 1) := by decide +kernel
theorem dX3_house_108 : decode cX3_house 108 = .ok (.iaload, 1) := by decide +kernel
theorem dX3_house_109 : decode cX3_house 109 = .ok (.ireturn, 1) := by decide +kernel
theorem dX3_house_110 : decode cX3_house 110 = .ok (.iconst 0, 1) := by decide +kernel
theorem dX3_house_111 : decode cX3_house 111 = .ok (.ireturn, 1) := by decide +kernel
theorem dX3_house_112 : decode cX3_house 112 = .ok (.iconst (-1), 1) := by decide +kernel
theorem dX3_house_113 : decode cX3_house 113 = .ok (.ireturn, 1) := by decide +kernel
set_option maxRecDepth 20000 in
theorem ggX3_row_X3_isIn : GoodIn wsX3_row wsX3_isIn := goodIn_r _ [6] (by decide +kernel) (by decide +kernel)
set_option maxRecDepth 20000 in
theorem gX3_row_X3_isIn : GoodIn wsX3_row (va_wsS RX3 60 yX3_isIn wsX3_isIn) := goodIn_app (goodIn_of _ (by decide +kernel)) ggX3_row_X3_isIn
theorem dX3_row_0 : decode cX3_row 0 = .ok (.aload_n 0, 1) := by decide +kernel
theorem dX3_row_1 : decode cX3_row 1 = .ok (.iload_n 1, 1) := by decide +kernel
theorem dX3_row_2 : decode cX3_row 2 = .ok (.iconst 0, 1) := by decide +kernel
theorem dX3_row_3 : decode cX3_row 3 = .ok (.bipush 7, 2) := by decide +kernel
theorem dX3_row_5 : decode cX3_row 5 = .ok (.invokestatic 60, 3) := by decide +kernel
theorem dX3_row_8 : decode cX3_row 8 = .ok (.ifCond .eq 7, 3) := by decide +kernel
theorem dX3_row_11 : decode cX3_row 11 = .ok (.iconst 0, 1) := by decide +kernel
theorem dX3_row_12 : decode cX3_row 12 = .ok (.goto 4, 3) := by decide +kernel
theorem dX3_row_15 : decode cX3_row 15 = .ok (.iconst 1, 1) := by decide +kernel
theorem dX3_row_16 : decode cX3_row 16 = .ok (.putfield 57, 3) := by decide +kernel
theorem dX3_row_19 : decode cX3_row 19 = .ok (.aload_n 0, 1) := by decide +kernel
theorem dX3_row_20 : decode cX3_row 20 = .ok (.getfield 57, 3) := by decide +kernel
theorem dX3_row_23 : decode cX3_row 23 = .ok (.ifCond .ne 12, 3) := by decide +kernel
theorem dX3_row_26 : decode cX3_row 26 = .ok (.aload_n 0, 1) := by decide +kernel
theorem dX3_row_27 : decode cX3_row 27 = .ok (.getfield 29, 3) := by decide +kernel
theorem dX3_row_30 : decode cX3_row 30 = .ok (.iload_n 1, 1) := by decide +kernel
theorem dX3_row_31 : decode cX3_row 31 = .ok (.iaload, 1) := by decide +kernel
theorem dX3_row_32 : decode cX3_row 32 = .ok (.goto 4, 3) := by decide +kernel
theorem dX3_row_35 : decode cX3_row 35 = .ok (.iconst 0, 1) := by decide +kernel
theorem dX3_row_36 : decode cX3_row 36 = .ok (.ireturn, 1) := by decide +kernel
set_option maxRecDepth 20000 in
theorem ggX3_count_X3_isIn : GoodIn wsX3_count wsX3_isIn := goodIn_r _ [8] (by decide +kernel) (by decide +kernel)
set_option maxRecDepth 20000 in
theorem gX3_count_X3_isIn : GoodIn wsX3_count (va_wsS RX3 60 yX3_isIn wsX3_isIn) := goodIn_app (goodIn_of _ (by decide +kernel)) ggX3_count_X3_isIn
theorem dX3_count_0 : decode cX3_count 0 = .ok (.aload_n 0, 1) := by decide +kernel
theorem dX3_count_1 : decode cX3_count 1 = .ok (.iconst 0, 1) := by decide +kernel
theorem dX3_count_2 : decode cX3_count 2 = .ok (.putfield 57, 3) := by decide +kernel
theorem dX3_count_5 : decode cX3_count 5 = .ok (.iload_n 1, 1) := by decide +kernel
theorem dX3_count_6 : decode cX3_count 6 = .ok (.ifCond .ne 38, 3) := by decide +kernel
theorem dX3_count_9 : decode cX3_count 9 = .ok (.iconst 0, 1) := by decide +kernel
theorem dX3_count_10 : decode cX3_count 10 = .ok (.istore_n 2, 1) := by decide +kernel
theorem dX3_count_11 : decode cX3_count 11 = .ok (.iconst 0, 1) := by decide +kernel
theorem dX3_count_12 : decode cX3_count 12 = .ok (.istore_n 3, 1) := by decide +kernel
theorem dX3_count_13 : decode cX3_count 13 = .ok (.iload_n 3, 1) := by decide +kernel
theorem dX3_count_14 : decode cX3_count 14 = .ok (.bipush 8, 2) := by decide +kernel
theorem dX3_count_16 : decode cX3_count 16 = .ok (.if_icmp .ge 26, 3) := by decide +kernel
theorem dX3_count_19 : decode cX3_count 19 = .ok (.iload_n 2, 1) := by decide +kernel
theorem dX3_count_20 : decode cX3_count 20 = .ok (.aload_n 0, 1) := by decide +kernel
theorem dX3_count_21 : decode cX3_count 21 = .ok (.getfield 7, 3) := by decide +kernel
theorem dX3_count_24 : decode cX3_count 24 = .ok (.iload_n 3, 1) := by decide +kernel
theorem dX3_count_25 : decode cX3_count 25 = .ok (.iaload, 1) := by decide +kernel
theorem dX3_count_26 : decode cX3_count 26 = .ok (.ifCond .le 7, 3) := by decide +kernel
theorem dX3_count_29 : decode cX3_count 29 = .ok (.iconst 1, 1) := by decide +kernel
theorem dX3_count_30 : decode cX3_count 30 = .ok (.goto 4, 3) := by decide +kernel
theorem dX3_count_33 : decode cX3_count 33 = .ok (.iconst 0, 1) := by decide +kernel
theorem dX3_count_34 : decode cX3_count 34 = .ok (.iadd, 1) := by decide +kernel
theorem dX3_count_35 : decode cX3_count 35 = .ok (.istore_n 2, 1) := by decide +kernel
theorem dX3_count_36 : decode cX3_count 36 = .ok (.iinc 3 1, 3) := by decide +kernel
theorem dX3_count_39 : decode cX3_count 39 = .ok (.goto (-26), 3) := by decide +kernel
theorem dX3_count_42 : decode cX3_count 42 = .ok (.iload_n 2, 1) := by decide +kernel
theorem dX3_count_43 : decode cX3_count 43 = .ok (.ireturn, 1) := by decide +kernel
theorem dX3_count_44 : decode cX3_count 44 = .ok (.iload_n 1, 1) := by decide +kernel
theorem dX3_count_45 : decode cX3_count 45 = .ok (.iconst 1, 1) := by decide +kernel
theorem dX3_count_46 : decode cX3_count 46 = .ok (.if_icmp .ne 10, 3) := by decide +kernel
theorem dX3_count_49 : decode cX3_count 49 = .ok (.aload_n 0, 1) := by decide +kernel
theorem dX3_count_50 : decode cX3_count 50 = .ok (.getfield 54, 3) := by decide +kernel
theorem dX3_count_53 : decode cX3_count 53 = .ok (.goto 33, 3) := by decide +kernel
theorem dX3_count_56 : decode cX3_count 56 = .ok (.iload_n 1, 1) := by decide +kernel
theorem dX3_count_57 : decode cX3_count 57 = .ok (.iconst 2, 1) := by decide +kernel
theorem dX3_count_58 : decode cX3_count 58 = .ok (.iconst 5, 1) := by decide +kernel
theorem dX3_count_59 : decode cX3_count 59 = .ok (.invokestatic 60, 3) := by decide +kernel
theorem dX3_count_62 : decode cX3_count 62 = .ok (.ifCond .ne 14, 3) := by decide +kernel
theorem dX3_count_65 : decode cX3_count 65 = .ok (.iload_n 1, 1) := by decide +kernel
theorem dX3_count_66 : decode cX3_count 66 = .ok (.bipush 11, 2) := by decide +kernel
theorem dX3_count_68 : decode cX3_count 68 = .ok (.bipush 16, 2) := by decide +kernel
theorem dX3_count_70 : decode cX3_count 70 = .ok (.invokestatic 60, 3) := by decide +kernel
theorem dX3_count_73 : decode cX3_count 73 = .ok (.ifCond .eq 12, 3) := by decide +kernel
theorem dX3_count_76 : decode cX3_count 76 = .ok (.aload_n 0, 1) := by decide +kernel
theorem dX3_count_77 : decode cX3_count 77 = .ok (.getfield 51, 3) := by decide +kernel
theorem dX3_count_80 : decode cX3_count 80 = .ok (.iload_n 1, 1) := by decide +kernel
theorem dX3_count_81 : decode cX3_count 81 = .ok (.iaload, 1) := by decide +kernel
theorem dX3_count_82 : decode cX3_count 82 = .ok (.goto 4, 3) := by decide +kernel
theorem dX3_count_85 : decode cX3_count 85 = .ok (.iconst (-1), 1) := by decide +kernel
theorem dX3_count_86 : decode cX3_count 86 = .ok (.ireturn, 1) := by decide +kernel
theorem dJx00060_init_a7421_0 : decode cJx00060_init_a7421 0 = .ok (.aload_n 0, 1) := by decide +kernel
theorem dJx00060_init_a7421_1 : decode cJx00060_init_a7421 1 = .ok (.aload_n 1, 1) := by decide +kernel
theorem dJx00060_init_a7421_2 : decode cJx00060_init_a7421 2 = .ok (.invokespecial 7, 3) := by decide +kernel
theorem dJx00060_init_a7421_5 : decode cJx00060_init_a7421 5 = .ok (.return_, 1) := by decide +kernel
theorem dJ9_floorMod_7cf53_0 : decode cJ9_floorMod_7cf53 0 = .ok (.iload_n 0, 1) := by decide +kernel
theorem dJ9_floorMod_7cf53_1 : decode cJ9_floorMod_7cf53 1 = .ok (.iload_n 1, 1) := by decide +kernel
theorem dJ9_floorMod_7cf53_2 : decode cJ9_floorMod_7cf53 2 = .ok (.irem, 1) := by decide +kernel
theorem dJ9_floorMod_7cf53_3 : decode cJ9_floorMod_7cf53 3 = .ok (.istore_n 2, 1) := by decide +kernel
theorem dJ9_floorMod_7cf53_4 : decode cJ9_floorMod_7cf53 4 = .ok (.iload_n 0, 1) := by decide +kernel
theorem dJ9_floorMod_7cf53_5 : decode cJ9_floorMod_7cf53 5 = .ok (.iload_n 1, 1) := by decide +kernel
theorem dJ9_floorMod_7cf53_6 : decode cJ9_floorMod_7cf53 6 = .ok (.ixor, 1) := by decide +kernel
theorem dJ9_floorMod_7cf53_7 : decode cJ9_floorMod_7cf53 7 = .ok (.ifCond .ge 11, 3) := by decide +kernel
theorem dJ9_floorMod_7cf53_10 : decode cJ9_floorMod_7cf53 10 = .ok (.iload_n 2, 1) := by decide +kernel
theorem dJ9_floorMod_7cf53_11 : decode cJ9_floorMod_7cf53 11 = .ok (.ifCond .eq 7, 3) := by decide +kernel
theorem dJ9_floorMod_7cf53_14 : decode cJ9_floorMod_7cf53 14 = .ok (.iload_n 2, 1) := by decide +kernel
theorem dJ9_floorMod_7cf53_15 : decode cJ9_floorMod_7cf53 15 = .ok (.iload_n 1, 1) := by decide +kernel
theorem dJ9_floorMod_7cf53_16 : decode cJ9_floorMod_7cf53 16 = .ok (.iadd, 1) := by decide +kernel
theorem dJ9_floorMod_7cf53_17 : decode cJ9_floorMod_7cf53 17 = .ok (.ireturn, 1) := by decide +kernel
theorem dJ9_floorMod_7cf53_18 : decode cJ9_floorMod_7cf53 18 = .ok (.iload_n 2, 1) := by decide +kernel
theorem dJ9_floorMod_7cf53_19 : decode cJ9_floorMod_7cf53 19 = .ok (.ireturn, 1) := by decide +kernel
end
section
set_option maxRecDepth 20000 in
theorem ggL_row_X2_row : GoodIn wsL_row wsX2_row := goodIn_ca (goodIn_r _ [6, 7, 8, 9, 10, 11, 12, 5, 13, 14, 15, 16, 17, 18, 19, 20, 21, 22, 23, 24, 25, 26, 27, 28, 29, 30, 31, 32, 33] (by decide +kernel) (by decide +kernel)) (goodIn_sub (fun _ h => List.mem_cons_of_mem _ (List.mem_append_right _ h)) (by decide +kernel))
set_option maxRecDepth 20000 in
theorem gL_row_X2_row : GoodIn wsL_row (wsV RL 7 RX2 yX2_row wsX2_row) := goodIn_app (goodIn_of _ (by decide +kernel)) ggL_row_X2_row
theorem dL_row_0 : decode cL_row 0 = .ok (.aload_n 2, 1) := by decide +kernel
theorem dL_row_1 : decode cL_row 1 = .ok (.iconst 0, 1) := by decide +kernel
theorem dL_row_2 : decode cL_row 2 = .ok (.aload_n 0, 1) := by decide +kernel
theorem dL_row_3 : decode cL_row 3 = .ok (.iload_n 1, 1) := by decide +kernel
theorem dL_row_4 : decode cL_row 4 = .ok (.invokevirtual 7, 3) := by decide +kernel
theorem dL_row_7 : decode cL_row 7 = .ok (.i2l, 1) := by decide +kernel
theorem dL_row_8 : decode cL_row 8 = .ok (.lastore, 1) := by decide +kernel
theorem dL_row_9 : decode cL_row 9 = .ok (.goto 6, 3) := by decide +kernel
theorem dL_row_12 : decode cL_row 12 = .ok (.astore_n 3, 1) := by decide +kernel
theorem dL_row_13 : decode cL_row 13 = .ok (.iconst 1, 1) := by decide +kernel
theorem dL_row_14 : decode cL_row 14 = .ok (.ireturn, 1) := by decide +kernel
theorem dL_row_15 : decode cL_row 15 = .ok (.iconst 0, 1) := by decide +kernel
theorem dL_row_16 : decode cL_row 16 = .ok (.ireturn, 1) := by decide +kernel
set_option maxRecDepth 20000 in
theorem ggL_law_X2_init : GoodIn wsL_law wsX2_init := goodIn_r _ [9, 10, 11, 12, 13, 14, 15, 16, 17, 18, 19, 20, 21, 22, 23, 24, 25, 26, 27, 28, 29, 30, 31, 32, 33, 34, 35, 36, 37, 38, 39, 40, 41, 42, 43, 44, 317, 318, 319, 320, 321, 322, 323, 324, 325, 326, 327, 328, 329, 330, 351, 352, 353, 354, 355, 356, 357, 358, 359, 360, 361, 362] (by decide +kernel) (by decide +kernel)
set_option maxRecDepth 20000 in
theorem gL_law_X2_init : GoodIn wsL_law (wsX2_init) := ggL_law_X2_init
set_option maxRecDepth 20000 in
theorem ggL_law_X3_init : GoodIn wsL_law wsX3_init := goodIn_r _ [47, 48, 11, 12, 19, 49, 50, 51, 52, 53, 54, 55, 56, 57, 58, 59, 60, 61, 62, 63, 64, 331, 332, 333, 334, 335, 336, 337, 338, 339, 340, 341, 342, 343, 344, 345, 346, 347, 348, 349, 350] (by decide +kernel) (by decide +kernel)
set_option maxRecDepth 20000 in
theorem gL_law_X3_init : GoodIn wsL_law (wsX3_init) := ggL_law_X3_init
set_option maxRecDepth 20000 in
theorem ggL_law_X2_build : GoodIn wsL_law wsX2_build := goodIn_r _ [68, 14, 69, 70, 2, 71, 72, 73, 74, 33, 75, 76, 77, 78, 79, 80, 81, 82, 83, 317, 318, 319, 320, 321, 322, 323, 324, 325, 326, 327, 328, 329, 330, 355, 356, 357, 358, 359, 360, 361, 362] (by decide +kernel) (by decide +kernel)
set_option maxRecDepth 20000 in
theorem gL_law_X2_build : GoodIn wsL_law (wsV RL 19 RX2 yX2_build wsX2_build) := goodIn_app (goodIn_of _ (by decide +kernel)) ggL_law_X2_build
set_option maxRecDepth 20000 in
theorem ggL_law_X3_build : GoodIn wsL_law wsX3_build := goodIn_ca (goodIn_r _ [87, 88, 49, 89, 90, 5, 91, 92, 93, 94, 95, 96, 97, 98, 50, 52, 53, 54, 55, 331, 332, 333, 334, 335, 336, 337, 338, 339, 340, 341, 342, 343, 344, 345, 346, 347, 348, 349, 350] (by decide +kernel) (by decide +kernel)) (goodIn_sub (fun _ h => List.mem_append_right _ h) (by decide +kernel))
set_option maxRecDepth 20000 in
theorem gL_law_X3_build : GoodIn wsL_law (wsV RL 23 RX3 yX3_build wsX3_build) := goodIn_app (goodIn_of _ (by decide +kernel)) ggL_law_X3_build
set_option maxRecDepth 20000 in
theorem ggL_law_X2_raze : GoodIn wsL_law wsX2_raze := goodIn_r _ [102, 14, 69, 70, 2, 71, 317, 318, 319, 320, 321, 322, 323, 324, 325, 326, 327, 328, 329, 330, 355, 356, 357, 358, 359, 360, 361, 362] (by decide +kernel) (by decide +kernel)
set_option maxRecDepth 20000 in
theorem gL_law_X2_raze : GoodIn wsL_law (wsV RL 24 RX2 yX2_raze wsX2_raze) := goodIn_app (goodIn_of _ (by decide +kernel)) ggL_law_X2_raze
set_option maxRecDepth 20000 in
theorem ggL_law_X3_raze : GoodIn wsL_law wsX3_raze := goodIn_ca (goodIn_r _ [106, 88, 49, 89, 90, 5, 91, 92, 93, 94, 95, 96, 97, 98, 50, 52, 53, 54, 55, 331, 332, 333, 334, 335, 336, 337, 338, 339, 340, 341, 342, 343, 344, 345, 346, 347, 348, 349, 350] (by decide +kernel) (by decide +kernel)) (goodIn_sub (fun _ h => List.mem_append_right _ h) (by decide +kernel))
set_option maxRecDepth 20000 in
theorem gL_law_X3_raze : GoodIn wsL_law (wsV RL 27 RX3 yX3_raze wsX3_raze) := goodIn_app (goodIn_of _ (by decide +kernel)) ggL_law_X3_raze
set_option maxRecDepth 20000 in
theorem ggL_law_X2_step : GoodIn wsL_law wsX2_step := goodIn_ca (goodIn_r _ [110, 23, 21, 22, 111, 112, 2, 113, 317, 318, 319, 320, 321, 322, 323, 324, 325, 326, 327, 328, 329, 330] (by decide +kernel) (by decide +kernel)) (goodIn_sub (fun _ h => List.mem_append_right _ h) (by decide +kernel))
set_option maxRecDepth 20000 in
theorem gL_law_X2_step : GoodIn wsL_law (wsV RL 28 RX2 yX2_step wsX2_step) := goodIn_app (goodIn_of _ (by decide +kernel)) ggL_law_X2_step
set_option maxRecDepth 20000 in
theorem ggL_law_X3_step : GoodIn wsL_law wsX3_step := goodIn_ca (goodIn_r _ [117, 88, 64, 57, 58, 92, 93, 5, 94, 331, 332, 333, 334, 335, 336, 337, 338, 339, 340, 341, 342, 343, 344, 345, 346, 347, 348, 349, 350] (by decide +kernel) (by decide +kernel)) (goodIn_sub (fun _ h => List.mem_append_right _ h) (by decide +kernel))
set_option maxRecDepth 20000 in
theorem gL_law_X3_step : GoodIn wsL_law (wsV RL 32 RX3 yX3_step wsX3_step) := goodIn_app (goodIn_of _ (by decide +kernel)) ggL_law_X3_step
set_option maxRecDepth 20000 in
theorem ggL_law_X2_clear : GoodIn wsL_law wsX2_clear := goodIn_r _ [121, 23, 317, 318, 319, 320, 321, 322, 323, 324, 325, 326, 327, 328, 329, 330] (by decide +kernel) (by decide +kernel)
set_option maxRecDepth 20000 in
theorem gL_law_X2_clear : GoodIn wsL_law (wsV RL 33 RX2 yX2_clear wsX2_clear) := goodIn_app (goodIn_of _ (by decide +kernel)) ggL_law_X2_clear
set_option maxRecDepth 20000 in
theorem ggL_law_X3_clear : GoodIn wsL_law wsX3_clear := goodIn_r _ [125, 88, 64, 331, 332, 333, 334, 335, 336, 337, 338, 339, 340, 341, 342, 343, 344, 345, 346, 347, 348, 349, 350] (by decide +kernel) (by decide +kernel)
set_option maxRecDepth 20000 in
theorem gL_law_X3_clear : GoodIn wsL_law (wsV RL 37 RX3 yX3_clear wsX3_clear) := goodIn_app (goodIn_of _ (by decide +kernel)) ggL_law_X3_clear
set_option maxRecDepth 20000 in
theorem ggL_law_X2_alter : GoodIn wsL_law wsX2_alter := goodIn_ca (goodIn_r _ [129, 23, 21, 22, 111, 112, 2, 113, 317, 318, 319, 320, 321, 322, 323, 324, 325, 326, 327, 328, 329, 330] (by decide +kernel) (by decide +kernel)) (goodIn_sub (fun _ h => List.mem_append_right _ h) (by decide +kernel))
set_option maxRecDepth 20000 in
theorem gL_law_X2_alter : GoodIn wsL_law (wsV RL 38 RX2 yX2_alter wsX2_alter) := goodIn_app (goodIn_of _ (by decide +kernel)) ggL_law_X2_alter
set_option maxRecDepth 20000 in
theorem ggL_law_X3_alter : GoodIn wsL_law wsX3_alter := goodIn_ca (goodIn_r _ [133, 88, 64, 57, 58, 92, 93, 5, 94, 331, 332, 333, 334, 335, 336, 337, 338, 339, 340, 341, 342, 343, 344, 345, 346, 347, 348, 349, 350] (by decide +kernel) (by decide +kernel)) (goodIn_sub (fun _ h => List.mem_append_right _ h) (by decide +kernel))
set_option maxRecDepth 20000 in
theorem gL_law_X3_alter : GoodIn wsL_law (wsV RL 42 RX3 yX3_alter wsX3_alter) := goodIn_app (goodIn_of _ (by decide +kernel)) ggL_law_X3_alter
set_option maxRecDepth 20000 in
theorem ggL_law_X2_run : GoodIn wsL_law wsX2_run := goodIn_ca (goodIn_r _ [137, 28, 25, 24, 18, 30, 29, 138, 139, 140, 2, 141, 23, 21, 31, 142, 143, 144, 145, 22, 146, 147, 148, 149, 150, 151, 152, 153, 14, 154, 155, 156, 17, 157, 41, 158, 159, 160, 161, 38, 39, 40, 162, 163, 164, 165, 166, 167, 168, 169, 170, 171, 172, 173, 174, 175, 176, 177, 178, 179, 180, 33, 181, 78, 77, 81, 182, 183, 184, 185, 186, 187, 188, 189, 190, 191, 192, 193, 194, 195, 196, 197, 20, 198, 199, 200, 201, 202, 203, 204, 205, 206, 207, 208, 27, 26, 209, 210, 211, 212, 213, 317, 318, 319, 320, 321, 322, 323, 324, 325, 326, 327, 328, 329, 330, 355, 356, 357, 358, 359, 360, 361, 362, 351, 352, 353, 354] (by decide +kernel) (by decide +kernel)) (goodIn_sub (fun _ h => List.mem_append_right _ h) (by decide +kernel))
set_option maxRecDepth 20000 in
theorem gL_law_X2_run : GoodIn wsL_law (wsV RL 43 RX2 yX2_run wsX2_run) := goodIn_app (goodIn_of _ (by decide +kernel)) ggL_law_X2_run
set_option maxRecDepth 20000 in
theorem ggL_law_X3_run : GoodIn wsL_law wsX3_run := goodIn_ca (goodIn_r _ [217, 88, 63, 218, 219, 220, 221, 64, 57, 58, 62, 222, 223, 224, 5, 225, 59, 61, 60, 226, 227, 228, 229, 230, 231, 232, 49, 53, 233, 234, 235, 236, 50, 54, 237, 238, 239, 240, 241, 242, 243, 244, 245, 246, 247, 248, 56, 92, 93, 94, 249, 250, 251, 252, 52, 55, 331, 332, 333, 334, 335, 336, 337, 338, 339, 340, 341, 342, 343, 344, 345, 346, 347, 348, 349, 350] (by decide +kernel) (by decide +kernel)) (goodIn_sub (fun _ h => List.mem_append_right _ h) (by decide +kernel))
set_option maxRecDepth 20000 in
theorem gL_law_X3_run : GoodIn wsL_law (wsV RL 46 RX3 yX3_run wsX3_run) := goodIn_app (goodIn_of _ (by decide +kernel)) ggL_law_X3_run
set_option maxRecDepth 20000 in
theorem ggL_law_X2_begun : GoodIn wsL_law wsX2_begun := goodIn_r _ [256, 25, 317, 318, 319, 320, 321, 322, 323, 324, 325, 326, 327, 328, 329, 330] (by decide +kernel) (by decide +kernel)
set_option maxRecDepth 20000 in
theorem gL_law_X2_begun : GoodIn wsL_law (wsV RL 47 RX2 yX2_begun wsX2_begun) := goodIn_app (goodIn_of _ (by decide +kernel)) ggL_law_X2_begun
set_option maxRecDepth 20000 in
theorem ggL_law_X3_begun : GoodIn wsL_law wsX3_begun := goodIn_r _ [260, 88, 218, 331, 332, 333, 334, 335, 336, 337, 338, 339, 340, 341, 342, 343, 344, 345, 346, 347, 348, 349, 350] (by decide +kernel) (by decide +kernel)
set_option maxRecDepth 20000 in
theorem gL_law_X3_begun : GoodIn wsL_law (wsV RL 50 RX3 yX3_begun wsX3_begun) := goodIn_app (goodIn_of _ (by decide +kernel)) ggL_law_X3_begun
set_option maxRecDepth 20000 in
theorem ggL_law_X2_where : GoodIn wsL_law wsX2_where := goodIn_r _ [264, 26, 317, 318, 319, 320, 321, 322, 323, 324, 325, 326, 327, 328, 329, 330] (by decide +kernel) (by decide +kernel)
set_option maxRecDepth 20000 in
theorem gL_law_X2_where : GoodIn wsL_law (wsV RL 51 RX2 yX2_where wsX2_where) := goodIn_app (goodIn_of _ (by decide +kernel)) ggL_law_X2_where
set_option maxRecDepth 20000 in
theorem ggL_law_X3_where : GoodIn wsL_law wsX3_where := goodIn_r _ [268, 88, 62, 331, 332, 333, 334, 335, 336, 337, 338, 339, 340, 341, 342, 343, 344, 345, 346, 347, 348, 349, 350] (by decide +kernel) (by decide +kernel)
set_option maxRecDepth 20000 in
theorem gL_law_X3_where : GoodIn wsL_law (wsV RL 54 RX3 yX3_where wsX3_where) := goodIn_app (goodIn_of _ (by decide +kernel)) ggL_law_X3_where
set_option maxRecDepth 20000 in
theorem ggL_law_X2_house : GoodIn wsL_law wsX2_house := goodIn_r _ [272, 14, 69, 70, 2, 71, 273, 274, 275, 33, 276, 77, 78, 79, 80, 81, 82, 83, 317, 318, 319, 320, 321, 322, 323, 324, 325, 326, 327, 328, 329, 330, 355, 356, 357, 358, 359, 360, 361, 362] (by decide +kernel) (by decide +kernel)
set_option maxRecDepth 20000 in
theorem gL_law_X2_house : GoodIn wsL_law (wsV RL 55 RX2 yX2_house wsX2_house) := goodIn_app (goodIn_of _ (by decide +kernel)) ggL_law_X2_house
set_option maxRecDepth 20000 in
theorem ggL_law_X3_house : GoodIn wsL_law wsX3_house := goodIn_ca (goodIn_r _ [280, 88, 49, 50, 52, 53, 54, 55, 281, 282, 283, 5, 284, 89, 90, 91, 92, 93, 94, 331, 332, 333, 334, 335, 336, 337, 338, 339, 340, 341, 342, 343, 344, 345, 346, 347, 348, 349, 350] (by decide +kernel) (by decide +kernel)) (goodIn_sub (fun _ h => List.mem_append_right _ h) (by decide +kernel))
set_option maxRecDepth 20000 in
theorem gL_law_X3_house : GoodIn wsL_law (wsV RL 58 RX3 yX3_house wsX3_house) := goodIn_app (goodIn_of _ (by decide +kernel)) ggL_law_X3_house
set_option maxRecDepth 20000 in
theorem ggL_law_L_row : GoodIn wsL_law wsL_row := goodIn_ca (goodIn_r _ [288, 289, 290, 291, 292, 2, 293, 294, 295, 296, 20, 198, 199, 200, 363, 364, 365, 366, 367, 368, 317, 318, 319, 320, 321, 322, 323, 324, 325, 326, 327, 328, 329, 330] (by decide +kernel) (by decide +kernel)) (goodIn_sub (fun _ h => List.mem_append_right _ h) (by decide +kernel))
set_option maxRecDepth 20000 in
theorem gL_law_L_row : GoodIn wsL_law (va_wsS RL 59 yL_row wsL_row) := goodIn_app (goodIn_of _ (by decide +kernel)) ggL_law_L_row
set_option maxRecDepth 20000 in
theorem ggL_law_X3_row : GoodIn wsL_law wsX3_row := goodIn_ca (goodIn_r _ [300, 88, 56, 92, 93, 5, 94, 331, 332, 333, 334, 335, 336, 337, 338, 339, 340, 341, 342, 343, 344, 345, 346, 347, 348, 349, 350] (by decide +kernel) (by decide +kernel)) (goodIn_sub (fun _ h => List.mem_append_right _ h) (by decide +kernel))
set_option maxRecDepth 20000 in
theorem gL_law_X3_row : GoodIn wsL_law (wsV RL 64 RX3 yX3_row wsX3_row) := goodIn_app (goodIn_of _ (by decide +kernel)) ggL_law_X3_row
set_option maxRecDepth 20000 in
theorem ggL_law_X3_thrown : GoodIn wsL_law wsX3_thrown := goodIn_r _ [304, 88, 331, 332, 333, 334, 335, 336, 337, 338, 339, 340, 341, 342, 343, 344, 345, 346, 347, 348, 349, 350] (by decide +kernel) (by decide +kernel)
set_option maxRecDepth 20000 in
theorem gL_law_X3_thrown : GoodIn wsL_law (wsV RL 65 RX3 yX3_thrown wsX3_thrown) := goodIn_app (goodIn_of _ (by decide +kernel)) ggL_law_X3_thrown
set_option maxRecDepth 20000 in
theorem ggL_law_X2_count : GoodIn wsL_law wsX2_count := goodIn_ca (goodIn_r _ [308, 27, 23, 28, 29, 30, 31, 309, 310, 311, 2, 312, 14, 317, 318, 319, 320, 321, 322, 323, 324, 325, 326, 327, 328, 329, 330, 355, 356, 357, 358, 359, 360, 361, 362] (by decide +kernel) (by decide +kernel)) (goodIn_sub (fun _ h => List.mem_append_right _ h) (by decide +kernel))
set_option maxRecDepth 20000 in
theorem gL_law_X2_count : GoodIn wsL_law (wsV RL 68 RX2 yX2_count wsX2_count) := goodIn_app (goodIn_of _ (by decide +kernel)) ggL_law_X2_count
set_option maxRecDepth 20000 in
theorem ggL_law_X3_count : GoodIn wsL_law wsX3_count := goodIn_ca (goodIn_r _ [316, 88, 49, 64, 63, 92, 93, 5, 94, 331, 332, 333, 334, 335, 336, 337, 338, 339, 340, 341, 342, 343, 344, 345, 346, 347, 348, 349, 350] (by decide +kernel) (by decide +kernel)) (goodIn_sub (fun _ h => List.mem_append_right _ h) (by decide +kernel))
set_option maxRecDepth 20000 in
theorem gL_law_X3_count : GoodIn wsL_law (wsV RL 71 RX3 yX3_count wsX3_count) := goodIn_app (goodIn_of _ (by decide +kernel)) ggL_law_X3_count
theorem dL_law_0 : decode cL_law 0 = .ok (.new 8, 3) := by decide +kernel
theorem dL_law_3 : decode cL_law 3 = .ok (.dup, 1) := by decide +kernel
theorem dL_law_4 : decode cL_law 4 = .ok (.invokespecial 15, 3) := by decide +kernel
theorem dL_law_7 : decode cL_law 7 = .ok (.astore_n 1, 1) := by decide +kernel
theorem dL_law_8 : decode cL_law 8 = .ok (.new 16, 3) := by decide +kernel
theorem dL_law_11 : decode cL_law 11 = .ok (.dup, 1) := by decide +kernel
theorem dL_law_12 : decode cL_law 12 = .ok (.invokespecial 18, 3) := by decide +kernel
theorem dL_law_15 : decode cL_law 15 = .ok (.astore_n 2, 1) := by decide +kernel
theorem dL_law_16 : decode cL_law 16 = .ok (.iconst 1, 1) := by decide +kernel
theorem dL_law_17 : decode cL_law 17 = .ok (.newarray .long, 2) := by decide +kernel
theorem dL_law_19 : decode cL_law 19 = .ok (.astore_n 3, 1) := by decide +kernel
theorem dL_law_20 : decode cL_law 20 = .ok (.iconst 0, 1) := by decide +kernel
theorem dL_law_21 : decode cL_law 21 = .ok (.istore 4, 2) := by decide +kernel
theorem dL_law_23 : decode cL_law 23 = .ok (.iload 4, 2) := by decide +kernel
theorem dL_law_25 : decode cL_law 25 = .ok (.aload_n 0, 1) := by decide +kernel
theorem dL_law_26 : decode cL_law 26 = .ok (.arraylength, 1) := by decide +kernel
theorem dL_law_27 : decode cL_law 27 = .ok (.iconst 4, 1) := by decide +kernel
theorem dL_law_28 : decode cL_law 28 = .ok (.isub, 1) := by decide +kernel
theorem dL_law_29 : decode cL_law 29 = .ok (.if_icmp .gt 419, 3) := by decide +kernel
theorem dL_law_32 : decode cL_law 32 = .ok (.aload_n 0, 1) := by decide +kernel
theorem dL_law_33 : decode cL_law 33 = .ok (.iload 4, 2) := by decide +kernel
theorem dL_law_35 : decode cL_law 35 = .ok (.iaload, 1) := by decide +kernel
theorem dL_law_36 : decode cL_law 36 = .ok (.bipush 15, 2) := by decide +kernel
theorem dL_law_38 : decode cL_law 38 = .ok (.iand, 1) := by decide +kernel
theorem dL_law_39 : decode cL_law 39 = .ok (.tableswitch 403 0 10 #[57, 122, 147, 184, 197, 246, 259, 272, 285, 322, 378], 57) := by decide +kernel
theorem dL_law_96 : decode cL_law 96 = .ok (.aload_n 1, 1) := by decide +kernel
theorem dL_law_97 : decode cL_law 97 = .ok (.aload_n 0, 1) := by decide +kernel
theorem dL_law_98 : decode cL_law 98 = .ok (.iload 4, 2) := by decide +kernel
theorem dL_law_100 : decode cL_law 100 = .ok (.iconst 1, 1) := by decide +kernel
theorem dL_law_101 : decode cL_law 101 = .ok (.iadd, 1) := by decide +kernel
theorem dL_law_102 : decode cL_law 102 = .ok (.iaload, 1) := by decide +kernel
theorem dL_law_103 : decode cL_law 103 = .ok (.aload_n 0, 1) := by decide +kernel
theorem dL_law_104 : decode cL_law 104 = .ok (.iload 4, 2) := by decide +kernel
theorem dL_law_106 : decode cL_law 106 = .ok (.iconst 2, 1) := by decide +kernel
theorem dL_law_107 : decode cL_law 107 = .ok (.iadd, 1) := by decide +kernel
theorem dL_law_108 : decode cL_law 108 = .ok (.iaload, 1) := by decide +kernel
theorem dL_law_109 : decode cL_law 109 = .ok (.aload_n 0, 1) := by decide +kernel
theorem dL_law_110 : decode cL_law 110 = .ok (.iload 4, 2) := by decide +kernel
theorem dL_law_112 : decode cL_law 112 = .ok (.iconst 3, 1) := by decide +kernel
theorem dL_law_113 : decode cL_law 113 = .ok (.iadd, 1) := by decide +kernel
theorem dL_law_114 : decode cL_law 114 = .ok (.iaload, 1) := by decide +kernel
theorem dL_law_115 : decode cL_law 115 = .ok (.ifCond .eq 7, 3) := by decide +kernel
theorem dL_law_118 : decode cL_law 118 = .ok (.iconst 1, 1) := by decide +kernel
theorem dL_law_119 : decode cL_law 119 = .ok (.goto 4, 3) := by decide +kernel
theorem dL_law_122 : decode cL_law 122 = .ok (.iconst 0, 1) := by decide +kernel
theorem dL_law_123 : decode cL_law 123 = .ok (.invokevirtual 19, 3) := by decide +kernel
theorem dL_law_126 : decode cL_law 126 = .ok (.aload_n 2, 1) := by decide +kernel
theorem dL_law_127 : decode cL_law 127 = .ok (.aload_n 0, 1) := by decide +kernel
theorem dL_law_128 : decode cL_law 128 = .ok (.iload 4, 2) := by decide +kernel
theorem dL_law_130 : decode cL_law 130 = .ok (.iconst 1, 1) := by decide +kernel
theorem dL_law_131 : decode cL_law 131 = .ok (.iadd, 1) := by decide +kernel
theorem dL_law_132 : decode cL_law 132 = .ok (.iaload, 1) := by decide +kernel
theorem dL_law_133 : decode cL_law 133 = .ok (.aload_n 0, 1) := by decide +kernel
theorem dL_law_134 : decode cL_law 134 = .ok (.iload 4, 2) := by decide +kernel
theorem dL_law_136 : decode cL_law 136 = .ok (.iconst 2, 1) := by decide +kernel
theorem dL_law_137 : decode cL_law 137 = .ok (.iadd, 1) := by decide +kernel
theorem dL_law_138 : decode cL_law 138 = .ok (.iaload, 1) := by decide +kernel
theorem dL_law_139 : decode cL_law 139 = .ok (.aload_n 0, 1) := by decide +kernel
theorem dL_law_140 : decode cL_law 140 = .ok (.iload 4, 2) := by decide +kernel
theorem dL_law_142 : decode cL_law 142 = .ok (.iconst 3, 1) := by decide +kernel
theorem dL_law_143 : decode cL_law 143 = .ok (.iadd, 1) := by decide +kernel
theorem dL_law_144 : decode cL_law 144 = .ok (.iaload, 1) := by decide +kernel
theorem dL_law_145 : decode cL_law 145 = .ok (.ifCond .eq 7, 3) := by decide +kernel
theorem dL_law_148 : decode cL_law 148 = .ok (.iconst 1, 1) := by decide +kernel
theorem dL_law_149 : decode cL_law 149 = .ok (.goto 4, 3) := by decide +kernel
theorem dL_law_152 : decode cL_law 152 = .ok (.iconst 0, 1) := by decide +kernel
theorem dL_law_153 : decode cL_law 153 = .ok (.invokevirtual 23, 3) := by decide +kernel
theorem dL_law_156 : decode cL_law 156 = .ok (.if_icmp .eq 286, 3) := by decide +kernel
theorem dL_law_159 : decode cL_law 159 = .ok (.iconst 0, 1) := by decide +kernel
theorem dL_law_160 : decode cL_law 160 = .ok (.ireturn, 1) := by decide +kernel
theorem dL_law_161 : decode cL_law 161 = .ok (.aload_n 1, 1) := by decide +kernel
theorem dL_law_162 : decode cL_law 162 = .ok (.aload_n 0, 1) := by decide +kernel
theorem dL_law_163 : decode cL_law 163 = .ok (.iload 4, 2) := by decide +kernel
theorem dL_law_165 : decode cL_law 165 = .ok (.iconst 1, 1) := by decide +kernel
theorem dL_law_166 : decode cL_law 166 = .ok (.iadd, 1) := by decide +kernel
theorem dL_law_167 : decode cL_law 167 = .ok (.iaload, 1) := by decide +kernel
theorem dL_law_168 : decode cL_law 168 = .ok (.invokevirtual 24, 3) := by decide +kernel
theorem dL_law_171 : decode cL_law 171 = .ok (.aload_n 2, 1) := by decide +kernel
theorem dL_law_172 : decode cL_law 172 = .ok (.aload_n 0, 1) := by decide +kernel
theorem dL_law_173 : decode cL_law 173 = .ok (.iload 4, 2) := by decide +kernel
theorem dL_law_175 : decode cL_law 175 = .ok (.iconst 1, 1) := by decide +kernel
theorem dL_law_176 : decode cL_law 176 = .ok (.iadd, 1) := by decide +kernel
theorem dL_law_177 : decode cL_law 177 = .ok (.iaload, 1) := by decide +kernel
theorem dL_law_178 : decode cL_law 178 = .ok (.invokevirtual 27, 3) := by decide +kernel
theorem dL_law_181 : decode cL_law 181 = .ok (.if_icmp .eq 261, 3) := by decide +kernel
theorem dL_law_184 : decode cL_law 184 = .ok (.iconst 0, 1) := by decide +kernel
theorem dL_law_185 : decode cL_law 185 = .ok (.ireturn, 1) := by decide +kernel
theorem dL_law_186 : decode cL_law 186 = .ok (.aload_n 1, 1) := by decide +kernel
theorem dL_law_187 : decode cL_law 187 = .ok (.aload_n 0, 1) := by decide +kernel
theorem dL_law_188 : decode cL_law 188 = .ok (.iload 4, 2) := by decide +kernel
theorem dL_law_190 : decode cL_law 190 = .ok (.iconst 1, 1) := by decide +kernel
theorem dL_law_191 : decode cL_law 191 = .ok (.iadd, 1) := by decide +kernel
theorem dL_law_192 : decode cL_law 192 = .ok (.iaload, 1) := by decide +kernel
theorem dL_law_193 : decode cL_law 193 = .ok (.aload_n 0, 1) := by decide +kernel
theorem dL_law_194 : decode cL_law 194 = .ok (.iload 4, 2) := by decide +kernel
theorem dL_law_196 : decode cL_law 196 = .ok (.iconst 2, 1) := by decide +kernel
theorem dL_law_197 : decode cL_law 197 = .ok (.iadd, 1) := by decide +kernel
theorem dL_law_198 : decode cL_law 198 = .ok (.iaload, 1) := by decide +kernel
theorem dL_law_199 : decode cL_law 199 = .ok (.invokevirtual 28, 3) := by decide +kernel
theorem dL_law_202 : decode cL_law 202 = .ok (.aload_n 2, 1) := by decide +kernel
theorem dL_law_203 : decode cL_law 203 = .ok (.aload_n 0, 1) := by decide +kernel
theorem dL_law_204 : decode cL_law 204 = .ok (.iload 4, 2) := by decide +kernel
theorem dL_law_206 : decode cL_law 206 = .ok (.iconst 1, 1) := by decide +kernel
theorem dL_law_207 : decode cL_law 207 = .ok (.iadd, 1) := by decide +kernel
theorem dL_law_208 : decode cL_law 208 = .ok (.iaload, 1) := by decide +kernel
theorem dL_law_209 : decode cL_law 209 = .ok (.aload_n 0, 1) := by decide +kernel
theorem dL_law_210 : decode cL_law 210 = .ok (.iload 4, 2) := by decide +kernel
theorem dL_law_212 : decode cL_law 212 = .ok (.iconst 2, 1) := by decide +kernel
theorem dL_law_213 : decode cL_law 213 = .ok (.iadd, 1) := by decide +kernel
theorem dL_law_214 : decode cL_law 214 = .ok (.iaload, 1) := by decide +kernel
theorem dL_law_215 : decode cL_law 215 = .ok (.invokevirtual 32, 3) := by decide +kernel
theorem dL_law_218 : decode cL_law 218 = .ok (.if_icmp .eq 224, 3) := by decide +kernel
theorem dL_law_221 : decode cL_law 221 = .ok (.iconst 0, 1) := by decide +kernel
theorem dL_law_222 : decode cL_law 222 = .ok (.ireturn, 1) := by decide +kernel
theorem dL_law_223 : decode cL_law 223 = .ok (.aload_n 1, 1) := by decide +kernel
theorem dL_law_224 : decode cL_law 224 = .ok (.invokevirtual 33, 3) := by decide +kernel
theorem dL_law_227 : decode cL_law 227 = .ok (.aload_n 2, 1) := by decide +kernel
theorem dL_law_228 : decode cL_law 228 = .ok (.invokevirtual 37, 3) := by decide +kernel
theorem dL_law_231 : decode cL_law 231 = .ok (.if_icmp .eq 211, 3) := by decide +kernel
theorem dL_law_234 : decode cL_law 234 = .ok (.iconst 0, 1) := by decide +kernel
theorem dL_law_235 : decode cL_law 235 = .ok (.ireturn, 1) := by decide +kernel
theorem dL_law_236 : decode cL_law 236 = .ok (.aload_n 1, 1) := by decide +kernel
theorem dL_law_237 : decode cL_law 237 = .ok (.aload_n 0, 1) := by decide +kernel
theorem dL_law_238 : decode cL_law 238 = .ok (.iload 4, 2) := by decide +kernel
theorem dL_law_240 : decode cL_law 240 = .ok (.iconst 1, 1) := by decide +kernel
theorem dL_law_241 : decode cL_law 241 = .ok (.iadd, 1) := by decide +kernel
theorem dL_law_242 : decode cL_law 242 = .ok (.iaload, 1) := by decide +kernel
theorem dL_law_243 : decode cL_law 243 = .ok (.aload_n 0, 1) := by decide +kernel
theorem dL_law_244 : decode cL_law 244 = .ok (.iload 4, 2) := by decide +kernel
theorem dL_law_246 : decode cL_law 246 = .ok (.iconst 2, 1) := by decide +kernel
theorem dL_law_247 : decode cL_law 247 = .ok (.iadd, 1) := by decide +kernel
theorem dL_law_248 : decode cL_law 248 = .ok (.iaload, 1) := by decide +kernel
theorem dL_law_249 : decode cL_law 249 = .ok (.aload_n 0, 1) := by decide +kernel
theorem dL_law_250 : decode cL_law 250 = .ok (.iload 4, 2) := by decide +kernel
theorem dL_law_252 : decode cL_law 252 = .ok (.iconst 3, 1) := by decide +kernel
theorem dL_law_253 : decode cL_law 253 = .ok (.iadd, 1) := by decide +kernel
theorem dL_law_254 : decode cL_law 254 = .ok (.iaload, 1) := by decide +kernel
theorem dL_law_255 : decode cL_law 255 = .ok (.invokevirtual 38, 3) := by decide +kernel
theorem dL_law_258 : decode cL_law 258 = .ok (.aload_n 2, 1) := by decide +kernel
theorem dL_law_259 : decode cL_law 259 = .ok (.aload_n 0, 1) := by decide +kernel
theorem dL_law_260 : decode cL_law 260 = .ok (.iload 4, 2) := by decide +kernel
theorem dL_law_262 : decode cL_law 262 = .ok (.iconst 1, 1) := by decide +kernel
theorem dL_law_263 : decode cL_law 263 = .ok (.iadd, 1) := by decide +kernel
theorem dL_law_264 : decode cL_law 264 = .ok (.iaload, 1) := by decide +kernel
theorem dL_law_265 : decode cL_law 265 = .ok (.aload_n 0, 1) := by decide +kernel
theorem dL_law_266 : decode cL_law 266 = .ok (.iload 4, 2) := by decide +kernel
theorem dL_law_268 : decode cL_law 268 = .ok (.iconst 2, 1) := by decide +kernel
theorem dL_law_269 : decode cL_law 269 = .ok (.iadd, 1) := by decide +kernel
theorem dL_law_270 : decode cL_law 270 = .ok (.iaload, 1) := by decide +kernel
theorem dL_law_271 : decode cL_law 271 = .ok (.aload_n 0, 1) := by decide +kernel
theorem dL_law_272 : decode cL_law 272 = .ok (.iload 4, 2) := by decide +kernel
theorem dL_law_274 : decode cL_law 274 = .ok (.iconst 3, 1) := by decide +kernel
theorem dL_law_275 : decode cL_law 275 = .ok (.iadd, 1) := by decide +kernel
theorem dL_law_276 : decode cL_law 276 = .ok (.iaload, 1) := by decide +kernel
theorem dL_law_277 : decode cL_law 277 = .ok (.invokevirtual 42, 3) := by decide +kernel
theorem dL_law_280 : decode cL_law 280 = .ok (.if_icmp .eq 162, 3) := by decide +kernel
theorem dL_law_283 : decode cL_law 283 = .ok (.iconst 0, 1) := by decide +kernel
theorem dL_law_284 : decode cL_law 284 = .ok (.ireturn, 1) := by decide +kernel
theorem dL_law_285 : decode cL_law 285 = .ok (.aload_n 1, 1) := by decide +kernel
theorem dL_law_286 : decode cL_law 286 = .ok (.invokevirtual 43, 3) := by decide +kernel
theorem dL_law_289 : decode cL_law 289 = .ok (.aload_n 2, 1) := by decide +kernel
theorem dL_law_290 : decode cL_law 290 = .ok (.invokevirtual 46, 3) := by decide +kernel
theorem dL_law_293 : decode cL_law 293 = .ok (.if_icmp .eq 149, 3) := by decide +kernel
theorem dL_law_296 : decode cL_law 296 = .ok (.iconst 0, 1) := by decide +kernel
theorem dL_law_297 : decode cL_law 297 = .ok (.ireturn, 1) := by decide +kernel
theorem dL_law_298 : decode cL_law 298 = .ok (.aload_n 1, 1) := by decide +kernel
theorem dL_law_299 : decode cL_law 299 = .ok (.invokevirtual 47, 3) := by decide +kernel
theorem dL_law_302 : decode cL_law 302 = .ok (.aload_n 2, 1) := by decide +kernel
theorem dL_law_303 : decode cL_law 303 = .ok (.invokevirtual 50, 3) := by decide +kernel
theorem dL_law_306 : decode cL_law 306 = .ok (.if_icmp .eq 136, 3) := by decide +kernel
theorem dL_law_309 : decode cL_law 309 = .ok (.iconst 0, 1) := by decide +kernel
theorem dL_law_310 : decode cL_law 310 = .ok (.ireturn, 1) := by decide +kernel
theorem dL_law_311 : decode cL_law 311 = .ok (.aload_n 1, 1) := by decide +kernel
theorem dL_law_312 : decode cL_law 312 = .ok (.invokevirtual 51, 3) := by decide +kernel
theorem dL_law_315 : decode cL_law 315 = .ok (.aload_n 2, 1) := by decide +kernel
theorem dL_law_316 : decode cL_law 316 = .ok (.invokevirtual 54, 3) := by decide +kernel
theorem dL_law_319 : decode cL_law 319 = .ok (.if_icmp .eq 123, 3) := by decide +kernel
theorem dL_law_322 : decode cL_law 322 = .ok (.iconst 0, 1) := by decide +kernel
theorem dL_law_323 : decode cL_law 323 = .ok (.ireturn, 1) := by decide +kernel
theorem dL_law_324 : decode cL_law 324 = .ok (.aload_n 1, 1) := by decide +kernel
theorem dL_law_325 : decode cL_law 325 = .ok (.aload_n 0, 1) := by decide +kernel
theorem dL_law_326 : decode cL_law 326 = .ok (.iload 4, 2) := by decide +kernel
theorem dL_law_328 : decode cL_law 328 = .ok (.iconst 1, 1) := by decide +kernel
theorem dL_law_329 : decode cL_law 329 = .ok (.iadd, 1) := by decide +kernel
theorem dL_law_330 : decode cL_law 330 = .ok (.iaload, 1) := by decide +kernel
theorem dL_law_331 : decode cL_law 331 = .ok (.aload_n 0, 1) := by decide +kernel
theorem dL_law_332 : decode cL_law 332 = .ok (.iload 4, 2) := by decide +kernel
theorem dL_law_334 : decode cL_law 334 = .ok (.iconst 2, 1) := by decide +kernel
theorem dL_law_335 : decode cL_law 335 = .ok (.iadd, 1) := by decide +kernel
theorem dL_law_336 : decode cL_law 336 = .ok (.iaload, 1) := by decide +kernel
theorem dL_law_337 : decode cL_law 337 = .ok (.invokevirtual 55, 3) := by decide +kernel
theorem dL_law_340 : decode cL_law 340 = .ok (.aload_n 2, 1) := by decide +kernel
theorem dL_law_341 : decode cL_law 341 = .ok (.aload_n 0, 1) := by decide +kernel
theorem dL_law_342 : decode cL_law 342 = .ok (.iload 4, 2) := by decide +kernel
theorem dL_law_344 : decode cL_law 344 = .ok (.iconst 1, 1) := by decide +kernel
theorem dL_law_345 : decode cL_law 345 = .ok (.iadd, 1) := by decide +kernel
theorem dL_law_346 : decode cL_law 346 = .ok (.iaload, 1) := by decide +kernel
theorem dL_law_347 : decode cL_law 347 = .ok (.aload_n 0, 1) := by decide +kernel
theorem dL_law_348 : decode cL_law 348 = .ok (.iload 4, 2) := by decide +kernel
theorem dL_law_350 : decode cL_law 350 = .ok (.iconst 2, 1) := by decide +kernel
theorem dL_law_351 : decode cL_law 351 = .ok (.iadd, 1) := by decide +kernel
theorem dL_law_352 : decode cL_law 352 = .ok (.iaload, 1) := by decide +kernel
theorem dL_law_353 : decode cL_law 353 = .ok (.invokevirtual 58, 3) := by decide +kernel
theorem dL_law_356 : decode cL_law 356 = .ok (.if_icmp .eq 86, 3) := by decide +kernel
theorem dL_law_359 : decode cL_law 359 = .ok (.iconst 0, 1) := by decide +kernel
theorem dL_law_360 : decode cL_law 360 = .ok (.ireturn, 1) := by decide +kernel
theorem dL_law_361 : decode cL_law 361 = .ok (.aload_n 1, 1) := by decide +kernel
theorem dL_law_362 : decode cL_law 362 = .ok (.aload_n 0, 1) := by decide +kernel
theorem dL_law_363 : decode cL_law 363 = .ok (.iload 4, 2) := by decide +kernel
theorem dL_law_365 : decode cL_law 365 = .ok (.iconst 1, 1) := by decide +kernel
theorem dL_law_366 : decode cL_law 366 = .ok (.iadd, 1) := by decide +kernel
theorem dL_law_367 : decode cL_law 367 = .ok (.iaload, 1) := by decide +kernel
theorem dL_law_368 : decode cL_law 368 = .ok (.aload_n 3, 1) := by decide +kernel
theorem dL_law_369 : decode cL_law 369 = .ok (.invokestatic 59, 3) := by decide +kernel
theorem dL_law_372 : decode cL_law 372 = .ok (.istore 5, 2) := by decide +kernel
theorem dL_law_374 : decode cL_law 374 = .ok (.aload_n 2, 1) := by decide +kernel
theorem dL_law_375 : decode cL_law 375 = .ok (.aload_n 0, 1) := by decide +kernel
theorem dL_law_376 : decode cL_law 376 = .ok (.iload 4, 2) := by decide +kernel
theorem dL_law_378 : decode cL_law 378 = .ok (.iconst 1, 1) := by decide +kernel
theorem dL_law_379 : decode cL_law 379 = .ok (.iadd, 1) := by decide +kernel
theorem dL_law_380 : decode cL_law 380 = .ok (.iaload, 1) := by decide +kernel
theorem dL_law_381 : decode cL_law 381 = .ok (.invokevirtual 64, 3) := by decide +kernel
theorem dL_law_384 : decode cL_law 384 = .ok (.istore 6, 2) := by decide +kernel
theorem dL_law_386 : decode cL_law 386 = .ok (.aload_n 2, 1) := by decide +kernel
theorem dL_law_387 : decode cL_law 387 = .ok (.invokevirtual 65, 3) := by decide +kernel
theorem dL_law_390 : decode cL_law 390 = .ok (.iload 5, 2) := by decide +kernel
theorem dL_law_392 : decode cL_law 392 = .ok (.if_icmp .eq 5, 3) := by decide +kernel
theorem dL_law_395 : decode cL_law 395 = .ok (.iconst 0, 1) := by decide +kernel
theorem dL_law_396 : decode cL_law 396 = .ok (.ireturn, 1) := by decide +kernel
theorem dL_law_397 : decode cL_law 397 = .ok (.iload 5, 2) := by decide +kernel
theorem dL_law_399 : decode cL_law 399 = .ok (.ifCond .ne 15, 3) := by decide +kernel
theorem dL_law_402 : decode cL_law 402 = .ok (.aload_n 3, 1) := by decide +kernel
theorem dL_law_403 : decode cL_law 403 = .ok (.iconst 0, 1) := by decide +kernel
theorem dL_law_404 : decode cL_law 404 = .ok (.laload, 1) := by decide +kernel
theorem dL_law_405 : decode cL_law 405 = .ok (.iload 6, 2) := by decide +kernel
theorem dL_law_407 : decode cL_law 407 = .ok (.i2l, 1) := by decide +kernel
theorem dL_law_408 : decode cL_law 408 = .ok (.lcmp, 1) := by decide +kernel
theorem dL_law_409 : decode cL_law 409 = .ok (.ifCond .eq 5, 3) := by decide +kernel
theorem dL_law_412 : decode cL_law 412 = .ok (.iconst 0, 1) := by decide +kernel
theorem dL_law_413 : decode cL_law 413 = .ok (.ireturn, 1) := by decide +kernel
theorem dL_law_414 : decode cL_law 414 = .ok (.goto 28, 3) := by decide +kernel
theorem dL_law_417 : decode cL_law 417 = .ok (.aload_n 1, 1) := by decide +kernel
theorem dL_law_418 : decode cL_law 418 = .ok (.aload_n 0, 1) := by decide +kernel
theorem dL_law_419 : decode cL_law 419 = .ok (.iload 4, 2) := by decide +kernel
theorem dL_law_421 : decode cL_law 421 = .ok (.iconst 1, 1) := by decide +kernel
theorem dL_law_422 : decode cL_law 422 = .ok (.iadd, 1) := by decide +kernel
theorem dL_law_423 : decode cL_law 423 = .ok (.iaload, 1) := by decide +kernel
theorem dL_law_424 : decode cL_law 424 = .ok (.invokevirtual 68, 3) := by decide +kernel
theorem dL_law_427 : decode cL_law 427 = .ok (.aload_n 2, 1) := by decide +kernel
theorem dL_law_428 : decode cL_law 428 = .ok (.aload_n 0, 1) := by decide +kernel
theorem dL_law_429 : decode cL_law 429 = .ok (.iload 4, 2) := by decide +kernel
theorem dL_law_431 : decode cL_law 431 = .ok (.iconst 1, 1) := by decide +kernel
theorem dL_law_432 : decode cL_law 432 = .ok (.iadd, 1) := by decide +kernel
theorem dL_law_433 : decode cL_law 433 = .ok (.iaload, 1) := by decide +kernel
theorem dL_law_434 : decode cL_law 434 = .ok (.invokevirtual 71, 3) := by decide +kernel
theorem dL_law_437 : decode cL_law 437 = .ok (.if_icmp .eq 5, 3) := by decide +kernel
theorem dL_law_440 : decode cL_law 440 = .ok (.iconst 0, 1) := by decide +kernel
theorem dL_law_441 : decode cL_law 441 = .ok (.ireturn, 1) := by decide +kernel
theorem dL_law_442 : decode cL_law 442 = .ok (.iinc 4 4, 3) := by decide +kernel
theorem dL_law_445 : decode cL_law 445 = .ok (.goto (-422), 3) := by decide +kernel
theorem dL_law_448 : decode cL_law 448 = .ok (.iconst 1, 1) := by decide +kernel
theorem dL_law_449 : decode cL_law 449 = .ok (.ireturn, 1) := by decide +kernel
abbrev vwCl : List vw_C := [(RJ0, TJ0, 2), (RJx00060, TJx00060, 6), (RX0, TX0, 8), (RX1, TX1, 4), (RX2, TX2, 14), (RX3, TX3, 20)]
end
section
/-! THE STATE: one memory for the class (regions 0 .. 17), one for the reference (regions 18 .. 31); a region is the cell of the same number. ph: what the path's row of houses holds (numbers of houses); o: the law's long row. -/
abbrev pz_M : Type := Nat → Nat → Int32
def pz_st (g : pz_M) (r j : Nat) (v : Int32) : pz_M := fun a => if a = r then upd (g r) j v else g a
theorem pz_st_s (g : pz_M) (r j : Nat) (v : Int32) : pz_st g r j v r = upd (g r) j v := if_pos rfl
theorem pz_st_n {g : pz_M} {r a : Nat} {j : Nat} {v : Int32} (h : a ≠ r) : pz_st g r j v a = g a := if_neg h
def pz_fH (m : Nat → Int32) : List Value := [.int (m 0), .int (m 1), .int (m 2), .int (m 3), .int (m 4), .int (m 5), .int (m 6), .int (m 7)]
def pz_fP (ad : Nat → Nat) (m : Nat → Int32) : List Value := [.ref (ad 7), .ref (ad 8), .ref (ad 9), .int (m 3)]
def pz_fM (ad : Nat → Nat) (m : Nat → Int32) : List Value := [.ref (ad 1), .ref (ad 2), .ref (ad 3), .ref (ad 4), .ref (ad 5), .int (m 5), .int (m 6), .int (m 7), .int (m 8), .ref (ad 6), .int (m 10), .int (m 11), .int (m 12), .int (m 13)]
def pz_fR (ad : Nat → Nat) (m : Nat → Int32) : List Value := [.int (m 0), .ref (ad 19), .ref (ad 20), .ref (ad 21), .ref (ad 22), .ref (ad 23), .ref (ad 24), .ref (ad 25), .int (m 8), .ref (ad 26), .ref (ad 27), .int (m 11), .ref (ad 28), .ref (ad 29), .ref (ad 30), .int (m 15), .int (m 16), .int (m 17), .int (m 18), .ref (ad 31)]
def pz_rP (ad : Nat → Nat) : Nat → Option Nat := fun j => some (ad (10 + j))
def pz_rQ (ad : Nat → Nat) (ph : Nat → Option Nat) : Nat → Option Nat := fun j => (ph j).map (fun k => ad (10 + k))
def pz_ce (ad : Nat → Nat) (cc : Nat → ClassId) (ph : Nat → Option Nat) (o : Nat → Int64) (i : Nat) (m : Nat → Int32) : va_E := match i with
  | 0 => .inr (4, pz_fM ad m)
  | 1 => .inl (cc 2, 8, .inr (.inr (.inr (.inr (pz_rP ad)))))
  | 2 => .inr (3, pz_fP ad m)
  | 3 => .inl (cc 0, 8, .inl m)
  | 4 => .inl (cc 0, 30, .inl m)
  | 5 => .inl (cc 0, 30, .inl m)
  | 6 => .inl (cc 0, 7, .inl m)
  | 7 => .inl (cc 2, 6, .inr (.inr (.inr (.inr (pz_rQ ad ph)))))
  | 8 => .inl (cc 0, 6, .inl m)
  | 9 => .inl (cc 0, 6, .inl m)
  | 18 => .inr (5, pz_fR ad m)
  | 19 => .inl (cc 0, 8, .inl m)
  | 20 => .inl (cc 0, 8, .inl m)
  | 21 => .inl (cc 1, 8, .inl m)
  | 22 => .inl (cc 0, 8, .inl m)
  | 23 => .inl (cc 0, 8, .inl m)
  | 24 => .inl (cc 0, 8, .inl m)
  | 25 => .inl (cc 0, 8, .inl m)
  | 26 => .inl (cc 0, 30, .inl m)
  | 27 => .inl (cc 0, 30, .inl m)
  | 28 => .inl (cc 0, 6, .inl m)
  | 29 => .inl (cc 0, 6, .inl m)
  | 30 => .inl (cc 0, 6, .inl m)
  | 31 => .inl (cc 0, 17, .inl m)
  | 32 => .inl (cc 3, 1, .inr (.inl o))
  | _ => .inr (2, pz_fH m)
def pz_wd (ad : Nat → Nat) (cc : Nat → ClassId) (ph : Nat → Option Nat) (o : Nat → Int64) (g h : pz_M) : va_W := (List.range 33).map (fun i => (ad i, pz_ce ad cc ph o i (if i < 18 then g i else h i)))
def pz_ty (cc : Nat → ClassId) : List (ClassId × FieldType) := [(cc 0, .int), (cc 1, .boolean), (cc 2, .object "PowderMill$House"), (cc 3, .long)]
section PZ
variable {ad : Nat → Nat} {cc : Nat → ClassId} {ph : Nat → Option Nat} {o : Nat → Int64} {g h : pz_M}
theorem pz_at {i : Nat} (hi : i < 33) : (pz_wd ad cc ph o g h)[i]? = some (ad i, pz_ce ad cc ph o i (if i < 18 then g i else h i)) := by
  simp [pz_wd, hi]
theorem pz_no {i : Nat} (hi : ¬ i < 33) : (pz_wd ad cc ph o g h)[i]? = none := by
  simp [pz_wd]; omega
theorem pz_atC {i : Nat} (hi : i < 18) : (pz_wd ad cc ph o g h)[i]? = some (ad i, pz_ce ad cc ph o i (g i)) := by
  rw [pz_at (by omega), if_pos hi]
theorem pz_atR {i : Nat} (h1 : ¬ i < 18) (h2 : i < 33) : (pz_wd ad cc ph o g h)[i]? = some (ad i, pz_ce ad cc ph o i (h i)) := by
  rw [pz_at h2, if_neg h1]
theorem pz_len : (pz_wd ad cc ph o g h).length = 33 := by simp [pz_wd]
theorem pz_k8 {P : Nat → Prop} (h0 : P 0) (h1 : P 1) (h2 : P 2) (h3 : P 3) (h4 : P 4) (h5 : P 5) (h6 : P 6) (h7 : P 7) {k : Nat} (hk : k < 8) : P k := by
  rcases (show k = 0 ∨ k = 1 ∨ k = 2 ∨ k = 3 ∨ k = 4 ∨ k = 5 ∨ k = 6 ∨ k = 7 by omega) with rfl | rfl | rfl | rfl | rfl | rfl | rfl | rfl <;> assumption
theorem pz_ceH {k : Nat} {m : Nat → Int32} (hk : k < 8) : pz_ce ad cc ph o (10 + k) m = .inr (2, pz_fH m) :=
  pz_k8 (P := fun k => pz_ce ad cc ph o (10 + k) m = .inr (2, pz_fH m)) rfl rfl rfl rfl rfl rfl rfl rfl hk
theorem pz_fH_set {j : Nat} {m : Nat → Int32} {v : Int32} (hj : j < 8) : pz_fH (upd m j v) = (pz_fH m).set j (.int v) :=
  pz_k8 (P := fun j => pz_fH (upd m j v) = (pz_fH m).set j (.int v)) rfl rfl rfl rfl rfl rfl rfl rfl hj
/-- the class's cell i gets the value v at j -/
theorem pz_setC {i j : Nat} {v : Int32} {e : va_E} (hi : i < 18) (he : pz_ce ad cc ph o i (upd (g i) j v) = e) : (pz_wd ad cc ph o g h).set i (ad i, e) = pz_wd ad cc ph o (pz_st g i j v) h := by
  subst he
  apply List.ext_getElem?
  intro n
  by_cases hn : n < 33
  · by_cases e1 : i = n
    · subst e1
      rw [List.getElem?_set_self (by rw [pz_len]; exact hn), pz_atC hi, pz_st_s]
    · rw [List.getElem?_set_ne e1, pz_at hn, pz_at hn, pz_st_n (Ne.symm e1)]
  · rw [pz_no hn, List.getElem?_eq_none (by rw [List.length_set, pz_len]; omega)]
/-- the reference's cell i gets the value v at j -/
theorem pz_setR {i j : Nat} {v : Int32} {e : va_E} (h1 : ¬ i < 18) (h2 : i < 33) (he : pz_ce ad cc ph o i (upd (h i) j v) = e) : (pz_wd ad cc ph o g h).set i (ad i, e) = pz_wd ad cc ph o g (pz_st h i j v) := by
  subst he
  apply List.ext_getElem?
  intro n
  by_cases hn : n < 33
  · by_cases e1 : i = n
    · subst e1
      rw [List.getElem?_set_self (by rw [pz_len]; exact hn), pz_atR h1 h2, pz_st_s]
    · rw [List.getElem?_set_ne e1, pz_at hn, pz_at hn, pz_st_n (Ne.symm e1)]
  · rw [pz_no hn, List.getElem?_eq_none (by rw [List.length_set, pz_len]; omega)]
/-- the path's row of houses -/
theorem pz_setP {ph' : Nat → Option Nat} {e : va_E} (he : pz_ce ad cc ph' o 7 (g 7) = e) : (pz_wd ad cc ph o g h).set 7 (ad 7, e) = pz_wd ad cc ph' o g h := by
  subst he
  apply List.ext_getElem?
  intro n
  by_cases hn : n < 33
  · by_cases e1 : 7 = n
    · subst e1
      rw [List.getElem?_set_self (by rw [pz_len]; exact hn), pz_atC (by omega)]
    · rw [List.getElem?_set_ne e1, pz_at hn, pz_at hn]
      have key : ∀ m, pz_ce ad cc ph o n m = pz_ce ad cc ph' o n m := by
        intro m
        unfold pz_ce
        split <;> first | rfl | (exfalso; exact e1 rfl)
      rw [key]
  · rw [pz_no hn, List.getElem?_eq_none (by rw [List.length_set, pz_len]; omega)]
/-- the law's row -/
theorem pz_setO {o' : Nat → Int64} {e : va_E} (he : pz_ce ad cc ph o' 32 (h 32) = e) : (pz_wd ad cc ph o g h).set 32 (ad 32, e) = pz_wd ad cc ph o' g h := by
  subst he
  apply List.ext_getElem?
  intro n
  by_cases hn : n < 33
  · by_cases e1 : 32 = n
    · subst e1
      rw [List.getElem?_set_self (by rw [pz_len]; exact hn), pz_atR (by omega) (by omega)]
    · rw [List.getElem?_set_ne e1, pz_at hn, pz_at hn]
      have key : ∀ m, pz_ce ad cc ph o n m = pz_ce ad cc ph o' n m := by
        intro m
        unfold pz_ce
        split <;> first | rfl | (exfalso; exact e1 rfl)
      rw [key]
  · rw [pz_no hn, List.getElem?_eq_none (by rw [List.length_set, pz_len]; omega)]
/-- where the cells are, whatever they hold -/
theorem pz_same {g' h' : pz_M} {ph' : Nat → Option Nat} {o' : Nat → Int64} {i q : Nat} {e : va_E} (hq : (pz_wd ad cc ph o g h)[i]? = some (q, e)) : ∃ e', (pz_wd ad cc ph' o' g' h')[i]? = some (q, e') := by
  by_cases hi : i < 33
  · rw [pz_at hi] at hq
    obtain ⟨rfl, -⟩ := Prod.mk.inj (Option.some.inj hq)
    exact ⟨_, pz_at hi⟩
  · rw [pz_no hi] at hq; cases hq
theorem pz_A {g' h' : pz_M} {ph' : Nat → Option Nat} {o' : Nat → Int64} {sz q : Nat} (hq : va_A (pz_wd ad cc ph o g h) sz q) : va_A (pz_wd ad cc ph' o' g' h') sz q := by
  rcases hq with ⟨k, e, hq⟩ | hq
  · obtain ⟨e', h'⟩ := pz_same (ph' := ph') (o' := o') (g' := g') (h' := h') hq
    exact Or.inl ⟨k, e', h'⟩
  · exact Or.inr hq
theorem pz_D {g' h' : pz_M} {ph' : Nat → Option Nat} {o' : Nat → Int64} {A : Nat → Prop} (hD : va_D A (pz_wd ad cc ph o g h)) : va_D A (pz_wd ad cc ph' o' g' h') := by
  refine ⟨fun i j p q hi hj hpq => ?_, fun k q hk => ?_⟩
  · obtain ⟨e1, h1⟩ := pz_same (ph' := ph) (o' := o) (g' := g) (h' := h) (show _ = some (p.1, p.2) from hi)
    obtain ⟨e2, h2⟩ := pz_same (ph' := ph) (o' := o) (g' := g) (h' := h) (show _ = some (q.1, q.2) from hj)
    exact hD.1 i j _ _ h1 h2 hpq
  · obtain ⟨e1, h1⟩ := pz_same (ph' := ph) (o' := o) (g' := g) (h' := h) (show _ = some (q.1, q.2) from hk)
    exact hD.2 k (q.1, e1) h1
-- the cells one by one
theorem pz_a0 : (pz_wd ad cc ph o g h)[0]? = some (ad 0, .inr (4, pz_fM ad (g 0))) := pz_atC (by omega)
theorem pz_a1 : (pz_wd ad cc ph o g h)[1]? = some (ad 1, .inl (cc 2, 8, .inr (.inr (.inr (.inr (pz_rP ad)))))) := pz_atC (by omega)
theorem pz_a2 : (pz_wd ad cc ph o g h)[2]? = some (ad 2, .inr (3, pz_fP ad (g 2))) := pz_atC (by omega)
theorem pz_a3 : (pz_wd ad cc ph o g h)[3]? = some (ad 3, .inl (cc 0, 8, .inl (g 3))) := pz_atC (by omega)
theorem pz_a4 : (pz_wd ad cc ph o g h)[4]? = some (ad 4, .inl (cc 0, 30, .inl (g 4))) := pz_atC (by omega)
theorem pz_a5 : (pz_wd ad cc ph o g h)[5]? = some (ad 5, .inl (cc 0, 30, .inl (g 5))) := pz_atC (by omega)
theorem pz_a6 : (pz_wd ad cc ph o g h)[6]? = some (ad 6, .inl (cc 0, 7, .inl (g 6))) := pz_atC (by omega)
theorem pz_a7 : (pz_wd ad cc ph o g h)[7]? = some (ad 7, .inl (cc 2, 6, .inr (.inr (.inr (.inr (pz_rQ ad ph)))))) := pz_atC (by omega)
theorem pz_a8 : (pz_wd ad cc ph o g h)[8]? = some (ad 8, .inl (cc 0, 6, .inl (g 8))) := pz_atC (by omega)
theorem pz_a9 : (pz_wd ad cc ph o g h)[9]? = some (ad 9, .inl (cc 0, 6, .inl (g 9))) := pz_atC (by omega)
theorem pz_aH {k : Nat} (hk : k < 8) : (pz_wd ad cc ph o g h)[10 + k]? = some (ad (10 + k), .inr (2, pz_fH (g (10 + k)))) := by
  rw [pz_atC (by omega), pz_ceH hk]
theorem pz_a18 : (pz_wd ad cc ph o g h)[18]? = some (ad 18, .inr (5, pz_fR ad (h 18))) := pz_atR (by omega) (by omega)
theorem pz_a19 : (pz_wd ad cc ph o g h)[19]? = some (ad 19, .inl (cc 0, 8, .inl (h 19))) := pz_atR (by omega) (by omega)
theorem pz_a20 : (pz_wd ad cc ph o g h)[20]? = some (ad 20, .inl (cc 0, 8, .inl (h 20))) := pz_atR (by omega) (by omega)
theorem pz_a21 : (pz_wd ad cc ph o g h)[21]? = some (ad 21, .inl (cc 1, 8, .inl (h 21))) := pz_atR (by omega) (by omega)
theorem pz_a22 : (pz_wd ad cc ph o g h)[22]? = some (ad 22, .inl (cc 0, 8, .inl (h 22))) := pz_atR (by omega) (by omega)
theorem pz_a23 : (pz_wd ad cc ph o g h)[23]? = some (ad 23, .inl (cc 0, 8, .inl (h 23))) := pz_atR (by omega) (by omega)
theorem pz_a24 : (pz_wd ad cc ph o g h)[24]? = some (ad 24, .inl (cc 0, 8, .inl (h 24))) := pz_atR (by omega) (by omega)
theorem pz_a25 : (pz_wd ad cc ph o g h)[25]? = some (ad 25, .inl (cc 0, 8, .inl (h 25))) := pz_atR (by omega) (by omega)
theorem pz_a26 : (pz_wd ad cc ph o g h)[26]? = some (ad 26, .inl (cc 0, 30, .inl (h 26))) := pz_atR (by omega) (by omega)
theorem pz_a27 : (pz_wd ad cc ph o g h)[27]? = some (ad 27, .inl (cc 0, 30, .inl (h 27))) := pz_atR (by omega) (by omega)
theorem pz_a28 : (pz_wd ad cc ph o g h)[28]? = some (ad 28, .inl (cc 0, 6, .inl (h 28))) := pz_atR (by omega) (by omega)
theorem pz_a29 : (pz_wd ad cc ph o g h)[29]? = some (ad 29, .inl (cc 0, 6, .inl (h 29))) := pz_atR (by omega) (by omega)
theorem pz_a30 : (pz_wd ad cc ph o g h)[30]? = some (ad 30, .inl (cc 0, 6, .inl (h 30))) := pz_atR (by omega) (by omega)
theorem pz_a31 : (pz_wd ad cc ph o g h)[31]? = some (ad 31, .inl (cc 0, 17, .inl (h 31))) := pz_atR (by omega) (by omega)
theorem pz_a32 : (pz_wd ad cc ph o g h)[32]? = some (ad 32, .inl (cc 3, 1, .inr (.inl o))) := pz_atR (by omega) (by omega)
theorem pz_sH {k j : Nat} {v : Int32} (hk : k < 8) (hj : j < 8) : (pz_wd ad cc ph o g h).set (10 + k) (ad (10 + k), .inr (2, (pz_fH (g (10 + k))).set j (.int v))) = pz_wd ad cc ph o (pz_st g (10 + k) j v) h :=
  pz_setC (by omega) (by rw [pz_ceH hk, pz_fH_set hj])
end PZ
end
section
/-! THE LAYER: what a contract says in this system's words, and rows for its cells -/
def pz_K (dC : Nat → ClassId) (dI : Nat → Nat → Nat) (cc : Nat → ClassId) (U : State) : Prop := va_K (dC, dI) vwCl (pz_ty cc) U ∧ va_Nw (.fieldLinkNest RX2 156 "PowderMill$House" "powder" "I" "PowderMill") U ∧ va_Nw (.fieldLinkNest RX2 65 "PowderMill$House" "stands" "Z" "PowderMill") U ∧ va_Nw (.fieldLinkNest RX1 28 "PowderMill$House" "timesIn" "I" "PowderMill") U ∧ va_Nw (.fieldLinkNest RX1 31 "PowderMill$House" "staysNow" "I" "PowderMill") U ∧ va_Nw (.fieldLinkNest RX1 38 "PowderMill$House" "refuge" "Z" "PowderMill") U ∧ va_Nw (.fieldLinkNest RX1 42 "PowderMill$House" "timesCaught" "I" "PowderMill") U
theorem pz_K.warm {dC : Nat → ClassId} {dI : Nat → Nat → Nat} {cc : Nat → ClassId} {s U : State} (hW : s.WarmedH U.vm) (h : pz_K dC dI cc s) : pz_K dC dI cc U := by
  obtain ⟨h0, h1, h2, h3, h4, h5, h6⟩ := h
  exact ⟨va_K.moved hW.alike h0, va_Nw.warmF hW h1, va_Nw.warmF hW h2, va_Nw.warmF hW h3, va_Nw.warmF hW h4, va_Nw.warmF hW h5, va_Nw.warmF hW h6⟩
def pz_Pre (dC : Nat → ClassId) (dI : Nat → Nat → Nat) (cc : Nat → ClassId) (w : va_W) (sz : Nat) (U : State) : Prop := U.heap.size = sz ∧ va_P (dC, dI) vwCl w U.heap ∧ pz_K dC dI cc U ∧ va_D (fun _ => True) w
theorem pz_blind {dC : Nat → ClassId} {dI : Nat → Nat → Nat} {cc : Nat → ClassId} {w : va_W} {sz : Nat} {av : List Value} : FrameBlind (va_Pc av (pz_Pre dC dI cc w sz)) := by
  intro a U g mk q
  obtain ⟨q0, q1, q2, q3, q4⟩ := q
  exact ⟨q0, q1, q2, pz_K.warm (s := U) (U := U.calling g mk a) (State.WarmedH.refl U) q3, q4⟩
def pz_Qi (dC : Nat → ClassId) (dI : Nat → Nat → Nat) {S : Type} (post : Int32 → S → Prop) (wf : S → va_W) (A : Nat → Prop) : Array Value → State → Outcome → State → Prop := va_Qi post (fun u t => va_P (dC, dI) vwCl (wf u) t.heap ∧ va_D A (wf u)) A
def pz_Qv (dC : Nat → ClassId) (dI : Nat → Nat → Nat) {S : Type} (post : S → Prop) (wf : S → va_W) (A : Nat → Prop) : Array Value → State → Outcome → State → Prop := va_Qv post (fun u t => va_P (dC, dI) vwCl (wf u) t.heap ∧ va_D A (wf u)) A
def pz_Qe (dC : Nat → ClassId) (dI : Nat → Nat → Nat) (ad : Nat → Nat) {S : Type} (post : Option Nat → S → Prop) (wf : S → va_W) (A : Nat → Prop) : Array Value → State → Outcome → State → Prop := va_Qe (fun k => ad (10 + k)) post (fun u t => va_P (dC, dI) vwCl (wf u) t.heap ∧ va_D A (wf u)) A
/-- contracts: an int comes back; nothing does; a house or null does -/
def pz_Mi (l : Launch) (dC : Nat → ClassId) (dI : Nat → Nat → Nat) (cc : Nat → ClassId) (y : MethodName) (ws : List Cond) (rm : Room) (av : List Value) (w : va_W) {S : Type} (wf : S → va_W) (post : Int32 → S → Prop) : Prop :=
  ∀ sz : Nat, Met l y ws rm (va_Pc av (pz_Pre dC dI cc w sz)) (pz_Qi dC dI post wf (va_A w sz)) 0 0 (va_A w sz)
def pz_Mv (l : Launch) (dC : Nat → ClassId) (dI : Nat → Nat → Nat) (cc : Nat → ClassId) (y : MethodName) (ws : List Cond) (rm : Room) (av : List Value) (w : va_W) {S : Type} (wf : S → va_W) (post : S → Prop) : Prop :=
  ∀ sz : Nat, Met l y ws rm (va_Pc av (pz_Pre dC dI cc w sz)) (pz_Qv dC dI post wf (va_A w sz)) 0 0 (va_A w sz)
def pz_Me (l : Launch) (dC : Nat → ClassId) (dI : Nat → Nat → Nat) (cc : Nat → ClassId) (ad : Nat → Nat) (y : MethodName) (ws : List Cond) (rm : Room) (av : List Value) (w : va_W) {S : Type} (wf : S → va_W) (post : Option Nat → S → Prop) : Prop :=
  ∀ sz : Nat, Met l y ws rm (va_Pc av (pz_Pre dC dI cc w sz)) (pz_Qe dC dI ad post wf (va_A w sz)) 0 0 (va_A w sz)
/-- a method's start -/
theorem pr_ofW {l : Launch} {dC : Nat → ClassId} {dI : Nat → Nat → Nat} {cl : Nat → ClassId} {y : MethodName} {ws ws' : List Cond} {rm : Room} {av : List Value} {w : va_W} {sz mc ms : Nat} {Qc : (Nat → Prop) → Array Value → State → Outcome → State → Prop} {cb : ByteArray} {maxL : Nat} {ret : Option FieldType}
    (hy : plainName y.cls = true) (hw : ws = Cond.code y cb maxL ret :: ws') (hlen : (lg_sl av).length ≤ maxL)
    (body : ∀ (p : Program) (e : Env) (s : State) (m : MethodId) (below : List Frame) (meth : Method) (c : Code) (A : Nat → Prop) (ls : Array Slot), p.tables.exec = Jvm.exec → c.code = cb → c.maxLocals = maxL → meth.sig.returnType = ret → meth.locks = false → (∀ x ∈ ws, x.before av.toArray s = true) → s.vm.findClass y.cls = some m.cls →
      pz_K dC dI cl s → va_P (dC, dI) vwCl w s.heap → va_D A w → va_S A s.heap s.heap [] → (∀ q, s.heap.size ≤ q → A q) → lv_has ls maxL (lv_args 0 av) →
      W p l e rm s m av.toArray below meth c s.heap [] 0 0 (MQ below (Qc A) av.toArray s mc ms A) (F0 m 0 ls [])) :
    Met l y ws rm (va_Pc av (pz_Pre dC dI cl w sz)) (Qc (va_A w sz)) mc ms (va_A w sz) := by
  refine Met.ofW (cc := cb) (maxL := maxL) (ret := ret) hy hw ?_
  intro p e s m args below meth c s₁ B hml hv
  obtain ⟨rfl, hsz, hP, hK, hD0⟩ := hv
  subst hsz
  have hl := lv_entry av (n := maxL) hlen
  rw [lg_entry_eq]
  exact body p e s m below meth c (va_A w s.heap.size) _ B.exec B.bytes hml B.returns B.notSynchronized (atoms_spec (ws := ws) B.pre) (findClass_of_methodNamed B.named) hK hP (hD0.self (sz := s.heap.size)) va_S.rf (fun q h => Or.inr h) hl
section PR
variable {p : Program} {l : Launch} {e : Env} {R : Room} {s : State} {m : MethodId} {args : Array Value} {below : List Frame} {meth : Method} {c : Code} {H : Heap} {locs : List Loc} {cells slots : Nat} {Q : State → Prop}
variable {cb : ByteArray} {pc : Nat} {ls : Array Slot} {rest : List Value} {dC : Nat → ClassId} {dI : Nat → Nat → Nat} {ad : Nat → Nat} {cl : Nat → ClassId} {ph : Nat → Option Nat} {o : Nat → Int64} {g h : pz_M} {A : Nat → Prop}
-- ends
theorem pr_iret {S : Type} {post : Int32 → S → Prop} {wf : S → va_W} {v : Int32} (u : S) (hx : p.tables.exec = Jvm.exec) (hb : c.code = cb) (hr : meth.sig.returnType = some .int) (hlocks : meth.locks = false) (hP : va_P (dC, dI) vwCl (wf u) H) (hD : va_D A (wf u)) (hS : va_S A s.heap H locs) (hdg : decode cb pc = .ok (.ireturn, 1)) (hp : post v u) :
    W p l e R s m args below meth c H locs cells slots (MQ below (pz_Qi dC dI post wf A) args s cells slots A) (F0 m pc ls [.int v]) :=
  W.iret (v := v) hx hb hr (fun t ht _ => ⟨⟨v, u, rfl, hp, by rw [ht]; exact hP, hD⟩, hS.F ht⟩) hS.2.2 hdg hlocks
theorem pr_zret {S : Type} {post : Int32 → S → Prop} {wf : S → va_W} {v : Int32} (u : S) (hx : p.tables.exec = Jvm.exec) (hb : c.code = cb) (hr : meth.sig.returnType = some .boolean) (hlocks : meth.locks = false) (hv : v = 0 ∨ v = 1) (hP : va_P (dC, dI) vwCl (wf u) H) (hD : va_D A (wf u)) (hS : va_S A s.heap H locs) (hdg : decode cb pc = .ok (.ireturn, 1)) (hp : post v u) :
    W p l e R s m args below meth c H locs cells slots (MQ below (pz_Qi dC dI post wf A) args s cells slots A) (F0 m pc ls [.int v]) :=
  W.zret (v := v) (ty := .boolean) hx hb hr (by rcases hv with rfl | rfl <;> rfl) (fun t ht _ => ⟨⟨v, u, rfl, hp, by rw [ht]; exact hP, hD⟩, hS.F ht⟩) hS.2.2 hdg hlocks
theorem pr_vret {S : Type} {post : S → Prop} {wf : S → va_W} (u : S) (hx : p.tables.exec = Jvm.exec) (hb : c.code = cb) (hr : meth.sig.returnType = none) (hlocks : meth.locks = false) (hP : va_P (dC, dI) vwCl (wf u) H) (hD : va_D A (wf u)) (hS : va_S A s.heap H locs) (hdg : decode cb pc = .ok (.return_, 1)) (hp : post u) :
    W p l e R s m args below meth c H locs cells slots (MQ below (pz_Qv dC dI post wf A) args s cells slots A) (F0 m pc ls []) :=
  W.vret hx hb hr (fun t ht _ => ⟨⟨u, rfl, hp, by rw [ht]; exact hP, hD⟩, hS.F ht⟩) hS.2.2 hdg hlocks
theorem pr_aret {S : Type} {post : Option Nat → S → Prop} {wf : S → va_W} {v : Value} (r : Option Nat) (u : S) (hx : p.tables.exec = Jvm.exec) (hb : c.code = cb) (hr : meth.sig.returnType = some (.object "PowderMill$House")) (hlocks : meth.locks = false) (hv : va_re (fun k => ad (10 + k)) r = v) (hP : va_P (dC, dI) vwCl (wf u) H) (hD : va_D A (wf u)) (hS : va_S A s.heap H locs) (hdg : decode cb pc = .ok (.areturn, 1)) (hp : post r u) :
    W p l e R s m args below meth c H locs cells slots (MQ below (pz_Qe dC dI ad post wf A) args s cells slots A) (F0 m pc ls [v]) :=
  W.aret (v := v) hx hb hr (Or.inl ⟨_, rfl⟩) (by rw [← hv]; exact va_re_or _ _) (fun t ht _ => ⟨⟨r, u, by rw [hv], hp, by rw [ht]; exact hP, hD⟩, hS.F ht⟩) hS.2.2 hdg hlocks
-- fields of the class's objects
theorem pr_putC (hexec : p.tables.exec = Jvm.exec) (hb : c.code = cb) {own ref C : String} {T : u_T} {N ci index : Nat} {Ts : List Cond} (hts : ∀ w ∈ Ts, w.before args s = true) (hin : ∀ w ∈ u_ws C T N, w ∈ Ts) (ty0 : Nat → FieldType) (hty : ∀ k, k < N → parseFieldDescriptor (T k).2.2.1 = some (ty0 k)) (hnm : ∀ a, a < N → ∀ b, b < N → a ≠ b → (T a).2.1 ≠ (T b).2.1) (hown : s.vm.findClass own = some m.cls) (hK : va_K (dC, dI) vwCl (pz_ty cl) s) (hP : va_P (dC, dI) vwCl (pz_wd ad cl ph o g h) H) (hD : va_D A (pz_wd ad cl ph o g h)) (hS : va_S A s.heap H locs) (i : Nat) (hi : i < 18) {fs : List Value} (ha : (pz_wd ad cl ph o g h)[i]? = some (ad i, .inr (ci, fs))) (hc : vwCl[ci]? = some (C, T, N)) (k : Nat) (hk : k < N) (hlink : (Cond.fieldLink own index ref (T k).2.1 (T k).2.2.1).before args s = true) (hsame : ∀ x, s.fieldFound? (T k).1 (T k).2.1 (T k).2.2.1 = some x → s.fieldFound? ref (T k).2.1 (T k).2.2.1 = some x) (hfin : (T k).2.2.2 = false) {ty : FieldType} {v : Int32} (hd : parseFieldDescriptor (T k).2.2.1 = some ty) (hn : narrow ty (.int v) = .int v) (hfit : fits ty (.int v) = true) (hl : k < fs.length) (he : pz_ce ad cl ph o i (upd (g i) k v) = .inr (ci, fs.set k (.int v))) (hdg : decode cb pc = .ok (.putfield index, 3))
    (kk : ∀ (g1 : pz_M) (H1 : Heap) (locs1 : List Loc), g1 = pz_st g i k v → va_P (dC, dI) vwCl (pz_wd ad cl ph o g1 h) H1 → va_D A (pz_wd ad cl ph o g1 h) → va_S A s.heap H1 locs1 → W p l e R s m args below meth c H1 locs1 cells slots Q (F0 m (pc + 3) ls rest)) : W p l e R s m args below meth c H locs cells slots Q (F0 m pc ls (.int v :: .ref (ad i) :: rest)) :=
  va_put hexec hb hts hin ty0 hty hnm hown hK hP hD hS i ha hc k hk hlink hsame hfin hd hn hfit hl hdg (fun H1 l1 hP1 hD1 hS1 => kk _ H1 l1 rfl (pz_setC hi he ▸ hP1) (pz_setC hi he ▸ hD1) hS1)
theorem pr_putN (hexec : p.tables.exec = Jvm.exec) (hb : c.code = cb) {own ref C host : String} {T : u_T} {N ci index : Nat} {Ts : List Cond} (hts : ∀ w ∈ Ts, w.before args s = true) (hin : ∀ w ∈ u_ws C T N, w ∈ Ts) (ty0 : Nat → FieldType) (hty : ∀ k, k < N → parseFieldDescriptor (T k).2.2.1 = some (ty0 k)) (hnm : ∀ a, a < N → ∀ b, b < N → a ≠ b → (T a).2.1 ≠ (T b).2.1) (hown : s.vm.findClass own = some m.cls) (hK : va_K (dC, dI) vwCl (pz_ty cl) s) (hP : va_P (dC, dI) vwCl (pz_wd ad cl ph o g h) H) (hD : va_D A (pz_wd ad cl ph o g h)) (hS : va_S A s.heap H locs) (i : Nat) (hi : i < 18) {fs : List Value} (ha : (pz_wd ad cl ph o g h)[i]? = some (ad i, .inr (ci, fs))) (hc : vwCl[ci]? = some (C, T, N)) (k : Nat) (hk : k < N) (hlink : (Cond.fieldLinkNest own index ref (T k).2.1 (T k).2.2.1 host).before args s = true) (hsame : ∀ x, s.fieldFound? (T k).1 (T k).2.1 (T k).2.2.1 = some x → s.fieldFound? ref (T k).2.1 (T k).2.2.1 = some x) (hfin : (T k).2.2.2 = false) {ty : FieldType} {v : Int32} (hd : parseFieldDescriptor (T k).2.2.1 = some ty) (hn : narrow ty (.int v) = .int v) (hfit : fits ty (.int v) = true) (hl : k < fs.length) (he : pz_ce ad cl ph o i (upd (g i) k v) = .inr (ci, fs.set k (.int v))) (hdg : decode cb pc = .ok (.putfield index, 3))
    (kk : ∀ (g1 : pz_M) (H1 : Heap) (locs1 : List Loc), g1 = pz_st g i k v → va_P (dC, dI) vwCl (pz_wd ad cl ph o g1 h) H1 → va_D A (pz_wd ad cl ph o g1 h) → va_S A s.heap H1 locs1 → W p l e R s m args below meth c H1 locs1 cells slots Q (F0 m (pc + 3) ls rest)) : W p l e R s m args below meth c H locs cells slots Q (F0 m pc ls (.int v :: .ref (ad i) :: rest)) :=
  va_putN hexec hb hts hin ty0 hty hnm hown hK hP hD hS i ha hc k hk hlink hsame hfin hd hn hfit hl hdg (fun H1 l1 hP1 hD1 hS1 => kk _ H1 l1 rfl (pz_setC hi he ▸ hP1) (pz_setC hi he ▸ hD1) hS1)
theorem pr_putR (hexec : p.tables.exec = Jvm.exec) (hb : c.code = cb) {own ref C : String} {T : u_T} {N ci index : Nat} {Ts : List Cond} (hts : ∀ w ∈ Ts, w.before args s = true) (hin : ∀ w ∈ u_ws C T N, w ∈ Ts) (ty0 : Nat → FieldType) (hty : ∀ k, k < N → parseFieldDescriptor (T k).2.2.1 = some (ty0 k)) (hnm : ∀ a, a < N → ∀ b, b < N → a ≠ b → (T a).2.1 ≠ (T b).2.1) (hown : s.vm.findClass own = some m.cls) (hK : va_K (dC, dI) vwCl (pz_ty cl) s) (hP : va_P (dC, dI) vwCl (pz_wd ad cl ph o g h) H) (hD : va_D A (pz_wd ad cl ph o g h)) (hS : va_S A s.heap H locs) (i : Nat) (hi : ¬ i < 18) (hi2 : i < 33) {fs : List Value} (ha : (pz_wd ad cl ph o g h)[i]? = some (ad i, .inr (ci, fs))) (hc : vwCl[ci]? = some (C, T, N)) (k : Nat) (hk : k < N) (hlink : (Cond.fieldLink own index ref (T k).2.1 (T k).2.2.1).before args s = true) (hsame : ∀ x, s.fieldFound? (T k).1 (T k).2.1 (T k).2.2.1 = some x → s.fieldFound? ref (T k).2.1 (T k).2.2.1 = some x) (hfin : (T k).2.2.2 = false) {ty : FieldType} {v : Int32} (hd : parseFieldDescriptor (T k).2.2.1 = some ty) (hn : narrow ty (.int v) = .int v) (hfit : fits ty (.int v) = true) (hl : k < fs.length) (he : pz_ce ad cl ph o i (upd (h i) k v) = .inr (ci, fs.set k (.int v))) (hdg : decode cb pc = .ok (.putfield index, 3))
    (kk : ∀ (h1 : pz_M) (H1 : Heap) (locs1 : List Loc), h1 = pz_st h i k v → va_P (dC, dI) vwCl (pz_wd ad cl ph o g h1) H1 → va_D A (pz_wd ad cl ph o g h1) → va_S A s.heap H1 locs1 → W p l e R s m args below meth c H1 locs1 cells slots Q (F0 m (pc + 3) ls rest)) : W p l e R s m args below meth c H locs cells slots Q (F0 m pc ls (.int v :: .ref (ad i) :: rest)) :=
  va_put hexec hb hts hin ty0 hty hnm hown hK hP hD hS i ha hc k hk hlink hsame hfin hd hn hfit hl hdg (fun H1 l1 hP1 hD1 hS1 => kk _ H1 l1 rfl (pz_setR hi hi2 he ▸ hP1) (pz_setR hi hi2 he ▸ hD1) hS1)
-- rows of numbers
theorem pr_iastC (hexec : p.tables.exec = Jvm.exec) (hb : c.code = cb) (hK : va_K (dC, dI) vwCl (pz_ty cl) s) (hP : va_P (dC, dI) vwCl (pz_wd ad cl ph o g h) H) (hD : va_D A (pz_wd ad cl ph o g h)) (hS : va_S A s.heap H locs) (i : Nat) (hi : i < 18) {n : Nat} (ha : (pz_wd ad cl ph o g h)[i]? = some (ad i, .inl (cl 0, n, .inl (g i)))) (he : ∀ mm : Nat → Int32, pz_ce ad cl ph o i mm = .inl (cl 0, n, .inl mm)) {j x : Int32} (hin : vp_in j n) (hdg : decode cb pc = .ok (.iastore, 1))
    (kk : ∀ (g1 : pz_M) (H1 : Heap) (locs1 : List Loc), g1 = pz_st g i j.toNatClampNeg x → va_P (dC, dI) vwCl (pz_wd ad cl ph o g1 h) H1 → va_D A (pz_wd ad cl ph o g1 h) → va_S A s.heap H1 locs1 → W p l e R s m args below meth c H1 locs1 cells slots Q (F0 m (pc + 1) ls rest)) : W p l e R s m args below meth c H locs cells slots Q (F0 m pc ls (.int x :: .int j :: .ref (ad i) :: rest)) :=
  va_iast hexec hb hK hP hD hS i 0 ha rfl hin hdg (fun H1 l1 hP1 hD1 hS1 => kk _ H1 l1 rfl (pz_setC hi (he _) ▸ hP1) (pz_setC hi (he _) ▸ hD1) hS1)
theorem pr_iastR (hexec : p.tables.exec = Jvm.exec) (hb : c.code = cb) (hK : va_K (dC, dI) vwCl (pz_ty cl) s) (hP : va_P (dC, dI) vwCl (pz_wd ad cl ph o g h) H) (hD : va_D A (pz_wd ad cl ph o g h)) (hS : va_S A s.heap H locs) (i : Nat) (hi : ¬ i < 18) (hi2 : i < 33) {n : Nat} (ha : (pz_wd ad cl ph o g h)[i]? = some (ad i, .inl (cl 0, n, .inl (h i)))) (he : ∀ mm : Nat → Int32, pz_ce ad cl ph o i mm = .inl (cl 0, n, .inl mm)) {j x : Int32} (hin : vp_in j n) (hdg : decode cb pc = .ok (.iastore, 1))
    (kk : ∀ (h1 : pz_M) (H1 : Heap) (locs1 : List Loc), h1 = pz_st h i j.toNatClampNeg x → va_P (dC, dI) vwCl (pz_wd ad cl ph o g h1) H1 → va_D A (pz_wd ad cl ph o g h1) → va_S A s.heap H1 locs1 → W p l e R s m args below meth c H1 locs1 cells slots Q (F0 m (pc + 1) ls rest)) : W p l e R s m args below meth c H locs cells slots Q (F0 m pc ls (.int x :: .int j :: .ref (ad i) :: rest)) :=
  va_iast hexec hb hK hP hD hS i 0 ha rfl hin hdg (fun H1 l1 hP1 hD1 hS1 => kk _ H1 l1 rfl (pz_setR hi hi2 (he _) ▸ hP1) (pz_setR hi hi2 (he _) ▸ hD1) hS1)
theorem pr_zastR (hexec : p.tables.exec = Jvm.exec) (hb : c.code = cb) (hK : va_K (dC, dI) vwCl (pz_ty cl) s) (hP : va_P (dC, dI) vwCl (pz_wd ad cl ph o g h) H) (hD : va_D A (pz_wd ad cl ph o g h)) (hS : va_S A s.heap H locs) {j x : Int32} (hx : x = 0 ∨ x = 1) (hin : vp_in j 8) (hdg : decode cb pc = .ok (.bastore, 1))
    (kk : ∀ (h1 : pz_M) (H1 : Heap) (locs1 : List Loc), h1 = pz_st h 21 j.toNatClampNeg x → va_P (dC, dI) vwCl (pz_wd ad cl ph o g h1) H1 → va_D A (pz_wd ad cl ph o g h1) → va_S A s.heap H1 locs1 → W p l e R s m args below meth c H1 locs1 cells slots Q (F0 m (pc + 1) ls rest)) : W p l e R s m args below meth c H locs cells slots Q (F0 m pc ls (.int x :: .int j :: .ref (ad 21) :: rest)) := by
  have hz : vp_nar .boolean x = x := by rcases hx with rfl | rfl <;> rfl
  refine va_zast hexec hb hK hP hD hS 21 1 pz_a21 rfl hin hdg (fun H1 l1 hP1 hD1 hS1 => kk _ H1 l1 rfl ?_ ?_ hS1)
  · rw [hz] at hP1; exact (pz_setR (i := 21) (j := j.toNatClampNeg) (v := x) (by omega) (by omega) rfl) ▸ hP1
  · rw [hz] at hD1; exact (pz_setR (i := 21) (j := j.toNatClampNeg) (v := x) (by omega) (by omega) rfl) ▸ hD1
-- rows of houses
theorem pr_places (hexec : p.tables.exec = Jvm.exec) (hb : c.code = cb) (hK : va_K (dC, dI) vwCl (pz_ty cl) s) (hP : va_P (dC, dI) vwCl (pz_wd ad cl ph o g h) H) {j : Int32} (hin : vp_in j 8) (hdg : decode cb pc = .ok (.aaload, 1))
    (kk : W p l e R s m args below meth c H locs cells slots Q (F0 m (pc + 1) ls (.ref (ad (10 + j.toNatClampNeg)) :: rest))) : W p l e R s m args below meth c H locs cells slots Q (F0 m pc ls (.int j :: .ref (ad 1) :: rest)) :=
  va_aldq (C := "PowderMill$House") hexec hb hK hP 1 2 pz_a1 rfl hin hdg kk
theorem pr_stay (hexec : p.tables.exec = Jvm.exec) (hb : c.code = cb) (hK : va_K (dC, dI) vwCl (pz_ty cl) s) (hP : va_P (dC, dI) vwCl (pz_wd ad cl ph o g h) H) {j : Int32} {k : Nat} (hk : ph j.toNatClampNeg = some k) (hin : vp_in j 6) (hdg : decode cb pc = .ok (.aaload, 1))
    (kk : W p l e R s m args below meth c H locs cells slots Q (F0 m (pc + 1) ls (.ref (ad (10 + k)) :: rest))) : W p l e R s m args below meth c H locs cells slots Q (F0 m pc ls (.int j :: .ref (ad 7) :: rest)) :=
  va_aldq (C := "PowderMill$House") hexec hb hK hP 7 2 pz_a7 rfl hin hdg (by
    have : va_rf (pz_rQ ad ph j.toNatClampNeg) = .ref (ad (10 + k)) := by unfold pz_rQ; rw [hk]; rfl
    rw [this]; exact kk)
theorem pr_enter (hexec : p.tables.exec = Jvm.exec) (hb : c.code = cb) (hK : va_K (dC, dI) vwCl (pz_ty cl) s) (hP : va_P (dC, dI) vwCl (pz_wd ad cl ph o g h) H) (hD : va_D A (pz_wd ad cl ph o g h)) (hS : va_S A s.heap H locs) {j : Int32} {k : Nat} (hk : k < 8) (hin : vp_in j 6) (hdg : decode cb pc = .ok (.aastore, 1))
    (kk : ∀ (ph1 : Nat → Option Nat) (H1 : Heap) (locs1 : List Loc), ph1 = va_up ph j.toNatClampNeg (some k) → va_P (dC, dI) vwCl (pz_wd ad cl ph1 o g h) H1 → va_D A (pz_wd ad cl ph1 o g h) → va_S A s.heap H1 locs1 → W p l e R s m args below meth c H1 locs1 cells slots Q (F0 m (pc + 1) ls rest)) : W p l e R s m args below meth c H locs cells slots Q (F0 m pc ls (.ref (ad (10 + k)) :: .int j :: .ref (ad 7) :: rest)) := by
  have hz : pz_rQ ad (va_up ph j.toNatClampNeg (some k)) = va_up (pz_rQ ad ph) j.toNatClampNeg (some (ad (10 + k))) := by
    funext z
    unfold pz_rQ va_up
    by_cases hz : z = j.toNatClampNeg
    · rw [if_pos hz, if_pos hz]; rfl
    · rw [if_neg hz, if_neg hz]
  refine va_astq (r := (RX0, TX0, 8)) hexec hb hK hP hD hS 7 2 (10 + k) 2 pz_a7 rfl (pz_aH hk) rfl hin hdg (fun H1 l1 hP1 hD1 hS1 => kk _ H1 l1 rfl ?_ ?_ hS1)
  · rw [← hz] at hP1; exact pz_setP rfl ▸ hP1
  · rw [← hz] at hD1; exact pz_setP rfl ▸ hD1
-- calls
theorem pr_up {w : va_W} (hD : va_D A w) (hS : va_S A s.heap H locs) (hA : ∀ q, s.heap.size ≤ q → A q) : ∀ q, va_A w H.size q → A q := by
  intro q hq
  rcases hq with ⟨k, e, hq⟩ | hq
  · exact hD.2 k _ hq
  · exact hA q (Nat.le_trans hS.1 hq)
variable {nL n index maxL : Nat} {Ts ws : List Cond} {own C : String} {y : MethodName} {bytes : ByteArray} {ret : Option FieldType} {rm : Room} {b : Nat} {As st0 : List Value} {w : va_W} {S : Type} {wf : S → va_W}
theorem pr_Vi {post : Int32 → S → Prop} (F : CallFix p m c cb nL s args Ts own) (hM : pz_Mi l dC dI cl y ws rm (.ref b :: As) w wf post) (cw : CallW R s args own C index y bytes maxL ret ws rm 0 0 n) (hrecv : ∃ cellB : Cell, H[b]? = some cellB ∧ cellB.vm.isStatics = false ∧ s.vm.findClass C = some cellB.cls)
    (hK : pz_K dC dI cl s) (hP : va_P (dC, dI) vwCl w H) (hD : va_D A w) (hS : va_S A s.heap H locs) (hA : ∀ q, s.heap.size ≤ q → A q) (hn : As.length = n) (hsize : ls.size = nL) (hstack : st0 = As.reverse ++ .ref b :: rest) (hW : (rest.map fun v => v.category).sum ≤ 8) (hf : cells ≤ R.cells ∧ slots ≤ R.slots) (hdg : decode cb pc = .ok (.invokevirtual index, 3))
    (kk : ∀ (r : Int32) (u : S) (H1 : Heap) (locs1 : List Loc), post r u → va_P (dC, dI) vwCl (wf u) H1 → va_D A (wf u) → va_S A s.heap H1 locs1 → W p l e R s m args below meth c H1 locs1 cells slots Q (F0 m (pc + 3) ls (.int r :: rest))) : W p l e R s m args below meth c H locs cells slots Q (F0 m pc ls st0) :=
  va_calli (va_runV (As := As) (rest := rest) F (hM H.size) cw ⟨pz_blind, hrecv, fun U hU hWu => ⟨rfl, by rw [hU], by rw [hU]; exact hP, hK.warm hWu, hD.weaken (fun _ _ _ _ => trivial)⟩⟩ rfl hn hsize hstack (lv_room hW) hdg hf) hS (fun q _ h9 => pr_up hD hS hA q h9) (pr_up hD hS hA)
    (fun r u t H1 l1 ht _ hp hB _ _ hS1 => kk r u H1 l1 hp (by rw [← ht]; exact hB.1) (hB.2.weaken (fun _ q _ h9 => pr_up hD hS hA q.1 h9)) hS1)
theorem pr_Vv {post : S → Prop} (F : CallFix p m c cb nL s args Ts own) (hM : pz_Mv l dC dI cl y ws rm (.ref b :: As) w wf post) (cw : CallW R s args own C index y bytes maxL ret ws rm 0 0 n) (hrecv : ∃ cellB : Cell, H[b]? = some cellB ∧ cellB.vm.isStatics = false ∧ s.vm.findClass C = some cellB.cls)
    (hK : pz_K dC dI cl s) (hP : va_P (dC, dI) vwCl w H) (hD : va_D A w) (hS : va_S A s.heap H locs) (hA : ∀ q, s.heap.size ≤ q → A q) (hn : As.length = n) (hsize : ls.size = nL) (hstack : st0 = As.reverse ++ .ref b :: rest) (hW : (rest.map fun v => v.category).sum ≤ 8) (hf : cells ≤ R.cells ∧ slots ≤ R.slots) (hdg : decode cb pc = .ok (.invokevirtual index, 3))
    (kk : ∀ (u : S) (H1 : Heap) (locs1 : List Loc), post u → va_P (dC, dI) vwCl (wf u) H1 → va_D A (wf u) → va_S A s.heap H1 locs1 → W p l e R s m args below meth c H1 locs1 cells slots Q (F0 m (pc + 3) ls rest)) : W p l e R s m args below meth c H locs cells slots Q (F0 m pc ls st0) :=
  va_callv (va_runV (As := As) (rest := rest) F (hM H.size) cw ⟨pz_blind, hrecv, fun U hU hWu => ⟨rfl, by rw [hU], by rw [hU]; exact hP, hK.warm hWu, hD.weaken (fun _ _ _ _ => trivial)⟩⟩ rfl hn hsize hstack (lv_room hW) hdg hf) hS (fun q _ h9 => pr_up hD hS hA q h9) (pr_up hD hS hA)
    (fun u t H1 l1 ht _ hp hB _ _ hS1 => kk u H1 l1 hp (by rw [← ht]; exact hB.1) (hB.2.weaken (fun _ q _ h9 => pr_up hD hS hA q.1 h9)) hS1)
theorem pr_Ve {post : Option Nat → S → Prop} (F : CallFix p m c cb nL s args Ts own) (hM : pz_Me l dC dI cl ad y ws rm (.ref b :: As) w wf post) (cw : CallW R s args own C index y bytes maxL ret ws rm 0 0 n) (hrecv : ∃ cellB : Cell, H[b]? = some cellB ∧ cellB.vm.isStatics = false ∧ s.vm.findClass C = some cellB.cls)
    (hK : pz_K dC dI cl s) (hP : va_P (dC, dI) vwCl w H) (hD : va_D A w) (hS : va_S A s.heap H locs) (hA : ∀ q, s.heap.size ≤ q → A q) (hn : As.length = n) (hsize : ls.size = nL) (hstack : st0 = As.reverse ++ .ref b :: rest) (hW : (rest.map fun v => v.category).sum ≤ 8) (hf : cells ≤ R.cells ∧ slots ≤ R.slots) (hdg : decode cb pc = .ok (.invokevirtual index, 3))
    (kk : ∀ (r : Option Nat) (u : S) (H1 : Heap) (locs1 : List Loc), post r u → va_P (dC, dI) vwCl (wf u) H1 → va_D A (wf u) → va_S A s.heap H1 locs1 → W p l e R s m args below meth c H1 locs1 cells slots Q (F0 m (pc + 3) ls (va_re (fun k => ad (10 + k)) r :: rest))) : W p l e R s m args below meth c H locs cells slots Q (F0 m pc ls st0) :=
  va_calle (va_runV (As := As) (rest := rest) F (hM H.size) cw ⟨pz_blind, hrecv, fun U hU hWu => ⟨rfl, by rw [hU], by rw [hU]; exact hP, hK.warm hWu, hD.weaken (fun _ _ _ _ => trivial)⟩⟩ rfl hn hsize hstack (lv_room hW) hdg hf) hS (fun q _ h9 => pr_up hD hS hA q h9) (pr_up hD hS hA)
    (fun r u t H1 l1 ht _ hp hB _ _ hS1 => kk r u H1 l1 hp (by rw [← ht]; exact hB.1) (hB.2.weaken (fun _ q _ h9 => pr_up hD hS hA q.1 h9)) hS1)
theorem pr_Si {post : Int32 → S → Prop} (F : CallFix p m c cb nL s args Ts own) (hM : pz_Mi l dC dI cl y ws rm As w wf post) (cw : CallB R s args own index y bytes maxL ret ws rm 0 0 n ∧ (Cond.static y).before args s = true)
    (hK : pz_K dC dI cl s) (hP : va_P (dC, dI) vwCl w H) (hD : va_D A w) (hS : va_S A s.heap H locs) (hA : ∀ q, s.heap.size ≤ q → A q) (hn : As.length = n) (hsize : ls.size = nL) (hstack : st0 = As.reverse ++ rest) (hW : (rest.map fun v => v.category).sum ≤ 8) (hf : cells ≤ R.cells ∧ slots ≤ R.slots) (hdg : decode cb pc = .ok (.invokestatic index, 3))
    (kk : ∀ (r : Int32) (u : S) (H1 : Heap) (locs1 : List Loc), post r u → va_P (dC, dI) vwCl (wf u) H1 → va_D A (wf u) → va_S A s.heap H1 locs1 → W p l e R s m args below meth c H1 locs1 cells slots Q (F0 m (pc + 3) ls (.int r :: rest))) : W p l e R s m args below meth c H locs cells slots Q (F0 m pc ls st0) :=
  va_calli (va_runS (As := As) (rest := rest) F (hM H.size) cw ⟨pz_blind, fun U hU hWu => ⟨rfl, by rw [hU], by rw [hU]; exact hP, hK.warm hWu, hD.weaken (fun _ _ _ _ => trivial)⟩⟩ rfl hn hsize hstack (lv_room hW) hdg hf) hS (fun q _ h9 => pr_up hD hS hA q h9) (pr_up hD hS hA)
    (fun r u t H1 l1 ht _ hp hB _ _ hS1 => kk r u H1 l1 hp (by rw [← ht]; exact hB.1) (hB.2.weaken (fun _ q _ h9 => pr_up hD hS hA q.1 h9)) hS1)
end PR
theorem pz_lt8 {j : Int32} (h : vp_in j 8) : j.toNatClampNeg < 8 := Nat.not_le.mp fun q => h (Or.inr q)
def pz_h (ph : Nat → Option Nat) (i : Nat) : Nat := (ph i).getD 0
/-- the path: how deep, and whole houses in it -/
def pz_W (g : pz_M) (ph : Nat → Option Nat) : Prop := ∃ d : Nat, d ≤ 6 ∧ g 2 3 = nI d ∧ ∀ i, i < d → ∃ k, k < 8 ∧ ph i = some k
theorem pz_Wi {g : pz_M} {ph : Nat → Option Nat} {d i : Nat} (hs : ∀ i, i < d → ∃ k, k < 8 ∧ ph i = some k) (hi : i < d) : ph i = some (pz_h ph i) ∧ pz_h ph i < 8 := by
  obtain ⟨k, h1, h2⟩ := hs i hi
  have : pz_h ph i = k := by unfold pz_h; rw [h2]; rfl
  rw [this]; exact ⟨h2, h1⟩
theorem pz_W1 {g : pz_M} {ph : Nat → Option Nat} (hw : pz_W g ph) (hc : ¬ g 2 3 < 1) : vp_in (g 2 3 - 1) 6 ∧ ph (g 2 3 - 1).toNatClampNeg = some (pz_h ph (g 2 3 - 1).toNatClampNeg) ∧ pz_h ph (g 2 3 - 1).toNatClampNeg < 8 := by
  obtain ⟨d, h6, hd, hs⟩ := hw
  rw [hd] at hc ⊢
  have h1 : 1 ≤ d := by
    rcases Nat.lt_or_ge d 1 with q | q
    · exact absurd (nI_lt q (by decide) : nI d < nI 1) hc
    · exact q
  have e1 : nI d - 1 = nI (d - 1) := pk_sub (a := d) (b := 1) h1
  rw [e1, nI_clamp (by omega)]
  exact ⟨vp_in_nI (by omega) (by decide), pz_Wi (g := g) hs (by omega)⟩
theorem pz_W2 {g : pz_M} {ph : Nat → Option Nat} (hw : pz_W g ph) (hc : ¬ g 2 3 < 2) : vp_in (g 2 3 - 2) 6 ∧ ph (g 2 3 - 2).toNatClampNeg = some (pz_h ph (g 2 3 - 2).toNatClampNeg) ∧ pz_h ph (g 2 3 - 2).toNatClampNeg < 8 := by
  obtain ⟨d, h6, hd, hs⟩ := hw
  rw [hd] at hc ⊢
  have h1 : 2 ≤ d := by
    rcases Nat.lt_or_ge d 2 with q | q
    · exact absurd (nI_lt q (by decide) : nI d < nI 2) hc
    · exact q
  have e1 : nI d - 2 = nI (d - 2) := pk_sub (a := d) (b := 2) h1
  rw [e1, nI_clamp (by omega)]
  exact ⟨vp_in_nI (by omega) (by decide), pz_Wi (g := g) hs (by omega)⟩
section PT
variable {p : Program} {l : Launch} {e : Env} {R : Room} {s : State} {m : MethodId} {args : Array Value} {below : List Frame} {meth : Method} {c : Code} {H : Heap} {locs : List Loc} {cells slots : Nat} {Q : State → Prop} {cb : ByteArray} {pc : Nat} {ls : Array Slot} {rest : List Value}
theorem pr_tabIn (hexec : p.tables.exec = Jvm.exec) (hb : c.code = cb) {dflt lo hi ki : Int} {offs : Array Int} {len : Nat} {x k : Int32} {off : Int} {tgt : Nat} (hdg : decode cb pc = .ok (.tableswitch dflt lo hi offs, len)) (hx : x = k) (hk : k.toInt = ki) (h1 : ¬ ki < lo) (h2 : ¬ hi < ki) (ho : offs[(ki - lo).toNat]? = some off) (ht : (pc : Int) + off = (tgt : Int))
    (kk : W p l e R s m args below meth c H locs cells slots Q (F0 m tgt ls rest)) : W p l e R s m args below meth c H locs cells slots Q (F0 m pc ls (.int x :: rest)) :=
  lv_tableIn hexec hb hdg (by rw [hx, hk]; exact h1) (by rw [hx, hk]; exact h2) (by rw [hx, hk]; exact ho) ht kk
end PT
end
section
/-- .. of a class of the JDK's that the machine has entries for, but none for this method -/
theorem pr_ofWF {l : Launch} {dC : Nat → ClassId} {dI : Nat → Nat → Nat} {cl : Nat → ClassId} {y : MethodName} {ws ws' : List Cond} {rm : Room} {av : List Value} {w : va_W} {sz mc ms : Nat} {Qc : (Nat → Prop) → Array Value → State → Outcome → State → Prop} {cb : ByteArray} {maxL : Nat} {ret : Option FieldType}
    (hy : plainFor y = true) (hw : ws = Cond.code y cb maxL ret :: ws') (hlen : (lg_sl av).length ≤ maxL)
    (body : ∀ (p : Program) (e : Env) (s : State) (m : MethodId) (below : List Frame) (meth : Method) (c : Code) (A : Nat → Prop) (ls : Array Slot), p.tables.exec = Jvm.exec → c.code = cb → c.maxLocals = maxL → meth.sig.returnType = ret → meth.locks = false → (∀ x ∈ ws, x.before av.toArray s = true) → s.vm.findClass y.cls = some m.cls →
      pz_K dC dI cl s → va_P (dC, dI) vwCl w s.heap → va_D A w → va_S A s.heap s.heap [] → (∀ q, s.heap.size ≤ q → A q) → lv_has ls maxL (lv_args 0 av) →
      W p l e rm s m av.toArray below meth c s.heap [] 0 0 (MQ below (Qc A) av.toArray s mc ms A) (F0 m 0 ls [])) :
    Met l y ws rm (va_Pc av (pz_Pre dC dI cl w sz)) (Qc (va_A w sz)) mc ms (va_A w sz) := by
  refine va_MetF (cc := cb) (maxL := maxL) (ret := ret) hy hw ?_
  intro p e s m args below meth c s₁ B hml hv
  obtain ⟨rfl, hsz, hP, hK, hD0⟩ := hv
  subst hsz
  have hl := lv_entry av (n := maxL) hlen
  rw [lg_entry_eq]
  exact body p e s m below meth c (va_A w s.heap.size) _ B.exec B.bytes hml B.returns B.notSynchronized (atoms_spec (ws := ws) B.pre) (findClass_of_methodNamed B.named) hK hP (hD0.self (sz := s.heap.size)) va_S.rf (fun q h => Or.inr h) hl
theorem pz_W0 {g : pz_M} {ph : Nat → Option Nat} {n : Nat} (hw : ∃ d : Nat, d ≤ 6 ∧ d < n ∧ g 2 3 = nI d ∧ ∀ i, i < d → ∃ k, k < 8 ∧ ph i = some k) (hc : ¬ g 2 3 ≤ 0) : vp_in (g 2 3 - 1) 6 ∧ ph (g 2 3 - 1).toNatClampNeg = some (pz_h ph (g 2 3 - 1).toNatClampNeg) ∧ pz_h ph (g 2 3 - 1).toNatClampNeg < 8 := by
  obtain ⟨d, h6, -, hd, hs⟩ := hw
  refine pz_W1 ⟨d, h6, hd, hs⟩ (fun q => hc ?_)
  rw [hd] at q ⊢
  have : d < 1 := (nI_ltI (by omega) (by decide)).mp (q : nI d < nI 1)
  have : d = 0 := by omega
  subst this
  exact (nI_leI (by decide) (by decide)).mpr (Nat.le_refl 0)
theorem pz_Wd {g g2 : pz_M} {ph : Nat → Option Nat} {n : Nat} (hw : ∃ d : Nat, d ≤ 6 ∧ d < n + 1 ∧ g 2 3 = nI d ∧ ∀ i, i < d → ∃ k, k < 8 ∧ ph i = some k) (hc : ¬ g 2 3 ≤ 0) (h2 : g2 2 3 = g 2 3 - 1) : ∃ d : Nat, d ≤ 6 ∧ d < n ∧ g2 2 3 = nI d ∧ ∀ i, i < d → ∃ k, k < 8 ∧ ph i = some k := by
  obtain ⟨d, h6, hn, hd, hs⟩ := hw
  have h1 : 1 ≤ d := by
    rcases Nat.lt_or_ge d 1 with q | q
    · have : d = 0 := by omega
      subst this
      exact absurd (by rw [hd]; exact (nI_leI (by decide) (by decide)).mpr (Nat.le_refl 0)) hc
    · exact q
  exact ⟨d - 1, by omega, by omega, by rw [h2, hd]; exact pk_sub (a := d) (b := 1) h1, fun i hi => hs i (by omega)⟩
theorem pz_Wv {g : pz_M} {ph : Nat → Option Nat} (hw : pz_W g ph) : ∃ d : Nat, d ≤ 6 ∧ d < 7 ∧ g 2 3 = nI d ∧ ∀ i, i < d → ∃ k, k < 8 ∧ ph i = some k := by
  obtain ⟨d, h6, hd, hs⟩ := hw
  exact ⟨d, h6, by omega, hd, hs⟩
theorem pz_j1 {i : Int32} {j : Nat} (hj : j ≤ 8) (h : i + 1 = nI j) (hc : ¬ i < 0) : 1 ≤ j ∧ i = nI (j - 1) ∧ i.toNatClampNeg = j - 1 := by
  have e0 : i = nI j - 1 := by rw [← h]; simp
  have h1 : 1 ≤ j := by
    rcases Nat.lt_or_ge j 1 with q | q
    · have : j = 0 := by omega
      subst this
      exact absurd (by rw [e0]; decide +kernel) hc
    · exact q
  have e1 : i = nI (j - 1) := by rw [e0]; exact pk_sub (a := j) (b := 1) h1
  exact ⟨h1, e1, by rw [e1]; exact nI_clamp (by omega)⟩
theorem pz_j2 {i : Int32} {j : Nat} (hj : j ≤ 8) (h : i + 1 = nI j) (hc : ¬ i < 0) : (i + (-1)) + 1 = nI (j - 1) := by
  obtain ⟨h1, e1, -⟩ := pz_j1 hj h hc
  rw [e1, Int32.add_assoc, show ((-1 : Int32) + 1) = 0 by decide, Int32.add_zero]
end
section
theorem inX0_setUp_X0 : ∀ w ∈ u_ws RX0 TX0 8, w ∈ wsX0_setUp := by decide +kernel
def f_X0_setUp (g : pz_M) (ph : Nat → Option Nat) (k : Nat) (a : Int32) (b : Int32) : pz_M × (Nat → Option Nat) :=
  let g_1 := pz_st g (10 + k) 0 1
  let g_2 := pz_st g_1 (10 + k) 1 a
  let g_3 := pz_st g_2 (10 + k) 2 0
  let g_4 := pz_st g_3 (10 + k) 3 b
  let g_5 := pz_st g_4 (10 + k) 4 0
  let g_6 := pz_st g_5 (10 + k) 5 0
  let g_7 := pz_st g_6 (10 + k) 6 0
  let g_8 := pz_st g_7 (10 + k) 7 0
  (g_8, ph)
set_option maxHeartbeats 4000000 in
set_option maxRecDepth 100000 in
theorem c_X0_setUp {l : Launch} {dC : Nat → ClassId} {dI : Nat → Nat → Nat} {cl : Nat → ClassId} {ad : Nat → Nat} {ph : Nat → Option Nat} {o : Nat → Int64} {g h : pz_M} (k : Nat) (a : Int32) (b : Int32) (hk : k < 8) (hz : b = 0 ∨ b = 1) : pz_Mv l dC dI cl yX0_setUp wsX0_setUp { frames := 0, cells := 0, slots := 0, locals := 0 } [.ref (ad (10 + k)), .int a, .int b] (pz_wd ad cl ph o g h) (fun u : pz_M × (Nat → Option Nat) => pz_wd ad cl u.2 o u.1 h) (fun u => u = f_X0_setUp g ph k a b) := by
  intro sz
  refine pr_ofW (Qc := pz_Qv dC dI _ _) (cb := cX0_setUp) (maxL := 3) (ret := none) (by decide) rfl (Nat.le_of_ble_eq_true rfl) ?_
  intro p e s m below meth c A ls hx hb hml hr hlocks hts hown hK hP hD hS hA hl
  have hl : lv_has ls 3 [(0, .ref (ad (10 + k))), (1, .int a), (2, .int b)] := hl
  refine lv_aload_n hx hb dX0_setUp_0 rfl (lv_at hl 0 rfl) ?_
  refine lv_iconst (v := 1) hx hb dX0_setUp_1 (by decide) ?_
  refine pr_putC (ci := 2) (C := RX0) (T := TX0) (N := 8) (ty := .boolean) (v := 1) hx hb hts inX0_setUp_X0 tyX0 tyX0_ok nmX0 hown hK.1 hP hD hS (10 + k) (by have := hk; omega) (pz_aH hk) rfl 0 (by decide) (hts (.fieldLink RX0 9 "PowderMill$House" "stands" "Z") (by decide +kernel)) (fun _ h9 => h9) rfl (by decide +kernel) rfl rfl (Nat.le_of_ble_eq_true rfl) (by rw [pz_ceH hk]; rfl) dX0_setUp_2 (fun g_1 H locs e_g_1 hP hD hS => ?_)
  refine lv_aload_n hx hb dX0_setUp_5 rfl (lv_at hl 0 rfl) ?_
  refine lv_iload_n hx hb dX0_setUp_6 rfl (lv_at hl 1 rfl) ?_
  refine pr_putC (ci := 2) (C := RX0) (T := TX0) (N := 8) (ty := .int) (v := a) hx hb hts inX0_setUp_X0 tyX0 tyX0_ok nmX0 hown hK.1 hP hD hS (10 + k) (by have := hk; omega) (pz_aH hk) rfl 1 (by decide) (hts (.fieldLink RX0 15 "PowderMill$House" "walls" "I") (by decide +kernel)) (fun _ h9 => h9) rfl (by decide +kernel) rfl rfl (Nat.le_of_ble_eq_true rfl) (by rw [pz_ceH hk]; rfl) dX0_setUp_7 (fun g_2 H locs e_g_2 hP hD hS => ?_)
  refine lv_aload_n hx hb dX0_setUp_10 rfl (lv_at hl 0 rfl) ?_
  refine lv_iconst (v := 0) hx hb dX0_setUp_11 (by decide) ?_
  refine pr_putC (ci := 2) (C := RX0) (T := TX0) (N := 8) (ty := .int) (v := 0) hx hb hts inX0_setUp_X0 tyX0 tyX0_ok nmX0 hown hK.1 hP hD hS (10 + k) (by have := hk; omega) (pz_aH hk) rfl 2 (by decide) (hts (.fieldLink RX0 19 "PowderMill$House" "powder" "I") (by decide +kernel)) (fun _ h9 => h9) rfl (by decide +kernel) rfl rfl (Nat.le_of_ble_eq_true rfl) (by rw [pz_ceH hk]; rfl) dX0_setUp_12 (fun g_3 H locs e_g_3 hP hD hS => ?_)
  refine lv_aload_n hx hb dX0_setUp_15 rfl (lv_at hl 0 rfl) ?_
  refine lv_iload_n hx hb dX0_setUp_16 rfl (lv_at hl 2 rfl) ?_
  refine pr_putC (ci := 2) (C := RX0) (T := TX0) (N := 8) (ty := .boolean) (v := b) hx hb hts inX0_setUp_X0 tyX0 tyX0_ok nmX0 hown hK.1 hP hD hS (10 + k) (by have := hk; omega) (pz_aH hk) rfl 3 (by decide) (hts (.fieldLink RX0 22 "PowderMill$House" "refuge" "Z") (by decide +kernel)) (fun _ h9 => h9) rfl (by decide +kernel) (by rcases hz with rfl | rfl <;> rfl) (by rcases hz with rfl | rfl <;> rfl) (Nat.le_of_ble_eq_true rfl) (by rw [pz_ceH hk]; rfl) dX0_setUp_17 (fun g_4 H locs e_g_4 hP hD hS => ?_)
  refine lv_aload_n hx hb dX0_setUp_20 rfl (lv_at hl 0 rfl) ?_
  refine lv_iconst (v := 0) hx hb dX0_setUp_21 (by decide) ?_
  refine pr_putC (ci := 2) (C := RX0) (T := TX0) (N := 8) (ty := .int) (v := 0) hx hb hts inX0_setUp_X0 tyX0 tyX0_ok nmX0 hown hK.1 hP hD hS (10 + k) (by have := hk; omega) (pz_aH hk) rfl 4 (by decide) (hts (.fieldLink RX0 25 "PowderMill$House" "timesIn" "I") (by decide +kernel)) (fun _ h9 => h9) rfl (by decide +kernel) rfl rfl (Nat.le_of_ble_eq_true rfl) (by rw [pz_ceH hk]; rfl) dX0_setUp_22 (fun g_5 H locs e_g_5 hP hD hS => ?_)
  refine lv_aload_n hx hb dX0_setUp_25 rfl (lv_at hl 0 rfl) ?_
  refine lv_iconst (v := 0) hx hb dX0_setUp_26 (by decide) ?_
  refine pr_putC (ci := 2) (C := RX0) (T := TX0) (N := 8) (ty := .int) (v := 0) hx hb hts inX0_setUp_X0 tyX0 tyX0_ok nmX0 hown hK.1 hP hD hS (10 + k) (by have := hk; omega) (pz_aH hk) rfl 5 (by decide) (hts (.fieldLink RX0 28 "PowderMill$House" "sparks" "I") (by decide +kernel)) (fun _ h9 => h9) rfl (by decide +kernel) rfl rfl (Nat.le_of_ble_eq_true rfl) (by rw [pz_ceH hk]; rfl) dX0_setUp_27 (fun g_6 H locs e_g_6 hP hD hS => ?_)
  refine lv_aload_n hx hb dX0_setUp_30 rfl (lv_at hl 0 rfl) ?_
  refine lv_iconst (v := 0) hx hb dX0_setUp_31 (by decide) ?_
  refine pr_putC (ci := 2) (C := RX0) (T := TX0) (N := 8) (ty := .int) (v := 0) hx hb hts inX0_setUp_X0 tyX0 tyX0_ok nmX0 hown hK.1 hP hD hS (10 + k) (by have := hk; omega) (pz_aH hk) rfl 6 (by decide) (hts (.fieldLink RX0 31 "PowderMill$House" "timesCaught" "I") (by decide +kernel)) (fun _ h9 => h9) rfl (by decide +kernel) rfl rfl (Nat.le_of_ble_eq_true rfl) (by rw [pz_ceH hk]; rfl) dX0_setUp_32 (fun g_7 H locs e_g_7 hP hD hS => ?_)
  refine lv_aload_n hx hb dX0_setUp_35 rfl (lv_at hl 0 rfl) ?_
  refine lv_iconst (v := 0) hx hb dX0_setUp_36 (by decide) ?_
  refine pr_putC (ci := 2) (C := RX0) (T := TX0) (N := 8) (ty := .int) (v := 0) hx hb hts inX0_setUp_X0 tyX0 tyX0_ok nmX0 hown hK.1 hP hD hS (10 + k) (by have := hk; omega) (pz_aH hk) rfl 7 (by decide) (hts (.fieldLink RX0 34 "PowderMill$House" "staysNow" "I") (by decide +kernel)) (fun _ h9 => h9) rfl (by decide +kernel) rfl rfl (Nat.le_of_ble_eq_true rfl) (by rw [pz_ceH hk]; rfl) dX0_setUp_37 (fun g_8 H locs e_g_8 hP hD hS => ?_)
  exact pr_vret (g_8, ph) hx hb hr hlocks hP hD hS dX0_setUp_40 (by subst e_g_8 e_g_7 e_g_6 e_g_5 e_g_4 e_g_3 e_g_2 e_g_1; (simp only [f_X0_setUp] <;> rfl))
theorem inX0_receive_X0 : ∀ w ∈ u_ws RX0 TX0 8, w ∈ wsX0_receive := by decide +kernel
def f_X0_receive (g : pz_M) (ph : Nat → Option Nat) (k : Nat) (a : Int32) : Int32 × pz_M × (Nat → Option Nat) :=
  let g_1 := pz_st g (10 + k) 2 ((g (10 + k) 2) + a)
  if (10 * (g_1 (10 + k) 1)) < (g_1 (10 + k) 2) then
    let g_2 := pz_st g_1 (10 + k) 2 0
    let g_3 := pz_st g_2 (10 + k) 5 ((g_2 (10 + k) 5) + 1)
    (3, g_3, ph)
  else
    (0, g_1, ph)
set_option maxHeartbeats 4000000 in
set_option maxRecDepth 100000 in
theorem c_X0_receive {l : Launch} {dC : Nat → ClassId} {dI : Nat → Nat → Nat} {cl : Nat → ClassId} {ad : Nat → Nat} {ph : Nat → Option Nat} {o : Nat → Int64} {g h : pz_M} (k : Nat) (a : Int32) (hk : k < 8) : pz_Mi l dC dI cl yX0_receive wsX0_receive { frames := 0, cells := 0, slots := 0, locals := 0 } [.ref (ad (10 + k)), .int a] (pz_wd ad cl ph o g h) (fun u : pz_M × (Nat → Option Nat) => pz_wd ad cl u.2 o u.1 h) (fun r u => r = (f_X0_receive g ph k a).1 ∧ u = (f_X0_receive g ph k a).2) := by
  intro sz
  refine pr_ofW (Qc := pz_Qi dC dI _ _) (cb := cX0_receive) (maxL := 2) (ret := (some .int)) (by decide) rfl (Nat.le_of_ble_eq_true rfl) ?_
  intro p e s m below meth c A ls hx hb hml hr hlocks hts hown hK hP hD hS hA hl
  have hl : lv_has ls 2 [(0, .ref (ad (10 + k))), (1, .int a)] := hl
  refine lv_aload_n hx hb dX0_receive_0 rfl (lv_at hl 0 rfl) ?_
  refine lv_dup hx hb dX0_receive_1 rfl ?_
  refine va_get (D := (dC, dI)) (ci := 2) (C := RX0) (T := TX0) (N := 8) hx hb hts inX0_receive_X0 hown hK.1 hP (10 + k) (pz_aH hk) rfl 2 (by decide) (hts (.fieldLink RX0 19 "PowderMill$House" "powder" "I") (by decide +kernel)) (fun _ h9 => h9) rfl dX0_receive_2 ?_
  refine lv_iload_n hx hb dX0_receive_5 rfl (lv_at hl 1 rfl) ?_
  refine lv_iadd hx hb dX0_receive_6 ?_
  refine pr_putC (ci := 2) (C := RX0) (T := TX0) (N := 8) (ty := .int) (v := ((g (10 + k) 2) + a)) hx hb hts inX0_receive_X0 tyX0 tyX0_ok nmX0 hown hK.1 hP hD hS (10 + k) (by have := hk; omega) (pz_aH hk) rfl 2 (by decide) (hts (.fieldLink RX0 19 "PowderMill$House" "powder" "I") (by decide +kernel)) (fun _ h9 => h9) rfl (by decide +kernel) rfl rfl (Nat.le_of_ble_eq_true rfl) (by rw [pz_ceH hk]; rfl) dX0_receive_7 (fun g_1 H locs e_g_1 hP hD hS => ?_)
  refine lv_aload_n hx hb dX0_receive_10 rfl (lv_at hl 0 rfl) ?_
  refine va_get (D := (dC, dI)) (ci := 2) (C := RX0) (T := TX0) (N := 8) hx hb hts inX0_receive_X0 hown hK.1 hP (10 + k) (pz_aH hk) rfl 2 (by decide) (hts (.fieldLink RX0 19 "PowderMill$House" "powder" "I") (by decide +kernel)) (fun _ h9 => h9) rfl dX0_receive_11 ?_
  refine lv_bipush (v := 10) hx hb dX0_receive_14 (by decide) ?_
  refine lv_aload_n hx hb dX0_receive_16 rfl (lv_at hl 0 rfl) ?_
  refine va_get (D := (dC, dI)) (ci := 2) (C := RX0) (T := TX0) (N := 8) hx hb hts inX0_receive_X0 hown hK.1 hP (10 + k) (pz_aH hk) rfl 1 (by decide) (hts (.fieldLink RX0 15 "PowderMill$House" "walls" "I") (by decide +kernel)) (fun _ h9 => h9) rfl dX0_receive_17 ?_
  refine lv_imul hx hb dX0_receive_20 ?_
  refine lv_icmp_gt (tgt := 26) hx hb dX0_receive_21 (by decide) (fun c_21 => ?_) (fun c_21 => ?_)
  · refine lv_aload_n hx hb dX0_receive_26 rfl (lv_at hl 0 rfl) ?_
    refine lv_iconst (v := 0) hx hb dX0_receive_27 (by decide) ?_
    refine pr_putC (ci := 2) (C := RX0) (T := TX0) (N := 8) (ty := .int) (v := 0) hx hb hts inX0_receive_X0 tyX0 tyX0_ok nmX0 hown hK.1 hP hD hS (10 + k) (by have := hk; omega) (pz_aH hk) rfl 2 (by decide) (hts (.fieldLink RX0 19 "PowderMill$House" "powder" "I") (by decide +kernel)) (fun _ h9 => h9) rfl (by decide +kernel) rfl rfl (Nat.le_of_ble_eq_true rfl) (by rw [pz_ceH hk]; rfl) dX0_receive_28 (fun g_2 H locs e_g_2 hP hD hS => ?_)
    refine lv_aload_n hx hb dX0_receive_31 rfl (lv_at hl 0 rfl) ?_
    refine lv_dup hx hb dX0_receive_32 rfl ?_
    refine va_get (D := (dC, dI)) (ci := 2) (C := RX0) (T := TX0) (N := 8) hx hb hts inX0_receive_X0 hown hK.1 hP (10 + k) (pz_aH hk) rfl 5 (by decide) (hts (.fieldLink RX0 28 "PowderMill$House" "sparks" "I") (by decide +kernel)) (fun _ h9 => h9) rfl dX0_receive_33 ?_
    refine lv_iconst (v := 1) hx hb dX0_receive_36 (by decide) ?_
    refine lv_iadd hx hb dX0_receive_37 ?_
    refine pr_putC (ci := 2) (C := RX0) (T := TX0) (N := 8) (ty := .int) (v := ((g_2 (10 + k) 5) + 1)) hx hb hts inX0_receive_X0 tyX0 tyX0_ok nmX0 hown hK.1 hP hD hS (10 + k) (by have := hk; omega) (pz_aH hk) rfl 5 (by decide) (hts (.fieldLink RX0 28 "PowderMill$House" "sparks" "I") (by decide +kernel)) (fun _ h9 => h9) rfl (by decide +kernel) rfl rfl (Nat.le_of_ble_eq_true rfl) (by rw [pz_ceH hk]; rfl) dX0_receive_38 (fun g_3 H locs e_g_3 hP hD hS => ?_)
    refine lv_iconst (v := 3) hx hb dX0_receive_41 (by decide) ?_
    exact pr_iret (g_3, ph) hx hb hr hlocks hP hD hS dX0_receive_42 (by subst e_g_3 e_g_2 e_g_1; refine ⟨?_, ?_⟩ <;> (simp only [f_X0_receive, if_pos c_21] <;> rfl))
  · refine lv_iconst (v := 0) hx hb dX0_receive_24 (by decide) ?_
    exact pr_iret (g_1, ph) hx hb hr hlocks hP hD hS dX0_receive_25 (by subst e_g_1; refine ⟨?_, ?_⟩ <;> (simp only [f_X0_receive, if_neg c_21] <;> rfl))
theorem inX0_tell_X0 : ∀ w ∈ u_ws RX0 TX0 8, w ∈ wsX0_tell := by decide +kernel
def f_X0_tell (g : pz_M) (ph : Nat → Option Nat) (k : Nat) (a : Int32) : Int32 :=
  if a = 0 then
    g (10 + k) 1
  else
    if a = 1 then
      g (10 + k) 2
    else
      if a = 2 then
        if (g (10 + k) 3) = 0 then
          0
        else
          1
      else
        if a = 3 then
          g (10 + k) 4
        else
          if a = 4 then
            g (10 + k) 5
          else
            if a = 5 then
              g (10 + k) 6
            else
              if a = 6 then
                g (10 + k) 7
              else
                (-1)
set_option maxHeartbeats 4000000 in
set_option maxRecDepth 100000 in
theorem c_X0_tell {l : Launch} {dC : Nat → ClassId} {dI : Nat → Nat → Nat} {cl : Nat → ClassId} {ad : Nat → Nat} {ph : Nat → Option Nat} {o : Nat → Int64} {g h : pz_M} (k : Nat) (a : Int32) (hk : k < 8) : pz_Mi l dC dI cl yX0_tell wsX0_tell { frames := 0, cells := 0, slots := 0, locals := 0 } [.ref (ad (10 + k)), .int a] (pz_wd ad cl ph o g h) (fun _ : Unit => pz_wd ad cl ph o g h) (fun r _ => r = f_X0_tell g ph k a) := by
  intro sz
  refine pr_ofW (Qc := pz_Qi dC dI _ _) (cb := cX0_tell) (maxL := 2) (ret := (some .int)) (by decide) rfl (Nat.le_of_ble_eq_true rfl) ?_
  intro p e s m below meth c A ls hx hb hml hr hlocks hts hown hK hP hD hS hA hl
  have hl : lv_has ls 2 [(0, .ref (ad (10 + k))), (1, .int a)] := hl
  refine lv_iload_n hx hb dX0_tell_0 rfl (lv_at hl 1 rfl) ?_
  by_cases t_1_0 : a = 0
  · refine pr_tabIn (ki := 0) (tgt := 44) hx hb dX0_tell_1 t_1_0 (by rfl) (by decide) (by decide) (by rfl) (by decide) ?_
    refine lv_aload_n hx hb dX0_tell_44 rfl (lv_at hl 0 rfl) ?_
    refine va_get (D := (dC, dI)) (ci := 2) (C := RX0) (T := TX0) (N := 8) hx hb hts inX0_tell_X0 hown hK.1 hP (10 + k) (pz_aH hk) rfl 1 (by decide) (hts (.fieldLink RX0 15 "PowderMill$House" "walls" "I") (by decide +kernel)) (fun _ h9 => h9) rfl dX0_tell_45 ?_
    exact pr_iret () hx hb hr hlocks hP hD hS dX0_tell_48 (by (simp only [f_X0_tell, if_pos t_1_0] <;> rfl))
  by_cases t_1_1 : a = 1
  · refine pr_tabIn (ki := 1) (tgt := 49) hx hb dX0_tell_1 t_1_1 (by rfl) (by decide) (by decide) (by rfl) (by decide) ?_
    refine lv_aload_n hx hb dX0_tell_49 rfl (lv_at hl 0 rfl) ?_
    refine va_get (D := (dC, dI)) (ci := 2) (C := RX0) (T := TX0) (N := 8) hx hb hts inX0_tell_X0 hown hK.1 hP (10 + k) (pz_aH hk) rfl 2 (by decide) (hts (.fieldLink RX0 19 "PowderMill$House" "powder" "I") (by decide +kernel)) (fun _ h9 => h9) rfl dX0_tell_50 ?_
    exact pr_iret () hx hb hr hlocks hP hD hS dX0_tell_53 (by (simp only [f_X0_tell, if_neg t_1_0, if_pos t_1_1] <;> rfl))
  by_cases t_1_2 : a = 2
  · refine pr_tabIn (ki := 2) (tgt := 54) hx hb dX0_tell_1 t_1_2 (by rfl) (by decide) (by decide) (by rfl) (by decide) ?_
    refine lv_aload_n hx hb dX0_tell_54 rfl (lv_at hl 0 rfl) ?_
    refine va_get (D := (dC, dI)) (ci := 2) (C := RX0) (T := TX0) (N := 8) hx hb hts inX0_tell_X0 hown hK.1 hP (10 + k) (pz_aH hk) rfl 3 (by decide) (hts (.fieldLink RX0 22 "PowderMill$House" "refuge" "Z") (by decide +kernel)) (fun _ h9 => h9) rfl dX0_tell_55 ?_
    refine lv_if_eq (tgt := 65) hx hb dX0_tell_58 (by decide) (fun c_58 => ?_) (fun c_58 => ?_)
    · refine lv_iconst (v := 0) hx hb dX0_tell_65 (by decide) ?_
      exact pr_iret () hx hb hr hlocks hP hD hS dX0_tell_66 (by (simp only [f_X0_tell, if_neg t_1_0, if_neg t_1_1, if_pos t_1_2, if_pos c_58] <;> rfl))
    · refine lv_iconst (v := 1) hx hb dX0_tell_61 (by decide) ?_
      refine lv_goto (tgt := 66) hx hb dX0_tell_62 (by decide) ?_
      exact pr_iret () hx hb hr hlocks hP hD hS dX0_tell_66 (by (simp only [f_X0_tell, if_neg t_1_0, if_neg t_1_1, if_pos t_1_2, if_neg c_58] <;> rfl))
  by_cases t_1_3 : a = 3
  · refine pr_tabIn (ki := 3) (tgt := 67) hx hb dX0_tell_1 t_1_3 (by rfl) (by decide) (by decide) (by rfl) (by decide) ?_
    refine lv_aload_n hx hb dX0_tell_67 rfl (lv_at hl 0 rfl) ?_
    refine va_get (D := (dC, dI)) (ci := 2) (C := RX0) (T := TX0) (N := 8) hx hb hts inX0_tell_X0 hown hK.1 hP (10 + k) (pz_aH hk) rfl 4 (by decide) (hts (.fieldLink RX0 25 "PowderMill$House" "timesIn" "I") (by decide +kernel)) (fun _ h9 => h9) rfl dX0_tell_68 ?_
    exact pr_iret () hx hb hr hlocks hP hD hS dX0_tell_71 (by (simp only [f_X0_tell, if_neg t_1_0, if_neg t_1_1, if_neg t_1_2, if_pos t_1_3] <;> rfl))
  by_cases t_1_4 : a = 4
  · refine pr_tabIn (ki := 4) (tgt := 72) hx hb dX0_tell_1 t_1_4 (by rfl) (by decide) (by decide) (by rfl) (by decide) ?_
    refine lv_aload_n hx hb dX0_tell_72 rfl (lv_at hl 0 rfl) ?_
    refine va_get (D := (dC, dI)) (ci := 2) (C := RX0) (T := TX0) (N := 8) hx hb hts inX0_tell_X0 hown hK.1 hP (10 + k) (pz_aH hk) rfl 5 (by decide) (hts (.fieldLink RX0 28 "PowderMill$House" "sparks" "I") (by decide +kernel)) (fun _ h9 => h9) rfl dX0_tell_73 ?_
    exact pr_iret () hx hb hr hlocks hP hD hS dX0_tell_76 (by (simp only [f_X0_tell, if_neg t_1_0, if_neg t_1_1, if_neg t_1_2, if_neg t_1_3, if_pos t_1_4] <;> rfl))
  by_cases t_1_5 : a = 5
  · refine pr_tabIn (ki := 5) (tgt := 77) hx hb dX0_tell_1 t_1_5 (by rfl) (by decide) (by decide) (by rfl) (by decide) ?_
    refine lv_aload_n hx hb dX0_tell_77 rfl (lv_at hl 0 rfl) ?_
    refine va_get (D := (dC, dI)) (ci := 2) (C := RX0) (T := TX0) (N := 8) hx hb hts inX0_tell_X0 hown hK.1 hP (10 + k) (pz_aH hk) rfl 6 (by decide) (hts (.fieldLink RX0 31 "PowderMill$House" "timesCaught" "I") (by decide +kernel)) (fun _ h9 => h9) rfl dX0_tell_78 ?_
    exact pr_iret () hx hb hr hlocks hP hD hS dX0_tell_81 (by (simp only [f_X0_tell, if_neg t_1_0, if_neg t_1_1, if_neg t_1_2, if_neg t_1_3, if_neg t_1_4, if_pos t_1_5] <;> rfl))
  by_cases t_1_6 : a = 6
  · refine pr_tabIn (ki := 6) (tgt := 82) hx hb dX0_tell_1 t_1_6 (by rfl) (by decide) (by decide) (by rfl) (by decide) ?_
    refine lv_aload_n hx hb dX0_tell_82 rfl (lv_at hl 0 rfl) ?_
    refine va_get (D := (dC, dI)) (ci := 2) (C := RX0) (T := TX0) (N := 8) hx hb hts inX0_tell_X0 hown hK.1 hP (10 + k) (pz_aH hk) rfl 7 (by decide) (hts (.fieldLink RX0 34 "PowderMill$House" "staysNow" "I") (by decide +kernel)) (fun _ h9 => h9) rfl dX0_tell_83 ?_
    exact pr_iret () hx hb hr hlocks hP hD hS dX0_tell_86 (by (simp only [f_X0_tell, if_neg t_1_0, if_neg t_1_1, if_neg t_1_2, if_neg t_1_3, if_neg t_1_4, if_neg t_1_5, if_pos t_1_6] <;> rfl))
  refine lv_tableOut (tgt := 87) hx hb dX0_tell_1 (by have q0 := lv_neT t_1_0 (by rfl : (0 : Int32).toInt = 0); have q1 := lv_neT t_1_1 (by rfl : (1 : Int32).toInt = 1); have q2 := lv_neT t_1_2 (by rfl : (2 : Int32).toInt = 2); have q3 := lv_neT t_1_3 (by rfl : (3 : Int32).toInt = 3); have q4 := lv_neT t_1_4 (by rfl : (4 : Int32).toInt = 4); have q5 := lv_neT t_1_5 (by rfl : (5 : Int32).toInt = 5); have q6 := lv_neT t_1_6 (by rfl : (6 : Int32).toInt = 6); omega) (by decide) ?_
  refine lv_iconst (v := (-1)) hx hb dX0_tell_87 (by decide) ?_
  exact pr_iret () hx hb hr hlocks hP hD hS dX0_tell_88 (by (simp only [f_X0_tell, if_neg t_1_0, if_neg t_1_1, if_neg t_1_2, if_neg t_1_3, if_neg t_1_4, if_neg t_1_5, if_neg t_1_6] <;> rfl))
def f_X2_isPlace (a : Int32) : Int32 :=
  if a < 0 then
    0
  else
    if 8 ≤ a then
      0
    else
      1
set_option maxHeartbeats 4000000 in
set_option maxRecDepth 100000 in
theorem c_X2_isPlace {l : Launch} {dC : Nat → ClassId} {dI : Nat → Nat → Nat} {cl : Nat → ClassId} {ad : Nat → Nat} {ph : Nat → Option Nat} {o : Nat → Int64} {g h : pz_M} (a : Int32) : pz_Mi l dC dI cl yX2_isPlace wsX2_isPlace { frames := 0, cells := 0, slots := 0, locals := 0 } [.int a] (pz_wd ad cl ph o g h) (fun _ : Unit => pz_wd ad cl ph o g h) (fun r _ => r = f_X2_isPlace a) := by
  intro sz
  refine pr_ofW (Qc := pz_Qi dC dI _ _) (cb := cX2_isPlace) (maxL := 1) (ret := (some .boolean)) (by decide) rfl (Nat.le_of_ble_eq_true rfl) ?_
  intro p e s m below meth c A ls hx hb hml hr hlocks hts hown hK hP hD hS hA hl
  have hl : lv_has ls 1 [(0, .int a)] := hl
  refine lv_iload_n hx hb dX2_isPlace_0 rfl (lv_at hl 0 rfl) ?_
  refine lv_if_lt (tgt := 14) hx hb dX2_isPlace_1 (by decide) (fun c_1 => ?_) (fun c_1 => ?_)
  · refine lv_iconst (v := 0) hx hb dX2_isPlace_14 (by decide) ?_
    exact pr_zret () hx hb hr hlocks (by decide) hP hD hS dX2_isPlace_15 (by (simp only [f_X2_isPlace, if_pos c_1] <;> rfl))
  · refine lv_iload_n hx hb dX2_isPlace_4 rfl (lv_at hl 0 rfl) ?_
    refine lv_bipush (v := 8) hx hb dX2_isPlace_5 (by decide) ?_
    refine lv_icmp_ge (tgt := 14) hx hb dX2_isPlace_7 (by decide) (fun c_7 => ?_) (fun c_7 => ?_)
    · refine lv_iconst (v := 0) hx hb dX2_isPlace_14 (by decide) ?_
      exact pr_zret () hx hb hr hlocks (by decide) hP hD hS dX2_isPlace_15 (by (simp only [f_X2_isPlace, if_neg c_1, if_pos c_7] <;> rfl))
    · refine lv_iconst (v := 1) hx hb dX2_isPlace_10 (by decide) ?_
      refine lv_goto (tgt := 15) hx hb dX2_isPlace_11 (by decide) ?_
      exact pr_zret () hx hb hr hlocks (by decide) hP hD hS dX2_isPlace_15 (by (simp only [f_X2_isPlace, if_neg c_1, if_neg c_7] <;> rfl))
def f_X2_isAct (a : Int32) : Int32 :=
  if a < 0 then
    0
  else
    if 8 < a then
      0
    else
      1
set_option maxHeartbeats 4000000 in
set_option maxRecDepth 100000 in
theorem c_X2_isAct {l : Launch} {dC : Nat → ClassId} {dI : Nat → Nat → Nat} {cl : Nat → ClassId} {ad : Nat → Nat} {ph : Nat → Option Nat} {o : Nat → Int64} {g h : pz_M} (a : Int32) : pz_Mi l dC dI cl yX2_isAct wsX2_isAct { frames := 0, cells := 0, slots := 0, locals := 0 } [.int a] (pz_wd ad cl ph o g h) (fun _ : Unit => pz_wd ad cl ph o g h) (fun r _ => r = f_X2_isAct a) := by
  intro sz
  refine pr_ofW (Qc := pz_Qi dC dI _ _) (cb := cX2_isAct) (maxL := 1) (ret := (some .boolean)) (by decide) rfl (Nat.le_of_ble_eq_true rfl) ?_
  intro p e s m below meth c A ls hx hb hml hr hlocks hts hown hK hP hD hS hA hl
  have hl : lv_has ls 1 [(0, .int a)] := hl
  refine lv_iload_n hx hb dX2_isAct_0 rfl (lv_at hl 0 rfl) ?_
  refine lv_if_lt (tgt := 14) hx hb dX2_isAct_1 (by decide) (fun c_1 => ?_) (fun c_1 => ?_)
  · refine lv_iconst (v := 0) hx hb dX2_isAct_14 (by decide) ?_
    exact pr_zret () hx hb hr hlocks (by decide) hP hD hS dX2_isAct_15 (by (simp only [f_X2_isAct, if_pos c_1] <;> rfl))
  · refine lv_iload_n hx hb dX2_isAct_4 rfl (lv_at hl 0 rfl) ?_
    refine lv_bipush (v := 8) hx hb dX2_isAct_5 (by decide) ?_
    refine lv_icmp_gt (tgt := 14) hx hb dX2_isAct_7 (by decide) (fun c_7 => ?_) (fun c_7 => ?_)
    · refine lv_iconst (v := 0) hx hb dX2_isAct_14 (by decide) ?_
      exact pr_zret () hx hb hr hlocks (by decide) hP hD hS dX2_isAct_15 (by (simp only [f_X2_isAct, if_neg c_1, if_pos c_7] <;> rfl))
    · refine lv_iconst (v := 1) hx hb dX2_isAct_10 (by decide) ?_
      refine lv_goto (tgt := 15) hx hb dX2_isAct_11 (by decide) ?_
      exact pr_zret () hx hb hr hlocks (by decide) hP hD hS dX2_isAct_15 (by (simp only [f_X2_isAct, if_neg c_1, if_neg c_7] <;> rfl))
def f_X2_isRow (a : Int32) : Int32 :=
  if a < 0 then
    0
  else
    if 8 ≤ a then
      0
    else
      1
set_option maxHeartbeats 4000000 in
set_option maxRecDepth 100000 in
theorem c_X2_isRow {l : Launch} {dC : Nat → ClassId} {dI : Nat → Nat → Nat} {cl : Nat → ClassId} {ad : Nat → Nat} {ph : Nat → Option Nat} {o : Nat → Int64} {g h : pz_M} (a : Int32) : pz_Mi l dC dI cl yX2_isRow wsX2_isRow { frames := 0, cells := 0, slots := 0, locals := 0 } [.int a] (pz_wd ad cl ph o g h) (fun _ : Unit => pz_wd ad cl ph o g h) (fun r _ => r = f_X2_isRow a) := by
  intro sz
  refine pr_ofW (Qc := pz_Qi dC dI _ _) (cb := cX2_isRow) (maxL := 1) (ret := (some .boolean)) (by decide) rfl (Nat.le_of_ble_eq_true rfl) ?_
  intro p e s m below meth c A ls hx hb hml hr hlocks hts hown hK hP hD hS hA hl
  have hl : lv_has ls 1 [(0, .int a)] := hl
  refine lv_iload_n hx hb dX2_isRow_0 rfl (lv_at hl 0 rfl) ?_
  refine lv_if_lt (tgt := 14) hx hb dX2_isRow_1 (by decide) (fun c_1 => ?_) (fun c_1 => ?_)
  · refine lv_iconst (v := 0) hx hb dX2_isRow_14 (by decide) ?_
    exact pr_zret () hx hb hr hlocks (by decide) hP hD hS dX2_isRow_15 (by (simp only [f_X2_isRow, if_pos c_1] <;> rfl))
  · refine lv_iload_n hx hb dX2_isRow_4 rfl (lv_at hl 0 rfl) ?_
    refine lv_bipush (v := 8) hx hb dX2_isRow_5 (by decide) ?_
    refine lv_icmp_ge (tgt := 14) hx hb dX2_isRow_7 (by decide) (fun c_7 => ?_) (fun c_7 => ?_)
    · refine lv_iconst (v := 0) hx hb dX2_isRow_14 (by decide) ?_
      exact pr_zret () hx hb hr hlocks (by decide) hP hD hS dX2_isRow_15 (by (simp only [f_X2_isRow, if_neg c_1, if_pos c_7] <;> rfl))
    · refine lv_iconst (v := 1) hx hb dX2_isRow_10 (by decide) ?_
      refine lv_goto (tgt := 15) hx hb dX2_isRow_11 (by decide) ?_
      exact pr_zret () hx hb hr hlocks (by decide) hP hD hS dX2_isRow_15 (by (simp only [f_X2_isRow, if_neg c_1, if_neg c_7] <;> rfl))
def f_J9_floorMod_7cf53 (a : Int32) (b : Int32) : Int32 :=
  if 0 ≤ (a ^^^ b) then
    a - a / b * b
  else
    if (a - a / b * b) = 0 then
      a - a / b * b
    else
      (a - a / b * b) + b
set_option maxHeartbeats 4000000 in
set_option maxRecDepth 100000 in
theorem c_J9_floorMod_7cf53 {l : Launch} {dC : Nat → ClassId} {dI : Nat → Nat → Nat} {cl : Nat → ClassId} {ad : Nat → Nat} {ph : Nat → Option Nat} {o : Nat → Int64} {g h : pz_M} (a : Int32) (b : Int32) (hne : ¬ b = 0) : pz_Mi l dC dI cl yJ9_floorMod_7cf53 wsJ9_floorMod_7cf53 { frames := 0, cells := 0, slots := 0, locals := 0 } [.int a, .int b] (pz_wd ad cl ph o g h) (fun _ : Unit => pz_wd ad cl ph o g h) (fun r _ => r = f_J9_floorMod_7cf53 a b) := by
  intro sz
  refine pr_ofWF (Qc := pz_Qi dC dI _ _) (cb := cJ9_floorMod_7cf53) (maxL := 3) (ret := (some .int)) (by decide +kernel) rfl (Nat.le_of_ble_eq_true rfl) ?_
  intro p e s m below meth c A ls hx hb hml hr hlocks hts hown hK hP hD hS hA hl
  have hl : lv_has ls 3 [(0, .int a), (1, .int b)] := hl
  refine lv_iload_n hx hb dJ9_floorMod_7cf53_0 rfl (lv_at hl 0 rfl) ?_
  refine lv_iload_n hx hb dJ9_floorMod_7cf53_1 rfl (lv_at hl 1 rfl) ?_
  refine lv_irem hx hb dJ9_floorMod_7cf53_2 hne ?_
  refine lv_istore_n (lv' := [(2, .int (a - a / b * b)), (0, .int a), (1, .int b)]) hx hb dJ9_floorMod_7cf53_3 rfl hl (by decide) rfl (fun ls hl => ?_)
  refine lv_iload_n hx hb dJ9_floorMod_7cf53_4 rfl (lv_at hl 1 rfl) ?_
  refine lv_iload_n hx hb dJ9_floorMod_7cf53_5 rfl (lv_at hl 2 rfl) ?_
  refine lv_ixor hx hb dJ9_floorMod_7cf53_6 ?_
  refine lv_if_ge (tgt := 18) hx hb dJ9_floorMod_7cf53_7 (by decide) (fun c_7 => ?_) (fun c_7 => ?_)
  · refine lv_iload_n hx hb dJ9_floorMod_7cf53_18 rfl (lv_at hl 0 rfl) ?_
    exact pr_iret () hx hb hr hlocks hP hD hS dJ9_floorMod_7cf53_19 (by (simp only [f_J9_floorMod_7cf53, if_pos c_7] <;> rfl))
  · refine lv_iload_n hx hb dJ9_floorMod_7cf53_10 rfl (lv_at hl 0 rfl) ?_
    refine lv_if_eq (tgt := 18) hx hb dJ9_floorMod_7cf53_11 (by decide) (fun c_11 => ?_) (fun c_11 => ?_)
    · refine lv_iload_n hx hb dJ9_floorMod_7cf53_18 rfl (lv_at hl 0 rfl) ?_
      exact pr_iret () hx hb hr hlocks hP hD hS dJ9_floorMod_7cf53_19 (by (simp only [f_J9_floorMod_7cf53, if_neg c_7, if_pos c_11] <;> rfl))
    · refine lv_iload_n hx hb dJ9_floorMod_7cf53_14 rfl (lv_at hl 0 rfl) ?_
      refine lv_iload_n hx hb dJ9_floorMod_7cf53_15 rfl (lv_at hl 2 rfl) ?_
      refine lv_iadd hx hb dJ9_floorMod_7cf53_16 ?_
      exact pr_iret () hx hb hr hlocks hP hD hS dJ9_floorMod_7cf53_17 (by (simp only [f_J9_floorMod_7cf53, if_neg c_7, if_neg c_11] <;> rfl))
theorem inX1_isFull_X1 : ∀ w ∈ u_ws RX1 TX1 4, w ∈ wsX1_isFull := by decide +kernel
def f_X1_isFull (g : pz_M) (ph : Nat → Option Nat) : Int32 :=
  if (g 2 3) < 6 then
    0
  else
    1
set_option maxHeartbeats 4000000 in
set_option maxRecDepth 100000 in
theorem c_X1_isFull {l : Launch} {dC : Nat → ClassId} {dI : Nat → Nat → Nat} {cl : Nat → ClassId} {ad : Nat → Nat} {ph : Nat → Option Nat} {o : Nat → Int64} {g h : pz_M} : pz_Mi l dC dI cl yX1_isFull wsX1_isFull { frames := 0, cells := 0, slots := 0, locals := 0 } [.ref (ad 2)] (pz_wd ad cl ph o g h) (fun _ : Unit => pz_wd ad cl ph o g h) (fun r _ => r = f_X1_isFull g ph) := by
  intro sz
  refine pr_ofW (Qc := pz_Qi dC dI _ _) (cb := cX1_isFull) (maxL := 1) (ret := (some .boolean)) (by decide) rfl (Nat.le_of_ble_eq_true rfl) ?_
  intro p e s m below meth c A ls hx hb hml hr hlocks hts hown hK hP hD hS hA hl
  have hl : lv_has ls 1 [(0, .ref (ad 2))] := hl
  refine lv_aload_n hx hb dX1_isFull_0 rfl (lv_at hl 0 rfl) ?_
  refine va_get (D := (dC, dI)) (ci := 3) (C := RX1) (T := TX1) (N := 4) hx hb hts inX1_isFull_X1 hown hK.1 hP 2 pz_a2 rfl 3 (by decide) (hts (.fieldLink RX1 24 "PowderMill$Path" "depth" "I") (by decide +kernel)) (fun _ h9 => h9) rfl dX1_isFull_1 ?_
  refine lv_bipush (v := 6) hx hb dX1_isFull_4 (by decide) ?_
  refine lv_icmp_lt (tgt := 13) hx hb dX1_isFull_6 (by decide) (fun c_6 => ?_) (fun c_6 => ?_)
  · refine lv_iconst (v := 0) hx hb dX1_isFull_13 (by decide) ?_
    exact pr_zret () hx hb hr hlocks (by decide) hP hD hS dX1_isFull_14 (by (simp only [f_X1_isFull, if_pos c_6] <;> rfl))
  · refine lv_iconst (v := 1) hx hb dX1_isFull_9 (by decide) ?_
    refine lv_goto (tgt := 14) hx hb dX1_isFull_10 (by decide) ?_
    exact pr_zret () hx hb hr hlocks (by decide) hP hD hS dX1_isFull_14 (by (simp only [f_X1_isFull, if_neg c_6] <;> rfl))
theorem inX1_here_X1 : ∀ w ∈ u_ws RX1 TX1 4, w ∈ wsX1_here := by decide +kernel
def f_X1_here (g : pz_M) (ph : Nat → Option Nat) : Option Nat :=
  if (g 2 3) < 1 then
    none
  else
    (some (pz_h ph (g 2 3 - 1).toNatClampNeg))
set_option maxHeartbeats 4000000 in
set_option maxRecDepth 100000 in
theorem c_X1_here {l : Launch} {dC : Nat → ClassId} {dI : Nat → Nat → Nat} {cl : Nat → ClassId} {ad : Nat → Nat} {ph : Nat → Option Nat} {o : Nat → Int64} {g h : pz_M} (hw : pz_W g ph) : pz_Me l dC dI cl ad yX1_here wsX1_here { frames := 0, cells := 0, slots := 0, locals := 0 } [.ref (ad 2)] (pz_wd ad cl ph o g h) (fun _ : Unit => pz_wd ad cl ph o g h) (fun r _ => r = f_X1_here g ph) := by
  intro sz
  refine pr_ofW (Qc := pz_Qe dC dI ad _ _) (cb := cX1_here) (maxL := 1) (ret := (some (.object "PowderMill$House"))) (by decide) rfl (Nat.le_of_ble_eq_true rfl) ?_
  intro p e s m below meth c A ls hx hb hml hr hlocks hts hown hK hP hD hS hA hl
  have hl : lv_has ls 1 [(0, .ref (ad 2))] := hl
  refine lv_aload_n hx hb dX1_here_0 rfl (lv_at hl 0 rfl) ?_
  refine va_get (D := (dC, dI)) (ci := 3) (C := RX1) (T := TX1) (N := 4) hx hb hts inX1_here_X1 hown hK.1 hP 2 pz_a2 rfl 3 (by decide) (hts (.fieldLink RX1 24 "PowderMill$Path" "depth" "I") (by decide +kernel)) (fun _ h9 => h9) rfl dX1_here_1 ?_
  refine lv_iconst (v := 1) hx hb dX1_here_4 (by decide) ?_
  refine lv_icmp_lt (tgt := 22) hx hb dX1_here_5 (by decide) (fun c_5 => ?_) (fun c_5 => ?_)
  · refine lv_null hx hb dX1_here_22 ?_
    exact pr_aret none () hx hb hr hlocks rfl hP hD hS dX1_here_23 (by (simp only [f_X1_here, if_pos c_5] <;> rfl))
  · obtain ⟨i1, i2, i3⟩ := pz_W1 hw c_5
    refine lv_aload_n hx hb dX1_here_8 rfl (lv_at hl 0 rfl) ?_
    refine va_get (D := (dC, dI)) (ci := 3) (C := RX1) (T := TX1) (N := 4) hx hb hts inX1_here_X1 hown hK.1 hP 2 pz_a2 rfl 0 (by decide) (hts (.fieldLink RX1 11 "PowderMill$Path" "houses" "[LPowderMill$House;") (by decide +kernel)) (fun _ h9 => h9) rfl dX1_here_9 ?_
    refine lv_aload_n hx hb dX1_here_12 rfl (lv_at hl 0 rfl) ?_
    refine va_get (D := (dC, dI)) (ci := 3) (C := RX1) (T := TX1) (N := 4) hx hb hts inX1_here_X1 hown hK.1 hP 2 pz_a2 rfl 3 (by decide) (hts (.fieldLink RX1 24 "PowderMill$Path" "depth" "I") (by decide +kernel)) (fun _ h9 => h9) rfl dX1_here_13 ?_
    refine lv_iconst (v := 1) hx hb dX1_here_16 (by decide) ?_
    refine lv_isub hx hb dX1_here_17 ?_
    refine pr_stay hx hb hK.1 hP (k := (pz_h ph (g 2 3 - 1).toNatClampNeg)) i2 i1 dX1_here_18 ?_
    refine lv_goto (tgt := 23) hx hb dX1_here_19 (by decide) ?_
    exact pr_aret (some (pz_h ph (g 2 3 - 1).toNatClampNeg)) () hx hb hr hlocks rfl hP hD hS dX1_here_23 (by (simp only [f_X1_here, if_neg c_5] <;> rfl))
theorem inX1_around_X1 : ∀ w ∈ u_ws RX1 TX1 4, w ∈ wsX1_around := by decide +kernel
def f_X1_around (g : pz_M) (ph : Nat → Option Nat) : Option Nat :=
  if (g 2 3) < 2 then
    none
  else
    (some (pz_h ph (g 2 3 - 2).toNatClampNeg))
set_option maxHeartbeats 4000000 in
set_option maxRecDepth 100000 in
theorem c_X1_around {l : Launch} {dC : Nat → ClassId} {dI : Nat → Nat → Nat} {cl : Nat → ClassId} {ad : Nat → Nat} {ph : Nat → Option Nat} {o : Nat → Int64} {g h : pz_M} (hw : pz_W g ph) : pz_Me l dC dI cl ad yX1_around wsX1_around { frames := 0, cells := 0, slots := 0, locals := 0 } [.ref (ad 2)] (pz_wd ad cl ph o g h) (fun _ : Unit => pz_wd ad cl ph o g h) (fun r _ => r = f_X1_around g ph) := by
  intro sz
  refine pr_ofW (Qc := pz_Qe dC dI ad _ _) (cb := cX1_around) (maxL := 1) (ret := (some (.object "PowderMill$House"))) (by decide) rfl (Nat.le_of_ble_eq_true rfl) ?_
  intro p e s m below meth c A ls hx hb hml hr hlocks hts hown hK hP hD hS hA hl
  have hl : lv_has ls 1 [(0, .ref (ad 2))] := hl
  refine lv_aload_n hx hb dX1_around_0 rfl (lv_at hl 0 rfl) ?_
  refine va_get (D := (dC, dI)) (ci := 3) (C := RX1) (T := TX1) (N := 4) hx hb hts inX1_around_X1 hown hK.1 hP 2 pz_a2 rfl 3 (by decide) (hts (.fieldLink RX1 24 "PowderMill$Path" "depth" "I") (by decide +kernel)) (fun _ h9 => h9) rfl dX1_around_1 ?_
  refine lv_iconst (v := 2) hx hb dX1_around_4 (by decide) ?_
  refine lv_icmp_lt (tgt := 22) hx hb dX1_around_5 (by decide) (fun c_5 => ?_) (fun c_5 => ?_)
  · refine lv_null hx hb dX1_around_22 ?_
    exact pr_aret none () hx hb hr hlocks rfl hP hD hS dX1_around_23 (by (simp only [f_X1_around, if_pos c_5] <;> rfl))
  · obtain ⟨i1, i2, i3⟩ := pz_W2 hw c_5
    refine lv_aload_n hx hb dX1_around_8 rfl (lv_at hl 0 rfl) ?_
    refine va_get (D := (dC, dI)) (ci := 3) (C := RX1) (T := TX1) (N := 4) hx hb hts inX1_around_X1 hown hK.1 hP 2 pz_a2 rfl 0 (by decide) (hts (.fieldLink RX1 11 "PowderMill$Path" "houses" "[LPowderMill$House;") (by decide +kernel)) (fun _ h9 => h9) rfl dX1_around_9 ?_
    refine lv_aload_n hx hb dX1_around_12 rfl (lv_at hl 0 rfl) ?_
    refine va_get (D := (dC, dI)) (ci := 3) (C := RX1) (T := TX1) (N := 4) hx hb hts inX1_around_X1 hown hK.1 hP 2 pz_a2 rfl 3 (by decide) (hts (.fieldLink RX1 24 "PowderMill$Path" "depth" "I") (by decide +kernel)) (fun _ h9 => h9) rfl dX1_around_13 ?_
    refine lv_iconst (v := 2) hx hb dX1_around_16 (by decide) ?_
    refine lv_isub hx hb dX1_around_17 ?_
    refine pr_stay hx hb hK.1 hP (k := (pz_h ph (g 2 3 - 2).toNatClampNeg)) i2 i1 dX1_around_18 ?_
    refine lv_goto (tgt := 23) hx hb dX1_around_19 (by decide) ?_
    exact pr_aret (some (pz_h ph (g 2 3 - 2).toNatClampNeg)) () hx hb hr hlocks rfl hP hD hS dX1_around_23 (by (simp only [f_X1_around, if_neg c_5] <;> rfl))
theorem inX1_enter_X0 : ∀ w ∈ u_ws RX0 TX0 8, w ∈ wsX1_enter := by decide +kernel
theorem inX1_enter_X1 : ∀ w ∈ u_ws RX1 TX1 4, w ∈ wsX1_enter := by decide +kernel
def f_X1_enter (g : pz_M) (ph : Nat → Option Nat) (k : Nat) (a : Int32) : pz_M × (Nat → Option Nat) :=
  let ph_1 := va_up ph (g 2 3).toNatClampNeg (some k)
  let g_2 := pz_st g 8 (g 2 3).toNatClampNeg a
  let g_3 := pz_st g_2 9 (g_2 2 3).toNatClampNeg 0
  let g_4 := pz_st g_3 2 3 ((g_3 2 3) + 1)
  let g_5 := pz_st g_4 (10 + k) 4 ((g_4 (10 + k) 4) + 1)
  let g_6 := pz_st g_5 (10 + k) 7 ((g_5 (10 + k) 7) + 1)
  (g_6, ph_1)
set_option maxHeartbeats 4000000 in
set_option maxRecDepth 100000 in
theorem c_X1_enter {l : Launch} {dC : Nat → ClassId} {dI : Nat → Nat → Nat} {cl : Nat → ClassId} {ad : Nat → Nat} {ph : Nat → Option Nat} {o : Nat → Int64} {g h : pz_M} (k : Nat) (a : Int32) (hk : k < 8) (hi : vp_in (g 2 3) 6) : pz_Mv l dC dI cl yX1_enter wsX1_enter { frames := 0, cells := 0, slots := 0, locals := 0 } [.ref (ad 2), .ref (ad (10 + k)), .int a] (pz_wd ad cl ph o g h) (fun u : pz_M × (Nat → Option Nat) => pz_wd ad cl u.2 o u.1 h) (fun u => u = f_X1_enter g ph k a) := by
  intro sz
  refine pr_ofW (Qc := pz_Qv dC dI _ _) (cb := cX1_enter) (maxL := 3) (ret := none) (by decide) rfl (Nat.le_of_ble_eq_true rfl) ?_
  intro p e s m below meth c A ls hx hb hml hr hlocks hts hown hK hP hD hS hA hl
  have hl : lv_has ls 3 [(0, .ref (ad 2)), (1, .ref (ad (10 + k))), (2, .int a)] := hl
  refine lv_aload_n hx hb dX1_enter_0 rfl (lv_at hl 0 rfl) ?_
  refine va_get (D := (dC, dI)) (ci := 3) (C := RX1) (T := TX1) (N := 4) hx hb hts inX1_enter_X1 hown hK.1 hP 2 pz_a2 rfl 0 (by decide) (hts (.fieldLink RX1 11 "PowderMill$Path" "houses" "[LPowderMill$House;") (by decide +kernel)) (fun _ h9 => h9) rfl dX1_enter_1 ?_
  refine lv_aload_n hx hb dX1_enter_4 rfl (lv_at hl 0 rfl) ?_
  refine va_get (D := (dC, dI)) (ci := 3) (C := RX1) (T := TX1) (N := 4) hx hb hts inX1_enter_X1 hown hK.1 hP 2 pz_a2 rfl 3 (by decide) (hts (.fieldLink RX1 24 "PowderMill$Path" "depth" "I") (by decide +kernel)) (fun _ h9 => h9) rfl dX1_enter_5 ?_
  refine lv_aload_n hx hb dX1_enter_8 rfl (lv_at hl 1 rfl) ?_
  refine pr_enter hx hb hK.1 hP hD hS (k := k) hk hi dX1_enter_9 (fun ph_1 H locs e_ph_1 hP hD hS => ?_)
  refine lv_aload_n hx hb dX1_enter_10 rfl (lv_at hl 0 rfl) ?_
  refine va_get (D := (dC, dI)) (ci := 3) (C := RX1) (T := TX1) (N := 4) hx hb hts inX1_enter_X1 hown hK.1 hP 2 pz_a2 rfl 1 (by decide) (hts (.fieldLink RX1 17 "PowderMill$Path" "inSteps" "[I") (by decide +kernel)) (fun _ h9 => h9) rfl dX1_enter_11 ?_
  refine lv_aload_n hx hb dX1_enter_14 rfl (lv_at hl 0 rfl) ?_
  refine va_get (D := (dC, dI)) (ci := 3) (C := RX1) (T := TX1) (N := 4) hx hb hts inX1_enter_X1 hown hK.1 hP 2 pz_a2 rfl 3 (by decide) (hts (.fieldLink RX1 24 "PowderMill$Path" "depth" "I") (by decide +kernel)) (fun _ h9 => h9) rfl dX1_enter_15 ?_
  refine lv_iload_n hx hb dX1_enter_18 rfl (lv_at hl 2 rfl) ?_
  refine pr_iastC hx hb hK.1 hP hD hS 8 (by omega) pz_a8 (fun _ => rfl) hi dX1_enter_19 (fun g_2 H locs e_g_2 hP hD hS => ?_)
  refine lv_aload_n hx hb dX1_enter_20 rfl (lv_at hl 0 rfl) ?_
  refine va_get (D := (dC, dI)) (ci := 3) (C := RX1) (T := TX1) (N := 4) hx hb hts inX1_enter_X1 hown hK.1 hP 2 pz_a2 rfl 2 (by decide) (hts (.fieldLink RX1 21 "PowderMill$Path" "timesBack" "[I") (by decide +kernel)) (fun _ h9 => h9) rfl dX1_enter_21 ?_
  refine lv_aload_n hx hb dX1_enter_24 rfl (lv_at hl 0 rfl) ?_
  refine va_get (D := (dC, dI)) (ci := 3) (C := RX1) (T := TX1) (N := 4) hx hb hts inX1_enter_X1 hown hK.1 hP 2 pz_a2 rfl 3 (by decide) (hts (.fieldLink RX1 24 "PowderMill$Path" "depth" "I") (by decide +kernel)) (fun _ h9 => h9) rfl dX1_enter_25 ?_
  refine lv_iconst (v := 0) hx hb dX1_enter_28 (by decide) ?_
  refine pr_iastC hx hb hK.1 hP hD hS 9 (by omega) pz_a9 (fun _ => rfl) (by subst e_g_2; rw [pz_st_n (by decide)]; exact hi) dX1_enter_29 (fun g_3 H locs e_g_3 hP hD hS => ?_)
  refine lv_aload_n hx hb dX1_enter_30 rfl (lv_at hl 0 rfl) ?_
  refine lv_dup hx hb dX1_enter_31 rfl ?_
  refine va_get (D := (dC, dI)) (ci := 3) (C := RX1) (T := TX1) (N := 4) hx hb hts inX1_enter_X1 hown hK.1 hP 2 pz_a2 rfl 3 (by decide) (hts (.fieldLink RX1 24 "PowderMill$Path" "depth" "I") (by decide +kernel)) (fun _ h9 => h9) rfl dX1_enter_32 ?_
  refine lv_iconst (v := 1) hx hb dX1_enter_35 (by decide) ?_
  refine lv_iadd hx hb dX1_enter_36 ?_
  refine pr_putC (ci := 3) (C := RX1) (T := TX1) (N := 4) (ty := .int) (v := ((g_3 2 3) + 1)) hx hb hts inX1_enter_X1 tyX1 tyX1_ok nmX1 hown hK.1 hP hD hS 2 (by omega) pz_a2 rfl 3 (by decide) (hts (.fieldLink RX1 24 "PowderMill$Path" "depth" "I") (by decide +kernel)) (fun _ h9 => h9) rfl (by decide +kernel) rfl rfl (Nat.le_of_ble_eq_true rfl) rfl dX1_enter_37 (fun g_4 H locs e_g_4 hP hD hS => ?_)
  refine lv_aload_n hx hb dX1_enter_40 rfl (lv_at hl 1 rfl) ?_
  refine lv_dup hx hb dX1_enter_41 rfl ?_
  refine va_getN (D := (dC, dI)) (ci := 2) (C := RX0) (T := TX0) (N := 8) hx hb hts inX1_enter_X0 hown hK.1 hP (10 + k) (pz_aH hk) rfl 4 (by decide) (va_Nw.use rfl hK.2.2.2.1) (fun _ h9 => h9) rfl dX1_enter_42 ?_
  refine lv_iconst (v := 1) hx hb dX1_enter_45 (by decide) ?_
  refine lv_iadd hx hb dX1_enter_46 ?_
  refine pr_putN (ci := 2) (C := RX0) (T := TX0) (N := 8) (ty := .int) (v := ((g_4 (10 + k) 4) + 1)) hx hb hts inX1_enter_X0 tyX0 tyX0_ok nmX0 hown hK.1 hP hD hS (10 + k) (by have := hk; omega) (pz_aH hk) rfl 4 (by decide) (va_Nw.use rfl hK.2.2.2.1) (fun _ h9 => h9) rfl (by decide +kernel) rfl rfl (Nat.le_of_ble_eq_true rfl) (by rw [pz_ceH hk]; rfl) dX1_enter_47 (fun g_5 H locs e_g_5 hP hD hS => ?_)
  refine lv_aload_n hx hb dX1_enter_50 rfl (lv_at hl 1 rfl) ?_
  refine lv_dup hx hb dX1_enter_51 rfl ?_
  refine va_getN (D := (dC, dI)) (ci := 2) (C := RX0) (T := TX0) (N := 8) hx hb hts inX1_enter_X0 hown hK.1 hP (10 + k) (pz_aH hk) rfl 7 (by decide) (va_Nw.use rfl hK.2.2.2.2.1) (fun _ h9 => h9) rfl dX1_enter_52 ?_
  refine lv_iconst (v := 1) hx hb dX1_enter_55 (by decide) ?_
  refine lv_iadd hx hb dX1_enter_56 ?_
  refine pr_putN (ci := 2) (C := RX0) (T := TX0) (N := 8) (ty := .int) (v := ((g_5 (10 + k) 7) + 1)) hx hb hts inX1_enter_X0 tyX0 tyX0_ok nmX0 hown hK.1 hP hD hS (10 + k) (by have := hk; omega) (pz_aH hk) rfl 7 (by decide) (va_Nw.use rfl hK.2.2.2.2.1) (fun _ h9 => h9) rfl (by decide +kernel) rfl rfl (Nat.le_of_ble_eq_true rfl) (by rw [pz_ceH hk]; rfl) dX1_enter_57 (fun g_6 H locs e_g_6 hP hD hS => ?_)
  exact pr_vret (g_6, ph_1) hx hb hr hlocks hP hD hS dX1_enter_60 (by subst e_g_6 e_g_5 e_g_4 e_g_3 e_g_2 e_ph_1; (simp only [f_X1_enter] <;> rfl))
end
section
theorem inX1_leaveDownTo_X0 : ∀ w ∈ u_ws RX0 TX0 8, w ∈ wsX1_leaveDownTo := by decide +kernel
theorem inX1_leaveDownTo_X1 : ∀ w ∈ u_ws RX1 TX1 4, w ∈ wsX1_leaveDownTo := by decide +kernel
def f_ldt (ph : Nat → Option Nat) (a : Int32) : Nat → pz_M → pz_M
  | 0, w => w
  | n + 1, w =>
    if (w 2 3) ≤ a then
      w
    else
      if (w 2 3) ≤ 0 then
        w
      else
        let g_1 := pz_st w (10 + pz_h ph (w 2 3 - 1).toNatClampNeg) 7 ((w (10 + pz_h ph (w 2 3 - 1).toNatClampNeg) 7) - 1)
        let g_2 := pz_st g_1 2 3 ((g_1 2 3) - 1)
        f_ldt ph a n g_2
def f_X1_leaveDownTo (g : pz_M) (ph : Nat → Option Nat) (a : Int32) : pz_M × (Nat → Option Nat) := (f_ldt ph a 7 g, ph)
set_option maxHeartbeats 4000000 in
set_option maxRecDepth 100000 in
theorem c_X1_leaveDownTo {l : Launch} {dC : Nat → ClassId} {dI : Nat → Nat → Nat} {cl : Nat → ClassId} {ad : Nat → Nat} {ph : Nat → Option Nat} {o : Nat → Int64} {g h : pz_M} (a : Int32) (hw : pz_W g ph) : pz_Mv l dC dI cl yX1_leaveDownTo wsX1_leaveDownTo { frames := 0, cells := 0, slots := 0, locals := 0 } [.ref (ad 2), .int a] (pz_wd ad cl ph o g h) (fun u : pz_M × (Nat → Option Nat) => pz_wd ad cl u.2 o u.1 h) (fun u => u = f_X1_leaveDownTo g ph a) := by
  intro sz
  refine pr_ofW (Qc := pz_Qv dC dI _ _) (cb := cX1_leaveDownTo) (maxL := 2) (ret := none) (by decide) rfl (Nat.le_of_ble_eq_true rfl) ?_
  intro p e s m below meth c A ls hx hb hml hr hlocks hts hown hK hP hD hS hA hl
  have hl : lv_has ls 2 [(0, .ref (ad 2)), (1, .int a)] := hl
  have key : ∀ (n : Nat) (w : pz_M) (H : Heap) (locs : List Loc) (ls : Array Slot), (∃ d : Nat, d ≤ 6 ∧ d < n ∧ w 2 3 = nI d ∧ ∀ i, i < d → ∃ k, k < 8 ∧ ph i = some k) → f_ldt ph a n w = f_ldt ph a 7 g → va_P (dC, dI) vwCl (pz_wd ad cl ph o w h) H → va_D A (pz_wd ad cl ph o w h) → va_S A s.heap H locs → lv_has ls 2 [(0, .ref (ad 2)), (1, .int a)] → W p l e { frames := 0, cells := 0, slots := 0, locals := 0 } s m [.ref (ad 2), .int a].toArray below meth c H locs 0 0 (MQ below (pz_Qv dC dI (fun u => u = f_X1_leaveDownTo g ph a) (fun u : pz_M × (Nat → Option Nat) => pz_wd ad cl u.2 o u.1 h) A) [.ref (ad 2), .int a].toArray s 0 0 A) (F0 m 0 ls []) := by
    intro n
    induction n with
    | zero => intro w H locs ls hw; obtain ⟨d, -, h2, -⟩ := hw; omega
    | succ n ih =>
      intro w H locs ls hw hF hP hD hS hl
      refine lv_aload_n hx hb dX1_leaveDownTo_0 rfl (lv_at hl 0 rfl) ?_
      refine va_get (D := (dC, dI)) (ci := 3) (C := RX1) (T := TX1) (N := 4) hx hb hts inX1_leaveDownTo_X1 hown hK.1 hP 2 pz_a2 rfl 3 (by decide) (hts (.fieldLink RX1 24 "PowderMill$Path" "depth" "I") (by decide +kernel)) (fun _ h9 => h9) rfl dX1_leaveDownTo_1 ?_
      refine lv_iload_n hx hb dX1_leaveDownTo_4 rfl (lv_at hl 1 rfl) ?_
      refine lv_icmp_le (tgt := 48) hx hb dX1_leaveDownTo_5 (by decide) (fun c_5 => ?_) (fun c_5 => ?_)
      · exact pr_vret (w, ph) hx hb hr hlocks hP hD hS dX1_leaveDownTo_48 (by show (w, ph) = (f_ldt ph a 7 g, ph); rw [← hF]; simp only [f_ldt, if_pos c_5])
      · refine lv_aload_n hx hb dX1_leaveDownTo_8 rfl (lv_at hl 0 rfl) ?_
        refine va_get (D := (dC, dI)) (ci := 3) (C := RX1) (T := TX1) (N := 4) hx hb hts inX1_leaveDownTo_X1 hown hK.1 hP 2 pz_a2 rfl 3 (by decide) (hts (.fieldLink RX1 24 "PowderMill$Path" "depth" "I") (by decide +kernel)) (fun _ h9 => h9) rfl dX1_leaveDownTo_9 ?_
        refine lv_if_le (tgt := 48) hx hb dX1_leaveDownTo_12 (by decide) (fun c_12 => ?_) (fun c_12 => ?_)
        · exact pr_vret (w, ph) hx hb hr hlocks hP hD hS dX1_leaveDownTo_48 (by show (w, ph) = (f_ldt ph a 7 g, ph); rw [← hF]; simp only [f_ldt, if_neg c_5, if_pos c_12])
        · obtain ⟨i1, i2, i3⟩ := pz_W0 hw c_12
          refine lv_aload_n hx hb dX1_leaveDownTo_15 rfl (lv_at hl 0 rfl) ?_
          refine va_get (D := (dC, dI)) (ci := 3) (C := RX1) (T := TX1) (N := 4) hx hb hts inX1_leaveDownTo_X1 hown hK.1 hP 2 pz_a2 rfl 0 (by decide) (hts (.fieldLink RX1 11 "PowderMill$Path" "houses" "[LPowderMill$House;") (by decide +kernel)) (fun _ h9 => h9) rfl dX1_leaveDownTo_16 ?_
          refine lv_aload_n hx hb dX1_leaveDownTo_19 rfl (lv_at hl 0 rfl) ?_
          refine va_get (D := (dC, dI)) (ci := 3) (C := RX1) (T := TX1) (N := 4) hx hb hts inX1_leaveDownTo_X1 hown hK.1 hP 2 pz_a2 rfl 3 (by decide) (hts (.fieldLink RX1 24 "PowderMill$Path" "depth" "I") (by decide +kernel)) (fun _ h9 => h9) rfl dX1_leaveDownTo_20 ?_
          refine lv_iconst (v := 1) hx hb dX1_leaveDownTo_23 (by decide) ?_
          refine lv_isub hx hb dX1_leaveDownTo_24 ?_
          refine pr_stay hx hb hK.1 hP (k := (pz_h ph (w 2 3 - 1).toNatClampNeg)) i2 i1 dX1_leaveDownTo_25 ?_
          refine lv_dup hx hb dX1_leaveDownTo_26 rfl ?_
          refine va_getN (D := (dC, dI)) (ci := 2) (C := RX0) (T := TX0) (N := 8) hx hb hts inX1_leaveDownTo_X0 hown hK.1 hP (10 + pz_h ph (w 2 3 - 1).toNatClampNeg) (pz_aH i3) rfl 7 (by decide) (va_Nw.use rfl hK.2.2.2.2.1) (fun _ h9 => h9) rfl dX1_leaveDownTo_27 ?_
          refine lv_iconst (v := 1) hx hb dX1_leaveDownTo_30 (by decide) ?_
          refine lv_isub hx hb dX1_leaveDownTo_31 ?_
          refine pr_putN (ci := 2) (C := RX0) (T := TX0) (N := 8) (ty := .int) (v := ((w (10 + pz_h ph (w 2 3 - 1).toNatClampNeg) 7) - 1)) hx hb hts inX1_leaveDownTo_X0 tyX0 tyX0_ok nmX0 hown hK.1 hP hD hS (10 + pz_h ph (w 2 3 - 1).toNatClampNeg) (by have := i3; omega) (pz_aH i3) rfl 7 (by decide) (va_Nw.use rfl hK.2.2.2.2.1) (fun _ h9 => h9) rfl (by decide +kernel) rfl rfl (Nat.le_of_ble_eq_true rfl) (by rw [pz_ceH i3]; rfl) dX1_leaveDownTo_32 (fun g_1 H locs e_g_1 hP hD hS => ?_)
          refine lv_aload_n hx hb dX1_leaveDownTo_35 rfl (lv_at hl 0 rfl) ?_
          refine lv_dup hx hb dX1_leaveDownTo_36 rfl ?_
          refine va_get (D := (dC, dI)) (ci := 3) (C := RX1) (T := TX1) (N := 4) hx hb hts inX1_leaveDownTo_X1 hown hK.1 hP 2 pz_a2 rfl 3 (by decide) (hts (.fieldLink RX1 24 "PowderMill$Path" "depth" "I") (by decide +kernel)) (fun _ h9 => h9) rfl dX1_leaveDownTo_37 ?_
          refine lv_iconst (v := 1) hx hb dX1_leaveDownTo_40 (by decide) ?_
          refine lv_isub hx hb dX1_leaveDownTo_41 ?_
          refine pr_putC (ci := 3) (C := RX1) (T := TX1) (N := 4) (ty := .int) (v := ((g_1 2 3) - 1)) hx hb hts inX1_leaveDownTo_X1 tyX1 tyX1_ok nmX1 hown hK.1 hP hD hS 2 (by omega) pz_a2 rfl 3 (by decide) (hts (.fieldLink RX1 24 "PowderMill$Path" "depth" "I") (by decide +kernel)) (fun _ h9 => h9) rfl (by decide +kernel) rfl rfl (Nat.le_of_ble_eq_true rfl) rfl dX1_leaveDownTo_42 (fun g_2 H locs e_g_2 hP hD hS => ?_)
          refine lv_goto (tgt := 0) hx hb dX1_leaveDownTo_45 (by decide) ?_
          exact ih g_2 _ _ _ (pz_Wd hw c_12 (by subst e_g_2 e_g_1; rw [pz_st_s, pk_us, pz_st_n (by omega)])) (by rw [← hF]; subst e_g_2 e_g_1; simp only [f_ldt, if_neg c_5, if_neg c_12]) hP hD hS hl
  exact key 7 g _ _ ls (pz_Wv hw) rfl hP hD hS hl
theorem inX1_leaveHere_X1 : ∀ w ∈ u_ws RX1 TX1 4, w ∈ wsX1_leaveHere := by decide +kernel
def f_X1_leaveHere (g : pz_M) (ph : Nat → Option Nat) : pz_M × (Nat → Option Nat) :=
  let g_3 := (f_X1_leaveDownTo g ph ((g 2 3) - 1)).1
  let ph_4 := (f_X1_leaveDownTo g ph ((g 2 3) - 1)).2
  (g_3, ph_4)
set_option maxHeartbeats 4000000 in
set_option maxRecDepth 100000 in
theorem c_X1_leaveHere {l : Launch} {dC : Nat → ClassId} {dI : Nat → Nat → Nat} {cl : Nat → ClassId} {ad : Nat → Nat} {ph : Nat → Option Nat} {o : Nat → Int64} {g h : pz_M} (hw : pz_W g ph) : pz_Mv l dC dI cl yX1_leaveHere wsX1_leaveHere { frames := 1, cells := 0, slots := 0, locals := 21 } [.ref (ad 2)] (pz_wd ad cl ph o g h) (fun u : pz_M × (Nat → Option Nat) => pz_wd ad cl u.2 o u.1 h) (fun u => u = f_X1_leaveHere g ph) := by
  intro sz
  refine pr_ofW (Qc := pz_Qv dC dI _ _) (cb := cX1_leaveHere) (maxL := 1) (ret := none) (by decide) rfl (Nat.le_of_ble_eq_true rfl) ?_
  intro p e s m below meth c A ls hx hb hml hr hlocks hts hown hK hP hD hS hA hl
  have hl : lv_has ls 1 [(0, .ref (ad 2))] := hl
  refine lv_aload_n hx hb dX1_leaveHere_0 rfl (lv_at hl 0 rfl) ?_
  refine lv_aload_n hx hb dX1_leaveHere_1 rfl (lv_at hl 0 rfl) ?_
  refine va_get (D := (dC, dI)) (ci := 3) (C := RX1) (T := TX1) (N := 4) hx hb hts inX1_leaveHere_X1 hown hK.1 hP 2 pz_a2 rfl 3 (by decide) (hts (.fieldLink RX1 24 "PowderMill$Path" "depth" "I") (by decide +kernel)) (fun _ h9 => h9) rfl dX1_leaveHere_2 ?_
  refine lv_iconst (v := 1) hx hb dX1_leaveHere_5 (by decide) ?_
  refine lv_isub hx hb dX1_leaveHere_6 ?_
  refine pr_Vv (As := [.int ((g 2 3) - 1)]) (rest := []) ⟨hx, hb, hml, hown, hts⟩ (c_X1_leaveDownTo ((g 2 3) - 1) hw) (cwV 1 hts gX1_leaveHere_X1_leaveDownTo rfl rfl rfl (by decide +kernel) ⟨Nat.le_of_ble_eq_true rfl, Nat.le_of_ble_eq_true rfl⟩) (va_recv hK.1 hP (ci := 3) rfl pz_a2) hK hP hD hS hA rfl hl.1 rfl (Nat.le_of_ble_eq_true rfl) ⟨Nat.le_of_ble_eq_true rfl, Nat.le_of_ble_eq_true rfl⟩ dX1_leaveHere_7 (fun ⟨g_3, ph_4⟩ H locs e_q_2 hP hD hS => ?_)
  obtain ⟨e_g_3, e_ph_4⟩ : g_3 = (f_X1_leaveDownTo g ph ((g 2 3) - 1)).1 ∧ ph_4 = (f_X1_leaveDownTo g ph ((g 2 3) - 1)).2 := ⟨congrArg Prod.fst e_q_2, congrArg Prod.snd e_q_2⟩
  clear e_q_2
  dsimp only at hP hD
  exact pr_vret (g_3, ph_4) hx hb hr hlocks hP hD hS dX1_leaveHere_10 (by subst e_ph_4 e_g_3; (simp only [f_X1_leaveHere] <;> rfl))
theorem inX1_leaveByRefuge_X0 : ∀ w ∈ u_ws RX0 TX0 8, w ∈ wsX1_leaveByRefuge := by decide +kernel
theorem inX1_leaveByRefuge_X1 : ∀ w ∈ u_ws RX1 TX1 4, w ∈ wsX1_leaveByRefuge := by decide +kernel
def f_lbr (g : pz_M) (ph : Nat → Option Nat) : Nat → Int32 → Int32 × pz_M × (Nat → Option Nat)
  | 0, _ => (0, g, ph)
  | n + 1, i =>
    if i < 0 then
      (0, g, ph)
    else
      if (g (10 + pz_h ph i.toNatClampNeg) 3) = 0 then
        f_lbr g ph n (i + (-1))
      else
        let g_1 := pz_st g (10 + pz_h ph i.toNatClampNeg) 6 ((g (10 + pz_h ph i.toNatClampNeg) 6) + 1)
        let g_4 := (f_X1_leaveDownTo g_1 ph i).1
        let ph_5 := (f_X1_leaveDownTo g_1 ph i).2
        (1, g_4, ph_5)
def f_X1_leaveByRefuge (g : pz_M) (ph : Nat → Option Nat) : Int32 × pz_M × (Nat → Option Nat) := f_lbr g ph 8 (g 2 3 - 1)
set_option maxHeartbeats 4000000 in
set_option maxRecDepth 100000 in
theorem c_X1_leaveByRefuge {l : Launch} {dC : Nat → ClassId} {dI : Nat → Nat → Nat} {cl : Nat → ClassId} {ad : Nat → Nat} {ph : Nat → Option Nat} {o : Nat → Int64} {g h : pz_M} (hw : pz_W g ph) : pz_Mi l dC dI cl yX1_leaveByRefuge wsX1_leaveByRefuge { frames := 1, cells := 0, slots := 0, locals := 21 } [.ref (ad 2)] (pz_wd ad cl ph o g h) (fun u : pz_M × (Nat → Option Nat) => pz_wd ad cl u.2 o u.1 h) (fun r u => r = (f_X1_leaveByRefuge g ph).1 ∧ u = (f_X1_leaveByRefuge g ph).2) := by
  intro sz
  refine pr_ofW (Qc := pz_Qi dC dI _ _) (cb := cX1_leaveByRefuge) (maxL := 2) (ret := (some .boolean)) (by decide) rfl (Nat.le_of_ble_eq_true rfl) ?_
  intro p e s m below meth c A ls hx hb hml hr hlocks hts hown hK hP hD hS hA hl
  have hl : lv_has ls 2 [(0, .ref (ad 2))] := hl
  obtain ⟨d, hd6, hd, hs⟩ := hw
  have key : ∀ (n : Nat) (i : Int32) (j : Nat) (H : Heap) (locs : List Loc) (ls : Array Slot), j ≤ d → j < n → i + 1 = nI j → f_lbr g ph n i = f_lbr g ph 8 (g 2 3 - 1) → va_P (dC, dI) vwCl (pz_wd ad cl ph o g h) H → va_D A (pz_wd ad cl ph o g h) → va_S A s.heap H locs → lv_has ls 2 [(0, .ref (ad 2)), (1, .int i)] → W p l e { frames := 1, cells := 0, slots := 0, locals := 21 } s m [.ref (ad 2)].toArray below meth c H locs 0 0 (MQ below (pz_Qi dC dI (fun r u => r = (f_X1_leaveByRefuge g ph).1 ∧ u = (f_X1_leaveByRefuge g ph).2) (fun u : pz_M × (Nat → Option Nat) => pz_wd ad cl u.2 o u.1 h) A) [.ref (ad 2)].toArray s 0 0 A) (F0 m 7 ls []) := by
    intro n
    induction n with
    | zero => intro i j H locs ls h1 h2; omega
    | succ n ih =>
      intro i j H locs ls hjd hjn hi hF hP hD hS hl
      refine lv_iload_n hx hb dX1_leaveByRefuge_7 rfl (lv_at hl 1 rfl) ?_
      refine lv_if_lt (tgt := 51) hx hb dX1_leaveByRefuge_8 (by decide) (fun c_8 => ?_) (fun c_8 => ?_)
      · refine lv_iconst (v := 0) hx hb dX1_leaveByRefuge_51 (by decide) ?_
        exact pr_zret (g, ph) hx hb hr hlocks (by decide) hP hD hS dX1_leaveByRefuge_52 (by refine ⟨?_, ?_⟩ <;> (show _ = _; unfold f_X1_leaveByRefuge; rw [← hF]; simp only [f_lbr, if_pos c_8]))
      · obtain ⟨j1, j2, j3⟩ := pz_j1 (by omega) hi c_8
        have i1 : vp_in i 6 := by rw [j2]; exact vp_in_nI (by omega) (by decide)
        obtain ⟨i2, i3⟩ := pz_Wi (g := g) hs (show j - 1 < d by omega)
        rw [← j3] at i2 i3
        refine lv_aload_n hx hb dX1_leaveByRefuge_11 rfl (lv_at hl 0 rfl) ?_
        refine va_get (D := (dC, dI)) (ci := 3) (C := RX1) (T := TX1) (N := 4) hx hb hts inX1_leaveByRefuge_X1 hown hK.1 hP 2 pz_a2 rfl 0 (by decide) (hts (.fieldLink RX1 11 "PowderMill$Path" "houses" "[LPowderMill$House;") (by decide +kernel)) (fun _ h9 => h9) rfl dX1_leaveByRefuge_12 ?_
        refine lv_iload_n hx hb dX1_leaveByRefuge_15 rfl (lv_at hl 1 rfl) ?_
        refine pr_stay hx hb hK.1 hP (k := (pz_h ph i.toNatClampNeg)) i2 i1 dX1_leaveByRefuge_16 ?_
        refine va_getN (D := (dC, dI)) (ci := 2) (C := RX0) (T := TX0) (N := 8) hx hb hts inX1_leaveByRefuge_X0 hown hK.1 hP (10 + pz_h ph i.toNatClampNeg) (pz_aH i3) rfl 3 (by decide) (va_Nw.use rfl hK.2.2.2.2.2.1) (fun _ h9 => h9) rfl dX1_leaveByRefuge_17 ?_
        refine lv_if_eq (tgt := 45) hx hb dX1_leaveByRefuge_20 (by decide) (fun c_20 => ?_) (fun c_20 => ?_)
        · refine lv_iinc (v := i + (-1)) (lv' := [(1, .int (i + (-1))), (0, .ref (ad 2))]) hx hb dX1_leaveByRefuge_45 hl (k := 1) rfl (by rfl) (by decide) rfl (fun ls hl => ?_)
          refine lv_goto (tgt := 7) hx hb dX1_leaveByRefuge_48 (by decide) ?_
          exact ih (i + (-1)) (j - 1) _ _ _ (by omega) (by omega) (pz_j2 (by omega) hi c_8) (by rw [← hF]; simp only [f_lbr, if_neg c_8, if_pos c_20]) hP hD hS (lv_sub hl [1, 0] rfl)
        · refine lv_aload_n hx hb dX1_leaveByRefuge_23 rfl (lv_at hl 0 rfl) ?_
          refine va_get (D := (dC, dI)) (ci := 3) (C := RX1) (T := TX1) (N := 4) hx hb hts inX1_leaveByRefuge_X1 hown hK.1 hP 2 pz_a2 rfl 0 (by decide) (hts (.fieldLink RX1 11 "PowderMill$Path" "houses" "[LPowderMill$House;") (by decide +kernel)) (fun _ h9 => h9) rfl dX1_leaveByRefuge_24 ?_
          refine lv_iload_n hx hb dX1_leaveByRefuge_27 rfl (lv_at hl 1 rfl) ?_
          refine pr_stay hx hb hK.1 hP (k := (pz_h ph i.toNatClampNeg)) i2 i1 dX1_leaveByRefuge_28 ?_
          refine lv_dup hx hb dX1_leaveByRefuge_29 rfl ?_
          refine va_getN (D := (dC, dI)) (ci := 2) (C := RX0) (T := TX0) (N := 8) hx hb hts inX1_leaveByRefuge_X0 hown hK.1 hP (10 + pz_h ph i.toNatClampNeg) (pz_aH i3) rfl 6 (by decide) (va_Nw.use rfl hK.2.2.2.2.2.2) (fun _ h9 => h9) rfl dX1_leaveByRefuge_30 ?_
          refine lv_iconst (v := 1) hx hb dX1_leaveByRefuge_33 (by decide) ?_
          refine lv_iadd hx hb dX1_leaveByRefuge_34 ?_
          refine pr_putN (ci := 2) (C := RX0) (T := TX0) (N := 8) (ty := .int) (v := ((g (10 + pz_h ph i.toNatClampNeg) 6) + 1)) hx hb hts inX1_leaveByRefuge_X0 tyX0 tyX0_ok nmX0 hown hK.1 hP hD hS (10 + pz_h ph i.toNatClampNeg) (by have := i3; omega) (pz_aH i3) rfl 6 (by decide) (va_Nw.use rfl hK.2.2.2.2.2.2) (fun _ h9 => h9) rfl (by decide +kernel) rfl rfl (Nat.le_of_ble_eq_true rfl) (by rw [pz_ceH i3]; rfl) dX1_leaveByRefuge_35 (fun g_1 H locs e_g_1 hP hD hS => ?_)
          refine lv_aload_n hx hb dX1_leaveByRefuge_38 rfl (lv_at hl 0 rfl) ?_
          refine lv_iload_n hx hb dX1_leaveByRefuge_39 rfl (lv_at hl 1 rfl) ?_
          refine pr_Vv (As := [.int i]) (rest := []) ⟨hx, hb, hml, hown, hts⟩ (c_X1_leaveDownTo i (show pz_W g_1 ph from ⟨d, hd6, by subst e_g_1; rw [pz_st_n (by omega)]; exact hd, hs⟩)) (cwV 1 hts gX1_leaveByRefuge_X1_leaveDownTo rfl rfl rfl (by decide +kernel) ⟨Nat.le_of_ble_eq_true rfl, Nat.le_of_ble_eq_true rfl⟩) (va_recv hK.1 hP (ci := 3) rfl pz_a2) hK hP hD hS hA rfl hl.1 rfl (Nat.le_of_ble_eq_true rfl) ⟨Nat.le_of_ble_eq_true rfl, Nat.le_of_ble_eq_true rfl⟩ dX1_leaveByRefuge_40 (fun ⟨g_4, ph_5⟩ H locs e_q_3 hP hD hS => ?_)
          obtain ⟨e_g_4, e_ph_5⟩ : g_4 = (f_X1_leaveDownTo g_1 ph i).1 ∧ ph_5 = (f_X1_leaveDownTo g_1 ph i).2 := ⟨congrArg Prod.fst e_q_3, congrArg Prod.snd e_q_3⟩
          clear e_q_3
          dsimp only at hP hD
          refine lv_iconst (v := 1) hx hb dX1_leaveByRefuge_43 (by decide) ?_
          exact pr_zret (g_4, ph_5) hx hb hr hlocks (by decide) hP hD hS dX1_leaveByRefuge_44 (by subst e_ph_5 e_g_4 e_g_1; refine ⟨?_, ?_⟩ <;> (show _ = _; unfold f_X1_leaveByRefuge; rw [← hF]; simp only [f_lbr, if_neg c_8, if_neg c_20] <;> rfl))
  refine lv_aload_n hx hb dX1_leaveByRefuge_0 rfl (lv_at hl 0 rfl) ?_
  refine va_get (D := (dC, dI)) (ci := 3) (C := RX1) (T := TX1) (N := 4) hx hb hts inX1_leaveByRefuge_X1 hown hK.1 hP 2 pz_a2 rfl 3 (by decide) (hts (.fieldLink RX1 24 "PowderMill$Path" "depth" "I") (by decide +kernel)) (fun _ h9 => h9) rfl dX1_leaveByRefuge_1 ?_
  refine lv_iconst (v := 1) hx hb dX1_leaveByRefuge_4 (by decide) ?_
  refine lv_isub hx hb dX1_leaveByRefuge_5 ?_
  refine lv_istore_n (lv' := [(1, .int ((g 2 3) - 1)), (0, .ref (ad 2))]) hx hb dX1_leaveByRefuge_6 rfl hl (by decide) rfl (fun ls hl => ?_)
  exact key 8 (g 2 3 - 1) d _ _ _ (Nat.le_refl d) (by omega) (by rw [hd]; simp) rfl hP hD hS (lv_sub hl [1, 0] rfl)
theorem inX1_stepBehindAgain_X1 : ∀ w ∈ u_ws RX1 TX1 4, w ∈ wsX1_stepBehindAgain := by decide +kernel
def f_X1_stepBehindAgain (g : pz_M) (ph : Nat → Option Nat) (a : Int32) (b : Int32) : Int32 × pz_M × (Nat → Option Nat) :=
  if (g 2 3) = 0 then
    (b, g, ph)
  else
    if (g 9 ((g 2 3) - 1).toNatClampNeg) < a then
      let g_1 := pz_st g 9 ((g 2 3) - 1).toNatClampNeg ((g 9 ((g 2 3) - 1).toNatClampNeg) + 1)
      ((g_1 8 ((g_1 2 3) - 1).toNatClampNeg) + 1, g_1, ph)
    else
      (b, g, ph)
set_option maxHeartbeats 4000000 in
set_option maxRecDepth 100000 in
theorem c_X1_stepBehindAgain {l : Launch} {dC : Nat → ClassId} {dI : Nat → Nat → Nat} {cl : Nat → ClassId} {ad : Nat → Nat} {ph : Nat → Option Nat} {o : Nat → Int64} {g h : pz_M} (a : Int32) (b : Int32) (hi : ¬ g 2 3 = 0 → vp_in (g 2 3 - 1) 6) : pz_Mi l dC dI cl yX1_stepBehindAgain wsX1_stepBehindAgain { frames := 0, cells := 0, slots := 0, locals := 0 } [.ref (ad 2), .int a, .int b] (pz_wd ad cl ph o g h) (fun u : pz_M × (Nat → Option Nat) => pz_wd ad cl u.2 o u.1 h) (fun r u => r = (f_X1_stepBehindAgain g ph a b).1 ∧ u = (f_X1_stepBehindAgain g ph a b).2) := by
  intro sz
  refine pr_ofW (Qc := pz_Qi dC dI _ _) (cb := cX1_stepBehindAgain) (maxL := 3) (ret := (some .int)) (by decide) rfl (Nat.le_of_ble_eq_true rfl) ?_
  intro p e s m below meth c A ls hx hb hml hr hlocks hts hown hK hP hD hS hA hl
  have hl : lv_has ls 3 [(0, .ref (ad 2)), (1, .int a), (2, .int b)] := hl
  refine lv_aload_n hx hb dX1_stepBehindAgain_0 rfl (lv_at hl 0 rfl) ?_
  refine va_get (D := (dC, dI)) (ci := 3) (C := RX1) (T := TX1) (N := 4) hx hb hts inX1_stepBehindAgain_X1 hown hK.1 hP 2 pz_a2 rfl 3 (by decide) (hts (.fieldLink RX1 24 "PowderMill$Path" "depth" "I") (by decide +kernel)) (fun _ h9 => h9) rfl dX1_stepBehindAgain_1 ?_
  refine lv_if_eq (tgt := 22) hx hb dX1_stepBehindAgain_4 (by decide) (fun c_4 => ?_) (fun c_4 => ?_)
  · refine lv_iload_n hx hb dX1_stepBehindAgain_22 rfl (lv_at hl 2 rfl) ?_
    exact pr_iret (g, ph) hx hb hr hlocks hP hD hS dX1_stepBehindAgain_23 (by refine ⟨?_, ?_⟩ <;> (simp only [f_X1_stepBehindAgain, if_pos c_4] <;> rfl))
  · refine lv_aload_n hx hb dX1_stepBehindAgain_7 rfl (lv_at hl 0 rfl) ?_
    refine va_get (D := (dC, dI)) (ci := 3) (C := RX1) (T := TX1) (N := 4) hx hb hts inX1_stepBehindAgain_X1 hown hK.1 hP 2 pz_a2 rfl 2 (by decide) (hts (.fieldLink RX1 21 "PowderMill$Path" "timesBack" "[I") (by decide +kernel)) (fun _ h9 => h9) rfl dX1_stepBehindAgain_8 ?_
    refine lv_aload_n hx hb dX1_stepBehindAgain_11 rfl (lv_at hl 0 rfl) ?_
    refine va_get (D := (dC, dI)) (ci := 3) (C := RX1) (T := TX1) (N := 4) hx hb hts inX1_stepBehindAgain_X1 hown hK.1 hP 2 pz_a2 rfl 3 (by decide) (hts (.fieldLink RX1 24 "PowderMill$Path" "depth" "I") (by decide +kernel)) (fun _ h9 => h9) rfl dX1_stepBehindAgain_12 ?_
    refine lv_iconst (v := 1) hx hb dX1_stepBehindAgain_15 (by decide) ?_
    refine lv_isub hx hb dX1_stepBehindAgain_16 ?_
    refine va_iald hx hb hK.1 hP 9 0 pz_a9 rfl (hi c_4) dX1_stepBehindAgain_17 ?_
    refine lv_iload_n hx hb dX1_stepBehindAgain_18 rfl (lv_at hl 1 rfl) ?_
    refine lv_icmp_lt (tgt := 24) hx hb dX1_stepBehindAgain_19 (by decide) (fun c_19 => ?_) (fun c_19 => ?_)
    · refine lv_aload_n hx hb dX1_stepBehindAgain_24 rfl (lv_at hl 0 rfl) ?_
      refine va_get (D := (dC, dI)) (ci := 3) (C := RX1) (T := TX1) (N := 4) hx hb hts inX1_stepBehindAgain_X1 hown hK.1 hP 2 pz_a2 rfl 2 (by decide) (hts (.fieldLink RX1 21 "PowderMill$Path" "timesBack" "[I") (by decide +kernel)) (fun _ h9 => h9) rfl dX1_stepBehindAgain_25 ?_
      refine lv_aload_n hx hb dX1_stepBehindAgain_28 rfl (lv_at hl 0 rfl) ?_
      refine va_get (D := (dC, dI)) (ci := 3) (C := RX1) (T := TX1) (N := 4) hx hb hts inX1_stepBehindAgain_X1 hown hK.1 hP 2 pz_a2 rfl 3 (by decide) (hts (.fieldLink RX1 24 "PowderMill$Path" "depth" "I") (by decide +kernel)) (fun _ h9 => h9) rfl dX1_stepBehindAgain_29 ?_
      refine lv_iconst (v := 1) hx hb dX1_stepBehindAgain_32 (by decide) ?_
      refine lv_isub hx hb dX1_stepBehindAgain_33 ?_
      refine lv_dup2_11 hx hb dX1_stepBehindAgain_34 rfl rfl ?_
      refine va_iald hx hb hK.1 hP 9 0 pz_a9 rfl (hi c_4) dX1_stepBehindAgain_35 ?_
      refine lv_iconst (v := 1) hx hb dX1_stepBehindAgain_36 (by decide) ?_
      refine lv_iadd hx hb dX1_stepBehindAgain_37 ?_
      refine pr_iastC hx hb hK.1 hP hD hS 9 (by omega) pz_a9 (fun _ => rfl) (hi c_4) dX1_stepBehindAgain_38 (fun g_1 H locs e_g_1 hP hD hS => ?_)
      refine lv_aload_n hx hb dX1_stepBehindAgain_39 rfl (lv_at hl 0 rfl) ?_
      refine va_get (D := (dC, dI)) (ci := 3) (C := RX1) (T := TX1) (N := 4) hx hb hts inX1_stepBehindAgain_X1 hown hK.1 hP 2 pz_a2 rfl 1 (by decide) (hts (.fieldLink RX1 17 "PowderMill$Path" "inSteps" "[I") (by decide +kernel)) (fun _ h9 => h9) rfl dX1_stepBehindAgain_40 ?_
      refine lv_aload_n hx hb dX1_stepBehindAgain_43 rfl (lv_at hl 0 rfl) ?_
      refine va_get (D := (dC, dI)) (ci := 3) (C := RX1) (T := TX1) (N := 4) hx hb hts inX1_stepBehindAgain_X1 hown hK.1 hP 2 pz_a2 rfl 3 (by decide) (hts (.fieldLink RX1 24 "PowderMill$Path" "depth" "I") (by decide +kernel)) (fun _ h9 => h9) rfl dX1_stepBehindAgain_44 ?_
      refine lv_iconst (v := 1) hx hb dX1_stepBehindAgain_47 (by decide) ?_
      refine lv_isub hx hb dX1_stepBehindAgain_48 ?_
      refine va_iald hx hb hK.1 hP 8 0 pz_a8 rfl (by subst e_g_1; rw [pz_st_n (by decide)]; exact hi c_4) dX1_stepBehindAgain_49 ?_
      refine lv_iconst (v := 1) hx hb dX1_stepBehindAgain_50 (by decide) ?_
      refine lv_iadd hx hb dX1_stepBehindAgain_51 ?_
      exact pr_iret (g_1, ph) hx hb hr hlocks hP hD hS dX1_stepBehindAgain_52 (by subst e_g_1; refine ⟨?_, ?_⟩ <;> (simp only [f_X1_stepBehindAgain, if_neg c_4, if_pos c_19] <;> rfl))
    · refine lv_iload_n hx hb dX1_stepBehindAgain_22 rfl (lv_at hl 2 rfl) ?_
      exact pr_iret (g, ph) hx hb hr hlocks hP hD hS dX1_stepBehindAgain_23 (by refine ⟨?_, ?_⟩ <;> (simp only [f_X1_stepBehindAgain, if_neg c_4, if_neg c_19] <;> rfl))
end
section
/-! small facts on what the methods answer -/
theorem pz_in {a : Int32} {n : Nat} (hn : n < 2 ^ 31) (h0 : ¬ a < 0) (h1 : ¬ nI n ≤ a) : vp_in a n := by
  rw [vp_in_iff]
  rw [Int32.lt_iff_toInt_lt, Int32.toInt_zero] at h0
  rw [Int32.le_iff_toInt_le, nI_toInt hn] at h1
  omega
theorem pz_place {a : Int32} (h : ¬ f_X2_isPlace a = 0) : vp_in a 8 := by
  unfold f_X2_isPlace at h
  by_cases h1 : a < 0
  · exact absurd (if_pos h1) h
  · by_cases h2 : 8 ≤ a
    · exact absurd (by rw [if_neg h1, if_pos h2]) h
    · exact pz_in (by decide) h1 h2
theorem pz_row {a : Int32} (h : ¬ f_X2_isRow a = 0) : vp_in a 8 := by
  unfold f_X2_isRow at h
  by_cases h1 : a < 0
  · exact absurd (if_pos h1) h
  · by_cases h2 : 8 ≤ a
    · exact absurd (by rw [if_neg h1, if_pos h2]) h
    · exact pz_in (by decide) h1 h2
theorem pz_lt_in {a : Int32} {n : Nat} (hn : n < 2 ^ 31) (h0 : ¬ a < 0) (h1 : a < nI n) : vp_in a n := pz_in hn h0 (fun q => by
  rw [Int32.lt_iff_toInt_lt] at h1
  rw [Int32.le_iff_toInt_le] at q
  omega)
theorem pz_alt {a b : Int32} (h0 : ¬ a < 0) (h1 : ¬ b ≤ a) (h2 : b ≤ 30) : vp_in a 30 := pz_in (by decide) h0 (fun q => h1 (by
  rw [Int32.le_iff_toInt_le] at h2 ⊢
  rw [Int32.le_iff_toInt_le] at q
  have e : (nI 30).toInt = (30 : Int32).toInt := rfl
  omega))
theorem pz_cnt {a : Int32} (h1 : ¬ a ≤ 10) (h2 : ¬ 16 < a) : vp_in (a - 10) 7 := by
  have e10 : (10 : Int32).toInt = 10 := rfl
  have e16 : (16 : Int32).toInt = 16 := rfl
  rw [Int32.le_iff_toInt_le, e10] at h1
  rw [Int32.lt_iff_toInt_lt, e16] at h2
  obtain ⟨j, hj, rfl⟩ : ∃ j : Nat, j < 2 ^ 31 ∧ a = nI j := nI_of (by rw [Int32.lt_iff_toInt_lt, Int32.toInt_zero]; omega)
  rw [nI_toInt hj] at h1 h2
  have e : nI j - 10 = nI (j - 10) := pk_sub (a := j) (b := 10) (by omega)
  rw [e]
  exact vp_in_nI (by omega) (by decide)
theorem pz_notfull {g : pz_M} {ph : Nat → Option Nat} (hw : pz_W g ph) (h : f_X1_isFull g ph = 0) : vp_in (g 2 3) 6 := by
  obtain ⟨d, h6, hd, hs⟩ := hw
  unfold f_X1_isFull at h
  by_cases h1 : g 2 3 < 6
  · rw [hd] at h1 ⊢
    have : d < 6 := (nI_ltI (by omega) (by decide)).mp (h1 : nI d < nI 6)
    exact vp_in_nI this (by decide)
  · rw [if_neg h1] at h
    exact absurd h (by decide)
theorem pz_here8 {g : pz_M} {ph : Nat → Option Nat} {k : Nat} (hw : pz_W g ph) (h : some k = f_X1_here g ph) : k < 8 := by
  unfold f_X1_here at h
  by_cases h1 : g 2 3 < 1
  · rw [if_pos h1] at h; cases h
  · rw [if_neg h1] at h
    rw [Option.some.inj h]
    exact (pz_W1 hw h1).2.2
theorem pz_around8 {g : pz_M} {ph : Nat → Option Nat} {k : Nat} (hw : pz_W g ph) (h : some k = f_X1_around g ph) : k < 8 := by
  unfold f_X1_around at h
  by_cases h1 : g 2 3 < 2
  · rw [if_pos h1] at h; cases h
  · rw [if_neg h1] at h
    rw [Option.some.inj h]
    exact (pz_W2 hw h1).2.2
theorem pz_again {g : pz_M} {ph : Nat → Option Nat} (hw : pz_W g ph) (h : ¬ g 2 3 = 0) : vp_in (g 2 3 - 1) 6 := by
  obtain ⟨d, h6, hd, hs⟩ := hw
  refine (pz_W1 ⟨d, h6, hd, hs⟩ (fun q => h ?_)).1
  rw [hd] at q ⊢
  have : d < 1 := (nI_ltI (by omega) (by decide)).mp (q : nI d < nI 1)
  have : d = 0 := by omega
  subst this
  exact nI_0
theorem pz_Wof {g g2 : pz_M} {ph : Nat → Option Nat} (hw : pz_W g ph) (h : g2 2 3 = g 2 3) : pz_W g2 ph := by
  obtain ⟨d, h6, hd, hs⟩ := hw
  exact ⟨d, h6, h.trans hd, hs⟩
theorem pz_lbr01 {g : pz_M} {ph : Nat → Option Nat} : (f_X1_leaveByRefuge g ph).1 = 0 ∨ (f_X1_leaveByRefuge g ph).1 = 1 := by
  have key : ∀ (n : Nat) (i : Int32), (f_lbr g ph n i).1 = 0 ∨ (f_lbr g ph n i).1 = 1 := by
    intro n
    induction n with
    | zero => intro i; exact Or.inl rfl
    | succ n ih =>
      intro i
      unfold f_lbr
      by_cases h1 : i < 0
      · rw [if_pos h1]; exact Or.inl rfl
      · rw [if_neg h1]
        by_cases h2 : g (10 + pz_h ph i.toNatClampNeg) 3 = 0
        · rw [if_pos h2]; exact ih _
        · rw [if_neg h2]; exact Or.inr rfl
  exact key 8 _
/-- the remainder: its size and its sign -/
theorem pz_rem (a : Int32) {n : Nat} (h0 : 1 < n) (hn : n < 2 ^ 30) : -(n : Int) < (a - a / nI n * nI n).toInt ∧ (a - a / nI n * nI n).toInt < n ∧ (a.toInt < 0 → (a - a / nI n * nI n).toInt ≤ 0) ∧ (0 ≤ a.toInt → 0 ≤ (a - a / nI n * nI n).toInt) := by
  have hb := nI_toInt (n := n) (by omega)
  have ha1 := Int32.le_toInt a
  have ha2 := Int32.toInt_lt a
  obtain ⟨q, hq, hq1⟩ : ∃ q : Int, a.toInt.tdiv n = q ∧ ((0 ≤ a.toInt ∧ 0 ≤ q ∧ n * q ≤ a.toInt ∧ a.toInt < n * q + n) ∨ (a.toInt < 0 ∧ q ≤ 0 ∧ a.toInt ≤ n * q ∧ n * q - n < a.toInt)) := by
    refine ⟨_, rfl, ?_⟩
    rcases Int.lt_or_le a.toInt 0 with hs | hs
    · right
      have e1 : a.toInt.tdiv n = -((-a.toInt) / n) := by
        have : a.toInt = -(-a.toInt) := by omega
        rw [this, Int.neg_tdiv, Int.tdiv_eq_ediv_of_nonneg (by omega)]
        simp
      have l1 := Int.mul_ediv_self_le (x := -a.toInt) (k := n) (by omega)
      have l2 := Int.lt_mul_ediv_self_add (x := -a.toInt) (k := n) (by omega)
      have l3 : 0 ≤ (-a.toInt) / (n : Int) := Int.ediv_nonneg (by omega) (by omega)
      rw [e1, Int.mul_neg]
      refine ⟨hs, by omega, by omega, by omega⟩
    · left
      rw [Int.tdiv_eq_ediv_of_nonneg hs]
      exact ⟨hs, Int.ediv_nonneg hs (by omega), Int.mul_ediv_self_le (by omega), Int.lt_mul_ediv_self_add (by omega)⟩
  have hq2 : -(2 ^ 31 : Int) ≤ n * q ∧ n * q < 2 ^ 31 := by
    rcases hq1 with ⟨h1, h2, h3, h4⟩ | ⟨h1, h2, h3, h4⟩
    · have : 0 ≤ (n : Int) * q := Int.mul_nonneg (by omega) h2
      omega
    · have : (n : Int) * q ≤ 0 := Int.mul_nonpos_of_nonneg_of_nonpos (by omega) h2
      omega
  have hq3 : -(2 ^ 31 : Int) ≤ q ∧ q < 2 ^ 31 := by
    rcases hq1 with ⟨h1, h2, h3, h4⟩ | ⟨h1, h2, h3, h4⟩
    · have : q * 1 ≤ q * n := Int.mul_le_mul_of_nonneg_left (by omega) h2
      rw [Int.mul_comm q n] at this
      omega
    · have : q * n ≤ q * 1 := Int.mul_le_mul_of_nonpos_left h2 (by omega)
      rw [Int.mul_comm q n] at this
      omega
  have e1 : (a / nI n).toInt = q := by
    rw [Int32.toInt_div, hb, hq]
    exact Int.bmod_eq_of_le (by omega) (by omega)
  have e2 : (a / nI n * nI n).toInt = n * q := by
    rw [Int32.toInt_mul, e1, hb, Int.mul_comm]
    exact Int.bmod_eq_of_le (by omega) (by omega)
  have e3 : (a - a / nI n * nI n).toInt = a.toInt - n * q := by
    rw [Int32.toInt_sub, e2]
    refine Int.bmod_eq_of_le ?_ ?_
    · rcases hq1 with ⟨h1, h2, h3, h4⟩ | ⟨h1, h2, h3, h4⟩ <;> omega
    · rcases hq1 with ⟨h1, h2, h3, h4⟩ | ⟨h1, h2, h3, h4⟩ <;> omega
  rw [e3]
  rcases hq1 with ⟨h1, h2, h3, h4⟩ | ⟨h1, h2, h3, h4⟩ <;> refine ⟨by omega, by omega, fun _ => by omega, fun _ => by omega⟩
/-- floorMod's sign test -/
theorem pz_xor (a : Int32) {n : Nat} (hn : n < 2 ^ 31) : 0 ≤ (a ^^^ nI n) ↔ 0 ≤ a.toInt := by
  have h1 : (nI n).toBitVec.msb = false := by
    rw [BitVec.msb_eq_toInt]
    have : (nI n).toBitVec.toInt = n := nI_toInt hn
    rw [this]
    simp
  have h2 : (a ^^^ nI n).toBitVec.msb = a.toBitVec.msb := by
    rw [Int32.toBitVec_xor, BitVec.msb_xor, h1, Bool.xor_false]
  rw [BitVec.msb_eq_toInt, BitVec.msb_eq_toInt] at h2
  have h3 : ((a ^^^ nI n).toInt < 0) ↔ (a.toInt < 0) := decide_eq_decide.mp h2
  rw [Int32.le_iff_toInt_le, Int32.toInt_zero]
  omega
theorem pz_fm (a : Int32) {n : Nat} (h0 : 1 < n) (hn : n < 2 ^ 30) : ∃ j : Nat, j < n ∧ f_J9_floorMod_7cf53 a (nI n) = nI j := by
  obtain ⟨r1, r2, r3, r4⟩ := pz_rem a h0 hn
  unfold f_J9_floorMod_7cf53
  by_cases hs : 0 ≤ (a ^^^ nI n)
  · rw [if_pos hs]
    have hs := (pz_xor a (by omega)).mp hs
    obtain ⟨j, hj, e⟩ := nI_of (x := a - a / nI n * nI n) (by rw [Int32.lt_iff_toInt_lt, Int32.toInt_zero]; have := r4 hs; omega)
    refine ⟨j, ?_, e⟩
    rw [e, nI_toInt hj] at r2
    omega
  · rw [if_neg hs]
    have hs : a.toInt < 0 := Int.not_le.mp (fun q => hs ((pz_xor a (by omega)).mpr q))
    by_cases hz : a - a / nI n * nI n = 0
    · rw [if_pos hz]; exact ⟨0, by omega, hz⟩
    · rw [if_neg hz]
      have hz1 : ¬ (a - a / nI n * nI n).toInt = 0 := fun q => hz (Int32.toInt_inj.mp (by rw [q]; rfl))
      have r5 := r3 hs
      have e : ((a - a / nI n * nI n) + nI n).toInt = (a - a / nI n * nI n).toInt + n := by
        rw [Int32.toInt_add, nI_toInt (by omega)]
        exact Int.bmod_eq_of_le (by omega) (by omega)
      obtain ⟨j, hj, e2⟩ := nI_of (x := (a - a / nI n * nI n) + nI n) (by rw [Int32.lt_iff_toInt_lt, Int32.toInt_zero, e]; omega)
      refine ⟨j, ?_, e2⟩
      rw [e2, nI_toInt hj] at e
      omega
end
section
theorem inX2_build_X0 : ∀ w ∈ u_ws RX0 TX0 8, w ∈ wsX2_build := by decide +kernel
theorem inX2_build_X2 : ∀ w ∈ u_ws RX2 TX2 14, w ∈ wsX2_build := by decide +kernel
def f_X2_build (g : pz_M) (ph : Nat → Option Nat) (a : Int32) (b : Int32) (z : Int32) : Int32 × pz_M × (Nat → Option Nat) :=
  let r_1 := f_X2_isPlace a
  if r_1 = 0 then
    ((-1), g, ph)
  else
    if b < 1 then
      ((-1), g, ph)
    else
      if b ≤ 100 then
        if (g (10 + a.toNatClampNeg) 0) = 0 then
          let g_4 := (f_X0_setUp g ph a.toNatClampNeg b z).1
          let ph_5 := (f_X0_setUp g ph a.toNatClampNeg b z).2
          (0, g_4, ph_5)
        else
          let g_8 := (f_X0_setUp g ph a.toNatClampNeg b z).1
          let ph_9 := (f_X0_setUp g ph a.toNatClampNeg b z).2
          (1, g_8, ph_9)
      else
        ((-1), g, ph)
set_option maxHeartbeats 4000000 in
set_option maxRecDepth 100000 in
theorem c_X2_build {l : Launch} {dC : Nat → ClassId} {dI : Nat → Nat → Nat} {cl : Nat → ClassId} {ad : Nat → Nat} {ph : Nat → Option Nat} {o : Nat → Int64} {g h : pz_M} (a : Int32) (b : Int32) (z : Int32) (hz : z = 0 ∨ z = 1) : pz_Mi l dC dI cl yX2_build wsX2_build { frames := 1, cells := 0, slots := 0, locals := 22 } [.ref (ad 0), .int a, .int b, .int z] (pz_wd ad cl ph o g h) (fun u : pz_M × (Nat → Option Nat) => pz_wd ad cl u.2 o u.1 h) (fun r u => r = (f_X2_build g ph a b z).1 ∧ u = (f_X2_build g ph a b z).2) := by
  intro sz
  refine pr_ofW (Qc := pz_Qi dC dI _ _) (cb := cX2_build) (maxL := 5) (ret := (some .int)) (by decide) rfl (Nat.le_of_ble_eq_true rfl) ?_
  intro p e s m below meth c A ls hx hb hml hr hlocks hts hown hK hP hD hS hA hl
  have hl : lv_has ls 5 [(0, .ref (ad 0)), (1, .int a), (2, .int b), (3, .int z)] := hl
  refine lv_iload_n hx hb dX2_build_0 rfl (lv_at hl 1 rfl) ?_
  refine pr_Si (As := [.int a]) (rest := []) ⟨hx, hb, hml, hown, hts⟩ (c_X2_isPlace a) (va_cwS 1 hts gX2_build_X2_isPlace rfl rfl rfl (by decide +kernel) ⟨Nat.le_of_ble_eq_true rfl, Nat.le_of_ble_eq_true rfl⟩) hK hP hD hS hA rfl hl.1 rfl (Nat.le_of_ble_eq_true rfl) ⟨Nat.le_of_ble_eq_true rfl, Nat.le_of_ble_eq_true rfl⟩ dX2_build_1 (fun r_1 _ H locs e_r_1 hP hD hS => ?_)
  refine lv_if_eq (tgt := 18) hx hb dX2_build_4 (by decide) (fun c_4 => ?_) (fun c_4 => ?_)
  · refine lv_iconst (v := (-1)) hx hb dX2_build_18 (by decide) ?_
    exact pr_iret (g, ph) hx hb hr hlocks hP hD hS dX2_build_19 (by subst e_r_1; refine ⟨?_, ?_⟩ <;> (simp only [f_X2_build, if_pos c_4] <;> rfl))
  · refine lv_iload_n hx hb dX2_build_7 rfl (lv_at hl 2 rfl) ?_
    refine lv_iconst (v := 1) hx hb dX2_build_8 (by decide) ?_
    refine lv_icmp_lt (tgt := 18) hx hb dX2_build_9 (by decide) (fun c_9 => ?_) (fun c_9 => ?_)
    · refine lv_iconst (v := (-1)) hx hb dX2_build_18 (by decide) ?_
      exact pr_iret (g, ph) hx hb hr hlocks hP hD hS dX2_build_19 (by subst e_r_1; refine ⟨?_, ?_⟩ <;> (simp only [f_X2_build, if_neg c_4, if_pos c_9] <;> rfl))
    · refine lv_iload_n hx hb dX2_build_12 rfl (lv_at hl 2 rfl) ?_
      refine lv_bipush (v := 100) hx hb dX2_build_13 (by decide) ?_
      refine lv_icmp_le (tgt := 20) hx hb dX2_build_15 (by decide) (fun c_15 => ?_) (fun c_15 => ?_)
      · have i1 : vp_in a 8 := pz_place (by rw [← e_r_1]; exact c_4)
        refine lv_aload_n hx hb dX2_build_20 rfl (lv_at hl 0 rfl) ?_
        refine va_get (D := (dC, dI)) (ci := 4) (C := RX2) (T := TX2) (N := 14) hx hb hts inX2_build_X2 hown hK.1 hP 0 pz_a0 rfl 0 (by decide) (hts (.fieldLink RX2 11 "PowderMill" "places" "[LPowderMill$House;") (by decide +kernel)) (fun _ h9 => h9) rfl dX2_build_21 ?_
        refine lv_iload_n hx hb dX2_build_24 rfl (lv_at hl 1 rfl) ?_
        refine pr_places hx hb hK.1 hP i1 dX2_build_25 ?_
        refine va_getN (D := (dC, dI)) (ci := 2) (C := RX0) (T := TX0) (N := 8) hx hb hts inX2_build_X0 hown hK.1 hP (10 + a.toNatClampNeg) (pz_aH (pz_lt8 i1)) rfl 0 (by decide) (va_Nw.use rfl hK.2.2.1) (fun _ h9 => h9) rfl dX2_build_26 ?_
        refine lv_if_eq (tgt := 36) hx hb dX2_build_29 (by decide) (fun c_29 => ?_) (fun c_29 => ?_)
        · refine lv_iconst (v := 0) hx hb dX2_build_36 (by decide) ?_
          refine lv_istore (lv' := [(4, .int 0), (0, .ref (ad 0)), (1, .int a), (2, .int b), (3, .int z)]) hx hb dX2_build_37 hl (by decide) rfl (fun ls hl => ?_)
          refine lv_aload_n hx hb dX2_build_39 rfl (lv_at hl 1 rfl) ?_
          refine va_get (D := (dC, dI)) (ci := 4) (C := RX2) (T := TX2) (N := 14) hx hb hts inX2_build_X2 hown hK.1 hP 0 pz_a0 rfl 0 (by decide) (hts (.fieldLink RX2 11 "PowderMill" "places" "[LPowderMill$House;") (by decide +kernel)) (fun _ h9 => h9) rfl dX2_build_40 ?_
          refine lv_iload_n hx hb dX2_build_43 rfl (lv_at hl 2 rfl) ?_
          refine pr_places hx hb hK.1 hP i1 dX2_build_44 ?_
          refine lv_iload_n hx hb dX2_build_45 rfl (lv_at hl 3 rfl) ?_
          refine lv_iload_n hx hb dX2_build_46 rfl (lv_at hl 4 rfl) ?_
          refine pr_Vv (As := [.int b, .int z]) (rest := []) ⟨hx, hb, hml, hown, hts⟩ (c_X0_setUp a.toNatClampNeg b z (pz_lt8 i1) hz) (cwV 2 hts gX2_build_X0_setUp rfl rfl rfl (by decide +kernel) ⟨Nat.le_of_ble_eq_true rfl, Nat.le_of_ble_eq_true rfl⟩) (va_recv hK.1 hP (ci := 2) rfl (pz_aH (pz_lt8 i1))) hK hP hD hS hA rfl hl.1 rfl (Nat.le_of_ble_eq_true rfl) ⟨Nat.le_of_ble_eq_true rfl, Nat.le_of_ble_eq_true rfl⟩ dX2_build_47 (fun ⟨g_4, ph_5⟩ H locs e_q_3 hP hD hS => ?_)
          obtain ⟨e_g_4, e_ph_5⟩ : g_4 = (f_X0_setUp g ph a.toNatClampNeg b z).1 ∧ ph_5 = (f_X0_setUp g ph a.toNatClampNeg b z).2 := ⟨congrArg Prod.fst e_q_3, congrArg Prod.snd e_q_3⟩
          clear e_q_3
          dsimp only at hP hD
          refine lv_iload hx hb dX2_build_50 (lv_at hl 0 rfl) ?_
          exact pr_iret (g_4, ph_5) hx hb hr hlocks hP hD hS dX2_build_52 (by subst e_ph_5 e_g_4 e_r_1; refine ⟨?_, ?_⟩ <;> (simp only [f_X2_build, if_neg c_4, if_neg c_9, if_pos c_15, if_pos c_29] <;> rfl))
        · refine lv_iconst (v := 1) hx hb dX2_build_32 (by decide) ?_
          refine lv_goto (tgt := 37) hx hb dX2_build_33 (by decide) ?_
          refine lv_istore (lv' := [(4, .int 1), (0, .ref (ad 0)), (1, .int a), (2, .int b), (3, .int z)]) hx hb dX2_build_37 hl (by decide) rfl (fun ls hl => ?_)
          refine lv_aload_n hx hb dX2_build_39 rfl (lv_at hl 1 rfl) ?_
          refine va_get (D := (dC, dI)) (ci := 4) (C := RX2) (T := TX2) (N := 14) hx hb hts inX2_build_X2 hown hK.1 hP 0 pz_a0 rfl 0 (by decide) (hts (.fieldLink RX2 11 "PowderMill" "places" "[LPowderMill$House;") (by decide +kernel)) (fun _ h9 => h9) rfl dX2_build_40 ?_
          refine lv_iload_n hx hb dX2_build_43 rfl (lv_at hl 2 rfl) ?_
          refine pr_places hx hb hK.1 hP i1 dX2_build_44 ?_
          refine lv_iload_n hx hb dX2_build_45 rfl (lv_at hl 3 rfl) ?_
          refine lv_iload_n hx hb dX2_build_46 rfl (lv_at hl 4 rfl) ?_
          refine pr_Vv (As := [.int b, .int z]) (rest := []) ⟨hx, hb, hml, hown, hts⟩ (c_X0_setUp a.toNatClampNeg b z (pz_lt8 i1) hz) (cwV 2 hts gX2_build_X0_setUp rfl rfl rfl (by decide +kernel) ⟨Nat.le_of_ble_eq_true rfl, Nat.le_of_ble_eq_true rfl⟩) (va_recv hK.1 hP (ci := 2) rfl (pz_aH (pz_lt8 i1))) hK hP hD hS hA rfl hl.1 rfl (Nat.le_of_ble_eq_true rfl) ⟨Nat.le_of_ble_eq_true rfl, Nat.le_of_ble_eq_true rfl⟩ dX2_build_47 (fun ⟨g_8, ph_9⟩ H locs e_q_7 hP hD hS => ?_)
          obtain ⟨e_g_8, e_ph_9⟩ : g_8 = (f_X0_setUp g ph a.toNatClampNeg b z).1 ∧ ph_9 = (f_X0_setUp g ph a.toNatClampNeg b z).2 := ⟨congrArg Prod.fst e_q_7, congrArg Prod.snd e_q_7⟩
          clear e_q_7
          dsimp only at hP hD
          refine lv_iload hx hb dX2_build_50 (lv_at hl 0 rfl) ?_
          exact pr_iret (g_8, ph_9) hx hb hr hlocks hP hD hS dX2_build_52 (by subst e_ph_9 e_g_8 e_r_1; refine ⟨?_, ?_⟩ <;> (simp only [f_X2_build, if_neg c_4, if_neg c_9, if_pos c_15, if_neg c_29] <;> rfl))
      · refine lv_iconst (v := (-1)) hx hb dX2_build_18 (by decide) ?_
        exact pr_iret (g, ph) hx hb hr hlocks hP hD hS dX2_build_19 (by subst e_r_1; refine ⟨?_, ?_⟩ <;> (simp only [f_X2_build, if_neg c_4, if_neg c_9, if_neg c_15] <;> rfl))
theorem inX2_raze_X0 : ∀ w ∈ u_ws RX0 TX0 8, w ∈ wsX2_raze := by decide +kernel
theorem inX2_raze_X2 : ∀ w ∈ u_ws RX2 TX2 14, w ∈ wsX2_raze := by decide +kernel
def f_X2_raze (g : pz_M) (ph : Nat → Option Nat) (a : Int32) : Int32 × pz_M × (Nat → Option Nat) :=
  let r_1 := f_X2_isPlace a
  if r_1 = 0 then
    ((-1), g, ph)
  else
    if (g (10 + a.toNatClampNeg) 0) = 0 then
      let g_2 := pz_st g (10 + a.toNatClampNeg) 0 0
      (0, g_2, ph)
    else
      let g_3 := pz_st g (10 + a.toNatClampNeg) 0 0
      (1, g_3, ph)
set_option maxHeartbeats 4000000 in
set_option maxRecDepth 100000 in
theorem c_X2_raze {l : Launch} {dC : Nat → ClassId} {dI : Nat → Nat → Nat} {cl : Nat → ClassId} {ad : Nat → Nat} {ph : Nat → Option Nat} {o : Nat → Int64} {g h : pz_M} (a : Int32) : pz_Mi l dC dI cl yX2_raze wsX2_raze { frames := 1, cells := 0, slots := 0, locals := 20 } [.ref (ad 0), .int a] (pz_wd ad cl ph o g h) (fun u : pz_M × (Nat → Option Nat) => pz_wd ad cl u.2 o u.1 h) (fun r u => r = (f_X2_raze g ph a).1 ∧ u = (f_X2_raze g ph a).2) := by
  intro sz
  refine pr_ofW (Qc := pz_Qi dC dI _ _) (cb := cX2_raze) (maxL := 3) (ret := (some .int)) (by decide) rfl (Nat.le_of_ble_eq_true rfl) ?_
  intro p e s m below meth c A ls hx hb hml hr hlocks hts hown hK hP hD hS hA hl
  have hl : lv_has ls 3 [(0, .ref (ad 0)), (1, .int a)] := hl
  refine lv_iload_n hx hb dX2_raze_0 rfl (lv_at hl 1 rfl) ?_
  refine pr_Si (As := [.int a]) (rest := []) ⟨hx, hb, hml, hown, hts⟩ (c_X2_isPlace a) (va_cwS 1 hts gX2_raze_X2_isPlace rfl rfl rfl (by decide +kernel) ⟨Nat.le_of_ble_eq_true rfl, Nat.le_of_ble_eq_true rfl⟩) hK hP hD hS hA rfl hl.1 rfl (Nat.le_of_ble_eq_true rfl) ⟨Nat.le_of_ble_eq_true rfl, Nat.le_of_ble_eq_true rfl⟩ dX2_raze_1 (fun r_1 _ H locs e_r_1 hP hD hS => ?_)
  refine lv_if_ne (tgt := 9) hx hb dX2_raze_4 (by decide) (fun c_4 => ?_) (fun c_4 => ?_)
  · have i1 : vp_in a 8 := pz_place (by rw [← e_r_1]; exact c_4)
    refine lv_aload_n hx hb dX2_raze_9 rfl (lv_at hl 0 rfl) ?_
    refine va_get (D := (dC, dI)) (ci := 4) (C := RX2) (T := TX2) (N := 14) hx hb hts inX2_raze_X2 hown hK.1 hP 0 pz_a0 rfl 0 (by decide) (hts (.fieldLink RX2 11 "PowderMill" "places" "[LPowderMill$House;") (by decide +kernel)) (fun _ h9 => h9) rfl dX2_raze_10 ?_
    refine lv_iload_n hx hb dX2_raze_13 rfl (lv_at hl 1 rfl) ?_
    refine pr_places hx hb hK.1 hP i1 dX2_raze_14 ?_
    refine va_getN (D := (dC, dI)) (ci := 2) (C := RX0) (T := TX0) (N := 8) hx hb hts inX2_raze_X0 hown hK.1 hP (10 + a.toNatClampNeg) (pz_aH (pz_lt8 i1)) rfl 0 (by decide) (va_Nw.use rfl hK.2.2.1) (fun _ h9 => h9) rfl dX2_raze_15 ?_
    refine lv_if_eq (tgt := 25) hx hb dX2_raze_18 (by decide) (fun c_18 => ?_) (fun c_18 => ?_)
    · refine lv_iconst (v := 0) hx hb dX2_raze_25 (by decide) ?_
      refine lv_istore_n (lv' := [(2, .int 0), (0, .ref (ad 0)), (1, .int a)]) hx hb dX2_raze_26 rfl hl (by decide) rfl (fun ls hl => ?_)
      refine lv_aload_n hx hb dX2_raze_27 rfl (lv_at hl 1 rfl) ?_
      refine va_get (D := (dC, dI)) (ci := 4) (C := RX2) (T := TX2) (N := 14) hx hb hts inX2_raze_X2 hown hK.1 hP 0 pz_a0 rfl 0 (by decide) (hts (.fieldLink RX2 11 "PowderMill" "places" "[LPowderMill$House;") (by decide +kernel)) (fun _ h9 => h9) rfl dX2_raze_28 ?_
      refine lv_iload_n hx hb dX2_raze_31 rfl (lv_at hl 2 rfl) ?_
      refine pr_places hx hb hK.1 hP i1 dX2_raze_32 ?_
      refine lv_iconst (v := 0) hx hb dX2_raze_33 (by decide) ?_
      refine pr_putN (ci := 2) (C := RX0) (T := TX0) (N := 8) (ty := .boolean) (v := 0) hx hb hts inX2_raze_X0 tyX0 tyX0_ok nmX0 hown hK.1 hP hD hS (10 + a.toNatClampNeg) (by have := (pz_lt8 i1); omega) (pz_aH (pz_lt8 i1)) rfl 0 (by decide) (va_Nw.use rfl hK.2.2.1) (fun _ h9 => h9) rfl (by decide +kernel) rfl rfl (Nat.le_of_ble_eq_true rfl) (by rw [pz_ceH (pz_lt8 i1)]; rfl) dX2_raze_34 (fun g_2 H locs e_g_2 hP hD hS => ?_)
      refine lv_iload_n hx hb dX2_raze_37 rfl (lv_at hl 0 rfl) ?_
      exact pr_iret (g_2, ph) hx hb hr hlocks hP hD hS dX2_raze_38 (by subst e_g_2 e_r_1; refine ⟨?_, ?_⟩ <;> (simp only [f_X2_raze, if_neg c_4, if_pos c_18] <;> rfl))
    · refine lv_iconst (v := 1) hx hb dX2_raze_21 (by decide) ?_
      refine lv_goto (tgt := 26) hx hb dX2_raze_22 (by decide) ?_
      refine lv_istore_n (lv' := [(2, .int 1), (0, .ref (ad 0)), (1, .int a)]) hx hb dX2_raze_26 rfl hl (by decide) rfl (fun ls hl => ?_)
      refine lv_aload_n hx hb dX2_raze_27 rfl (lv_at hl 1 rfl) ?_
      refine va_get (D := (dC, dI)) (ci := 4) (C := RX2) (T := TX2) (N := 14) hx hb hts inX2_raze_X2 hown hK.1 hP 0 pz_a0 rfl 0 (by decide) (hts (.fieldLink RX2 11 "PowderMill" "places" "[LPowderMill$House;") (by decide +kernel)) (fun _ h9 => h9) rfl dX2_raze_28 ?_
      refine lv_iload_n hx hb dX2_raze_31 rfl (lv_at hl 2 rfl) ?_
      refine pr_places hx hb hK.1 hP i1 dX2_raze_32 ?_
      refine lv_iconst (v := 0) hx hb dX2_raze_33 (by decide) ?_
      refine pr_putN (ci := 2) (C := RX0) (T := TX0) (N := 8) (ty := .boolean) (v := 0) hx hb hts inX2_raze_X0 tyX0 tyX0_ok nmX0 hown hK.1 hP hD hS (10 + a.toNatClampNeg) (by have := (pz_lt8 i1); omega) (pz_aH (pz_lt8 i1)) rfl 0 (by decide) (va_Nw.use rfl hK.2.2.1) (fun _ h9 => h9) rfl (by decide +kernel) rfl rfl (Nat.le_of_ble_eq_true rfl) (by rw [pz_ceH (pz_lt8 i1)]; rfl) dX2_raze_34 (fun g_3 H locs e_g_3 hP hD hS => ?_)
      refine lv_iload_n hx hb dX2_raze_37 rfl (lv_at hl 0 rfl) ?_
      exact pr_iret (g_3, ph) hx hb hr hlocks hP hD hS dX2_raze_38 (by subst e_g_3 e_r_1; refine ⟨?_, ?_⟩ <;> (simp only [f_X2_raze, if_neg c_4, if_neg c_18] <;> rfl))
  · refine lv_iconst (v := (-1)) hx hb dX2_raze_7 (by decide) ?_
    exact pr_iret (g, ph) hx hb hr hlocks hP hD hS dX2_raze_8 (by subst e_r_1; refine ⟨?_, ?_⟩ <;> (simp only [f_X2_raze, if_pos c_4] <;> rfl))
theorem inX2_step_X2 : ∀ w ∈ u_ws RX2 TX2 14, w ∈ wsX2_step := by decide +kernel
def f_X2_step (g : pz_M) (ph : Nat → Option Nat) (a : Int32) (b : Int32) : Int32 × pz_M × (Nat → Option Nat) :=
  let r_1 := f_X2_isAct a
  if r_1 = 0 then
    ((-1), g, ph)
  else
    if (g 0 5) < 30 then
      let g_2 := pz_st g 4 (g 0 5).toNatClampNeg a
      let g_3 := pz_st g_2 5 (g_2 0 5).toNatClampNeg b
      let g_4 := pz_st g_3 0 5 ((g_3 0 5) + 1)
      (g_4 0 5, g_4, ph)
    else
      ((-2), g, ph)
set_option maxHeartbeats 4000000 in
set_option maxRecDepth 100000 in
theorem c_X2_step {l : Launch} {dC : Nat → ClassId} {dI : Nat → Nat → Nat} {cl : Nat → ClassId} {ad : Nat → Nat} {ph : Nat → Option Nat} {o : Nat → Int64} {g h : pz_M} (a : Int32) (b : Int32) (h0 : ¬ g 0 5 < 0) : pz_Mi l dC dI cl yX2_step wsX2_step { frames := 1, cells := 0, slots := 0, locals := 20 } [.ref (ad 0), .int a, .int b] (pz_wd ad cl ph o g h) (fun u : pz_M × (Nat → Option Nat) => pz_wd ad cl u.2 o u.1 h) (fun r u => r = (f_X2_step g ph a b).1 ∧ u = (f_X2_step g ph a b).2) := by
  intro sz
  refine pr_ofW (Qc := pz_Qi dC dI _ _) (cb := cX2_step) (maxL := 3) (ret := (some .int)) (by decide) rfl (Nat.le_of_ble_eq_true rfl) ?_
  intro p e s m below meth c A ls hx hb hml hr hlocks hts hown hK hP hD hS hA hl
  have hl : lv_has ls 3 [(0, .ref (ad 0)), (1, .int a), (2, .int b)] := hl
  refine lv_iload_n hx hb dX2_step_0 rfl (lv_at hl 1 rfl) ?_
  refine pr_Si (As := [.int a]) (rest := []) ⟨hx, hb, hml, hown, hts⟩ (c_X2_isAct a) (va_cwS 1 hts gX2_step_X2_isAct rfl rfl rfl (by decide +kernel) ⟨Nat.le_of_ble_eq_true rfl, Nat.le_of_ble_eq_true rfl⟩) hK hP hD hS hA rfl hl.1 rfl (Nat.le_of_ble_eq_true rfl) ⟨Nat.le_of_ble_eq_true rfl, Nat.le_of_ble_eq_true rfl⟩ dX2_step_1 (fun r_1 _ H locs e_r_1 hP hD hS => ?_)
  refine lv_if_ne (tgt := 9) hx hb dX2_step_4 (by decide) (fun c_4 => ?_) (fun c_4 => ?_)
  · refine lv_aload_n hx hb dX2_step_9 rfl (lv_at hl 0 rfl) ?_
    refine va_get (D := (dC, dI)) (ci := 4) (C := RX2) (T := TX2) (N := 14) hx hb hts inX2_step_X2 hown hK.1 hP 0 pz_a0 rfl 5 (by decide) (hts (.fieldLink RX2 32 "PowderMill" "stepCount" "I") (by decide +kernel)) (fun _ h9 => h9) rfl dX2_step_10 ?_
    refine lv_bipush (v := 30) hx hb dX2_step_13 (by decide) ?_
    refine lv_icmp_lt (tgt := 21) hx hb dX2_step_15 (by decide) (fun c_15 => ?_) (fun c_15 => ?_)
    · have i1 : vp_in (g 0 5) 30 := pz_lt_in (by decide) h0 c_15
      refine lv_aload_n hx hb dX2_step_21 rfl (lv_at hl 0 rfl) ?_
      refine va_get (D := (dC, dI)) (ci := 4) (C := RX2) (T := TX2) (N := 14) hx hb hts inX2_step_X2 hown hK.1 hP 0 pz_a0 rfl 3 (by decide) (hts (.fieldLink RX2 26 "PowderMill" "acts" "[I") (by decide +kernel)) (fun _ h9 => h9) rfl dX2_step_22 ?_
      refine lv_aload_n hx hb dX2_step_25 rfl (lv_at hl 0 rfl) ?_
      refine va_get (D := (dC, dI)) (ci := 4) (C := RX2) (T := TX2) (N := 14) hx hb hts inX2_step_X2 hown hK.1 hP 0 pz_a0 rfl 5 (by decide) (hts (.fieldLink RX2 32 "PowderMill" "stepCount" "I") (by decide +kernel)) (fun _ h9 => h9) rfl dX2_step_26 ?_
      refine lv_iload_n hx hb dX2_step_29 rfl (lv_at hl 1 rfl) ?_
      refine pr_iastC hx hb hK.1 hP hD hS 4 (by omega) pz_a4 (fun _ => rfl) i1 dX2_step_30 (fun g_2 H locs e_g_2 hP hD hS => ?_)
      refine lv_aload_n hx hb dX2_step_31 rfl (lv_at hl 0 rfl) ?_
      refine va_get (D := (dC, dI)) (ci := 4) (C := RX2) (T := TX2) (N := 14) hx hb hts inX2_step_X2 hown hK.1 hP 0 pz_a0 rfl 4 (by decide) (hts (.fieldLink RX2 29 "PowderMill" "numbers" "[I") (by decide +kernel)) (fun _ h9 => h9) rfl dX2_step_32 ?_
      refine lv_aload_n hx hb dX2_step_35 rfl (lv_at hl 0 rfl) ?_
      refine va_get (D := (dC, dI)) (ci := 4) (C := RX2) (T := TX2) (N := 14) hx hb hts inX2_step_X2 hown hK.1 hP 0 pz_a0 rfl 5 (by decide) (hts (.fieldLink RX2 32 "PowderMill" "stepCount" "I") (by decide +kernel)) (fun _ h9 => h9) rfl dX2_step_36 ?_
      refine lv_iload_n hx hb dX2_step_39 rfl (lv_at hl 2 rfl) ?_
      refine pr_iastC hx hb hK.1 hP hD hS 5 (by omega) pz_a5 (fun _ => rfl) (by subst e_g_2; rw [pz_st_n (by decide)]; exact i1) dX2_step_40 (fun g_3 H locs e_g_3 hP hD hS => ?_)
      refine lv_aload_n hx hb dX2_step_41 rfl (lv_at hl 0 rfl) ?_
      refine lv_dup hx hb dX2_step_42 rfl ?_
      refine va_get (D := (dC, dI)) (ci := 4) (C := RX2) (T := TX2) (N := 14) hx hb hts inX2_step_X2 hown hK.1 hP 0 pz_a0 rfl 5 (by decide) (hts (.fieldLink RX2 32 "PowderMill" "stepCount" "I") (by decide +kernel)) (fun _ h9 => h9) rfl dX2_step_43 ?_
      refine lv_iconst (v := 1) hx hb dX2_step_46 (by decide) ?_
      refine lv_iadd hx hb dX2_step_47 ?_
      refine pr_putC (ci := 4) (C := RX2) (T := TX2) (N := 14) (ty := .int) (v := ((g_3 0 5) + 1)) hx hb hts inX2_step_X2 tyX2 tyX2_ok nmX2 hown hK.1 hP hD hS 0 (by omega) pz_a0 rfl 5 (by decide) (hts (.fieldLink RX2 32 "PowderMill" "stepCount" "I") (by decide +kernel)) (fun _ h9 => h9) rfl (by decide +kernel) rfl rfl (Nat.le_of_ble_eq_true rfl) rfl dX2_step_48 (fun g_4 H locs e_g_4 hP hD hS => ?_)
      refine lv_aload_n hx hb dX2_step_51 rfl (lv_at hl 0 rfl) ?_
      refine va_get (D := (dC, dI)) (ci := 4) (C := RX2) (T := TX2) (N := 14) hx hb hts inX2_step_X2 hown hK.1 hP 0 pz_a0 rfl 5 (by decide) (hts (.fieldLink RX2 32 "PowderMill" "stepCount" "I") (by decide +kernel)) (fun _ h9 => h9) rfl dX2_step_52 ?_
      exact pr_iret (g_4, ph) hx hb hr hlocks hP hD hS dX2_step_55 (by subst e_g_4 e_g_3 e_g_2 e_r_1; refine ⟨?_, ?_⟩ <;> (simp only [f_X2_step, if_neg c_4, if_pos c_15] <;> rfl))
    · refine lv_bipush (v := (-2)) hx hb dX2_step_18 (by decide) ?_
      exact pr_iret (g, ph) hx hb hr hlocks hP hD hS dX2_step_20 (by subst e_r_1; refine ⟨?_, ?_⟩ <;> (simp only [f_X2_step, if_neg c_4, if_neg c_15] <;> rfl))
  · refine lv_iconst (v := (-1)) hx hb dX2_step_7 (by decide) ?_
    exact pr_iret (g, ph) hx hb hr hlocks hP hD hS dX2_step_8 (by subst e_r_1; refine ⟨?_, ?_⟩ <;> (simp only [f_X2_step, if_pos c_4] <;> rfl))
theorem inX2_clear_X2 : ∀ w ∈ u_ws RX2 TX2 14, w ∈ wsX2_clear := by decide +kernel
def f_X2_clear (g : pz_M) (ph : Nat → Option Nat) : Int32 × pz_M × (Nat → Option Nat) :=
  let g_1 := pz_st g 0 5 0
  (g 0 5, g_1, ph)
set_option maxHeartbeats 4000000 in
set_option maxRecDepth 100000 in
theorem c_X2_clear {l : Launch} {dC : Nat → ClassId} {dI : Nat → Nat → Nat} {cl : Nat → ClassId} {ad : Nat → Nat} {ph : Nat → Option Nat} {o : Nat → Int64} {g h : pz_M} : pz_Mi l dC dI cl yX2_clear wsX2_clear { frames := 0, cells := 0, slots := 0, locals := 0 } [.ref (ad 0)] (pz_wd ad cl ph o g h) (fun u : pz_M × (Nat → Option Nat) => pz_wd ad cl u.2 o u.1 h) (fun r u => r = (f_X2_clear g ph).1 ∧ u = (f_X2_clear g ph).2) := by
  intro sz
  refine pr_ofW (Qc := pz_Qi dC dI _ _) (cb := cX2_clear) (maxL := 2) (ret := (some .int)) (by decide) rfl (Nat.le_of_ble_eq_true rfl) ?_
  intro p e s m below meth c A ls hx hb hml hr hlocks hts hown hK hP hD hS hA hl
  have hl : lv_has ls 2 [(0, .ref (ad 0))] := hl
  refine lv_aload_n hx hb dX2_clear_0 rfl (lv_at hl 0 rfl) ?_
  refine va_get (D := (dC, dI)) (ci := 4) (C := RX2) (T := TX2) (N := 14) hx hb hts inX2_clear_X2 hown hK.1 hP 0 pz_a0 rfl 5 (by decide) (hts (.fieldLink RX2 32 "PowderMill" "stepCount" "I") (by decide +kernel)) (fun _ h9 => h9) rfl dX2_clear_1 ?_
  refine lv_istore_n (lv' := [(1, .int (g 0 5)), (0, .ref (ad 0))]) hx hb dX2_clear_4 rfl hl (by decide) rfl (fun ls hl => ?_)
  refine lv_aload_n hx hb dX2_clear_5 rfl (lv_at hl 1 rfl) ?_
  refine lv_iconst (v := 0) hx hb dX2_clear_6 (by decide) ?_
  refine pr_putC (ci := 4) (C := RX2) (T := TX2) (N := 14) (ty := .int) (v := 0) hx hb hts inX2_clear_X2 tyX2 tyX2_ok nmX2 hown hK.1 hP hD hS 0 (by omega) pz_a0 rfl 5 (by decide) (hts (.fieldLink RX2 32 "PowderMill" "stepCount" "I") (by decide +kernel)) (fun _ h9 => h9) rfl (by decide +kernel) rfl rfl (Nat.le_of_ble_eq_true rfl) rfl dX2_clear_7 (fun g_1 H locs e_g_1 hP hD hS => ?_)
  refine lv_iload_n hx hb dX2_clear_10 rfl (lv_at hl 0 rfl) ?_
  exact pr_iret (g_1, ph) hx hb hr hlocks hP hD hS dX2_clear_11 (by subst e_g_1; refine ⟨?_, ?_⟩ <;> (simp only [f_X2_clear] <;> rfl))
theorem inX2_alter_X2 : ∀ w ∈ u_ws RX2 TX2 14, w ∈ wsX2_alter := by decide +kernel
def f_X2_alter (g : pz_M) (ph : Nat → Option Nat) (a : Int32) (b : Int32) (z : Int32) : Int32 × pz_M × (Nat → Option Nat) :=
  if a < 0 then
    ((-1), g, ph)
  else
    if (g 0 5) ≤ a then
      ((-1), g, ph)
    else
      let r_1 := f_X2_isAct b
      if r_1 = 0 then
        ((-1), g, ph)
      else
        let g_2 := pz_st g 4 a.toNatClampNeg b
        let g_3 := pz_st g_2 5 a.toNatClampNeg z
        (g 4 a.toNatClampNeg, g_3, ph)
set_option maxHeartbeats 4000000 in
set_option maxRecDepth 100000 in
theorem c_X2_alter {l : Launch} {dC : Nat → ClassId} {dI : Nat → Nat → Nat} {cl : Nat → ClassId} {ad : Nat → Nat} {ph : Nat → Option Nat} {o : Nat → Int64} {g h : pz_M} (a : Int32) (b : Int32) (z : Int32) (h30 : g 0 5 ≤ 30) : pz_Mi l dC dI cl yX2_alter wsX2_alter { frames := 1, cells := 0, slots := 0, locals := 20 } [.ref (ad 0), .int a, .int b, .int z] (pz_wd ad cl ph o g h) (fun u : pz_M × (Nat → Option Nat) => pz_wd ad cl u.2 o u.1 h) (fun r u => r = (f_X2_alter g ph a b z).1 ∧ u = (f_X2_alter g ph a b z).2) := by
  intro sz
  refine pr_ofW (Qc := pz_Qi dC dI _ _) (cb := cX2_alter) (maxL := 5) (ret := (some .int)) (by decide) rfl (Nat.le_of_ble_eq_true rfl) ?_
  intro p e s m below meth c A ls hx hb hml hr hlocks hts hown hK hP hD hS hA hl
  have hl : lv_has ls 5 [(0, .ref (ad 0)), (1, .int a), (2, .int b), (3, .int z)] := hl
  refine lv_iload_n hx hb dX2_alter_0 rfl (lv_at hl 1 rfl) ?_
  refine lv_if_lt (tgt := 19) hx hb dX2_alter_1 (by decide) (fun c_1 => ?_) (fun c_1 => ?_)
  · refine lv_iconst (v := (-1)) hx hb dX2_alter_19 (by decide) ?_
    exact pr_iret (g, ph) hx hb hr hlocks hP hD hS dX2_alter_20 (by refine ⟨?_, ?_⟩ <;> (simp only [f_X2_alter, if_pos c_1] <;> rfl))
  · refine lv_iload_n hx hb dX2_alter_4 rfl (lv_at hl 1 rfl) ?_
    refine lv_aload_n hx hb dX2_alter_5 rfl (lv_at hl 0 rfl) ?_
    refine va_get (D := (dC, dI)) (ci := 4) (C := RX2) (T := TX2) (N := 14) hx hb hts inX2_alter_X2 hown hK.1 hP 0 pz_a0 rfl 5 (by decide) (hts (.fieldLink RX2 32 "PowderMill" "stepCount" "I") (by decide +kernel)) (fun _ h9 => h9) rfl dX2_alter_6 ?_
    refine lv_icmp_ge (tgt := 19) hx hb dX2_alter_9 (by decide) (fun c_9 => ?_) (fun c_9 => ?_)
    · refine lv_iconst (v := (-1)) hx hb dX2_alter_19 (by decide) ?_
      exact pr_iret (g, ph) hx hb hr hlocks hP hD hS dX2_alter_20 (by refine ⟨?_, ?_⟩ <;> (simp only [f_X2_alter, if_neg c_1, if_pos c_9] <;> rfl))
    · refine lv_iload_n hx hb dX2_alter_12 rfl (lv_at hl 2 rfl) ?_
      refine pr_Si (As := [.int b]) (rest := []) ⟨hx, hb, hml, hown, hts⟩ (c_X2_isAct b) (va_cwS 1 hts gX2_alter_X2_isAct rfl rfl rfl (by decide +kernel) ⟨Nat.le_of_ble_eq_true rfl, Nat.le_of_ble_eq_true rfl⟩) hK hP hD hS hA rfl hl.1 rfl (Nat.le_of_ble_eq_true rfl) ⟨Nat.le_of_ble_eq_true rfl, Nat.le_of_ble_eq_true rfl⟩ dX2_alter_13 (fun r_1 _ H locs e_r_1 hP hD hS => ?_)
      refine lv_if_ne (tgt := 21) hx hb dX2_alter_16 (by decide) (fun c_16 => ?_) (fun c_16 => ?_)
      · have i1 : vp_in a 30 := pz_alt c_1 c_9 h30
        refine lv_aload_n hx hb dX2_alter_21 rfl (lv_at hl 0 rfl) ?_
        refine va_get (D := (dC, dI)) (ci := 4) (C := RX2) (T := TX2) (N := 14) hx hb hts inX2_alter_X2 hown hK.1 hP 0 pz_a0 rfl 3 (by decide) (hts (.fieldLink RX2 26 "PowderMill" "acts" "[I") (by decide +kernel)) (fun _ h9 => h9) rfl dX2_alter_22 ?_
        refine lv_iload_n hx hb dX2_alter_25 rfl (lv_at hl 1 rfl) ?_
        refine va_iald hx hb hK.1 hP 4 0 pz_a4 rfl i1 dX2_alter_26 ?_
        refine lv_istore (lv' := [(4, .int (g 4 a.toNatClampNeg)), (0, .ref (ad 0)), (1, .int a), (2, .int b), (3, .int z)]) hx hb dX2_alter_27 hl (by decide) rfl (fun ls hl => ?_)
        refine lv_aload_n hx hb dX2_alter_29 rfl (lv_at hl 1 rfl) ?_
        refine va_get (D := (dC, dI)) (ci := 4) (C := RX2) (T := TX2) (N := 14) hx hb hts inX2_alter_X2 hown hK.1 hP 0 pz_a0 rfl 3 (by decide) (hts (.fieldLink RX2 26 "PowderMill" "acts" "[I") (by decide +kernel)) (fun _ h9 => h9) rfl dX2_alter_30 ?_
        refine lv_iload_n hx hb dX2_alter_33 rfl (lv_at hl 2 rfl) ?_
        refine lv_iload_n hx hb dX2_alter_34 rfl (lv_at hl 3 rfl) ?_
        refine pr_iastC hx hb hK.1 hP hD hS 4 (by omega) pz_a4 (fun _ => rfl) i1 dX2_alter_35 (fun g_2 H locs e_g_2 hP hD hS => ?_)
        refine lv_aload_n hx hb dX2_alter_36 rfl (lv_at hl 1 rfl) ?_
        refine va_get (D := (dC, dI)) (ci := 4) (C := RX2) (T := TX2) (N := 14) hx hb hts inX2_alter_X2 hown hK.1 hP 0 pz_a0 rfl 4 (by decide) (hts (.fieldLink RX2 29 "PowderMill" "numbers" "[I") (by decide +kernel)) (fun _ h9 => h9) rfl dX2_alter_37 ?_
        refine lv_iload_n hx hb dX2_alter_40 rfl (lv_at hl 2 rfl) ?_
        refine lv_iload_n hx hb dX2_alter_41 rfl (lv_at hl 4 rfl) ?_
        refine pr_iastC hx hb hK.1 hP hD hS 5 (by omega) pz_a5 (fun _ => rfl) i1 dX2_alter_42 (fun g_3 H locs e_g_3 hP hD hS => ?_)
        refine lv_iload hx hb dX2_alter_43 (lv_at hl 0 rfl) ?_
        exact pr_iret (g_3, ph) hx hb hr hlocks hP hD hS dX2_alter_45 (by subst e_g_3 e_g_2 e_r_1; refine ⟨?_, ?_⟩ <;> (simp only [f_X2_alter, if_neg c_1, if_neg c_9, if_neg c_16] <;> rfl))
      · refine lv_iconst (v := (-1)) hx hb dX2_alter_19 (by decide) ?_
        exact pr_iret (g, ph) hx hb hr hlocks hP hD hS dX2_alter_20 (by subst e_r_1; refine ⟨?_, ?_⟩ <;> (simp only [f_X2_alter, if_neg c_1, if_neg c_9, if_pos c_16] <;> rfl))
theorem inX2_begun_X2 : ∀ w ∈ u_ws RX2 TX2 14, w ∈ wsX2_begun := by decide +kernel
def f_X2_begun (g : pz_M) (ph : Nat → Option Nat) : Int32 :=
  g 0 7
set_option maxHeartbeats 4000000 in
set_option maxRecDepth 100000 in
theorem c_X2_begun {l : Launch} {dC : Nat → ClassId} {dI : Nat → Nat → Nat} {cl : Nat → ClassId} {ad : Nat → Nat} {ph : Nat → Option Nat} {o : Nat → Int64} {g h : pz_M} : pz_Mi l dC dI cl yX2_begun wsX2_begun { frames := 0, cells := 0, slots := 0, locals := 0 } [.ref (ad 0)] (pz_wd ad cl ph o g h) (fun _ : Unit => pz_wd ad cl ph o g h) (fun r _ => r = f_X2_begun g ph) := by
  intro sz
  refine pr_ofW (Qc := pz_Qi dC dI _ _) (cb := cX2_begun) (maxL := 1) (ret := (some .int)) (by decide) rfl (Nat.le_of_ble_eq_true rfl) ?_
  intro p e s m below meth c A ls hx hb hml hr hlocks hts hown hK hP hD hS hA hl
  have hl : lv_has ls 1 [(0, .ref (ad 0))] := hl
  refine lv_aload_n hx hb dX2_begun_0 rfl (lv_at hl 0 rfl) ?_
  refine va_get (D := (dC, dI)) (ci := 4) (C := RX2) (T := TX2) (N := 14) hx hb hts inX2_begun_X2 hown hK.1 hP 0 pz_a0 rfl 7 (by decide) (hts (.fieldLink RX2 39 "PowderMill" "latestBegun" "I") (by decide +kernel)) (fun _ h9 => h9) rfl dX2_begun_1 ?_
  exact pr_iret () hx hb hr hlocks hP hD hS dX2_begun_4 (by (simp only [f_X2_begun] <;> rfl))
theorem inX2_where_X2 : ∀ w ∈ u_ws RX2 TX2 14, w ∈ wsX2_where := by decide +kernel
def f_X2_where (g : pz_M) (ph : Nat → Option Nat) : Int32 :=
  g 0 8
set_option maxHeartbeats 4000000 in
set_option maxRecDepth 100000 in
theorem c_X2_where {l : Launch} {dC : Nat → ClassId} {dI : Nat → Nat → Nat} {cl : Nat → ClassId} {ad : Nat → Nat} {ph : Nat → Option Nat} {o : Nat → Int64} {g h : pz_M} : pz_Mi l dC dI cl yX2_where wsX2_where { frames := 0, cells := 0, slots := 0, locals := 0 } [.ref (ad 0)] (pz_wd ad cl ph o g h) (fun _ : Unit => pz_wd ad cl ph o g h) (fun r _ => r = f_X2_where g ph) := by
  intro sz
  refine pr_ofW (Qc := pz_Qi dC dI _ _) (cb := cX2_where) (maxL := 1) (ret := (some .int)) (by decide) rfl (Nat.le_of_ble_eq_true rfl) ?_
  intro p e s m below meth c A ls hx hb hml hr hlocks hts hown hK hP hD hS hA hl
  have hl : lv_has ls 1 [(0, .ref (ad 0))] := hl
  refine lv_aload_n hx hb dX2_where_0 rfl (lv_at hl 0 rfl) ?_
  refine va_get (D := (dC, dI)) (ci := 4) (C := RX2) (T := TX2) (N := 14) hx hb hts inX2_where_X2 hown hK.1 hP 0 pz_a0 rfl 8 (by decide) (hts (.fieldLink RX2 42 "PowderMill" "latestFaultStep" "I") (by decide +kernel)) (fun _ h9 => h9) rfl dX2_where_1 ?_
  exact pr_iret () hx hb hr hlocks hP hD hS dX2_where_4 (by (simp only [f_X2_where] <;> rfl))
theorem inX2_house_X0 : ∀ w ∈ u_ws RX0 TX0 8, w ∈ wsX2_house := by decide +kernel
theorem inX2_house_X2 : ∀ w ∈ u_ws RX2 TX2 14, w ∈ wsX2_house := by decide +kernel
def f_X2_house (g : pz_M) (ph : Nat → Option Nat) (a : Int32) (b : Int32) : Int32 :=
  let r_1 := f_X2_isPlace a
  if r_1 = 0 then
    (-1)
  else
    if (g (10 + a.toNatClampNeg) 0) = 0 then
      (-1)
    else
      let r_2 := f_X0_tell g ph a.toNatClampNeg b
      r_2
set_option maxHeartbeats 4000000 in
set_option maxRecDepth 100000 in
theorem c_X2_house {l : Launch} {dC : Nat → ClassId} {dI : Nat → Nat → Nat} {cl : Nat → ClassId} {ad : Nat → Nat} {ph : Nat → Option Nat} {o : Nat → Int64} {g h : pz_M} (a : Int32) (b : Int32) : pz_Mi l dC dI cl yX2_house wsX2_house { frames := 1, cells := 0, slots := 0, locals := 21 } [.ref (ad 0), .int a, .int b] (pz_wd ad cl ph o g h) (fun _ : Unit => pz_wd ad cl ph o g h) (fun r _ => r = f_X2_house g ph a b) := by
  intro sz
  refine pr_ofW (Qc := pz_Qi dC dI _ _) (cb := cX2_house) (maxL := 3) (ret := (some .int)) (by decide) rfl (Nat.le_of_ble_eq_true rfl) ?_
  intro p e s m below meth c A ls hx hb hml hr hlocks hts hown hK hP hD hS hA hl
  have hl : lv_has ls 3 [(0, .ref (ad 0)), (1, .int a), (2, .int b)] := hl
  refine lv_iload_n hx hb dX2_house_0 rfl (lv_at hl 1 rfl) ?_
  refine pr_Si (As := [.int a]) (rest := []) ⟨hx, hb, hml, hown, hts⟩ (c_X2_isPlace a) (va_cwS 1 hts gX2_house_X2_isPlace rfl rfl rfl (by decide +kernel) ⟨Nat.le_of_ble_eq_true rfl, Nat.le_of_ble_eq_true rfl⟩) hK hP hD hS hA rfl hl.1 rfl (Nat.le_of_ble_eq_true rfl) ⟨Nat.le_of_ble_eq_true rfl, Nat.le_of_ble_eq_true rfl⟩ dX2_house_1 (fun r_1 _ H locs e_r_1 hP hD hS => ?_)
  refine lv_if_eq (tgt := 19) hx hb dX2_house_4 (by decide) (fun c_4 => ?_) (fun c_4 => ?_)
  · refine lv_iconst (v := (-1)) hx hb dX2_house_19 (by decide) ?_
    exact pr_iret () hx hb hr hlocks hP hD hS dX2_house_20 (by subst e_r_1; (simp only [f_X2_house, if_pos c_4] <;> rfl))
  · have i1 : vp_in a 8 := pz_place (by rw [← e_r_1]; exact c_4)
    refine lv_aload_n hx hb dX2_house_7 rfl (lv_at hl 0 rfl) ?_
    refine va_get (D := (dC, dI)) (ci := 4) (C := RX2) (T := TX2) (N := 14) hx hb hts inX2_house_X2 hown hK.1 hP 0 pz_a0 rfl 0 (by decide) (hts (.fieldLink RX2 11 "PowderMill" "places" "[LPowderMill$House;") (by decide +kernel)) (fun _ h9 => h9) rfl dX2_house_8 ?_
    refine lv_iload_n hx hb dX2_house_11 rfl (lv_at hl 1 rfl) ?_
    refine pr_places hx hb hK.1 hP i1 dX2_house_12 ?_
    refine va_getN (D := (dC, dI)) (ci := 2) (C := RX0) (T := TX0) (N := 8) hx hb hts inX2_house_X0 hown hK.1 hP (10 + a.toNatClampNeg) (pz_aH (pz_lt8 i1)) rfl 0 (by decide) (va_Nw.use rfl hK.2.2.1) (fun _ h9 => h9) rfl dX2_house_13 ?_
    refine lv_if_ne (tgt := 21) hx hb dX2_house_16 (by decide) (fun c_16 => ?_) (fun c_16 => ?_)
    · refine lv_aload_n hx hb dX2_house_21 rfl (lv_at hl 0 rfl) ?_
      refine va_get (D := (dC, dI)) (ci := 4) (C := RX2) (T := TX2) (N := 14) hx hb hts inX2_house_X2 hown hK.1 hP 0 pz_a0 rfl 0 (by decide) (hts (.fieldLink RX2 11 "PowderMill" "places" "[LPowderMill$House;") (by decide +kernel)) (fun _ h9 => h9) rfl dX2_house_22 ?_
      refine lv_iload_n hx hb dX2_house_25 rfl (lv_at hl 1 rfl) ?_
      refine pr_places hx hb hK.1 hP i1 dX2_house_26 ?_
      refine lv_iload_n hx hb dX2_house_27 rfl (lv_at hl 2 rfl) ?_
      refine pr_Vi (As := [.int b]) (rest := []) ⟨hx, hb, hml, hown, hts⟩ (c_X0_tell a.toNatClampNeg b (pz_lt8 i1)) (cwV 1 hts gX2_house_X0_tell rfl rfl rfl (by decide +kernel) ⟨Nat.le_of_ble_eq_true rfl, Nat.le_of_ble_eq_true rfl⟩) (va_recv hK.1 hP (ci := 2) rfl (pz_aH (pz_lt8 i1))) hK hP hD hS hA rfl hl.1 rfl (Nat.le_of_ble_eq_true rfl) ⟨Nat.le_of_ble_eq_true rfl, Nat.le_of_ble_eq_true rfl⟩ dX2_house_28 (fun r_2 _ H locs e_r_2 hP hD hS => ?_)
      exact pr_iret () hx hb hr hlocks hP hD hS dX2_house_31 (by subst e_r_2 e_r_1; (simp only [f_X2_house, if_neg c_4, if_neg c_16] <;> rfl))
    · refine lv_iconst (v := (-1)) hx hb dX2_house_19 (by decide) ?_
      exact pr_iret () hx hb hr hlocks hP hD hS dX2_house_20 (by subst e_r_1; (simp only [f_X2_house, if_neg c_4, if_pos c_16] <;> rfl))
theorem inX2_standingHouses_X0 : ∀ w ∈ u_ws RX0 TX0 8, w ∈ wsX2_standingHouses := by decide +kernel
theorem inX2_standingHouses_X2 : ∀ w ∈ u_ws RX2 TX2 14, w ∈ wsX2_standingHouses := by decide +kernel
def f_sth (g : pz_M) : Nat → Int32 → Int32 → Int32
  | 0, v, _ => v
  | n + 1, v, i =>
    if 8 ≤ i then
      v
    else
      if (g (10 + i.toNatClampNeg) 0) = 0 then
        f_sth g n (v) (i + 1)
      else
        f_sth g n (v + 1) (i + 1)
def f_X2_standingHouses (g : pz_M) (ph : Nat → Option Nat) : Int32 := f_sth g 9 0 0
set_option maxHeartbeats 4000000 in
set_option maxRecDepth 100000 in
theorem c_X2_standingHouses {l : Launch} {dC : Nat → ClassId} {dI : Nat → Nat → Nat} {cl : Nat → ClassId} {ad : Nat → Nat} {ph : Nat → Option Nat} {o : Nat → Int64} {g h : pz_M} : pz_Mi l dC dI cl yX2_standingHouses wsX2_standingHouses { frames := 0, cells := 0, slots := 0, locals := 0 } [.ref (ad 0)] (pz_wd ad cl ph o g h) (fun _ : Unit => pz_wd ad cl ph o g h) (fun r _ => r = f_X2_standingHouses g ph) := by
  intro sz
  refine pr_ofW (Qc := pz_Qi dC dI _ _) (cb := cX2_standingHouses) (maxL := 3) (ret := (some .int)) (by decide) rfl (Nat.le_of_ble_eq_true rfl) ?_
  intro p e s m below meth c A ls hx hb hml hr hlocks hts hown hK hP hD hS hA hl
  have hl : lv_has ls 3 [(0, .ref (ad 0))] := hl
  have key : ∀ (n : Nat) (v i : Int32) (j : Nat) (H : Heap) (locs : List Loc) (ls : Array Slot), j ≤ 8 → 8 - j < n → i = nI j → f_sth g n v i = f_sth g 9 0 0 → va_P (dC, dI) vwCl (pz_wd ad cl ph o g h) H → va_D A (pz_wd ad cl ph o g h) → va_S A s.heap H locs → lv_has ls 3 [(0, .ref (ad 0)), (1, .int v), (2, .int i)] → W p l e { frames := 0, cells := 0, slots := 0, locals := 0 } s m [.ref (ad 0)].toArray below meth c H locs 0 0 (MQ below (pz_Qi dC dI (fun r _ => r = f_X2_standingHouses g ph) (fun _ : Unit => pz_wd ad cl ph o g h) A) [.ref (ad 0)].toArray s 0 0 A) (F0 m 4 ls []) := by
    intro n
    induction n with
    | zero => intro v i j H locs ls h1 h2; omega
    | succ n ih =>
      intro v i j H locs ls hj hjn hi hF hP hD hS hl
      refine lv_iload_n hx hb dX2_standingHouses_4 rfl (lv_at hl 2 rfl) ?_
      refine lv_bipush (v := 8) hx hb dX2_standingHouses_5 (by decide) ?_
      refine lv_icmp_ge (tgt := 31) hx hb dX2_standingHouses_7 (by decide) (fun c_7 => ?_) (fun c_7 => ?_)
      · refine lv_iload_n hx hb dX2_standingHouses_31 rfl (lv_at hl 1 rfl) ?_
        exact pr_iret () hx hb hr hlocks hP hD hS dX2_standingHouses_32 (by show _ = f_X2_standingHouses g ph; unfold f_X2_standingHouses; rw [← hF]; simp only [f_sth, if_pos c_7])
      · have hj8 : j < 8 := by
          rcases Nat.lt_or_ge j 8 with q | q
          · exact q
          · exact absurd (by rw [hi]; exact nI_le q (by omega)) c_7
        have i1 : vp_in i 8 := by rw [hi]; exact vp_in_nI hj8 (by decide)
        refine lv_aload_n hx hb dX2_standingHouses_10 rfl (lv_at hl 0 rfl) ?_
        refine va_get (D := (dC, dI)) (ci := 4) (C := RX2) (T := TX2) (N := 14) hx hb hts inX2_standingHouses_X2 hown hK.1 hP 0 pz_a0 rfl 0 (by decide) (hts (.fieldLink RX2 11 "PowderMill" "places" "[LPowderMill$House;") (by decide +kernel)) (fun _ h9 => h9) rfl dX2_standingHouses_11 ?_
        refine lv_iload_n hx hb dX2_standingHouses_14 rfl (lv_at hl 2 rfl) ?_
        refine pr_places hx hb hK.1 hP i1 dX2_standingHouses_15 ?_
        refine va_getN (D := (dC, dI)) (ci := 2) (C := RX0) (T := TX0) (N := 8) hx hb hts inX2_standingHouses_X0 hown hK.1 hP (10 + i.toNatClampNeg) (pz_aH (pz_lt8 i1)) rfl 0 (by decide) (va_Nw.use rfl hK.2.2.1) (fun _ h9 => h9) rfl dX2_standingHouses_16 ?_
        refine lv_if_eq (tgt := 25) hx hb dX2_standingHouses_19 (by decide) (fun c_19 => ?_) (fun c_19 => ?_)
        · refine lv_iinc (v := i + 1) (lv' := [(2, .int (i + 1)), (0, .ref (ad 0)), (1, .int v)]) hx hb dX2_standingHouses_25 hl (k := 2) rfl (by rfl) (by decide) rfl (fun ls hl => ?_)
          refine lv_goto (tgt := 4) hx hb dX2_standingHouses_28 (by decide) ?_
          exact ih (v) (i + 1) (j + 1) _ _ _ (by omega) (by omega) (by rw [hi]; exact nI_1 j) (by rw [← hF]; simp only [f_sth, if_neg c_7, if_pos c_19]) hP hD hS (lv_sub hl [1, 2, 0] rfl)
        · refine lv_iinc (v := v + 1) (lv' := [(1, .int (v + 1)), (0, .ref (ad 0)), (2, .int i)]) hx hb dX2_standingHouses_22 hl (k := 1) rfl (by rfl) (by decide) rfl (fun ls hl => ?_)
          refine lv_iinc (v := i + 1) (lv' := [(2, .int (i + 1)), (1, .int (v + 1)), (0, .ref (ad 0))]) hx hb dX2_standingHouses_25 hl (k := 2) rfl (by rfl) (by decide) rfl (fun ls hl => ?_)
          refine lv_goto (tgt := 4) hx hb dX2_standingHouses_28 (by decide) ?_
          exact ih (v + 1) (i + 1) (j + 1) _ _ _ (by omega) (by omega) (by rw [hi]; exact nI_1 j) (by rw [← hF]; simp only [f_sth, if_neg c_7, if_neg c_19]) hP hD hS (lv_sub hl [2, 1, 0] rfl)
  refine lv_iconst (v := 0) hx hb dX2_standingHouses_0 (by decide) ?_
  refine lv_istore_n (lv' := [(1, .int 0), (0, .ref (ad 0))]) hx hb dX2_standingHouses_1 rfl hl (by decide) rfl (fun ls hl => ?_)
  refine lv_iconst (v := 0) hx hb dX2_standingHouses_2 (by decide) ?_
  refine lv_istore_n (lv' := [(2, .int 0), (1, .int 0), (0, .ref (ad 0))]) hx hb dX2_standingHouses_3 rfl hl (by decide) rfl (fun ls hl => ?_)
  exact key 9 0 0 0 _ _ _ (by omega) (by omega) rfl rfl hP hD hS (lv_sub hl [2, 1, 0] rfl)
theorem inX2_count_X2 : ∀ w ∈ u_ws RX2 TX2 14, w ∈ wsX2_count := by decide +kernel
def f_X2_count (g : pz_M) (ph : Nat → Option Nat) (a : Int32) : Int32 :=
  if a ≤ 10 then
    if a = 0 then
      let r_1 := f_X2_standingHouses g ph
      r_1
    else
      if a = 1 then
        g 0 5
      else
        if a = 2 then
          g 0 10
        else
          if a = 3 then
            g 0 11
          else
            if a = 4 then
              g 0 12
            else
              if a = 5 then
                g 0 13
              else
                (-1)
  else
    if 16 < a then
      if a = 0 then
        let r_2 := f_X2_standingHouses g ph
        r_2
      else
        if a = 1 then
          g 0 5
        else
          if a = 2 then
            g 0 10
          else
            if a = 3 then
              g 0 11
            else
              if a = 4 then
                g 0 12
              else
                if a = 5 then
                  g 0 13
                else
                  (-1)
    else
      g 6 (a - 10).toNatClampNeg
set_option maxHeartbeats 4000000 in
set_option maxRecDepth 100000 in
theorem c_X2_count {l : Launch} {dC : Nat → ClassId} {dI : Nat → Nat → Nat} {cl : Nat → ClassId} {ad : Nat → Nat} {ph : Nat → Option Nat} {o : Nat → Int64} {g h : pz_M} (a : Int32) : pz_Mi l dC dI cl yX2_count wsX2_count { frames := 1, cells := 0, slots := 0, locals := 22 } [.ref (ad 0), .int a] (pz_wd ad cl ph o g h) (fun _ : Unit => pz_wd ad cl ph o g h) (fun r _ => r = f_X2_count g ph a) := by
  intro sz
  refine pr_ofW (Qc := pz_Qi dC dI _ _) (cb := cX2_count) (maxL := 2) (ret := (some .int)) (by decide) rfl (Nat.le_of_ble_eq_true rfl) ?_
  intro p e s m below meth c A ls hx hb hml hr hlocks hts hown hK hP hD hS hA hl
  have hl : lv_has ls 2 [(0, .ref (ad 0)), (1, .int a)] := hl
  refine lv_iload_n hx hb dX2_count_0 rfl (lv_at hl 1 rfl) ?_
  refine lv_bipush (v := 10) hx hb dX2_count_1 (by decide) ?_
  refine lv_icmp_le (tgt := 22) hx hb dX2_count_3 (by decide) (fun c_3 => ?_) (fun c_3 => ?_)
  · refine lv_iload_n hx hb dX2_count_22 rfl (lv_at hl 1 rfl) ?_
    by_cases t_23_0 : a = 0
    · refine pr_tabIn (ki := 0) (tgt := 60) hx hb dX2_count_23 t_23_0 (by rfl) (by decide) (by decide) (by rfl) (by decide) ?_
      refine lv_aload_n hx hb dX2_count_60 rfl (lv_at hl 0 rfl) ?_
      refine pr_Vi (As := []) (rest := []) ⟨hx, hb, hml, hown, hts⟩ (c_X2_standingHouses) (cwV 0 hts gX2_count_X2_standingHouses rfl rfl rfl (by decide +kernel) ⟨Nat.le_of_ble_eq_true rfl, Nat.le_of_ble_eq_true rfl⟩) (va_recv hK.1 hP (ci := 4) rfl pz_a0) hK hP hD hS hA rfl hl.1 rfl (Nat.le_of_ble_eq_true rfl) ⟨Nat.le_of_ble_eq_true rfl, Nat.le_of_ble_eq_true rfl⟩ dX2_count_61 (fun r_1 _ H locs e_r_1 hP hD hS => ?_)
      exact pr_iret () hx hb hr hlocks hP hD hS dX2_count_64 (by subst e_r_1; (simp only [f_X2_count, if_pos c_3, if_pos t_23_0] <;> rfl))
    by_cases t_23_1 : a = 1
    · refine pr_tabIn (ki := 1) (tgt := 65) hx hb dX2_count_23 t_23_1 (by rfl) (by decide) (by decide) (by rfl) (by decide) ?_
      refine lv_aload_n hx hb dX2_count_65 rfl (lv_at hl 0 rfl) ?_
      refine va_get (D := (dC, dI)) (ci := 4) (C := RX2) (T := TX2) (N := 14) hx hb hts inX2_count_X2 hown hK.1 hP 0 pz_a0 rfl 5 (by decide) (hts (.fieldLink RX2 32 "PowderMill" "stepCount" "I") (by decide +kernel)) (fun _ h9 => h9) rfl dX2_count_66 ?_
      exact pr_iret () hx hb hr hlocks hP hD hS dX2_count_69 (by (simp only [f_X2_count, if_pos c_3, if_neg t_23_0, if_pos t_23_1] <;> rfl))
    by_cases t_23_2 : a = 2
    · refine pr_tabIn (ki := 2) (tgt := 70) hx hb dX2_count_23 t_23_2 (by rfl) (by decide) (by decide) (by rfl) (by decide) ?_
      refine lv_aload_n hx hb dX2_count_70 rfl (lv_at hl 0 rfl) ?_
      refine va_get (D := (dC, dI)) (ci := 4) (C := RX2) (T := TX2) (N := 14) hx hb hts inX2_count_X2 hown hK.1 hP 0 pz_a0 rfl 10 (by decide) (hts (.fieldLink RX2 48 "PowderMill" "runs" "I") (by decide +kernel)) (fun _ h9 => h9) rfl dX2_count_71 ?_
      exact pr_iret () hx hb hr hlocks hP hD hS dX2_count_74 (by (simp only [f_X2_count, if_pos c_3, if_neg t_23_0, if_neg t_23_1, if_pos t_23_2] <;> rfl))
    by_cases t_23_3 : a = 3
    · refine pr_tabIn (ki := 3) (tgt := 75) hx hb dX2_count_23 t_23_3 (by rfl) (by decide) (by decide) (by rfl) (by decide) ?_
      refine lv_aload_n hx hb dX2_count_75 rfl (lv_at hl 0 rfl) ?_
      refine va_get (D := (dC, dI)) (ci := 4) (C := RX2) (T := TX2) (N := 14) hx hb hts inX2_count_X2 hown hK.1 hP 0 pz_a0 rfl 11 (by decide) (hts (.fieldLink RX2 51 "PowderMill" "faultRuns" "I") (by decide +kernel)) (fun _ h9 => h9) rfl dX2_count_76 ?_
      exact pr_iret () hx hb hr hlocks hP hD hS dX2_count_79 (by (simp only [f_X2_count, if_pos c_3, if_neg t_23_0, if_neg t_23_1, if_neg t_23_2, if_pos t_23_3] <;> rfl))
    by_cases t_23_4 : a = 4
    · refine pr_tabIn (ki := 4) (tgt := 80) hx hb dX2_count_23 t_23_4 (by rfl) (by decide) (by decide) (by rfl) (by decide) ?_
      refine lv_aload_n hx hb dX2_count_80 rfl (lv_at hl 0 rfl) ?_
      refine va_get (D := (dC, dI)) (ci := 4) (C := RX2) (T := TX2) (N := 14) hx hb hts inX2_count_X2 hown hK.1 hP 0 pz_a0 rfl 12 (by decide) (hts (.fieldLink RX2 54 "PowderMill" "spentRuns" "I") (by decide +kernel)) (fun _ h9 => h9) rfl dX2_count_81 ?_
      exact pr_iret () hx hb hr hlocks hP hD hS dX2_count_84 (by (simp only [f_X2_count, if_pos c_3, if_neg t_23_0, if_neg t_23_1, if_neg t_23_2, if_neg t_23_3, if_pos t_23_4] <;> rfl))
    by_cases t_23_5 : a = 5
    · refine pr_tabIn (ki := 5) (tgt := 85) hx hb dX2_count_23 t_23_5 (by rfl) (by decide) (by decide) (by rfl) (by decide) ?_
      refine lv_aload_n hx hb dX2_count_85 rfl (lv_at hl 0 rfl) ?_
      refine va_get (D := (dC, dI)) (ci := 4) (C := RX2) (T := TX2) (N := 14) hx hb hts inX2_count_X2 hown hK.1 hP 0 pz_a0 rfl 13 (by decide) (hts (.fieldLink RX2 57 "PowderMill" "quitRuns" "I") (by decide +kernel)) (fun _ h9 => h9) rfl dX2_count_86 ?_
      exact pr_iret () hx hb hr hlocks hP hD hS dX2_count_89 (by (simp only [f_X2_count, if_pos c_3, if_neg t_23_0, if_neg t_23_1, if_neg t_23_2, if_neg t_23_3, if_neg t_23_4, if_pos t_23_5] <;> rfl))
    refine lv_tableOut (tgt := 90) hx hb dX2_count_23 (by have q0 := lv_neT t_23_0 (by rfl : (0 : Int32).toInt = 0); have q1 := lv_neT t_23_1 (by rfl : (1 : Int32).toInt = 1); have q2 := lv_neT t_23_2 (by rfl : (2 : Int32).toInt = 2); have q3 := lv_neT t_23_3 (by rfl : (3 : Int32).toInt = 3); have q4 := lv_neT t_23_4 (by rfl : (4 : Int32).toInt = 4); have q5 := lv_neT t_23_5 (by rfl : (5 : Int32).toInt = 5); omega) (by decide) ?_
    refine lv_iconst (v := (-1)) hx hb dX2_count_90 (by decide) ?_
    exact pr_iret () hx hb hr hlocks hP hD hS dX2_count_91 (by (simp only [f_X2_count, if_pos c_3, if_neg t_23_0, if_neg t_23_1, if_neg t_23_2, if_neg t_23_3, if_neg t_23_4, if_neg t_23_5] <;> rfl))
  · refine lv_iload_n hx hb dX2_count_6 rfl (lv_at hl 1 rfl) ?_
    refine lv_bipush (v := 16) hx hb dX2_count_7 (by decide) ?_
    refine lv_icmp_gt (tgt := 22) hx hb dX2_count_9 (by decide) (fun c_9 => ?_) (fun c_9 => ?_)
    · refine lv_iload_n hx hb dX2_count_22 rfl (lv_at hl 1 rfl) ?_
      by_cases t_23_0 : a = 0
      · refine pr_tabIn (ki := 0) (tgt := 60) hx hb dX2_count_23 t_23_0 (by rfl) (by decide) (by decide) (by rfl) (by decide) ?_
        refine lv_aload_n hx hb dX2_count_60 rfl (lv_at hl 0 rfl) ?_
        refine pr_Vi (As := []) (rest := []) ⟨hx, hb, hml, hown, hts⟩ (c_X2_standingHouses) (cwV 0 hts gX2_count_X2_standingHouses rfl rfl rfl (by decide +kernel) ⟨Nat.le_of_ble_eq_true rfl, Nat.le_of_ble_eq_true rfl⟩) (va_recv hK.1 hP (ci := 4) rfl pz_a0) hK hP hD hS hA rfl hl.1 rfl (Nat.le_of_ble_eq_true rfl) ⟨Nat.le_of_ble_eq_true rfl, Nat.le_of_ble_eq_true rfl⟩ dX2_count_61 (fun r_2 _ H locs e_r_2 hP hD hS => ?_)
        exact pr_iret () hx hb hr hlocks hP hD hS dX2_count_64 (by subst e_r_2; (simp only [f_X2_count, if_neg c_3, if_pos c_9, if_pos t_23_0] <;> rfl))
      by_cases t_23_1 : a = 1
      · refine pr_tabIn (ki := 1) (tgt := 65) hx hb dX2_count_23 t_23_1 (by rfl) (by decide) (by decide) (by rfl) (by decide) ?_
        refine lv_aload_n hx hb dX2_count_65 rfl (lv_at hl 0 rfl) ?_
        refine va_get (D := (dC, dI)) (ci := 4) (C := RX2) (T := TX2) (N := 14) hx hb hts inX2_count_X2 hown hK.1 hP 0 pz_a0 rfl 5 (by decide) (hts (.fieldLink RX2 32 "PowderMill" "stepCount" "I") (by decide +kernel)) (fun _ h9 => h9) rfl dX2_count_66 ?_
        exact pr_iret () hx hb hr hlocks hP hD hS dX2_count_69 (by (simp only [f_X2_count, if_neg c_3, if_pos c_9, if_neg t_23_0, if_pos t_23_1] <;> rfl))
      by_cases t_23_2 : a = 2
      · refine pr_tabIn (ki := 2) (tgt := 70) hx hb dX2_count_23 t_23_2 (by rfl) (by decide) (by decide) (by rfl) (by decide) ?_
        refine lv_aload_n hx hb dX2_count_70 rfl (lv_at hl 0 rfl) ?_
        refine va_get (D := (dC, dI)) (ci := 4) (C := RX2) (T := TX2) (N := 14) hx hb hts inX2_count_X2 hown hK.1 hP 0 pz_a0 rfl 10 (by decide) (hts (.fieldLink RX2 48 "PowderMill" "runs" "I") (by decide +kernel)) (fun _ h9 => h9) rfl dX2_count_71 ?_
        exact pr_iret () hx hb hr hlocks hP hD hS dX2_count_74 (by (simp only [f_X2_count, if_neg c_3, if_pos c_9, if_neg t_23_0, if_neg t_23_1, if_pos t_23_2] <;> rfl))
      by_cases t_23_3 : a = 3
      · refine pr_tabIn (ki := 3) (tgt := 75) hx hb dX2_count_23 t_23_3 (by rfl) (by decide) (by decide) (by rfl) (by decide) ?_
        refine lv_aload_n hx hb dX2_count_75 rfl (lv_at hl 0 rfl) ?_
        refine va_get (D := (dC, dI)) (ci := 4) (C := RX2) (T := TX2) (N := 14) hx hb hts inX2_count_X2 hown hK.1 hP 0 pz_a0 rfl 11 (by decide) (hts (.fieldLink RX2 51 "PowderMill" "faultRuns" "I") (by decide +kernel)) (fun _ h9 => h9) rfl dX2_count_76 ?_
        exact pr_iret () hx hb hr hlocks hP hD hS dX2_count_79 (by (simp only [f_X2_count, if_neg c_3, if_pos c_9, if_neg t_23_0, if_neg t_23_1, if_neg t_23_2, if_pos t_23_3] <;> rfl))
      by_cases t_23_4 : a = 4
      · refine pr_tabIn (ki := 4) (tgt := 80) hx hb dX2_count_23 t_23_4 (by rfl) (by decide) (by decide) (by rfl) (by decide) ?_
        refine lv_aload_n hx hb dX2_count_80 rfl (lv_at hl 0 rfl) ?_
        refine va_get (D := (dC, dI)) (ci := 4) (C := RX2) (T := TX2) (N := 14) hx hb hts inX2_count_X2 hown hK.1 hP 0 pz_a0 rfl 12 (by decide) (hts (.fieldLink RX2 54 "PowderMill" "spentRuns" "I") (by decide +kernel)) (fun _ h9 => h9) rfl dX2_count_81 ?_
        exact pr_iret () hx hb hr hlocks hP hD hS dX2_count_84 (by (simp only [f_X2_count, if_neg c_3, if_pos c_9, if_neg t_23_0, if_neg t_23_1, if_neg t_23_2, if_neg t_23_3, if_pos t_23_4] <;> rfl))
      by_cases t_23_5 : a = 5
      · refine pr_tabIn (ki := 5) (tgt := 85) hx hb dX2_count_23 t_23_5 (by rfl) (by decide) (by decide) (by rfl) (by decide) ?_
        refine lv_aload_n hx hb dX2_count_85 rfl (lv_at hl 0 rfl) ?_
        refine va_get (D := (dC, dI)) (ci := 4) (C := RX2) (T := TX2) (N := 14) hx hb hts inX2_count_X2 hown hK.1 hP 0 pz_a0 rfl 13 (by decide) (hts (.fieldLink RX2 57 "PowderMill" "quitRuns" "I") (by decide +kernel)) (fun _ h9 => h9) rfl dX2_count_86 ?_
        exact pr_iret () hx hb hr hlocks hP hD hS dX2_count_89 (by (simp only [f_X2_count, if_neg c_3, if_pos c_9, if_neg t_23_0, if_neg t_23_1, if_neg t_23_2, if_neg t_23_3, if_neg t_23_4, if_pos t_23_5] <;> rfl))
      refine lv_tableOut (tgt := 90) hx hb dX2_count_23 (by have q0 := lv_neT t_23_0 (by rfl : (0 : Int32).toInt = 0); have q1 := lv_neT t_23_1 (by rfl : (1 : Int32).toInt = 1); have q2 := lv_neT t_23_2 (by rfl : (2 : Int32).toInt = 2); have q3 := lv_neT t_23_3 (by rfl : (3 : Int32).toInt = 3); have q4 := lv_neT t_23_4 (by rfl : (4 : Int32).toInt = 4); have q5 := lv_neT t_23_5 (by rfl : (5 : Int32).toInt = 5); omega) (by decide) ?_
      refine lv_iconst (v := (-1)) hx hb dX2_count_90 (by decide) ?_
      exact pr_iret () hx hb hr hlocks hP hD hS dX2_count_91 (by (simp only [f_X2_count, if_neg c_3, if_pos c_9, if_neg t_23_0, if_neg t_23_1, if_neg t_23_2, if_neg t_23_3, if_neg t_23_4, if_neg t_23_5] <;> rfl))
    · refine lv_aload_n hx hb dX2_count_12 rfl (lv_at hl 0 rfl) ?_
      refine va_get (D := (dC, dI)) (ci := 4) (C := RX2) (T := TX2) (N := 14) hx hb hts inX2_count_X2 hown hK.1 hP 0 pz_a0 rfl 9 (by decide) (hts (.fieldLink RX2 45 "PowderMill" "faultsMet" "[I") (by decide +kernel)) (fun _ h9 => h9) rfl dX2_count_13 ?_
      refine lv_iload_n hx hb dX2_count_16 rfl (lv_at hl 1 rfl) ?_
      refine lv_bipush (v := 10) hx hb dX2_count_17 (by decide) ?_
      refine lv_isub hx hb dX2_count_19 ?_
      refine va_iald hx hb hK.1 hP 6 0 pz_a6 rfl (pz_cnt c_3 c_9) dX2_count_20 ?_
      exact pr_iret () hx hb hr hlocks hP hD hS dX2_count_21 (by (simp only [f_X2_count, if_neg c_3, if_neg c_9] <;> rfl))
theorem inX2_goIn_X0 : ∀ w ∈ u_ws RX0 TX0 8, w ∈ wsX2_goIn := by decide +kernel
theorem inX2_goIn_X2 : ∀ w ∈ u_ws RX2 TX2 14, w ∈ wsX2_goIn := by decide +kernel
def f_X2_goIn (g : pz_M) (ph : Nat → Option Nat) (a : Int32) (b : Int32) : Int32 × pz_M × (Nat → Option Nat) :=
  let r_1 := f_X1_isFull g ph
  if r_1 = 0 then
    if (g (10 + a.toNatClampNeg) 0) = 0 then
      (1, g, ph)
    else
      let g_4 := (f_X1_enter g ph a.toNatClampNeg b).1
      let ph_5 := (f_X1_enter g ph a.toNatClampNeg b).2
      (0, g_4, ph_5)
  else
    (2, g, ph)
set_option maxHeartbeats 4000000 in
set_option maxRecDepth 100000 in
theorem c_X2_goIn {l : Launch} {dC : Nat → ClassId} {dI : Nat → Nat → Nat} {cl : Nat → ClassId} {ad : Nat → Nat} {ph : Nat → Option Nat} {o : Nat → Int64} {g h : pz_M} (a : Int32) (b : Int32) (hw : pz_W g ph) (ha : vp_in a 8) : pz_Mi l dC dI cl yX2_goIn wsX2_goIn { frames := 1, cells := 0, slots := 0, locals := 22 } [.ref (ad 0), .int a, .int b] (pz_wd ad cl ph o g h) (fun u : pz_M × (Nat → Option Nat) => pz_wd ad cl u.2 o u.1 h) (fun r u => r = (f_X2_goIn g ph a b).1 ∧ u = (f_X2_goIn g ph a b).2) := by
  intro sz
  refine pr_ofW (Qc := pz_Qi dC dI _ _) (cb := cX2_goIn) (maxL := 3) (ret := (some .int)) (by decide) rfl (Nat.le_of_ble_eq_true rfl) ?_
  intro p e s m below meth c A ls hx hb hml hr hlocks hts hown hK hP hD hS hA hl
  have hl : lv_has ls 3 [(0, .ref (ad 0)), (1, .int a), (2, .int b)] := hl
  refine lv_aload_n hx hb dX2_goIn_0 rfl (lv_at hl 0 rfl) ?_
  refine va_get (D := (dC, dI)) (ci := 4) (C := RX2) (T := TX2) (N := 14) hx hb hts inX2_goIn_X2 hown hK.1 hP 0 pz_a0 rfl 1 (by decide) (hts (.fieldLink RX2 18 "PowderMill" "path" "LPowderMill$Path;") (by decide +kernel)) (fun _ h9 => h9) rfl dX2_goIn_1 ?_
  refine pr_Vi (As := []) (rest := []) ⟨hx, hb, hml, hown, hts⟩ (c_X1_isFull) (cwV 0 hts gX2_goIn_X1_isFull rfl rfl rfl (by decide +kernel) ⟨Nat.le_of_ble_eq_true rfl, Nat.le_of_ble_eq_true rfl⟩) (va_recv hK.1 hP (ci := 3) rfl pz_a2) hK hP hD hS hA rfl hl.1 rfl (Nat.le_of_ble_eq_true rfl) ⟨Nat.le_of_ble_eq_true rfl, Nat.le_of_ble_eq_true rfl⟩ dX2_goIn_4 (fun r_1 _ H locs e_r_1 hP hD hS => ?_)
  refine lv_if_eq (tgt := 12) hx hb dX2_goIn_7 (by decide) (fun c_7 => ?_) (fun c_7 => ?_)
  · refine lv_aload_n hx hb dX2_goIn_12 rfl (lv_at hl 0 rfl) ?_
    refine va_get (D := (dC, dI)) (ci := 4) (C := RX2) (T := TX2) (N := 14) hx hb hts inX2_goIn_X2 hown hK.1 hP 0 pz_a0 rfl 0 (by decide) (hts (.fieldLink RX2 11 "PowderMill" "places" "[LPowderMill$House;") (by decide +kernel)) (fun _ h9 => h9) rfl dX2_goIn_13 ?_
    refine lv_iload_n hx hb dX2_goIn_16 rfl (lv_at hl 1 rfl) ?_
    refine pr_places hx hb hK.1 hP ha dX2_goIn_17 ?_
    refine va_getN (D := (dC, dI)) (ci := 2) (C := RX0) (T := TX0) (N := 8) hx hb hts inX2_goIn_X0 hown hK.1 hP (10 + a.toNatClampNeg) (pz_aH (pz_lt8 ha)) rfl 0 (by decide) (va_Nw.use rfl hK.2.2.1) (fun _ h9 => h9) rfl dX2_goIn_18 ?_
    refine lv_if_ne (tgt := 26) hx hb dX2_goIn_21 (by decide) (fun c_21 => ?_) (fun c_21 => ?_)
    · refine lv_aload_n hx hb dX2_goIn_26 rfl (lv_at hl 0 rfl) ?_
      refine va_get (D := (dC, dI)) (ci := 4) (C := RX2) (T := TX2) (N := 14) hx hb hts inX2_goIn_X2 hown hK.1 hP 0 pz_a0 rfl 1 (by decide) (hts (.fieldLink RX2 18 "PowderMill" "path" "LPowderMill$Path;") (by decide +kernel)) (fun _ h9 => h9) rfl dX2_goIn_27 ?_
      refine lv_aload_n hx hb dX2_goIn_30 rfl (lv_at hl 0 rfl) ?_
      refine va_get (D := (dC, dI)) (ci := 4) (C := RX2) (T := TX2) (N := 14) hx hb hts inX2_goIn_X2 hown hK.1 hP 0 pz_a0 rfl 0 (by decide) (hts (.fieldLink RX2 11 "PowderMill" "places" "[LPowderMill$House;") (by decide +kernel)) (fun _ h9 => h9) rfl dX2_goIn_31 ?_
      refine lv_iload_n hx hb dX2_goIn_34 rfl (lv_at hl 1 rfl) ?_
      refine pr_places hx hb hK.1 hP ha dX2_goIn_35 ?_
      refine lv_iload_n hx hb dX2_goIn_36 rfl (lv_at hl 2 rfl) ?_
      refine pr_Vv (As := [.ref (ad (10 + a.toNatClampNeg)), .int b]) (rest := []) ⟨hx, hb, hml, hown, hts⟩ (c_X1_enter a.toNatClampNeg b (pz_lt8 ha) (pz_notfull hw (by rw [← e_r_1]; exact c_7))) (cwV 2 hts gX2_goIn_X1_enter rfl rfl rfl (by decide +kernel) ⟨Nat.le_of_ble_eq_true rfl, Nat.le_of_ble_eq_true rfl⟩) (va_recv hK.1 hP (ci := 3) rfl pz_a2) hK hP hD hS hA rfl hl.1 rfl (Nat.le_of_ble_eq_true rfl) ⟨Nat.le_of_ble_eq_true rfl, Nat.le_of_ble_eq_true rfl⟩ dX2_goIn_37 (fun ⟨g_4, ph_5⟩ H locs e_q_3 hP hD hS => ?_)
      obtain ⟨e_g_4, e_ph_5⟩ : g_4 = (f_X1_enter g ph a.toNatClampNeg b).1 ∧ ph_5 = (f_X1_enter g ph a.toNatClampNeg b).2 := ⟨congrArg Prod.fst e_q_3, congrArg Prod.snd e_q_3⟩
      clear e_q_3
      dsimp only at hP hD
      refine lv_iconst (v := 0) hx hb dX2_goIn_40 (by decide) ?_
      exact pr_iret (g_4, ph_5) hx hb hr hlocks hP hD hS dX2_goIn_41 (by subst e_ph_5 e_g_4 e_r_1; refine ⟨?_, ?_⟩ <;> (simp only [f_X2_goIn, if_pos c_7, if_neg c_21] <;> rfl))
    · refine lv_iconst (v := 1) hx hb dX2_goIn_24 (by decide) ?_
      exact pr_iret (g, ph) hx hb hr hlocks hP hD hS dX2_goIn_25 (by subst e_r_1; refine ⟨?_, ?_⟩ <;> (simp only [f_X2_goIn, if_pos c_7, if_pos c_21] <;> rfl))
  · refine lv_iconst (v := 2) hx hb dX2_goIn_10 (by decide) ?_
    exact pr_iret (g, ph) hx hb hr hlocks hP hD hS dX2_goIn_11 (by subst e_r_1; refine ⟨?_, ?_⟩ <;> (simp only [f_X2_goIn, if_neg c_7] <;> rfl))
theorem inX2_grind_X2 : ∀ w ∈ u_ws RX2 TX2 14, w ∈ wsX2_grind := by decide +kernel
def f_X2_grind (g : pz_M) (ph : Nat → Option Nat) (a : Int32) : Int32 × pz_M × (Nat → Option Nat) :=
  match f_X1_here g ph with
  | none =>
    (0, g, ph)
  | some k_2 =>
    let r_3 := (f_X0_receive g ph k_2 a).1
    let g_5 := (f_X0_receive g ph k_2 a).2.1
    let ph_6 := (f_X0_receive g ph k_2 a).2.2
    (r_3, g_5, ph_6)
set_option maxHeartbeats 4000000 in
set_option maxRecDepth 100000 in
theorem c_X2_grind {l : Launch} {dC : Nat → ClassId} {dI : Nat → Nat → Nat} {cl : Nat → ClassId} {ad : Nat → Nat} {ph : Nat → Option Nat} {o : Nat → Int64} {g h : pz_M} (a : Int32) (hw : pz_W g ph) : pz_Mi l dC dI cl yX2_grind wsX2_grind { frames := 1, cells := 0, slots := 0, locals := 21 } [.ref (ad 0), .int a] (pz_wd ad cl ph o g h) (fun u : pz_M × (Nat → Option Nat) => pz_wd ad cl u.2 o u.1 h) (fun r u => r = (f_X2_grind g ph a).1 ∧ u = (f_X2_grind g ph a).2) := by
  intro sz
  refine pr_ofW (Qc := pz_Qi dC dI _ _) (cb := cX2_grind) (maxL := 3) (ret := (some .int)) (by decide) rfl (Nat.le_of_ble_eq_true rfl) ?_
  intro p e s m below meth c A ls hx hb hml hr hlocks hts hown hK hP hD hS hA hl
  have hl : lv_has ls 3 [(0, .ref (ad 0)), (1, .int a)] := hl
  refine lv_aload_n hx hb dX2_grind_0 rfl (lv_at hl 0 rfl) ?_
  refine va_get (D := (dC, dI)) (ci := 4) (C := RX2) (T := TX2) (N := 14) hx hb hts inX2_grind_X2 hown hK.1 hP 0 pz_a0 rfl 1 (by decide) (hts (.fieldLink RX2 18 "PowderMill" "path" "LPowderMill$Path;") (by decide +kernel)) (fun _ h9 => h9) rfl dX2_grind_1 ?_
  refine pr_Ve (As := []) (rest := []) ⟨hx, hb, hml, hown, hts⟩ (c_X1_here hw) (cwV 0 hts gX2_grind_X1_here rfl rfl rfl (by decide +kernel) ⟨Nat.le_of_ble_eq_true rfl, Nat.le_of_ble_eq_true rfl⟩) (va_recv hK.1 hP (ci := 3) rfl pz_a2) hK hP hD hS hA rfl hl.1 rfl (Nat.le_of_ble_eq_true rfl) ⟨Nat.le_of_ble_eq_true rfl, Nat.le_of_ble_eq_true rfl⟩ dX2_grind_4 (fun r_1 _ H locs e_r_1 hP hD hS => ?_)
  cases r_1 with
  | none =>
    refine lv_astore_nN (lv' := [(2, .null), (0, .ref (ad 0)), (1, .int a)]) hx hb dX2_grind_7 rfl hl (by decide) rfl (fun ls hl => ?_)
    refine lv_aload_nN hx hb dX2_grind_8 rfl (lv_at hl 0 rfl) ?_
    refine lv_ifnonnullN hx hb dX2_grind_9 ?_
    refine lv_iconst (v := 0) hx hb dX2_grind_12 (by decide) ?_
    refine lv_goto (tgt := 21) hx hb dX2_grind_13 (by decide) ?_
    exact pr_iret (g, ph) hx hb hr hlocks hP hD hS dX2_grind_21 (by refine ⟨?_, ?_⟩ <;> (simp only [f_X2_grind, ← e_r_1] <;> rfl))
  | some k_2 =>
    have hk_2 : k_2 < 8 := pz_here8 hw e_r_1
    refine lv_astore_n (lv' := [(2, .ref (ad (10 + k_2))), (0, .ref (ad 0)), (1, .int a)]) hx hb dX2_grind_7 rfl hl (by decide) rfl (fun ls hl => ?_)
    refine lv_aload_n hx hb dX2_grind_8 rfl (lv_at hl 0 rfl) ?_
    refine lv_ifnonnull (tgt := 16) hx hb dX2_grind_9 (by decide) ?_
    refine lv_aload_n hx hb dX2_grind_16 rfl (lv_at hl 0 rfl) ?_
    refine lv_iload_n hx hb dX2_grind_17 rfl (lv_at hl 2 rfl) ?_
    refine pr_Vi (As := [.int a]) (rest := []) ⟨hx, hb, hml, hown, hts⟩ (c_X0_receive k_2 a hk_2) (cwV 1 hts gX2_grind_X0_receive rfl rfl rfl (by decide +kernel) ⟨Nat.le_of_ble_eq_true rfl, Nat.le_of_ble_eq_true rfl⟩) (va_recv hK.1 hP (ci := 2) rfl (pz_aH hk_2)) hK hP hD hS hA rfl hl.1 rfl (Nat.le_of_ble_eq_true rfl) ⟨Nat.le_of_ble_eq_true rfl, Nat.le_of_ble_eq_true rfl⟩ dX2_grind_18 (fun r_3 ⟨g_5, ph_6⟩ H locs e_q_4 hP hD hS => ?_)
    obtain ⟨e_r_3, e_q_4⟩ := e_q_4
    obtain ⟨e_g_5, e_ph_6⟩ : g_5 = (f_X0_receive g ph k_2 a).2.1 ∧ ph_6 = (f_X0_receive g ph k_2 a).2.2 := ⟨congrArg Prod.fst e_q_4, congrArg Prod.snd e_q_4⟩
    clear e_q_4
    dsimp only at hP hD
    exact pr_iret (g_5, ph_6) hx hb hr hlocks hP hD hS dX2_grind_21 (by subst e_ph_6 e_g_5 e_r_3; refine ⟨?_, ?_⟩ <;> (simp only [f_X2_grind, ← e_r_1] <;> rfl))
theorem inX2_carry_X0 : ∀ w ∈ u_ws RX0 TX0 8, w ∈ wsX2_carry := by decide +kernel
theorem inX2_carry_X2 : ∀ w ∈ u_ws RX2 TX2 14, w ∈ wsX2_carry := by decide +kernel
def f_X2_carry (g : pz_M) (ph : Nat → Option Nat) (a : Int32) : Int32 × pz_M × (Nat → Option Nat) :=
  match f_X1_here g ph with
  | none =>
    match f_X1_around g ph with
    | none =>
      (0, g, ph)
    | some k_4 =>
      (0, g, ph)
  | some k_2 =>
    match f_X1_around g ph with
    | none =>
      (0, g, ph)
    | some k_6 =>
      if a ≤ (g (10 + k_2) 2) then
        let g_7 := pz_st g (10 + k_2) 2 ((g (10 + k_2) 2) - a)
        let r_8 := (f_X0_receive g_7 ph k_6 a).1
        let g_10 := (f_X0_receive g_7 ph k_6 a).2.1
        let ph_11 := (f_X0_receive g_7 ph k_6 a).2.2
        (r_8, g_10, ph_11)
      else
        (4, g, ph)
set_option maxHeartbeats 4000000 in
set_option maxRecDepth 100000 in
theorem c_X2_carry {l : Launch} {dC : Nat → ClassId} {dI : Nat → Nat → Nat} {cl : Nat → ClassId} {ad : Nat → Nat} {ph : Nat → Option Nat} {o : Nat → Int64} {g h : pz_M} (a : Int32) (hw : pz_W g ph) : pz_Mi l dC dI cl yX2_carry wsX2_carry { frames := 1, cells := 0, slots := 0, locals := 21 } [.ref (ad 0), .int a] (pz_wd ad cl ph o g h) (fun u : pz_M × (Nat → Option Nat) => pz_wd ad cl u.2 o u.1 h) (fun r u => r = (f_X2_carry g ph a).1 ∧ u = (f_X2_carry g ph a).2) := by
  intro sz
  refine pr_ofW (Qc := pz_Qi dC dI _ _) (cb := cX2_carry) (maxL := 4) (ret := (some .int)) (by decide) rfl (Nat.le_of_ble_eq_true rfl) ?_
  intro p e s m below meth c A ls hx hb hml hr hlocks hts hown hK hP hD hS hA hl
  have hl : lv_has ls 4 [(0, .ref (ad 0)), (1, .int a)] := hl
  refine lv_aload_n hx hb dX2_carry_0 rfl (lv_at hl 0 rfl) ?_
  refine va_get (D := (dC, dI)) (ci := 4) (C := RX2) (T := TX2) (N := 14) hx hb hts inX2_carry_X2 hown hK.1 hP 0 pz_a0 rfl 1 (by decide) (hts (.fieldLink RX2 18 "PowderMill" "path" "LPowderMill$Path;") (by decide +kernel)) (fun _ h9 => h9) rfl dX2_carry_1 ?_
  refine pr_Ve (As := []) (rest := []) ⟨hx, hb, hml, hown, hts⟩ (c_X1_here hw) (cwV 0 hts gX2_carry_X1_here rfl rfl rfl (by decide +kernel) ⟨Nat.le_of_ble_eq_true rfl, Nat.le_of_ble_eq_true rfl⟩) (va_recv hK.1 hP (ci := 3) rfl pz_a2) hK hP hD hS hA rfl hl.1 rfl (Nat.le_of_ble_eq_true rfl) ⟨Nat.le_of_ble_eq_true rfl, Nat.le_of_ble_eq_true rfl⟩ dX2_carry_4 (fun r_1 _ H locs e_r_1 hP hD hS => ?_)
  cases r_1 with
  | none =>
    refine lv_astore_nN (lv' := [(2, .null), (0, .ref (ad 0)), (1, .int a)]) hx hb dX2_carry_7 rfl hl (by decide) rfl (fun ls hl => ?_)
    refine lv_aload_n hx hb dX2_carry_8 rfl (lv_at hl 1 rfl) ?_
    refine va_get (D := (dC, dI)) (ci := 4) (C := RX2) (T := TX2) (N := 14) hx hb hts inX2_carry_X2 hown hK.1 hP 0 pz_a0 rfl 1 (by decide) (hts (.fieldLink RX2 18 "PowderMill" "path" "LPowderMill$Path;") (by decide +kernel)) (fun _ h9 => h9) rfl dX2_carry_9 ?_
    refine pr_Ve (As := []) (rest := []) ⟨hx, hb, hml, hown, hts⟩ (c_X1_around hw) (cwV 0 hts gX2_carry_X1_around rfl rfl rfl (by decide +kernel) ⟨Nat.le_of_ble_eq_true rfl, Nat.le_of_ble_eq_true rfl⟩) (va_recv hK.1 hP (ci := 3) rfl pz_a2) hK hP hD hS hA rfl hl.1 rfl (Nat.le_of_ble_eq_true rfl) ⟨Nat.le_of_ble_eq_true rfl, Nat.le_of_ble_eq_true rfl⟩ dX2_carry_12 (fun r_3 _ H locs e_r_3 hP hD hS => ?_)
    cases r_3 with
    | none =>
      refine lv_astore_nN (lv' := [(3, .null), (2, .null), (0, .ref (ad 0)), (1, .int a)]) hx hb dX2_carry_15 rfl hl (by decide) rfl (fun ls hl => ?_)
      refine lv_aload_nN hx hb dX2_carry_16 rfl (lv_at hl 1 rfl) ?_
      refine lv_ifnullN (tgt := 24) hx hb dX2_carry_17 (by decide) ?_
      refine lv_iconst (v := 0) hx hb dX2_carry_24 (by decide) ?_
      exact pr_iret (g, ph) hx hb hr hlocks hP hD hS dX2_carry_25 (by refine ⟨?_, ?_⟩ <;> (simp only [f_X2_carry, ← e_r_1, ← e_r_3] <;> rfl))
    | some k_4 =>
      have hk_4 : k_4 < 8 := pz_around8 hw e_r_3
      refine lv_astore_n (lv' := [(3, .ref (ad (10 + k_4))), (2, .null), (0, .ref (ad 0)), (1, .int a)]) hx hb dX2_carry_15 rfl hl (by decide) rfl (fun ls hl => ?_)
      refine lv_aload_nN hx hb dX2_carry_16 rfl (lv_at hl 1 rfl) ?_
      refine lv_ifnullN (tgt := 24) hx hb dX2_carry_17 (by decide) ?_
      refine lv_iconst (v := 0) hx hb dX2_carry_24 (by decide) ?_
      exact pr_iret (g, ph) hx hb hr hlocks hP hD hS dX2_carry_25 (by refine ⟨?_, ?_⟩ <;> (simp only [f_X2_carry, ← e_r_1, ← e_r_3] <;> rfl))
  | some k_2 =>
    have hk_2 : k_2 < 8 := pz_here8 hw e_r_1
    refine lv_astore_n (lv' := [(2, .ref (ad (10 + k_2))), (0, .ref (ad 0)), (1, .int a)]) hx hb dX2_carry_7 rfl hl (by decide) rfl (fun ls hl => ?_)
    refine lv_aload_n hx hb dX2_carry_8 rfl (lv_at hl 1 rfl) ?_
    refine va_get (D := (dC, dI)) (ci := 4) (C := RX2) (T := TX2) (N := 14) hx hb hts inX2_carry_X2 hown hK.1 hP 0 pz_a0 rfl 1 (by decide) (hts (.fieldLink RX2 18 "PowderMill" "path" "LPowderMill$Path;") (by decide +kernel)) (fun _ h9 => h9) rfl dX2_carry_9 ?_
    refine pr_Ve (As := []) (rest := []) ⟨hx, hb, hml, hown, hts⟩ (c_X1_around hw) (cwV 0 hts gX2_carry_X1_around rfl rfl rfl (by decide +kernel) ⟨Nat.le_of_ble_eq_true rfl, Nat.le_of_ble_eq_true rfl⟩) (va_recv hK.1 hP (ci := 3) rfl pz_a2) hK hP hD hS hA rfl hl.1 rfl (Nat.le_of_ble_eq_true rfl) ⟨Nat.le_of_ble_eq_true rfl, Nat.le_of_ble_eq_true rfl⟩ dX2_carry_12 (fun r_5 _ H locs e_r_5 hP hD hS => ?_)
    cases r_5 with
    | none =>
      refine lv_astore_nN (lv' := [(3, .null), (2, .ref (ad (10 + k_2))), (0, .ref (ad 0)), (1, .int a)]) hx hb dX2_carry_15 rfl hl (by decide) rfl (fun ls hl => ?_)
      refine lv_aload_n hx hb dX2_carry_16 rfl (lv_at hl 1 rfl) ?_
      refine lv_ifnull hx hb dX2_carry_17 ?_
      refine lv_aload_nN hx hb dX2_carry_20 rfl (lv_at hl 0 rfl) ?_
      refine lv_ifnonnullN hx hb dX2_carry_21 ?_
      refine lv_iconst (v := 0) hx hb dX2_carry_24 (by decide) ?_
      exact pr_iret (g, ph) hx hb hr hlocks hP hD hS dX2_carry_25 (by refine ⟨?_, ?_⟩ <;> (simp only [f_X2_carry, ← e_r_1, ← e_r_5] <;> rfl))
    | some k_6 =>
      have hk_6 : k_6 < 8 := pz_around8 hw e_r_5
      refine lv_astore_n (lv' := [(3, .ref (ad (10 + k_6))), (2, .ref (ad (10 + k_2))), (0, .ref (ad 0)), (1, .int a)]) hx hb dX2_carry_15 rfl hl (by decide) rfl (fun ls hl => ?_)
      refine lv_aload_n hx hb dX2_carry_16 rfl (lv_at hl 1 rfl) ?_
      refine lv_ifnull hx hb dX2_carry_17 ?_
      refine lv_aload_n hx hb dX2_carry_20 rfl (lv_at hl 0 rfl) ?_
      refine lv_ifnonnull (tgt := 26) hx hb dX2_carry_21 (by decide) ?_
      refine lv_aload_n hx hb dX2_carry_26 rfl (lv_at hl 1 rfl) ?_
      refine va_getN (D := (dC, dI)) (ci := 2) (C := RX0) (T := TX0) (N := 8) hx hb hts inX2_carry_X0 hown hK.1 hP (10 + k_2) (pz_aH hk_2) rfl 2 (by decide) (va_Nw.use rfl hK.2.1) (fun _ h9 => h9) rfl dX2_carry_27 ?_
      refine lv_iload_n hx hb dX2_carry_30 rfl (lv_at hl 3 rfl) ?_
      refine lv_icmp_ge (tgt := 36) hx hb dX2_carry_31 (by decide) (fun c_31 => ?_) (fun c_31 => ?_)
      · refine lv_aload_n hx hb dX2_carry_36 rfl (lv_at hl 1 rfl) ?_
        refine lv_dup hx hb dX2_carry_37 rfl ?_
        refine va_getN (D := (dC, dI)) (ci := 2) (C := RX0) (T := TX0) (N := 8) hx hb hts inX2_carry_X0 hown hK.1 hP (10 + k_2) (pz_aH hk_2) rfl 2 (by decide) (va_Nw.use rfl hK.2.1) (fun _ h9 => h9) rfl dX2_carry_38 ?_
        refine lv_iload_n hx hb dX2_carry_41 rfl (lv_at hl 3 rfl) ?_
        refine lv_isub hx hb dX2_carry_42 ?_
        refine pr_putN (ci := 2) (C := RX0) (T := TX0) (N := 8) (ty := .int) (v := ((g (10 + k_2) 2) - a)) hx hb hts inX2_carry_X0 tyX0 tyX0_ok nmX0 hown hK.1 hP hD hS (10 + k_2) (by have := hk_2; omega) (pz_aH hk_2) rfl 2 (by decide) (va_Nw.use rfl hK.2.1) (fun _ h9 => h9) rfl (by decide +kernel) rfl rfl (Nat.le_of_ble_eq_true rfl) (by rw [pz_ceH hk_2]; rfl) dX2_carry_43 (fun g_7 H locs e_g_7 hP hD hS => ?_)
        refine lv_aload_n hx hb dX2_carry_46 rfl (lv_at hl 0 rfl) ?_
        refine lv_iload_n hx hb dX2_carry_47 rfl (lv_at hl 3 rfl) ?_
        refine pr_Vi (As := [.int a]) (rest := []) ⟨hx, hb, hml, hown, hts⟩ (c_X0_receive k_6 a hk_6) (cwV 1 hts gX2_carry_X0_receive rfl rfl rfl (by decide +kernel) ⟨Nat.le_of_ble_eq_true rfl, Nat.le_of_ble_eq_true rfl⟩) (va_recv hK.1 hP (ci := 2) rfl (pz_aH hk_6)) hK hP hD hS hA rfl hl.1 rfl (Nat.le_of_ble_eq_true rfl) ⟨Nat.le_of_ble_eq_true rfl, Nat.le_of_ble_eq_true rfl⟩ dX2_carry_48 (fun r_8 ⟨g_10, ph_11⟩ H locs e_q_9 hP hD hS => ?_)
        obtain ⟨e_r_8, e_q_9⟩ := e_q_9
        obtain ⟨e_g_10, e_ph_11⟩ : g_10 = (f_X0_receive g_7 ph k_6 a).2.1 ∧ ph_11 = (f_X0_receive g_7 ph k_6 a).2.2 := ⟨congrArg Prod.fst e_q_9, congrArg Prod.snd e_q_9⟩
        clear e_q_9
        dsimp only at hP hD
        exact pr_iret (g_10, ph_11) hx hb hr hlocks hP hD hS dX2_carry_51 (by subst e_ph_11 e_g_10 e_r_8 e_g_7; refine ⟨?_, ?_⟩ <;> (simp only [f_X2_carry, if_pos c_31, ← e_r_1, ← e_r_5] <;> rfl))
      · refine lv_iconst (v := 4) hx hb dX2_carry_34 (by decide) ?_
        exact pr_iret (g, ph) hx hb hr hlocks hP hD hS dX2_carry_35 (by refine ⟨?_, ?_⟩ <;> (simp only [f_X2_carry, if_neg c_31, ← e_r_1, ← e_r_5] <;> rfl))
theorem inX2_share_X0 : ∀ w ∈ u_ws RX0 TX0 8, w ∈ wsX2_share := by decide +kernel
theorem inX2_share_X2 : ∀ w ∈ u_ws RX2 TX2 14, w ∈ wsX2_share := by decide +kernel
def f_X2_share (g : pz_M) (ph : Nat → Option Nat) (a : Int32) : Int32 × pz_M × (Nat → Option Nat) :=
  match f_X1_here g ph with
  | none =>
    (0, g, ph)
  | some k_2 =>
    if a = 0 then
      (5, g, ph)
    else
      let g_3 := pz_st g (10 + k_2) 2 ((g (10 + k_2) 2) / a)
      (0, g_3, ph)
set_option maxHeartbeats 4000000 in
set_option maxRecDepth 100000 in
theorem c_X2_share {l : Launch} {dC : Nat → ClassId} {dI : Nat → Nat → Nat} {cl : Nat → ClassId} {ad : Nat → Nat} {ph : Nat → Option Nat} {o : Nat → Int64} {g h : pz_M} (a : Int32) (hw : pz_W g ph) : pz_Mi l dC dI cl yX2_share wsX2_share { frames := 1, cells := 0, slots := 0, locals := 20 } [.ref (ad 0), .int a] (pz_wd ad cl ph o g h) (fun u : pz_M × (Nat → Option Nat) => pz_wd ad cl u.2 o u.1 h) (fun r u => r = (f_X2_share g ph a).1 ∧ u = (f_X2_share g ph a).2) := by
  intro sz
  refine pr_ofW (Qc := pz_Qi dC dI _ _) (cb := cX2_share) (maxL := 3) (ret := (some .int)) (by decide) rfl (Nat.le_of_ble_eq_true rfl) ?_
  intro p e s m below meth c A ls hx hb hml hr hlocks hts hown hK hP hD hS hA hl
  have hl : lv_has ls 3 [(0, .ref (ad 0)), (1, .int a)] := hl
  refine lv_aload_n hx hb dX2_share_0 rfl (lv_at hl 0 rfl) ?_
  refine va_get (D := (dC, dI)) (ci := 4) (C := RX2) (T := TX2) (N := 14) hx hb hts inX2_share_X2 hown hK.1 hP 0 pz_a0 rfl 1 (by decide) (hts (.fieldLink RX2 18 "PowderMill" "path" "LPowderMill$Path;") (by decide +kernel)) (fun _ h9 => h9) rfl dX2_share_1 ?_
  refine pr_Ve (As := []) (rest := []) ⟨hx, hb, hml, hown, hts⟩ (c_X1_here hw) (cwV 0 hts gX2_share_X1_here rfl rfl rfl (by decide +kernel) ⟨Nat.le_of_ble_eq_true rfl, Nat.le_of_ble_eq_true rfl⟩) (va_recv hK.1 hP (ci := 3) rfl pz_a2) hK hP hD hS hA rfl hl.1 rfl (Nat.le_of_ble_eq_true rfl) ⟨Nat.le_of_ble_eq_true rfl, Nat.le_of_ble_eq_true rfl⟩ dX2_share_4 (fun r_1 _ H locs e_r_1 hP hD hS => ?_)
  cases r_1 with
  | none =>
    refine lv_astore_nN (lv' := [(2, .null), (0, .ref (ad 0)), (1, .int a)]) hx hb dX2_share_7 rfl hl (by decide) rfl (fun ls hl => ?_)
    refine lv_aload_nN hx hb dX2_share_8 rfl (lv_at hl 0 rfl) ?_
    refine lv_ifnonnullN hx hb dX2_share_9 ?_
    refine lv_iconst (v := 0) hx hb dX2_share_12 (by decide) ?_
    exact pr_iret (g, ph) hx hb hr hlocks hP hD hS dX2_share_13 (by refine ⟨?_, ?_⟩ <;> (simp only [f_X2_share, ← e_r_1] <;> rfl))
  | some k_2 =>
    have hk_2 : k_2 < 8 := pz_here8 hw e_r_1
    refine lv_astore_n (lv' := [(2, .ref (ad (10 + k_2))), (0, .ref (ad 0)), (1, .int a)]) hx hb dX2_share_7 rfl hl (by decide) rfl (fun ls hl => ?_)
    refine lv_aload_n hx hb dX2_share_8 rfl (lv_at hl 0 rfl) ?_
    refine lv_ifnonnull (tgt := 14) hx hb dX2_share_9 (by decide) ?_
    refine lv_iload_n hx hb dX2_share_14 rfl (lv_at hl 2 rfl) ?_
    refine lv_if_ne (tgt := 20) hx hb dX2_share_15 (by decide) (fun c_15 => ?_) (fun c_15 => ?_)
    · refine lv_aload_n hx hb dX2_share_20 rfl (lv_at hl 0 rfl) ?_
      refine lv_dup hx hb dX2_share_21 rfl ?_
      refine va_getN (D := (dC, dI)) (ci := 2) (C := RX0) (T := TX0) (N := 8) hx hb hts inX2_share_X0 hown hK.1 hP (10 + k_2) (pz_aH hk_2) rfl 2 (by decide) (va_Nw.use rfl hK.2.1) (fun _ h9 => h9) rfl dX2_share_22 ?_
      refine lv_iload_n hx hb dX2_share_25 rfl (lv_at hl 2 rfl) ?_
      refine lv_idiv hx hb dX2_share_26 c_15 ?_
      refine pr_putN (ci := 2) (C := RX0) (T := TX0) (N := 8) (ty := .int) (v := ((g (10 + k_2) 2) / a)) hx hb hts inX2_share_X0 tyX0 tyX0_ok nmX0 hown hK.1 hP hD hS (10 + k_2) (by have := hk_2; omega) (pz_aH hk_2) rfl 2 (by decide) (va_Nw.use rfl hK.2.1) (fun _ h9 => h9) rfl (by decide +kernel) rfl rfl (Nat.le_of_ble_eq_true rfl) (by rw [pz_ceH hk_2]; rfl) dX2_share_27 (fun g_3 H locs e_g_3 hP hD hS => ?_)
      refine lv_iconst (v := 0) hx hb dX2_share_30 (by decide) ?_
      exact pr_iret (g_3, ph) hx hb hr hlocks hP hD hS dX2_share_31 (by subst e_g_3; refine ⟨?_, ?_⟩ <;> (simp only [f_X2_share, if_neg c_15, ← e_r_1] <;> rfl))
    · refine lv_iconst (v := 5) hx hb dX2_share_18 (by decide) ?_
      exact pr_iret (g, ph) hx hb hr hlocks hP hD hS dX2_share_19 (by refine ⟨?_, ?_⟩ <;> (simp only [f_X2_share, if_pos c_15, ← e_r_1] <;> rfl))
theorem inX2_write_X0 : ∀ w ∈ u_ws RX0 TX0 8, w ∈ wsX2_write := by decide +kernel
theorem inX2_write_X2 : ∀ w ∈ u_ws RX2 TX2 14, w ∈ wsX2_write := by decide +kernel
def f_X2_write (g : pz_M) (ph : Nat → Option Nat) (a : Int32) : Int32 × pz_M × (Nat → Option Nat) :=
  let r_1 := f_X2_isRow a
  if r_1 = 0 then
    (6, g, ph)
  else
    match f_X1_here g ph with
    | none =>
      let g_4 := pz_st g 3 a.toNatClampNeg (-1)
      (0, g_4, ph)
    | some k_3 =>
      let g_5 := pz_st g 3 a.toNatClampNeg (g (10 + k_3) 2)
      (0, g_5, ph)
set_option maxHeartbeats 4000000 in
set_option maxRecDepth 100000 in
theorem c_X2_write {l : Launch} {dC : Nat → ClassId} {dI : Nat → Nat → Nat} {cl : Nat → ClassId} {ad : Nat → Nat} {ph : Nat → Option Nat} {o : Nat → Int64} {g h : pz_M} (a : Int32) (hw : pz_W g ph) : pz_Mi l dC dI cl yX2_write wsX2_write { frames := 1, cells := 0, slots := 0, locals := 20 } [.ref (ad 0), .int a] (pz_wd ad cl ph o g h) (fun u : pz_M × (Nat → Option Nat) => pz_wd ad cl u.2 o u.1 h) (fun r u => r = (f_X2_write g ph a).1 ∧ u = (f_X2_write g ph a).2) := by
  intro sz
  refine pr_ofW (Qc := pz_Qi dC dI _ _) (cb := cX2_write) (maxL := 3) (ret := (some .int)) (by decide) rfl (Nat.le_of_ble_eq_true rfl) ?_
  intro p e s m below meth c A ls hx hb hml hr hlocks hts hown hK hP hD hS hA hl
  have hl : lv_has ls 3 [(0, .ref (ad 0)), (1, .int a)] := hl
  refine lv_iload_n hx hb dX2_write_0 rfl (lv_at hl 1 rfl) ?_
  refine pr_Si (As := [.int a]) (rest := []) ⟨hx, hb, hml, hown, hts⟩ (c_X2_isRow a) (va_cwS 1 hts gX2_write_X2_isRow rfl rfl rfl (by decide +kernel) ⟨Nat.le_of_ble_eq_true rfl, Nat.le_of_ble_eq_true rfl⟩) hK hP hD hS hA rfl hl.1 rfl (Nat.le_of_ble_eq_true rfl) ⟨Nat.le_of_ble_eq_true rfl, Nat.le_of_ble_eq_true rfl⟩ dX2_write_1 (fun r_1 _ H locs e_r_1 hP hD hS => ?_)
  refine lv_if_ne (tgt := 10) hx hb dX2_write_4 (by decide) (fun c_4 => ?_) (fun c_4 => ?_)
  · have i1 : vp_in a 8 := pz_row (by rw [← e_r_1]; exact c_4)
    refine lv_aload_n hx hb dX2_write_10 rfl (lv_at hl 0 rfl) ?_
    refine va_get (D := (dC, dI)) (ci := 4) (C := RX2) (T := TX2) (N := 14) hx hb hts inX2_write_X2 hown hK.1 hP 0 pz_a0 rfl 1 (by decide) (hts (.fieldLink RX2 18 "PowderMill" "path" "LPowderMill$Path;") (by decide +kernel)) (fun _ h9 => h9) rfl dX2_write_11 ?_
    refine pr_Ve (As := []) (rest := []) ⟨hx, hb, hml, hown, hts⟩ (c_X1_here hw) (cwV 0 hts gX2_write_X1_here rfl rfl rfl (by decide +kernel) ⟨Nat.le_of_ble_eq_true rfl, Nat.le_of_ble_eq_true rfl⟩) (va_recv hK.1 hP (ci := 3) rfl pz_a2) hK hP hD hS hA rfl hl.1 rfl (Nat.le_of_ble_eq_true rfl) ⟨Nat.le_of_ble_eq_true rfl, Nat.le_of_ble_eq_true rfl⟩ dX2_write_14 (fun r_2 _ H locs e_r_2 hP hD hS => ?_)
    cases r_2 with
    | none =>
      refine lv_astore_nN (lv' := [(2, .null), (0, .ref (ad 0)), (1, .int a)]) hx hb dX2_write_17 rfl hl (by decide) rfl (fun ls hl => ?_)
      refine lv_aload_n hx hb dX2_write_18 rfl (lv_at hl 1 rfl) ?_
      refine va_get (D := (dC, dI)) (ci := 4) (C := RX2) (T := TX2) (N := 14) hx hb hts inX2_write_X2 hown hK.1 hP 0 pz_a0 rfl 2 (by decide) (hts (.fieldLink RX2 22 "PowderMill" "ledger" "[I") (by decide +kernel)) (fun _ h9 => h9) rfl dX2_write_19 ?_
      refine lv_iload_n hx hb dX2_write_22 rfl (lv_at hl 2 rfl) ?_
      refine lv_aload_nN hx hb dX2_write_23 rfl (lv_at hl 0 rfl) ?_
      refine lv_ifnonnullN hx hb dX2_write_24 ?_
      refine lv_iconst (v := (-1)) hx hb dX2_write_27 (by decide) ?_
      refine lv_goto (tgt := 35) hx hb dX2_write_28 (by decide) ?_
      refine pr_iastC hx hb hK.1 hP hD hS 3 (by omega) pz_a3 (fun _ => rfl) i1 dX2_write_35 (fun g_4 H locs e_g_4 hP hD hS => ?_)
      refine lv_iconst (v := 0) hx hb dX2_write_36 (by decide) ?_
      exact pr_iret (g_4, ph) hx hb hr hlocks hP hD hS dX2_write_37 (by subst e_g_4 e_r_1; refine ⟨?_, ?_⟩ <;> (simp only [f_X2_write, if_neg c_4, ← e_r_2] <;> rfl))
    | some k_3 =>
      have hk_3 : k_3 < 8 := pz_here8 hw e_r_2
      refine lv_astore_n (lv' := [(2, .ref (ad (10 + k_3))), (0, .ref (ad 0)), (1, .int a)]) hx hb dX2_write_17 rfl hl (by decide) rfl (fun ls hl => ?_)
      refine lv_aload_n hx hb dX2_write_18 rfl (lv_at hl 1 rfl) ?_
      refine va_get (D := (dC, dI)) (ci := 4) (C := RX2) (T := TX2) (N := 14) hx hb hts inX2_write_X2 hown hK.1 hP 0 pz_a0 rfl 2 (by decide) (hts (.fieldLink RX2 22 "PowderMill" "ledger" "[I") (by decide +kernel)) (fun _ h9 => h9) rfl dX2_write_19 ?_
      refine lv_iload_n hx hb dX2_write_22 rfl (lv_at hl 2 rfl) ?_
      refine lv_aload_n hx hb dX2_write_23 rfl (lv_at hl 0 rfl) ?_
      refine lv_ifnonnull (tgt := 31) hx hb dX2_write_24 (by decide) ?_
      refine lv_aload_n hx hb dX2_write_31 rfl (lv_at hl 0 rfl) ?_
      refine va_getN (D := (dC, dI)) (ci := 2) (C := RX0) (T := TX0) (N := 8) hx hb hts inX2_write_X0 hown hK.1 hP (10 + k_3) (pz_aH hk_3) rfl 2 (by decide) (va_Nw.use rfl hK.2.1) (fun _ h9 => h9) rfl dX2_write_32 ?_
      refine pr_iastC hx hb hK.1 hP hD hS 3 (by omega) pz_a3 (fun _ => rfl) i1 dX2_write_35 (fun g_5 H locs e_g_5 hP hD hS => ?_)
      refine lv_iconst (v := 0) hx hb dX2_write_36 (by decide) ?_
      exact pr_iret (g_5, ph) hx hb hr hlocks hP hD hS dX2_write_37 (by subst e_g_5 e_r_1; refine ⟨?_, ?_⟩ <;> (simp only [f_X2_write, if_neg c_4, ← e_r_2] <;> rfl))
  · refine lv_bipush (v := 6) hx hb dX2_write_7 (by decide) ?_
    exact pr_iret (g, ph) hx hb hr hlocks hP hD hS dX2_write_9 (by subst e_r_1; refine ⟨?_, ?_⟩ <;> (simp only [f_X2_write, if_pos c_4] <;> rfl))
end
section
theorem pz_fm8 {a r : Int32} (h : r = f_J9_floorMod_7cf53 a 8) : vp_in r 8 := by
  obtain ⟨j, hj, e⟩ := pz_fm a (n := 8) (by decide) (by decide)
  rw [h, show f_J9_floorMod_7cf53 a 8 = nI j from e]
  exact vp_in_nI hj (by decide)
theorem inX2_perform_X2 : ∀ w ∈ u_ws RX2 TX2 14, w ∈ wsX2_perform := by decide +kernel
def f_X2_perform (g : pz_M) (ph : Nat → Option Nat) (a : Int32) : Int32 × pz_M × (Nat → Option Nat) :=
  if (g 4 a.toNatClampNeg) = 0 then
    let r_1 := f_J9_floorMod_7cf53 (g 5 a.toNatClampNeg) 8
    let r_2 := (f_X2_goIn g ph r_1 a).1
    let g_4 := (f_X2_goIn g ph r_1 a).2.1
    let ph_5 := (f_X2_goIn g ph r_1 a).2.2
    (r_2, g_4, ph_5)
  else
    if (g 4 a.toNatClampNeg) = 1 then
      let g_8 := (f_X1_leaveHere g ph).1
      let ph_9 := (f_X1_leaveHere g ph).2
      (0, g_8, ph_9)
    else
      if (g 4 a.toNatClampNeg) = 2 then
        let r_10 := f_J9_floorMod_7cf53 (g 5 a.toNatClampNeg) 1000
        let r_11 := (f_X2_grind g ph r_10).1
        let g_13 := (f_X2_grind g ph r_10).2.1
        let ph_14 := (f_X2_grind g ph r_10).2.2
        (r_11, g_13, ph_14)
      else
        if (g 4 a.toNatClampNeg) = 3 then
          let r_15 := f_J9_floorMod_7cf53 (g 5 a.toNatClampNeg) 1000
          let r_16 := (f_X2_carry g ph r_15).1
          let g_18 := (f_X2_carry g ph r_15).2.1
          let ph_19 := (f_X2_carry g ph r_15).2.2
          (r_16, g_18, ph_19)
        else
          if (g 4 a.toNatClampNeg) = 4 then
            let r_20 := f_J9_floorMod_7cf53 (g 5 a.toNatClampNeg) 10
            let r_21 := (f_X2_share g ph r_20).1
            let g_23 := (f_X2_share g ph r_20).2.1
            let ph_24 := (f_X2_share g ph r_20).2.2
            (r_21, g_23, ph_24)
          else
            if (g 4 a.toNatClampNeg) = 5 then
              let r_25 := (f_X2_write g ph (g 5 a.toNatClampNeg)).1
              let g_27 := (f_X2_write g ph (g 5 a.toNatClampNeg)).2.1
              let ph_28 := (f_X2_write g ph (g 5 a.toNatClampNeg)).2.2
              (r_25, g_27, ph_28)
            else
              if (g 4 a.toNatClampNeg) = 6 then
                (0, g, ph)
              else
                if (g 4 a.toNatClampNeg) = 7 then
                  let r_29 := f_J9_floorMod_7cf53 (g 5 a.toNatClampNeg) 4
                  let g_30 := pz_st g 0 6 ((g 0 6) + r_29)
                  (0, g_30, ph)
                else
                  if (g 4 a.toNatClampNeg) = 8 then
                    let r_31 := f_J9_floorMod_7cf53 (g 5 a.toNatClampNeg) 4
                    let r_32 := (f_X1_stepBehindAgain g ph r_31 (g 0 6)).1
                    let g_34 := (f_X1_stepBehindAgain g ph r_31 (g 0 6)).2.1
                    let ph_35 := (f_X1_stepBehindAgain g ph r_31 (g 0 6)).2.2
                    let g_36 := pz_st g_34 0 6 r_32
                    (0, g_36, ph_35)
                  else
                    (0, g, ph)
set_option maxHeartbeats 4000000 in
set_option maxRecDepth 100000 in
theorem c_X2_perform {l : Launch} {dC : Nat → ClassId} {dI : Nat → Nat → Nat} {cl : Nat → ClassId} {ad : Nat → Nat} {ph : Nat → Option Nat} {o : Nat → Int64} {g h : pz_M} (a : Int32) (hw : pz_W g ph) (ha : vp_in a 30) : pz_Mi l dC dI cl yX2_perform wsX2_perform { frames := 2, cells := 0, slots := 0, locals := 44 } [.ref (ad 0), .int a] (pz_wd ad cl ph o g h) (fun u : pz_M × (Nat → Option Nat) => pz_wd ad cl u.2 o u.1 h) (fun r u => r = (f_X2_perform g ph a).1 ∧ u = (f_X2_perform g ph a).2) := by
  intro sz
  refine pr_ofW (Qc := pz_Qi dC dI _ _) (cb := cX2_perform) (maxL := 3) (ret := (some .int)) (by decide) rfl (Nat.le_of_ble_eq_true rfl) ?_
  intro p e s m below meth c A ls hx hb hml hr hlocks hts hown hK hP hD hS hA hl
  have hl : lv_has ls 3 [(0, .ref (ad 0)), (1, .int a)] := hl
  refine lv_aload_n hx hb dX2_perform_0 rfl (lv_at hl 0 rfl) ?_
  refine va_get (D := (dC, dI)) (ci := 4) (C := RX2) (T := TX2) (N := 14) hx hb hts inX2_perform_X2 hown hK.1 hP 0 pz_a0 rfl 4 (by decide) (hts (.fieldLink RX2 29 "PowderMill" "numbers" "[I") (by decide +kernel)) (fun _ h9 => h9) rfl dX2_perform_1 ?_
  refine lv_iload_n hx hb dX2_perform_4 rfl (lv_at hl 1 rfl) ?_
  refine va_iald hx hb hK.1 hP 5 0 pz_a5 rfl ha dX2_perform_5 ?_
  refine lv_istore_n (lv' := [(2, .int (g 5 a.toNatClampNeg)), (0, .ref (ad 0)), (1, .int a)]) hx hb dX2_perform_6 rfl hl (by decide) rfl (fun ls hl => ?_)
  refine lv_aload_n hx hb dX2_perform_7 rfl (lv_at hl 1 rfl) ?_
  refine va_get (D := (dC, dI)) (ci := 4) (C := RX2) (T := TX2) (N := 14) hx hb hts inX2_perform_X2 hown hK.1 hP 0 pz_a0 rfl 3 (by decide) (hts (.fieldLink RX2 26 "PowderMill" "acts" "[I") (by decide +kernel)) (fun _ h9 => h9) rfl dX2_perform_8 ?_
  refine lv_iload_n hx hb dX2_perform_11 rfl (lv_at hl 2 rfl) ?_
  refine va_iald hx hb hK.1 hP 4 0 pz_a4 rfl ha dX2_perform_12 ?_
  by_cases t_13_0 : (g 4 a.toNatClampNeg) = 0
  · refine pr_tabIn (ki := 0) (tgt := 64) hx hb dX2_perform_13 t_13_0 (by rfl) (by decide) (by decide) (by rfl) (by decide) ?_
    refine lv_aload_n hx hb dX2_perform_64 rfl (lv_at hl 1 rfl) ?_
    refine lv_iload_n hx hb dX2_perform_65 rfl (lv_at hl 0 rfl) ?_
    refine lv_bipush (v := 8) hx hb dX2_perform_66 (by decide) ?_
    refine pr_Si (As := [.int (g 5 a.toNatClampNeg), .int 8]) (rest := [.ref (ad 0)]) ⟨hx, hb, hml, hown, hts⟩ (c_J9_floorMod_7cf53 (g 5 a.toNatClampNeg) 8 (by decide)) (va_cwS 2 hts gX2_perform_J9_floorMod_7cf53 rfl rfl rfl (by decide +kernel) ⟨Nat.le_of_ble_eq_true rfl, Nat.le_of_ble_eq_true rfl⟩) hK hP hD hS hA rfl hl.1 rfl (Nat.le_of_ble_eq_true rfl) ⟨Nat.le_of_ble_eq_true rfl, Nat.le_of_ble_eq_true rfl⟩ dX2_perform_68 (fun r_1 _ H locs e_r_1 hP hD hS => ?_)
    refine lv_iload_n hx hb dX2_perform_71 rfl (lv_at hl 2 rfl) ?_
    refine pr_Vi (As := [.int r_1, .int a]) (rest := []) ⟨hx, hb, hml, hown, hts⟩ (c_X2_goIn r_1 a hw (pz_fm8 e_r_1)) (cwV 2 hts gX2_perform_X2_goIn rfl rfl rfl (by decide +kernel) ⟨Nat.le_of_ble_eq_true rfl, Nat.le_of_ble_eq_true rfl⟩) (va_recv hK.1 hP (ci := 4) rfl pz_a0) hK hP hD hS hA rfl hl.1 rfl (Nat.le_of_ble_eq_true rfl) ⟨Nat.le_of_ble_eq_true rfl, Nat.le_of_ble_eq_true rfl⟩ dX2_perform_72 (fun r_2 ⟨g_4, ph_5⟩ H locs e_q_3 hP hD hS => ?_)
    obtain ⟨e_r_2, e_q_3⟩ := e_q_3
    obtain ⟨e_g_4, e_ph_5⟩ : g_4 = (f_X2_goIn g ph r_1 a).2.1 ∧ ph_5 = (f_X2_goIn g ph r_1 a).2.2 := ⟨congrArg Prod.fst e_q_3, congrArg Prod.snd e_q_3⟩
    clear e_q_3
    dsimp only at hP hD
    exact pr_iret (g_4, ph_5) hx hb hr hlocks hP hD hS dX2_perform_75 (by subst e_ph_5 e_g_4 e_r_2 e_r_1; refine ⟨?_, ?_⟩ <;> (simp only [f_X2_perform, if_pos t_13_0] <;> rfl))
  by_cases t_13_1 : (g 4 a.toNatClampNeg) = 1
  · refine pr_tabIn (ki := 1) (tgt := 76) hx hb dX2_perform_13 t_13_1 (by rfl) (by decide) (by decide) (by rfl) (by decide) ?_
    refine lv_aload_n hx hb dX2_perform_76 rfl (lv_at hl 1 rfl) ?_
    refine va_get (D := (dC, dI)) (ci := 4) (C := RX2) (T := TX2) (N := 14) hx hb hts inX2_perform_X2 hown hK.1 hP 0 pz_a0 rfl 1 (by decide) (hts (.fieldLink RX2 18 "PowderMill" "path" "LPowderMill$Path;") (by decide +kernel)) (fun _ h9 => h9) rfl dX2_perform_77 ?_
    refine pr_Vv (As := []) (rest := []) ⟨hx, hb, hml, hown, hts⟩ (c_X1_leaveHere hw) (cwV 0 hts gX2_perform_X1_leaveHere rfl rfl rfl (by decide +kernel) ⟨Nat.le_of_ble_eq_true rfl, Nat.le_of_ble_eq_true rfl⟩) (va_recv hK.1 hP (ci := 3) rfl pz_a2) hK hP hD hS hA rfl hl.1 rfl (Nat.le_of_ble_eq_true rfl) ⟨Nat.le_of_ble_eq_true rfl, Nat.le_of_ble_eq_true rfl⟩ dX2_perform_80 (fun ⟨g_8, ph_9⟩ H locs e_q_7 hP hD hS => ?_)
    obtain ⟨e_g_8, e_ph_9⟩ : g_8 = (f_X1_leaveHere g ph).1 ∧ ph_9 = (f_X1_leaveHere g ph).2 := ⟨congrArg Prod.fst e_q_7, congrArg Prod.snd e_q_7⟩
    clear e_q_7
    dsimp only at hP hD
    refine lv_iconst (v := 0) hx hb dX2_perform_83 (by decide) ?_
    exact pr_iret (g_8, ph_9) hx hb hr hlocks hP hD hS dX2_perform_84 (by subst e_ph_9 e_g_8; refine ⟨?_, ?_⟩ <;> (simp only [f_X2_perform, if_neg t_13_0, if_pos t_13_1] <;> rfl))
  by_cases t_13_2 : (g 4 a.toNatClampNeg) = 2
  · refine pr_tabIn (ki := 2) (tgt := 85) hx hb dX2_perform_13 t_13_2 (by rfl) (by decide) (by decide) (by rfl) (by decide) ?_
    refine lv_aload_n hx hb dX2_perform_85 rfl (lv_at hl 1 rfl) ?_
    refine lv_iload_n hx hb dX2_perform_86 rfl (lv_at hl 0 rfl) ?_
    refine lv_sipush (v := 1000) hx hb dX2_perform_87 (by decide) ?_
    refine pr_Si (As := [.int (g 5 a.toNatClampNeg), .int 1000]) (rest := [.ref (ad 0)]) ⟨hx, hb, hml, hown, hts⟩ (c_J9_floorMod_7cf53 (g 5 a.toNatClampNeg) 1000 (by decide)) (va_cwS 2 hts gX2_perform_J9_floorMod_7cf53 rfl rfl rfl (by decide +kernel) ⟨Nat.le_of_ble_eq_true rfl, Nat.le_of_ble_eq_true rfl⟩) hK hP hD hS hA rfl hl.1 rfl (Nat.le_of_ble_eq_true rfl) ⟨Nat.le_of_ble_eq_true rfl, Nat.le_of_ble_eq_true rfl⟩ dX2_perform_90 (fun r_10 _ H locs e_r_10 hP hD hS => ?_)
    refine pr_Vi (As := [.int r_10]) (rest := []) ⟨hx, hb, hml, hown, hts⟩ (c_X2_grind r_10 hw) (cwV 1 hts gX2_perform_X2_grind rfl rfl rfl (by decide +kernel) ⟨Nat.le_of_ble_eq_true rfl, Nat.le_of_ble_eq_true rfl⟩) (va_recv hK.1 hP (ci := 4) rfl pz_a0) hK hP hD hS hA rfl hl.1 rfl (Nat.le_of_ble_eq_true rfl) ⟨Nat.le_of_ble_eq_true rfl, Nat.le_of_ble_eq_true rfl⟩ dX2_perform_93 (fun r_11 ⟨g_13, ph_14⟩ H locs e_q_12 hP hD hS => ?_)
    obtain ⟨e_r_11, e_q_12⟩ := e_q_12
    obtain ⟨e_g_13, e_ph_14⟩ : g_13 = (f_X2_grind g ph r_10).2.1 ∧ ph_14 = (f_X2_grind g ph r_10).2.2 := ⟨congrArg Prod.fst e_q_12, congrArg Prod.snd e_q_12⟩
    clear e_q_12
    dsimp only at hP hD
    exact pr_iret (g_13, ph_14) hx hb hr hlocks hP hD hS dX2_perform_96 (by subst e_ph_14 e_g_13 e_r_11 e_r_10; refine ⟨?_, ?_⟩ <;> (simp only [f_X2_perform, if_neg t_13_0, if_neg t_13_1, if_pos t_13_2] <;> rfl))
  by_cases t_13_3 : (g 4 a.toNatClampNeg) = 3
  · refine pr_tabIn (ki := 3) (tgt := 97) hx hb dX2_perform_13 t_13_3 (by rfl) (by decide) (by decide) (by rfl) (by decide) ?_
    refine lv_aload_n hx hb dX2_perform_97 rfl (lv_at hl 1 rfl) ?_
    refine lv_iload_n hx hb dX2_perform_98 rfl (lv_at hl 0 rfl) ?_
    refine lv_sipush (v := 1000) hx hb dX2_perform_99 (by decide) ?_
    refine pr_Si (As := [.int (g 5 a.toNatClampNeg), .int 1000]) (rest := [.ref (ad 0)]) ⟨hx, hb, hml, hown, hts⟩ (c_J9_floorMod_7cf53 (g 5 a.toNatClampNeg) 1000 (by decide)) (va_cwS 2 hts gX2_perform_J9_floorMod_7cf53 rfl rfl rfl (by decide +kernel) ⟨Nat.le_of_ble_eq_true rfl, Nat.le_of_ble_eq_true rfl⟩) hK hP hD hS hA rfl hl.1 rfl (Nat.le_of_ble_eq_true rfl) ⟨Nat.le_of_ble_eq_true rfl, Nat.le_of_ble_eq_true rfl⟩ dX2_perform_102 (fun r_15 _ H locs e_r_15 hP hD hS => ?_)
    refine pr_Vi (As := [.int r_15]) (rest := []) ⟨hx, hb, hml, hown, hts⟩ (c_X2_carry r_15 hw) (cwV 1 hts gX2_perform_X2_carry rfl rfl rfl (by decide +kernel) ⟨Nat.le_of_ble_eq_true rfl, Nat.le_of_ble_eq_true rfl⟩) (va_recv hK.1 hP (ci := 4) rfl pz_a0) hK hP hD hS hA rfl hl.1 rfl (Nat.le_of_ble_eq_true rfl) ⟨Nat.le_of_ble_eq_true rfl, Nat.le_of_ble_eq_true rfl⟩ dX2_perform_105 (fun r_16 ⟨g_18, ph_19⟩ H locs e_q_17 hP hD hS => ?_)
    obtain ⟨e_r_16, e_q_17⟩ := e_q_17
    obtain ⟨e_g_18, e_ph_19⟩ : g_18 = (f_X2_carry g ph r_15).2.1 ∧ ph_19 = (f_X2_carry g ph r_15).2.2 := ⟨congrArg Prod.fst e_q_17, congrArg Prod.snd e_q_17⟩
    clear e_q_17
    dsimp only at hP hD
    exact pr_iret (g_18, ph_19) hx hb hr hlocks hP hD hS dX2_perform_108 (by subst e_ph_19 e_g_18 e_r_16 e_r_15; refine ⟨?_, ?_⟩ <;> (simp only [f_X2_perform, if_neg t_13_0, if_neg t_13_1, if_neg t_13_2, if_pos t_13_3] <;> rfl))
  by_cases t_13_4 : (g 4 a.toNatClampNeg) = 4
  · refine pr_tabIn (ki := 4) (tgt := 109) hx hb dX2_perform_13 t_13_4 (by rfl) (by decide) (by decide) (by rfl) (by decide) ?_
    refine lv_aload_n hx hb dX2_perform_109 rfl (lv_at hl 1 rfl) ?_
    refine lv_iload_n hx hb dX2_perform_110 rfl (lv_at hl 0 rfl) ?_
    refine lv_bipush (v := 10) hx hb dX2_perform_111 (by decide) ?_
    refine pr_Si (As := [.int (g 5 a.toNatClampNeg), .int 10]) (rest := [.ref (ad 0)]) ⟨hx, hb, hml, hown, hts⟩ (c_J9_floorMod_7cf53 (g 5 a.toNatClampNeg) 10 (by decide)) (va_cwS 2 hts gX2_perform_J9_floorMod_7cf53 rfl rfl rfl (by decide +kernel) ⟨Nat.le_of_ble_eq_true rfl, Nat.le_of_ble_eq_true rfl⟩) hK hP hD hS hA rfl hl.1 rfl (Nat.le_of_ble_eq_true rfl) ⟨Nat.le_of_ble_eq_true rfl, Nat.le_of_ble_eq_true rfl⟩ dX2_perform_113 (fun r_20 _ H locs e_r_20 hP hD hS => ?_)
    refine pr_Vi (As := [.int r_20]) (rest := []) ⟨hx, hb, hml, hown, hts⟩ (c_X2_share r_20 hw) (cwV 1 hts gX2_perform_X2_share rfl rfl rfl (by decide +kernel) ⟨Nat.le_of_ble_eq_true rfl, Nat.le_of_ble_eq_true rfl⟩) (va_recv hK.1 hP (ci := 4) rfl pz_a0) hK hP hD hS hA rfl hl.1 rfl (Nat.le_of_ble_eq_true rfl) ⟨Nat.le_of_ble_eq_true rfl, Nat.le_of_ble_eq_true rfl⟩ dX2_perform_116 (fun r_21 ⟨g_23, ph_24⟩ H locs e_q_22 hP hD hS => ?_)
    obtain ⟨e_r_21, e_q_22⟩ := e_q_22
    obtain ⟨e_g_23, e_ph_24⟩ : g_23 = (f_X2_share g ph r_20).2.1 ∧ ph_24 = (f_X2_share g ph r_20).2.2 := ⟨congrArg Prod.fst e_q_22, congrArg Prod.snd e_q_22⟩
    clear e_q_22
    dsimp only at hP hD
    exact pr_iret (g_23, ph_24) hx hb hr hlocks hP hD hS dX2_perform_119 (by subst e_ph_24 e_g_23 e_r_21 e_r_20; refine ⟨?_, ?_⟩ <;> (simp only [f_X2_perform, if_neg t_13_0, if_neg t_13_1, if_neg t_13_2, if_neg t_13_3, if_pos t_13_4] <;> rfl))
  by_cases t_13_5 : (g 4 a.toNatClampNeg) = 5
  · refine pr_tabIn (ki := 5) (tgt := 120) hx hb dX2_perform_13 t_13_5 (by rfl) (by decide) (by decide) (by rfl) (by decide) ?_
    refine lv_aload_n hx hb dX2_perform_120 rfl (lv_at hl 1 rfl) ?_
    refine lv_iload_n hx hb dX2_perform_121 rfl (lv_at hl 0 rfl) ?_
    refine pr_Vi (As := [.int (g 5 a.toNatClampNeg)]) (rest := []) ⟨hx, hb, hml, hown, hts⟩ (c_X2_write (g 5 a.toNatClampNeg) hw) (cwV 1 hts gX2_perform_X2_write rfl rfl rfl (by decide +kernel) ⟨Nat.le_of_ble_eq_true rfl, Nat.le_of_ble_eq_true rfl⟩) (va_recv hK.1 hP (ci := 4) rfl pz_a0) hK hP hD hS hA rfl hl.1 rfl (Nat.le_of_ble_eq_true rfl) ⟨Nat.le_of_ble_eq_true rfl, Nat.le_of_ble_eq_true rfl⟩ dX2_perform_122 (fun r_25 ⟨g_27, ph_28⟩ H locs e_q_26 hP hD hS => ?_)
    obtain ⟨e_r_25, e_q_26⟩ := e_q_26
    obtain ⟨e_g_27, e_ph_28⟩ : g_27 = (f_X2_write g ph (g 5 a.toNatClampNeg)).2.1 ∧ ph_28 = (f_X2_write g ph (g 5 a.toNatClampNeg)).2.2 := ⟨congrArg Prod.fst e_q_26, congrArg Prod.snd e_q_26⟩
    clear e_q_26
    dsimp only at hP hD
    exact pr_iret (g_27, ph_28) hx hb hr hlocks hP hD hS dX2_perform_125 (by subst e_ph_28 e_g_27 e_r_25; refine ⟨?_, ?_⟩ <;> (simp only [f_X2_perform, if_neg t_13_0, if_neg t_13_1, if_neg t_13_2, if_neg t_13_3, if_neg t_13_4, if_pos t_13_5] <;> rfl))
  by_cases t_13_6 : (g 4 a.toNatClampNeg) = 6
  · refine pr_tabIn (ki := 6) (tgt := 164) hx hb dX2_perform_13 t_13_6 (by rfl) (by decide) (by decide) (by rfl) (by decide) ?_
    refine lv_iconst (v := 0) hx hb dX2_perform_164 (by decide) ?_
    exact pr_iret (g, ph) hx hb hr hlocks hP hD hS dX2_perform_165 (by refine ⟨?_, ?_⟩ <;> (simp only [f_X2_perform, if_neg t_13_0, if_neg t_13_1, if_neg t_13_2, if_neg t_13_3, if_neg t_13_4, if_neg t_13_5, if_pos t_13_6] <;> rfl))
  by_cases t_13_7 : (g 4 a.toNatClampNeg) = 7
  · refine pr_tabIn (ki := 7) (tgt := 126) hx hb dX2_perform_13 t_13_7 (by rfl) (by decide) (by decide) (by rfl) (by decide) ?_
    refine lv_aload_n hx hb dX2_perform_126 rfl (lv_at hl 1 rfl) ?_
    refine lv_dup hx hb dX2_perform_127 rfl ?_
    refine va_get (D := (dC, dI)) (ci := 4) (C := RX2) (T := TX2) (N := 14) hx hb hts inX2_perform_X2 hown hK.1 hP 0 pz_a0 rfl 6 (by decide) (hts (.fieldLink RX2 36 "PowderMill" "nextStep" "I") (by decide +kernel)) (fun _ h9 => h9) rfl dX2_perform_128 ?_
    refine lv_iload_n hx hb dX2_perform_131 rfl (lv_at hl 0 rfl) ?_
    refine lv_iconst (v := 4) hx hb dX2_perform_132 (by decide) ?_
    refine pr_Si (As := [.int (g 5 a.toNatClampNeg), .int 4]) (rest := [.int (g 0 6), .ref (ad 0)]) ⟨hx, hb, hml, hown, hts⟩ (c_J9_floorMod_7cf53 (g 5 a.toNatClampNeg) 4 (by decide)) (va_cwS 2 hts gX2_perform_J9_floorMod_7cf53 rfl rfl rfl (by decide +kernel) ⟨Nat.le_of_ble_eq_true rfl, Nat.le_of_ble_eq_true rfl⟩) hK hP hD hS hA rfl hl.1 rfl (Nat.le_of_ble_eq_true rfl) ⟨Nat.le_of_ble_eq_true rfl, Nat.le_of_ble_eq_true rfl⟩ dX2_perform_133 (fun r_29 _ H locs e_r_29 hP hD hS => ?_)
    refine lv_iadd hx hb dX2_perform_136 ?_
    refine pr_putC (ci := 4) (C := RX2) (T := TX2) (N := 14) (ty := .int) (v := ((g 0 6) + r_29)) hx hb hts inX2_perform_X2 tyX2 tyX2_ok nmX2 hown hK.1 hP hD hS 0 (by omega) pz_a0 rfl 6 (by decide) (hts (.fieldLink RX2 36 "PowderMill" "nextStep" "I") (by decide +kernel)) (fun _ h9 => h9) rfl (by decide +kernel) rfl rfl (Nat.le_of_ble_eq_true rfl) rfl dX2_perform_137 (fun g_30 H locs e_g_30 hP hD hS => ?_)
    refine lv_iconst (v := 0) hx hb dX2_perform_140 (by decide) ?_
    exact pr_iret (g_30, ph) hx hb hr hlocks hP hD hS dX2_perform_141 (by subst e_g_30 e_r_29; refine ⟨?_, ?_⟩ <;> (simp only [f_X2_perform, if_neg t_13_0, if_neg t_13_1, if_neg t_13_2, if_neg t_13_3, if_neg t_13_4, if_neg t_13_5, if_neg t_13_6, if_pos t_13_7] <;> rfl))
  by_cases t_13_8 : (g 4 a.toNatClampNeg) = 8
  · refine pr_tabIn (ki := 8) (tgt := 142) hx hb dX2_perform_13 t_13_8 (by rfl) (by decide) (by decide) (by rfl) (by decide) ?_
    refine lv_aload_n hx hb dX2_perform_142 rfl (lv_at hl 1 rfl) ?_
    refine lv_aload_n hx hb dX2_perform_143 rfl (lv_at hl 1 rfl) ?_
    refine va_get (D := (dC, dI)) (ci := 4) (C := RX2) (T := TX2) (N := 14) hx hb hts inX2_perform_X2 hown hK.1 hP 0 pz_a0 rfl 1 (by decide) (hts (.fieldLink RX2 18 "PowderMill" "path" "LPowderMill$Path;") (by decide +kernel)) (fun _ h9 => h9) rfl dX2_perform_144 ?_
    refine lv_iload_n hx hb dX2_perform_147 rfl (lv_at hl 0 rfl) ?_
    refine lv_iconst (v := 4) hx hb dX2_perform_148 (by decide) ?_
    refine pr_Si (As := [.int (g 5 a.toNatClampNeg), .int 4]) (rest := [.ref (ad 2), .ref (ad 0)]) ⟨hx, hb, hml, hown, hts⟩ (c_J9_floorMod_7cf53 (g 5 a.toNatClampNeg) 4 (by decide)) (va_cwS 2 hts gX2_perform_J9_floorMod_7cf53 rfl rfl rfl (by decide +kernel) ⟨Nat.le_of_ble_eq_true rfl, Nat.le_of_ble_eq_true rfl⟩) hK hP hD hS hA rfl hl.1 rfl (Nat.le_of_ble_eq_true rfl) ⟨Nat.le_of_ble_eq_true rfl, Nat.le_of_ble_eq_true rfl⟩ dX2_perform_149 (fun r_31 _ H locs e_r_31 hP hD hS => ?_)
    refine lv_aload_n hx hb dX2_perform_152 rfl (lv_at hl 1 rfl) ?_
    refine va_get (D := (dC, dI)) (ci := 4) (C := RX2) (T := TX2) (N := 14) hx hb hts inX2_perform_X2 hown hK.1 hP 0 pz_a0 rfl 6 (by decide) (hts (.fieldLink RX2 36 "PowderMill" "nextStep" "I") (by decide +kernel)) (fun _ h9 => h9) rfl dX2_perform_153 ?_
    refine pr_Vi (As := [.int r_31, .int (g 0 6)]) (rest := [.ref (ad 0)]) ⟨hx, hb, hml, hown, hts⟩ (c_X1_stepBehindAgain r_31 (g 0 6) (pz_again hw)) (cwV 2 hts gX2_perform_X1_stepBehindAgain rfl rfl rfl (by decide +kernel) ⟨Nat.le_of_ble_eq_true rfl, Nat.le_of_ble_eq_true rfl⟩) (va_recv hK.1 hP (ci := 3) rfl pz_a2) hK hP hD hS hA rfl hl.1 rfl (Nat.le_of_ble_eq_true rfl) ⟨Nat.le_of_ble_eq_true rfl, Nat.le_of_ble_eq_true rfl⟩ dX2_perform_156 (fun r_32 ⟨g_34, ph_35⟩ H locs e_q_33 hP hD hS => ?_)
    obtain ⟨e_r_32, e_q_33⟩ := e_q_33
    obtain ⟨e_g_34, e_ph_35⟩ : g_34 = (f_X1_stepBehindAgain g ph r_31 (g 0 6)).2.1 ∧ ph_35 = (f_X1_stepBehindAgain g ph r_31 (g 0 6)).2.2 := ⟨congrArg Prod.fst e_q_33, congrArg Prod.snd e_q_33⟩
    clear e_q_33
    dsimp only at hP hD
    refine pr_putC (ci := 4) (C := RX2) (T := TX2) (N := 14) (ty := .int) (v := r_32) hx hb hts inX2_perform_X2 tyX2 tyX2_ok nmX2 hown hK.1 hP hD hS 0 (by omega) pz_a0 rfl 6 (by decide) (hts (.fieldLink RX2 36 "PowderMill" "nextStep" "I") (by decide +kernel)) (fun _ h9 => h9) rfl (by decide +kernel) rfl rfl (Nat.le_of_ble_eq_true rfl) rfl dX2_perform_159 (fun g_36 H locs e_g_36 hP hD hS => ?_)
    refine lv_iconst (v := 0) hx hb dX2_perform_162 (by decide) ?_
    exact pr_iret (g_36, ph_35) hx hb hr hlocks hP hD hS dX2_perform_163 (by subst e_g_36 e_ph_35 e_g_34 e_r_32 e_r_31; refine ⟨?_, ?_⟩ <;> (simp only [f_X2_perform, if_neg t_13_0, if_neg t_13_1, if_neg t_13_2, if_neg t_13_3, if_neg t_13_4, if_neg t_13_5, if_neg t_13_6, if_neg t_13_7, if_pos t_13_8] <;> rfl))
  refine lv_tableOut (tgt := 164) hx hb dX2_perform_13 (by have q0 := lv_neT t_13_0 (by rfl : (0 : Int32).toInt = 0); have q1 := lv_neT t_13_1 (by rfl : (1 : Int32).toInt = 1); have q2 := lv_neT t_13_2 (by rfl : (2 : Int32).toInt = 2); have q3 := lv_neT t_13_3 (by rfl : (3 : Int32).toInt = 3); have q4 := lv_neT t_13_4 (by rfl : (4 : Int32).toInt = 4); have q5 := lv_neT t_13_5 (by rfl : (5 : Int32).toInt = 5); have q6 := lv_neT t_13_6 (by rfl : (6 : Int32).toInt = 6); have q7 := lv_neT t_13_7 (by rfl : (7 : Int32).toInt = 7); have q8 := lv_neT t_13_8 (by rfl : (8 : Int32).toInt = 8); omega) (by decide) ?_
  refine lv_iconst (v := 0) hx hb dX2_perform_164 (by decide) ?_
  exact pr_iret (g, ph) hx hb hr hlocks hP hD hS dX2_perform_165 (by refine ⟨?_, ?_⟩ <;> (simp only [f_X2_perform, if_neg t_13_0, if_neg t_13_1, if_neg t_13_2, if_neg t_13_3, if_neg t_13_4, if_neg t_13_5, if_neg t_13_6, if_neg t_13_7, if_neg t_13_8] <;> rfl))
theorem inX2_isCaught_X2 : ∀ w ∈ u_ws RX2 TX2 14, w ∈ wsX2_isCaught := by decide +kernel
def f_X2_isCaught (g : pz_M) (ph : Nat → Option Nat) (a : Int32) (b : Int32) : Int32 × pz_M × (Nat → Option Nat) :=
  let g_1 := pz_st g 6 a.toNatClampNeg ((g 6 a.toNatClampNeg) + 1)
  let g_2 := pz_st g_1 0 8 b
  let r_3 := (f_X1_leaveByRefuge g_2 ph).1
  let g_5 := (f_X1_leaveByRefuge g_2 ph).2.1
  let ph_6 := (f_X1_leaveByRefuge g_2 ph).2.2
  (r_3, g_5, ph_6)
set_option maxHeartbeats 4000000 in
set_option maxRecDepth 100000 in
theorem c_X2_isCaught {l : Launch} {dC : Nat → ClassId} {dI : Nat → Nat → Nat} {cl : Nat → ClassId} {ad : Nat → Nat} {ph : Nat → Option Nat} {o : Nat → Int64} {g h : pz_M} (a : Int32) (b : Int32) (hw : pz_W g ph) (ha : vp_in a 7) : pz_Mi l dC dI cl yX2_isCaught wsX2_isCaught { frames := 2, cells := 0, slots := 0, locals := 42 } [.ref (ad 0), .int a, .int b] (pz_wd ad cl ph o g h) (fun u : pz_M × (Nat → Option Nat) => pz_wd ad cl u.2 o u.1 h) (fun r u => r = (f_X2_isCaught g ph a b).1 ∧ u = (f_X2_isCaught g ph a b).2) := by
  intro sz
  refine pr_ofW (Qc := pz_Qi dC dI _ _) (cb := cX2_isCaught) (maxL := 3) (ret := (some .boolean)) (by decide) rfl (Nat.le_of_ble_eq_true rfl) ?_
  intro p e s m below meth c A ls hx hb hml hr hlocks hts hown hK hP hD hS hA hl
  have hl : lv_has ls 3 [(0, .ref (ad 0)), (1, .int a), (2, .int b)] := hl
  refine lv_aload_n hx hb dX2_isCaught_0 rfl (lv_at hl 0 rfl) ?_
  refine va_get (D := (dC, dI)) (ci := 4) (C := RX2) (T := TX2) (N := 14) hx hb hts inX2_isCaught_X2 hown hK.1 hP 0 pz_a0 rfl 9 (by decide) (hts (.fieldLink RX2 45 "PowderMill" "faultsMet" "[I") (by decide +kernel)) (fun _ h9 => h9) rfl dX2_isCaught_1 ?_
  refine lv_iload_n hx hb dX2_isCaught_4 rfl (lv_at hl 1 rfl) ?_
  refine lv_dup2_11 hx hb dX2_isCaught_5 rfl rfl ?_
  refine va_iald hx hb hK.1 hP 6 0 pz_a6 rfl ha dX2_isCaught_6 ?_
  refine lv_iconst (v := 1) hx hb dX2_isCaught_7 (by decide) ?_
  refine lv_iadd hx hb dX2_isCaught_8 ?_
  refine pr_iastC hx hb hK.1 hP hD hS 6 (by omega) pz_a6 (fun _ => rfl) ha dX2_isCaught_9 (fun g_1 H locs e_g_1 hP hD hS => ?_)
  refine lv_aload_n hx hb dX2_isCaught_10 rfl (lv_at hl 0 rfl) ?_
  refine lv_iload_n hx hb dX2_isCaught_11 rfl (lv_at hl 2 rfl) ?_
  refine pr_putC (ci := 4) (C := RX2) (T := TX2) (N := 14) (ty := .int) (v := b) hx hb hts inX2_isCaught_X2 tyX2 tyX2_ok nmX2 hown hK.1 hP hD hS 0 (by omega) pz_a0 rfl 8 (by decide) (hts (.fieldLink RX2 42 "PowderMill" "latestFaultStep" "I") (by decide +kernel)) (fun _ h9 => h9) rfl (by decide +kernel) rfl rfl (Nat.le_of_ble_eq_true rfl) rfl dX2_isCaught_12 (fun g_2 H locs e_g_2 hP hD hS => ?_)
  refine lv_aload_n hx hb dX2_isCaught_15 rfl (lv_at hl 0 rfl) ?_
  refine va_get (D := (dC, dI)) (ci := 4) (C := RX2) (T := TX2) (N := 14) hx hb hts inX2_isCaught_X2 hown hK.1 hP 0 pz_a0 rfl 1 (by decide) (hts (.fieldLink RX2 18 "PowderMill" "path" "LPowderMill$Path;") (by decide +kernel)) (fun _ h9 => h9) rfl dX2_isCaught_16 ?_
  refine pr_Vi (As := []) (rest := []) ⟨hx, hb, hml, hown, hts⟩ (c_X1_leaveByRefuge (pz_Wof hw (by subst e_g_2 e_g_1; rw [pz_st_n (by decide), pz_st_n (by decide)]))) (cwV 0 hts gX2_isCaught_X1_leaveByRefuge rfl rfl rfl (by decide +kernel) ⟨Nat.le_of_ble_eq_true rfl, Nat.le_of_ble_eq_true rfl⟩) (va_recv hK.1 hP (ci := 3) rfl pz_a2) hK hP hD hS hA rfl hl.1 rfl (Nat.le_of_ble_eq_true rfl) ⟨Nat.le_of_ble_eq_true rfl, Nat.le_of_ble_eq_true rfl⟩ dX2_isCaught_19 (fun r_3 ⟨g_5, ph_6⟩ H locs e_q_4 hP hD hS => ?_)
  obtain ⟨e_r_3, e_q_4⟩ := e_q_4
  obtain ⟨e_g_5, e_ph_6⟩ : g_5 = (f_X1_leaveByRefuge g_2 ph).2.1 ∧ ph_6 = (f_X1_leaveByRefuge g_2 ph).2.2 := ⟨congrArg Prod.fst e_q_4, congrArg Prod.snd e_q_4⟩
  clear e_q_4
  dsimp only at hP hD
  exact pr_zret (g_5, ph_6) hx hb hr hlocks (by rw [e_r_3]; exact pz_lbr01) hP hD hS dX2_isCaught_22 (by subst e_ph_6 e_g_5 e_r_3 e_g_2 e_g_1; refine ⟨?_, ?_⟩ <;> (simp only [f_X2_isCaught] <;> rfl))
end
section
/-! the reference: how deep it is, and what is in its rows -/
def pz_V (h : pz_M) : Prop := ∃ d : Nat, d ≤ 6 ∧ h 18 11 = nI d ∧ ∀ i, i < d → vp_in (h 28 i) 8
theorem pz_t {h : pz_M} {r j k : Nat} {v : Int32} (hj : j ≠ k) : pz_st h r k v r j = h r j := by rw [pz_st_s, pk_un hj]
theorem pz_t2 {h : pz_M} {r i j k : Nat} {v : Int32} (hj : i ≠ r) : pz_st h r k v i j = h i j := by rw [pz_st_n hj]
theorem pz_Vof {h h2 : pz_M} (hv : pz_V h) (h1 : h2 18 11 = h 18 11) (h3 : ∀ i, h2 28 i = h 28 i) : pz_V h2 := by
  obtain ⟨d, h6, hd, hs⟩ := hv
  exact ⟨d, h6, h1.trans hd, fun i hi => by rw [h3]; exact hs i hi⟩
theorem pz_V1 {h : pz_M} (hv : pz_V h) (hc : ¬ h 18 11 = 0) : vp_in (h 18 11 - 1) 6 ∧ vp_in (h 28 (h 18 11 - 1).toNatClampNeg) 8 := by
  obtain ⟨d, h6, hd, hs⟩ := hv
  rw [hd] at hc ⊢
  have h1 : 1 ≤ d := by
    rcases Nat.lt_or_ge d 1 with q | q
    · have : d = 0 := by omega
      subst this
      exact absurd nI_0 hc
    · exact q
  have e1 : nI d - 1 = nI (d - 1) := pk_sub (a := d) (b := 1) h1
  rw [e1, nI_clamp (by omega)]
  exact ⟨vp_in_nI (by omega) (by decide), hs _ (by omega)⟩
theorem pz_V2 {h : pz_M} (hv : pz_V h) (hc : 2 ≤ h 18 11) : vp_in (h 18 11 - 2) 6 ∧ vp_in (h 28 (h 18 11 - 2).toNatClampNeg) 8 := by
  obtain ⟨d, h6, hd, hs⟩ := hv
  rw [hd] at hc ⊢
  have h1 : 2 ≤ d := (nI_leI (by decide) (by omega)).mp (hc : nI 2 ≤ nI d)
  have e1 : nI d - 2 = nI (d - 2) := pk_sub (a := d) (b := 2) h1
  rw [e1, nI_clamp (by omega)]
  exact ⟨vp_in_nI (by omega) (by decide), hs _ (by omega)⟩
theorem pz_V21 {h : pz_M} (hv : pz_V h) (hc : 2 ≤ h 18 11) : ¬ h 18 11 = 0 := by
  obtain ⟨d, h6, hd, hs⟩ := hv
  rw [hd] at hc ⊢
  have h1 : 2 ≤ d := (nI_leI (by decide) (by omega)).mp (hc : nI 2 ≤ nI d)
  exact nI_ne0 (by omega) (by omega)
theorem pz_Vgt {h : pz_M} (hc : ¬ h 18 11 ≤ 0) : ¬ h 18 11 = 0 := fun q => hc (by rw [q]; decide)
theorem pz_V6 {h : pz_M} (hv : pz_V h) (hc : ¬ h 18 11 = 6) : vp_in (h 18 11) 6 := by
  obtain ⟨d, h6, hd, hs⟩ := hv
  rw [hd] at hc ⊢
  have h1 : d ≠ 6 := fun q => hc (by rw [q]; rfl)
  exact vp_in_nI (by omega) (by decide)
theorem pz_many {h : pz_M} (hm : ∃ n : Nat, n ≤ 30 ∧ h 18 8 = nI n) (hc : ¬ h 18 8 = 30) : vp_in (h 18 8) 30 := by
  obtain ⟨n, h1, h2⟩ := hm
  rw [h2] at hc ⊢
  have h3 : n ≠ 30 := fun q => hc (by rw [q]; rfl)
  exact vp_in_nI (by omega) (by decide)
end
section
theorem inX3_thrown_X3 : ∀ w ∈ u_ws RX3 TX3 20, w ∈ wsX3_thrown := by decide +kernel
def f_X3_thrown (h : pz_M) : Int32 :=
  h 18 0
set_option maxHeartbeats 4000000 in
set_option maxRecDepth 100000 in
theorem c_X3_thrown {l : Launch} {dC : Nat → ClassId} {dI : Nat → Nat → Nat} {cl : Nat → ClassId} {ad : Nat → Nat} {ph : Nat → Option Nat} {o : Nat → Int64} {g h : pz_M} : pz_Mi l dC dI cl yX3_thrown wsX3_thrown { frames := 0, cells := 0, slots := 0, locals := 0 } [.ref (ad 18)] (pz_wd ad cl ph o g h) (fun _ : Unit => pz_wd ad cl ph o g h) (fun r _ => r = f_X3_thrown h) := by
  intro sz
  refine pr_ofW (Qc := pz_Qi dC dI _ _) (cb := cX3_thrown) (maxL := 1) (ret := (some .int)) (by decide) rfl (Nat.le_of_ble_eq_true rfl) ?_
  intro p e s m below meth c A ls hx hb hml hr hlocks hts hown hK hP hD hS hA hl
  have hl : lv_has ls 1 [(0, .ref (ad 18))] := hl
  refine lv_aload_n hx hb dX3_thrown_0 rfl (lv_at hl 0 rfl) ?_
  refine va_get (D := (dC, dI)) (ci := 5) (C := RX3) (T := TX3) (N := 20) hx hb hts inX3_thrown_X3 hown hK.1 hP 18 pz_a18 rfl 0 (by decide) (hts (.fieldLink RX3 57 "PowderMillModel" "thrown" "I") (by decide +kernel)) (fun _ h9 => h9) rfl dX3_thrown_1 ?_
  exact pr_iret () hx hb hr hlocks hP hD hS dX3_thrown_4 (by (simp only [f_X3_thrown] <;> rfl))
def f_X3_isIn (a : Int32) (b : Int32) (z : Int32) : Int32 :=
  if a < b then
    0
  else
    if z < a then
      0
    else
      1
set_option maxHeartbeats 4000000 in
set_option maxRecDepth 100000 in
theorem c_X3_isIn {l : Launch} {dC : Nat → ClassId} {dI : Nat → Nat → Nat} {cl : Nat → ClassId} {ad : Nat → Nat} {ph : Nat → Option Nat} {o : Nat → Int64} {g h : pz_M} (a : Int32) (b : Int32) (z : Int32) : pz_Mi l dC dI cl yX3_isIn wsX3_isIn { frames := 0, cells := 0, slots := 0, locals := 0 } [.int a, .int b, .int z] (pz_wd ad cl ph o g h) (fun _ : Unit => pz_wd ad cl ph o g h) (fun r _ => r = f_X3_isIn a b z) := by
  intro sz
  refine pr_ofW (Qc := pz_Qi dC dI _ _) (cb := cX3_isIn) (maxL := 3) (ret := (some .boolean)) (by decide) rfl (Nat.le_of_ble_eq_true rfl) ?_
  intro p e s m below meth c A ls hx hb hml hr hlocks hts hown hK hP hD hS hA hl
  have hl : lv_has ls 3 [(0, .int a), (1, .int b), (2, .int z)] := hl
  refine lv_iload_n hx hb dX3_isIn_0 rfl (lv_at hl 0 rfl) ?_
  refine lv_iload_n hx hb dX3_isIn_1 rfl (lv_at hl 1 rfl) ?_
  refine lv_icmp_lt (tgt := 14) hx hb dX3_isIn_2 (by decide) (fun c_2 => ?_) (fun c_2 => ?_)
  · refine lv_iconst (v := 0) hx hb dX3_isIn_14 (by decide) ?_
    exact pr_zret () hx hb hr hlocks (by decide) hP hD hS dX3_isIn_15 (by (simp only [f_X3_isIn, if_pos c_2] <;> rfl))
  · refine lv_iload_n hx hb dX3_isIn_5 rfl (lv_at hl 0 rfl) ?_
    refine lv_iload_n hx hb dX3_isIn_6 rfl (lv_at hl 2 rfl) ?_
    refine lv_icmp_gt (tgt := 14) hx hb dX3_isIn_7 (by decide) (fun c_7 => ?_) (fun c_7 => ?_)
    · refine lv_iconst (v := 0) hx hb dX3_isIn_14 (by decide) ?_
      exact pr_zret () hx hb hr hlocks (by decide) hP hD hS dX3_isIn_15 (by (simp only [f_X3_isIn, if_neg c_2, if_pos c_7] <;> rfl))
    · refine lv_iconst (v := 1) hx hb dX3_isIn_10 (by decide) ?_
      refine lv_goto (tgt := 15) hx hb dX3_isIn_11 (by decide) ?_
      exact pr_zret () hx hb hr hlocks (by decide) hP hD hS dX3_isIn_15 (by (simp only [f_X3_isIn, if_neg c_2, if_neg c_7] <;> rfl))
def f_X3_modulo (a : Int32) (b : Int32) : Int32 :=
  if 0 ≤ (a - a / b * b) then
    a - a / b * b
  else
    (a - a / b * b) + b
set_option maxHeartbeats 4000000 in
set_option maxRecDepth 100000 in
theorem c_X3_modulo {l : Launch} {dC : Nat → ClassId} {dI : Nat → Nat → Nat} {cl : Nat → ClassId} {ad : Nat → Nat} {ph : Nat → Option Nat} {o : Nat → Int64} {g h : pz_M} (a : Int32) (b : Int32) (hne : ¬ b = 0) : pz_Mi l dC dI cl yX3_modulo wsX3_modulo { frames := 0, cells := 0, slots := 0, locals := 0 } [.int a, .int b] (pz_wd ad cl ph o g h) (fun _ : Unit => pz_wd ad cl ph o g h) (fun r _ => r = f_X3_modulo a b) := by
  intro sz
  refine pr_ofW (Qc := pz_Qi dC dI _ _) (cb := cX3_modulo) (maxL := 3) (ret := (some .int)) (by decide) rfl (Nat.le_of_ble_eq_true rfl) ?_
  intro p e s m below meth c A ls hx hb hml hr hlocks hts hown hK hP hD hS hA hl
  have hl : lv_has ls 3 [(0, .int a), (1, .int b)] := hl
  refine lv_iload_n hx hb dX3_modulo_0 rfl (lv_at hl 0 rfl) ?_
  refine lv_iload_n hx hb dX3_modulo_1 rfl (lv_at hl 1 rfl) ?_
  refine lv_irem hx hb dX3_modulo_2 hne ?_
  refine lv_istore_n (lv' := [(2, .int (a - a / b * b)), (0, .int a), (1, .int b)]) hx hb dX3_modulo_3 rfl hl (by decide) rfl (fun ls hl => ?_)
  refine lv_iload_n hx hb dX3_modulo_4 rfl (lv_at hl 0 rfl) ?_
  refine lv_if_ge (tgt := 14) hx hb dX3_modulo_5 (by decide) (fun c_5 => ?_) (fun c_5 => ?_)
  · refine lv_iload_n hx hb dX3_modulo_14 rfl (lv_at hl 0 rfl) ?_
    exact pr_iret () hx hb hr hlocks hP hD hS dX3_modulo_15 (by (simp only [f_X3_modulo, if_pos c_5] <;> rfl))
  · refine lv_iload_n hx hb dX3_modulo_8 rfl (lv_at hl 0 rfl) ?_
    refine lv_iload_n hx hb dX3_modulo_9 rfl (lv_at hl 2 rfl) ?_
    refine lv_iadd hx hb dX3_modulo_10 ?_
    refine lv_goto (tgt := 15) hx hb dX3_modulo_11 (by decide) ?_
    exact pr_iret () hx hb hr hlocks hP hD hS dX3_modulo_15 (by (simp only [f_X3_modulo, if_neg c_5] <;> rfl))
theorem pz_isIn01 {a b z : Int32} : f_X3_isIn a b z = 0 ∨ f_X3_isIn a b z = 1 := by
  unfold f_X3_isIn
  split
  · exact Or.inl rfl
  · split
    · exact Or.inl rfl
    · exact Or.inr rfl
theorem pz_isIn {a b z : Int32} (h : ¬ f_X3_isIn a b z = 0) : ¬ a < b ∧ ¬ z < a := by
  unfold f_X3_isIn at h
  by_cases h1 : a < b
  · exact absurd (if_pos h1) h
  · by_cases h2 : z < a
    · exact absurd (by rw [if_neg h1, if_pos h2]) h
    · exact ⟨h1, h2⟩
theorem pz_in7 {a : Int32} (h : ¬ f_X3_isIn a 0 7 = 0) : vp_in a 8 := by
  obtain ⟨h1, h2⟩ := pz_isIn h
  exact pz_in (by decide) h1 (fun q => h2 (by
    rw [Int32.le_iff_toInt_le] at q
    rw [Int32.lt_iff_toInt_lt]
    have e1 : (nI 8).toInt = 8 := rfl
    have e2 : (7 : Int32).toInt = 7 := rfl
    omega))
def f_X3_isPlace (a : Int32) : Int32 :=
  let r_1 := f_X3_isIn a 0 7
  r_1
set_option maxHeartbeats 4000000 in
set_option maxRecDepth 100000 in
theorem c_X3_isPlace {l : Launch} {dC : Nat → ClassId} {dI : Nat → Nat → Nat} {cl : Nat → ClassId} {ad : Nat → Nat} {ph : Nat → Option Nat} {o : Nat → Int64} {g h : pz_M} (a : Int32) : pz_Mi l dC dI cl yX3_isPlace wsX3_isPlace { frames := 1, cells := 0, slots := 0, locals := 22 } [.int a] (pz_wd ad cl ph o g h) (fun _ : Unit => pz_wd ad cl ph o g h) (fun r _ => r = f_X3_isPlace a) := by
  intro sz
  refine pr_ofW (Qc := pz_Qi dC dI _ _) (cb := cX3_isPlace) (maxL := 1) (ret := (some .boolean)) (by decide) rfl (Nat.le_of_ble_eq_true rfl) ?_
  intro p e s m below meth c A ls hx hb hml hr hlocks hts hown hK hP hD hS hA hl
  have hl : lv_has ls 1 [(0, .int a)] := hl
  refine lv_iload_n hx hb dX3_isPlace_0 rfl (lv_at hl 0 rfl) ?_
  refine lv_iconst (v := 0) hx hb dX3_isPlace_1 (by decide) ?_
  refine lv_bipush (v := 7) hx hb dX3_isPlace_2 (by decide) ?_
  refine pr_Si (As := [.int a, .int 0, .int 7]) (rest := []) ⟨hx, hb, hml, hown, hts⟩ (c_X3_isIn a 0 7) (va_cwS 3 hts gX3_isPlace_X3_isIn rfl rfl rfl (by decide +kernel) ⟨Nat.le_of_ble_eq_true rfl, Nat.le_of_ble_eq_true rfl⟩) hK hP hD hS hA rfl hl.1 rfl (Nat.le_of_ble_eq_true rfl) ⟨Nat.le_of_ble_eq_true rfl, Nat.le_of_ble_eq_true rfl⟩ dX3_isPlace_4 (fun r_1 _ H locs e_r_1 hP hD hS => ?_)
  exact pr_zret () hx hb hr hlocks (by rw [e_r_1]; exact pz_isIn01) hP hD hS dX3_isPlace_7 (by subst e_r_1; (simp only [f_X3_isPlace] <;> rfl))
theorem pz_mplace {a : Int32} (h : ¬ f_X3_isPlace a = 0) : vp_in a 8 := pz_in7 h
theorem pz_malter {a b : Int32} (hm : ∃ n : Nat, n ≤ 30 ∧ b = nI n) (h : ¬ f_X3_isIn a 0 (b - 1) = 0) : vp_in a 30 := by
  obtain ⟨h1, h2⟩ := pz_isIn h
  obtain ⟨n, hn, rfl⟩ := hm
  exact pz_in (by decide) h1 (fun q => h2 (by
    rw [Int32.le_iff_toInt_le] at q
    rw [Int32.lt_iff_toInt_lt]
    have e1 : (nI 30).toInt = 30 := rfl
    have e2 : (nI n - 1).toInt = (n : Int) - 1 := pk_sub_toInt (a := n) (b := 1) (by omega) (by omega)
    omega))
theorem pz_mcount {a : Int32} (h : ¬ f_X3_isIn a 2 5 = 0 ∨ ¬ f_X3_isIn a 11 16 = 0) : vp_in a 17 := by
  have e17 : (nI 17).toInt = 17 := rfl
  have e2 : (2 : Int32).toInt = 2 := rfl
  have e5 : (5 : Int32).toInt = 5 := rfl
  have e11 : (11 : Int32).toInt = 11 := rfl
  have e16 : (16 : Int32).toInt = 16 := rfl
  rw [vp_in_iff]
  rcases h with h | h <;> obtain ⟨h1, h2⟩ := pz_isIn h <;> rw [Int32.lt_iff_toInt_lt] at h1 h2 <;> omega
theorem inX3_isHouse_X3 : ∀ w ∈ u_ws RX3 TX3 20, w ∈ wsX3_isHouse := by decide +kernel
def f_X3_isHouse (h : pz_M) (a : Int32) : Int32 :=
  let r_1 := f_X3_isPlace a
  if r_1 = 0 then
    0
  else
    if (h 19 a.toNatClampNeg) ≤ 0 then
      0
    else
      1
set_option maxHeartbeats 4000000 in
set_option maxRecDepth 100000 in
theorem c_X3_isHouse {l : Launch} {dC : Nat → ClassId} {dI : Nat → Nat → Nat} {cl : Nat → ClassId} {ad : Nat → Nat} {ph : Nat → Option Nat} {o : Nat → Int64} {g h : pz_M} (a : Int32) : pz_Mi l dC dI cl yX3_isHouse wsX3_isHouse { frames := 2, cells := 0, slots := 0, locals := 42 } [.ref (ad 18), .int a] (pz_wd ad cl ph o g h) (fun _ : Unit => pz_wd ad cl ph o g h) (fun r _ => r = f_X3_isHouse h a) := by
  intro sz
  refine pr_ofW (Qc := pz_Qi dC dI _ _) (cb := cX3_isHouse) (maxL := 2) (ret := (some .boolean)) (by decide) rfl (Nat.le_of_ble_eq_true rfl) ?_
  intro p e s m below meth c A ls hx hb hml hr hlocks hts hown hK hP hD hS hA hl
  have hl : lv_has ls 2 [(0, .ref (ad 18)), (1, .int a)] := hl
  refine lv_iload_n hx hb dX3_isHouse_0 rfl (lv_at hl 1 rfl) ?_
  refine pr_Si (As := [.int a]) (rest := []) ⟨hx, hb, hml, hown, hts⟩ (c_X3_isPlace a) (va_cwS 1 hts gX3_isHouse_X3_isPlace rfl rfl rfl (by decide +kernel) ⟨Nat.le_of_ble_eq_true rfl, Nat.le_of_ble_eq_true rfl⟩) hK hP hD hS hA rfl hl.1 rfl (Nat.le_of_ble_eq_true rfl) ⟨Nat.le_of_ble_eq_true rfl, Nat.le_of_ble_eq_true rfl⟩ dX3_isHouse_1 (fun r_1 _ H locs e_r_1 hP hD hS => ?_)
  refine lv_if_eq (tgt := 20) hx hb dX3_isHouse_4 (by decide) (fun c_4 => ?_) (fun c_4 => ?_)
  · refine lv_iconst (v := 0) hx hb dX3_isHouse_20 (by decide) ?_
    exact pr_zret () hx hb hr hlocks (by decide) hP hD hS dX3_isHouse_21 (by subst e_r_1; (simp only [f_X3_isHouse, if_pos c_4] <;> rfl))
  · have i1 : vp_in a 8 := pz_mplace (by rw [← e_r_1]; exact c_4)
    refine lv_aload_n hx hb dX3_isHouse_7 rfl (lv_at hl 0 rfl) ?_
    refine va_get (D := (dC, dI)) (ci := 5) (C := RX3) (T := TX3) (N := 20) hx hb hts inX3_isHouse_X3 hown hK.1 hP 18 pz_a18 rfl 1 (by decide) (hts (.fieldLink RX3 7 "PowderMillModel" "walls" "[I") (by decide +kernel)) (fun _ h9 => h9) rfl dX3_isHouse_8 ?_
    refine lv_iload_n hx hb dX3_isHouse_11 rfl (lv_at hl 1 rfl) ?_
    refine va_iald hx hb hK.1 hP 19 0 pz_a19 rfl i1 dX3_isHouse_12 ?_
    refine lv_if_le (tgt := 20) hx hb dX3_isHouse_13 (by decide) (fun c_13 => ?_) (fun c_13 => ?_)
    · refine lv_iconst (v := 0) hx hb dX3_isHouse_20 (by decide) ?_
      exact pr_zret () hx hb hr hlocks (by decide) hP hD hS dX3_isHouse_21 (by subst e_r_1; (simp only [f_X3_isHouse, if_neg c_4, if_pos c_13] <;> rfl))
    · refine lv_iconst (v := 1) hx hb dX3_isHouse_16 (by decide) ?_
      refine lv_goto (tgt := 21) hx hb dX3_isHouse_17 (by decide) ?_
      exact pr_zret () hx hb hr hlocks (by decide) hP hD hS dX3_isHouse_21 (by subst e_r_1; (simp only [f_X3_isHouse, if_neg c_4, if_neg c_13] <;> rfl))
theorem inX3_cleared_X3 : ∀ w ∈ u_ws RX3 TX3 20, w ∈ wsX3_cleared := by decide +kernel
def f_X3_cleared (h : pz_M) (a : Int32) (b : Int32) (z : Int32) : pz_M :=
  let h_1 := pz_st h 19 a.toNatClampNeg b
  let h_2 := pz_st h_1 20 a.toNatClampNeg 0
  let h_3 := pz_st h_2 21 a.toNatClampNeg z
  let h_4 := pz_st h_3 22 a.toNatClampNeg 0
  let h_5 := pz_st h_4 23 a.toNatClampNeg 0
  let h_6 := pz_st h_5 24 a.toNatClampNeg 0
  h_6
set_option maxHeartbeats 4000000 in
set_option maxRecDepth 100000 in
theorem c_X3_cleared {l : Launch} {dC : Nat → ClassId} {dI : Nat → Nat → Nat} {cl : Nat → ClassId} {ad : Nat → Nat} {ph : Nat → Option Nat} {o : Nat → Int64} {g h : pz_M} (a : Int32) (b : Int32) (z : Int32) (ha : vp_in a 8) (hz : z = 0 ∨ z = 1) : pz_Mv l dC dI cl yX3_cleared wsX3_cleared { frames := 0, cells := 0, slots := 0, locals := 0 } [.ref (ad 18), .int a, .int b, .int z] (pz_wd ad cl ph o g h) (fun u : pz_M => pz_wd ad cl ph o g u) (fun u => u = f_X3_cleared h a b z) := by
  intro sz
  refine pr_ofW (Qc := pz_Qv dC dI _ _) (cb := cX3_cleared) (maxL := 4) (ret := none) (by decide) rfl (Nat.le_of_ble_eq_true rfl) ?_
  intro p e s m below meth c A ls hx hb hml hr hlocks hts hown hK hP hD hS hA hl
  have hl : lv_has ls 4 [(0, .ref (ad 18)), (1, .int a), (2, .int b), (3, .int z)] := hl
  refine lv_aload_n hx hb dX3_cleared_0 rfl (lv_at hl 0 rfl) ?_
  refine va_get (D := (dC, dI)) (ci := 5) (C := RX3) (T := TX3) (N := 20) hx hb hts inX3_cleared_X3 hown hK.1 hP 18 pz_a18 rfl 1 (by decide) (hts (.fieldLink RX3 7 "PowderMillModel" "walls" "[I") (by decide +kernel)) (fun _ h9 => h9) rfl dX3_cleared_1 ?_
  refine lv_iload_n hx hb dX3_cleared_4 rfl (lv_at hl 1 rfl) ?_
  refine lv_iload_n hx hb dX3_cleared_5 rfl (lv_at hl 2 rfl) ?_
  refine pr_iastR hx hb hK.1 hP hD hS 19 (by omega) (by omega) pz_a19 (fun _ => rfl) ha dX3_cleared_6 (fun h_1 H locs e_h_1 hP hD hS => ?_)
  refine lv_aload_n hx hb dX3_cleared_7 rfl (lv_at hl 0 rfl) ?_
  refine va_get (D := (dC, dI)) (ci := 5) (C := RX3) (T := TX3) (N := 20) hx hb hts inX3_cleared_X3 hown hK.1 hP 18 pz_a18 rfl 2 (by decide) (hts (.fieldLink RX3 13 "PowderMillModel" "powder" "[I") (by decide +kernel)) (fun _ h9 => h9) rfl dX3_cleared_8 ?_
  refine lv_iload_n hx hb dX3_cleared_11 rfl (lv_at hl 1 rfl) ?_
  refine lv_iconst (v := 0) hx hb dX3_cleared_12 (by decide) ?_
  refine pr_iastR hx hb hK.1 hP hD hS 20 (by omega) (by omega) pz_a20 (fun _ => rfl) ha dX3_cleared_13 (fun h_2 H locs e_h_2 hP hD hS => ?_)
  refine lv_aload_n hx hb dX3_cleared_14 rfl (lv_at hl 0 rfl) ?_
  refine va_get (D := (dC, dI)) (ci := 5) (C := RX3) (T := TX3) (N := 20) hx hb hts inX3_cleared_X3 hown hK.1 hP 18 pz_a18 rfl 3 (by decide) (hts (.fieldLink RX3 16 "PowderMillModel" "refuge" "[Z") (by decide +kernel)) (fun _ h9 => h9) rfl dX3_cleared_15 ?_
  refine lv_iload_n hx hb dX3_cleared_18 rfl (lv_at hl 1 rfl) ?_
  refine lv_iload_n hx hb dX3_cleared_19 rfl (lv_at hl 3 rfl) ?_
  refine pr_zastR hx hb hK.1 hP hD hS hz ha dX3_cleared_20 (fun h_3 H locs e_h_3 hP hD hS => ?_)
  refine lv_aload_n hx hb dX3_cleared_21 rfl (lv_at hl 0 rfl) ?_
  refine va_get (D := (dC, dI)) (ci := 5) (C := RX3) (T := TX3) (N := 20) hx hb hts inX3_cleared_X3 hown hK.1 hP 18 pz_a18 rfl 4 (by decide) (hts (.fieldLink RX3 20 "PowderMillModel" "ins" "[I") (by decide +kernel)) (fun _ h9 => h9) rfl dX3_cleared_22 ?_
  refine lv_iload_n hx hb dX3_cleared_25 rfl (lv_at hl 1 rfl) ?_
  refine lv_iconst (v := 0) hx hb dX3_cleared_26 (by decide) ?_
  refine pr_iastR hx hb hK.1 hP hD hS 22 (by omega) (by omega) pz_a22 (fun _ => rfl) ha dX3_cleared_27 (fun h_4 H locs e_h_4 hP hD hS => ?_)
  refine lv_aload_n hx hb dX3_cleared_28 rfl (lv_at hl 0 rfl) ?_
  refine va_get (D := (dC, dI)) (ci := 5) (C := RX3) (T := TX3) (N := 20) hx hb hts inX3_cleared_X3 hown hK.1 hP 18 pz_a18 rfl 5 (by decide) (hts (.fieldLink RX3 23 "PowderMillModel" "sparks" "[I") (by decide +kernel)) (fun _ h9 => h9) rfl dX3_cleared_29 ?_
  refine lv_iload_n hx hb dX3_cleared_32 rfl (lv_at hl 1 rfl) ?_
  refine lv_iconst (v := 0) hx hb dX3_cleared_33 (by decide) ?_
  refine pr_iastR hx hb hK.1 hP hD hS 23 (by omega) (by omega) pz_a23 (fun _ => rfl) ha dX3_cleared_34 (fun h_5 H locs e_h_5 hP hD hS => ?_)
  refine lv_aload_n hx hb dX3_cleared_35 rfl (lv_at hl 0 rfl) ?_
  refine va_get (D := (dC, dI)) (ci := 5) (C := RX3) (T := TX3) (N := 20) hx hb hts inX3_cleared_X3 hown hK.1 hP 18 pz_a18 rfl 6 (by decide) (hts (.fieldLink RX3 26 "PowderMillModel" "caught" "[I") (by decide +kernel)) (fun _ h9 => h9) rfl dX3_cleared_36 ?_
  refine lv_iload_n hx hb dX3_cleared_39 rfl (lv_at hl 1 rfl) ?_
  refine lv_iconst (v := 0) hx hb dX3_cleared_40 (by decide) ?_
  refine pr_iastR hx hb hK.1 hP hD hS 24 (by omega) (by omega) pz_a24 (fun _ => rfl) ha dX3_cleared_41 (fun h_6 H locs e_h_6 hP hD hS => ?_)
  exact pr_vret (h_6) hx hb hr hlocks hP hD hS dX3_cleared_42 (by subst e_h_6 e_h_5 e_h_4 e_h_3 e_h_2 e_h_1; (simp only [f_X3_cleared] <;> rfl))
theorem inX3_build_X3 : ∀ w ∈ u_ws RX3 TX3 20, w ∈ wsX3_build := by decide +kernel
def f_X3_build (h : pz_M) (a : Int32) (b : Int32) (z : Int32) : Int32 × pz_M :=
  let h_1 := pz_st h 18 0 0
  let r_2 := f_X3_isPlace a
  if r_2 = 0 then
    ((-1), h_1)
  else
    let r_3 := f_X3_isIn b 1 100
    if r_3 = 0 then
      ((-1), h_1)
    else
      if (h_1 19 a.toNatClampNeg) ≤ 0 then
        let h_6 := f_X3_cleared h_1 a b z
        (0, h_6)
      else
        let h_9 := f_X3_cleared h_1 a b z
        (1, h_9)
set_option maxHeartbeats 4000000 in
set_option maxRecDepth 100000 in
theorem c_X3_build {l : Launch} {dC : Nat → ClassId} {dI : Nat → Nat → Nat} {cl : Nat → ClassId} {ad : Nat → Nat} {ph : Nat → Option Nat} {o : Nat → Int64} {g h : pz_M} (a : Int32) (b : Int32) (z : Int32) (hz : z = 0 ∨ z = 1) : pz_Mi l dC dI cl yX3_build wsX3_build { frames := 2, cells := 0, slots := 0, locals := 42 } [.ref (ad 18), .int a, .int b, .int z] (pz_wd ad cl ph o g h) (fun u : pz_M => pz_wd ad cl ph o g u) (fun r u => r = (f_X3_build h a b z).1 ∧ u = (f_X3_build h a b z).2) := by
  intro sz
  refine pr_ofW (Qc := pz_Qi dC dI _ _) (cb := cX3_build) (maxL := 5) (ret := (some .int)) (by decide) rfl (Nat.le_of_ble_eq_true rfl) ?_
  intro p e s m below meth c A ls hx hb hml hr hlocks hts hown hK hP hD hS hA hl
  have hl : lv_has ls 5 [(0, .ref (ad 18)), (1, .int a), (2, .int b), (3, .int z)] := hl
  refine lv_aload_n hx hb dX3_build_0 rfl (lv_at hl 0 rfl) ?_
  refine lv_iconst (v := 0) hx hb dX3_build_1 (by decide) ?_
  refine pr_putR (ci := 5) (C := RX3) (T := TX3) (N := 20) (ty := .int) (v := 0) hx hb hts inX3_build_X3 tyX3 tyX3_ok nmX3 hown hK.1 hP hD hS 18 (by omega) (by omega) pz_a18 rfl 0 (by decide) (hts (.fieldLink RX3 57 "PowderMillModel" "thrown" "I") (by decide +kernel)) (fun _ h9 => h9) rfl (by decide +kernel) rfl rfl (Nat.le_of_ble_eq_true rfl) rfl dX3_build_2 (fun h_1 H locs e_h_1 hP hD hS => ?_)
  refine lv_iload_n hx hb dX3_build_5 rfl (lv_at hl 1 rfl) ?_
  refine pr_Si (As := [.int a]) (rest := []) ⟨hx, hb, hml, hown, hts⟩ (c_X3_isPlace a) (va_cwS 1 hts gX3_build_X3_isPlace rfl rfl rfl (by decide +kernel) ⟨Nat.le_of_ble_eq_true rfl, Nat.le_of_ble_eq_true rfl⟩) hK hP hD hS hA rfl hl.1 rfl (Nat.le_of_ble_eq_true rfl) ⟨Nat.le_of_ble_eq_true rfl, Nat.le_of_ble_eq_true rfl⟩ dX3_build_6 (fun r_2 _ H locs e_r_2 hP hD hS => ?_)
  refine lv_if_eq (tgt := 22) hx hb dX3_build_9 (by decide) (fun c_9 => ?_) (fun c_9 => ?_)
  · refine lv_iconst (v := (-1)) hx hb dX3_build_22 (by decide) ?_
    exact pr_iret (h_1) hx hb hr hlocks hP hD hS dX3_build_23 (by subst e_r_2 e_h_1; refine ⟨?_, ?_⟩ <;> (simp only [f_X3_build, if_pos c_9] <;> rfl))
  · refine lv_iload_n hx hb dX3_build_12 rfl (lv_at hl 2 rfl) ?_
    refine lv_iconst (v := 1) hx hb dX3_build_13 (by decide) ?_
    refine lv_bipush (v := 100) hx hb dX3_build_14 (by decide) ?_
    refine pr_Si (As := [.int b, .int 1, .int 100]) (rest := []) ⟨hx, hb, hml, hown, hts⟩ (c_X3_isIn b 1 100) (va_cwS 3 hts gX3_build_X3_isIn rfl rfl rfl (by decide +kernel) ⟨Nat.le_of_ble_eq_true rfl, Nat.le_of_ble_eq_true rfl⟩) hK hP hD hS hA rfl hl.1 rfl (Nat.le_of_ble_eq_true rfl) ⟨Nat.le_of_ble_eq_true rfl, Nat.le_of_ble_eq_true rfl⟩ dX3_build_16 (fun r_3 _ H locs e_r_3 hP hD hS => ?_)
    refine lv_if_ne (tgt := 24) hx hb dX3_build_19 (by decide) (fun c_19 => ?_) (fun c_19 => ?_)
    · have i1 : vp_in a 8 := pz_mplace (by rw [← e_r_2]; exact c_9)
      refine lv_aload_n hx hb dX3_build_24 rfl (lv_at hl 0 rfl) ?_
      refine va_get (D := (dC, dI)) (ci := 5) (C := RX3) (T := TX3) (N := 20) hx hb hts inX3_build_X3 hown hK.1 hP 18 pz_a18 rfl 1 (by decide) (hts (.fieldLink RX3 7 "PowderMillModel" "walls" "[I") (by decide +kernel)) (fun _ h9 => h9) rfl dX3_build_25 ?_
      refine lv_iload_n hx hb dX3_build_28 rfl (lv_at hl 1 rfl) ?_
      refine va_iald hx hb hK.1 hP 19 0 pz_a19 rfl i1 dX3_build_29 ?_
      refine lv_if_le (tgt := 37) hx hb dX3_build_30 (by decide) (fun c_30 => ?_) (fun c_30 => ?_)
      · refine lv_iconst (v := 0) hx hb dX3_build_37 (by decide) ?_
        refine lv_istore (lv' := [(4, .int 0), (0, .ref (ad 18)), (1, .int a), (2, .int b), (3, .int z)]) hx hb dX3_build_38 hl (by decide) rfl (fun ls hl => ?_)
        refine lv_aload_n hx hb dX3_build_40 rfl (lv_at hl 1 rfl) ?_
        refine lv_iload_n hx hb dX3_build_41 rfl (lv_at hl 2 rfl) ?_
        refine lv_iload_n hx hb dX3_build_42 rfl (lv_at hl 3 rfl) ?_
        refine lv_iload_n hx hb dX3_build_43 rfl (lv_at hl 4 rfl) ?_
        refine pr_Vv (As := [.int a, .int b, .int z]) (rest := []) ⟨hx, hb, hml, hown, hts⟩ (c_X3_cleared a b z i1 hz) (cwV 3 hts gX3_build_X3_cleared rfl rfl rfl (by decide +kernel) ⟨Nat.le_of_ble_eq_true rfl, Nat.le_of_ble_eq_true rfl⟩) (va_recv hK.1 hP (ci := 5) rfl pz_a18) hK hP hD hS hA rfl hl.1 rfl (Nat.le_of_ble_eq_true rfl) ⟨Nat.le_of_ble_eq_true rfl, Nat.le_of_ble_eq_true rfl⟩ dX3_build_44 (fun h_6 H locs e_h_6 hP hD hS => ?_)
        refine lv_iload hx hb dX3_build_47 (lv_at hl 0 rfl) ?_
        exact pr_iret (h_6) hx hb hr hlocks hP hD hS dX3_build_49 (by subst e_h_6 e_r_3 e_r_2 e_h_1; refine ⟨?_, ?_⟩ <;> (simp only [f_X3_build, if_neg c_9, if_neg c_19, if_pos c_30] <;> rfl))
      · refine lv_iconst (v := 1) hx hb dX3_build_33 (by decide) ?_
        refine lv_goto (tgt := 38) hx hb dX3_build_34 (by decide) ?_
        refine lv_istore (lv' := [(4, .int 1), (0, .ref (ad 18)), (1, .int a), (2, .int b), (3, .int z)]) hx hb dX3_build_38 hl (by decide) rfl (fun ls hl => ?_)
        refine lv_aload_n hx hb dX3_build_40 rfl (lv_at hl 1 rfl) ?_
        refine lv_iload_n hx hb dX3_build_41 rfl (lv_at hl 2 rfl) ?_
        refine lv_iload_n hx hb dX3_build_42 rfl (lv_at hl 3 rfl) ?_
        refine lv_iload_n hx hb dX3_build_43 rfl (lv_at hl 4 rfl) ?_
        refine pr_Vv (As := [.int a, .int b, .int z]) (rest := []) ⟨hx, hb, hml, hown, hts⟩ (c_X3_cleared a b z i1 hz) (cwV 3 hts gX3_build_X3_cleared rfl rfl rfl (by decide +kernel) ⟨Nat.le_of_ble_eq_true rfl, Nat.le_of_ble_eq_true rfl⟩) (va_recv hK.1 hP (ci := 5) rfl pz_a18) hK hP hD hS hA rfl hl.1 rfl (Nat.le_of_ble_eq_true rfl) ⟨Nat.le_of_ble_eq_true rfl, Nat.le_of_ble_eq_true rfl⟩ dX3_build_44 (fun h_9 H locs e_h_9 hP hD hS => ?_)
        refine lv_iload hx hb dX3_build_47 (lv_at hl 0 rfl) ?_
        exact pr_iret (h_9) hx hb hr hlocks hP hD hS dX3_build_49 (by subst e_h_9 e_r_3 e_r_2 e_h_1; refine ⟨?_, ?_⟩ <;> (simp only [f_X3_build, if_neg c_9, if_neg c_19, if_neg c_30] <;> rfl))
    · refine lv_iconst (v := (-1)) hx hb dX3_build_22 (by decide) ?_
      exact pr_iret (h_1) hx hb hr hlocks hP hD hS dX3_build_23 (by subst e_r_3 e_r_2 e_h_1; refine ⟨?_, ?_⟩ <;> (simp only [f_X3_build, if_neg c_9, if_pos c_19] <;> rfl))
theorem inX3_raze_X3 : ∀ w ∈ u_ws RX3 TX3 20, w ∈ wsX3_raze := by decide +kernel
def f_X3_raze (h : pz_M) (a : Int32) : Int32 × pz_M :=
  let h_1 := pz_st h 18 0 0
  let r_2 := f_X3_isPlace a
  if r_2 = 0 then
    ((-1), h_1)
  else
    if (h_1 19 a.toNatClampNeg) ≤ 0 then
      let h_5 := f_X3_cleared h_1 a 0 0
      (0, h_5)
    else
      let h_8 := f_X3_cleared h_1 a 0 0
      (1, h_8)
set_option maxHeartbeats 4000000 in
set_option maxRecDepth 100000 in
theorem c_X3_raze {l : Launch} {dC : Nat → ClassId} {dI : Nat → Nat → Nat} {cl : Nat → ClassId} {ad : Nat → Nat} {ph : Nat → Option Nat} {o : Nat → Int64} {g h : pz_M} (a : Int32) : pz_Mi l dC dI cl yX3_raze wsX3_raze { frames := 2, cells := 0, slots := 0, locals := 42 } [.ref (ad 18), .int a] (pz_wd ad cl ph o g h) (fun u : pz_M => pz_wd ad cl ph o g u) (fun r u => r = (f_X3_raze h a).1 ∧ u = (f_X3_raze h a).2) := by
  intro sz
  refine pr_ofW (Qc := pz_Qi dC dI _ _) (cb := cX3_raze) (maxL := 3) (ret := (some .int)) (by decide) rfl (Nat.le_of_ble_eq_true rfl) ?_
  intro p e s m below meth c A ls hx hb hml hr hlocks hts hown hK hP hD hS hA hl
  have hl : lv_has ls 3 [(0, .ref (ad 18)), (1, .int a)] := hl
  refine lv_aload_n hx hb dX3_raze_0 rfl (lv_at hl 0 rfl) ?_
  refine lv_iconst (v := 0) hx hb dX3_raze_1 (by decide) ?_
  refine pr_putR (ci := 5) (C := RX3) (T := TX3) (N := 20) (ty := .int) (v := 0) hx hb hts inX3_raze_X3 tyX3 tyX3_ok nmX3 hown hK.1 hP hD hS 18 (by omega) (by omega) pz_a18 rfl 0 (by decide) (hts (.fieldLink RX3 57 "PowderMillModel" "thrown" "I") (by decide +kernel)) (fun _ h9 => h9) rfl (by decide +kernel) rfl rfl (Nat.le_of_ble_eq_true rfl) rfl dX3_raze_2 (fun h_1 H locs e_h_1 hP hD hS => ?_)
  refine lv_iload_n hx hb dX3_raze_5 rfl (lv_at hl 1 rfl) ?_
  refine pr_Si (As := [.int a]) (rest := []) ⟨hx, hb, hml, hown, hts⟩ (c_X3_isPlace a) (va_cwS 1 hts gX3_raze_X3_isPlace rfl rfl rfl (by decide +kernel) ⟨Nat.le_of_ble_eq_true rfl, Nat.le_of_ble_eq_true rfl⟩) hK hP hD hS hA rfl hl.1 rfl (Nat.le_of_ble_eq_true rfl) ⟨Nat.le_of_ble_eq_true rfl, Nat.le_of_ble_eq_true rfl⟩ dX3_raze_6 (fun r_2 _ H locs e_r_2 hP hD hS => ?_)
  refine lv_if_ne (tgt := 14) hx hb dX3_raze_9 (by decide) (fun c_9 => ?_) (fun c_9 => ?_)
  · have i1 : vp_in a 8 := pz_mplace (by rw [← e_r_2]; exact c_9)
    refine lv_aload_n hx hb dX3_raze_14 rfl (lv_at hl 0 rfl) ?_
    refine va_get (D := (dC, dI)) (ci := 5) (C := RX3) (T := TX3) (N := 20) hx hb hts inX3_raze_X3 hown hK.1 hP 18 pz_a18 rfl 1 (by decide) (hts (.fieldLink RX3 7 "PowderMillModel" "walls" "[I") (by decide +kernel)) (fun _ h9 => h9) rfl dX3_raze_15 ?_
    refine lv_iload_n hx hb dX3_raze_18 rfl (lv_at hl 1 rfl) ?_
    refine va_iald hx hb hK.1 hP 19 0 pz_a19 rfl i1 dX3_raze_19 ?_
    refine lv_if_le (tgt := 27) hx hb dX3_raze_20 (by decide) (fun c_20 => ?_) (fun c_20 => ?_)
    · refine lv_iconst (v := 0) hx hb dX3_raze_27 (by decide) ?_
      refine lv_istore_n (lv' := [(2, .int 0), (0, .ref (ad 18)), (1, .int a)]) hx hb dX3_raze_28 rfl hl (by decide) rfl (fun ls hl => ?_)
      refine lv_aload_n hx hb dX3_raze_29 rfl (lv_at hl 1 rfl) ?_
      refine lv_iload_n hx hb dX3_raze_30 rfl (lv_at hl 2 rfl) ?_
      refine lv_iconst (v := 0) hx hb dX3_raze_31 (by decide) ?_
      refine lv_iconst (v := 0) hx hb dX3_raze_32 (by decide) ?_
      refine pr_Vv (As := [.int a, .int 0, .int 0]) (rest := []) ⟨hx, hb, hml, hown, hts⟩ (c_X3_cleared a 0 0 i1 (Or.inl rfl)) (cwV 3 hts gX3_raze_X3_cleared rfl rfl rfl (by decide +kernel) ⟨Nat.le_of_ble_eq_true rfl, Nat.le_of_ble_eq_true rfl⟩) (va_recv hK.1 hP (ci := 5) rfl pz_a18) hK hP hD hS hA rfl hl.1 rfl (Nat.le_of_ble_eq_true rfl) ⟨Nat.le_of_ble_eq_true rfl, Nat.le_of_ble_eq_true rfl⟩ dX3_raze_33 (fun h_5 H locs e_h_5 hP hD hS => ?_)
      refine lv_iload_n hx hb dX3_raze_36 rfl (lv_at hl 0 rfl) ?_
      exact pr_iret (h_5) hx hb hr hlocks hP hD hS dX3_raze_37 (by subst e_h_5 e_r_2 e_h_1; refine ⟨?_, ?_⟩ <;> (simp only [f_X3_raze, if_neg c_9, if_pos c_20] <;> rfl))
    · refine lv_iconst (v := 1) hx hb dX3_raze_23 (by decide) ?_
      refine lv_goto (tgt := 28) hx hb dX3_raze_24 (by decide) ?_
      refine lv_istore_n (lv' := [(2, .int 1), (0, .ref (ad 18)), (1, .int a)]) hx hb dX3_raze_28 rfl hl (by decide) rfl (fun ls hl => ?_)
      refine lv_aload_n hx hb dX3_raze_29 rfl (lv_at hl 1 rfl) ?_
      refine lv_iload_n hx hb dX3_raze_30 rfl (lv_at hl 2 rfl) ?_
      refine lv_iconst (v := 0) hx hb dX3_raze_31 (by decide) ?_
      refine lv_iconst (v := 0) hx hb dX3_raze_32 (by decide) ?_
      refine pr_Vv (As := [.int a, .int 0, .int 0]) (rest := []) ⟨hx, hb, hml, hown, hts⟩ (c_X3_cleared a 0 0 i1 (Or.inl rfl)) (cwV 3 hts gX3_raze_X3_cleared rfl rfl rfl (by decide +kernel) ⟨Nat.le_of_ble_eq_true rfl, Nat.le_of_ble_eq_true rfl⟩) (va_recv hK.1 hP (ci := 5) rfl pz_a18) hK hP hD hS hA rfl hl.1 rfl (Nat.le_of_ble_eq_true rfl) ⟨Nat.le_of_ble_eq_true rfl, Nat.le_of_ble_eq_true rfl⟩ dX3_raze_33 (fun h_8 H locs e_h_8 hP hD hS => ?_)
      refine lv_iload_n hx hb dX3_raze_36 rfl (lv_at hl 0 rfl) ?_
      exact pr_iret (h_8) hx hb hr hlocks hP hD hS dX3_raze_37 (by subst e_h_8 e_r_2 e_h_1; refine ⟨?_, ?_⟩ <;> (simp only [f_X3_raze, if_neg c_9, if_neg c_20] <;> rfl))
  · refine lv_iconst (v := (-1)) hx hb dX3_raze_12 (by decide) ?_
    exact pr_iret (h_1) hx hb hr hlocks hP hD hS dX3_raze_13 (by subst e_r_2 e_h_1; refine ⟨?_, ?_⟩ <;> (simp only [f_X3_raze, if_pos c_9] <;> rfl))
theorem inX3_step_X3 : ∀ w ∈ u_ws RX3 TX3 20, w ∈ wsX3_step := by decide +kernel
def f_X3_step (h : pz_M) (a : Int32) (b : Int32) : Int32 × pz_M :=
  let h_1 := pz_st h 18 0 0
  let r_2 := f_X3_isIn a 0 8
  if r_2 = 0 then
    ((-1), h_1)
  else
    if (h_1 18 8) = 30 then
      ((-2), h_1)
    else
      let h_3 := pz_st h_1 26 (h_1 18 8).toNatClampNeg a
      let h_4 := pz_st h_3 27 (h_3 18 8).toNatClampNeg b
      let h_5 := pz_st h_4 18 8 ((h_4 18 8) + 1)
      (h_5 18 8, h_5)
set_option maxHeartbeats 4000000 in
set_option maxRecDepth 100000 in
theorem c_X3_step {l : Launch} {dC : Nat → ClassId} {dI : Nat → Nat → Nat} {cl : Nat → ClassId} {ad : Nat → Nat} {ph : Nat → Option Nat} {o : Nat → Int64} {g h : pz_M} (a : Int32) (b : Int32) (hm : ∃ n : Nat, n ≤ 30 ∧ h 18 8 = nI n) : pz_Mi l dC dI cl yX3_step wsX3_step { frames := 1, cells := 0, slots := 0, locals := 22 } [.ref (ad 18), .int a, .int b] (pz_wd ad cl ph o g h) (fun u : pz_M => pz_wd ad cl ph o g u) (fun r u => r = (f_X3_step h a b).1 ∧ u = (f_X3_step h a b).2) := by
  intro sz
  refine pr_ofW (Qc := pz_Qi dC dI _ _) (cb := cX3_step) (maxL := 3) (ret := (some .int)) (by decide) rfl (Nat.le_of_ble_eq_true rfl) ?_
  intro p e s m below meth c A ls hx hb hml hr hlocks hts hown hK hP hD hS hA hl
  have hl : lv_has ls 3 [(0, .ref (ad 18)), (1, .int a), (2, .int b)] := hl
  refine lv_aload_n hx hb dX3_step_0 rfl (lv_at hl 0 rfl) ?_
  refine lv_iconst (v := 0) hx hb dX3_step_1 (by decide) ?_
  refine pr_putR (ci := 5) (C := RX3) (T := TX3) (N := 20) (ty := .int) (v := 0) hx hb hts inX3_step_X3 tyX3 tyX3_ok nmX3 hown hK.1 hP hD hS 18 (by omega) (by omega) pz_a18 rfl 0 (by decide) (hts (.fieldLink RX3 57 "PowderMillModel" "thrown" "I") (by decide +kernel)) (fun _ h9 => h9) rfl (by decide +kernel) rfl rfl (Nat.le_of_ble_eq_true rfl) rfl dX3_step_2 (fun h_1 H locs e_h_1 hP hD hS => ?_)
  refine lv_iload_n hx hb dX3_step_5 rfl (lv_at hl 1 rfl) ?_
  refine lv_iconst (v := 0) hx hb dX3_step_6 (by decide) ?_
  refine lv_bipush (v := 8) hx hb dX3_step_7 (by decide) ?_
  refine pr_Si (As := [.int a, .int 0, .int 8]) (rest := []) ⟨hx, hb, hml, hown, hts⟩ (c_X3_isIn a 0 8) (va_cwS 3 hts gX3_step_X3_isIn rfl rfl rfl (by decide +kernel) ⟨Nat.le_of_ble_eq_true rfl, Nat.le_of_ble_eq_true rfl⟩) hK hP hD hS hA rfl hl.1 rfl (Nat.le_of_ble_eq_true rfl) ⟨Nat.le_of_ble_eq_true rfl, Nat.le_of_ble_eq_true rfl⟩ dX3_step_9 (fun r_2 _ H locs e_r_2 hP hD hS => ?_)
  refine lv_if_ne (tgt := 17) hx hb dX3_step_12 (by decide) (fun c_12 => ?_) (fun c_12 => ?_)
  · refine lv_aload_n hx hb dX3_step_17 rfl (lv_at hl 0 rfl) ?_
    refine va_get (D := (dC, dI)) (ci := 5) (C := RX3) (T := TX3) (N := 20) hx hb hts inX3_step_X3 hown hK.1 hP 18 pz_a18 rfl 8 (by decide) (hts (.fieldLink RX3 54 "PowderMillModel" "many" "I") (by decide +kernel)) (fun _ h9 => h9) rfl dX3_step_18 ?_
    refine lv_bipush (v := 30) hx hb dX3_step_21 (by decide) ?_
    refine lv_icmp_ne (tgt := 29) hx hb dX3_step_23 (by decide) (fun c_23 => ?_) (fun c_23 => ?_)
    · have i1 : vp_in (h_1 18 8) 30 := pz_many (by subst e_h_1; rw [pz_t (by decide)]; exact hm) c_23
      refine lv_aload_n hx hb dX3_step_29 rfl (lv_at hl 0 rfl) ?_
      refine va_get (D := (dC, dI)) (ci := 5) (C := RX3) (T := TX3) (N := 20) hx hb hts inX3_step_X3 hown hK.1 hP 18 pz_a18 rfl 9 (by decide) (hts (.fieldLink RX3 32 "PowderMillModel" "acts" "[I") (by decide +kernel)) (fun _ h9 => h9) rfl dX3_step_30 ?_
      refine lv_aload_n hx hb dX3_step_33 rfl (lv_at hl 0 rfl) ?_
      refine va_get (D := (dC, dI)) (ci := 5) (C := RX3) (T := TX3) (N := 20) hx hb hts inX3_step_X3 hown hK.1 hP 18 pz_a18 rfl 8 (by decide) (hts (.fieldLink RX3 54 "PowderMillModel" "many" "I") (by decide +kernel)) (fun _ h9 => h9) rfl dX3_step_34 ?_
      refine lv_iload_n hx hb dX3_step_37 rfl (lv_at hl 1 rfl) ?_
      refine pr_iastR hx hb hK.1 hP hD hS 26 (by omega) (by omega) pz_a26 (fun _ => rfl) i1 dX3_step_38 (fun h_3 H locs e_h_3 hP hD hS => ?_)
      refine lv_aload_n hx hb dX3_step_39 rfl (lv_at hl 0 rfl) ?_
      refine va_get (D := (dC, dI)) (ci := 5) (C := RX3) (T := TX3) (N := 20) hx hb hts inX3_step_X3 hown hK.1 hP 18 pz_a18 rfl 10 (by decide) (hts (.fieldLink RX3 35 "PowderMillModel" "numbers" "[I") (by decide +kernel)) (fun _ h9 => h9) rfl dX3_step_40 ?_
      refine lv_aload_n hx hb dX3_step_43 rfl (lv_at hl 0 rfl) ?_
      refine va_get (D := (dC, dI)) (ci := 5) (C := RX3) (T := TX3) (N := 20) hx hb hts inX3_step_X3 hown hK.1 hP 18 pz_a18 rfl 8 (by decide) (hts (.fieldLink RX3 54 "PowderMillModel" "many" "I") (by decide +kernel)) (fun _ h9 => h9) rfl dX3_step_44 ?_
      refine lv_iload_n hx hb dX3_step_47 rfl (lv_at hl 2 rfl) ?_
      refine pr_iastR hx hb hK.1 hP hD hS 27 (by omega) (by omega) pz_a27 (fun _ => rfl) (by subst e_h_3; rw [pz_t2 (by decide)]; exact i1) dX3_step_48 (fun h_4 H locs e_h_4 hP hD hS => ?_)
      refine lv_aload_n hx hb dX3_step_49 rfl (lv_at hl 0 rfl) ?_
      refine lv_dup hx hb dX3_step_50 rfl ?_
      refine va_get (D := (dC, dI)) (ci := 5) (C := RX3) (T := TX3) (N := 20) hx hb hts inX3_step_X3 hown hK.1 hP 18 pz_a18 rfl 8 (by decide) (hts (.fieldLink RX3 54 "PowderMillModel" "many" "I") (by decide +kernel)) (fun _ h9 => h9) rfl dX3_step_51 ?_
      refine lv_iconst (v := 1) hx hb dX3_step_54 (by decide) ?_
      refine lv_iadd hx hb dX3_step_55 ?_
      refine pr_putR (ci := 5) (C := RX3) (T := TX3) (N := 20) (ty := .int) (v := ((h_4 18 8) + 1)) hx hb hts inX3_step_X3 tyX3 tyX3_ok nmX3 hown hK.1 hP hD hS 18 (by omega) (by omega) pz_a18 rfl 8 (by decide) (hts (.fieldLink RX3 54 "PowderMillModel" "many" "I") (by decide +kernel)) (fun _ h9 => h9) rfl (by decide +kernel) rfl rfl (Nat.le_of_ble_eq_true rfl) rfl dX3_step_56 (fun h_5 H locs e_h_5 hP hD hS => ?_)
      refine lv_aload_n hx hb dX3_step_59 rfl (lv_at hl 0 rfl) ?_
      refine va_get (D := (dC, dI)) (ci := 5) (C := RX3) (T := TX3) (N := 20) hx hb hts inX3_step_X3 hown hK.1 hP 18 pz_a18 rfl 8 (by decide) (hts (.fieldLink RX3 54 "PowderMillModel" "many" "I") (by decide +kernel)) (fun _ h9 => h9) rfl dX3_step_60 ?_
      exact pr_iret (h_5) hx hb hr hlocks hP hD hS dX3_step_63 (by subst e_h_5 e_h_4 e_h_3 e_r_2 e_h_1; refine ⟨?_, ?_⟩ <;> (simp only [f_X3_step, if_neg c_12, if_neg c_23] <;> rfl))
    · refine lv_bipush (v := (-2)) hx hb dX3_step_26 (by decide) ?_
      exact pr_iret (h_1) hx hb hr hlocks hP hD hS dX3_step_28 (by subst e_r_2 e_h_1; refine ⟨?_, ?_⟩ <;> (simp only [f_X3_step, if_neg c_12, if_pos c_23] <;> rfl))
  · refine lv_iconst (v := (-1)) hx hb dX3_step_15 (by decide) ?_
    exact pr_iret (h_1) hx hb hr hlocks hP hD hS dX3_step_16 (by subst e_r_2 e_h_1; refine ⟨?_, ?_⟩ <;> (simp only [f_X3_step, if_pos c_12] <;> rfl))
theorem inX3_clear_X3 : ∀ w ∈ u_ws RX3 TX3 20, w ∈ wsX3_clear := by decide +kernel
def f_X3_clear (h : pz_M) : Int32 × pz_M :=
  let h_1 := pz_st h 18 0 0
  let h_2 := pz_st h_1 18 8 0
  (h_1 18 8, h_2)
set_option maxHeartbeats 4000000 in
set_option maxRecDepth 100000 in
theorem c_X3_clear {l : Launch} {dC : Nat → ClassId} {dI : Nat → Nat → Nat} {cl : Nat → ClassId} {ad : Nat → Nat} {ph : Nat → Option Nat} {o : Nat → Int64} {g h : pz_M} : pz_Mi l dC dI cl yX3_clear wsX3_clear { frames := 0, cells := 0, slots := 0, locals := 0 } [.ref (ad 18)] (pz_wd ad cl ph o g h) (fun u : pz_M => pz_wd ad cl ph o g u) (fun r u => r = (f_X3_clear h).1 ∧ u = (f_X3_clear h).2) := by
  intro sz
  refine pr_ofW (Qc := pz_Qi dC dI _ _) (cb := cX3_clear) (maxL := 2) (ret := (some .int)) (by decide) rfl (Nat.le_of_ble_eq_true rfl) ?_
  intro p e s m below meth c A ls hx hb hml hr hlocks hts hown hK hP hD hS hA hl
  have hl : lv_has ls 2 [(0, .ref (ad 18))] := hl
  refine lv_aload_n hx hb dX3_clear_0 rfl (lv_at hl 0 rfl) ?_
  refine lv_iconst (v := 0) hx hb dX3_clear_1 (by decide) ?_
  refine pr_putR (ci := 5) (C := RX3) (T := TX3) (N := 20) (ty := .int) (v := 0) hx hb hts inX3_clear_X3 tyX3 tyX3_ok nmX3 hown hK.1 hP hD hS 18 (by omega) (by omega) pz_a18 rfl 0 (by decide) (hts (.fieldLink RX3 57 "PowderMillModel" "thrown" "I") (by decide +kernel)) (fun _ h9 => h9) rfl (by decide +kernel) rfl rfl (Nat.le_of_ble_eq_true rfl) rfl dX3_clear_2 (fun h_1 H locs e_h_1 hP hD hS => ?_)
  refine lv_aload_n hx hb dX3_clear_5 rfl (lv_at hl 0 rfl) ?_
  refine va_get (D := (dC, dI)) (ci := 5) (C := RX3) (T := TX3) (N := 20) hx hb hts inX3_clear_X3 hown hK.1 hP 18 pz_a18 rfl 8 (by decide) (hts (.fieldLink RX3 54 "PowderMillModel" "many" "I") (by decide +kernel)) (fun _ h9 => h9) rfl dX3_clear_6 ?_
  refine lv_istore_n (lv' := [(1, .int (h_1 18 8)), (0, .ref (ad 18))]) hx hb dX3_clear_9 rfl hl (by decide) rfl (fun ls hl => ?_)
  refine lv_aload_n hx hb dX3_clear_10 rfl (lv_at hl 1 rfl) ?_
  refine lv_iconst (v := 0) hx hb dX3_clear_11 (by decide) ?_
  refine pr_putR (ci := 5) (C := RX3) (T := TX3) (N := 20) (ty := .int) (v := 0) hx hb hts inX3_clear_X3 tyX3 tyX3_ok nmX3 hown hK.1 hP hD hS 18 (by omega) (by omega) pz_a18 rfl 8 (by decide) (hts (.fieldLink RX3 54 "PowderMillModel" "many" "I") (by decide +kernel)) (fun _ h9 => h9) rfl (by decide +kernel) rfl rfl (Nat.le_of_ble_eq_true rfl) rfl dX3_clear_12 (fun h_2 H locs e_h_2 hP hD hS => ?_)
  refine lv_iload_n hx hb dX3_clear_15 rfl (lv_at hl 0 rfl) ?_
  exact pr_iret (h_2) hx hb hr hlocks hP hD hS dX3_clear_16 (by subst e_h_2 e_h_1; refine ⟨?_, ?_⟩ <;> (simp only [f_X3_clear] <;> rfl))
theorem inX3_alter_X3 : ∀ w ∈ u_ws RX3 TX3 20, w ∈ wsX3_alter := by decide +kernel
def f_X3_alter (h : pz_M) (a : Int32) (b : Int32) (z : Int32) : Int32 × pz_M :=
  let h_1 := pz_st h 18 0 0
  let r_2 := f_X3_isIn a 0 ((h_1 18 8) - 1)
  if r_2 = 0 then
    ((-1), h_1)
  else
    let r_3 := f_X3_isIn b 0 8
    if r_3 = 0 then
      ((-1), h_1)
    else
      let h_4 := pz_st h_1 26 a.toNatClampNeg b
      let h_5 := pz_st h_4 27 a.toNatClampNeg z
      (h_1 26 a.toNatClampNeg, h_5)
set_option maxHeartbeats 4000000 in
set_option maxRecDepth 100000 in
theorem c_X3_alter {l : Launch} {dC : Nat → ClassId} {dI : Nat → Nat → Nat} {cl : Nat → ClassId} {ad : Nat → Nat} {ph : Nat → Option Nat} {o : Nat → Int64} {g h : pz_M} (a : Int32) (b : Int32) (z : Int32) (hm : ∃ n : Nat, n ≤ 30 ∧ h 18 8 = nI n) : pz_Mi l dC dI cl yX3_alter wsX3_alter { frames := 1, cells := 0, slots := 0, locals := 22 } [.ref (ad 18), .int a, .int b, .int z] (pz_wd ad cl ph o g h) (fun u : pz_M => pz_wd ad cl ph o g u) (fun r u => r = (f_X3_alter h a b z).1 ∧ u = (f_X3_alter h a b z).2) := by
  intro sz
  refine pr_ofW (Qc := pz_Qi dC dI _ _) (cb := cX3_alter) (maxL := 5) (ret := (some .int)) (by decide) rfl (Nat.le_of_ble_eq_true rfl) ?_
  intro p e s m below meth c A ls hx hb hml hr hlocks hts hown hK hP hD hS hA hl
  have hl : lv_has ls 5 [(0, .ref (ad 18)), (1, .int a), (2, .int b), (3, .int z)] := hl
  refine lv_aload_n hx hb dX3_alter_0 rfl (lv_at hl 0 rfl) ?_
  refine lv_iconst (v := 0) hx hb dX3_alter_1 (by decide) ?_
  refine pr_putR (ci := 5) (C := RX3) (T := TX3) (N := 20) (ty := .int) (v := 0) hx hb hts inX3_alter_X3 tyX3 tyX3_ok nmX3 hown hK.1 hP hD hS 18 (by omega) (by omega) pz_a18 rfl 0 (by decide) (hts (.fieldLink RX3 57 "PowderMillModel" "thrown" "I") (by decide +kernel)) (fun _ h9 => h9) rfl (by decide +kernel) rfl rfl (Nat.le_of_ble_eq_true rfl) rfl dX3_alter_2 (fun h_1 H locs e_h_1 hP hD hS => ?_)
  refine lv_iload_n hx hb dX3_alter_5 rfl (lv_at hl 1 rfl) ?_
  refine lv_iconst (v := 0) hx hb dX3_alter_6 (by decide) ?_
  refine lv_aload_n hx hb dX3_alter_7 rfl (lv_at hl 0 rfl) ?_
  refine va_get (D := (dC, dI)) (ci := 5) (C := RX3) (T := TX3) (N := 20) hx hb hts inX3_alter_X3 hown hK.1 hP 18 pz_a18 rfl 8 (by decide) (hts (.fieldLink RX3 54 "PowderMillModel" "many" "I") (by decide +kernel)) (fun _ h9 => h9) rfl dX3_alter_8 ?_
  refine lv_iconst (v := 1) hx hb dX3_alter_11 (by decide) ?_
  refine lv_isub hx hb dX3_alter_12 ?_
  refine pr_Si (As := [.int a, .int 0, .int ((h_1 18 8) - 1)]) (rest := []) ⟨hx, hb, hml, hown, hts⟩ (c_X3_isIn a 0 ((h_1 18 8) - 1)) (va_cwS 3 hts gX3_alter_X3_isIn rfl rfl rfl (by decide +kernel) ⟨Nat.le_of_ble_eq_true rfl, Nat.le_of_ble_eq_true rfl⟩) hK hP hD hS hA rfl hl.1 rfl (Nat.le_of_ble_eq_true rfl) ⟨Nat.le_of_ble_eq_true rfl, Nat.le_of_ble_eq_true rfl⟩ dX3_alter_13 (fun r_2 _ H locs e_r_2 hP hD hS => ?_)
  refine lv_if_eq (tgt := 29) hx hb dX3_alter_16 (by decide) (fun c_16 => ?_) (fun c_16 => ?_)
  · refine lv_iconst (v := (-1)) hx hb dX3_alter_29 (by decide) ?_
    exact pr_iret (h_1) hx hb hr hlocks hP hD hS dX3_alter_30 (by subst e_r_2 e_h_1; refine ⟨?_, ?_⟩ <;> (simp only [f_X3_alter, if_pos c_16] <;> rfl))
  · refine lv_iload_n hx hb dX3_alter_19 rfl (lv_at hl 2 rfl) ?_
    refine lv_iconst (v := 0) hx hb dX3_alter_20 (by decide) ?_
    refine lv_bipush (v := 8) hx hb dX3_alter_21 (by decide) ?_
    refine pr_Si (As := [.int b, .int 0, .int 8]) (rest := []) ⟨hx, hb, hml, hown, hts⟩ (c_X3_isIn b 0 8) (va_cwS 3 hts gX3_alter_X3_isIn rfl rfl rfl (by decide +kernel) ⟨Nat.le_of_ble_eq_true rfl, Nat.le_of_ble_eq_true rfl⟩) hK hP hD hS hA rfl hl.1 rfl (Nat.le_of_ble_eq_true rfl) ⟨Nat.le_of_ble_eq_true rfl, Nat.le_of_ble_eq_true rfl⟩ dX3_alter_23 (fun r_3 _ H locs e_r_3 hP hD hS => ?_)
    refine lv_if_ne (tgt := 31) hx hb dX3_alter_26 (by decide) (fun c_26 => ?_) (fun c_26 => ?_)
    · have i1 : vp_in a 30 := pz_malter (b := h_1 18 8) (by subst e_h_1; rw [pz_t (by decide)]; exact hm) (by rw [← e_r_2]; exact c_16)
      refine lv_aload_n hx hb dX3_alter_31 rfl (lv_at hl 0 rfl) ?_
      refine va_get (D := (dC, dI)) (ci := 5) (C := RX3) (T := TX3) (N := 20) hx hb hts inX3_alter_X3 hown hK.1 hP 18 pz_a18 rfl 9 (by decide) (hts (.fieldLink RX3 32 "PowderMillModel" "acts" "[I") (by decide +kernel)) (fun _ h9 => h9) rfl dX3_alter_32 ?_
      refine lv_iload_n hx hb dX3_alter_35 rfl (lv_at hl 1 rfl) ?_
      refine va_iald hx hb hK.1 hP 26 0 pz_a26 rfl i1 dX3_alter_36 ?_
      refine lv_istore (lv' := [(4, .int (h_1 26 a.toNatClampNeg)), (0, .ref (ad 18)), (1, .int a), (2, .int b), (3, .int z)]) hx hb dX3_alter_37 hl (by decide) rfl (fun ls hl => ?_)
      refine lv_aload_n hx hb dX3_alter_39 rfl (lv_at hl 1 rfl) ?_
      refine va_get (D := (dC, dI)) (ci := 5) (C := RX3) (T := TX3) (N := 20) hx hb hts inX3_alter_X3 hown hK.1 hP 18 pz_a18 rfl 9 (by decide) (hts (.fieldLink RX3 32 "PowderMillModel" "acts" "[I") (by decide +kernel)) (fun _ h9 => h9) rfl dX3_alter_40 ?_
      refine lv_iload_n hx hb dX3_alter_43 rfl (lv_at hl 2 rfl) ?_
      refine lv_iload_n hx hb dX3_alter_44 rfl (lv_at hl 3 rfl) ?_
      refine pr_iastR hx hb hK.1 hP hD hS 26 (by omega) (by omega) pz_a26 (fun _ => rfl) i1 dX3_alter_45 (fun h_4 H locs e_h_4 hP hD hS => ?_)
      refine lv_aload_n hx hb dX3_alter_46 rfl (lv_at hl 1 rfl) ?_
      refine va_get (D := (dC, dI)) (ci := 5) (C := RX3) (T := TX3) (N := 20) hx hb hts inX3_alter_X3 hown hK.1 hP 18 pz_a18 rfl 10 (by decide) (hts (.fieldLink RX3 35 "PowderMillModel" "numbers" "[I") (by decide +kernel)) (fun _ h9 => h9) rfl dX3_alter_47 ?_
      refine lv_iload_n hx hb dX3_alter_50 rfl (lv_at hl 2 rfl) ?_
      refine lv_iload_n hx hb dX3_alter_51 rfl (lv_at hl 4 rfl) ?_
      refine pr_iastR hx hb hK.1 hP hD hS 27 (by omega) (by omega) pz_a27 (fun _ => rfl) i1 dX3_alter_52 (fun h_5 H locs e_h_5 hP hD hS => ?_)
      refine lv_iload hx hb dX3_alter_53 (lv_at hl 0 rfl) ?_
      exact pr_iret (h_5) hx hb hr hlocks hP hD hS dX3_alter_55 (by subst e_h_5 e_h_4 e_r_3 e_r_2 e_h_1; refine ⟨?_, ?_⟩ <;> (simp only [f_X3_alter, if_neg c_16, if_neg c_26] <;> rfl))
    · refine lv_iconst (v := (-1)) hx hb dX3_alter_29 (by decide) ?_
      exact pr_iret (h_1) hx hb hr hlocks hP hD hS dX3_alter_30 (by subst e_r_3 e_r_2 e_h_1; refine ⟨?_, ?_⟩ <;> (simp only [f_X3_alter, if_neg c_16, if_pos c_26] <;> rfl))
theorem inX3_comes_X3 : ∀ w ∈ u_ws RX3 TX3 20, w ∈ wsX3_comes := by decide +kernel
def f_X3_comes (h : pz_M) (a : Int32) (b : Int32) : Int32 × pz_M :=
  let h_1 := pz_st h 20 a.toNatClampNeg ((h 20 a.toNatClampNeg) + b)
  if (10 * (h_1 19 a.toNatClampNeg)) < (h_1 20 a.toNatClampNeg) then
    let h_2 := pz_st h_1 20 a.toNatClampNeg 0
    let h_3 := pz_st h_2 23 a.toNatClampNeg ((h_2 23 a.toNatClampNeg) + 1)
    (3, h_3)
  else
    (0, h_1)
set_option maxHeartbeats 4000000 in
set_option maxRecDepth 100000 in
theorem c_X3_comes {l : Launch} {dC : Nat → ClassId} {dI : Nat → Nat → Nat} {cl : Nat → ClassId} {ad : Nat → Nat} {ph : Nat → Option Nat} {o : Nat → Int64} {g h : pz_M} (a : Int32) (b : Int32) (ha : vp_in a 8) : pz_Mi l dC dI cl yX3_comes wsX3_comes { frames := 0, cells := 0, slots := 0, locals := 0 } [.ref (ad 18), .int a, .int b] (pz_wd ad cl ph o g h) (fun u : pz_M => pz_wd ad cl ph o g u) (fun r u => r = (f_X3_comes h a b).1 ∧ u = (f_X3_comes h a b).2) := by
  intro sz
  refine pr_ofW (Qc := pz_Qi dC dI _ _) (cb := cX3_comes) (maxL := 3) (ret := (some .int)) (by decide) rfl (Nat.le_of_ble_eq_true rfl) ?_
  intro p e s m below meth c A ls hx hb hml hr hlocks hts hown hK hP hD hS hA hl
  have hl : lv_has ls 3 [(0, .ref (ad 18)), (1, .int a), (2, .int b)] := hl
  refine lv_aload_n hx hb dX3_comes_0 rfl (lv_at hl 0 rfl) ?_
  refine va_get (D := (dC, dI)) (ci := 5) (C := RX3) (T := TX3) (N := 20) hx hb hts inX3_comes_X3 hown hK.1 hP 18 pz_a18 rfl 2 (by decide) (hts (.fieldLink RX3 13 "PowderMillModel" "powder" "[I") (by decide +kernel)) (fun _ h9 => h9) rfl dX3_comes_1 ?_
  refine lv_iload_n hx hb dX3_comes_4 rfl (lv_at hl 1 rfl) ?_
  refine lv_dup2_11 hx hb dX3_comes_5 rfl rfl ?_
  refine va_iald hx hb hK.1 hP 20 0 pz_a20 rfl ha dX3_comes_6 ?_
  refine lv_iload_n hx hb dX3_comes_7 rfl (lv_at hl 2 rfl) ?_
  refine lv_iadd hx hb dX3_comes_8 ?_
  refine pr_iastR hx hb hK.1 hP hD hS 20 (by omega) (by omega) pz_a20 (fun _ => rfl) ha dX3_comes_9 (fun h_1 H locs e_h_1 hP hD hS => ?_)
  refine lv_aload_n hx hb dX3_comes_10 rfl (lv_at hl 0 rfl) ?_
  refine va_get (D := (dC, dI)) (ci := 5) (C := RX3) (T := TX3) (N := 20) hx hb hts inX3_comes_X3 hown hK.1 hP 18 pz_a18 rfl 2 (by decide) (hts (.fieldLink RX3 13 "PowderMillModel" "powder" "[I") (by decide +kernel)) (fun _ h9 => h9) rfl dX3_comes_11 ?_
  refine lv_iload_n hx hb dX3_comes_14 rfl (lv_at hl 1 rfl) ?_
  refine va_iald hx hb hK.1 hP 20 0 pz_a20 rfl ha dX3_comes_15 ?_
  refine lv_bipush (v := 10) hx hb dX3_comes_16 (by decide) ?_
  refine lv_aload_n hx hb dX3_comes_18 rfl (lv_at hl 0 rfl) ?_
  refine va_get (D := (dC, dI)) (ci := 5) (C := RX3) (T := TX3) (N := 20) hx hb hts inX3_comes_X3 hown hK.1 hP 18 pz_a18 rfl 1 (by decide) (hts (.fieldLink RX3 7 "PowderMillModel" "walls" "[I") (by decide +kernel)) (fun _ h9 => h9) rfl dX3_comes_19 ?_
  refine lv_iload_n hx hb dX3_comes_22 rfl (lv_at hl 1 rfl) ?_
  refine va_iald hx hb hK.1 hP 19 0 pz_a19 rfl ha dX3_comes_23 ?_
  refine lv_imul hx hb dX3_comes_24 ?_
  refine lv_icmp_gt (tgt := 30) hx hb dX3_comes_25 (by decide) (fun c_25 => ?_) (fun c_25 => ?_)
  · refine lv_aload_n hx hb dX3_comes_30 rfl (lv_at hl 0 rfl) ?_
    refine va_get (D := (dC, dI)) (ci := 5) (C := RX3) (T := TX3) (N := 20) hx hb hts inX3_comes_X3 hown hK.1 hP 18 pz_a18 rfl 2 (by decide) (hts (.fieldLink RX3 13 "PowderMillModel" "powder" "[I") (by decide +kernel)) (fun _ h9 => h9) rfl dX3_comes_31 ?_
    refine lv_iload_n hx hb dX3_comes_34 rfl (lv_at hl 1 rfl) ?_
    refine lv_iconst (v := 0) hx hb dX3_comes_35 (by decide) ?_
    refine pr_iastR hx hb hK.1 hP hD hS 20 (by omega) (by omega) pz_a20 (fun _ => rfl) ha dX3_comes_36 (fun h_2 H locs e_h_2 hP hD hS => ?_)
    refine lv_aload_n hx hb dX3_comes_37 rfl (lv_at hl 0 rfl) ?_
    refine va_get (D := (dC, dI)) (ci := 5) (C := RX3) (T := TX3) (N := 20) hx hb hts inX3_comes_X3 hown hK.1 hP 18 pz_a18 rfl 5 (by decide) (hts (.fieldLink RX3 23 "PowderMillModel" "sparks" "[I") (by decide +kernel)) (fun _ h9 => h9) rfl dX3_comes_38 ?_
    refine lv_iload_n hx hb dX3_comes_41 rfl (lv_at hl 1 rfl) ?_
    refine lv_dup2_11 hx hb dX3_comes_42 rfl rfl ?_
    refine va_iald hx hb hK.1 hP 23 0 pz_a23 rfl ha dX3_comes_43 ?_
    refine lv_iconst (v := 1) hx hb dX3_comes_44 (by decide) ?_
    refine lv_iadd hx hb dX3_comes_45 ?_
    refine pr_iastR hx hb hK.1 hP hD hS 23 (by omega) (by omega) pz_a23 (fun _ => rfl) ha dX3_comes_46 (fun h_3 H locs e_h_3 hP hD hS => ?_)
    refine lv_iconst (v := 3) hx hb dX3_comes_47 (by decide) ?_
    exact pr_iret (h_3) hx hb hr hlocks hP hD hS dX3_comes_48 (by subst e_h_3 e_h_2 e_h_1; refine ⟨?_, ?_⟩ <;> (simp only [f_X3_comes, if_pos c_25] <;> rfl))
  · refine lv_iconst (v := 0) hx hb dX3_comes_28 (by decide) ?_
    exact pr_iret (h_1) hx hb hr hlocks hP hD hS dX3_comes_29 (by subst e_h_1; refine ⟨?_, ?_⟩ <;> (simp only [f_X3_comes, if_neg c_25] <;> rfl))
theorem inX3_goIn_X3 : ∀ w ∈ u_ws RX3 TX3 20, w ∈ wsX3_goIn := by decide +kernel
def f_X3_goIn (h : pz_M) (a : Int32) : Int32 × pz_M :=
  if (h 18 11) = 6 then
    (2, h)
  else
    if (h 19 a.toNatClampNeg) = 0 then
      (1, h)
    else
      let h_1 := pz_st h 22 a.toNatClampNeg ((h 22 a.toNatClampNeg) + 1)
      let h_2 := pz_st h_1 28 (h_1 18 11).toNatClampNeg a
      let h_3 := pz_st h_2 29 (h_2 18 11).toNatClampNeg (h_2 18 15)
      let h_4 := pz_st h_3 30 (h_3 18 11).toNatClampNeg 0
      let h_5 := pz_st h_4 18 11 ((h_4 18 11) + 1)
      (0, h_5)
set_option maxHeartbeats 4000000 in
set_option maxRecDepth 100000 in
theorem c_X3_goIn {l : Launch} {dC : Nat → ClassId} {dI : Nat → Nat → Nat} {cl : Nat → ClassId} {ad : Nat → Nat} {ph : Nat → Option Nat} {o : Nat → Int64} {g h : pz_M} (a : Int32) (hv : pz_V h) (ha : vp_in a 8) : pz_Mi l dC dI cl yX3_goIn wsX3_goIn { frames := 0, cells := 0, slots := 0, locals := 0 } [.ref (ad 18), .int a] (pz_wd ad cl ph o g h) (fun u : pz_M => pz_wd ad cl ph o g u) (fun r u => r = (f_X3_goIn h a).1 ∧ u = (f_X3_goIn h a).2) := by
  intro sz
  refine pr_ofW (Qc := pz_Qi dC dI _ _) (cb := cX3_goIn) (maxL := 2) (ret := (some .int)) (by decide) rfl (Nat.le_of_ble_eq_true rfl) ?_
  intro p e s m below meth c A ls hx hb hml hr hlocks hts hown hK hP hD hS hA hl
  have hl : lv_has ls 2 [(0, .ref (ad 18)), (1, .int a)] := hl
  refine lv_aload_n hx hb dX3_goIn_0 rfl (lv_at hl 0 rfl) ?_
  refine va_get (D := (dC, dI)) (ci := 5) (C := RX3) (T := TX3) (N := 20) hx hb hts inX3_goIn_X3 hown hK.1 hP 18 pz_a18 rfl 11 (by decide) (hts (.fieldLink RX3 72 "PowderMillModel" "deep" "I") (by decide +kernel)) (fun _ h9 => h9) rfl dX3_goIn_1 ?_
  refine lv_bipush (v := 6) hx hb dX3_goIn_4 (by decide) ?_
  refine lv_icmp_ne (tgt := 11) hx hb dX3_goIn_6 (by decide) (fun c_6 => ?_) (fun c_6 => ?_)
  · refine lv_aload_n hx hb dX3_goIn_11 rfl (lv_at hl 0 rfl) ?_
    refine va_get (D := (dC, dI)) (ci := 5) (C := RX3) (T := TX3) (N := 20) hx hb hts inX3_goIn_X3 hown hK.1 hP 18 pz_a18 rfl 1 (by decide) (hts (.fieldLink RX3 7 "PowderMillModel" "walls" "[I") (by decide +kernel)) (fun _ h9 => h9) rfl dX3_goIn_12 ?_
    refine lv_iload_n hx hb dX3_goIn_15 rfl (lv_at hl 1 rfl) ?_
    refine va_iald hx hb hK.1 hP 19 0 pz_a19 rfl ha dX3_goIn_16 ?_
    refine lv_if_ne (tgt := 22) hx hb dX3_goIn_17 (by decide) (fun c_17 => ?_) (fun c_17 => ?_)
    · have i1 := pz_V6 hv c_6
      refine lv_aload_n hx hb dX3_goIn_22 rfl (lv_at hl 0 rfl) ?_
      refine va_get (D := (dC, dI)) (ci := 5) (C := RX3) (T := TX3) (N := 20) hx hb hts inX3_goIn_X3 hown hK.1 hP 18 pz_a18 rfl 4 (by decide) (hts (.fieldLink RX3 20 "PowderMillModel" "ins" "[I") (by decide +kernel)) (fun _ h9 => h9) rfl dX3_goIn_23 ?_
      refine lv_iload_n hx hb dX3_goIn_26 rfl (lv_at hl 1 rfl) ?_
      refine lv_dup2_11 hx hb dX3_goIn_27 rfl rfl ?_
      refine va_iald hx hb hK.1 hP 22 0 pz_a22 rfl ha dX3_goIn_28 ?_
      refine lv_iconst (v := 1) hx hb dX3_goIn_29 (by decide) ?_
      refine lv_iadd hx hb dX3_goIn_30 ?_
      refine pr_iastR hx hb hK.1 hP hD hS 22 (by omega) (by omega) pz_a22 (fun _ => rfl) ha dX3_goIn_31 (fun h_1 H locs e_h_1 hP hD hS => ?_)
      refine lv_aload_n hx hb dX3_goIn_32 rfl (lv_at hl 0 rfl) ?_
      refine va_get (D := (dC, dI)) (ci := 5) (C := RX3) (T := TX3) (N := 20) hx hb hts inX3_goIn_X3 hown hK.1 hP 18 pz_a18 rfl 12 (by decide) (hts (.fieldLink RX3 38 "PowderMillModel" "in" "[I") (by decide +kernel)) (fun _ h9 => h9) rfl dX3_goIn_33 ?_
      refine lv_aload_n hx hb dX3_goIn_36 rfl (lv_at hl 0 rfl) ?_
      refine va_get (D := (dC, dI)) (ci := 5) (C := RX3) (T := TX3) (N := 20) hx hb hts inX3_goIn_X3 hown hK.1 hP 18 pz_a18 rfl 11 (by decide) (hts (.fieldLink RX3 72 "PowderMillModel" "deep" "I") (by decide +kernel)) (fun _ h9 => h9) rfl dX3_goIn_37 ?_
      refine lv_iload_n hx hb dX3_goIn_40 rfl (lv_at hl 1 rfl) ?_
      refine pr_iastR hx hb hK.1 hP hD hS 28 (by omega) (by omega) pz_a28 (fun _ => rfl) (by subst e_h_1; rw [pz_t2 (by decide)]; exact i1) dX3_goIn_41 (fun h_2 H locs e_h_2 hP hD hS => ?_)
      refine lv_aload_n hx hb dX3_goIn_42 rfl (lv_at hl 0 rfl) ?_
      refine va_get (D := (dC, dI)) (ci := 5) (C := RX3) (T := TX3) (N := 20) hx hb hts inX3_goIn_X3 hown hK.1 hP 18 pz_a18 rfl 13 (by decide) (hts (.fieldLink RX3 41 "PowderMillModel" "from" "[I") (by decide +kernel)) (fun _ h9 => h9) rfl dX3_goIn_43 ?_
      refine lv_aload_n hx hb dX3_goIn_46 rfl (lv_at hl 0 rfl) ?_
      refine va_get (D := (dC, dI)) (ci := 5) (C := RX3) (T := TX3) (N := 20) hx hb hts inX3_goIn_X3 hown hK.1 hP 18 pz_a18 rfl 11 (by decide) (hts (.fieldLink RX3 72 "PowderMillModel" "deep" "I") (by decide +kernel)) (fun _ h9 => h9) rfl dX3_goIn_47 ?_
      refine lv_aload_n hx hb dX3_goIn_50 rfl (lv_at hl 0 rfl) ?_
      refine va_get (D := (dC, dI)) (ci := 5) (C := RX3) (T := TX3) (N := 20) hx hb hts inX3_goIn_X3 hown hK.1 hP 18 pz_a18 rfl 15 (by decide) (hts (.fieldLink RX3 75 "PowderMillModel" "next" "I") (by decide +kernel)) (fun _ h9 => h9) rfl dX3_goIn_51 ?_
      refine pr_iastR hx hb hK.1 hP hD hS 29 (by omega) (by omega) pz_a29 (fun _ => rfl) (by subst e_h_2 e_h_1; rw [pz_t2 (by decide), pz_t2 (by decide)]; exact i1) dX3_goIn_54 (fun h_3 H locs e_h_3 hP hD hS => ?_)
      refine lv_aload_n hx hb dX3_goIn_55 rfl (lv_at hl 0 rfl) ?_
      refine va_get (D := (dC, dI)) (ci := 5) (C := RX3) (T := TX3) (N := 20) hx hb hts inX3_goIn_X3 hown hK.1 hP 18 pz_a18 rfl 14 (by decide) (hts (.fieldLink RX3 44 "PowderMillModel" "agains" "[I") (by decide +kernel)) (fun _ h9 => h9) rfl dX3_goIn_56 ?_
      refine lv_aload_n hx hb dX3_goIn_59 rfl (lv_at hl 0 rfl) ?_
      refine va_get (D := (dC, dI)) (ci := 5) (C := RX3) (T := TX3) (N := 20) hx hb hts inX3_goIn_X3 hown hK.1 hP 18 pz_a18 rfl 11 (by decide) (hts (.fieldLink RX3 72 "PowderMillModel" "deep" "I") (by decide +kernel)) (fun _ h9 => h9) rfl dX3_goIn_60 ?_
      refine lv_iconst (v := 0) hx hb dX3_goIn_63 (by decide) ?_
      refine pr_iastR hx hb hK.1 hP hD hS 30 (by omega) (by omega) pz_a30 (fun _ => rfl) (by subst e_h_3 e_h_2 e_h_1; rw [pz_t2 (by decide), pz_t2 (by decide), pz_t2 (by decide)]; exact i1) dX3_goIn_64 (fun h_4 H locs e_h_4 hP hD hS => ?_)
      refine lv_aload_n hx hb dX3_goIn_65 rfl (lv_at hl 0 rfl) ?_
      refine lv_dup hx hb dX3_goIn_66 rfl ?_
      refine va_get (D := (dC, dI)) (ci := 5) (C := RX3) (T := TX3) (N := 20) hx hb hts inX3_goIn_X3 hown hK.1 hP 18 pz_a18 rfl 11 (by decide) (hts (.fieldLink RX3 72 "PowderMillModel" "deep" "I") (by decide +kernel)) (fun _ h9 => h9) rfl dX3_goIn_67 ?_
      refine lv_iconst (v := 1) hx hb dX3_goIn_70 (by decide) ?_
      refine lv_iadd hx hb dX3_goIn_71 ?_
      refine pr_putR (ci := 5) (C := RX3) (T := TX3) (N := 20) (ty := .int) (v := ((h_4 18 11) + 1)) hx hb hts inX3_goIn_X3 tyX3 tyX3_ok nmX3 hown hK.1 hP hD hS 18 (by omega) (by omega) pz_a18 rfl 11 (by decide) (hts (.fieldLink RX3 72 "PowderMillModel" "deep" "I") (by decide +kernel)) (fun _ h9 => h9) rfl (by decide +kernel) rfl rfl (Nat.le_of_ble_eq_true rfl) rfl dX3_goIn_72 (fun h_5 H locs e_h_5 hP hD hS => ?_)
      refine lv_iconst (v := 0) hx hb dX3_goIn_75 (by decide) ?_
      exact pr_iret (h_5) hx hb hr hlocks hP hD hS dX3_goIn_76 (by subst e_h_5 e_h_4 e_h_3 e_h_2 e_h_1; refine ⟨?_, ?_⟩ <;> (simp only [f_X3_goIn, if_neg c_6, if_neg c_17] <;> rfl))
    · refine lv_iconst (v := 1) hx hb dX3_goIn_20 (by decide) ?_
      exact pr_iret (h) hx hb hr hlocks hP hD hS dX3_goIn_21 (by refine ⟨?_, ?_⟩ <;> (simp only [f_X3_goIn, if_neg c_6, if_pos c_17] <;> rfl))
  · refine lv_iconst (v := 2) hx hb dX3_goIn_9 (by decide) ?_
    exact pr_iret (h) hx hb hr hlocks hP hD hS dX3_goIn_10 (by refine ⟨?_, ?_⟩ <;> (simp only [f_X3_goIn, if_pos c_6] <;> rfl))
theorem inX3_carry_X3 : ∀ w ∈ u_ws RX3 TX3 20, w ∈ wsX3_carry := by decide +kernel
def f_X3_carry (h : pz_M) (a : Int32) : Int32 × pz_M :=
  if a ≤ (h 20 (h 28 ((h 18 11) - 1).toNatClampNeg).toNatClampNeg) then
    let h_1 := pz_st h 20 (h 28 ((h 18 11) - 1).toNatClampNeg).toNatClampNeg ((h 20 (h 28 ((h 18 11) - 1).toNatClampNeg).toNatClampNeg) - a)
    let r_2 := (f_X3_comes h_1 (h_1 28 ((h_1 18 11) - 2).toNatClampNeg) a).1
    let h_4 := (f_X3_comes h_1 (h_1 28 ((h_1 18 11) - 2).toNatClampNeg) a).2
    (r_2, h_4)
  else
    (4, h)
set_option maxHeartbeats 4000000 in
set_option maxRecDepth 100000 in
theorem c_X3_carry {l : Launch} {dC : Nat → ClassId} {dI : Nat → Nat → Nat} {cl : Nat → ClassId} {ad : Nat → Nat} {ph : Nat → Option Nat} {o : Nat → Int64} {g h : pz_M} (a : Int32) (hv : pz_V h) (h2 : 2 ≤ h 18 11) : pz_Mi l dC dI cl yX3_carry wsX3_carry { frames := 1, cells := 0, slots := 0, locals := 22 } [.ref (ad 18), .int a] (pz_wd ad cl ph o g h) (fun u : pz_M => pz_wd ad cl ph o g u) (fun r u => r = (f_X3_carry h a).1 ∧ u = (f_X3_carry h a).2) := by
  intro sz
  refine pr_ofW (Qc := pz_Qi dC dI _ _) (cb := cX3_carry) (maxL := 3) (ret := (some .int)) (by decide) rfl (Nat.le_of_ble_eq_true rfl) ?_
  intro p e s m below meth c A ls hx hb hml hr hlocks hts hown hK hP hD hS hA hl
  have hl : lv_has ls 3 [(0, .ref (ad 18)), (1, .int a)] := hl
  obtain ⟨i1, i2⟩ := pz_V1 hv (pz_V21 hv h2)
  obtain ⟨i3, i4⟩ := pz_V2 hv h2
  refine lv_aload_n hx hb dX3_carry_0 rfl (lv_at hl 0 rfl) ?_
  refine va_get (D := (dC, dI)) (ci := 5) (C := RX3) (T := TX3) (N := 20) hx hb hts inX3_carry_X3 hown hK.1 hP 18 pz_a18 rfl 12 (by decide) (hts (.fieldLink RX3 38 "PowderMillModel" "in" "[I") (by decide +kernel)) (fun _ h9 => h9) rfl dX3_carry_1 ?_
  refine lv_aload_n hx hb dX3_carry_4 rfl (lv_at hl 0 rfl) ?_
  refine va_get (D := (dC, dI)) (ci := 5) (C := RX3) (T := TX3) (N := 20) hx hb hts inX3_carry_X3 hown hK.1 hP 18 pz_a18 rfl 11 (by decide) (hts (.fieldLink RX3 72 "PowderMillModel" "deep" "I") (by decide +kernel)) (fun _ h9 => h9) rfl dX3_carry_5 ?_
  refine lv_iconst (v := 1) hx hb dX3_carry_8 (by decide) ?_
  refine lv_isub hx hb dX3_carry_9 ?_
  refine va_iald hx hb hK.1 hP 28 0 pz_a28 rfl i1 dX3_carry_10 ?_
  refine lv_istore_n (lv' := [(2, .int (h 28 ((h 18 11) - 1).toNatClampNeg)), (0, .ref (ad 18)), (1, .int a)]) hx hb dX3_carry_11 rfl hl (by decide) rfl (fun ls hl => ?_)
  refine lv_aload_n hx hb dX3_carry_12 rfl (lv_at hl 1 rfl) ?_
  refine va_get (D := (dC, dI)) (ci := 5) (C := RX3) (T := TX3) (N := 20) hx hb hts inX3_carry_X3 hown hK.1 hP 18 pz_a18 rfl 2 (by decide) (hts (.fieldLink RX3 13 "PowderMillModel" "powder" "[I") (by decide +kernel)) (fun _ h9 => h9) rfl dX3_carry_13 ?_
  refine lv_iload_n hx hb dX3_carry_16 rfl (lv_at hl 0 rfl) ?_
  refine va_iald hx hb hK.1 hP 20 0 pz_a20 rfl i2 dX3_carry_17 ?_
  refine lv_iload_n hx hb dX3_carry_18 rfl (lv_at hl 2 rfl) ?_
  refine lv_icmp_ge (tgt := 24) hx hb dX3_carry_19 (by decide) (fun c_19 => ?_) (fun c_19 => ?_)
  · refine lv_aload_n hx hb dX3_carry_24 rfl (lv_at hl 1 rfl) ?_
    refine va_get (D := (dC, dI)) (ci := 5) (C := RX3) (T := TX3) (N := 20) hx hb hts inX3_carry_X3 hown hK.1 hP 18 pz_a18 rfl 2 (by decide) (hts (.fieldLink RX3 13 "PowderMillModel" "powder" "[I") (by decide +kernel)) (fun _ h9 => h9) rfl dX3_carry_25 ?_
    refine lv_iload_n hx hb dX3_carry_28 rfl (lv_at hl 0 rfl) ?_
    refine lv_dup2_11 hx hb dX3_carry_29 rfl rfl ?_
    refine va_iald hx hb hK.1 hP 20 0 pz_a20 rfl i2 dX3_carry_30 ?_
    refine lv_iload_n hx hb dX3_carry_31 rfl (lv_at hl 2 rfl) ?_
    refine lv_isub hx hb dX3_carry_32 ?_
    refine pr_iastR hx hb hK.1 hP hD hS 20 (by omega) (by omega) pz_a20 (fun _ => rfl) i2 dX3_carry_33 (fun h_1 H locs e_h_1 hP hD hS => ?_)
    refine lv_aload_n hx hb dX3_carry_34 rfl (lv_at hl 1 rfl) ?_
    refine lv_aload_n hx hb dX3_carry_35 rfl (lv_at hl 1 rfl) ?_
    refine va_get (D := (dC, dI)) (ci := 5) (C := RX3) (T := TX3) (N := 20) hx hb hts inX3_carry_X3 hown hK.1 hP 18 pz_a18 rfl 12 (by decide) (hts (.fieldLink RX3 38 "PowderMillModel" "in" "[I") (by decide +kernel)) (fun _ h9 => h9) rfl dX3_carry_36 ?_
    refine lv_aload_n hx hb dX3_carry_39 rfl (lv_at hl 1 rfl) ?_
    refine va_get (D := (dC, dI)) (ci := 5) (C := RX3) (T := TX3) (N := 20) hx hb hts inX3_carry_X3 hown hK.1 hP 18 pz_a18 rfl 11 (by decide) (hts (.fieldLink RX3 72 "PowderMillModel" "deep" "I") (by decide +kernel)) (fun _ h9 => h9) rfl dX3_carry_40 ?_
    refine lv_iconst (v := 2) hx hb dX3_carry_43 (by decide) ?_
    refine lv_isub hx hb dX3_carry_44 ?_
    refine va_iald hx hb hK.1 hP 28 0 pz_a28 rfl (by subst e_h_1; rw [pz_t2 (by decide)]; exact i3) dX3_carry_45 ?_
    refine lv_iload_n hx hb dX3_carry_46 rfl (lv_at hl 2 rfl) ?_
    refine pr_Vi (As := [.int (h_1 28 ((h_1 18 11) - 2).toNatClampNeg), .int a]) (rest := []) ⟨hx, hb, hml, hown, hts⟩ (c_X3_comes (h_1 28 ((h_1 18 11) - 2).toNatClampNeg) a (by subst e_h_1; rw [pz_t2 (by decide), pz_t2 (by decide)]; exact i4)) (cwV 2 hts gX3_carry_X3_comes rfl rfl rfl (by decide +kernel) ⟨Nat.le_of_ble_eq_true rfl, Nat.le_of_ble_eq_true rfl⟩) (va_recv hK.1 hP (ci := 5) rfl pz_a18) hK hP hD hS hA rfl hl.1 rfl (Nat.le_of_ble_eq_true rfl) ⟨Nat.le_of_ble_eq_true rfl, Nat.le_of_ble_eq_true rfl⟩ dX3_carry_47 (fun r_2 h_4 H locs e_q_3 hP hD hS => ?_)
    obtain ⟨e_r_2, e_h_4⟩ := e_q_3
    exact pr_iret (h_4) hx hb hr hlocks hP hD hS dX3_carry_50 (by subst e_h_4 e_r_2 e_h_1; refine ⟨?_, ?_⟩ <;> (simp only [f_X3_carry, if_pos c_19] <;> rfl))
  · refine lv_iconst (v := 4) hx hb dX3_carry_22 (by decide) ?_
    exact pr_iret (h) hx hb hr hlocks hP hD hS dX3_carry_23 (by refine ⟨?_, ?_⟩ <;> (simp only [f_X3_carry, if_neg c_19] <;> rfl))
theorem inX3_share_X3 : ∀ w ∈ u_ws RX3 TX3 20, w ∈ wsX3_share := by decide +kernel
def f_X3_share (h : pz_M) (a : Int32) : Int32 × pz_M :=
  if a = 0 then
    (5, h)
  else
    let h_1 := pz_st h 20 (h 28 ((h 18 11) - 1).toNatClampNeg).toNatClampNeg ((h 20 (h 28 ((h 18 11) - 1).toNatClampNeg).toNatClampNeg) / a)
    (0, h_1)
set_option maxHeartbeats 4000000 in
set_option maxRecDepth 100000 in
theorem c_X3_share {l : Launch} {dC : Nat → ClassId} {dI : Nat → Nat → Nat} {cl : Nat → ClassId} {ad : Nat → Nat} {ph : Nat → Option Nat} {o : Nat → Int64} {g h : pz_M} (a : Int32) (hv : pz_V h) (h1 : ¬ h 18 11 = 0) : pz_Mi l dC dI cl yX3_share wsX3_share { frames := 0, cells := 0, slots := 0, locals := 0 } [.ref (ad 18), .int a] (pz_wd ad cl ph o g h) (fun u : pz_M => pz_wd ad cl ph o g u) (fun r u => r = (f_X3_share h a).1 ∧ u = (f_X3_share h a).2) := by
  intro sz
  refine pr_ofW (Qc := pz_Qi dC dI _ _) (cb := cX3_share) (maxL := 2) (ret := (some .int)) (by decide) rfl (Nat.le_of_ble_eq_true rfl) ?_
  intro p e s m below meth c A ls hx hb hml hr hlocks hts hown hK hP hD hS hA hl
  have hl : lv_has ls 2 [(0, .ref (ad 18)), (1, .int a)] := hl
  refine lv_iload_n hx hb dX3_share_0 rfl (lv_at hl 1 rfl) ?_
  refine lv_if_ne (tgt := 6) hx hb dX3_share_1 (by decide) (fun c_1 => ?_) (fun c_1 => ?_)
  · obtain ⟨i1, i2⟩ := pz_V1 hv h1
    refine lv_aload_n hx hb dX3_share_6 rfl (lv_at hl 0 rfl) ?_
    refine va_get (D := (dC, dI)) (ci := 5) (C := RX3) (T := TX3) (N := 20) hx hb hts inX3_share_X3 hown hK.1 hP 18 pz_a18 rfl 2 (by decide) (hts (.fieldLink RX3 13 "PowderMillModel" "powder" "[I") (by decide +kernel)) (fun _ h9 => h9) rfl dX3_share_7 ?_
    refine lv_aload_n hx hb dX3_share_10 rfl (lv_at hl 0 rfl) ?_
    refine va_get (D := (dC, dI)) (ci := 5) (C := RX3) (T := TX3) (N := 20) hx hb hts inX3_share_X3 hown hK.1 hP 18 pz_a18 rfl 12 (by decide) (hts (.fieldLink RX3 38 "PowderMillModel" "in" "[I") (by decide +kernel)) (fun _ h9 => h9) rfl dX3_share_11 ?_
    refine lv_aload_n hx hb dX3_share_14 rfl (lv_at hl 0 rfl) ?_
    refine va_get (D := (dC, dI)) (ci := 5) (C := RX3) (T := TX3) (N := 20) hx hb hts inX3_share_X3 hown hK.1 hP 18 pz_a18 rfl 11 (by decide) (hts (.fieldLink RX3 72 "PowderMillModel" "deep" "I") (by decide +kernel)) (fun _ h9 => h9) rfl dX3_share_15 ?_
    refine lv_iconst (v := 1) hx hb dX3_share_18 (by decide) ?_
    refine lv_isub hx hb dX3_share_19 ?_
    refine va_iald hx hb hK.1 hP 28 0 pz_a28 rfl i1 dX3_share_20 ?_
    refine lv_aload_n hx hb dX3_share_21 rfl (lv_at hl 0 rfl) ?_
    refine va_get (D := (dC, dI)) (ci := 5) (C := RX3) (T := TX3) (N := 20) hx hb hts inX3_share_X3 hown hK.1 hP 18 pz_a18 rfl 2 (by decide) (hts (.fieldLink RX3 13 "PowderMillModel" "powder" "[I") (by decide +kernel)) (fun _ h9 => h9) rfl dX3_share_22 ?_
    refine lv_aload_n hx hb dX3_share_25 rfl (lv_at hl 0 rfl) ?_
    refine va_get (D := (dC, dI)) (ci := 5) (C := RX3) (T := TX3) (N := 20) hx hb hts inX3_share_X3 hown hK.1 hP 18 pz_a18 rfl 12 (by decide) (hts (.fieldLink RX3 38 "PowderMillModel" "in" "[I") (by decide +kernel)) (fun _ h9 => h9) rfl dX3_share_26 ?_
    refine lv_aload_n hx hb dX3_share_29 rfl (lv_at hl 0 rfl) ?_
    refine va_get (D := (dC, dI)) (ci := 5) (C := RX3) (T := TX3) (N := 20) hx hb hts inX3_share_X3 hown hK.1 hP 18 pz_a18 rfl 11 (by decide) (hts (.fieldLink RX3 72 "PowderMillModel" "deep" "I") (by decide +kernel)) (fun _ h9 => h9) rfl dX3_share_30 ?_
    refine lv_iconst (v := 1) hx hb dX3_share_33 (by decide) ?_
    refine lv_isub hx hb dX3_share_34 ?_
    refine va_iald hx hb hK.1 hP 28 0 pz_a28 rfl i1 dX3_share_35 ?_
    refine va_iald hx hb hK.1 hP 20 0 pz_a20 rfl i2 dX3_share_36 ?_
    refine lv_iload_n hx hb dX3_share_37 rfl (lv_at hl 1 rfl) ?_
    refine lv_idiv hx hb dX3_share_38 c_1 ?_
    refine pr_iastR hx hb hK.1 hP hD hS 20 (by omega) (by omega) pz_a20 (fun _ => rfl) i2 dX3_share_39 (fun h_1 H locs e_h_1 hP hD hS => ?_)
    refine lv_iconst (v := 0) hx hb dX3_share_40 (by decide) ?_
    exact pr_iret (h_1) hx hb hr hlocks hP hD hS dX3_share_41 (by subst e_h_1; refine ⟨?_, ?_⟩ <;> (simp only [f_X3_share, if_neg c_1] <;> rfl))
  · refine lv_iconst (v := 5) hx hb dX3_share_4 (by decide) ?_
    exact pr_iret (h) hx hb hr hlocks hP hD hS dX3_share_5 (by refine ⟨?_, ?_⟩ <;> (simp only [f_X3_share, if_pos c_1] <;> rfl))
theorem inX3_write_X3 : ∀ w ∈ u_ws RX3 TX3 20, w ∈ wsX3_write := by decide +kernel
def f_X3_write (h : pz_M) (a : Int32) : Int32 × pz_M :=
  let r_1 := f_X3_isIn a 0 7
  if r_1 = 0 then
    (6, h)
  else
    if (h 18 11) = 0 then
      let h_3 := pz_st h 25 a.toNatClampNeg (-1)
      (0, h_3)
    else
      let h_2 := pz_st h 25 a.toNatClampNeg (h 20 (h 28 ((h 18 11) - 1).toNatClampNeg).toNatClampNeg)
      (0, h_2)
set_option maxHeartbeats 4000000 in
set_option maxRecDepth 100000 in
theorem c_X3_write {l : Launch} {dC : Nat → ClassId} {dI : Nat → Nat → Nat} {cl : Nat → ClassId} {ad : Nat → Nat} {ph : Nat → Option Nat} {o : Nat → Int64} {g h : pz_M} (a : Int32) (hv : pz_V h) : pz_Mi l dC dI cl yX3_write wsX3_write { frames := 1, cells := 0, slots := 0, locals := 22 } [.ref (ad 18), .int a] (pz_wd ad cl ph o g h) (fun u : pz_M => pz_wd ad cl ph o g u) (fun r u => r = (f_X3_write h a).1 ∧ u = (f_X3_write h a).2) := by
  intro sz
  refine pr_ofW (Qc := pz_Qi dC dI _ _) (cb := cX3_write) (maxL := 2) (ret := (some .int)) (by decide) rfl (Nat.le_of_ble_eq_true rfl) ?_
  intro p e s m below meth c A ls hx hb hml hr hlocks hts hown hK hP hD hS hA hl
  have hl : lv_has ls 2 [(0, .ref (ad 18)), (1, .int a)] := hl
  refine lv_iload_n hx hb dX3_write_0 rfl (lv_at hl 1 rfl) ?_
  refine lv_iconst (v := 0) hx hb dX3_write_1 (by decide) ?_
  refine lv_bipush (v := 7) hx hb dX3_write_2 (by decide) ?_
  refine pr_Si (As := [.int a, .int 0, .int 7]) (rest := []) ⟨hx, hb, hml, hown, hts⟩ (c_X3_isIn a 0 7) (va_cwS 3 hts gX3_write_X3_isIn rfl rfl rfl (by decide +kernel) ⟨Nat.le_of_ble_eq_true rfl, Nat.le_of_ble_eq_true rfl⟩) hK hP hD hS hA rfl hl.1 rfl (Nat.le_of_ble_eq_true rfl) ⟨Nat.le_of_ble_eq_true rfl, Nat.le_of_ble_eq_true rfl⟩ dX3_write_4 (fun r_1 _ H locs e_r_1 hP hD hS => ?_)
  refine lv_if_ne (tgt := 13) hx hb dX3_write_7 (by decide) (fun c_7 => ?_) (fun c_7 => ?_)
  · have i0 : vp_in a 8 := pz_in7 (by rw [← e_r_1]; exact c_7)
    refine lv_aload_n hx hb dX3_write_13 rfl (lv_at hl 0 rfl) ?_
    refine va_get (D := (dC, dI)) (ci := 5) (C := RX3) (T := TX3) (N := 20) hx hb hts inX3_write_X3 hown hK.1 hP 18 pz_a18 rfl 7 (by decide) (hts (.fieldLink RX3 29 "PowderMillModel" "ledger" "[I") (by decide +kernel)) (fun _ h9 => h9) rfl dX3_write_14 ?_
    refine lv_iload_n hx hb dX3_write_17 rfl (lv_at hl 1 rfl) ?_
    refine lv_aload_n hx hb dX3_write_18 rfl (lv_at hl 0 rfl) ?_
    refine va_get (D := (dC, dI)) (ci := 5) (C := RX3) (T := TX3) (N := 20) hx hb hts inX3_write_X3 hown hK.1 hP 18 pz_a18 rfl 11 (by decide) (hts (.fieldLink RX3 72 "PowderMillModel" "deep" "I") (by decide +kernel)) (fun _ h9 => h9) rfl dX3_write_19 ?_
    refine lv_if_ne (tgt := 29) hx hb dX3_write_22 (by decide) (fun c_22 => ?_) (fun c_22 => ?_)
    · obtain ⟨i1, i2⟩ := pz_V1 hv c_22
      refine lv_aload_n hx hb dX3_write_29 rfl (lv_at hl 0 rfl) ?_
      refine va_get (D := (dC, dI)) (ci := 5) (C := RX3) (T := TX3) (N := 20) hx hb hts inX3_write_X3 hown hK.1 hP 18 pz_a18 rfl 2 (by decide) (hts (.fieldLink RX3 13 "PowderMillModel" "powder" "[I") (by decide +kernel)) (fun _ h9 => h9) rfl dX3_write_30 ?_
      refine lv_aload_n hx hb dX3_write_33 rfl (lv_at hl 0 rfl) ?_
      refine va_get (D := (dC, dI)) (ci := 5) (C := RX3) (T := TX3) (N := 20) hx hb hts inX3_write_X3 hown hK.1 hP 18 pz_a18 rfl 12 (by decide) (hts (.fieldLink RX3 38 "PowderMillModel" "in" "[I") (by decide +kernel)) (fun _ h9 => h9) rfl dX3_write_34 ?_
      refine lv_aload_n hx hb dX3_write_37 rfl (lv_at hl 0 rfl) ?_
      refine va_get (D := (dC, dI)) (ci := 5) (C := RX3) (T := TX3) (N := 20) hx hb hts inX3_write_X3 hown hK.1 hP 18 pz_a18 rfl 11 (by decide) (hts (.fieldLink RX3 72 "PowderMillModel" "deep" "I") (by decide +kernel)) (fun _ h9 => h9) rfl dX3_write_38 ?_
      refine lv_iconst (v := 1) hx hb dX3_write_41 (by decide) ?_
      refine lv_isub hx hb dX3_write_42 ?_
      refine va_iald hx hb hK.1 hP 28 0 pz_a28 rfl i1 dX3_write_43 ?_
      refine va_iald hx hb hK.1 hP 20 0 pz_a20 rfl i2 dX3_write_44 ?_
      refine pr_iastR hx hb hK.1 hP hD hS 25 (by omega) (by omega) pz_a25 (fun _ => rfl) i0 dX3_write_45 (fun h_2 H locs e_h_2 hP hD hS => ?_)
      refine lv_iconst (v := 0) hx hb dX3_write_46 (by decide) ?_
      exact pr_iret (h_2) hx hb hr hlocks hP hD hS dX3_write_47 (by subst e_h_2 e_r_1; refine ⟨?_, ?_⟩ <;> (simp only [f_X3_write, if_neg c_7, if_neg c_22] <;> rfl))
    · refine lv_iconst (v := (-1)) hx hb dX3_write_25 (by decide) ?_
      refine lv_goto (tgt := 45) hx hb dX3_write_26 (by decide) ?_
      refine pr_iastR hx hb hK.1 hP hD hS 25 (by omega) (by omega) pz_a25 (fun _ => rfl) i0 dX3_write_45 (fun h_3 H locs e_h_3 hP hD hS => ?_)
      refine lv_iconst (v := 0) hx hb dX3_write_46 (by decide) ?_
      exact pr_iret (h_3) hx hb hr hlocks hP hD hS dX3_write_47 (by subst e_h_3 e_r_1; refine ⟨?_, ?_⟩ <;> (simp only [f_X3_write, if_neg c_7, if_pos c_22] <;> rfl))
  · refine lv_bipush (v := 6) hx hb dX3_write_10 (by decide) ?_
    exact pr_iret (h) hx hb hr hlocks hP hD hS dX3_write_12 (by subst e_r_1; refine ⟨?_, ?_⟩ <;> (simp only [f_X3_write, if_pos c_7] <;> rfl))
end
section
theorem pz_mod (a : Int32) {n : Nat} (h0 : 1 < n) (hn : n < 2 ^ 30) : f_X3_modulo a (nI n) = f_J9_floorMod_7cf53 a (nI n) := by
  obtain ⟨r1, r2, r3, r4⟩ := pz_rem a h0 hn
  unfold f_X3_modulo f_J9_floorMod_7cf53
  by_cases hs : 0 ≤ (a ^^^ nI n)
  · rw [if_pos hs]
    have hs := (pz_xor a (by omega)).mp hs
    rw [if_pos (by rw [Int32.le_iff_toInt_le, Int32.toInt_zero]; exact r4 hs)]
  · rw [if_neg hs]
    have hs : a.toInt < 0 := Int.not_le.mp (fun q => hs ((pz_xor a (by omega)).mpr q))
    by_cases hz : a - a / nI n * nI n = 0
    · rw [if_pos hz, if_pos (by rw [hz]; decide)]
    · have hz1 : ¬ (a - a / nI n * nI n).toInt = 0 := fun q => hz (Int32.toInt_inj.mp (by rw [q]; rfl))
      have r5 := r3 hs
      rw [if_neg hz, if_neg (by rw [Int32.le_iff_toInt_le, Int32.toInt_zero]; omega)]
theorem pz_md8 {a r : Int32} (h : r = f_X3_modulo a 8) : vp_in r 8 := pz_fm8 (h.trans (pz_mod a (n := 8) (by decide) (by decide)))
theorem pz_mhouse {h : pz_M} {a : Int32} (q : ¬ f_X3_isHouse h a = 0) : vp_in a 8 := by
  unfold f_X3_isHouse at q
  by_cases h1 : f_X3_isPlace a = 0
  · exact absurd (by simp only [h1, if_true]) q
  · exact pz_mplace h1
theorem inX3_does_X3 : ∀ w ∈ u_ws RX3 TX3 20, w ∈ wsX3_does := by decide +kernel
def f_X3_does (h : pz_M) (a : Int32) (b : Int32) : Int32 × pz_M :=
  if a = 0 then
    let r_1 := f_X3_modulo b 8
    let r_2 := (f_X3_goIn h r_1).1
    let h_4 := (f_X3_goIn h r_1).2
    (r_2, h_4)
  else
    if a = 1 then
      if (h 18 11) ≤ 0 then
        let h_5 := pz_st h 18 11 ((h 18 11) - 0)
        (0, h_5)
      else
        let h_6 := pz_st h 18 11 ((h 18 11) - 1)
        (0, h_6)
    else
      if a = 2 then
        if (h 18 11) = 0 then
          (0, h)
        else
          let r_7 := f_X3_modulo b 1000
          let r_8 := (f_X3_comes h (h 28 ((h 18 11) - 1).toNatClampNeg) r_7).1
          let h_10 := (f_X3_comes h (h 28 ((h 18 11) - 1).toNatClampNeg) r_7).2
          (r_8, h_10)
      else
        if a = 3 then
          if 2 ≤ (h 18 11) then
            let r_11 := f_X3_modulo b 1000
            let r_12 := (f_X3_carry h r_11).1
            let h_14 := (f_X3_carry h r_11).2
            (r_12, h_14)
          else
            (0, h)
        else
          if a = 4 then
            if (h 18 11) = 0 then
              (0, h)
            else
              let r_15 := f_X3_modulo b 10
              let r_16 := (f_X3_share h r_15).1
              let h_18 := (f_X3_share h r_15).2
              (r_16, h_18)
          else
            if a = 5 then
              let r_19 := (f_X3_write h b).1
              let h_21 := (f_X3_write h b).2
              (r_19, h_21)
            else
              if a = 6 then
                let h_22 := pz_st h 18 16 1
                (0, h_22)
              else
                if a = 7 then
                  let r_23 := f_X3_modulo b 4
                  let h_24 := pz_st h 18 15 ((h 18 15) + r_23)
                  (0, h_24)
                else
                  if (h 18 11) ≤ 0 then
                    (0, h)
                  else
                    let r_25 := f_X3_modulo b 4
                    if r_25 ≤ (h 30 ((h 18 11) - 1).toNatClampNeg) then
                      (0, h)
                    else
                      let h_26 := pz_st h 30 ((h 18 11) - 1).toNatClampNeg ((h 30 ((h 18 11) - 1).toNatClampNeg) + 1)
                      let h_27 := pz_st h_26 18 15 (h_26 29 ((h_26 18 11) - 1).toNatClampNeg)
                      (0, h_27)
set_option maxHeartbeats 4000000 in
set_option maxRecDepth 100000 in
theorem c_X3_does {l : Launch} {dC : Nat → ClassId} {dI : Nat → Nat → Nat} {cl : Nat → ClassId} {ad : Nat → Nat} {ph : Nat → Option Nat} {o : Nat → Int64} {g h : pz_M} (a : Int32) (b : Int32) (hv : pz_V h) : pz_Mi l dC dI cl yX3_does wsX3_does { frames := 2, cells := 0, slots := 0, locals := 44 } [.ref (ad 18), .int a, .int b] (pz_wd ad cl ph o g h) (fun u : pz_M => pz_wd ad cl ph o g u) (fun r u => r = (f_X3_does h a b).1 ∧ u = (f_X3_does h a b).2) := by
  intro sz
  refine pr_ofW (Qc := pz_Qi dC dI _ _) (cb := cX3_does) (maxL := 3) (ret := (some .int)) (by decide) rfl (Nat.le_of_ble_eq_true rfl) ?_
  intro p e s m below meth c A ls hx hb hml hr hlocks hts hown hK hP hD hS hA hl
  have hl : lv_has ls 3 [(0, .ref (ad 18)), (1, .int a), (2, .int b)] := hl
  refine lv_iload_n hx hb dX3_does_0 rfl (lv_at hl 1 rfl) ?_
  by_cases t_1_0 : a = 0
  · refine pr_tabIn (ki := 0) (tgt := 48) hx hb dX3_does_1 t_1_0 (by rfl) (by decide) (by decide) (by rfl) (by decide) ?_
    refine lv_aload_n hx hb dX3_does_48 rfl (lv_at hl 0 rfl) ?_
    refine lv_iload_n hx hb dX3_does_49 rfl (lv_at hl 2 rfl) ?_
    refine lv_bipush (v := 8) hx hb dX3_does_50 (by decide) ?_
    refine pr_Si (As := [.int b, .int 8]) (rest := [.ref (ad 18)]) ⟨hx, hb, hml, hown, hts⟩ (c_X3_modulo b 8 (by decide)) (va_cwS 2 hts gX3_does_X3_modulo rfl rfl rfl (by decide +kernel) ⟨Nat.le_of_ble_eq_true rfl, Nat.le_of_ble_eq_true rfl⟩) hK hP hD hS hA rfl hl.1 rfl (Nat.le_of_ble_eq_true rfl) ⟨Nat.le_of_ble_eq_true rfl, Nat.le_of_ble_eq_true rfl⟩ dX3_does_52 (fun r_1 _ H locs e_r_1 hP hD hS => ?_)
    refine pr_Vi (As := [.int r_1]) (rest := []) ⟨hx, hb, hml, hown, hts⟩ (c_X3_goIn r_1 hv (pz_md8 e_r_1)) (cwV 1 hts gX3_does_X3_goIn rfl rfl rfl (by decide +kernel) ⟨Nat.le_of_ble_eq_true rfl, Nat.le_of_ble_eq_true rfl⟩) (va_recv hK.1 hP (ci := 5) rfl pz_a18) hK hP hD hS hA rfl hl.1 rfl (Nat.le_of_ble_eq_true rfl) ⟨Nat.le_of_ble_eq_true rfl, Nat.le_of_ble_eq_true rfl⟩ dX3_does_55 (fun r_2 h_4 H locs e_q_3 hP hD hS => ?_)
    obtain ⟨e_r_2, e_h_4⟩ := e_q_3
    exact pr_iret (h_4) hx hb hr hlocks hP hD hS dX3_does_58 (by subst e_h_4 e_r_2 e_r_1; refine ⟨?_, ?_⟩ <;> (simp only [f_X3_does, if_pos t_1_0] <;> rfl))
  by_cases t_1_1 : a = 1
  · refine pr_tabIn (ki := 1) (tgt := 59) hx hb dX3_does_1 t_1_1 (by rfl) (by decide) (by decide) (by rfl) (by decide) ?_
    refine lv_aload_n hx hb dX3_does_59 rfl (lv_at hl 0 rfl) ?_
    refine lv_dup hx hb dX3_does_60 rfl ?_
    refine va_get (D := (dC, dI)) (ci := 5) (C := RX3) (T := TX3) (N := 20) hx hb hts inX3_does_X3 hown hK.1 hP 18 pz_a18 rfl 11 (by decide) (hts (.fieldLink RX3 72 "PowderMillModel" "deep" "I") (by decide +kernel)) (fun _ h9 => h9) rfl dX3_does_61 ?_
    refine lv_aload_n hx hb dX3_does_64 rfl (lv_at hl 0 rfl) ?_
    refine va_get (D := (dC, dI)) (ci := 5) (C := RX3) (T := TX3) (N := 20) hx hb hts inX3_does_X3 hown hK.1 hP 18 pz_a18 rfl 11 (by decide) (hts (.fieldLink RX3 72 "PowderMillModel" "deep" "I") (by decide +kernel)) (fun _ h9 => h9) rfl dX3_does_65 ?_
    refine lv_if_le (tgt := 75) hx hb dX3_does_68 (by decide) (fun c_68 => ?_) (fun c_68 => ?_)
    · refine lv_iconst (v := 0) hx hb dX3_does_75 (by decide) ?_
      refine lv_isub hx hb dX3_does_76 ?_
      refine pr_putR (ci := 5) (C := RX3) (T := TX3) (N := 20) (ty := .int) (v := ((h 18 11) - 0)) hx hb hts inX3_does_X3 tyX3 tyX3_ok nmX3 hown hK.1 hP hD hS 18 (by omega) (by omega) pz_a18 rfl 11 (by decide) (hts (.fieldLink RX3 72 "PowderMillModel" "deep" "I") (by decide +kernel)) (fun _ h9 => h9) rfl (by decide +kernel) rfl rfl (Nat.le_of_ble_eq_true rfl) rfl dX3_does_77 (fun h_5 H locs e_h_5 hP hD hS => ?_)
      refine lv_iconst (v := 0) hx hb dX3_does_80 (by decide) ?_
      exact pr_iret (h_5) hx hb hr hlocks hP hD hS dX3_does_81 (by subst e_h_5; refine ⟨?_, ?_⟩ <;> (simp only [f_X3_does, if_neg t_1_0, if_pos t_1_1, if_pos c_68] <;> rfl))
    · refine lv_iconst (v := 1) hx hb dX3_does_71 (by decide) ?_
      refine lv_goto (tgt := 76) hx hb dX3_does_72 (by decide) ?_
      refine lv_isub hx hb dX3_does_76 ?_
      refine pr_putR (ci := 5) (C := RX3) (T := TX3) (N := 20) (ty := .int) (v := ((h 18 11) - 1)) hx hb hts inX3_does_X3 tyX3 tyX3_ok nmX3 hown hK.1 hP hD hS 18 (by omega) (by omega) pz_a18 rfl 11 (by decide) (hts (.fieldLink RX3 72 "PowderMillModel" "deep" "I") (by decide +kernel)) (fun _ h9 => h9) rfl (by decide +kernel) rfl rfl (Nat.le_of_ble_eq_true rfl) rfl dX3_does_77 (fun h_6 H locs e_h_6 hP hD hS => ?_)
      refine lv_iconst (v := 0) hx hb dX3_does_80 (by decide) ?_
      exact pr_iret (h_6) hx hb hr hlocks hP hD hS dX3_does_81 (by subst e_h_6; refine ⟨?_, ?_⟩ <;> (simp only [f_X3_does, if_neg t_1_0, if_pos t_1_1, if_neg c_68] <;> rfl))
  by_cases t_1_2 : a = 2
  · refine pr_tabIn (ki := 2) (tgt := 82) hx hb dX3_does_1 t_1_2 (by rfl) (by decide) (by decide) (by rfl) (by decide) ?_
    refine lv_aload_n hx hb dX3_does_82 rfl (lv_at hl 0 rfl) ?_
    refine va_get (D := (dC, dI)) (ci := 5) (C := RX3) (T := TX3) (N := 20) hx hb hts inX3_does_X3 hown hK.1 hP 18 pz_a18 rfl 11 (by decide) (hts (.fieldLink RX3 72 "PowderMillModel" "deep" "I") (by decide +kernel)) (fun _ h9 => h9) rfl dX3_does_83 ?_
    refine lv_if_ne (tgt := 93) hx hb dX3_does_86 (by decide) (fun c_86 => ?_) (fun c_86 => ?_)
    · obtain ⟨i1, i2⟩ := pz_V1 hv c_86
      refine lv_aload_n hx hb dX3_does_93 rfl (lv_at hl 0 rfl) ?_
      refine lv_aload_n hx hb dX3_does_94 rfl (lv_at hl 0 rfl) ?_
      refine va_get (D := (dC, dI)) (ci := 5) (C := RX3) (T := TX3) (N := 20) hx hb hts inX3_does_X3 hown hK.1 hP 18 pz_a18 rfl 12 (by decide) (hts (.fieldLink RX3 38 "PowderMillModel" "in" "[I") (by decide +kernel)) (fun _ h9 => h9) rfl dX3_does_95 ?_
      refine lv_aload_n hx hb dX3_does_98 rfl (lv_at hl 0 rfl) ?_
      refine va_get (D := (dC, dI)) (ci := 5) (C := RX3) (T := TX3) (N := 20) hx hb hts inX3_does_X3 hown hK.1 hP 18 pz_a18 rfl 11 (by decide) (hts (.fieldLink RX3 72 "PowderMillModel" "deep" "I") (by decide +kernel)) (fun _ h9 => h9) rfl dX3_does_99 ?_
      refine lv_iconst (v := 1) hx hb dX3_does_102 (by decide) ?_
      refine lv_isub hx hb dX3_does_103 ?_
      refine va_iald hx hb hK.1 hP 28 0 pz_a28 rfl i1 dX3_does_104 ?_
      refine lv_iload_n hx hb dX3_does_105 rfl (lv_at hl 2 rfl) ?_
      refine lv_sipush (v := 1000) hx hb dX3_does_106 (by decide) ?_
      refine pr_Si (As := [.int b, .int 1000]) (rest := [.int (h 28 ((h 18 11) - 1).toNatClampNeg), .ref (ad 18)]) ⟨hx, hb, hml, hown, hts⟩ (c_X3_modulo b 1000 (by decide)) (va_cwS 2 hts gX3_does_X3_modulo rfl rfl rfl (by decide +kernel) ⟨Nat.le_of_ble_eq_true rfl, Nat.le_of_ble_eq_true rfl⟩) hK hP hD hS hA rfl hl.1 rfl (Nat.le_of_ble_eq_true rfl) ⟨Nat.le_of_ble_eq_true rfl, Nat.le_of_ble_eq_true rfl⟩ dX3_does_109 (fun r_7 _ H locs e_r_7 hP hD hS => ?_)
      refine pr_Vi (As := [.int (h 28 ((h 18 11) - 1).toNatClampNeg), .int r_7]) (rest := []) ⟨hx, hb, hml, hown, hts⟩ (c_X3_comes (h 28 ((h 18 11) - 1).toNatClampNeg) r_7 i2) (cwV 2 hts gX3_does_X3_comes rfl rfl rfl (by decide +kernel) ⟨Nat.le_of_ble_eq_true rfl, Nat.le_of_ble_eq_true rfl⟩) (va_recv hK.1 hP (ci := 5) rfl pz_a18) hK hP hD hS hA rfl hl.1 rfl (Nat.le_of_ble_eq_true rfl) ⟨Nat.le_of_ble_eq_true rfl, Nat.le_of_ble_eq_true rfl⟩ dX3_does_112 (fun r_8 h_10 H locs e_q_9 hP hD hS => ?_)
      obtain ⟨e_r_8, e_h_10⟩ := e_q_9
      exact pr_iret (h_10) hx hb hr hlocks hP hD hS dX3_does_115 (by subst e_h_10 e_r_8 e_r_7; refine ⟨?_, ?_⟩ <;> (simp only [f_X3_does, if_neg t_1_0, if_neg t_1_1, if_pos t_1_2, if_neg c_86] <;> rfl))
    · refine lv_iconst (v := 0) hx hb dX3_does_89 (by decide) ?_
      refine lv_goto (tgt := 115) hx hb dX3_does_90 (by decide) ?_
      exact pr_iret (h) hx hb hr hlocks hP hD hS dX3_does_115 (by refine ⟨?_, ?_⟩ <;> (simp only [f_X3_does, if_neg t_1_0, if_neg t_1_1, if_pos t_1_2, if_pos c_86] <;> rfl))
  by_cases t_1_3 : a = 3
  · refine pr_tabIn (ki := 3) (tgt := 116) hx hb dX3_does_1 t_1_3 (by rfl) (by decide) (by decide) (by rfl) (by decide) ?_
    refine lv_aload_n hx hb dX3_does_116 rfl (lv_at hl 0 rfl) ?_
    refine va_get (D := (dC, dI)) (ci := 5) (C := RX3) (T := TX3) (N := 20) hx hb hts inX3_does_X3 hown hK.1 hP 18 pz_a18 rfl 11 (by decide) (hts (.fieldLink RX3 72 "PowderMillModel" "deep" "I") (by decide +kernel)) (fun _ h9 => h9) rfl dX3_does_117 ?_
    refine lv_iconst (v := 2) hx hb dX3_does_120 (by decide) ?_
    refine lv_icmp_ge (tgt := 128) hx hb dX3_does_121 (by decide) (fun c_121 => ?_) (fun c_121 => ?_)
    · refine lv_aload_n hx hb dX3_does_128 rfl (lv_at hl 0 rfl) ?_
      refine lv_iload_n hx hb dX3_does_129 rfl (lv_at hl 2 rfl) ?_
      refine lv_sipush (v := 1000) hx hb dX3_does_130 (by decide) ?_
      refine pr_Si (As := [.int b, .int 1000]) (rest := [.ref (ad 18)]) ⟨hx, hb, hml, hown, hts⟩ (c_X3_modulo b 1000 (by decide)) (va_cwS 2 hts gX3_does_X3_modulo rfl rfl rfl (by decide +kernel) ⟨Nat.le_of_ble_eq_true rfl, Nat.le_of_ble_eq_true rfl⟩) hK hP hD hS hA rfl hl.1 rfl (Nat.le_of_ble_eq_true rfl) ⟨Nat.le_of_ble_eq_true rfl, Nat.le_of_ble_eq_true rfl⟩ dX3_does_133 (fun r_11 _ H locs e_r_11 hP hD hS => ?_)
      refine pr_Vi (As := [.int r_11]) (rest := []) ⟨hx, hb, hml, hown, hts⟩ (c_X3_carry r_11 hv c_121) (cwV 1 hts gX3_does_X3_carry rfl rfl rfl (by decide +kernel) ⟨Nat.le_of_ble_eq_true rfl, Nat.le_of_ble_eq_true rfl⟩) (va_recv hK.1 hP (ci := 5) rfl pz_a18) hK hP hD hS hA rfl hl.1 rfl (Nat.le_of_ble_eq_true rfl) ⟨Nat.le_of_ble_eq_true rfl, Nat.le_of_ble_eq_true rfl⟩ dX3_does_136 (fun r_12 h_14 H locs e_q_13 hP hD hS => ?_)
      obtain ⟨e_r_12, e_h_14⟩ := e_q_13
      exact pr_iret (h_14) hx hb hr hlocks hP hD hS dX3_does_139 (by subst e_h_14 e_r_12 e_r_11; refine ⟨?_, ?_⟩ <;> (simp only [f_X3_does, if_neg t_1_0, if_neg t_1_1, if_neg t_1_2, if_pos t_1_3, if_pos c_121] <;> rfl))
    · refine lv_iconst (v := 0) hx hb dX3_does_124 (by decide) ?_
      refine lv_goto (tgt := 139) hx hb dX3_does_125 (by decide) ?_
      exact pr_iret (h) hx hb hr hlocks hP hD hS dX3_does_139 (by refine ⟨?_, ?_⟩ <;> (simp only [f_X3_does, if_neg t_1_0, if_neg t_1_1, if_neg t_1_2, if_pos t_1_3, if_neg c_121] <;> rfl))
  by_cases t_1_4 : a = 4
  · refine pr_tabIn (ki := 4) (tgt := 140) hx hb dX3_does_1 t_1_4 (by rfl) (by decide) (by decide) (by rfl) (by decide) ?_
    refine lv_aload_n hx hb dX3_does_140 rfl (lv_at hl 0 rfl) ?_
    refine va_get (D := (dC, dI)) (ci := 5) (C := RX3) (T := TX3) (N := 20) hx hb hts inX3_does_X3 hown hK.1 hP 18 pz_a18 rfl 11 (by decide) (hts (.fieldLink RX3 72 "PowderMillModel" "deep" "I") (by decide +kernel)) (fun _ h9 => h9) rfl dX3_does_141 ?_
    refine lv_if_ne (tgt := 151) hx hb dX3_does_144 (by decide) (fun c_144 => ?_) (fun c_144 => ?_)
    · refine lv_aload_n hx hb dX3_does_151 rfl (lv_at hl 0 rfl) ?_
      refine lv_iload_n hx hb dX3_does_152 rfl (lv_at hl 2 rfl) ?_
      refine lv_bipush (v := 10) hx hb dX3_does_153 (by decide) ?_
      refine pr_Si (As := [.int b, .int 10]) (rest := [.ref (ad 18)]) ⟨hx, hb, hml, hown, hts⟩ (c_X3_modulo b 10 (by decide)) (va_cwS 2 hts gX3_does_X3_modulo rfl rfl rfl (by decide +kernel) ⟨Nat.le_of_ble_eq_true rfl, Nat.le_of_ble_eq_true rfl⟩) hK hP hD hS hA rfl hl.1 rfl (Nat.le_of_ble_eq_true rfl) ⟨Nat.le_of_ble_eq_true rfl, Nat.le_of_ble_eq_true rfl⟩ dX3_does_155 (fun r_15 _ H locs e_r_15 hP hD hS => ?_)
      refine pr_Vi (As := [.int r_15]) (rest := []) ⟨hx, hb, hml, hown, hts⟩ (c_X3_share r_15 hv c_144) (cwV 1 hts gX3_does_X3_share rfl rfl rfl (by decide +kernel) ⟨Nat.le_of_ble_eq_true rfl, Nat.le_of_ble_eq_true rfl⟩) (va_recv hK.1 hP (ci := 5) rfl pz_a18) hK hP hD hS hA rfl hl.1 rfl (Nat.le_of_ble_eq_true rfl) ⟨Nat.le_of_ble_eq_true rfl, Nat.le_of_ble_eq_true rfl⟩ dX3_does_158 (fun r_16 h_18 H locs e_q_17 hP hD hS => ?_)
      obtain ⟨e_r_16, e_h_18⟩ := e_q_17
      exact pr_iret (h_18) hx hb hr hlocks hP hD hS dX3_does_161 (by subst e_h_18 e_r_16 e_r_15; refine ⟨?_, ?_⟩ <;> (simp only [f_X3_does, if_neg t_1_0, if_neg t_1_1, if_neg t_1_2, if_neg t_1_3, if_pos t_1_4, if_neg c_144] <;> rfl))
    · refine lv_iconst (v := 0) hx hb dX3_does_147 (by decide) ?_
      refine lv_goto (tgt := 161) hx hb dX3_does_148 (by decide) ?_
      exact pr_iret (h) hx hb hr hlocks hP hD hS dX3_does_161 (by refine ⟨?_, ?_⟩ <;> (simp only [f_X3_does, if_neg t_1_0, if_neg t_1_1, if_neg t_1_2, if_neg t_1_3, if_pos t_1_4, if_pos c_144] <;> rfl))
  by_cases t_1_5 : a = 5
  · refine pr_tabIn (ki := 5) (tgt := 162) hx hb dX3_does_1 t_1_5 (by rfl) (by decide) (by decide) (by rfl) (by decide) ?_
    refine lv_aload_n hx hb dX3_does_162 rfl (lv_at hl 0 rfl) ?_
    refine lv_iload_n hx hb dX3_does_163 rfl (lv_at hl 2 rfl) ?_
    refine pr_Vi (As := [.int b]) (rest := []) ⟨hx, hb, hml, hown, hts⟩ (c_X3_write b hv) (cwV 1 hts gX3_does_X3_write rfl rfl rfl (by decide +kernel) ⟨Nat.le_of_ble_eq_true rfl, Nat.le_of_ble_eq_true rfl⟩) (va_recv hK.1 hP (ci := 5) rfl pz_a18) hK hP hD hS hA rfl hl.1 rfl (Nat.le_of_ble_eq_true rfl) ⟨Nat.le_of_ble_eq_true rfl, Nat.le_of_ble_eq_true rfl⟩ dX3_does_164 (fun r_19 h_21 H locs e_q_20 hP hD hS => ?_)
    obtain ⟨e_r_19, e_h_21⟩ := e_q_20
    exact pr_iret (h_21) hx hb hr hlocks hP hD hS dX3_does_167 (by subst e_h_21 e_r_19; refine ⟨?_, ?_⟩ <;> (simp only [f_X3_does, if_neg t_1_0, if_neg t_1_1, if_neg t_1_2, if_neg t_1_3, if_neg t_1_4, if_pos t_1_5] <;> rfl))
  by_cases t_1_6 : a = 6
  · refine pr_tabIn (ki := 6) (tgt := 168) hx hb dX3_does_1 t_1_6 (by rfl) (by decide) (by decide) (by rfl) (by decide) ?_
    refine lv_aload_n hx hb dX3_does_168 rfl (lv_at hl 0 rfl) ?_
    refine lv_iconst (v := 1) hx hb dX3_does_169 (by decide) ?_
    refine pr_putR (ci := 5) (C := RX3) (T := TX3) (N := 20) (ty := .boolean) (v := 1) hx hb hts inX3_does_X3 tyX3 tyX3_ok nmX3 hown hK.1 hP hD hS 18 (by omega) (by omega) pz_a18 rfl 16 (by decide) (hts (.fieldLink RX3 98 "PowderMillModel" "quits" "Z") (by decide +kernel)) (fun _ h9 => h9) rfl (by decide +kernel) rfl rfl (Nat.le_of_ble_eq_true rfl) rfl dX3_does_170 (fun h_22 H locs e_h_22 hP hD hS => ?_)
    refine lv_iconst (v := 0) hx hb dX3_does_173 (by decide) ?_
    exact pr_iret (h_22) hx hb hr hlocks hP hD hS dX3_does_174 (by subst e_h_22; refine ⟨?_, ?_⟩ <;> (simp only [f_X3_does, if_neg t_1_0, if_neg t_1_1, if_neg t_1_2, if_neg t_1_3, if_neg t_1_4, if_neg t_1_5, if_pos t_1_6] <;> rfl))
  by_cases t_1_7 : a = 7
  · refine pr_tabIn (ki := 7) (tgt := 175) hx hb dX3_does_1 t_1_7 (by rfl) (by decide) (by decide) (by rfl) (by decide) ?_
    refine lv_aload_n hx hb dX3_does_175 rfl (lv_at hl 0 rfl) ?_
    refine lv_dup hx hb dX3_does_176 rfl ?_
    refine va_get (D := (dC, dI)) (ci := 5) (C := RX3) (T := TX3) (N := 20) hx hb hts inX3_does_X3 hown hK.1 hP 18 pz_a18 rfl 15 (by decide) (hts (.fieldLink RX3 75 "PowderMillModel" "next" "I") (by decide +kernel)) (fun _ h9 => h9) rfl dX3_does_177 ?_
    refine lv_iload_n hx hb dX3_does_180 rfl (lv_at hl 2 rfl) ?_
    refine lv_iconst (v := 4) hx hb dX3_does_181 (by decide) ?_
    refine pr_Si (As := [.int b, .int 4]) (rest := [.int (h 18 15), .ref (ad 18)]) ⟨hx, hb, hml, hown, hts⟩ (c_X3_modulo b 4 (by decide)) (va_cwS 2 hts gX3_does_X3_modulo rfl rfl rfl (by decide +kernel) ⟨Nat.le_of_ble_eq_true rfl, Nat.le_of_ble_eq_true rfl⟩) hK hP hD hS hA rfl hl.1 rfl (Nat.le_of_ble_eq_true rfl) ⟨Nat.le_of_ble_eq_true rfl, Nat.le_of_ble_eq_true rfl⟩ dX3_does_182 (fun r_23 _ H locs e_r_23 hP hD hS => ?_)
    refine lv_iadd hx hb dX3_does_185 ?_
    refine pr_putR (ci := 5) (C := RX3) (T := TX3) (N := 20) (ty := .int) (v := ((h 18 15) + r_23)) hx hb hts inX3_does_X3 tyX3 tyX3_ok nmX3 hown hK.1 hP hD hS 18 (by omega) (by omega) pz_a18 rfl 15 (by decide) (hts (.fieldLink RX3 75 "PowderMillModel" "next" "I") (by decide +kernel)) (fun _ h9 => h9) rfl (by decide +kernel) rfl rfl (Nat.le_of_ble_eq_true rfl) rfl dX3_does_186 (fun h_24 H locs e_h_24 hP hD hS => ?_)
    refine lv_iconst (v := 0) hx hb dX3_does_189 (by decide) ?_
    exact pr_iret (h_24) hx hb hr hlocks hP hD hS dX3_does_190 (by subst e_h_24 e_r_23; refine ⟨?_, ?_⟩ <;> (simp only [f_X3_does, if_neg t_1_0, if_neg t_1_1, if_neg t_1_2, if_neg t_1_3, if_neg t_1_4, if_neg t_1_5, if_neg t_1_6, if_pos t_1_7] <;> rfl))
  refine lv_tableOut (tgt := 191) hx hb dX3_does_1 (by have q0 := lv_neT t_1_0 (by rfl : (0 : Int32).toInt = 0); have q1 := lv_neT t_1_1 (by rfl : (1 : Int32).toInt = 1); have q2 := lv_neT t_1_2 (by rfl : (2 : Int32).toInt = 2); have q3 := lv_neT t_1_3 (by rfl : (3 : Int32).toInt = 3); have q4 := lv_neT t_1_4 (by rfl : (4 : Int32).toInt = 4); have q5 := lv_neT t_1_5 (by rfl : (5 : Int32).toInt = 5); have q6 := lv_neT t_1_6 (by rfl : (6 : Int32).toInt = 6); have q7 := lv_neT t_1_7 (by rfl : (7 : Int32).toInt = 7); omega) (by decide) ?_
  refine lv_aload_n hx hb dX3_does_191 rfl (lv_at hl 0 rfl) ?_
  refine va_get (D := (dC, dI)) (ci := 5) (C := RX3) (T := TX3) (N := 20) hx hb hts inX3_does_X3 hown hK.1 hP 18 pz_a18 rfl 11 (by decide) (hts (.fieldLink RX3 72 "PowderMillModel" "deep" "I") (by decide +kernel)) (fun _ h9 => h9) rfl dX3_does_192 ?_
  refine lv_if_le (tgt := 247) hx hb dX3_does_195 (by decide) (fun c_195 => ?_) (fun c_195 => ?_)
  · refine lv_iconst (v := 0) hx hb dX3_does_247 (by decide) ?_
    exact pr_iret (h) hx hb hr hlocks hP hD hS dX3_does_248 (by refine ⟨?_, ?_⟩ <;> (simp only [f_X3_does, if_neg t_1_0, if_neg t_1_1, if_neg t_1_2, if_neg t_1_3, if_neg t_1_4, if_neg t_1_5, if_neg t_1_6, if_neg t_1_7, if_pos c_195] <;> rfl))
  · obtain ⟨i1, -⟩ := pz_V1 hv (pz_Vgt c_195)
    refine lv_aload_n hx hb dX3_does_198 rfl (lv_at hl 0 rfl) ?_
    refine va_get (D := (dC, dI)) (ci := 5) (C := RX3) (T := TX3) (N := 20) hx hb hts inX3_does_X3 hown hK.1 hP 18 pz_a18 rfl 14 (by decide) (hts (.fieldLink RX3 44 "PowderMillModel" "agains" "[I") (by decide +kernel)) (fun _ h9 => h9) rfl dX3_does_199 ?_
    refine lv_aload_n hx hb dX3_does_202 rfl (lv_at hl 0 rfl) ?_
    refine va_get (D := (dC, dI)) (ci := 5) (C := RX3) (T := TX3) (N := 20) hx hb hts inX3_does_X3 hown hK.1 hP 18 pz_a18 rfl 11 (by decide) (hts (.fieldLink RX3 72 "PowderMillModel" "deep" "I") (by decide +kernel)) (fun _ h9 => h9) rfl dX3_does_203 ?_
    refine lv_iconst (v := 1) hx hb dX3_does_206 (by decide) ?_
    refine lv_isub hx hb dX3_does_207 ?_
    refine va_iald hx hb hK.1 hP 30 0 pz_a30 rfl i1 dX3_does_208 ?_
    refine lv_iload_n hx hb dX3_does_209 rfl (lv_at hl 2 rfl) ?_
    refine lv_iconst (v := 4) hx hb dX3_does_210 (by decide) ?_
    refine pr_Si (As := [.int b, .int 4]) (rest := [.int (h 30 ((h 18 11) - 1).toNatClampNeg)]) ⟨hx, hb, hml, hown, hts⟩ (c_X3_modulo b 4 (by decide)) (va_cwS 2 hts gX3_does_X3_modulo rfl rfl rfl (by decide +kernel) ⟨Nat.le_of_ble_eq_true rfl, Nat.le_of_ble_eq_true rfl⟩) hK hP hD hS hA rfl hl.1 rfl (Nat.le_of_ble_eq_true rfl) ⟨Nat.le_of_ble_eq_true rfl, Nat.le_of_ble_eq_true rfl⟩ dX3_does_211 (fun r_25 _ H locs e_r_25 hP hD hS => ?_)
    refine lv_icmp_ge (tgt := 247) hx hb dX3_does_214 (by decide) (fun c_214 => ?_) (fun c_214 => ?_)
    · refine lv_iconst (v := 0) hx hb dX3_does_247 (by decide) ?_
      exact pr_iret (h) hx hb hr hlocks hP hD hS dX3_does_248 (by subst e_r_25; refine ⟨?_, ?_⟩ <;> (simp only [f_X3_does, if_neg t_1_0, if_neg t_1_1, if_neg t_1_2, if_neg t_1_3, if_neg t_1_4, if_neg t_1_5, if_neg t_1_6, if_neg t_1_7, if_neg c_195, if_pos c_214] <;> rfl))
    · refine lv_aload_n hx hb dX3_does_217 rfl (lv_at hl 0 rfl) ?_
      refine va_get (D := (dC, dI)) (ci := 5) (C := RX3) (T := TX3) (N := 20) hx hb hts inX3_does_X3 hown hK.1 hP 18 pz_a18 rfl 14 (by decide) (hts (.fieldLink RX3 44 "PowderMillModel" "agains" "[I") (by decide +kernel)) (fun _ h9 => h9) rfl dX3_does_218 ?_
      refine lv_aload_n hx hb dX3_does_221 rfl (lv_at hl 0 rfl) ?_
      refine va_get (D := (dC, dI)) (ci := 5) (C := RX3) (T := TX3) (N := 20) hx hb hts inX3_does_X3 hown hK.1 hP 18 pz_a18 rfl 11 (by decide) (hts (.fieldLink RX3 72 "PowderMillModel" "deep" "I") (by decide +kernel)) (fun _ h9 => h9) rfl dX3_does_222 ?_
      refine lv_iconst (v := 1) hx hb dX3_does_225 (by decide) ?_
      refine lv_isub hx hb dX3_does_226 ?_
      refine lv_dup2_11 hx hb dX3_does_227 rfl rfl ?_
      refine va_iald hx hb hK.1 hP 30 0 pz_a30 rfl i1 dX3_does_228 ?_
      refine lv_iconst (v := 1) hx hb dX3_does_229 (by decide) ?_
      refine lv_iadd hx hb dX3_does_230 ?_
      refine pr_iastR hx hb hK.1 hP hD hS 30 (by omega) (by omega) pz_a30 (fun _ => rfl) i1 dX3_does_231 (fun h_26 H locs e_h_26 hP hD hS => ?_)
      refine lv_aload_n hx hb dX3_does_232 rfl (lv_at hl 0 rfl) ?_
      refine lv_aload_n hx hb dX3_does_233 rfl (lv_at hl 0 rfl) ?_
      refine va_get (D := (dC, dI)) (ci := 5) (C := RX3) (T := TX3) (N := 20) hx hb hts inX3_does_X3 hown hK.1 hP 18 pz_a18 rfl 13 (by decide) (hts (.fieldLink RX3 41 "PowderMillModel" "from" "[I") (by decide +kernel)) (fun _ h9 => h9) rfl dX3_does_234 ?_
      refine lv_aload_n hx hb dX3_does_237 rfl (lv_at hl 0 rfl) ?_
      refine va_get (D := (dC, dI)) (ci := 5) (C := RX3) (T := TX3) (N := 20) hx hb hts inX3_does_X3 hown hK.1 hP 18 pz_a18 rfl 11 (by decide) (hts (.fieldLink RX3 72 "PowderMillModel" "deep" "I") (by decide +kernel)) (fun _ h9 => h9) rfl dX3_does_238 ?_
      refine lv_iconst (v := 1) hx hb dX3_does_241 (by decide) ?_
      refine lv_isub hx hb dX3_does_242 ?_
      refine va_iald hx hb hK.1 hP 29 0 pz_a29 rfl (by subst e_h_26; rw [pz_t2 (by decide)]; exact i1) dX3_does_243 ?_
      refine pr_putR (ci := 5) (C := RX3) (T := TX3) (N := 20) (ty := .int) (v := (h_26 29 ((h_26 18 11) - 1).toNatClampNeg)) hx hb hts inX3_does_X3 tyX3 tyX3_ok nmX3 hown hK.1 hP hD hS 18 (by omega) (by omega) pz_a18 rfl 15 (by decide) (hts (.fieldLink RX3 75 "PowderMillModel" "next" "I") (by decide +kernel)) (fun _ h9 => h9) rfl (by decide +kernel) rfl rfl (Nat.le_of_ble_eq_true rfl) rfl dX3_does_244 (fun h_27 H locs e_h_27 hP hD hS => ?_)
      refine lv_iconst (v := 0) hx hb dX3_does_247 (by decide) ?_
      exact pr_iret (h_27) hx hb hr hlocks hP hD hS dX3_does_248 (by subst e_h_27 e_h_26 e_r_25; refine ⟨?_, ?_⟩ <;> (simp only [f_X3_does, if_neg t_1_0, if_neg t_1_1, if_neg t_1_2, if_neg t_1_3, if_neg t_1_4, if_neg t_1_5, if_neg t_1_6, if_neg t_1_7, if_neg c_195, if_neg c_214] <;> rfl))
theorem pz_Vn {h : pz_M} {n : Nat} (hw : ∃ d : Nat, d ≤ 6 ∧ d < n ∧ h 18 11 = nI d ∧ ∀ i, i < d → vp_in (h 28 i) 8) (hc : ¬ h 18 11 ≤ 0) : vp_in (h 18 11 - 1) 6 ∧ vp_in (h 28 (h 18 11 - 1).toNatClampNeg) 8 := by
  obtain ⟨d, h6, -, hd, hs⟩ := hw
  exact pz_V1 ⟨d, h6, hd, hs⟩ (pz_Vgt hc)
theorem pz_Vd {g g2 : pz_M} {n : Nat} (hw : ∃ d : Nat, d ≤ 6 ∧ d < n + 1 ∧ g 18 11 = nI d ∧ ∀ i, i < d → vp_in (g 28 i) 8) (hc : ¬ g 18 11 ≤ 0) (h2 : g2 18 11 = g 18 11 - 1) (h3 : ∀ i, g2 28 i = g 28 i) : ∃ d : Nat, d ≤ 6 ∧ d < n ∧ g2 18 11 = nI d ∧ ∀ i, i < d → vp_in (g2 28 i) 8 := by
  obtain ⟨d, h6, hn, hd, hs⟩ := hw
  have h1 : 1 ≤ d := by
    rcases Nat.lt_or_ge d 1 with q | q
    · have : d = 0 := by omega
      subst this
      exact absurd (by rw [hd]; exact (nI_leI (by decide) (by decide)).mpr (Nat.le_refl 0)) hc
    · exact q
  exact ⟨d - 1, by omega, by omega, by rw [h2, hd]; exact pk_sub (a := d) (b := 1) h1, fun i hi => by rw [h3]; exact hs i (by omega)⟩
theorem pz_Vv {g : pz_M} (hw : pz_V g) : ∃ d : Nat, d ≤ 6 ∧ d < 7 ∧ g 18 11 = nI d ∧ ∀ i, i < d → vp_in (g 28 i) 8 := by
  obtain ⟨d, h6, hd, hs⟩ := hw
  exact ⟨d, h6, by omega, hd, hs⟩
theorem inX3_isCaught_X3 : ∀ w ∈ u_ws RX3 TX3 20, w ∈ wsX3_isCaught := by decide +kernel
def f_mic : Nat → pz_M → Int32 × pz_M
  | 0, w => (0, w)
  | n + 1, w =>
    if (w 18 11) ≤ 0 then
      (0, w)
    else
      let h_1 := pz_st w 18 11 ((w 18 11) - 1)
      if (h_1 21 (h_1 28 (h_1 18 11).toNatClampNeg).toNatClampNeg) = 0 then
        f_mic n h_1
      else
        let h_2 := pz_st h_1 24 (h_1 28 (h_1 18 11).toNatClampNeg).toNatClampNeg ((h_1 24 (h_1 28 (h_1 18 11).toNatClampNeg).toNatClampNeg) + 1)
        (1, h_2)
def f_X3_isCaught (h : pz_M) : Int32 × pz_M := f_mic 7 h
set_option maxHeartbeats 4000000 in
set_option maxRecDepth 100000 in
theorem c_X3_isCaught {l : Launch} {dC : Nat → ClassId} {dI : Nat → Nat → Nat} {cl : Nat → ClassId} {ad : Nat → Nat} {ph : Nat → Option Nat} {o : Nat → Int64} {g h : pz_M} (hv : pz_V h) : pz_Mi l dC dI cl yX3_isCaught wsX3_isCaught { frames := 0, cells := 0, slots := 0, locals := 0 } [.ref (ad 18)] (pz_wd ad cl ph o g h) (fun u : pz_M => pz_wd ad cl ph o g u) (fun r u => r = (f_X3_isCaught h).1 ∧ u = (f_X3_isCaught h).2) := by
  intro sz
  refine pr_ofW (Qc := pz_Qi dC dI _ _) (cb := cX3_isCaught) (maxL := 1) (ret := (some .boolean)) (by decide) rfl (Nat.le_of_ble_eq_true rfl) ?_
  intro p e s m below meth c A ls hx hb hml hr hlocks hts hown hK hP hD hS hA hl
  have hl : lv_has ls 1 [(0, .ref (ad 18))] := hl
  have key : ∀ (n : Nat) (w : pz_M) (H : Heap) (locs : List Loc) (ls : Array Slot), (∃ d : Nat, d ≤ 6 ∧ d < n ∧ w 18 11 = nI d ∧ ∀ i, i < d → vp_in (w 28 i) 8) → f_mic n w = f_mic 7 h → va_P (dC, dI) vwCl (pz_wd ad cl ph o g w) H → va_D A (pz_wd ad cl ph o g w) → va_S A s.heap H locs → lv_has ls 1 [(0, .ref (ad 18))] → W p l e { frames := 0, cells := 0, slots := 0, locals := 0 } s m [.ref (ad 18)].toArray below meth c H locs 0 0 (MQ below (pz_Qi dC dI (fun r u => r = (f_X3_isCaught h).1 ∧ u = (f_X3_isCaught h).2) (fun u : pz_M => pz_wd ad cl ph o g u) A) [.ref (ad 18)].toArray s 0 0 A) (F0 m 0 ls []) := by
    intro n
    induction n with
    | zero => intro w H locs ls hw; obtain ⟨d, -, h2, -⟩ := hw; omega
    | succ n ih =>
      intro w H locs ls hw hF hP hD hS hl
      refine lv_aload_n hx hb dX3_isCaught_0 rfl (lv_at hl 0 rfl) ?_
      refine va_get (D := (dC, dI)) (ci := 5) (C := RX3) (T := TX3) (N := 20) hx hb hts inX3_isCaught_X3 hown hK.1 hP 18 pz_a18 rfl 11 (by decide) (hts (.fieldLink RX3 72 "PowderMillModel" "deep" "I") (by decide +kernel)) (fun _ h9 => h9) rfl dX3_isCaught_1 ?_
      refine lv_if_le (tgt := 54) hx hb dX3_isCaught_4 (by decide) (fun c_4 => ?_) (fun c_4 => ?_)
      · refine lv_iconst (v := 0) hx hb dX3_isCaught_54 (by decide) ?_
        exact pr_zret (w) hx hb hr hlocks (by decide) hP hD hS dX3_isCaught_55 (by refine ⟨?_, ?_⟩ <;> (show _ = _; unfold f_X3_isCaught; rw [← hF]; simp only [f_mic, if_pos c_4]))
      · obtain ⟨i1, i2⟩ := pz_Vn hw c_4
        refine lv_aload_n hx hb dX3_isCaught_7 rfl (lv_at hl 0 rfl) ?_
        refine lv_dup hx hb dX3_isCaught_8 rfl ?_
        refine va_get (D := (dC, dI)) (ci := 5) (C := RX3) (T := TX3) (N := 20) hx hb hts inX3_isCaught_X3 hown hK.1 hP 18 pz_a18 rfl 11 (by decide) (hts (.fieldLink RX3 72 "PowderMillModel" "deep" "I") (by decide +kernel)) (fun _ h9 => h9) rfl dX3_isCaught_9 ?_
        refine lv_iconst (v := 1) hx hb dX3_isCaught_12 (by decide) ?_
        refine lv_isub hx hb dX3_isCaught_13 ?_
        refine pr_putR (ci := 5) (C := RX3) (T := TX3) (N := 20) (ty := .int) (v := ((w 18 11) - 1)) hx hb hts inX3_isCaught_X3 tyX3 tyX3_ok nmX3 hown hK.1 hP hD hS 18 (by omega) (by omega) pz_a18 rfl 11 (by decide) (hts (.fieldLink RX3 72 "PowderMillModel" "deep" "I") (by decide +kernel)) (fun _ h9 => h9) rfl (by decide +kernel) rfl rfl (Nat.le_of_ble_eq_true rfl) rfl dX3_isCaught_14 (fun h_1 H locs e_h_1 hP hD hS => ?_)
        refine lv_aload_n hx hb dX3_isCaught_17 rfl (lv_at hl 0 rfl) ?_
        refine va_get (D := (dC, dI)) (ci := 5) (C := RX3) (T := TX3) (N := 20) hx hb hts inX3_isCaught_X3 hown hK.1 hP 18 pz_a18 rfl 3 (by decide) (hts (.fieldLink RX3 16 "PowderMillModel" "refuge" "[Z") (by decide +kernel)) (fun _ h9 => h9) rfl dX3_isCaught_18 ?_
        refine lv_aload_n hx hb dX3_isCaught_21 rfl (lv_at hl 0 rfl) ?_
        refine va_get (D := (dC, dI)) (ci := 5) (C := RX3) (T := TX3) (N := 20) hx hb hts inX3_isCaught_X3 hown hK.1 hP 18 pz_a18 rfl 12 (by decide) (hts (.fieldLink RX3 38 "PowderMillModel" "in" "[I") (by decide +kernel)) (fun _ h9 => h9) rfl dX3_isCaught_22 ?_
        refine lv_aload_n hx hb dX3_isCaught_25 rfl (lv_at hl 0 rfl) ?_
        refine va_get (D := (dC, dI)) (ci := 5) (C := RX3) (T := TX3) (N := 20) hx hb hts inX3_isCaught_X3 hown hK.1 hP 18 pz_a18 rfl 11 (by decide) (hts (.fieldLink RX3 72 "PowderMillModel" "deep" "I") (by decide +kernel)) (fun _ h9 => h9) rfl dX3_isCaught_26 ?_
        refine va_iald hx hb hK.1 hP 28 0 pz_a28 rfl (by subst e_h_1; rw [pz_st_s, pk_us]; exact i1) dX3_isCaught_29 ?_
        refine va_zald hx hb hK.1 hP 21 1 pz_a21 rfl (by subst e_h_1; rw [pz_st_s, pk_us, pz_t2 (by decide)]; exact i2) dX3_isCaught_30 ?_
        refine lv_if_eq (tgt := 0) hx hb dX3_isCaught_31 (by decide) (fun c_31 => ?_) (fun c_31 => ?_)
        · exact ih h_1 _ _ _ (pz_Vd hw c_4 (by subst e_h_1; rw [pz_st_s, pk_us]) (by subst e_h_1; intro i; rw [pz_t2 (by decide)])) (by rw [← hF]; subst e_h_1; simp only [f_mic, if_neg c_4, if_pos c_31]) hP hD hS hl
        · refine lv_aload_n hx hb dX3_isCaught_34 rfl (lv_at hl 0 rfl) ?_
          refine va_get (D := (dC, dI)) (ci := 5) (C := RX3) (T := TX3) (N := 20) hx hb hts inX3_isCaught_X3 hown hK.1 hP 18 pz_a18 rfl 6 (by decide) (hts (.fieldLink RX3 26 "PowderMillModel" "caught" "[I") (by decide +kernel)) (fun _ h9 => h9) rfl dX3_isCaught_35 ?_
          refine lv_aload_n hx hb dX3_isCaught_38 rfl (lv_at hl 0 rfl) ?_
          refine va_get (D := (dC, dI)) (ci := 5) (C := RX3) (T := TX3) (N := 20) hx hb hts inX3_isCaught_X3 hown hK.1 hP 18 pz_a18 rfl 12 (by decide) (hts (.fieldLink RX3 38 "PowderMillModel" "in" "[I") (by decide +kernel)) (fun _ h9 => h9) rfl dX3_isCaught_39 ?_
          refine lv_aload_n hx hb dX3_isCaught_42 rfl (lv_at hl 0 rfl) ?_
          refine va_get (D := (dC, dI)) (ci := 5) (C := RX3) (T := TX3) (N := 20) hx hb hts inX3_isCaught_X3 hown hK.1 hP 18 pz_a18 rfl 11 (by decide) (hts (.fieldLink RX3 72 "PowderMillModel" "deep" "I") (by decide +kernel)) (fun _ h9 => h9) rfl dX3_isCaught_43 ?_
          refine va_iald hx hb hK.1 hP 28 0 pz_a28 rfl (by subst e_h_1; rw [pz_st_s, pk_us]; exact i1) dX3_isCaught_46 ?_
          refine lv_dup2_11 hx hb dX3_isCaught_47 rfl rfl ?_
          refine va_iald hx hb hK.1 hP 24 0 pz_a24 rfl (by subst e_h_1; rw [pz_st_s, pk_us, pz_t2 (by decide)]; exact i2) dX3_isCaught_48 ?_
          refine lv_iconst (v := 1) hx hb dX3_isCaught_49 (by decide) ?_
          refine lv_iadd hx hb dX3_isCaught_50 ?_
          refine pr_iastR hx hb hK.1 hP hD hS 24 (by omega) (by omega) pz_a24 (fun _ => rfl) (by subst e_h_1; rw [pz_st_s, pk_us, pz_t2 (by decide)]; exact i2) dX3_isCaught_51 (fun h_2 H locs e_h_2 hP hD hS => ?_)
          refine lv_iconst (v := 1) hx hb dX3_isCaught_52 (by decide) ?_
          exact pr_zret (h_2) hx hb hr hlocks (by decide) hP hD hS dX3_isCaught_53 (by subst e_h_2 e_h_1; refine ⟨?_, ?_⟩ <;> (show _ = _; unfold f_X3_isCaught; rw [← hF]; simp only [f_mic, if_neg c_4, if_neg c_31]))
  exact key 7 h _ _ ls (pz_Vv hv) rfl hP hD hS hl
theorem inX3_begun_X3 : ∀ w ∈ u_ws RX3 TX3 20, w ∈ wsX3_begun := by decide +kernel
def f_X3_begun (h : pz_M) : Int32 × pz_M :=
  let h_1 := pz_st h 18 0 0
  (h_1 18 17, h_1)
set_option maxHeartbeats 4000000 in
set_option maxRecDepth 100000 in
theorem c_X3_begun {l : Launch} {dC : Nat → ClassId} {dI : Nat → Nat → Nat} {cl : Nat → ClassId} {ad : Nat → Nat} {ph : Nat → Option Nat} {o : Nat → Int64} {g h : pz_M} : pz_Mi l dC dI cl yX3_begun wsX3_begun { frames := 0, cells := 0, slots := 0, locals := 0 } [.ref (ad 18)] (pz_wd ad cl ph o g h) (fun u : pz_M => pz_wd ad cl ph o g u) (fun r u => r = (f_X3_begun h).1 ∧ u = (f_X3_begun h).2) := by
  intro sz
  refine pr_ofW (Qc := pz_Qi dC dI _ _) (cb := cX3_begun) (maxL := 1) (ret := (some .int)) (by decide) rfl (Nat.le_of_ble_eq_true rfl) ?_
  intro p e s m below meth c A ls hx hb hml hr hlocks hts hown hK hP hD hS hA hl
  have hl : lv_has ls 1 [(0, .ref (ad 18))] := hl
  refine lv_aload_n hx hb dX3_begun_0 rfl (lv_at hl 0 rfl) ?_
  refine lv_iconst (v := 0) hx hb dX3_begun_1 (by decide) ?_
  refine pr_putR (ci := 5) (C := RX3) (T := TX3) (N := 20) (ty := .int) (v := 0) hx hb hts inX3_begun_X3 tyX3 tyX3_ok nmX3 hown hK.1 hP hD hS 18 (by omega) (by omega) pz_a18 rfl 0 (by decide) (hts (.fieldLink RX3 57 "PowderMillModel" "thrown" "I") (by decide +kernel)) (fun _ h9 => h9) rfl (by decide +kernel) rfl rfl (Nat.le_of_ble_eq_true rfl) rfl dX3_begun_2 (fun h_1 H locs e_h_1 hP hD hS => ?_)
  refine lv_aload_n hx hb dX3_begun_5 rfl (lv_at hl 0 rfl) ?_
  refine va_get (D := (dC, dI)) (ci := 5) (C := RX3) (T := TX3) (N := 20) hx hb hts inX3_begun_X3 hown hK.1 hP 18 pz_a18 rfl 17 (by decide) (hts (.fieldLink RX3 102 "PowderMillModel" "begun" "I") (by decide +kernel)) (fun _ h9 => h9) rfl dX3_begun_6 ?_
  exact pr_iret (h_1) hx hb hr hlocks hP hD hS dX3_begun_9 (by subst e_h_1; refine ⟨?_, ?_⟩ <;> (simp only [f_X3_begun] <;> rfl))
theorem inX3_where_X3 : ∀ w ∈ u_ws RX3 TX3 20, w ∈ wsX3_where := by decide +kernel
def f_X3_where (h : pz_M) : Int32 × pz_M :=
  let h_1 := pz_st h 18 0 0
  (h_1 18 18, h_1)
set_option maxHeartbeats 4000000 in
set_option maxRecDepth 100000 in
theorem c_X3_where {l : Launch} {dC : Nat → ClassId} {dI : Nat → Nat → Nat} {cl : Nat → ClassId} {ad : Nat → Nat} {ph : Nat → Option Nat} {o : Nat → Int64} {g h : pz_M} : pz_Mi l dC dI cl yX3_where wsX3_where { frames := 0, cells := 0, slots := 0, locals := 0 } [.ref (ad 18)] (pz_wd ad cl ph o g h) (fun u : pz_M => pz_wd ad cl ph o g u) (fun r u => r = (f_X3_where h).1 ∧ u = (f_X3_where h).2) := by
  intro sz
  refine pr_ofW (Qc := pz_Qi dC dI _ _) (cb := cX3_where) (maxL := 1) (ret := (some .int)) (by decide) rfl (Nat.le_of_ble_eq_true rfl) ?_
  intro p e s m below meth c A ls hx hb hml hr hlocks hts hown hK hP hD hS hA hl
  have hl : lv_has ls 1 [(0, .ref (ad 18))] := hl
  refine lv_aload_n hx hb dX3_where_0 rfl (lv_at hl 0 rfl) ?_
  refine lv_iconst (v := 0) hx hb dX3_where_1 (by decide) ?_
  refine pr_putR (ci := 5) (C := RX3) (T := TX3) (N := 20) (ty := .int) (v := 0) hx hb hts inX3_where_X3 tyX3 tyX3_ok nmX3 hown hK.1 hP hD hS 18 (by omega) (by omega) pz_a18 rfl 0 (by decide) (hts (.fieldLink RX3 57 "PowderMillModel" "thrown" "I") (by decide +kernel)) (fun _ h9 => h9) rfl (by decide +kernel) rfl rfl (Nat.le_of_ble_eq_true rfl) rfl dX3_where_2 (fun h_1 H locs e_h_1 hP hD hS => ?_)
  refine lv_aload_n hx hb dX3_where_5 rfl (lv_at hl 0 rfl) ?_
  refine va_get (D := (dC, dI)) (ci := 5) (C := RX3) (T := TX3) (N := 20) hx hb hts inX3_where_X3 hown hK.1 hP 18 pz_a18 rfl 18 (by decide) (hts (.fieldLink RX3 47 "PowderMillModel" "where" "I") (by decide +kernel)) (fun _ h9 => h9) rfl dX3_where_6 ?_
  exact pr_iret (h_1) hx hb hr hlocks hP hD hS dX3_where_9 (by subst e_h_1; refine ⟨?_, ?_⟩ <;> (simp only [f_X3_where] <;> rfl))
theorem inX3_house_X3 : ∀ w ∈ u_ws RX3 TX3 20, w ∈ wsX3_house := by decide +kernel
def f_X3_house (h : pz_M) (a : Int32) (b : Int32) : Int32 × pz_M :=
  let h_1 := pz_st h 18 0 0
  let r_2 := f_X3_isHouse h_1 a
  if r_2 = 0 then
    ((-1), h_1)
  else
    if b = 0 then
      (h_1 19 a.toNatClampNeg, h_1)
    else
      if b = 1 then
        (h_1 20 a.toNatClampNeg, h_1)
      else
        if b = 2 then
          if (h_1 21 a.toNatClampNeg) = 0 then
            (0, h_1)
          else
            (1, h_1)
        else
          if b = 3 then
            (h_1 22 a.toNatClampNeg, h_1)
          else
            if b = 4 then
              (h_1 23 a.toNatClampNeg, h_1)
            else
              if b = 5 then
                (h_1 24 a.toNatClampNeg, h_1)
              else
                if b = 6 then
                  (0, h_1)
                else
                  ((-1), h_1)
set_option maxHeartbeats 4000000 in
set_option maxRecDepth 100000 in
theorem c_X3_house {l : Launch} {dC : Nat → ClassId} {dI : Nat → Nat → Nat} {cl : Nat → ClassId} {ad : Nat → Nat} {ph : Nat → Option Nat} {o : Nat → Int64} {g h : pz_M} (a : Int32) (b : Int32) : pz_Mi l dC dI cl yX3_house wsX3_house { frames := 3, cells := 0, slots := 0, locals := 63 } [.ref (ad 18), .int a, .int b] (pz_wd ad cl ph o g h) (fun u : pz_M => pz_wd ad cl ph o g u) (fun r u => r = (f_X3_house h a b).1 ∧ u = (f_X3_house h a b).2) := by
  intro sz
  refine pr_ofW (Qc := pz_Qi dC dI _ _) (cb := cX3_house) (maxL := 3) (ret := (some .int)) (by decide) rfl (Nat.le_of_ble_eq_true rfl) ?_
  intro p e s m below meth c A ls hx hb hml hr hlocks hts hown hK hP hD hS hA hl
  have hl : lv_has ls 3 [(0, .ref (ad 18)), (1, .int a), (2, .int b)] := hl
  refine lv_aload_n hx hb dX3_house_0 rfl (lv_at hl 0 rfl) ?_
  refine lv_iconst (v := 0) hx hb dX3_house_1 (by decide) ?_
  refine pr_putR (ci := 5) (C := RX3) (T := TX3) (N := 20) (ty := .int) (v := 0) hx hb hts inX3_house_X3 tyX3 tyX3_ok nmX3 hown hK.1 hP hD hS 18 (by omega) (by omega) pz_a18 rfl 0 (by decide) (hts (.fieldLink RX3 57 "PowderMillModel" "thrown" "I") (by decide +kernel)) (fun _ h9 => h9) rfl (by decide +kernel) rfl rfl (Nat.le_of_ble_eq_true rfl) rfl dX3_house_2 (fun h_1 H locs e_h_1 hP hD hS => ?_)
  refine lv_aload_n hx hb dX3_house_5 rfl (lv_at hl 0 rfl) ?_
  refine lv_iload_n hx hb dX3_house_6 rfl (lv_at hl 1 rfl) ?_
  refine pr_Vi (As := [.int a]) (rest := []) ⟨hx, hb, hml, hown, hts⟩ (c_X3_isHouse a) (cwV 1 hts gX3_house_X3_isHouse rfl rfl rfl (by decide +kernel) ⟨Nat.le_of_ble_eq_true rfl, Nat.le_of_ble_eq_true rfl⟩) (va_recv hK.1 hP (ci := 5) rfl pz_a18) hK hP hD hS hA rfl hl.1 rfl (Nat.le_of_ble_eq_true rfl) ⟨Nat.le_of_ble_eq_true rfl, Nat.le_of_ble_eq_true rfl⟩ dX3_house_7 (fun r_2 _ H locs e_r_2 hP hD hS => ?_)
  refine lv_if_ne (tgt := 15) hx hb dX3_house_10 (by decide) (fun c_10 => ?_) (fun c_10 => ?_)
  · have i1 : vp_in a 8 := pz_mhouse (by rw [← e_r_2]; exact c_10)
    refine lv_iload_n hx hb dX3_house_15 rfl (lv_at hl 2 rfl) ?_
    by_cases t_16_0 : b = 0
    · refine pr_tabIn (ki := 0) (tgt := 60) hx hb dX3_house_16 t_16_0 (by rfl) (by decide) (by decide) (by rfl) (by decide) ?_
      refine lv_aload_n hx hb dX3_house_60 rfl (lv_at hl 0 rfl) ?_
      refine va_get (D := (dC, dI)) (ci := 5) (C := RX3) (T := TX3) (N := 20) hx hb hts inX3_house_X3 hown hK.1 hP 18 pz_a18 rfl 1 (by decide) (hts (.fieldLink RX3 7 "PowderMillModel" "walls" "[I") (by decide +kernel)) (fun _ h9 => h9) rfl dX3_house_61 ?_
      refine lv_iload_n hx hb dX3_house_64 rfl (lv_at hl 1 rfl) ?_
      refine va_iald hx hb hK.1 hP 19 0 pz_a19 rfl i1 dX3_house_65 ?_
      exact pr_iret (h_1) hx hb hr hlocks hP hD hS dX3_house_66 (by subst e_r_2 e_h_1; refine ⟨?_, ?_⟩ <;> (simp only [f_X3_house, if_neg c_10, if_pos t_16_0] <;> rfl))
    by_cases t_16_1 : b = 1
    · refine pr_tabIn (ki := 1) (tgt := 67) hx hb dX3_house_16 t_16_1 (by rfl) (by decide) (by decide) (by rfl) (by decide) ?_
      refine lv_aload_n hx hb dX3_house_67 rfl (lv_at hl 0 rfl) ?_
      refine va_get (D := (dC, dI)) (ci := 5) (C := RX3) (T := TX3) (N := 20) hx hb hts inX3_house_X3 hown hK.1 hP 18 pz_a18 rfl 2 (by decide) (hts (.fieldLink RX3 13 "PowderMillModel" "powder" "[I") (by decide +kernel)) (fun _ h9 => h9) rfl dX3_house_68 ?_
      refine lv_iload_n hx hb dX3_house_71 rfl (lv_at hl 1 rfl) ?_
      refine va_iald hx hb hK.1 hP 20 0 pz_a20 rfl i1 dX3_house_72 ?_
      exact pr_iret (h_1) hx hb hr hlocks hP hD hS dX3_house_73 (by subst e_r_2 e_h_1; refine ⟨?_, ?_⟩ <;> (simp only [f_X3_house, if_neg c_10, if_neg t_16_0, if_pos t_16_1] <;> rfl))
    by_cases t_16_2 : b = 2
    · refine pr_tabIn (ki := 2) (tgt := 74) hx hb dX3_house_16 t_16_2 (by rfl) (by decide) (by decide) (by rfl) (by decide) ?_
      refine lv_aload_n hx hb dX3_house_74 rfl (lv_at hl 0 rfl) ?_
      refine va_get (D := (dC, dI)) (ci := 5) (C := RX3) (T := TX3) (N := 20) hx hb hts inX3_house_X3 hown hK.1 hP 18 pz_a18 rfl 3 (by decide) (hts (.fieldLink RX3 16 "PowderMillModel" "refuge" "[Z") (by decide +kernel)) (fun _ h9 => h9) rfl dX3_house_75 ?_
      refine lv_iload_n hx hb dX3_house_78 rfl (lv_at hl 1 rfl) ?_
      refine va_zald hx hb hK.1 hP 21 1 pz_a21 rfl i1 dX3_house_79 ?_
      refine lv_if_eq (tgt := 87) hx hb dX3_house_80 (by decide) (fun c_80 => ?_) (fun c_80 => ?_)
      · refine lv_iconst (v := 0) hx hb dX3_house_87 (by decide) ?_
        exact pr_iret (h_1) hx hb hr hlocks hP hD hS dX3_house_88 (by subst e_r_2 e_h_1; refine ⟨?_, ?_⟩ <;> (simp only [f_X3_house, if_neg c_10, if_neg t_16_0, if_neg t_16_1, if_pos t_16_2, if_pos c_80] <;> rfl))
      · refine lv_iconst (v := 1) hx hb dX3_house_83 (by decide) ?_
        refine lv_goto (tgt := 88) hx hb dX3_house_84 (by decide) ?_
        exact pr_iret (h_1) hx hb hr hlocks hP hD hS dX3_house_88 (by subst e_r_2 e_h_1; refine ⟨?_, ?_⟩ <;> (simp only [f_X3_house, if_neg c_10, if_neg t_16_0, if_neg t_16_1, if_pos t_16_2, if_neg c_80] <;> rfl))
    by_cases t_16_3 : b = 3
    · refine pr_tabIn (ki := 3) (tgt := 89) hx hb dX3_house_16 t_16_3 (by rfl) (by decide) (by decide) (by rfl) (by decide) ?_
      refine lv_aload_n hx hb dX3_house_89 rfl (lv_at hl 0 rfl) ?_
      refine va_get (D := (dC, dI)) (ci := 5) (C := RX3) (T := TX3) (N := 20) hx hb hts inX3_house_X3 hown hK.1 hP 18 pz_a18 rfl 4 (by decide) (hts (.fieldLink RX3 20 "PowderMillModel" "ins" "[I") (by decide +kernel)) (fun _ h9 => h9) rfl dX3_house_90 ?_
      refine lv_iload_n hx hb dX3_house_93 rfl (lv_at hl 1 rfl) ?_
      refine va_iald hx hb hK.1 hP 22 0 pz_a22 rfl i1 dX3_house_94 ?_
      exact pr_iret (h_1) hx hb hr hlocks hP hD hS dX3_house_95 (by subst e_r_2 e_h_1; refine ⟨?_, ?_⟩ <;> (simp only [f_X3_house, if_neg c_10, if_neg t_16_0, if_neg t_16_1, if_neg t_16_2, if_pos t_16_3] <;> rfl))
    by_cases t_16_4 : b = 4
    · refine pr_tabIn (ki := 4) (tgt := 96) hx hb dX3_house_16 t_16_4 (by rfl) (by decide) (by decide) (by rfl) (by decide) ?_
      refine lv_aload_n hx hb dX3_house_96 rfl (lv_at hl 0 rfl) ?_
      refine va_get (D := (dC, dI)) (ci := 5) (C := RX3) (T := TX3) (N := 20) hx hb hts inX3_house_X3 hown hK.1 hP 18 pz_a18 rfl 5 (by decide) (hts (.fieldLink RX3 23 "PowderMillModel" "sparks" "[I") (by decide +kernel)) (fun _ h9 => h9) rfl dX3_house_97 ?_
      refine lv_iload_n hx hb dX3_house_100 rfl (lv_at hl 1 rfl) ?_
      refine va_iald hx hb hK.1 hP 23 0 pz_a23 rfl i1 dX3_house_101 ?_
      exact pr_iret (h_1) hx hb hr hlocks hP hD hS dX3_house_102 (by subst e_r_2 e_h_1; refine ⟨?_, ?_⟩ <;> (simp only [f_X3_house, if_neg c_10, if_neg t_16_0, if_neg t_16_1, if_neg t_16_2, if_neg t_16_3, if_pos t_16_4] <;> rfl))
    by_cases t_16_5 : b = 5
    · refine pr_tabIn (ki := 5) (tgt := 103) hx hb dX3_house_16 t_16_5 (by rfl) (by decide) (by decide) (by rfl) (by decide) ?_
      refine lv_aload_n hx hb dX3_house_103 rfl (lv_at hl 0 rfl) ?_
      refine va_get (D := (dC, dI)) (ci := 5) (C := RX3) (T := TX3) (N := 20) hx hb hts inX3_house_X3 hown hK.1 hP 18 pz_a18 rfl 6 (by decide) (hts (.fieldLink RX3 26 "PowderMillModel" "caught" "[I") (by decide +kernel)) (fun _ h9 => h9) rfl dX3_house_104 ?_
      refine lv_iload_n hx hb dX3_house_107 rfl (lv_at hl 1 rfl) ?_
      refine va_iald hx hb hK.1 hP 24 0 pz_a24 rfl i1 dX3_house_108 ?_
      exact pr_iret (h_1) hx hb hr hlocks hP hD hS dX3_house_109 (by subst e_r_2 e_h_1; refine ⟨?_, ?_⟩ <;> (simp only [f_X3_house, if_neg c_10, if_neg t_16_0, if_neg t_16_1, if_neg t_16_2, if_neg t_16_3, if_neg t_16_4, if_pos t_16_5] <;> rfl))
    by_cases t_16_6 : b = 6
    · refine pr_tabIn (ki := 6) (tgt := 110) hx hb dX3_house_16 t_16_6 (by rfl) (by decide) (by decide) (by rfl) (by decide) ?_
      refine lv_iconst (v := 0) hx hb dX3_house_110 (by decide) ?_
      exact pr_iret (h_1) hx hb hr hlocks hP hD hS dX3_house_111 (by subst e_r_2 e_h_1; refine ⟨?_, ?_⟩ <;> (simp only [f_X3_house, if_neg c_10, if_neg t_16_0, if_neg t_16_1, if_neg t_16_2, if_neg t_16_3, if_neg t_16_4, if_neg t_16_5, if_pos t_16_6] <;> rfl))
    refine lv_tableOut (tgt := 112) hx hb dX3_house_16 (by have q0 := lv_neT t_16_0 (by rfl : (0 : Int32).toInt = 0); have q1 := lv_neT t_16_1 (by rfl : (1 : Int32).toInt = 1); have q2 := lv_neT t_16_2 (by rfl : (2 : Int32).toInt = 2); have q3 := lv_neT t_16_3 (by rfl : (3 : Int32).toInt = 3); have q4 := lv_neT t_16_4 (by rfl : (4 : Int32).toInt = 4); have q5 := lv_neT t_16_5 (by rfl : (5 : Int32).toInt = 5); have q6 := lv_neT t_16_6 (by rfl : (6 : Int32).toInt = 6); omega) (by decide) ?_
    refine lv_iconst (v := (-1)) hx hb dX3_house_112 (by decide) ?_
    exact pr_iret (h_1) hx hb hr hlocks hP hD hS dX3_house_113 (by subst e_r_2 e_h_1; refine ⟨?_, ?_⟩ <;> (simp only [f_X3_house, if_neg c_10, if_neg t_16_0, if_neg t_16_1, if_neg t_16_2, if_neg t_16_3, if_neg t_16_4, if_neg t_16_5, if_neg t_16_6] <;> rfl))
  · refine lv_iconst (v := (-1)) hx hb dX3_house_13 (by decide) ?_
    exact pr_iret (h_1) hx hb hr hlocks hP hD hS dX3_house_14 (by subst e_r_2 e_h_1; refine ⟨?_, ?_⟩ <;> (simp only [f_X3_house, if_pos c_10] <;> rfl))
theorem inX3_row_X3 : ∀ w ∈ u_ws RX3 TX3 20, w ∈ wsX3_row := by decide +kernel
def f_X3_row (h : pz_M) (a : Int32) : Int32 × pz_M :=
  let r_1 := f_X3_isIn a 0 7
  if r_1 = 0 then
    let h_2 := pz_st h 18 0 1
    if (h_2 18 0) = 0 then
      (h_2 25 a.toNatClampNeg, h_2)
    else
      (0, h_2)
  else
    let h_3 := pz_st h 18 0 0
    if (h_3 18 0) = 0 then
      (h_3 25 a.toNatClampNeg, h_3)
    else
      (0, h_3)
set_option maxHeartbeats 4000000 in
set_option maxRecDepth 100000 in
theorem c_X3_row {l : Launch} {dC : Nat → ClassId} {dI : Nat → Nat → Nat} {cl : Nat → ClassId} {ad : Nat → Nat} {ph : Nat → Option Nat} {o : Nat → Int64} {g h : pz_M} (a : Int32) : pz_Mi l dC dI cl yX3_row wsX3_row { frames := 1, cells := 0, slots := 0, locals := 22 } [.ref (ad 18), .int a] (pz_wd ad cl ph o g h) (fun u : pz_M => pz_wd ad cl ph o g u) (fun r u => r = (f_X3_row h a).1 ∧ u = (f_X3_row h a).2) := by
  intro sz
  refine pr_ofW (Qc := pz_Qi dC dI _ _) (cb := cX3_row) (maxL := 2) (ret := (some .int)) (by decide) rfl (Nat.le_of_ble_eq_true rfl) ?_
  intro p e s m below meth c A ls hx hb hml hr hlocks hts hown hK hP hD hS hA hl
  have hl : lv_has ls 2 [(0, .ref (ad 18)), (1, .int a)] := hl
  refine lv_aload_n hx hb dX3_row_0 rfl (lv_at hl 0 rfl) ?_
  refine lv_iload_n hx hb dX3_row_1 rfl (lv_at hl 1 rfl) ?_
  refine lv_iconst (v := 0) hx hb dX3_row_2 (by decide) ?_
  refine lv_bipush (v := 7) hx hb dX3_row_3 (by decide) ?_
  refine pr_Si (As := [.int a, .int 0, .int 7]) (rest := [.ref (ad 18)]) ⟨hx, hb, hml, hown, hts⟩ (c_X3_isIn a 0 7) (va_cwS 3 hts gX3_row_X3_isIn rfl rfl rfl (by decide +kernel) ⟨Nat.le_of_ble_eq_true rfl, Nat.le_of_ble_eq_true rfl⟩) hK hP hD hS hA rfl hl.1 rfl (Nat.le_of_ble_eq_true rfl) ⟨Nat.le_of_ble_eq_true rfl, Nat.le_of_ble_eq_true rfl⟩ dX3_row_5 (fun r_1 _ H locs e_r_1 hP hD hS => ?_)
  refine lv_if_eq (tgt := 15) hx hb dX3_row_8 (by decide) (fun c_8 => ?_) (fun c_8 => ?_)
  · refine lv_iconst (v := 1) hx hb dX3_row_15 (by decide) ?_
    refine pr_putR (ci := 5) (C := RX3) (T := TX3) (N := 20) (ty := .int) (v := 1) hx hb hts inX3_row_X3 tyX3 tyX3_ok nmX3 hown hK.1 hP hD hS 18 (by omega) (by omega) pz_a18 rfl 0 (by decide) (hts (.fieldLink RX3 57 "PowderMillModel" "thrown" "I") (by decide +kernel)) (fun _ h9 => h9) rfl (by decide +kernel) rfl rfl (Nat.le_of_ble_eq_true rfl) rfl dX3_row_16 (fun h_2 H locs e_h_2 hP hD hS => ?_)
    refine lv_aload_n hx hb dX3_row_19 rfl (lv_at hl 0 rfl) ?_
    refine va_get (D := (dC, dI)) (ci := 5) (C := RX3) (T := TX3) (N := 20) hx hb hts inX3_row_X3 hown hK.1 hP 18 pz_a18 rfl 0 (by decide) (hts (.fieldLink RX3 57 "PowderMillModel" "thrown" "I") (by decide +kernel)) (fun _ h9 => h9) rfl dX3_row_20 ?_
    refine lv_if_ne (tgt := 35) hx hb dX3_row_23 (by decide) (fun c_23 => ?_) (fun c_23 => ?_)
    · refine lv_iconst (v := 0) hx hb dX3_row_35 (by decide) ?_
      exact pr_iret (h_2) hx hb hr hlocks hP hD hS dX3_row_36 (by subst e_h_2 e_r_1; refine ⟨?_, ?_⟩ <;> (simp only [f_X3_row, if_pos c_8, if_neg c_23] <;> rfl))
    · refine lv_aload_n hx hb dX3_row_26 rfl (lv_at hl 0 rfl) ?_
      refine va_get (D := (dC, dI)) (ci := 5) (C := RX3) (T := TX3) (N := 20) hx hb hts inX3_row_X3 hown hK.1 hP 18 pz_a18 rfl 7 (by decide) (hts (.fieldLink RX3 29 "PowderMillModel" "ledger" "[I") (by decide +kernel)) (fun _ h9 => h9) rfl dX3_row_27 ?_
      refine lv_iload_n hx hb dX3_row_30 rfl (lv_at hl 1 rfl) ?_
      refine va_iald hx hb hK.1 hP 25 0 pz_a25 rfl (absurd (show (1 : Int32) = 0 by have q := c_23; subst e_h_2; rw [pz_st_s, pk_us] at q; exact q) (by decide)) dX3_row_31 ?_
      refine lv_goto (tgt := 36) hx hb dX3_row_32 (by decide) ?_
      exact pr_iret (h_2) hx hb hr hlocks hP hD hS dX3_row_36 (by subst e_h_2 e_r_1; refine ⟨?_, ?_⟩ <;> (simp only [f_X3_row, if_pos c_8, if_pos c_23] <;> rfl))
  · refine lv_iconst (v := 0) hx hb dX3_row_11 (by decide) ?_
    refine lv_goto (tgt := 16) hx hb dX3_row_12 (by decide) ?_
    refine pr_putR (ci := 5) (C := RX3) (T := TX3) (N := 20) (ty := .int) (v := 0) hx hb hts inX3_row_X3 tyX3 tyX3_ok nmX3 hown hK.1 hP hD hS 18 (by omega) (by omega) pz_a18 rfl 0 (by decide) (hts (.fieldLink RX3 57 "PowderMillModel" "thrown" "I") (by decide +kernel)) (fun _ h9 => h9) rfl (by decide +kernel) rfl rfl (Nat.le_of_ble_eq_true rfl) rfl dX3_row_16 (fun h_3 H locs e_h_3 hP hD hS => ?_)
    refine lv_aload_n hx hb dX3_row_19 rfl (lv_at hl 0 rfl) ?_
    refine va_get (D := (dC, dI)) (ci := 5) (C := RX3) (T := TX3) (N := 20) hx hb hts inX3_row_X3 hown hK.1 hP 18 pz_a18 rfl 0 (by decide) (hts (.fieldLink RX3 57 "PowderMillModel" "thrown" "I") (by decide +kernel)) (fun _ h9 => h9) rfl dX3_row_20 ?_
    refine lv_if_ne (tgt := 35) hx hb dX3_row_23 (by decide) (fun c_23 => ?_) (fun c_23 => ?_)
    · refine lv_iconst (v := 0) hx hb dX3_row_35 (by decide) ?_
      exact pr_iret (h_3) hx hb hr hlocks hP hD hS dX3_row_36 (by subst e_h_3 e_r_1; refine ⟨?_, ?_⟩ <;> (simp only [f_X3_row, if_neg c_8, if_neg c_23] <;> rfl))
    · refine lv_aload_n hx hb dX3_row_26 rfl (lv_at hl 0 rfl) ?_
      refine va_get (D := (dC, dI)) (ci := 5) (C := RX3) (T := TX3) (N := 20) hx hb hts inX3_row_X3 hown hK.1 hP 18 pz_a18 rfl 7 (by decide) (hts (.fieldLink RX3 29 "PowderMillModel" "ledger" "[I") (by decide +kernel)) (fun _ h9 => h9) rfl dX3_row_27 ?_
      refine lv_iload_n hx hb dX3_row_30 rfl (lv_at hl 1 rfl) ?_
      refine va_iald hx hb hK.1 hP 25 0 pz_a25 rfl (pz_in7 (by rw [← e_r_1]; exact c_8)) dX3_row_31 ?_
      refine lv_goto (tgt := 36) hx hb dX3_row_32 (by decide) ?_
      exact pr_iret (h_3) hx hb hr hlocks hP hD hS dX3_row_36 (by subst e_h_3 e_r_1; refine ⟨?_, ?_⟩ <;> (simp only [f_X3_row, if_neg c_8, if_pos c_23] <;> rfl))
theorem inX3_count_X3 : ∀ w ∈ u_ws RX3 TX3 20, w ∈ wsX3_count := by decide +kernel
def f_mct (w : pz_M) : Nat → Int32 → Int32 → Int32
  | 0, v, _ => v
  | n + 1, v, i =>
    if 8 ≤ i then
      v
    else
      if (w 19 i.toNatClampNeg) ≤ 0 then
        f_mct w n (v + 0) (i + 1)
      else
        f_mct w n (v + 1) (i + 1)
def f_X3_count (h : pz_M) (a : Int32) : Int32 × pz_M :=
  let h_1 := pz_st h 18 0 0
  if a = 0 then
    (f_mct h_1 9 0 0, h_1)
  else
    if a = 1 then
      (h_1 18 8, h_1)
    else
      let r_2 := f_X3_isIn a 2 5
      if r_2 = 0 then
        let r_3 := f_X3_isIn a 11 16
        if r_3 = 0 then
          ((-1), h_1)
        else
          (h_1 31 a.toNatClampNeg, h_1)
      else
        (h_1 31 a.toNatClampNeg, h_1)
set_option maxHeartbeats 4000000 in
set_option maxRecDepth 100000 in
theorem c_X3_count {l : Launch} {dC : Nat → ClassId} {dI : Nat → Nat → Nat} {cl : Nat → ClassId} {ad : Nat → Nat} {ph : Nat → Option Nat} {o : Nat → Int64} {g h : pz_M} (a : Int32) : pz_Mi l dC dI cl yX3_count wsX3_count { frames := 1, cells := 0, slots := 0, locals := 22 } [.ref (ad 18), .int a] (pz_wd ad cl ph o g h) (fun u : pz_M => pz_wd ad cl ph o g u) (fun r u => r = (f_X3_count h a).1 ∧ u = (f_X3_count h a).2) := by
  intro sz
  refine pr_ofW (Qc := pz_Qi dC dI _ _) (cb := cX3_count) (maxL := 4) (ret := (some .int)) (by decide) rfl (Nat.le_of_ble_eq_true rfl) ?_
  intro p e s m below meth c A ls hx hb hml hr hlocks hts hown hK hP hD hS hA hl
  have hl : lv_has ls 4 [(0, .ref (ad 18)), (1, .int a)] := hl
  have key : ∀ (n : Nat) (w : pz_M) (v i : Int32) (j : Nat) (H : Heap) (locs : List Loc) (ls : Array Slot), j ≤ 8 → 8 - j < n → i = nI j → (f_mct w n v i, w) = f_X3_count h a → va_P (dC, dI) vwCl (pz_wd ad cl ph o g w) H → va_D A (pz_wd ad cl ph o g w) → va_S A s.heap H locs → lv_has ls 4 [(0, .ref (ad 18)), (1, .int a), (2, .int v), (3, .int i)] → W p l e { frames := 1, cells := 0, slots := 0, locals := 22 } s m [.ref (ad 18), .int a].toArray below meth c H locs 0 0 (MQ below (pz_Qi dC dI (fun r u => r = (f_X3_count h a).1 ∧ u = (f_X3_count h a).2) (fun u : pz_M => pz_wd ad cl ph o g u) A) [.ref (ad 18), .int a].toArray s 0 0 A) (F0 m 13 ls []) := by
    intro n
    induction n with
    | zero => intro w v i j H locs ls h1 h2; omega
    | succ n ih =>
      intro w v i j H locs ls hj hjn hi hF hP hD hS hl
      refine lv_iload_n hx hb dX3_count_13 rfl (lv_at hl 3 rfl) ?_
      refine lv_bipush (v := 8) hx hb dX3_count_14 (by decide) ?_
      refine lv_icmp_ge (tgt := 42) hx hb dX3_count_16 (by decide) (fun c_16 => ?_) (fun c_16 => ?_)
      · refine lv_iload_n hx hb dX3_count_42 rfl (lv_at hl 2 rfl) ?_
        exact pr_iret w hx hb hr hlocks hP hD hS dX3_count_43 ⟨by rw [← hF]; simp only [f_mct, if_pos c_16], by rw [← hF]⟩
      · have hj8 : j < 8 := by
          rcases Nat.lt_or_ge j 8 with q | q
          · exact q
          · exact absurd (by rw [hi]; exact nI_le q (by omega)) c_16
        have i1 : vp_in i 8 := by rw [hi]; exact vp_in_nI hj8 (by decide)
        refine lv_iload_n hx hb dX3_count_19 rfl (lv_at hl 2 rfl) ?_
        refine lv_aload_n hx hb dX3_count_20 rfl (lv_at hl 0 rfl) ?_
        refine va_get (D := (dC, dI)) (ci := 5) (C := RX3) (T := TX3) (N := 20) hx hb hts inX3_count_X3 hown hK.1 hP 18 pz_a18 rfl 1 (by decide) (hts (.fieldLink RX3 7 "PowderMillModel" "walls" "[I") (by decide +kernel)) (fun _ h9 => h9) rfl dX3_count_21 ?_
        refine lv_iload_n hx hb dX3_count_24 rfl (lv_at hl 3 rfl) ?_
        refine va_iald hx hb hK.1 hP 19 0 pz_a19 rfl i1 dX3_count_25 ?_
        refine lv_if_le (tgt := 33) hx hb dX3_count_26 (by decide) (fun c_26 => ?_) (fun c_26 => ?_)
        · refine lv_iconst (v := 0) hx hb dX3_count_33 (by decide) ?_
          refine lv_iadd hx hb dX3_count_34 ?_
          refine lv_istore_n (lv' := [(2, .int (v + 0)), (0, .ref (ad 18)), (1, .int a), (3, .int i)]) hx hb dX3_count_35 rfl hl (by decide) rfl (fun ls hl => ?_)
          refine lv_iinc (v := i + 1) (lv' := [(3, .int (i + 1)), (2, .int (v + 0)), (0, .ref (ad 18)), (1, .int a)]) hx hb dX3_count_36 hl (k := 3) rfl (by rfl) (by decide) rfl (fun ls hl => ?_)
          refine lv_goto (tgt := 13) hx hb dX3_count_39 (by decide) ?_
          exact ih w (v + 0) (i + 1) (j + 1) _ _ _ (by omega) (by omega) (by rw [hi]; exact nI_1 j) (by rw [← hF]; simp only [f_mct, if_neg c_16, if_pos c_26]) hP hD hS (lv_sub hl [2, 3, 1, 0] rfl)
        · refine lv_iconst (v := 1) hx hb dX3_count_29 (by decide) ?_
          refine lv_goto (tgt := 34) hx hb dX3_count_30 (by decide) ?_
          refine lv_iadd hx hb dX3_count_34 ?_
          refine lv_istore_n (lv' := [(2, .int (v + 1)), (0, .ref (ad 18)), (1, .int a), (3, .int i)]) hx hb dX3_count_35 rfl hl (by decide) rfl (fun ls hl => ?_)
          refine lv_iinc (v := i + 1) (lv' := [(3, .int (i + 1)), (2, .int (v + 1)), (0, .ref (ad 18)), (1, .int a)]) hx hb dX3_count_36 hl (k := 3) rfl (by rfl) (by decide) rfl (fun ls hl => ?_)
          refine lv_goto (tgt := 13) hx hb dX3_count_39 (by decide) ?_
          exact ih w (v + 1) (i + 1) (j + 1) _ _ _ (by omega) (by omega) (by rw [hi]; exact nI_1 j) (by rw [← hF]; simp only [f_mct, if_neg c_16, if_neg c_26]) hP hD hS (lv_sub hl [2, 3, 1, 0] rfl)
  refine lv_aload_n hx hb dX3_count_0 rfl (lv_at hl 0 rfl) ?_
  refine lv_iconst (v := 0) hx hb dX3_count_1 (by decide) ?_
  refine pr_putR (ci := 5) (C := RX3) (T := TX3) (N := 20) (ty := .int) (v := 0) hx hb hts inX3_count_X3 tyX3 tyX3_ok nmX3 hown hK.1 hP hD hS 18 (by omega) (by omega) pz_a18 rfl 0 (by decide) (hts (.fieldLink RX3 57 "PowderMillModel" "thrown" "I") (by decide +kernel)) (fun _ h9 => h9) rfl (by decide +kernel) rfl rfl (Nat.le_of_ble_eq_true rfl) rfl dX3_count_2 (fun h_1 H locs e_h_1 hP hD hS => ?_)
  refine lv_iload_n hx hb dX3_count_5 rfl (lv_at hl 1 rfl) ?_
  refine lv_if_ne (tgt := 44) hx hb dX3_count_6 (by decide) (fun c_6 => ?_) (fun c_6 => ?_)
  · refine lv_iload_n hx hb dX3_count_44 rfl (lv_at hl 1 rfl) ?_
    refine lv_iconst (v := 1) hx hb dX3_count_45 (by decide) ?_
    refine lv_icmp_ne (tgt := 56) hx hb dX3_count_46 (by decide) (fun c_46 => ?_) (fun c_46 => ?_)
    · refine lv_iload_n hx hb dX3_count_56 rfl (lv_at hl 1 rfl) ?_
      refine lv_iconst (v := 2) hx hb dX3_count_57 (by decide) ?_
      refine lv_iconst (v := 5) hx hb dX3_count_58 (by decide) ?_
      refine pr_Si (As := [.int a, .int 2, .int 5]) (rest := []) ⟨hx, hb, hml, hown, hts⟩ (c_X3_isIn a 2 5) (va_cwS 3 hts gX3_count_X3_isIn rfl rfl rfl (by decide +kernel) ⟨Nat.le_of_ble_eq_true rfl, Nat.le_of_ble_eq_true rfl⟩) hK hP hD hS hA rfl hl.1 rfl (Nat.le_of_ble_eq_true rfl) ⟨Nat.le_of_ble_eq_true rfl, Nat.le_of_ble_eq_true rfl⟩ dX3_count_59 (fun r_2 _ H locs e_r_2 hP hD hS => ?_)
      refine lv_if_ne (tgt := 76) hx hb dX3_count_62 (by decide) (fun c_62 => ?_) (fun c_62 => ?_)
      · refine lv_aload_n hx hb dX3_count_76 rfl (lv_at hl 0 rfl) ?_
        refine va_get (D := (dC, dI)) (ci := 5) (C := RX3) (T := TX3) (N := 20) hx hb hts inX3_count_X3 hown hK.1 hP 18 pz_a18 rfl 19 (by decide) (hts (.fieldLink RX3 51 "PowderMillModel" "counts" "[I") (by decide +kernel)) (fun _ h9 => h9) rfl dX3_count_77 ?_
        refine lv_iload_n hx hb dX3_count_80 rfl (lv_at hl 1 rfl) ?_
        refine va_iald hx hb hK.1 hP 31 0 pz_a31 rfl (pz_mcount (Or.inl (by rw [← e_r_2]; exact c_62))) dX3_count_81 ?_
        refine lv_goto (tgt := 86) hx hb dX3_count_82 (by decide) ?_
        exact pr_iret (h_1) hx hb hr hlocks hP hD hS dX3_count_86 (by subst e_r_2 e_h_1; refine ⟨?_, ?_⟩ <;> (simp only [f_X3_count, if_neg c_6, if_neg c_46, if_neg c_62] <;> rfl))
      · refine lv_iload_n hx hb dX3_count_65 rfl (lv_at hl 1 rfl) ?_
        refine lv_bipush (v := 11) hx hb dX3_count_66 (by decide) ?_
        refine lv_bipush (v := 16) hx hb dX3_count_68 (by decide) ?_
        refine pr_Si (As := [.int a, .int 11, .int 16]) (rest := []) ⟨hx, hb, hml, hown, hts⟩ (c_X3_isIn a 11 16) (va_cwS 3 hts gX3_count_X3_isIn rfl rfl rfl (by decide +kernel) ⟨Nat.le_of_ble_eq_true rfl, Nat.le_of_ble_eq_true rfl⟩) hK hP hD hS hA rfl hl.1 rfl (Nat.le_of_ble_eq_true rfl) ⟨Nat.le_of_ble_eq_true rfl, Nat.le_of_ble_eq_true rfl⟩ dX3_count_70 (fun r_3 _ H locs e_r_3 hP hD hS => ?_)
        refine lv_if_eq (tgt := 85) hx hb dX3_count_73 (by decide) (fun c_73 => ?_) (fun c_73 => ?_)
        · refine lv_iconst (v := (-1)) hx hb dX3_count_85 (by decide) ?_
          exact pr_iret (h_1) hx hb hr hlocks hP hD hS dX3_count_86 (by subst e_r_3 e_r_2 e_h_1; refine ⟨?_, ?_⟩ <;> (simp only [f_X3_count, if_neg c_6, if_neg c_46, if_pos c_62, if_pos c_73] <;> rfl))
        · refine lv_aload_n hx hb dX3_count_76 rfl (lv_at hl 0 rfl) ?_
          refine va_get (D := (dC, dI)) (ci := 5) (C := RX3) (T := TX3) (N := 20) hx hb hts inX3_count_X3 hown hK.1 hP 18 pz_a18 rfl 19 (by decide) (hts (.fieldLink RX3 51 "PowderMillModel" "counts" "[I") (by decide +kernel)) (fun _ h9 => h9) rfl dX3_count_77 ?_
          refine lv_iload_n hx hb dX3_count_80 rfl (lv_at hl 1 rfl) ?_
          refine va_iald hx hb hK.1 hP 31 0 pz_a31 rfl (pz_mcount (Or.inr (by rw [← e_r_3]; exact c_73))) dX3_count_81 ?_
          refine lv_goto (tgt := 86) hx hb dX3_count_82 (by decide) ?_
          exact pr_iret (h_1) hx hb hr hlocks hP hD hS dX3_count_86 (by subst e_r_3 e_r_2 e_h_1; refine ⟨?_, ?_⟩ <;> (simp only [f_X3_count, if_neg c_6, if_neg c_46, if_pos c_62, if_neg c_73] <;> rfl))
    · refine lv_aload_n hx hb dX3_count_49 rfl (lv_at hl 0 rfl) ?_
      refine va_get (D := (dC, dI)) (ci := 5) (C := RX3) (T := TX3) (N := 20) hx hb hts inX3_count_X3 hown hK.1 hP 18 pz_a18 rfl 8 (by decide) (hts (.fieldLink RX3 54 "PowderMillModel" "many" "I") (by decide +kernel)) (fun _ h9 => h9) rfl dX3_count_50 ?_
      refine lv_goto (tgt := 86) hx hb dX3_count_53 (by decide) ?_
      exact pr_iret (h_1) hx hb hr hlocks hP hD hS dX3_count_86 (by subst e_h_1; refine ⟨?_, ?_⟩ <;> (simp only [f_X3_count, if_neg c_6, if_pos c_46] <;> rfl))
  · refine lv_iconst (v := 0) hx hb dX3_count_9 (by decide) ?_
    refine lv_istore_n (lv' := [(2, .int 0), (0, .ref (ad 18)), (1, .int a)]) hx hb dX3_count_10 rfl hl (by decide) rfl (fun ls hl => ?_)
    refine lv_iconst (v := 0) hx hb dX3_count_11 (by decide) ?_
    refine lv_istore_n (lv' := [(3, .int 0), (2, .int 0), (0, .ref (ad 18)), (1, .int a)]) hx hb dX3_count_12 rfl hl (by decide) rfl (fun ls hl => ?_)
    exact key 9 h_1 0 0 0 _ _ _ (by omega) (by omega) rfl (by subst e_h_1; simp only [f_X3_count, if_pos c_6]) hP hD hS (lv_sub hl [2, 3, 1, 0] rfl)
end
section
/-! THE TIE: the class's memory and the reference's -/
def pz_ct (ph : Nat → Option Nat) (k : Nat) : Nat → Nat
  | 0 => 0
  | d + 1 => pz_ct ph k d + (if ph d = some k then 1 else 0)
def pz_R1 (g h : pz_M) : Prop :=
  (∃ n : Nat, n ≤ 30 ∧ g 0 5 = nI n ∧ h 18 8 = nI n ∧ ∀ j, j < n → vp_in (g 4 j) 9) ∧ (∀ j, j < 30 → g 4 j = h 26 j) ∧ (∀ j, j < 30 → g 5 j = h 27 j) ∧ (∀ j, j < 8 → g 3 j = h 25 j) ∧ (∀ j, 1 ≤ j → j ≤ 6 → g 6 j = h 31 (10 + j)) ∧ g 0 7 = h 18 17 ∧ g 0 8 = h 18 18 ∧ g 0 10 = h 31 2 ∧ g 0 11 = h 31 3 ∧ g 0 12 = h 31 4 ∧ g 0 13 = h 31 5
def pz_R2 (g h : pz_M) : Prop := ∀ k, k < 8 → (g (10 + k) 0 = 1 ∧ 0 < h 19 k ∧ ∀ j, 1 ≤ j → j ≤ 6 → g (10 + k) j = h (18 + j) k) ∨ (g (10 + k) 0 = 0 ∧ h 19 k = 0)
def pz_R3 (d : Nat) (g : pz_M) (ph : Nat → Option Nat) : Prop := d ≤ 6 ∧ g 2 3 = nI d ∧ (∀ i, i < d → ∃ k, k < 8 ∧ ph i = some k ∧ g (10 + k) 0 = 1) ∧ ∀ k, k < 8 → g (10 + k) 7 = nI (pz_ct ph k d)
def pz_R4 (d : Nat) (g : pz_M) (ph : Nat → Option Nat) (h : pz_M) : Prop := h 18 11 = nI d ∧ (∀ i, i < d → h 28 i = nI (pz_h ph i) ∧ g 9 i = h 30 i ∧ ∃ z, z < 30 ∧ g 8 i = nI z ∧ h 29 i = nI (z + 1)) ∧ ∃ q, q ≤ 40 ∧ g 0 6 = nI q ∧ h 18 15 = nI q
def pz_RR (d : Nat) (g : pz_M) (ph : Nat → Option Nat) (h : pz_M) : Prop := pz_R1 g h ∧ pz_R2 g h ∧ pz_R3 d g ph ∧ pz_R4 d g ph h
theorem pz_s {h : pz_M} {r k : Nat} {v : Int32} : pz_st h r k v r k = v := by rw [pz_st_s, pk_us]
theorem pz_RW {d : Nat} {g : pz_M} {ph : Nat → Option Nat} (h3 : pz_R3 d g ph) : pz_W g ph := by
  obtain ⟨a, b, c, -⟩ := h3
  exact ⟨d, a, b, fun i hi => by obtain ⟨k, h1, h2, -⟩ := c i hi; exact ⟨k, h1, h2⟩⟩
theorem pz_hk {d : Nat} {g : pz_M} {ph : Nat → Option Nat} (h3 : pz_R3 d g ph) {i : Nat} (hi : i < d) : pz_h ph i < 8 ∧ ph i = some (pz_h ph i) ∧ g (10 + pz_h ph i) 0 = 1 := by
  obtain ⟨a, b, c, -⟩ := h3
  obtain ⟨k, h1, h2, h4⟩ := c i hi
  have e : pz_h ph i = k := by unfold pz_h; rw [h2]; rfl
  rw [e]
  exact ⟨h1, h2, h4⟩
theorem pz_RV {d : Nat} {g h : pz_M} {ph : Nat → Option Nat} (h3 : pz_R3 d g ph) (h4 : pz_R4 d g ph h) : pz_V h := by
  refine ⟨d, h3.1, h4.1, fun i hi => ?_⟩
  rw [(h4.2.1 i hi).1]
  exact vp_in_nI (pz_hk h3 hi).1 (by decide)
theorem pz_hv {g h : pz_M} (h2 : pz_R2 g h) {k : Nat} (hk : k < 8) (hs : g (10 + k) 0 = 1) : 0 < h 19 k ∧ ∀ j, 1 ≤ j → j ≤ 6 → g (10 + k) j = h (18 + j) k := by
  rcases h2 k hk with ⟨-, a, b⟩ | ⟨a, -⟩
  · exact ⟨a, b⟩
  · rw [hs] at a; exact absurd a (by decide)
theorem pz_R2m {g h g' h' : pz_M} (h2 : pz_R2 g h) (a : ∀ k, k < 8 → ∀ i, i ≤ 6 → g' (10 + k) i = g (10 + k) i) (b : ∀ j, 1 ≤ j → j ≤ 6 → ∀ k, k < 8 → h' (18 + j) k = h (18 + j) k) : pz_R2 g' h' := by
  intro k hk
  have e : h' 19 k = h 19 k := b 1 (by omega) (by omega) k hk
  rw [a k hk 0 (by omega), e]
  rcases h2 k hk with ⟨q1, q2, q3⟩ | q
  · exact Or.inl ⟨q1, q2, fun j j1 j6 => by rw [a k hk j j6, b j j1 j6 k hk]; exact q3 j j1 j6⟩
  · exact Or.inr q
/-- one field of a house, on both sides -/
theorem pz_upH {d : Nat} {g h : pz_M} {ph : Nat → Option Nat} (hR : pz_RR d g ph h) {k j : Nat} (hk : k < 8) (hs : g (10 + k) 0 = 1) (hj : 2 ≤ j) (hj6 : j ≤ 6) (v : Int32) : pz_RR d (pz_st g (10 + k) j v) ph (pz_st h (18 + j) k v) := by
  obtain ⟨h1, h2, h3, h4⟩ := hR
  refine ⟨?_, ?_, ?_, ?_⟩
  · unfold pz_R1 at *
    simpa (disch := omega) only [pz_t2, pz_t] using h1
  · intro k' hk'
    by_cases e : k' = k
    · subst e
      obtain ⟨a, b⟩ := pz_hv h2 hk' hs
      refine Or.inl ⟨by simpa (disch := omega) only [pz_t2, pz_t] using hs, by simpa (disch := omega) only [pz_t2, pz_t] using a, fun i hi1 hi6 => ?_⟩
      by_cases e2 : i = j
      · subst e2; rw [pz_s, pz_s]
      · simpa (disch := omega) only [pz_t2, pz_t] using b i hi1 hi6
    · have q := h2 k' hk'
      rcases q with ⟨a, b, c⟩ | ⟨a, b⟩
      · refine Or.inl ⟨by simpa (disch := omega) only [pz_t2, pz_t] using a, by simpa (disch := omega) only [pz_t2, pz_t] using b, fun i hi1 hi6 => ?_⟩
        by_cases e2 : i = j
        · subst e2
          rw [pz_t2 (by omega), pz_t (by omega)]
          exact c i hi1 hi6
        · simpa (disch := omega) only [pz_t2, pz_t] using c i hi1 hi6
      · exact Or.inr ⟨by simpa (disch := omega) only [pz_t2, pz_t] using a, by simpa (disch := omega) only [pz_t2, pz_t] using b⟩
  · obtain ⟨a, b, c, f⟩ := h3
    refine ⟨a, by simpa (disch := omega) only [pz_t2, pz_t] using b, fun i hi => ?_, fun k' hk' => ?_⟩
    · obtain ⟨k', q1, q2, q3⟩ := c i hi
      refine ⟨k', q1, q2, ?_⟩
      by_cases e : k' = k
      · subst e; rw [pz_t (by omega)]; exact q3
      · rw [pz_t2 (by omega)]; exact q3
    · by_cases e : k' = k
      · subst e; rw [pz_t (by omega)]; exact f k' hk'
      · rw [pz_t2 (by omega)]; exact f k' hk'
  · unfold pz_R4 at *
    simpa (disch := omega) only [pz_t2, pz_t] using h4
/-- the next step's number, on both sides -/
theorem pz_upN {d : Nat} {g h : pz_M} {ph : Nat → Option Nat} (hR : pz_RR d g ph h) {q : Nat} (hq : q ≤ 40) : pz_RR d (pz_st g 0 6 (nI q)) ph (pz_st h 18 15 (nI q)) := by
  obtain ⟨h1, h2, h3, h4⟩ := hR
  refine ⟨?_, ?_, ?_, ?_⟩
  · unfold pz_R1 at *
    simpa (disch := omega) only [pz_t2, pz_t] using h1
  · exact pz_R2m h2 (fun k hk i hi => by rw [pz_t2 (by omega)]) (fun j hj1 hj6 k hk => by rw [pz_t2 (by omega)])
  · unfold pz_R3 at *
    simpa (disch := omega) only [pz_t2, pz_t] using h3
  · obtain ⟨a, b, -⟩ := h4
    refine ⟨by simpa (disch := omega) only [pz_t2, pz_t] using a, fun i hi => ?_, q, hq, pz_s, pz_s⟩
    simpa (disch := omega) only [pz_t2, pz_t] using b i hi
/-- how many were begun -/
theorem pz_upB {d : Nat} {g h : pz_M} {ph : Nat → Option Nat} (hR : pz_RR d g ph h) (v : Int32) : pz_RR d (pz_st g 0 7 v) ph (pz_st h 18 17 v) := by
  obtain ⟨h1, h2, h3, h4⟩ := hR
  refine ⟨?_, ?_, ?_, ?_⟩
  · obtain ⟨a1, a2, a3, a4, a5, a6, a7, a8⟩ := h1
    refine ⟨by simpa (disch := omega) only [pz_t2, pz_t] using a1, by simpa (disch := omega) only [pz_t2, pz_t] using a2, by simpa (disch := omega) only [pz_t2, pz_t] using a3, by simpa (disch := omega) only [pz_t2, pz_t] using a4, by simpa (disch := omega) only [pz_t2, pz_t] using a5, by rw [pz_s, pz_s], by simpa (disch := omega) only [pz_t2, pz_t] using a7, by simpa (disch := omega) only [pz_t2, pz_t] using a8⟩
  · exact pz_R2m h2 (fun k hk i hi => by rw [pz_t2 (by omega)]) (fun j hj1 hj6 k hk => by rw [pz_t2 (by omega)])
  · unfold pz_R3 at *
    simpa (disch := omega) only [pz_t2, pz_t] using h3
  · unfold pz_R4 at *
    simpa (disch := omega) only [pz_t2, pz_t] using h4
/-- a row of the ledger -/
theorem pz_upL {d : Nat} {g h : pz_M} {ph : Nat → Option Nat} (hR : pz_RR d g ph h) (i : Nat) (v : Int32) : pz_RR d (pz_st g 3 i v) ph (pz_st h 25 i v) := by
  obtain ⟨h1, h2, h3, h4⟩ := hR
  refine ⟨?_, ?_, ?_, ?_⟩
  · obtain ⟨a1, a2, a3, a4, a5⟩ := h1
    refine ⟨by simpa (disch := omega) only [pz_t2, pz_t] using a1, by simpa (disch := omega) only [pz_t2, pz_t] using a2, by simpa (disch := omega) only [pz_t2, pz_t] using a3, fun j hj => ?_, by simpa (disch := omega) only [pz_t2, pz_t] using a5⟩
    by_cases e : j = i
    · subst e; rw [pz_s, pz_s]
    · rw [pz_t e, pz_t e]; exact a4 j hj
  · exact pz_R2m h2 (fun k hk i hi => by rw [pz_t2 (by omega)]) (fun j hj1 hj6 k hk => by rw [pz_t2 (by omega)])
  · unfold pz_R3 at *
    simpa (disch := omega) only [pz_t2, pz_t] using h3
  · unfold pz_R4 at *
    simpa (disch := omega) only [pz_t2, pz_t] using h4
/-- how often one went back in this stay -/
theorem pz_upA {d : Nat} {g h : pz_M} {ph : Nat → Option Nat} (hR : pz_RR d g ph h) (i : Nat) (v : Int32) : pz_RR d (pz_st g 9 i v) ph (pz_st h 30 i v) := by
  obtain ⟨h1, h2, h3, h4⟩ := hR
  refine ⟨?_, ?_, ?_, ?_⟩
  · unfold pz_R1 at *
    simpa (disch := omega) only [pz_t2, pz_t] using h1
  · exact pz_R2m h2 (fun k hk i hi => by rw [pz_t2 (by omega)]) (fun j hj1 hj6 k hk => by rw [pz_t2 (by omega)])
  · unfold pz_R3 at *
    simpa (disch := omega) only [pz_t2, pz_t] using h3
  · obtain ⟨a, b, c⟩ := h4
    refine ⟨by simpa (disch := omega) only [pz_t2, pz_t] using a, fun j hj => ?_, by simpa (disch := omega) only [pz_t2, pz_t] using c⟩
    obtain ⟨b1, b2, b3⟩ := b j hj
    refine ⟨by simpa (disch := omega) only [pz_t2, pz_t] using b1, ?_, by simpa (disch := omega) only [pz_t2, pz_t] using b3⟩
    by_cases e : j = i
    · subst e; rw [pz_s, pz_s]
    · rw [pz_t e, pz_t e]; exact b2
theorem pz_here0 {g h : pz_M} {ph : Nat → Option Nat} (h3 : pz_R3 0 g ph) : f_X1_here g ph = none := by
  unfold f_X1_here
  rw [if_pos (by rw [h3.2.1]; decide +kernel)]
theorem pz_here1 {d : Nat} {g : pz_M} {ph : Nat → Option Nat} (h3 : pz_R3 (d + 1) g ph) : f_X1_here g ph = some (pz_h ph d) := by
  unfold f_X1_here
  have h6 := h3.1
  rw [h3.2.1, if_neg (show ¬ nI (d + 1) < 1 from nI_nlt (a := d + 1) (b := 1) (by omega) (by omega)), show nI (d + 1) - 1 = nI d from nI_pred d, nI_clamp (by omega)]
theorem pz_around0 {d : Nat} {g : pz_M} {ph : Nat → Option Nat} (h3 : pz_R3 d g ph) (hd : d < 2) : f_X1_around g ph = none := by
  unfold f_X1_around
  rw [if_pos (by rw [h3.2.1]; exact nI_lt (a := d) (b := 2) hd (by decide))]
theorem pz_around1 {d : Nat} {g : pz_M} {ph : Nat → Option Nat} (h3 : pz_R3 (d + 2) g ph) : f_X1_around g ph = some (pz_h ph d) := by
  unfold f_X1_around
  have h6 := h3.1
  rw [h3.2.1, if_neg (show ¬ nI (d + 2) < 2 from nI_nlt (a := d + 2) (b := 2) (by omega) (by omega)), show nI (d + 2) - 2 = nI d from pk_sub (a := d + 2) (b := 2) (by omega), nI_clamp (by omega)]
theorem pz_dne {d : Nat} (hd : d ≤ 6) : ¬ nI (d + 1) = 0 := nI_ne0 (by omega) (by omega)
/-- the reference's number of the house here -/
theorem pz_mhere {d : Nat} {g h : pz_M} {ph : Nat → Option Nat} (h3 : pz_R3 (d + 1) g ph) (h4 : pz_R4 (d + 1) g ph h) : h 28 (h 18 11 - 1).toNatClampNeg = nI (pz_h ph d) := by
  have h6 := h3.1
  rw [h4.1, show nI (d + 1) - 1 = nI d from nI_pred d, nI_clamp (by omega)]
  exact (h4.2.1 d (by omega)).1
theorem pz_maround {d : Nat} {g h : pz_M} {ph : Nat → Option Nat} (h3 : pz_R3 (d + 2) g ph) (h4 : pz_R4 (d + 2) g ph h) : h 28 (h 18 11 - 2).toNatClampNeg = nI (pz_h ph d) := by
  have h6 := h3.1
  rw [h4.1, show nI (d + 2) - 2 = nI d from pk_sub (a := d + 2) (b := 2) (by omega), nI_clamp (by omega)]
  exact (h4.2.1 d (by omega)).1
/-- what comes into a house -/
theorem pz_recv {d : Nat} {g h : pz_M} {ph : Nat → Option Nat} (hR : pz_RR d g ph h) {k : Nat} (hk : k < 8) (hs : g (10 + k) 0 = 1) (a : Int32) :
    (f_X0_receive g ph k a).1 = (f_X3_comes h (nI k) a).1 ∧ pz_RR d (f_X0_receive g ph k a).2.1 ph (f_X3_comes h (nI k) a).2 ∧ (f_X0_receive g ph k a).2.2 = ph ∧ ((f_X0_receive g ph k a).1 = 0 ∨ (f_X0_receive g ph k a).1 = 3) ∧ (f_X3_comes h (nI k) a).2 18 16 = h 18 16 := by
  have hc : (nI k).toNatClampNeg = k := nI_clamp (by omega)
  obtain ⟨hw0, hv⟩ := pz_hv hR.2.1 hk hs
  have e1 : g (10 + k) 1 = h 19 k := hv 1 (by omega) (by omega)
  have e2 : g (10 + k) 2 = h 20 k := hv 2 (by omega) (by omega)
  have e5 : g (10 + k) 5 = h 23 k := hv 5 (by omega) (by omega)
  have R1 := pz_upH hR hk hs (j := 2) (by omega) (by omega) (g (10 + k) 2 + a)
  have s1 : pz_st g (10 + k) 2 (g (10 + k) 2 + a) (10 + k) 0 = 1 := by rw [pz_t (by omega)]; exact hs
  have R2 := pz_upH R1 hk s1 (j := 2) (by omega) (by omega) 0
  have s2 : pz_st (pz_st g (10 + k) 2 (g (10 + k) 2 + a)) (10 + k) 2 0 (10 + k) 0 = 1 := by rw [pz_t (by omega)]; exact s1
  have R3 := pz_upH R2 hk s2 (j := 5) (by omega) (by omega) (pz_st (pz_st g (10 + k) 2 (g (10 + k) 2 + a)) (10 + k) 2 0 (10 + k) 5 + 1)
  unfold f_X0_receive f_X3_comes
  rw [hc]
  have c1 : (10 * pz_st g (10 + k) 2 (g (10 + k) 2 + a) (10 + k) 1 < pz_st g (10 + k) 2 (g (10 + k) 2 + a) (10 + k) 2) ↔ (10 * pz_st h 20 k (h 20 k + a) 19 k < pz_st h 20 k (h 20 k + a) 20 k) := by
    rw [pz_s, pz_s, pz_t (by omega), pz_t2 (by omega), e1, e2]
  by_cases hh : 10 * pz_st h 20 k (h 20 k + a) 19 k < pz_st h 20 k (h 20 k + a) 20 k
  · simp only [if_pos hh, if_pos (c1.mpr hh)]
    refine ⟨trivial, ?_, trivial, Or.inr trivial, ?_⟩
    · have q : pz_st (pz_st g (10 + k) 2 (g (10 + k) 2 + a)) (10 + k) 2 0 (10 + k) 5 + 1 = pz_st (pz_st h 20 k (h 20 k + a)) 20 k 0 23 k + 1 := by
        rw [pz_t (by omega), pz_t (by omega), pz_t2 (by omega), pz_t2 (by omega), e5]
      rw [← q, ← e2]
      exact R3
    · rw [pz_t2 (by omega), pz_t2 (by omega), pz_t2 (by omega)]
  · simp only [if_neg hh, if_neg (fun z => hh (c1.mp z))]
    refine ⟨trivial, ?_, trivial, Or.inl trivial, ?_⟩
    · rw [← e2]; exact R1
    · rw [pz_t2 (by omega)]
end
section
theorem pz_ct_up {ph : Nat → Option Nat} {k e : Nat} (x : Option Nat) : ∀ d, d ≤ e → pz_ct (va_up ph e x) k d = pz_ct ph k d := by
  intro d
  induction d with
  | zero => intro _; rfl
  | succ d ih =>
    intro hd
    unfold pz_ct
    rw [ih (by omega), va_up_ne ph x (by omega)]
theorem pz_R1m {g h g' h' : pz_M} (h1 : pz_R1 g h) (a : ∀ r j, r < 7 → r ≠ 2 → (r = 0 → j ≠ 6) → g' r j = g r j) (b : ∀ r j, (r = 18 ∧ (j = 8 ∨ j = 17 ∨ j = 18)) ∨ (25 ≤ r ∧ r ≤ 27) ∨ r = 31 → h' r j = h r j) : pz_R1 g' h' := by
  obtain ⟨⟨n, n1, n2, n3, n4⟩, a2, a3, a4, a5, a6, a7, a8, a9, a10, a11⟩ := h1
  refine ⟨⟨n, n1, ?_, ?_, fun j hj => ?_⟩, fun j hj => ?_, fun j hj => ?_, fun j hj => ?_, fun j hj hj2 => ?_, ?_, ?_, ?_, ?_, ?_, ?_⟩
  · rw [a 0 5 (by omega) (by omega) (by omega)]; exact n2
  · rw [b 18 8 (by omega)]; exact n3
  · rw [a 4 j (by omega) (by omega) (by omega)]; exact n4 j hj
  · rw [a 4 j (by omega) (by omega) (by omega), b 26 j (by omega)]; exact a2 j hj
  · rw [a 5 j (by omega) (by omega) (by omega), b 27 j (by omega)]; exact a3 j hj
  · rw [a 3 j (by omega) (by omega) (by omega), b 25 j (by omega)]; exact a4 j hj
  · rw [a 6 j (by omega) (by omega) (by omega), b 31 (10 + j) (by omega)]; exact a5 j hj hj2
  · rw [a 0 7 (by omega) (by omega) (by omega), b 18 17 (by omega)]; exact a6
  · rw [a 0 8 (by omega) (by omega) (by omega), b 18 18 (by omega)]; exact a7
  · rw [a 0 10 (by omega) (by omega) (by omega), b 31 2 (by omega)]; exact a8
  · rw [a 0 11 (by omega) (by omega) (by omega), b 31 3 (by omega)]; exact a9
  · rw [a 0 12 (by omega) (by omega) (by omega), b 31 4 (by omega)]; exact a10
  · rw [a 0 13 (by omega) (by omega) (by omega), b 31 5 (by omega)]; exact a11
/-- into a house, on both sides -/
theorem pz_enterR {d : Nat} {g h : pz_M} {ph : Nat → Option Nat} (hR : pz_RR d g ph h) (hd : d < 6) {k z : Nat} (hk : k < 8) (hz : z < 30) (hs : g (10 + k) 0 = 1) (hn : h 18 15 = nI (z + 1)) :
    pz_RR (d + 1) (f_X1_enter g ph k (nI z)).1 (f_X1_enter g ph k (nI z)).2 (f_X3_goIn h (nI k)).2 ∧ (f_X3_goIn h (nI k)).1 = 0 ∧ (f_X3_goIn h (nI k)).2 18 16 = h 18 16 ∧ (f_X1_enter g ph k (nI z)).1 0 7 = g 0 7 := by
  obtain ⟨h1, h2, h3, h4⟩ := hR
  have hc : (nI k).toNatClampNeg = k := nI_clamp (by omega)
  have hdc : (nI d).toNatClampNeg = d := nI_clamp (by omega)
  obtain ⟨hw0, hv⟩ := pz_hv h2 hk hs
  have hw1 : ¬ h 19 k = 0 := fun q => by rw [q] at hw0; exact absurd hw0 (by decide)
  have h6 : ¬ h 18 11 = 6 := by
    rw [h4.1]
    intro q
    have := (nI_eq (a := d) (b := 6) (by omega) (by decide)).mp q
    omega
  have e4 : g (10 + k) 4 = h 22 k := hv 4 (by omega) (by omega)
  have E1 : f_X1_enter g ph k (nI z) = (pz_st (pz_st (pz_st (pz_st (pz_st g 8 d (nI z)) 9 d 0) 2 3 (nI (d + 1))) (10 + k) 4 (g (10 + k) 4 + 1)) (10 + k) 7 (g (10 + k) 7 + 1), va_up ph d (some k)) := by
    unfold f_X1_enter
    simp (disch := omega) only [pz_t2, pz_t, h3.2.1, hdc, nI_1]
  have E2 : f_X3_goIn h (nI k) = (0, pz_st (pz_st (pz_st (pz_st (pz_st h 22 k (h 22 k + 1)) 28 d (nI k)) 29 d (nI (z + 1))) 30 d 0) 18 11 (nI (d + 1))) := by
    unfold f_X3_goIn
    rw [hc, if_neg h6, if_neg hw1]
    simp (disch := omega) only [pz_t2, pz_t, h4.1, hdc, hn, nI_1]
  rw [E1, E2]
  dsimp only
  refine ⟨⟨?_, ?_, ?_, ?_⟩, rfl, ?_, ?_⟩
  · exact pz_R1m h1 (fun r j hr hr2 hr3 => by simp (disch := omega) only [pz_t2]) (fun r j hr => by
      by_cases e : r = 18
      · subst e; simp (disch := omega) only [pz_t2, pz_t]
      · simp (disch := omega) only [pz_t2])
  · intro k' hk'
    by_cases e : k' = k
    · subst e
      refine Or.inl ⟨by simp (disch := omega) only [pz_t2, pz_t]; exact hs, by simp (disch := omega) only [pz_t2, pz_t]; exact hw0, fun j j1 j6 => ?_⟩
      by_cases e2 : j = 4
      · subst e2
        simp (disch := omega) only [pz_t2, pz_t, pz_s]
        rw [e4]
      · simp (disch := omega) only [pz_t2, pz_t]
        exact hv j j1 j6
    · rcases h2 k' hk' with ⟨q1, q2, q3⟩ | ⟨q1, q2⟩
      · refine Or.inl ⟨by simp (disch := omega) only [pz_t2, pz_t]; exact q1, by simp (disch := omega) only [pz_t2, pz_t]; exact q2, fun j j1 j6 => ?_⟩
        by_cases e2 : j = 4
        · subst e2
          simp (disch := omega) only [pz_t2, pz_t]
          exact q3 4 j1 j6
        · simp (disch := omega) only [pz_t2, pz_t]
          exact q3 j j1 j6
      · exact Or.inr ⟨by simp (disch := omega) only [pz_t2, pz_t]; exact q1, by simp (disch := omega) only [pz_t2, pz_t]; exact q2⟩
  · obtain ⟨b1, b2, b3, b4⟩ := h3
    refine ⟨by omega, by simp (disch := omega) only [pz_t2, pz_t, pz_s], fun i hi => ?_, fun k' hk' => ?_⟩
    · by_cases e : i = d
      · subst e
        exact ⟨k, hk, va_up_self _ _ _, by simp (disch := omega) only [pz_t2, pz_t]; exact hs⟩
      · obtain ⟨k', q1, q2, q3⟩ := b3 i (by omega)
        refine ⟨k', q1, by rw [va_up_ne ph _ e]; exact q2, ?_⟩
        by_cases e2 : k' = k
        · subst e2; simp (disch := omega) only [pz_t2, pz_t]; exact hs
        · simp (disch := omega) only [pz_t2, pz_t]; exact q3
    · show _ = nI (pz_ct (va_up ph d (some k)) k' d + (if va_up ph d (some k) d = some k' then 1 else 0))
      rw [pz_ct_up _ d (Nat.le_refl d), va_up_self]
      by_cases e2 : k' = k
      · subst e2
        rw [pz_s, b4 k' hk', if_pos rfl, nI_1]
      · rw [if_neg (fun q => e2 (Option.some.inj q).symm), Nat.add_zero]
        simp (disch := omega) only [pz_t2, pz_t]
        exact b4 k' hk'
  · obtain ⟨b1, b2, q, b3, b4, b5⟩ := h4
    refine ⟨pz_s, fun i hi => ?_, q, b3, by simp (disch := omega) only [pz_t2, pz_t]; exact b4, by simp (disch := omega) only [pz_t2, pz_t]; exact b5⟩
    by_cases e : i = d
    · subst e
      refine ⟨?_, by simp (disch := omega) only [pz_t2, pz_t, pz_s], z, hz, by simp (disch := omega) only [pz_t2, pz_t, pz_s], by simp (disch := omega) only [pz_t2, pz_t, pz_s]⟩
      simp (disch := omega) only [pz_t2, pz_t, pz_s]
      unfold pz_h
      rw [va_up_self]; rfl
    · obtain ⟨c1, c2, y, c3, c4, c5⟩ := b2 i (by omega)
      refine ⟨?_, by simp (disch := omega) only [pz_t2, pz_t]; exact c2, y, c3, by simp (disch := omega) only [pz_t2, pz_t]; exact c4, by simp (disch := omega) only [pz_t2, pz_t]; exact c5⟩
      simp (disch := omega) only [pz_t2, pz_t]
      rw [c1]
      unfold pz_h
      rw [va_up_ne ph _ e]
  · simp (disch := omega) only [pz_t2, pz_t]
  · simp (disch := omega) only [pz_t2, pz_t]
/-- out of stays, down to e of them -/
theorem pz_ldtR {ph : Nat → Option Nat} {e : Nat} : ∀ (n d : Nat) (g : pz_M), pz_R3 d g ph → d < n → e ≤ d → pz_R3 e (f_ldt ph (nI e) n g) ph ∧ ∀ r j, ¬ (r = 2 ∧ j = 3) → ¬ (10 ≤ r ∧ j = 7) → f_ldt ph (nI e) n g r j = g r j := by
  intro n
  induction n with
  | zero => intro d g _ h _; omega
  | succ n ih =>
    intro d g h3 hn he
    have h6 := h3.1
    unfold f_ldt
    by_cases hde : d ≤ e
    · have : d = e := by omega
      subst this
      rw [if_pos (by rw [h3.2.1]; exact nI_le (Nat.le_refl d) (by omega))]
      exact ⟨h3, fun r j _ _ => rfl⟩
    · obtain ⟨d', rfl⟩ : ∃ d', d = d' + 1 := ⟨d - 1, by omega⟩
      rw [if_neg (by rw [h3.2.1]; exact nI_ge (by omega) (by omega)), if_neg (by rw [h3.2.1]; exact nI_nle (by omega) (by omega))]
      obtain ⟨k1, k2, k3⟩ := pz_hk h3 (show d' < d' + 1 by omega)
      have ek : pz_h ph (g 2 3 - 1).toNatClampNeg = pz_h ph d' := by rw [h3.2.1, show nI (d' + 1) - 1 = nI d' from nI_pred d', nI_clamp (by omega)]
      simp only [ek]
      generalize pz_h ph d' = k at k1 k2 k3 ⊢
      have h3' : pz_R3 d' (pz_st (pz_st g (10 + k) 7 (g (10 + k) 7 - 1)) 2 3 (pz_st g (10 + k) 7 (g (10 + k) 7 - 1) 2 3 - 1)) ph := by
        obtain ⟨b1, b2, b3, b4⟩ := h3
        refine ⟨by omega, ?_, fun i hi => ?_, fun k' hk' => ?_⟩
        · rw [pz_s, pz_t2 (by omega), b2]; exact nI_pred d'
        · obtain ⟨k', q1, q2, q3⟩ := b3 i (by omega)
          refine ⟨k', q1, q2, ?_⟩
          rw [pz_t2 (by omega)]
          by_cases e2 : k' = k
          · subst e2; rw [pz_t (by omega)]; exact q3
          · rw [pz_t2 (by omega)]; exact q3
        · rw [pz_t2 (by omega)]
          have q := b4 k' hk'
          unfold pz_ct at q
          rw [k2] at q
          by_cases e2 : k' = k
          · subst e2
            rw [pz_s, q, if_pos rfl]; exact nI_pred _
          · rw [pz_t2 (by omega), q, if_neg (fun z => e2 (Option.some.inj z).symm), Nat.add_zero]
      obtain ⟨r1, r2⟩ := ih d' _ h3' (by omega) (by omega)
      refine ⟨r1, fun r j hj1 hj2 => ?_⟩
      rw [r2 r j hj1 hj2]
      by_cases e2 : r = 2
      · subst e2
        rw [pz_t (fun q => hj1 ⟨rfl, q⟩), pz_t2 (by omega)]
      · rw [pz_t2 e2]
        by_cases e3 : r = 10 + k
        · subst e3
          rw [pz_t (fun q => hj2 ⟨by omega, q⟩)]
        · rw [pz_t2 e3]
theorem pz_leaveR {d e : Nat} {g h : pz_M} {ph : Nat → Option Nat} (hR : pz_RR d g ph h) (he : e ≤ d) : pz_RR e (f_ldt ph (nI e) 7 g) ph (pz_st h 18 11 (nI e)) ∧ f_ldt ph (nI e) 7 g 0 7 = g 0 7 := by
  obtain ⟨h1, h2, h3, h4⟩ := hR
  have h6 := h3.1
  obtain ⟨r1, r2⟩ := pz_ldtR 7 d g h3 (by omega) he
  refine ⟨⟨?_, ?_, r1, ?_⟩, r2 0 7 (by omega) (by omega)⟩
  · exact pz_R1m h1 (fun r j hr hr2 hr3 => r2 r j (by omega) (by omega)) (fun r j hr => by
      by_cases q : r = 18
      · subst q; rw [pz_t (by omega)]
      · rw [pz_t2 q])
  · exact pz_R2m h2 (fun k hk i hi => r2 _ _ (by omega) (by omega)) (fun j j1 j6 k hk => by rw [pz_t2 (by omega)])
  · obtain ⟨b1, b2, q, b3, b4, b5⟩ := h4
    refine ⟨pz_s, fun i hi => ?_, q, b3, by rw [r2 0 6 (by omega) (by omega)]; exact b4, by rw [pz_t (by omega)]; exact b5⟩
    obtain ⟨c1, c2, y, c3, c4, c5⟩ := b2 i (by omega)
    rw [r2 9 i (by omega) (by omega), r2 8 i (by omega) (by omega), pz_t2 (by omega), pz_t2 (by omega), pz_t2 (by omega)]
    exact ⟨c1, c2, y, c3, c4, c5⟩
theorem pz_ext {h h' : pz_M} (e : ∀ r j, h' r j = h r j) : h' = h := by funext r j; exact e r j
end
section
/-- who catches, on both sides -/
theorem pz_caughtR {d : Nat} {g h : pz_M} {ph : Nat → Option Nat} (hR : pz_RR d g ph h) : ∀ (j n n' : Nat) (h' : pz_M), j ≤ d → j < n → j < n' → h' 18 11 = nI j → (∀ r i, ¬ (r = 18 ∧ i = 11) → h' r i = h r i) →
    (f_lbr g ph n (nI j - 1)).1 = (f_mic n' h').1 ∧ (((f_lbr g ph n (nI j - 1)).1 = 0 ∧ (f_lbr g ph n (nI j - 1)).2 = (g, ph) ∧ ∀ r i, ¬ (r = 18 ∧ i = 11) → (f_mic n' h').2 r i = h r i) ∨
      ((f_lbr g ph n (nI j - 1)).1 = 1 ∧ (∃ d', pz_RR d' (f_lbr g ph n (nI j - 1)).2.1 (f_lbr g ph n (nI j - 1)).2.2 (f_mic n' h').2) ∧ (f_lbr g ph n (nI j - 1)).2.1 0 7 = g 0 7 ∧ (f_mic n' h').2 18 16 = h 18 16)) := by
  intro j
  induction j with
  | zero =>
    intro n n' h' _ hn hn' hd he
    obtain ⟨m, rfl⟩ : ∃ m, n = m + 1 := ⟨n - 1, by omega⟩
    obtain ⟨m', rfl⟩ : ∃ m, n' = m + 1 := ⟨n' - 1, by omega⟩
    unfold f_lbr f_mic
    rw [if_pos (show nI 0 - 1 < 0 by decide +kernel), if_pos (show h' 18 11 ≤ 0 by rw [hd]; decide +kernel)]
    exact ⟨rfl, Or.inl ⟨rfl, rfl, he⟩⟩
  | succ j ih =>
    intro n n' h' hj hn hn' hd he
    have h6 := hR.2.2.1.1
    obtain ⟨m, rfl⟩ : ∃ m, n = m + 1 := ⟨n - 1, by omega⟩
    obtain ⟨m', rfl⟩ : ∃ m, n' = m + 1 := ⟨n' - 1, by omega⟩
    have ej : nI (j + 1) - 1 = nI j := nI_pred j
    have cj : (nI j).toNatClampNeg = j := nI_clamp (by omega)
    obtain ⟨k1, k2, k3⟩ := pz_hk hR.2.2.1 (show j < d by omega)
    have ck : (nI (pz_h ph j)).toNatClampNeg = pz_h ph j := nI_clamp (by omega)
    have e28 : h 28 j = nI (pz_h ph j) := (hR.2.2.2.2.1 j (by omega)).1
    have e3 : g (10 + pz_h ph j) 3 = h 21 (pz_h ph j) := (pz_hv hR.2.1 k1 k3).2 3 (by omega) (by omega)
    have e6 : g (10 + pz_h ph j) 6 = h 24 (pz_h ph j) := (pz_hv hR.2.1 k1 k3).2 6 (by omega) (by omega)
    unfold f_lbr f_mic
    rw [ej, if_neg (nI_pos (by omega)), if_neg (show ¬ h' 18 11 ≤ 0 by rw [hd]; exact nI_nle (by omega) (by omega))]
    have d1 : pz_st h' 18 11 (h' 18 11 - 1) 18 11 = nI j := by rw [pz_s, hd, ej]
    have d2 : pz_st h' 18 11 (h' 18 11 - 1) 28 j = nI (pz_h ph j) := by rw [pz_t2 (by omega), he 28 j (by omega), e28]
    have d3 : ∀ r i, ¬ (r = 18 ∧ i = 11) → pz_st h' 18 11 (h' 18 11 - 1) r i = h r i := by
      intro r i hri
      by_cases q : r = 18
      · subst q; rw [pz_t (fun z => hri ⟨rfl, z⟩)]; exact he 18 i hri
      · rw [pz_t2 q]; exact he r i hri
    simp only [cj, d1, d2, ck]
    rw [d3 21 _ (by omega), ← e3]
    by_cases hc : g (10 + pz_h ph j) 3 = 0
    · rw [if_pos hc, if_pos hc, show nI j + (-1) = nI j - 1 from by rw [Int32.sub_eq_add_neg]]
      exact ih m m' _ (by omega) (by omega) (by omega) d1 d3
    · rw [if_neg hc, if_neg hc]
      dsimp only
      refine ⟨rfl, Or.inr ⟨rfl, ⟨j, ?_⟩, ?_, ?_⟩⟩
      · have R1 := pz_upH hR k1 k3 (j := 6) (by omega) (by omega) (g (10 + pz_h ph j) 6 + 1)
        have R2 := (pz_leaveR R1 (e := j) (by omega)).1
        have q : pz_st (pz_st h' 18 11 (h' 18 11 - 1)) 24 (pz_h ph j) (pz_st h' 18 11 (h' 18 11 - 1) 24 (pz_h ph j) + 1) = pz_st (pz_st h (18 + 6) (pz_h ph j) (g (10 + pz_h ph j) 6 + 1)) 18 11 (nI j) := by
          apply pz_ext
          intro r i
          rw [d3 24 _ (by omega), e6]
          by_cases q1 : r = 24
          · subst q1
            by_cases q2 : i = pz_h ph j
            · subst q2; rw [pz_s, pz_t2 (by omega), pz_s]
            · rw [pz_t q2, pz_t2 (by omega), pz_t2 (by omega), pz_t q2]; exact he 24 i (by omega)
          · rw [pz_t2 q1]
            by_cases q2 : r = 18
            · subst q2
              by_cases q3 : i = 11
              · subst q3; rw [d1, pz_s]
              · rw [pz_t q3, pz_t q3, pz_t2 (by omega)]; exact he 18 i (by omega)
            · rw [pz_t2 q2, pz_t2 q2, pz_t2 (by omega)]; exact he r i (by omega)
        rw [q]
        exact R2
      · have R1 := pz_upH hR k1 k3 (j := 6) (by omega) (by omega) (g (10 + pz_h ph j) 6 + 1)
        have q := (pz_leaveR R1 (e := j) (by omega)).2
        show f_ldt ph (nI j) 7 _ 0 7 = _
        rw [q, pz_t2 (by omega)]
      · rw [pz_t2 (by omega)]; exact d3 18 16 (by omega)
def pz_SS (g h : pz_M) (X : Int32 × pz_M × (Nat → Option Nat)) (Y : Int32 × pz_M) : Prop := X.1 = Y.1 ∧ (∃ d, pz_RR d X.2.1 X.2.2 Y.2) ∧ vp_in X.1 7 ∧ Y.2 18 16 = h 18 16 ∧ X.2.1 0 7 = g 0 7
theorem pz_SS0 {d : Nat} {g h : pz_M} {ph : Nat → Option Nat} (hR : pz_RR d g ph h) {v : Int32} (hv : vp_in v 7) : pz_SS g h (v, g, ph) (v, h) := ⟨rfl, ⟨d, hR⟩, hv, rfl, rfl⟩
theorem pz_recv07 {g : pz_M} {ph : Nat → Option Nat} {k : Nat} {a : Int32} : (f_X0_receive g ph k a).2.1 0 7 = g 0 7 := by
  unfold f_X0_receive
  by_cases c1 : 10 * pz_st g (10 + k) 2 (g (10 + k) 2 + a) (10 + k) 1 < pz_st g (10 + k) 2 (g (10 + k) 2 + a) (10 + k) 2
  · simp (disch := omega) only [if_pos c1, pz_t2]
  · simp (disch := omega) only [if_neg c1, pz_t2]
theorem pz_recvS {d : Nat} {g h : pz_M} {ph : Nat → Option Nat} (hR : pz_RR d g ph h) {k : Nat} (hk : k < 8) (hs : g (10 + k) 0 = 1) (a : Int32) : pz_SS g h (f_X0_receive g ph k a) (f_X3_comes h (nI k) a) := by
  obtain ⟨q1, q2, q3, q4, q5⟩ := pz_recv hR hk hs a
  refine ⟨q1, ⟨d, by rw [q3]; exact q2⟩, ?_, q5, pz_recv07⟩
  rcases q4 with q | q <;> rw [q]
  · exact vp_in_nI (n := 0) (by decide) (by decide)
  · exact vp_in_nI (n := 3) (by decide) (by decide)
theorem ps_a0 {d : Nat} {g h : pz_M} {ph : Nat → Option Nat} (hR : pz_RR d g ph h) {k z : Nat} (hk : k < 8) (hz : z < 30) (hn : h 18 15 = nI (z + 1)) : pz_SS g h (f_X2_goIn g ph (nI k) (nI z)) (f_X3_goIn h (nI k)) := by
  have hc : (nI k).toNatClampNeg = k := nI_clamp (by omega)
  have h6 := hR.2.2.1.1
  have h23 := hR.2.2.1.2.1
  by_cases hd : d < 6
  · have hf : f_X1_isFull g ph = 0 := by
      unfold f_X1_isFull
      rw [h23, if_pos (show nI d < 6 from nI_lt (b := 6) hd (by decide))]
    rcases hR.2.1 k hk with ⟨s1, s2, s3⟩ | ⟨s1, s2⟩
    · obtain ⟨r1, r2, r3, r4⟩ := pz_enterR hR hd hk hz s1 hn
      have E : f_X2_goIn g ph (nI k) (nI z) = (0, (f_X1_enter g ph k (nI z)).1, (f_X1_enter g ph k (nI z)).2) := by
        unfold f_X2_goIn
        simp only [hf, hc]
        rw [if_pos trivial, if_neg (by rw [s1]; decide)]
      rw [E]
      exact ⟨r2.symm, ⟨d + 1, r1⟩, vp_in_nI (n := 0) (by decide) (by decide), r3, r4⟩
    · have E : f_X2_goIn g ph (nI k) (nI z) = (1, g, ph) := by
        unfold f_X2_goIn
        simp only [hf, hc]
        rw [if_pos trivial, if_pos s1]
      have E2 : f_X3_goIn h (nI k) = (1, h) := by
        unfold f_X3_goIn
        rw [hc, if_neg (by rw [hR.2.2.2.1]; intro q; have := (nI_eq (a := d) (b := 6) (by omega) (by decide)).mp q; omega), if_pos s2]
      rw [E, E2]
      exact pz_SS0 hR (vp_in_nI (n := 1) (by decide) (by decide))
  · have : d = 6 := by omega
    subst this
    have hf : f_X1_isFull g ph = 1 := by
      unfold f_X1_isFull
      rw [h23, if_neg (by decide +kernel)]
    have E : f_X2_goIn g ph (nI k) (nI z) = (2, g, ph) := by
      unfold f_X2_goIn
      simp only [hf]
      rw [if_neg (by decide)]
    have E2 : f_X3_goIn h (nI k) = (2, h) := by
      unfold f_X3_goIn
      rw [if_pos (by rw [hR.2.2.2.1]; rfl)]
    rw [E, E2]
    exact pz_SS0 hR (vp_in_nI (n := 2) (by decide) (by decide))
theorem ps_a1 {d : Nat} {g h : pz_M} {ph : Nat → Option Nat} (hR : pz_RR d g ph h) : pz_SS g h (0, (f_X1_leaveHere g ph).1, (f_X1_leaveHere g ph).2) (if h 18 11 ≤ 0 then (0, pz_st h 18 11 (h 18 11 - 0)) else (0, pz_st h 18 11 (h 18 11 - 1))) := by
  have h6 := hR.2.2.1.1
  have h23 := hR.2.2.1.2.1
  have h11 := hR.2.2.2.1
  have E : ((0 : Int32), (f_X1_leaveHere g ph).1, (f_X1_leaveHere g ph).2) = (0, f_ldt ph (g 2 3 - 1) 7 g, ph) := rfl
  rw [E, h23, h11]
  cases d with
  | zero =>
    rw [if_pos (by decide +kernel)]
    have E1 : f_ldt ph (nI 0 - 1) 7 g = g := by
      unfold f_ldt
      rw [h23, if_neg (by decide +kernel), if_pos (by decide +kernel)]
    have E2 : pz_st h 18 11 (nI 0 - 0) = h := by
      apply pz_ext
      intro r i
      by_cases q : r = 18
      · subst q
        by_cases q2 : i = 11
        · subst q2; rw [pz_s, h11]; decide +kernel
        · rw [pz_t q2]
      · rw [pz_t2 q]
    rw [E1, E2]
    exact pz_SS0 hR (vp_in_nI (n := 0) (by decide) (by decide))
  | succ d =>
    rw [if_neg (nI_nle (by omega) (by omega)), show nI (d + 1) - 1 = nI d from nI_pred d]
    obtain ⟨r1, r2⟩ := pz_leaveR hR (e := d) (by omega)
    exact ⟨rfl, ⟨d, r1⟩, vp_in_nI (n := 0) (by decide) (by decide), by show pz_st h 18 11 (nI d) 18 16 = _; rw [pz_t (by omega)], r2⟩
theorem ps_a2 {d : Nat} {g h : pz_M} {ph : Nat → Option Nat} (hR : pz_RR d g ph h) (a : Int32) : pz_SS g h (f_X2_grind g ph a) (if h 18 11 = 0 then (0, h) else f_X3_comes h (h 28 (h 18 11 - 1).toNatClampNeg) a) := by
  have h6 := hR.2.2.1.1
  have h11 := hR.2.2.2.1
  cases d with
  | zero =>
    rw [if_pos (by rw [h11]; rfl)]
    unfold f_X2_grind
    rw [pz_here0 (h := h) hR.2.2.1]
    exact pz_SS0 hR (vp_in_nI (n := 0) (by decide) (by decide))
  | succ d =>
    rw [if_neg (by rw [h11]; exact pz_dne (by omega)), pz_mhere hR.2.2.1 hR.2.2.2]
    obtain ⟨k1, k2, k3⟩ := pz_hk hR.2.2.1 (show d < d + 1 by omega)
    have E : f_X2_grind g ph a = f_X0_receive g ph (pz_h ph d) a := by
      unfold f_X2_grind
      rw [pz_here1 hR.2.2.1]
    rw [E]
    exact pz_recvS hR k1 k3 a
theorem ps_a3 {d : Nat} {g h : pz_M} {ph : Nat → Option Nat} (hR : pz_RR d g ph h) (a : Int32) : pz_SS g h (f_X2_carry g ph a) (if 2 ≤ h 18 11 then f_X3_carry h a else (0, h)) := by
  have h6 := hR.2.2.1.1
  have h11 := hR.2.2.2.1
  by_cases hd : d < 2
  · rw [if_neg (by rw [h11]; exact nI_ge (b := 2) hd (by decide))]
    have E : f_X2_carry g ph a = (0, g, ph) := by
      unfold f_X2_carry
      rw [pz_around0 hR.2.2.1 hd]
      cases f_X1_here g ph <;> rfl
    rw [E]
    exact pz_SS0 hR (vp_in_nI (n := 0) (by decide) (by decide))
  · obtain ⟨d, rfl⟩ : ∃ d', d = d' + 2 := ⟨d - 2, by omega⟩
    rw [if_pos (by rw [h11]; exact nI_le (a := 2) (by omega) (by omega))]
    obtain ⟨k1, k2, k3⟩ := pz_hk hR.2.2.1 (show d + 1 < d + 2 by omega)
    obtain ⟨j1, j2, j3⟩ := pz_hk hR.2.2.1 (show d < d + 2 by omega)
    have ck : (nI (pz_h ph (d + 1))).toNatClampNeg = pz_h ph (d + 1) := nI_clamp (by omega)
    have em := pz_mhere (d := d + 1) hR.2.2.1 hR.2.2.2
    have e2 : g (10 + pz_h ph (d + 1)) 2 = h 20 (pz_h ph (d + 1)) := (pz_hv hR.2.1 k1 k3).2 2 (by omega) (by omega)
    unfold f_X2_carry f_X3_carry
    rw [pz_here1 (d := d + 1) hR.2.2.1, pz_around1 hR.2.2.1]
    simp only [em, ck]
    rw [← e2]
    by_cases hc : a ≤ g (10 + pz_h ph (d + 1)) 2
    · rw [if_pos hc, if_pos hc]
      have R1 := pz_upH hR k1 k3 (j := 2) (by omega) (by omega) (g (10 + pz_h ph (d + 1)) 2 - a)
      have hs : pz_st g (10 + pz_h ph (d + 1)) 2 (g (10 + pz_h ph (d + 1)) 2 - a) (10 + pz_h ph d) 0 = 1 := by
        by_cases q : pz_h ph d = pz_h ph (d + 1)
        · rw [q, pz_t (by omega)]; exact k3
        · rw [pz_t2 (by omega)]; exact j3
      have ea : pz_st h 20 (pz_h ph (d + 1)) (g (10 + pz_h ph (d + 1)) 2 - a) 28 (pz_st h 20 (pz_h ph (d + 1)) (g (10 + pz_h ph (d + 1)) 2 - a) 18 11 - 2).toNatClampNeg = nI (pz_h ph d) := by
        rw [pz_t2 (by omega), pz_t2 (by omega)]
        exact pz_maround hR.2.2.1 hR.2.2.2
      have q := pz_recvS R1 j1 hs a
      rw [ea]
      obtain ⟨q1, q2, q3, q4, q5⟩ := q
      exact ⟨q1, q2, q3, by rw [show (18 + 2) = 20 from rfl, pz_t2 (by omega)] at q4; exact q4, by rw [pz_t2 (by omega)] at q5; exact q5⟩
    · rw [if_neg hc, if_neg hc]
      exact pz_SS0 hR (vp_in_nI (n := 4) (by decide) (by decide))
theorem ps_a4 {d : Nat} {g h : pz_M} {ph : Nat → Option Nat} (hR : pz_RR d g ph h) (a : Int32) : pz_SS g h (f_X2_share g ph a) (if h 18 11 = 0 then (0, h) else f_X3_share h a) := by
  have h6 := hR.2.2.1.1
  have h11 := hR.2.2.2.1
  cases d with
  | zero =>
    rw [if_pos (by rw [h11]; rfl)]
    unfold f_X2_share
    rw [pz_here0 (h := h) hR.2.2.1]
    exact pz_SS0 hR (vp_in_nI (n := 0) (by decide) (by decide))
  | succ d =>
    rw [if_neg (by rw [h11]; exact pz_dne (by omega))]
    obtain ⟨k1, k2, k3⟩ := pz_hk hR.2.2.1 (show d < d + 1 by omega)
    have ck : (nI (pz_h ph d)).toNatClampNeg = pz_h ph d := nI_clamp (by omega)
    have e2 : g (10 + pz_h ph d) 2 = h 20 (pz_h ph d) := (pz_hv hR.2.1 k1 k3).2 2 (by omega) (by omega)
    unfold f_X2_share f_X3_share
    rw [pz_here1 hR.2.2.1]
    simp only [pz_mhere hR.2.2.1 hR.2.2.2, ck]
    rw [← e2]
    by_cases hc : a = 0
    · rw [if_pos hc, if_pos hc]
      exact pz_SS0 hR (vp_in_nI (n := 5) (by decide) (by decide))
    · rw [if_neg hc, if_neg hc]
      have R1 := pz_upH hR k1 k3 (j := 2) (by omega) (by omega) (g (10 + pz_h ph d) 2 / a)
      exact ⟨rfl, ⟨d + 1, R1⟩, vp_in_nI (n := 0) (by decide) (by decide), by dsimp only; rw [pz_t2 (by omega)], by dsimp only; rw [pz_t2 (by omega)]⟩
theorem pz_rowin (a : Int32) : f_X2_isRow a = 0 ↔ f_X3_isIn a 0 7 = 0 := by
  unfold f_X2_isRow f_X3_isIn
  have e8 : (8 ≤ a) ↔ (7 < a) := by
    rw [Int32.le_iff_toInt_le, Int32.lt_iff_toInt_lt]
    have e1 : (8 : Int32).toInt = 8 := rfl
    have e2 : (7 : Int32).toInt = 7 := rfl
    omega
  by_cases c1 : a < 0
  · rw [if_pos c1, if_pos c1]
  · rw [if_neg c1, if_neg c1]
    by_cases c2 : 8 ≤ a
    · rw [if_pos c2, if_pos (e8.mp c2)]
    · rw [if_neg c2, if_neg (fun q => c2 (e8.mpr q))]
theorem ps_a5 {d : Nat} {g h : pz_M} {ph : Nat → Option Nat} (hR : pz_RR d g ph h) (a : Int32) : pz_SS g h (f_X2_write g ph a) (f_X3_write h a) := by
  have h6 := hR.2.2.1.1
  have h11 := hR.2.2.2.1
  unfold f_X2_write f_X3_write
  by_cases c1 : f_X2_isRow a = 0
  · simp only [if_pos c1, if_pos ((pz_rowin a).mp c1)]
    exact pz_SS0 hR (vp_in_nI (n := 6) (by decide) (by decide))
  · simp only [if_neg c1, if_neg (fun q => c1 ((pz_rowin a).mpr q))]
    cases d with
    | zero =>
      rw [if_pos (by rw [h11]; rfl), pz_here0 (h := h) hR.2.2.1]
      exact ⟨rfl, ⟨0, pz_upL hR _ _⟩, vp_in_nI (n := 0) (by decide) (by decide), by dsimp only; rw [pz_t2 (by omega)], by dsimp only; rw [pz_t2 (by omega)]⟩
    | succ d =>
      obtain ⟨k1, k2, k3⟩ := pz_hk hR.2.2.1 (show d < d + 1 by omega)
      have ck : (nI (pz_h ph d)).toNatClampNeg = pz_h ph d := nI_clamp (by omega)
      have e2 : g (10 + pz_h ph d) 2 = h 20 (pz_h ph d) := (pz_hv hR.2.1 k1 k3).2 2 (by omega) (by omega)
      rw [if_neg (by rw [h11]; exact pz_dne (by omega)), pz_here1 hR.2.2.1, pz_mhere hR.2.2.1 hR.2.2.2, ck, ← e2]
      exact ⟨rfl, ⟨d + 1, pz_upL hR _ _⟩, vp_in_nI (n := 0) (by decide) (by decide), by dsimp only; rw [pz_t2 (by omega)], by dsimp only; rw [pz_t2 (by omega)]⟩
end
section
theorem pz_self {g : pz_M} {r j : Nat} {v : Int32} (h : v = g r j) : pz_st g r j v = g := by
  apply pz_ext
  intro a b
  by_cases q : a = r
  · subst q
    by_cases q2 : b = j
    · subst q2; rw [pz_s, h]
    · rw [pz_t q2]
  · rw [pz_t2 q]
theorem ps_a7 {d : Nat} {g h : pz_M} {ph : Nat → Option Nat} (hR : pz_RR d g ph h) {z : Nat} (hz : z < 30) (hn : g 0 6 = nI (z + 1)) (hm : h 18 15 = nI (z + 1)) {c : Nat} (hc : c < 4) : pz_SS g h (0, pz_st g 0 6 (g 0 6 + nI c), ph) (0, pz_st h 18 15 (h 18 15 + nI c)) := by
  rw [hn, hm, nI_add]
  exact ⟨rfl, ⟨d, pz_upN hR (by omega)⟩, vp_in_nI (n := 0) (by decide) (by decide), by dsimp only; rw [pz_t (by omega)], by dsimp only; rw [pz_t (by omega)]⟩
theorem ps_a8 {d : Nat} {g h : pz_M} {ph : Nat → Option Nat} (hR : pz_RR d g ph h) (a : Int32) :
    pz_SS g h (0, pz_st (f_X1_stepBehindAgain g ph a (g 0 6)).2.1 0 6 (f_X1_stepBehindAgain g ph a (g 0 6)).1, (f_X1_stepBehindAgain g ph a (g 0 6)).2.2)
      (if h 18 11 ≤ 0 then (0, h) else if a ≤ h 30 (h 18 11 - 1).toNatClampNeg then (0, h) else (0, pz_st (pz_st h 30 (h 18 11 - 1).toNatClampNeg (h 30 (h 18 11 - 1).toNatClampNeg + 1)) 18 15 (pz_st h 30 (h 18 11 - 1).toNatClampNeg (h 30 (h 18 11 - 1).toNatClampNeg + 1) 29 (pz_st h 30 (h 18 11 - 1).toNatClampNeg (h 30 (h 18 11 - 1).toNatClampNeg + 1) 18 11 - 1).toNatClampNeg))) := by
  have h6 := hR.2.2.1.1
  have h23 := hR.2.2.1.2.1
  have h11 := hR.2.2.2.1
  cases d with
  | zero =>
    rw [if_pos (by rw [h11]; decide +kernel)]
    have E : f_X1_stepBehindAgain g ph a (g 0 6) = (g 0 6, g, ph) := by
      unfold f_X1_stepBehindAgain
      rw [if_pos (by rw [h23]; rfl)]
    rw [E]
    dsimp only
    rw [pz_self rfl]
    exact pz_SS0 hR (vp_in_nI (n := 0) (by decide) (by decide))
  | succ d =>
    have ed : nI (d + 1) - 1 = nI d := nI_pred d
    have cd : (nI d).toNatClampNeg = d := nI_clamp (by omega)
    obtain ⟨p1, p2, y, p3, p4, p5⟩ := hR.2.2.2.2.1 d (by omega)
    rw [if_neg (by rw [h11]; exact nI_nle (by omega) (by omega)), h11, ed, cd]
    by_cases hc : g 9 d < a
    · have hc2 : ¬ a ≤ h 30 d := by
        rw [← p2]
        intro q
        rw [Int32.le_iff_toInt_le] at q
        rw [Int32.lt_iff_toInt_lt] at hc
        omega
      have E : f_X1_stepBehindAgain g ph a (g 0 6) = (nI (y + 1), pz_st g 9 d (g 9 d + 1), ph) := by
        unfold f_X1_stepBehindAgain
        rw [h23, if_neg (pz_dne (by omega)), ed, cd, if_pos hc]
        simp (disch := omega) only [pz_t2, h23, ed, cd, p4, nI_1]
      have E2 : pz_st h 30 d (h 30 d + 1) 29 (pz_st h 30 d (h 30 d + 1) 18 11 - 1).toNatClampNeg = nI (y + 1) := by
        simp (disch := omega) only [pz_t2, h11, ed, cd, p5]
      rw [if_neg hc2, E, E2, ← p2]
      dsimp only
      have R1 := pz_upN (pz_upA hR d (g 9 d + 1)) (q := y + 1) (by omega)
      exact ⟨rfl, ⟨d + 1, R1⟩, vp_in_nI (n := 0) (by decide) (by decide), by dsimp only; rw [pz_t (by omega), pz_t2 (by omega)], by dsimp only; rw [pz_t (by omega), pz_t2 (by omega)]⟩
    · have hc2 : a ≤ h 30 d := by
        rw [← p2]
        rw [Int32.lt_iff_toInt_lt] at hc
        rw [Int32.le_iff_toInt_le]
        omega
      have E : f_X1_stepBehindAgain g ph a (g 0 6) = (g 0 6, g, ph) := by
        unfold f_X1_stepBehindAgain
        rw [h23, if_neg (pz_dne (by omega)), ed, cd, if_neg hc]
      rw [if_pos hc2, E]
      dsimp only
      rw [pz_self rfl]
      exact pz_SS0 hR (vp_in_nI (n := 0) (by decide) (by decide))
/-- a step that isn't QUIT, on both sides -/
theorem ps_step {d : Nat} {g h : pz_M} {ph : Nat → Option Nat} (hR : pz_RR d g ph h) {z : Nat} (hz : z < 30) (hn : g 0 6 = nI (z + 1)) (ha : vp_in (g 4 z) 9) (h6 : ¬ g 4 z = 6) : pz_SS g h (f_X2_perform g ph (nI z)) (f_X3_does h (h 26 z) (h 27 z)) := by
  have cz : (nI z).toNatClampNeg = z := nI_clamp (by omega)
  have hm : h 18 15 = nI (z + 1) := by
    obtain ⟨-, -, q, q1, q2, q3⟩ := hR.2.2.2
    rw [q3, ← q2, hn]
  have e4 : h 26 z = g 4 z := (hR.1.2.1 z hz).symm
  have e5 : h 27 z = g 5 z := (hR.1.2.2.1 z hz).symm
  rw [e4, e5]
  obtain ⟨c, hc, ec⟩ := vp_in_of ha (by decide)
  have m8 := pz_mod (g 5 z) (n := 8) (by decide) (by decide)
  have m10 := pz_mod (g 5 z) (n := 10) (by decide) (by decide)
  have m1000 := pz_mod (g 5 z) (n := 1000) (by decide) (by decide)
  have m4 := pz_mod (g 5 z) (n := 4) (by decide) (by decide)
  have m8 : f_X3_modulo (g 5 z) 8 = f_J9_floorMod_7cf53 (g 5 z) 8 := m8
  have m10 : f_X3_modulo (g 5 z) 10 = f_J9_floorMod_7cf53 (g 5 z) 10 := m10
  have m1000 : f_X3_modulo (g 5 z) 1000 = f_J9_floorMod_7cf53 (g 5 z) 1000 := m1000
  have m4 : f_X3_modulo (g 5 z) 4 = f_J9_floorMod_7cf53 (g 5 z) 4 := m4
  rcases (show c = 0 ∨ c = 1 ∨ c = 2 ∨ c = 3 ∨ c = 4 ∨ c = 5 ∨ c = 6 ∨ c = 7 ∨ c = 8 by omega) with rfl | rfl | rfl | rfl | rfl | rfl | rfl | rfl | rfl
  · have e : g 4 z = 0 := ec
    obtain ⟨k, hk, ek⟩ := pz_fm (g 5 z) (n := 8) (by decide) (by decide)
    have ek : f_J9_floorMod_7cf53 (g 5 z) 8 = nI k := ek
    have E : f_X2_perform g ph (nI z) = f_X2_goIn g ph (nI k) (nI z) := by
      unfold f_X2_perform; rw [cz, if_pos e, ek]
    have E2 : f_X3_does h (g 4 z) (g 5 z) = f_X3_goIn h (nI k) := by
      unfold f_X3_does; rw [if_pos e, m8, ek]
    rw [E, E2]
    exact ps_a0 hR hk hz hm
  · have e : g 4 z = 1 := ec
    have E : f_X2_perform g ph (nI z) = (0, (f_X1_leaveHere g ph).1, (f_X1_leaveHere g ph).2) := by
      unfold f_X2_perform; rw [cz, e, if_neg (by decide), if_pos rfl]
    have E2 : f_X3_does h (g 4 z) (g 5 z) = if h 18 11 ≤ 0 then (0, pz_st h 18 11 (h 18 11 - 0)) else (0, pz_st h 18 11 (h 18 11 - 1)) := by
      unfold f_X3_does; rw [e, if_neg (by decide), if_pos rfl]
    rw [E, E2]
    exact ps_a1 hR
  · have e : g 4 z = 2 := ec
    have E : f_X2_perform g ph (nI z) = f_X2_grind g ph (f_J9_floorMod_7cf53 (g 5 z) 1000) := by
      unfold f_X2_perform; rw [cz, e, if_neg (by decide), if_neg (by decide), if_pos rfl]
    have E2 : f_X3_does h (g 4 z) (g 5 z) = if h 18 11 = 0 then (0, h) else f_X3_comes h (h 28 (h 18 11 - 1).toNatClampNeg) (f_J9_floorMod_7cf53 (g 5 z) 1000) := by
      unfold f_X3_does; rw [e, if_neg (by decide), if_neg (by decide), if_pos rfl, m1000]
    rw [E, E2]
    exact ps_a2 hR _
  · have e : g 4 z = 3 := ec
    have E : f_X2_perform g ph (nI z) = f_X2_carry g ph (f_J9_floorMod_7cf53 (g 5 z) 1000) := by
      unfold f_X2_perform; rw [cz, e, if_neg (by decide), if_neg (by decide), if_neg (by decide), if_pos rfl]
    have E2 : f_X3_does h (g 4 z) (g 5 z) = if 2 ≤ h 18 11 then f_X3_carry h (f_J9_floorMod_7cf53 (g 5 z) 1000) else (0, h) := by
      unfold f_X3_does; rw [e, if_neg (by decide), if_neg (by decide), if_neg (by decide), if_pos rfl, m1000]
    rw [E, E2]
    exact ps_a3 hR _
  · have e : g 4 z = 4 := ec
    have E : f_X2_perform g ph (nI z) = f_X2_share g ph (f_J9_floorMod_7cf53 (g 5 z) 10) := by
      unfold f_X2_perform; rw [cz, e, if_neg (by decide), if_neg (by decide), if_neg (by decide), if_neg (by decide), if_pos rfl]
    have E2 : f_X3_does h (g 4 z) (g 5 z) = if h 18 11 = 0 then (0, h) else f_X3_share h (f_J9_floorMod_7cf53 (g 5 z) 10) := by
      unfold f_X3_does; rw [e, if_neg (by decide), if_neg (by decide), if_neg (by decide), if_neg (by decide), if_pos rfl, m10]
    rw [E, E2]
    exact ps_a4 hR _
  · have e : g 4 z = 5 := ec
    have E : f_X2_perform g ph (nI z) = f_X2_write g ph (g 5 z) := by
      unfold f_X2_perform; rw [cz, e, if_neg (by decide), if_neg (by decide), if_neg (by decide), if_neg (by decide), if_neg (by decide), if_pos rfl]
    have E2 : f_X3_does h (g 4 z) (g 5 z) = f_X3_write h (g 5 z) := by
      unfold f_X3_does; rw [e, if_neg (by decide), if_neg (by decide), if_neg (by decide), if_neg (by decide), if_neg (by decide), if_pos rfl]
    rw [E, E2]
    exact ps_a5 hR _
  · exact absurd ec h6
  · have e : g 4 z = 7 := ec
    obtain ⟨k, hk, ek⟩ := pz_fm (g 5 z) (n := 4) (by decide) (by decide)
    have ek : f_J9_floorMod_7cf53 (g 5 z) 4 = nI k := ek
    have E : f_X2_perform g ph (nI z) = (0, pz_st g 0 6 (g 0 6 + nI k), ph) := by
      unfold f_X2_perform; rw [cz, e, if_neg (by decide), if_neg (by decide), if_neg (by decide), if_neg (by decide), if_neg (by decide), if_neg (by decide), if_neg (by decide), if_pos rfl, ek]
    have E2 : f_X3_does h (g 4 z) (g 5 z) = (0, pz_st h 18 15 (h 18 15 + nI k)) := by
      unfold f_X3_does; rw [e, if_neg (by decide), if_neg (by decide), if_neg (by decide), if_neg (by decide), if_neg (by decide), if_neg (by decide), if_neg (by decide), if_pos rfl, m4, ek]
    rw [E, E2]
    exact ps_a7 hR hz hn hm hk
  · have e : g 4 z = 8 := ec
    have E : f_X2_perform g ph (nI z) = (0, pz_st (f_X1_stepBehindAgain g ph (f_J9_floorMod_7cf53 (g 5 z) 4) (g 0 6)).2.1 0 6 (f_X1_stepBehindAgain g ph (f_J9_floorMod_7cf53 (g 5 z) 4) (g 0 6)).1, (f_X1_stepBehindAgain g ph (f_J9_floorMod_7cf53 (g 5 z) 4) (g 0 6)).2.2) := by
      unfold f_X2_perform; rw [cz, e, if_neg (by decide), if_neg (by decide), if_neg (by decide), if_neg (by decide), if_neg (by decide), if_neg (by decide), if_neg (by decide), if_neg (by decide), if_pos rfl]
    have E2 := ps_a8 hR (f_J9_floorMod_7cf53 (g 5 z) 4)
    rw [E]
    unfold f_X3_does
    rw [e, if_neg (by decide), if_neg (by decide), if_neg (by decide), if_neg (by decide), if_neg (by decide), if_neg (by decide), if_neg (by decide), if_neg (by decide), m4]
    exact E2
/-- a fault that is met -/
theorem pz_upF {d : Nat} {g h : pz_M} {ph : Nat → Option Nat} (hR : pz_RR d g ph h) {f : Nat} (hf1 : 1 ≤ f) (hf6 : f ≤ 6) (v w : Int32) : pz_RR d (pz_st (pz_st g 6 f v) 0 8 w) ph (pz_st (pz_st h 18 18 w) 31 (10 + f) v) := by
  obtain ⟨h1, h2, h3, h4⟩ := hR
  refine ⟨?_, ?_, ?_, ?_⟩
  · obtain ⟨a1, a2, a3, a4, a5, a6, a7, a8, a9, a10, a11⟩ := h1
    refine ⟨by simpa (disch := omega) only [pz_t2, pz_t] using a1, by simpa (disch := omega) only [pz_t2, pz_t] using a2, by simpa (disch := omega) only [pz_t2, pz_t] using a3, by simpa (disch := omega) only [pz_t2, pz_t] using a4, fun j hj1 hj6 => ?_, by simpa (disch := omega) only [pz_t2, pz_t] using a6, by rw [pz_s, pz_t2 (by omega), pz_s], by simpa (disch := omega) only [pz_t2, pz_t] using a8, by simpa (disch := omega) only [pz_t2, pz_t] using a9, by simpa (disch := omega) only [pz_t2, pz_t] using a10, by simpa (disch := omega) only [pz_t2, pz_t] using a11⟩
    rw [pz_t2 (by omega)]
    by_cases e : j = f
    · subst e; rw [pz_s, pz_s]
    · rw [pz_t e, pz_t (by omega), pz_t2 (by omega)]; exact a5 j hj1 hj6
  · exact pz_R2m h2 (fun k hk i hi => by rw [pz_t2 (by omega), pz_t2 (by omega)]) (fun j hj1 hj6 k hk => by rw [pz_t2 (by omega), pz_t2 (by omega)])
  · unfold pz_R3 at *
    simpa (disch := omega) only [pz_t2, pz_t] using h3
  · unfold pz_R4 at *
    simpa (disch := omega) only [pz_t2, pz_t] using h4
/-- what the run is where nobody catches: all but how deep -/
def pz_RE (g : pz_M) (ph : Nat → Option Nat) (h : pz_M) : Prop := pz_R1 g h ∧ pz_R2 g h ∧ ∃ d, pz_R3 d g ph
theorem ps_caught {d : Nat} {g h : pz_M} {ph : Nat → Option Nat} (hR : pz_RR d g ph h) {f : Nat} (hf1 : 1 ≤ f) (hf6 : f ≤ 6) (b : Int32) :
    (f_X2_isCaught g ph (nI f) b).1 = (f_X3_isCaught (pz_st (pz_st h 18 18 b) 31 (10 + f) (h 31 (10 + f) + 1))).1 ∧
    (((f_X2_isCaught g ph (nI f) b).1 = 0 ∧ pz_RE (f_X2_isCaught g ph (nI f) b).2.1 (f_X2_isCaught g ph (nI f) b).2.2 (f_X3_isCaught (pz_st (pz_st h 18 18 b) 31 (10 + f) (h 31 (10 + f) + 1))).2) ∨
     ((f_X2_isCaught g ph (nI f) b).1 = 1 ∧ (∃ d', pz_RR d' (f_X2_isCaught g ph (nI f) b).2.1 (f_X2_isCaught g ph (nI f) b).2.2 (f_X3_isCaught (pz_st (pz_st h 18 18 b) 31 (10 + f) (h 31 (10 + f) + 1))).2) ∧ (f_X2_isCaught g ph (nI f) b).2.1 0 7 = g 0 7 ∧ (f_X3_isCaught (pz_st (pz_st h 18 18 b) 31 (10 + f) (h 31 (10 + f) + 1))).2 18 16 = h 18 16)) := by
  have cf : (nI f).toNatClampNeg = f := nI_clamp (by omega)
  have e6 : g 6 f = h 31 (10 + f) := hR.1.2.2.2.2.1 f hf1 hf6
  have R1 := pz_upF hR hf1 hf6 (g 6 f + 1) b
  rw [← e6]
  have E : f_X2_isCaught g ph (nI f) b = f_lbr (pz_st (pz_st g 6 f (g 6 f + 1)) 0 8 b) ph 8 (nI d - 1) := by
    unfold f_X2_isCaught f_X1_leaveByRefuge
    have e : pz_st (pz_st g 6 f (g 6 f + 1)) 0 8 b 2 3 = nI d := by rw [pz_t2 (by omega), pz_t2 (by omega)]; exact hR.2.2.1.2.1
    rw [cf]
    dsimp only
    rw [e]
  rw [E]
  have q := pz_caughtR R1 d 8 7 _ (Nat.le_refl d) (by have := hR.2.2.1.1; omega) (by have := hR.2.2.1.1; omega) R1.2.2.2.1 (fun _ _ _ => rfl)
  obtain ⟨q1, q2⟩ := q
  refine ⟨q1, ?_⟩
  rcases q2 with ⟨p1, p2, p3⟩ | ⟨p1, p2, p3, p4⟩
  · refine Or.inl ⟨p1, ?_⟩
    rw [p2]
    obtain ⟨s1, s2, s3, s4⟩ := R1
    exact ⟨pz_R1m s1 (fun _ _ _ _ _ => rfl) (fun r j hr => p3 r j (by omega)), pz_R2m s2 (fun _ _ _ _ => rfl) (fun j j1 j6 k hk => p3 _ _ (by omega)), d, s3⟩
  · refine Or.inr ⟨p1, p2, ?_, ?_⟩
    · rw [p3, pz_t (by omega), pz_t2 (by omega)]
    · rw [show (f_X3_isCaught (pz_st (pz_st h 18 18 b) 31 (10 + f) (g 6 f + 1))) = f_mic 7 (pz_st (pz_st h 18 18 b) 31 (10 + f) (g 6 f + 1)) from rfl, p4, pz_t2 (by omega), pz_t (by omega)]
end
section
theorem pz_upQ {d : Nat} {g h : pz_M} {ph : Nat → Option Nat} (hR : pz_RR d g ph h) (v : Int32) : pz_RR d g ph (pz_st h 18 16 v) := by
  obtain ⟨h1, h2, h3, h4⟩ := hR
  refine ⟨?_, ?_, h3, ?_⟩
  · unfold pz_R1 at *
    simpa (disch := omega) only [pz_t2, pz_t] using h1
  · exact pz_R2m h2 (fun k hk i hi => rfl) (fun j hj1 hj6 k hk => by rw [pz_t2 (by omega)])
  · unfold pz_R4 at *
    simpa (disch := omega) only [pz_t2, pz_t] using h4
/-- a step is begun, on both sides -/
theorem ps_tick {d b : Nat} {g h : pz_M} {ph : Nat → Option Nat} (hR : pz_RR d g ph h) (hb : g 0 7 = nI b) (hb80 : b ≤ 80) (c6 : ¬ 80 ≤ g 0 7) (c17 : g 0 6 < g 0 5) :
    ∃ z : Nat, z < 30 ∧ g 0 6 = nI z ∧ h 18 15 = nI z ∧ h 18 17 = nI b ∧ b < 80 ∧ pz_RR d (pz_st (pz_st g 0 7 (nI (b + 1))) 0 6 (nI (z + 1))) ph (pz_st (pz_st h 18 17 (nI (b + 1))) 18 15 (nI (z + 1))) ∧ vp_in (g 4 z) 9 := by
  obtain ⟨n, n1, n2, n3, n4⟩ := hR.1.1
  obtain ⟨-, -, q, q1, q2, q3⟩ := hR.2.2.2
  have hq : q < n := by
    rw [q2, n2] at c17
    exact (nI_ltI (by omega) (by omega)).mp c17
  have hb8 : b < 80 := by
    rcases Nat.lt_or_ge b 80 with z | z
    · exact z
    · exact absurd (by rw [hb]; exact nI_le (a := 80) z (by omega)) c6
  refine ⟨q, by omega, q2, q3, ?_, hb8, ?_, n4 q hq⟩
  · rw [← hR.1.2.2.2.2.2.1, hb]
  · exact pz_upN (pz_upB hR _) (by omega)
def pz_IC (n : Nat) (g : pz_M) (ph : Nat → Option Nat) : Prop := ∃ (d : Nat) (h : pz_M) (b : Nat), pz_RR d g ph h ∧ g 0 7 = nI b ∧ b ≤ 80 ∧ 80 - b < n
def pz_IM (n : Nat) (h : pz_M) : Prop := ∃ (d : Nat) (g : pz_M) (ph : Nat → Option Nat) (b : Nat), pz_RR d g ph h ∧ h 18 17 = nI b ∧ b ≤ 80 ∧ 80 - b < n
theorem pz_f7 {r : Int32} (h : vp_in r 7) (h0 : ¬ r = 0) : ∃ f : Nat, 1 ≤ f ∧ f ≤ 6 ∧ r = nI f := by
  obtain ⟨f, h1, rfl⟩ := vp_in_of h (by decide)
  refine ⟨f, ?_, by omega, rfl⟩
  rcases Nat.lt_or_ge f 1 with q | q
  · have : f = 0 := by omega
    subst this
    exact absurd rfl h0
  · exact q
theorem ps_iterC {n : Nat} {w : pz_M} {ph : Nat → Option Nat} (hI : pz_IC (n + 1) w ph) (c6 : ¬ 80 ≤ w 0 7) (c17 : w 0 6 < w 0 5) {w2 : pz_M} (hw2 : w2 = pz_st (pz_st w 0 7 (w 0 7 + 1)) 0 6 (w 0 6 + 1)) :
    vp_in (w 0 6) 30 ∧ pz_W w2 ph ∧ (¬ w2 4 (w 0 6).toNatClampNeg = 6 → vp_in (f_X2_perform w2 ph (w 0 6)).1 7 ∧ pz_W (f_X2_perform w2 ph (w 0 6)).2.1 (f_X2_perform w2 ph (w 0 6)).2.2 ∧ ((f_X2_perform w2 ph (w 0 6)).1 = 0 → pz_IC n (f_X2_perform w2 ph (w 0 6)).2.1 (f_X2_perform w2 ph (w 0 6)).2.2) ∧
      (¬ (f_X2_perform w2 ph (w 0 6)).1 = 0 → ¬ (f_X2_isCaught (f_X2_perform w2 ph (w 0 6)).2.1 (f_X2_perform w2 ph (w 0 6)).2.2 (f_X2_perform w2 ph (w 0 6)).1 (w 0 6)).1 = 0 → pz_IC n (f_X2_isCaught (f_X2_perform w2 ph (w 0 6)).2.1 (f_X2_perform w2 ph (w 0 6)).2.2 (f_X2_perform w2 ph (w 0 6)).1 (w 0 6)).2.1 (f_X2_isCaught (f_X2_perform w2 ph (w 0 6)).2.1 (f_X2_perform w2 ph (w 0 6)).2.2 (f_X2_perform w2 ph (w 0 6)).1 (w 0 6)).2.2)) := by
  obtain ⟨d, h, b, hR, hb, hb80, hbn⟩ := hI
  obtain ⟨z, hz, ez, ez2, eb, hb8, hR2, ha⟩ := ps_tick hR hb hb80 c6 c17
  have e2 : w2 = pz_st (pz_st w 0 7 (nI (b + 1))) 0 6 (nI (z + 1)) := by rw [hw2, hb, ez, nI_1, nI_1]
  rw [ez, e2]
  have cz : (nI z).toNatClampNeg = z := nI_clamp (by omega)
  refine ⟨vp_in_nI hz (by decide), pz_RW hR2.2.2.1, fun h6 => ?_⟩
  rw [cz] at h6
  have hS := ps_step hR2 hz pz_s (by rw [pz_t2 (by omega), pz_t2 (by omega)]; exact ha) h6
  generalize f_X2_perform (pz_st (pz_st w 0 7 (nI (b + 1))) 0 6 (nI (z + 1))) ph (nI z) = X at hS ⊢
  generalize f_X3_does (pz_st (pz_st h 18 17 (nI (b + 1))) 18 15 (nI (z + 1))) _ _ = Y at hS
  obtain ⟨s1, ⟨d', s2⟩, s3, s4, s5⟩ := hS
  have s5 : X.2.1 0 7 = nI (b + 1) := by rw [s5, pz_t (by omega), pz_s]
  refine ⟨s3, pz_RW s2.2.2.1, fun _ => ⟨d', Y.2, b + 1, s2, s5, by omega, by omega⟩, fun h0 hc => ?_⟩
  obtain ⟨f, f1, f6, ef⟩ := pz_f7 s3 h0
  rw [ef] at hc ⊢
  obtain ⟨t1, t2⟩ := ps_caught s2 f1 f6 (nI z)
  rcases t2 with ⟨u1, -⟩ | ⟨u1, ⟨d2, u2⟩, u3, u4⟩
  · exact absurd u1 hc
  · exact ⟨d2, _, b + 1, u2, by rw [u3]; exact s5, by omega, by omega⟩
theorem pz_10f {f : Nat} (hf : f ≤ 6) : (10 : Int32) + nI f = nI (10 + f) := nI_add 10 f
theorem ps_iterM {n : Nat} {w : pz_M} (hI : pz_IM (n + 1) w) (c43 : ¬ w 18 8 ≤ w 18 15) (c59 : ¬ w 18 17 = 80) {w1 w2 : pz_M} (hw1 : w1 = pz_st w 18 17 (w 18 17 + 1)) (hw2 : w2 = pz_st w1 18 15 (w1 18 15 + 1)) :
    vp_in (w1 18 15) 30 ∧ pz_V w2 ∧ ((f_X3_does w2 (w2 26 (w1 18 15).toNatClampNeg) (w2 27 (w1 18 15).toNatClampNeg)).1 = 0 → pz_IM n (f_X3_does w2 (w2 26 (w1 18 15).toNatClampNeg) (w2 27 (w1 18 15).toNatClampNeg)).2) ∧
      (¬ (f_X3_does w2 (w2 26 (w1 18 15).toNatClampNeg) (w2 27 (w1 18 15).toNatClampNeg)).1 = 0 → vp_in (10 + (f_X3_does w2 (w2 26 (w1 18 15).toNatClampNeg) (w2 27 (w1 18 15).toNatClampNeg)).1) 17 ∧
        ∀ k1 k2 : pz_M, k1 = pz_st (f_X3_does w2 (w2 26 (w1 18 15).toNatClampNeg) (w2 27 (w1 18 15).toNatClampNeg)).2 18 18 (w1 18 15) → k2 = pz_st k1 31 (10 + (f_X3_does w2 (w2 26 (w1 18 15).toNatClampNeg) (w2 27 (w1 18 15).toNatClampNeg)).1).toNatClampNeg (k1 31 (10 + (f_X3_does w2 (w2 26 (w1 18 15).toNatClampNeg) (w2 27 (w1 18 15).toNatClampNeg)).1).toNatClampNeg + 1) →
          pz_V k2 ∧ (¬ (f_X3_isCaught k2).1 = 0 → pz_IM n (f_X3_isCaught k2).2)) := by
  obtain ⟨d, g, ph, b, hR, hb, hb80, hbn⟩ := hI
  have hgb : g 0 7 = nI b := by rw [hR.1.2.2.2.2.2.1, hb]
  obtain ⟨z, hz, ez, ez2, eb, hb8, hR2, ha⟩ := ps_tick hR hgb hb80 (by
      rw [hgb]
      intro q
      have q2 := (nI_leI (a := 80) (by decide) (by omega)).mp q
      have : b = 80 := by omega
      exact c59 (by rw [hb, this]; rfl)) (by
      obtain ⟨n, n1, n2, n3, n4⟩ := hR.1.1
      obtain ⟨-, -, q, q1, q2, q3⟩ := hR.2.2.2
      rw [q2, n2]
      rw [n3, q3] at c43
      rcases Nat.lt_or_ge q n with z | z
      · exact nI_lt z (by omega)
      · exact absurd (nI_le z (by omega)) c43)
  have cz : (nI z).toNatClampNeg = z := nI_clamp (by omega)
  have e1 : w1 18 15 = nI z := by rw [hw1, pz_t (by omega)]; exact ez2
  have e2 : w2 = pz_st (pz_st w 18 17 (nI (b + 1))) 18 15 (nI (z + 1)) := by rw [hw2, e1, hw1, hb, nI_1, nI_1]
  rw [e1, cz, e2]
  refine ⟨vp_in_nI hz (by decide), pz_RV hR2.2.2.1 hR2.2.2.2, ?_⟩
  have e17 : pz_st (pz_st w 18 17 (nI (b + 1))) 18 15 (nI (z + 1)) 18 17 = nI (b + 1) := by rw [pz_t (by omega), pz_s]
  by_cases h6 : g 4 z = 6
  · have ea : pz_st (pz_st w 18 17 (nI (b + 1))) 18 15 (nI (z + 1)) 26 z = 6 := by rw [pz_t2 (by omega), pz_t2 (by omega), ← hR.1.2.1 z hz]; exact h6
    have E : f_X3_does (pz_st (pz_st w 18 17 (nI (b + 1))) 18 15 (nI (z + 1))) (pz_st (pz_st w 18 17 (nI (b + 1))) 18 15 (nI (z + 1)) 26 z) (pz_st (pz_st w 18 17 (nI (b + 1))) 18 15 (nI (z + 1)) 27 z) = (0, pz_st (pz_st (pz_st w 18 17 (nI (b + 1))) 18 15 (nI (z + 1))) 18 16 1) := by
      unfold f_X3_does
      rw [ea, if_neg (by decide), if_neg (by decide), if_neg (by decide), if_neg (by decide), if_neg (by decide), if_neg (by decide), if_pos rfl]
    rw [E]
    exact ⟨fun _ => ⟨d, _, ph, b + 1, pz_upQ hR2 1, by dsimp only; rw [pz_t (by omega)]; exact e17, by omega, by omega⟩, fun q => absurd rfl q⟩
  · have hS := ps_step hR2 hz pz_s (by rw [pz_t2 (by omega), pz_t2 (by omega)]; exact ha) (by rw [pz_t2 (by omega), pz_t2 (by omega)]; exact h6)
    generalize f_X2_perform (pz_st (pz_st g 0 7 (nI (b + 1))) 0 6 (nI (z + 1))) ph (nI z) = X at hS
    generalize f_X3_does (pz_st (pz_st w 18 17 (nI (b + 1))) 18 15 (nI (z + 1))) _ _ = Y at hS ⊢
    obtain ⟨s1, ⟨d', s2⟩, s3, s4, s5⟩ := hS
    have s5 : X.2.1 0 7 = nI (b + 1) := by rw [s5, pz_t (by omega), pz_s]
    have s6 : Y.2 18 17 = nI (b + 1) := by rw [← s2.1.2.2.2.2.2.1]; exact s5
    refine ⟨fun _ => ⟨d', _, _, b + 1, s2, s6, by omega, by omega⟩, fun h0 => ?_⟩
    rw [s1] at s3
    obtain ⟨f, f1, f6, ef⟩ := pz_f7 s3 h0
    rw [ef, pz_10f f6]
    have c10 : (nI (10 + f)).toNatClampNeg = 10 + f := nI_clamp (by omega)
    refine ⟨vp_in_nI (by omega) (by decide), fun k1 k2 hk1 hk2 => ?_⟩
    rw [c10] at hk2
    have ek : k2 = pz_st (pz_st Y.2 18 18 (nI z)) 31 (10 + f) (Y.2 31 (10 + f) + 1) := by rw [hk2, hk1, pz_t2 (by omega)]
    rw [ek]
    obtain ⟨t1, t2⟩ := ps_caught s2 f1 f6 (nI z)
    have RU := pz_upF s2 f1 f6 (Y.2 31 (10 + f) + 1) (nI z)
    refine ⟨pz_RV RU.2.2.1 RU.2.2.2, fun hc => ?_⟩
    rw [← t1] at hc
    rcases t2 with ⟨u1, -⟩ | ⟨u1, ⟨d2, u2⟩, u3, u4⟩
    · exact absurd u1 hc
    · exact ⟨d2, _, _, b + 1, u2, by rw [← u2.1.2.2.2.2.2.1, u3]; exact s5, by omega, by omega⟩
end
section
theorem inX2_followOrder_X2 : ∀ w ∈ u_ws RX2 TX2 14, w ∈ wsX2_followOrder := by decide +kernel
def f_fo : Nat → pz_M → (Nat → Option Nat) → Int32 × pz_M × (Nat → Option Nat)
  | 0, w, v => (0, w, v)
  | n + 1, w, v =>
    if 80 ≤ (w 0 7) then
      if (w 0 5) ≤ (w 0 6) then
        (0, w, v)
      else
        ((-3), w, v)
    else
      if (w 0 6) < (w 0 5) then
        let g_1 := pz_st w 0 7 ((w 0 7) + 1)
        let g_2 := pz_st g_1 0 6 ((w 0 6) + 1)
        if (g_2 4 (w 0 6).toNatClampNeg) = 6 then
          let g_11 := pz_st g_2 0 13 ((g_2 0 13) + 1)
          (0, g_11, v)
        else
          let r_3 := (f_X2_perform g_2 v (w 0 6)).1
          let g_5 := (f_X2_perform g_2 v (w 0 6)).2.1
          let ph_6 := (f_X2_perform g_2 v (w 0 6)).2.2
          if r_3 = 0 then
            f_fo n g_5 ph_6
          else
            let r_7 := (f_X2_isCaught g_5 ph_6 r_3 (w 0 6)).1
            let g_9 := (f_X2_isCaught g_5 ph_6 r_3 (w 0 6)).2.1
            let ph_10 := (f_X2_isCaught g_5 ph_6 r_3 (w 0 6)).2.2
            if r_7 = 0 then
              (r_3, g_9, ph_10)
            else
              f_fo n g_9 ph_10
      else
        (0, w, v)
def f_X2_followOrder (g : pz_M) (ph : Nat → Option Nat) : Int32 × pz_M × (Nat → Option Nat) := f_fo 81 g ph
set_option maxHeartbeats 4000000 in
set_option maxRecDepth 100000 in
theorem c_X2_followOrder {l : Launch} {dC : Nat → ClassId} {dI : Nat → Nat → Nat} {cl : Nat → ClassId} {ad : Nat → Nat} {ph : Nat → Option Nat} {o : Nat → Int64} {g h : pz_M} (hI : pz_IC 81 g ph) : pz_Mi l dC dI cl yX2_followOrder wsX2_followOrder { frames := 3, cells := 0, slots := 0, locals := 66 } [.ref (ad 0)] (pz_wd ad cl ph o g h) (fun u : pz_M × (Nat → Option Nat) => pz_wd ad cl u.2 o u.1 h) (fun r u => r = (f_X2_followOrder g ph).1 ∧ u = (f_X2_followOrder g ph).2) := by
  intro sz
  refine pr_ofW (Qc := pz_Qi dC dI _ _) (cb := cX2_followOrder) (maxL := 3) (ret := (some .int)) (by decide) rfl (Nat.le_of_ble_eq_true rfl) ?_
  intro p e s m below meth c A ls hx hb hml hr hlocks hts hown hK hP hD hS hA hl
  have hl : lv_has ls 3 [(0, .ref (ad 0))] := hl
  have key : ∀ (n : Nat) (w : pz_M) (v : Nat → Option Nat) (H : Heap) (locs : List Loc) (ls : Array Slot), pz_IC n w v → f_fo n w v = f_fo 81 g ph → va_P (dC, dI) vwCl (pz_wd ad cl v o w h) H → va_D A (pz_wd ad cl v o w h) → va_S A s.heap H locs → lv_has ls 3 [(0, .ref (ad 0))] → W p l e { frames := 3, cells := 0, slots := 0, locals := 66 } s m [.ref (ad 0)].toArray below meth c H locs 0 0 (MQ below (pz_Qi dC dI (fun r u => r = (f_X2_followOrder g ph).1 ∧ u = (f_X2_followOrder g ph).2) (fun u : pz_M × (Nat → Option Nat) => pz_wd ad cl u.2 o u.1 h) A) [.ref (ad 0)].toArray s 0 0 A) (F0 m 0 ls []) := by
    intro n
    induction n with
    | zero => intro w v H locs ls hI; obtain ⟨d, hh, b, -, -, -, q⟩ := hI; omega
    | succ n ih =>
      intro w v H locs ls hI hF hP hD hS hl
      refine lv_aload_n hx hb dX2_followOrder_0 rfl (lv_at hl 0 rfl) ?_
      refine va_get (D := (dC, dI)) (ci := 4) (C := RX2) (T := TX2) (N := 14) hx hb hts inX2_followOrder_X2 hown hK.1 hP 0 pz_a0 rfl 7 (by decide) (hts (.fieldLink RX2 39 "PowderMill" "latestBegun" "I") (by decide +kernel)) (fun _ h9 => h9) rfl dX2_followOrder_1 ?_
      refine lv_bipush (v := 80) hx hb dX2_followOrder_4 (by decide) ?_
      refine lv_icmp_ge (tgt := 91) hx hb dX2_followOrder_6 (by decide) (fun c_6 => ?_) (fun c_6 => ?_)
      · refine lv_aload_n hx hb dX2_followOrder_91 rfl (lv_at hl 0 rfl) ?_
        refine va_get (D := (dC, dI)) (ci := 4) (C := RX2) (T := TX2) (N := 14) hx hb hts inX2_followOrder_X2 hown hK.1 hP 0 pz_a0 rfl 6 (by decide) (hts (.fieldLink RX2 36 "PowderMill" "nextStep" "I") (by decide +kernel)) (fun _ h9 => h9) rfl dX2_followOrder_92 ?_
        refine lv_aload_n hx hb dX2_followOrder_95 rfl (lv_at hl 0 rfl) ?_
        refine va_get (D := (dC, dI)) (ci := 4) (C := RX2) (T := TX2) (N := 14) hx hb hts inX2_followOrder_X2 hown hK.1 hP 0 pz_a0 rfl 5 (by decide) (hts (.fieldLink RX2 32 "PowderMill" "stepCount" "I") (by decide +kernel)) (fun _ h9 => h9) rfl dX2_followOrder_96 ?_
        refine lv_icmp_ge (tgt := 107) hx hb dX2_followOrder_99 (by decide) (fun c_99 => ?_) (fun c_99 => ?_)
        · refine lv_iconst (v := 0) hx hb dX2_followOrder_107 (by decide) ?_
          exact pr_iret (w, v) hx hb hr hlocks hP hD hS dX2_followOrder_108 (by unfold f_X2_followOrder; rw [← hF]; refine ⟨?_, ?_⟩ <;> simp only [f_fo, if_pos c_6, if_pos c_99])
        · refine lv_bipush (v := (-3)) hx hb dX2_followOrder_102 (by decide) ?_
          refine lv_goto (tgt := 108) hx hb dX2_followOrder_104 (by decide) ?_
          exact pr_iret (w, v) hx hb hr hlocks hP hD hS dX2_followOrder_108 (by unfold f_X2_followOrder; rw [← hF]; refine ⟨?_, ?_⟩ <;> simp only [f_fo, if_pos c_6, if_neg c_99])
      · refine lv_aload_n hx hb dX2_followOrder_9 rfl (lv_at hl 0 rfl) ?_
        refine va_get (D := (dC, dI)) (ci := 4) (C := RX2) (T := TX2) (N := 14) hx hb hts inX2_followOrder_X2 hown hK.1 hP 0 pz_a0 rfl 6 (by decide) (hts (.fieldLink RX2 36 "PowderMill" "nextStep" "I") (by decide +kernel)) (fun _ h9 => h9) rfl dX2_followOrder_10 ?_
        refine lv_aload_n hx hb dX2_followOrder_13 rfl (lv_at hl 0 rfl) ?_
        refine va_get (D := (dC, dI)) (ci := 4) (C := RX2) (T := TX2) (N := 14) hx hb hts inX2_followOrder_X2 hown hK.1 hP 0 pz_a0 rfl 5 (by decide) (hts (.fieldLink RX2 32 "PowderMill" "stepCount" "I") (by decide +kernel)) (fun _ h9 => h9) rfl dX2_followOrder_14 ?_
        refine lv_icmp_lt (tgt := 22) hx hb dX2_followOrder_17 (by decide) (fun c_17 => ?_) (fun c_17 => ?_)
        · obtain ⟨i1, -, -⟩ := ps_iterC hI c_6 c_17 rfl
          refine lv_aload_n hx hb dX2_followOrder_22 rfl (lv_at hl 0 rfl) ?_
          refine va_get (D := (dC, dI)) (ci := 4) (C := RX2) (T := TX2) (N := 14) hx hb hts inX2_followOrder_X2 hown hK.1 hP 0 pz_a0 rfl 6 (by decide) (hts (.fieldLink RX2 36 "PowderMill" "nextStep" "I") (by decide +kernel)) (fun _ h9 => h9) rfl dX2_followOrder_23 ?_
          refine lv_istore_n (lv' := [(1, .int (w 0 6)), (0, .ref (ad 0))]) hx hb dX2_followOrder_26 rfl hl (by decide) rfl (fun ls hl => ?_)
          refine lv_aload_n hx hb dX2_followOrder_27 rfl (lv_at hl 1 rfl) ?_
          refine lv_dup hx hb dX2_followOrder_28 rfl ?_
          refine va_get (D := (dC, dI)) (ci := 4) (C := RX2) (T := TX2) (N := 14) hx hb hts inX2_followOrder_X2 hown hK.1 hP 0 pz_a0 rfl 7 (by decide) (hts (.fieldLink RX2 39 "PowderMill" "latestBegun" "I") (by decide +kernel)) (fun _ h9 => h9) rfl dX2_followOrder_29 ?_
          refine lv_iconst (v := 1) hx hb dX2_followOrder_32 (by decide) ?_
          refine lv_iadd hx hb dX2_followOrder_33 ?_
          refine pr_putC (ci := 4) (C := RX2) (T := TX2) (N := 14) (ty := .int) (v := ((w 0 7) + 1)) hx hb hts inX2_followOrder_X2 tyX2 tyX2_ok nmX2 hown hK.1 hP hD hS 0 (by omega) pz_a0 rfl 7 (by decide) (hts (.fieldLink RX2 39 "PowderMill" "latestBegun" "I") (by decide +kernel)) (fun _ h9 => h9) rfl (by decide +kernel) rfl rfl (Nat.le_of_ble_eq_true rfl) rfl dX2_followOrder_34 (fun g_1 H locs e_g_1 hP hD hS => ?_)
          refine lv_aload_n hx hb dX2_followOrder_37 rfl (lv_at hl 1 rfl) ?_
          refine lv_iload_n hx hb dX2_followOrder_38 rfl (lv_at hl 0 rfl) ?_
          refine lv_iconst (v := 1) hx hb dX2_followOrder_39 (by decide) ?_
          refine lv_iadd hx hb dX2_followOrder_40 ?_
          refine pr_putC (ci := 4) (C := RX2) (T := TX2) (N := 14) (ty := .int) (v := ((w 0 6) + 1)) hx hb hts inX2_followOrder_X2 tyX2 tyX2_ok nmX2 hown hK.1 hP hD hS 0 (by omega) pz_a0 rfl 6 (by decide) (hts (.fieldLink RX2 36 "PowderMill" "nextStep" "I") (by decide +kernel)) (fun _ h9 => h9) rfl (by decide +kernel) rfl rfl (Nat.le_of_ble_eq_true rfl) rfl dX2_followOrder_41 (fun g_2 H locs e_g_2 hP hD hS => ?_)
          obtain ⟨-, i2, i3⟩ := ps_iterC hI c_6 c_17 (w2 := g_2) (by subst e_g_2 e_g_1; rfl)
          refine lv_aload_n hx hb dX2_followOrder_44 rfl (lv_at hl 1 rfl) ?_
          refine va_get (D := (dC, dI)) (ci := 4) (C := RX2) (T := TX2) (N := 14) hx hb hts inX2_followOrder_X2 hown hK.1 hP 0 pz_a0 rfl 3 (by decide) (hts (.fieldLink RX2 26 "PowderMill" "acts" "[I") (by decide +kernel)) (fun _ h9 => h9) rfl dX2_followOrder_45 ?_
          refine lv_iload_n hx hb dX2_followOrder_48 rfl (lv_at hl 0 rfl) ?_
          refine va_iald hx hb hK.1 hP 4 0 pz_a4 rfl i1 dX2_followOrder_49 ?_
          refine lv_bipush (v := 6) hx hb dX2_followOrder_50 (by decide) ?_
          refine lv_icmp_ne (tgt := 67) hx hb dX2_followOrder_52 (by decide) (fun c_52 => ?_) (fun c_52 => ?_)
          · obtain ⟨i4, i5, i6, i7⟩ := i3 c_52
            refine lv_aload_n hx hb dX2_followOrder_67 rfl (lv_at hl 1 rfl) ?_
            refine lv_iload_n hx hb dX2_followOrder_68 rfl (lv_at hl 0 rfl) ?_
            refine pr_Vi (As := [.int (w 0 6)]) (rest := []) ⟨hx, hb, hml, hown, hts⟩ (c_X2_perform (w 0 6) i2 i1) (cwV 1 hts gX2_followOrder_X2_perform rfl rfl rfl (by decide +kernel) ⟨Nat.le_of_ble_eq_true rfl, Nat.le_of_ble_eq_true rfl⟩) (va_recv hK.1 hP (ci := 4) rfl pz_a0) hK hP hD hS hA rfl hl.1 rfl (Nat.le_of_ble_eq_true rfl) ⟨Nat.le_of_ble_eq_true rfl, Nat.le_of_ble_eq_true rfl⟩ dX2_followOrder_69 (fun r_3 ⟨g_5, ph_6⟩ H locs e_q_4 hP hD hS => ?_)
            obtain ⟨e_r_3, e_q_4⟩ := e_q_4
            obtain ⟨e_g_5, e_ph_6⟩ : g_5 = (f_X2_perform g_2 v (w 0 6)).2.1 ∧ ph_6 = (f_X2_perform g_2 v (w 0 6)).2.2 := ⟨congrArg Prod.fst e_q_4, congrArg Prod.snd e_q_4⟩
            clear e_q_4
            dsimp only at hP hD
            refine lv_istore_n (lv' := [(2, .int r_3), (1, .int (w 0 6)), (0, .ref (ad 0))]) hx hb dX2_followOrder_72 rfl hl (by decide) rfl (fun ls hl => ?_)
            refine lv_iload_n hx hb dX2_followOrder_73 rfl (lv_at hl 0 rfl) ?_
            refine lv_if_eq (tgt := 88) hx hb dX2_followOrder_74 (by decide) (fun c_74 => ?_) (fun c_74 => ?_)
            · refine lv_goto (tgt := 0) hx hb dX2_followOrder_88 (by decide) ?_
              exact ih g_5 ph_6 _ _ _ (by subst e_ph_6 e_g_5 e_r_3 e_g_2 e_g_1; exact i6 c_74) (by rw [← hF]; subst e_ph_6 e_g_5 e_r_3 e_g_2 e_g_1; simp only [f_fo, if_neg c_6, if_pos c_17, if_neg c_52, if_pos c_74]) hP hD hS (lv_sub hl [2] rfl)
            · refine lv_aload_n hx hb dX2_followOrder_77 rfl (lv_at hl 2 rfl) ?_
              refine lv_iload_n hx hb dX2_followOrder_78 rfl (lv_at hl 0 rfl) ?_
              refine lv_iload_n hx hb dX2_followOrder_79 rfl (lv_at hl 1 rfl) ?_
              refine pr_Vi (As := [.int r_3, .int (w 0 6)]) (rest := []) ⟨hx, hb, hml, hown, hts⟩ (c_X2_isCaught r_3 (w 0 6) (by rw [e_g_5, e_ph_6]; exact i5) (by rw [e_r_3]; exact i4)) (cwV 2 hts gX2_followOrder_X2_isCaught rfl rfl rfl (by decide +kernel) ⟨Nat.le_of_ble_eq_true rfl, Nat.le_of_ble_eq_true rfl⟩) (va_recv hK.1 hP (ci := 4) rfl pz_a0) hK hP hD hS hA rfl hl.1 rfl (Nat.le_of_ble_eq_true rfl) ⟨Nat.le_of_ble_eq_true rfl, Nat.le_of_ble_eq_true rfl⟩ dX2_followOrder_80 (fun r_7 ⟨g_9, ph_10⟩ H locs e_q_8 hP hD hS => ?_)
              obtain ⟨e_r_7, e_q_8⟩ := e_q_8
              obtain ⟨e_g_9, e_ph_10⟩ : g_9 = (f_X2_isCaught g_5 ph_6 r_3 (w 0 6)).2.1 ∧ ph_10 = (f_X2_isCaught g_5 ph_6 r_3 (w 0 6)).2.2 := ⟨congrArg Prod.fst e_q_8, congrArg Prod.snd e_q_8⟩
              clear e_q_8
              dsimp only at hP hD
              refine lv_if_ne (tgt := 88) hx hb dX2_followOrder_83 (by decide) (fun c_83 => ?_) (fun c_83 => ?_)
              · refine lv_goto (tgt := 0) hx hb dX2_followOrder_88 (by decide) ?_
                exact ih g_9 ph_10 _ _ _ (by subst e_ph_10 e_g_9 e_r_7 e_ph_6 e_g_5 e_r_3 e_g_2 e_g_1; exact i7 c_74 c_83) (by rw [← hF]; subst e_ph_10 e_g_9 e_r_7 e_ph_6 e_g_5 e_r_3 e_g_2 e_g_1; simp only [f_fo, if_neg c_6, if_pos c_17, if_neg c_52, if_neg c_74, if_neg c_83]) hP hD hS (lv_sub hl [2] rfl)
              · refine lv_iload_n hx hb dX2_followOrder_86 rfl (lv_at hl 0 rfl) ?_
                exact pr_iret (g_9, ph_10) hx hb hr hlocks hP hD hS dX2_followOrder_87 (by subst e_ph_10 e_g_9 e_r_7 e_ph_6 e_g_5 e_r_3 e_g_2 e_g_1; unfold f_X2_followOrder; rw [← hF]; refine ⟨?_, ?_⟩ <;> simp only [f_fo, if_neg c_6, if_pos c_17, if_neg c_52, if_neg c_74, if_pos c_83])
          · refine lv_aload_n hx hb dX2_followOrder_55 rfl (lv_at hl 1 rfl) ?_
            refine lv_dup hx hb dX2_followOrder_56 rfl ?_
            refine va_get (D := (dC, dI)) (ci := 4) (C := RX2) (T := TX2) (N := 14) hx hb hts inX2_followOrder_X2 hown hK.1 hP 0 pz_a0 rfl 13 (by decide) (hts (.fieldLink RX2 57 "PowderMill" "quitRuns" "I") (by decide +kernel)) (fun _ h9 => h9) rfl dX2_followOrder_57 ?_
            refine lv_iconst (v := 1) hx hb dX2_followOrder_60 (by decide) ?_
            refine lv_iadd hx hb dX2_followOrder_61 ?_
            refine pr_putC (ci := 4) (C := RX2) (T := TX2) (N := 14) (ty := .int) (v := ((g_2 0 13) + 1)) hx hb hts inX2_followOrder_X2 tyX2 tyX2_ok nmX2 hown hK.1 hP hD hS 0 (by omega) pz_a0 rfl 13 (by decide) (hts (.fieldLink RX2 57 "PowderMill" "quitRuns" "I") (by decide +kernel)) (fun _ h9 => h9) rfl (by decide +kernel) rfl rfl (Nat.le_of_ble_eq_true rfl) rfl dX2_followOrder_62 (fun g_11 H locs e_g_11 hP hD hS => ?_)
            refine lv_iconst (v := 0) hx hb dX2_followOrder_65 (by decide) ?_
            exact pr_iret (g_11, v) hx hb hr hlocks hP hD hS dX2_followOrder_66 (by subst e_g_11 e_g_2 e_g_1; unfold f_X2_followOrder; rw [← hF]; refine ⟨?_, ?_⟩ <;> simp only [f_fo, if_neg c_6, if_pos c_17, if_pos c_52])
        · refine lv_iconst (v := 0) hx hb dX2_followOrder_20 (by decide) ?_
          exact pr_iret (w, v) hx hb hr hlocks hP hD hS dX2_followOrder_21 (by unfold f_X2_followOrder; rw [← hF]; refine ⟨?_, ?_⟩ <;> simp only [f_fo, if_neg c_6, if_neg c_17])
  exact key 81 g ph _ _ ls hI rfl hP hD hS hl
end
section
theorem inX2_run_X2 : ∀ w ∈ u_ws RX2 TX2 14, w ∈ wsX2_run := by decide +kernel
def f_X2_run (g : pz_M) (ph : Nat → Option Nat) : Int32 × pz_M × (Nat → Option Nat) :=
  let g_1 := pz_st g 0 10 ((g 0 10) + 1)
  let g_2 := pz_st g_1 0 7 0
  let g_3 := pz_st g_2 0 6 0
  let r_4 := (f_X2_followOrder g_3 ph).1
  let g_6 := (f_X2_followOrder g_3 ph).2.1
  let ph_7 := (f_X2_followOrder g_3 ph).2.2
  let g_10 := (f_X1_leaveDownTo g_6 ph_7 0).1
  let ph_11 := (f_X1_leaveDownTo g_6 ph_7 0).2
  if r_4 = (-3) then
    let g_13 := pz_st g_10 0 12 ((g_10 0 12) + 1)
    ((-3), g_13, ph_11)
  else
    if r_4 = 0 then
      (g_10 0 7, g_10, ph_11)
    else
      let g_12 := pz_st g_10 0 11 ((g_10 0 11) + 1)
      ((-10) - r_4, g_12, ph_11)
set_option maxHeartbeats 4000000 in
set_option maxRecDepth 100000 in
theorem c_X2_run {l : Launch} {dC : Nat → ClassId} {dI : Nat → Nat → Nat} {cl : Nat → ClassId} {ad : Nat → Nat} {ph : Nat → Option Nat} {o : Nat → Int64} {g h : pz_M} (hI : pz_IC 81 (pz_st (pz_st (pz_st g 0 10 (g 0 10 + 1)) 0 7 0) 0 6 0) ph) (hW : pz_W (f_X2_followOrder (pz_st (pz_st (pz_st g 0 10 (g 0 10 + 1)) 0 7 0) 0 6 0) ph).2.1 (f_X2_followOrder (pz_st (pz_st (pz_st g 0 10 (g 0 10 + 1)) 0 7 0) 0 6 0) ph).2.2) : pz_Mi l dC dI cl yX2_run wsX2_run { frames := 4, cells := 0, slots := 0, locals := 88 } [.ref (ad 0)] (pz_wd ad cl ph o g h) (fun u : pz_M × (Nat → Option Nat) => pz_wd ad cl u.2 o u.1 h) (fun r u => r = (f_X2_run g ph).1 ∧ u = (f_X2_run g ph).2) := by
  intro sz
  refine pr_ofW (Qc := pz_Qi dC dI _ _) (cb := cX2_run) (maxL := 2) (ret := (some .int)) (by decide) rfl (Nat.le_of_ble_eq_true rfl) ?_
  intro p e s m below meth c A ls hx hb hml hr hlocks hts hown hK hP hD hS hA hl
  have hl : lv_has ls 2 [(0, .ref (ad 0))] := hl
  refine lv_aload_n hx hb dX2_run_0 rfl (lv_at hl 0 rfl) ?_
  refine lv_dup hx hb dX2_run_1 rfl ?_
  refine va_get (D := (dC, dI)) (ci := 4) (C := RX2) (T := TX2) (N := 14) hx hb hts inX2_run_X2 hown hK.1 hP 0 pz_a0 rfl 10 (by decide) (hts (.fieldLink RX2 48 "PowderMill" "runs" "I") (by decide +kernel)) (fun _ h9 => h9) rfl dX2_run_2 ?_
  refine lv_iconst (v := 1) hx hb dX2_run_5 (by decide) ?_
  refine lv_iadd hx hb dX2_run_6 ?_
  refine pr_putC (ci := 4) (C := RX2) (T := TX2) (N := 14) (ty := .int) (v := ((g 0 10) + 1)) hx hb hts inX2_run_X2 tyX2 tyX2_ok nmX2 hown hK.1 hP hD hS 0 (by omega) pz_a0 rfl 10 (by decide) (hts (.fieldLink RX2 48 "PowderMill" "runs" "I") (by decide +kernel)) (fun _ h9 => h9) rfl (by decide +kernel) rfl rfl (Nat.le_of_ble_eq_true rfl) rfl dX2_run_7 (fun g_1 H locs e_g_1 hP hD hS => ?_)
  refine lv_aload_n hx hb dX2_run_10 rfl (lv_at hl 0 rfl) ?_
  refine lv_iconst (v := 0) hx hb dX2_run_11 (by decide) ?_
  refine pr_putC (ci := 4) (C := RX2) (T := TX2) (N := 14) (ty := .int) (v := 0) hx hb hts inX2_run_X2 tyX2 tyX2_ok nmX2 hown hK.1 hP hD hS 0 (by omega) pz_a0 rfl 7 (by decide) (hts (.fieldLink RX2 39 "PowderMill" "latestBegun" "I") (by decide +kernel)) (fun _ h9 => h9) rfl (by decide +kernel) rfl rfl (Nat.le_of_ble_eq_true rfl) rfl dX2_run_12 (fun g_2 H locs e_g_2 hP hD hS => ?_)
  refine lv_aload_n hx hb dX2_run_15 rfl (lv_at hl 0 rfl) ?_
  refine lv_iconst (v := 0) hx hb dX2_run_16 (by decide) ?_
  refine pr_putC (ci := 4) (C := RX2) (T := TX2) (N := 14) (ty := .int) (v := 0) hx hb hts inX2_run_X2 tyX2 tyX2_ok nmX2 hown hK.1 hP hD hS 0 (by omega) pz_a0 rfl 6 (by decide) (hts (.fieldLink RX2 36 "PowderMill" "nextStep" "I") (by decide +kernel)) (fun _ h9 => h9) rfl (by decide +kernel) rfl rfl (Nat.le_of_ble_eq_true rfl) rfl dX2_run_17 (fun g_3 H locs e_g_3 hP hD hS => ?_)
  refine lv_aload_n hx hb dX2_run_20 rfl (lv_at hl 0 rfl) ?_
  refine pr_Vi (As := []) (rest := []) ⟨hx, hb, hml, hown, hts⟩ (c_X2_followOrder (by subst e_g_3 e_g_2 e_g_1; exact hI)) (cwV 0 hts gX2_run_X2_followOrder rfl rfl rfl (by decide +kernel) ⟨Nat.le_of_ble_eq_true rfl, Nat.le_of_ble_eq_true rfl⟩) (va_recv hK.1 hP (ci := 4) rfl pz_a0) hK hP hD hS hA rfl hl.1 rfl (Nat.le_of_ble_eq_true rfl) ⟨Nat.le_of_ble_eq_true rfl, Nat.le_of_ble_eq_true rfl⟩ dX2_run_21 (fun r_4 ⟨g_6, ph_7⟩ H locs e_q_5 hP hD hS => ?_)
  obtain ⟨e_r_4, e_q_5⟩ := e_q_5
  obtain ⟨e_g_6, e_ph_7⟩ : g_6 = (f_X2_followOrder g_3 ph).2.1 ∧ ph_7 = (f_X2_followOrder g_3 ph).2.2 := ⟨congrArg Prod.fst e_q_5, congrArg Prod.snd e_q_5⟩
  clear e_q_5
  dsimp only at hP hD
  refine lv_istore_n (lv' := [(1, .int r_4), (0, .ref (ad 0))]) hx hb dX2_run_24 rfl hl (by decide) rfl (fun ls hl => ?_)
  refine lv_aload_n hx hb dX2_run_25 rfl (lv_at hl 1 rfl) ?_
  refine va_get (D := (dC, dI)) (ci := 4) (C := RX2) (T := TX2) (N := 14) hx hb hts inX2_run_X2 hown hK.1 hP 0 pz_a0 rfl 1 (by decide) (hts (.fieldLink RX2 18 "PowderMill" "path" "LPowderMill$Path;") (by decide +kernel)) (fun _ h9 => h9) rfl dX2_run_26 ?_
  refine lv_iconst (v := 0) hx hb dX2_run_29 (by decide) ?_
  refine pr_Vv (As := [.int 0]) (rest := []) ⟨hx, hb, hml, hown, hts⟩ (c_X1_leaveDownTo 0 (by subst e_ph_7 e_g_6 e_r_4 e_g_3 e_g_2 e_g_1; exact hW)) (cwV 1 hts gX2_run_X1_leaveDownTo rfl rfl rfl (by decide +kernel) ⟨Nat.le_of_ble_eq_true rfl, Nat.le_of_ble_eq_true rfl⟩) (va_recv hK.1 hP (ci := 3) rfl pz_a2) hK hP hD hS hA rfl hl.1 rfl (Nat.le_of_ble_eq_true rfl) ⟨Nat.le_of_ble_eq_true rfl, Nat.le_of_ble_eq_true rfl⟩ dX2_run_30 (fun ⟨g_10, ph_11⟩ H locs e_q_9 hP hD hS => ?_)
  obtain ⟨e_g_10, e_ph_11⟩ : g_10 = (f_X1_leaveDownTo g_6 ph_7 0).1 ∧ ph_11 = (f_X1_leaveDownTo g_6 ph_7 0).2 := ⟨congrArg Prod.fst e_q_9, congrArg Prod.snd e_q_9⟩
  clear e_q_9
  dsimp only at hP hD
  refine lv_iload_n hx hb dX2_run_33 rfl (lv_at hl 0 rfl) ?_
  refine lv_bipush (v := (-3)) hx hb dX2_run_34 (by decide) ?_
  refine lv_icmp_ne (tgt := 52) hx hb dX2_run_36 (by decide) (fun c_36 => ?_) (fun c_36 => ?_)
  · refine lv_iload_n hx hb dX2_run_52 rfl (lv_at hl 0 rfl) ?_
    refine lv_if_eq (tgt := 71) hx hb dX2_run_53 (by decide) (fun c_53 => ?_) (fun c_53 => ?_)
    · refine lv_aload_n hx hb dX2_run_71 rfl (lv_at hl 1 rfl) ?_
      refine va_get (D := (dC, dI)) (ci := 4) (C := RX2) (T := TX2) (N := 14) hx hb hts inX2_run_X2 hown hK.1 hP 0 pz_a0 rfl 7 (by decide) (hts (.fieldLink RX2 39 "PowderMill" "latestBegun" "I") (by decide +kernel)) (fun _ h9 => h9) rfl dX2_run_72 ?_
      exact pr_iret (g_10, ph_11) hx hb hr hlocks hP hD hS dX2_run_75 (by subst e_ph_11 e_g_10 e_ph_7 e_g_6 e_r_4 e_g_3 e_g_2 e_g_1; refine ⟨?_, ?_⟩ <;> (simp only [f_X2_run, if_neg c_36, if_pos c_53] <;> rfl))
    · refine lv_aload_n hx hb dX2_run_56 rfl (lv_at hl 1 rfl) ?_
      refine lv_dup hx hb dX2_run_57 rfl ?_
      refine va_get (D := (dC, dI)) (ci := 4) (C := RX2) (T := TX2) (N := 14) hx hb hts inX2_run_X2 hown hK.1 hP 0 pz_a0 rfl 11 (by decide) (hts (.fieldLink RX2 51 "PowderMill" "faultRuns" "I") (by decide +kernel)) (fun _ h9 => h9) rfl dX2_run_58 ?_
      refine lv_iconst (v := 1) hx hb dX2_run_61 (by decide) ?_
      refine lv_iadd hx hb dX2_run_62 ?_
      refine pr_putC (ci := 4) (C := RX2) (T := TX2) (N := 14) (ty := .int) (v := ((g_10 0 11) + 1)) hx hb hts inX2_run_X2 tyX2 tyX2_ok nmX2 hown hK.1 hP hD hS 0 (by omega) pz_a0 rfl 11 (by decide) (hts (.fieldLink RX2 51 "PowderMill" "faultRuns" "I") (by decide +kernel)) (fun _ h9 => h9) rfl (by decide +kernel) rfl rfl (Nat.le_of_ble_eq_true rfl) rfl dX2_run_63 (fun g_12 H locs e_g_12 hP hD hS => ?_)
      refine lv_bipush (v := (-10)) hx hb dX2_run_66 (by decide) ?_
      refine lv_iload_n hx hb dX2_run_68 rfl (lv_at hl 0 rfl) ?_
      refine lv_isub hx hb dX2_run_69 ?_
      exact pr_iret (g_12, ph_11) hx hb hr hlocks hP hD hS dX2_run_70 (by subst e_g_12 e_ph_11 e_g_10 e_ph_7 e_g_6 e_r_4 e_g_3 e_g_2 e_g_1; refine ⟨?_, ?_⟩ <;> (simp only [f_X2_run, if_neg c_36, if_neg c_53] <;> rfl))
  · refine lv_aload_n hx hb dX2_run_39 rfl (lv_at hl 1 rfl) ?_
    refine lv_dup hx hb dX2_run_40 rfl ?_
    refine va_get (D := (dC, dI)) (ci := 4) (C := RX2) (T := TX2) (N := 14) hx hb hts inX2_run_X2 hown hK.1 hP 0 pz_a0 rfl 12 (by decide) (hts (.fieldLink RX2 54 "PowderMill" "spentRuns" "I") (by decide +kernel)) (fun _ h9 => h9) rfl dX2_run_41 ?_
    refine lv_iconst (v := 1) hx hb dX2_run_44 (by decide) ?_
    refine lv_iadd hx hb dX2_run_45 ?_
    refine pr_putC (ci := 4) (C := RX2) (T := TX2) (N := 14) (ty := .int) (v := ((g_10 0 12) + 1)) hx hb hts inX2_run_X2 tyX2 tyX2_ok nmX2 hown hK.1 hP hD hS 0 (by omega) pz_a0 rfl 12 (by decide) (hts (.fieldLink RX2 54 "PowderMill" "spentRuns" "I") (by decide +kernel)) (fun _ h9 => h9) rfl (by decide +kernel) rfl rfl (Nat.le_of_ble_eq_true rfl) rfl dX2_run_46 (fun g_13 H locs e_g_13 hP hD hS => ?_)
    refine lv_bipush (v := (-3)) hx hb dX2_run_49 (by decide) ?_
    exact pr_iret (g_13, ph_11) hx hb hr hlocks hP hD hS dX2_run_51 (by subst e_g_13 e_ph_11 e_g_10 e_ph_7 e_g_6 e_r_4 e_g_3 e_g_2 e_g_1; refine ⟨?_, ?_⟩ <;> (simp only [f_X2_run, if_pos c_36] <;> rfl))
theorem inX3_run_X3 : ∀ w ∈ u_ws RX3 TX3 20, w ∈ wsX3_run := by decide +kernel
def f_mrl : Nat → pz_M → Int32 × pz_M
  | 0, w => (0, w)
  | n + 1, w =>
    if (w 18 8) ≤ (w 18 15) then
      if (w 18 16) = 0 then
        let h_101 := pz_st w 31 (5 : Int32).toNatClampNeg ((w 31 (5 : Int32).toNatClampNeg) + 0)
        (h_101 18 17, h_101)
      else
        let h_102 := pz_st w 31 (5 : Int32).toNatClampNeg ((w 31 (5 : Int32).toNatClampNeg) + 1)
        (h_102 18 17, h_102)
    else
      if (w 18 16) = 0 then
        if (w 18 17) = 80 then
          let h_116 := pz_st w 31 (4 : Int32).toNatClampNeg ((w 31 (4 : Int32).toNatClampNeg) + 1)
          ((-3), h_116)
        else
          let h_105 := pz_st w 18 17 ((w 18 17) + 1)
          let h_106 := pz_st h_105 18 15 ((h_105 18 15) + 1)
          let r_107 := (f_X3_does h_106 (h_106 26 (h_105 18 15).toNatClampNeg) (h_106 27 (h_105 18 15).toNatClampNeg)).1
          let h_109 := (f_X3_does h_106 (h_106 26 (h_105 18 15).toNatClampNeg) (h_106 27 (h_105 18 15).toNatClampNeg)).2
          if r_107 = 0 then
            f_mrl n h_109
          else
            let h_110 := pz_st h_109 18 18 (h_105 18 15)
            let h_111 := pz_st h_110 31 (10 + r_107).toNatClampNeg ((h_110 31 (10 + r_107).toNatClampNeg) + 1)
            let r_112 := (f_X3_isCaught h_111).1
            let h_114 := (f_X3_isCaught h_111).2
            if r_112 = 0 then
              let h_115 := pz_st h_114 31 (3 : Int32).toNatClampNeg ((h_114 31 (3 : Int32).toNatClampNeg) + 1)
              ((-10) - r_107, h_115)
            else
              f_mrl n h_114
      else
        if (w 18 16) = 0 then
          let h_103 := pz_st w 31 (5 : Int32).toNatClampNeg ((w 31 (5 : Int32).toNatClampNeg) + 0)
          (h_103 18 17, h_103)
        else
          let h_104 := pz_st w 31 (5 : Int32).toNatClampNeg ((w 31 (5 : Int32).toNatClampNeg) + 1)
          (h_104 18 17, h_104)
def f_X3_run (h : pz_M) : Int32 × pz_M :=
  let h_1 := pz_st h 18 0 0
  let h_2 := pz_st h_1 31 (2 : Int32).toNatClampNeg ((h_1 31 (2 : Int32).toNatClampNeg) + 1)
  let h_3 := pz_st h_2 18 17 0
  let h_4 := pz_st h_3 18 11 0
  let h_5 := pz_st h_4 18 15 0
  let h_6 := pz_st h_5 18 16 0
  f_mrl 82 h_6
set_option maxHeartbeats 4000000 in
set_option maxRecDepth 100000 in
theorem c_X3_run {l : Launch} {dC : Nat → ClassId} {dI : Nat → Nat → Nat} {cl : Nat → ClassId} {ad : Nat → Nat} {ph : Nat → Option Nat} {o : Nat → Int64} {g h : pz_M} (hI : pz_IM 82 (pz_st (pz_st (pz_st (pz_st (pz_st (pz_st h 18 0 0) 31 2 (h 31 2 + 1)) 18 17 0) 18 11 0) 18 15 0) 18 16 0)) : pz_Mi l dC dI cl yX3_run wsX3_run { frames := 3, cells := 0, slots := 0, locals := 66 } [.ref (ad 18)] (pz_wd ad cl ph o g h) (fun u : pz_M => pz_wd ad cl ph o g u) (fun r u => r = (f_X3_run h).1 ∧ u = (f_X3_run h).2) := by
  intro sz
  refine pr_ofW (Qc := pz_Qi dC dI _ _) (cb := cX3_run) (maxL := 3) (ret := (some .int)) (by decide) rfl (Nat.le_of_ble_eq_true rfl) ?_
  intro p e s m below meth c A ls hx hb hml hr hlocks hts hown hK hP hD hS hA hl
  have hl : lv_has ls 3 [(0, .ref (ad 18))] := hl
  have key : ∀ (n : Nat) (w : pz_M) (H : Heap) (locs : List Loc) (ls : Array Slot), pz_IM n w → f_mrl n w = f_X3_run h → va_P (dC, dI) vwCl (pz_wd ad cl ph o g w) H → va_D A (pz_wd ad cl ph o g w) → va_S A s.heap H locs → lv_has ls 3 [(0, .ref (ad 18))] → W p l e { frames := 3, cells := 0, slots := 0, locals := 66 } s m [.ref (ad 18)].toArray below meth c H locs 0 0 (MQ below (pz_Qi dC dI (fun r u => r = (f_X3_run h).1 ∧ u = (f_X3_run h).2) (fun u : pz_M => pz_wd ad cl ph o g u) A) [.ref (ad 18)].toArray s 0 0 A) (F0 m 35 ls []) := by
    intro n
    induction n with
    | zero => intro w H locs ls hI; obtain ⟨d, gg, pp, b, -, -, -, q⟩ := hI; omega
    | succ n ih =>
      intro w H locs ls hI hF hP hD hS hl
      refine lv_aload_n hx hb dX3_run_35 rfl (lv_at hl 0 rfl) ?_
      refine va_get (D := (dC, dI)) (ci := 5) (C := RX3) (T := TX3) (N := 20) hx hb hts inX3_run_X3 hown hK.1 hP 18 pz_a18 rfl 15 (by decide) (hts (.fieldLink RX3 75 "PowderMillModel" "next" "I") (by decide +kernel)) (fun _ h9 => h9) rfl dX3_run_36 ?_
      refine lv_aload_n hx hb dX3_run_39 rfl (lv_at hl 0 rfl) ?_
      refine va_get (D := (dC, dI)) (ci := 5) (C := RX3) (T := TX3) (N := 20) hx hb hts inX3_run_X3 hown hK.1 hP 18 pz_a18 rfl 8 (by decide) (hts (.fieldLink RX3 54 "PowderMillModel" "many" "I") (by decide +kernel)) (fun _ h9 => h9) rfl dX3_run_40 ?_
      refine lv_icmp_ge (tgt := 167) hx hb dX3_run_43 (by decide) (fun c_43 => ?_) (fun c_43 => ?_)
      · refine lv_aload_n hx hb dX3_run_167 rfl (lv_at hl 0 rfl) ?_
        refine va_get (D := (dC, dI)) (ci := 5) (C := RX3) (T := TX3) (N := 20) hx hb hts inX3_run_X3 hown hK.1 hP 18 pz_a18 rfl 19 (by decide) (hts (.fieldLink RX3 51 "PowderMillModel" "counts" "[I") (by decide +kernel)) (fun _ h9 => h9) rfl dX3_run_168 ?_
        refine lv_iconst (v := 5) hx hb dX3_run_171 (by decide) ?_
        refine lv_dup2_11 hx hb dX3_run_172 rfl rfl ?_
        refine va_iald hx hb hK.1 hP 31 0 pz_a31 rfl (vp_in_nI (n := 5) (N := 17) (by decide) (by decide)) dX3_run_173 ?_
        refine lv_aload_n hx hb dX3_run_174 rfl (lv_at hl 0 rfl) ?_
        refine va_get (D := (dC, dI)) (ci := 5) (C := RX3) (T := TX3) (N := 20) hx hb hts inX3_run_X3 hown hK.1 hP 18 pz_a18 rfl 16 (by decide) (hts (.fieldLink RX3 98 "PowderMillModel" "quits" "Z") (by decide +kernel)) (fun _ h9 => h9) rfl dX3_run_175 ?_
        refine lv_if_eq (tgt := 185) hx hb dX3_run_178 (by decide) (fun c_178 => ?_) (fun c_178 => ?_)
        · refine lv_iconst (v := 0) hx hb dX3_run_185 (by decide) ?_
          refine lv_iadd hx hb dX3_run_186 ?_
          refine pr_iastR hx hb hK.1 hP hD hS 31 (by omega) (by omega) pz_a31 (fun _ => rfl) (vp_in_nI (n := 5) (N := 17) (by decide) (by decide)) dX3_run_187 (fun h_101 H locs e_h_101 hP hD hS => ?_)
          refine lv_aload_n hx hb dX3_run_188 rfl (lv_at hl 0 rfl) ?_
          refine va_get (D := (dC, dI)) (ci := 5) (C := RX3) (T := TX3) (N := 20) hx hb hts inX3_run_X3 hown hK.1 hP 18 pz_a18 rfl 17 (by decide) (hts (.fieldLink RX3 102 "PowderMillModel" "begun" "I") (by decide +kernel)) (fun _ h9 => h9) rfl dX3_run_189 ?_
          exact pr_iret (h_101) hx hb hr hlocks hP hD hS dX3_run_192 (by subst e_h_101; rw [← hF]; refine ⟨?_, ?_⟩ <;> simp only [f_mrl, if_pos c_43, if_pos c_178])
        · refine lv_iconst (v := 1) hx hb dX3_run_181 (by decide) ?_
          refine lv_goto (tgt := 186) hx hb dX3_run_182 (by decide) ?_
          refine lv_iadd hx hb dX3_run_186 ?_
          refine pr_iastR hx hb hK.1 hP hD hS 31 (by omega) (by omega) pz_a31 (fun _ => rfl) (vp_in_nI (n := 5) (N := 17) (by decide) (by decide)) dX3_run_187 (fun h_102 H locs e_h_102 hP hD hS => ?_)
          refine lv_aload_n hx hb dX3_run_188 rfl (lv_at hl 0 rfl) ?_
          refine va_get (D := (dC, dI)) (ci := 5) (C := RX3) (T := TX3) (N := 20) hx hb hts inX3_run_X3 hown hK.1 hP 18 pz_a18 rfl 17 (by decide) (hts (.fieldLink RX3 102 "PowderMillModel" "begun" "I") (by decide +kernel)) (fun _ h9 => h9) rfl dX3_run_189 ?_
          exact pr_iret (h_102) hx hb hr hlocks hP hD hS dX3_run_192 (by subst e_h_102; rw [← hF]; refine ⟨?_, ?_⟩ <;> simp only [f_mrl, if_pos c_43, if_neg c_178])
      · refine lv_aload_n hx hb dX3_run_46 rfl (lv_at hl 0 rfl) ?_
        refine va_get (D := (dC, dI)) (ci := 5) (C := RX3) (T := TX3) (N := 20) hx hb hts inX3_run_X3 hown hK.1 hP 18 pz_a18 rfl 16 (by decide) (hts (.fieldLink RX3 98 "PowderMillModel" "quits" "Z") (by decide +kernel)) (fun _ h9 => h9) rfl dX3_run_47 ?_
        refine lv_if_ne (tgt := 167) hx hb dX3_run_50 (by decide) (fun c_50 => ?_) (fun c_50 => ?_)
        · refine lv_aload_n hx hb dX3_run_167 rfl (lv_at hl 0 rfl) ?_
          refine va_get (D := (dC, dI)) (ci := 5) (C := RX3) (T := TX3) (N := 20) hx hb hts inX3_run_X3 hown hK.1 hP 18 pz_a18 rfl 19 (by decide) (hts (.fieldLink RX3 51 "PowderMillModel" "counts" "[I") (by decide +kernel)) (fun _ h9 => h9) rfl dX3_run_168 ?_
          refine lv_iconst (v := 5) hx hb dX3_run_171 (by decide) ?_
          refine lv_dup2_11 hx hb dX3_run_172 rfl rfl ?_
          refine va_iald hx hb hK.1 hP 31 0 pz_a31 rfl (vp_in_nI (n := 5) (N := 17) (by decide) (by decide)) dX3_run_173 ?_
          refine lv_aload_n hx hb dX3_run_174 rfl (lv_at hl 0 rfl) ?_
          refine va_get (D := (dC, dI)) (ci := 5) (C := RX3) (T := TX3) (N := 20) hx hb hts inX3_run_X3 hown hK.1 hP 18 pz_a18 rfl 16 (by decide) (hts (.fieldLink RX3 98 "PowderMillModel" "quits" "Z") (by decide +kernel)) (fun _ h9 => h9) rfl dX3_run_175 ?_
          refine lv_if_eq (tgt := 185) hx hb dX3_run_178 (by decide) (fun c_178 => ?_) (fun c_178 => ?_)
          · refine lv_iconst (v := 0) hx hb dX3_run_185 (by decide) ?_
            refine lv_iadd hx hb dX3_run_186 ?_
            refine pr_iastR hx hb hK.1 hP hD hS 31 (by omega) (by omega) pz_a31 (fun _ => rfl) (vp_in_nI (n := 5) (N := 17) (by decide) (by decide)) dX3_run_187 (fun h_103 H locs e_h_103 hP hD hS => ?_)
            refine lv_aload_n hx hb dX3_run_188 rfl (lv_at hl 0 rfl) ?_
            refine va_get (D := (dC, dI)) (ci := 5) (C := RX3) (T := TX3) (N := 20) hx hb hts inX3_run_X3 hown hK.1 hP 18 pz_a18 rfl 17 (by decide) (hts (.fieldLink RX3 102 "PowderMillModel" "begun" "I") (by decide +kernel)) (fun _ h9 => h9) rfl dX3_run_189 ?_
            exact absurd c_178 c_50
          · refine lv_iconst (v := 1) hx hb dX3_run_181 (by decide) ?_
            refine lv_goto (tgt := 186) hx hb dX3_run_182 (by decide) ?_
            refine lv_iadd hx hb dX3_run_186 ?_
            refine pr_iastR hx hb hK.1 hP hD hS 31 (by omega) (by omega) pz_a31 (fun _ => rfl) (vp_in_nI (n := 5) (N := 17) (by decide) (by decide)) dX3_run_187 (fun h_104 H locs e_h_104 hP hD hS => ?_)
            refine lv_aload_n hx hb dX3_run_188 rfl (lv_at hl 0 rfl) ?_
            refine va_get (D := (dC, dI)) (ci := 5) (C := RX3) (T := TX3) (N := 20) hx hb hts inX3_run_X3 hown hK.1 hP 18 pz_a18 rfl 17 (by decide) (hts (.fieldLink RX3 102 "PowderMillModel" "begun" "I") (by decide +kernel)) (fun _ h9 => h9) rfl dX3_run_189 ?_
            exact pr_iret (h_104) hx hb hr hlocks hP hD hS dX3_run_192 (by subst e_h_104; rw [← hF]; refine ⟨?_, ?_⟩ <;> simp only [f_mrl, if_neg c_43, if_neg c_50, if_neg c_178])
        · refine lv_aload_n hx hb dX3_run_53 rfl (lv_at hl 0 rfl) ?_
          refine va_get (D := (dC, dI)) (ci := 5) (C := RX3) (T := TX3) (N := 20) hx hb hts inX3_run_X3 hown hK.1 hP 18 pz_a18 rfl 17 (by decide) (hts (.fieldLink RX3 102 "PowderMillModel" "begun" "I") (by decide +kernel)) (fun _ h9 => h9) rfl dX3_run_54 ?_
          refine lv_bipush (v := 80) hx hb dX3_run_57 (by decide) ?_
          refine lv_icmp_ne (tgt := 75) hx hb dX3_run_59 (by decide) (fun c_59 => ?_) (fun c_59 => ?_)
          · refine lv_aload_n hx hb dX3_run_75 rfl (lv_at hl 0 rfl) ?_
            refine lv_dup hx hb dX3_run_76 rfl ?_
            refine va_get (D := (dC, dI)) (ci := 5) (C := RX3) (T := TX3) (N := 20) hx hb hts inX3_run_X3 hown hK.1 hP 18 pz_a18 rfl 17 (by decide) (hts (.fieldLink RX3 102 "PowderMillModel" "begun" "I") (by decide +kernel)) (fun _ h9 => h9) rfl dX3_run_77 ?_
            refine lv_iconst (v := 1) hx hb dX3_run_80 (by decide) ?_
            refine lv_iadd hx hb dX3_run_81 ?_
            refine pr_putR (ci := 5) (C := RX3) (T := TX3) (N := 20) (ty := .int) (v := ((w 18 17) + 1)) hx hb hts inX3_run_X3 tyX3 tyX3_ok nmX3 hown hK.1 hP hD hS 18 (by omega) (by omega) pz_a18 rfl 17 (by decide) (hts (.fieldLink RX3 102 "PowderMillModel" "begun" "I") (by decide +kernel)) (fun _ h9 => h9) rfl (by decide +kernel) rfl rfl (Nat.le_of_ble_eq_true rfl) rfl dX3_run_82 (fun h_105 H locs e_h_105 hP hD hS => ?_)
            refine lv_aload_n hx hb dX3_run_85 rfl (lv_at hl 0 rfl) ?_
            refine va_get (D := (dC, dI)) (ci := 5) (C := RX3) (T := TX3) (N := 20) hx hb hts inX3_run_X3 hown hK.1 hP 18 pz_a18 rfl 15 (by decide) (hts (.fieldLink RX3 75 "PowderMillModel" "next" "I") (by decide +kernel)) (fun _ h9 => h9) rfl dX3_run_86 ?_
            refine lv_istore_n (lv' := [(1, .int (h_105 18 15)), (0, .ref (ad 18))]) hx hb dX3_run_89 rfl hl (by decide) rfl (fun ls hl => ?_)
            refine lv_aload_n hx hb dX3_run_90 rfl (lv_at hl 1 rfl) ?_
            refine lv_dup hx hb dX3_run_91 rfl ?_
            refine va_get (D := (dC, dI)) (ci := 5) (C := RX3) (T := TX3) (N := 20) hx hb hts inX3_run_X3 hown hK.1 hP 18 pz_a18 rfl 15 (by decide) (hts (.fieldLink RX3 75 "PowderMillModel" "next" "I") (by decide +kernel)) (fun _ h9 => h9) rfl dX3_run_92 ?_
            refine lv_iconst (v := 1) hx hb dX3_run_95 (by decide) ?_
            refine lv_iadd hx hb dX3_run_96 ?_
            refine pr_putR (ci := 5) (C := RX3) (T := TX3) (N := 20) (ty := .int) (v := ((h_105 18 15) + 1)) hx hb hts inX3_run_X3 tyX3 tyX3_ok nmX3 hown hK.1 hP hD hS 18 (by omega) (by omega) pz_a18 rfl 15 (by decide) (hts (.fieldLink RX3 75 "PowderMillModel" "next" "I") (by decide +kernel)) (fun _ h9 => h9) rfl (by decide +kernel) rfl rfl (Nat.le_of_ble_eq_true rfl) rfl dX3_run_97 (fun h_106 H locs e_h_106 hP hD hS => ?_)
            obtain ⟨i1, i2, i3, i4⟩ := ps_iterM hI c_43 c_59 e_h_105 e_h_106
            refine lv_aload_n hx hb dX3_run_100 rfl (lv_at hl 1 rfl) ?_
            refine lv_aload_n hx hb dX3_run_101 rfl (lv_at hl 1 rfl) ?_
            refine va_get (D := (dC, dI)) (ci := 5) (C := RX3) (T := TX3) (N := 20) hx hb hts inX3_run_X3 hown hK.1 hP 18 pz_a18 rfl 9 (by decide) (hts (.fieldLink RX3 32 "PowderMillModel" "acts" "[I") (by decide +kernel)) (fun _ h9 => h9) rfl dX3_run_102 ?_
            refine lv_iload_n hx hb dX3_run_105 rfl (lv_at hl 0 rfl) ?_
            refine va_iald hx hb hK.1 hP 26 0 pz_a26 rfl i1 dX3_run_106 ?_
            refine lv_aload_n hx hb dX3_run_107 rfl (lv_at hl 1 rfl) ?_
            refine va_get (D := (dC, dI)) (ci := 5) (C := RX3) (T := TX3) (N := 20) hx hb hts inX3_run_X3 hown hK.1 hP 18 pz_a18 rfl 10 (by decide) (hts (.fieldLink RX3 35 "PowderMillModel" "numbers" "[I") (by decide +kernel)) (fun _ h9 => h9) rfl dX3_run_108 ?_
            refine lv_iload_n hx hb dX3_run_111 rfl (lv_at hl 0 rfl) ?_
            refine va_iald hx hb hK.1 hP 27 0 pz_a27 rfl i1 dX3_run_112 ?_
            refine pr_Vi (As := [.int (h_106 26 (h_105 18 15).toNatClampNeg), .int (h_106 27 (h_105 18 15).toNatClampNeg)]) (rest := []) ⟨hx, hb, hml, hown, hts⟩ (c_X3_does (h_106 26 (h_105 18 15).toNatClampNeg) (h_106 27 (h_105 18 15).toNatClampNeg) i2) (cwV 2 hts gX3_run_X3_does rfl rfl rfl (by decide +kernel) ⟨Nat.le_of_ble_eq_true rfl, Nat.le_of_ble_eq_true rfl⟩) (va_recv hK.1 hP (ci := 5) rfl pz_a18) hK hP hD hS hA rfl hl.1 rfl (Nat.le_of_ble_eq_true rfl) ⟨Nat.le_of_ble_eq_true rfl, Nat.le_of_ble_eq_true rfl⟩ dX3_run_113 (fun r_107 h_109 H locs e_q_108 hP hD hS => ?_)
            obtain ⟨e_r_107, e_h_109⟩ := e_q_108
            refine lv_istore_n (lv' := [(2, .int r_107), (1, .int (h_105 18 15)), (0, .ref (ad 18))]) hx hb dX3_run_116 rfl hl (by decide) rfl (fun ls hl => ?_)
            refine lv_iload_n hx hb dX3_run_117 rfl (lv_at hl 0 rfl) ?_
            refine lv_if_ne (tgt := 124) hx hb dX3_run_118 (by decide) (fun c_118 => ?_) (fun c_118 => ?_)
            · obtain ⟨i5, i6⟩ := i4 (by rw [← e_r_107]; exact c_118)
              rw [← e_r_107] at i5
              refine lv_aload_n hx hb dX3_run_124 rfl (lv_at hl 2 rfl) ?_
              refine lv_iload_n hx hb dX3_run_125 rfl (lv_at hl 1 rfl) ?_
              refine pr_putR (ci := 5) (C := RX3) (T := TX3) (N := 20) (ty := .int) (v := (h_105 18 15)) hx hb hts inX3_run_X3 tyX3 tyX3_ok nmX3 hown hK.1 hP hD hS 18 (by omega) (by omega) pz_a18 rfl 18 (by decide) (hts (.fieldLink RX3 47 "PowderMillModel" "where" "I") (by decide +kernel)) (fun _ h9 => h9) rfl (by decide +kernel) rfl rfl (Nat.le_of_ble_eq_true rfl) rfl dX3_run_126 (fun h_110 H locs e_h_110 hP hD hS => ?_)
              refine lv_aload_n hx hb dX3_run_129 rfl (lv_at hl 2 rfl) ?_
              refine va_get (D := (dC, dI)) (ci := 5) (C := RX3) (T := TX3) (N := 20) hx hb hts inX3_run_X3 hown hK.1 hP 18 pz_a18 rfl 19 (by decide) (hts (.fieldLink RX3 51 "PowderMillModel" "counts" "[I") (by decide +kernel)) (fun _ h9 => h9) rfl dX3_run_130 ?_
              refine lv_bipush (v := 10) hx hb dX3_run_133 (by decide) ?_
              refine lv_iload_n hx hb dX3_run_135 rfl (lv_at hl 0 rfl) ?_
              refine lv_iadd hx hb dX3_run_136 ?_
              refine lv_dup2_11 hx hb dX3_run_137 rfl rfl ?_
              refine va_iald hx hb hK.1 hP 31 0 pz_a31 rfl i5 dX3_run_138 ?_
              refine lv_iconst (v := 1) hx hb dX3_run_139 (by decide) ?_
              refine lv_iadd hx hb dX3_run_140 ?_
              refine pr_iastR hx hb hK.1 hP hD hS 31 (by omega) (by omega) pz_a31 (fun _ => rfl) i5 dX3_run_141 (fun h_111 H locs e_h_111 hP hD hS => ?_)
              refine lv_aload_n hx hb dX3_run_142 rfl (lv_at hl 2 rfl) ?_
              refine pr_Vi (As := []) (rest := []) ⟨hx, hb, hml, hown, hts⟩ (c_X3_isCaught (i6 h_110 h_111 (by rw [e_h_110, e_h_109]) (by rw [e_h_111, e_r_107])).1) (cwV 0 hts gX3_run_X3_isCaught rfl rfl rfl (by decide +kernel) ⟨Nat.le_of_ble_eq_true rfl, Nat.le_of_ble_eq_true rfl⟩) (va_recv hK.1 hP (ci := 5) rfl pz_a18) hK hP hD hS hA rfl hl.1 rfl (Nat.le_of_ble_eq_true rfl) ⟨Nat.le_of_ble_eq_true rfl, Nat.le_of_ble_eq_true rfl⟩ dX3_run_143 (fun r_112 h_114 H locs e_q_113 hP hD hS => ?_)
              obtain ⟨e_r_112, e_h_114⟩ := e_q_113
              refine lv_if_ne (tgt := 164) hx hb dX3_run_146 (by decide) (fun c_146 => ?_) (fun c_146 => ?_)
              · refine lv_goto (tgt := 35) hx hb dX3_run_164 (by decide) ?_
                exact ih h_114 _ _ _ (by subst e_h_114 e_r_112 e_h_111 e_h_110 e_h_109 e_r_107 e_h_106 e_h_105; exact (i6 _ _ rfl rfl).2 c_146) (by rw [← hF]; subst e_h_114 e_r_112 e_h_111 e_h_110 e_h_109 e_r_107 e_h_106 e_h_105; simp only [f_mrl, if_neg c_43, if_pos c_50, if_neg c_59, if_neg c_118, if_neg c_146]) hP hD hS (lv_sub hl [2] rfl)
              · refine lv_aload_n hx hb dX3_run_149 rfl (lv_at hl 2 rfl) ?_
                refine va_get (D := (dC, dI)) (ci := 5) (C := RX3) (T := TX3) (N := 20) hx hb hts inX3_run_X3 hown hK.1 hP 18 pz_a18 rfl 19 (by decide) (hts (.fieldLink RX3 51 "PowderMillModel" "counts" "[I") (by decide +kernel)) (fun _ h9 => h9) rfl dX3_run_150 ?_
                refine lv_iconst (v := 3) hx hb dX3_run_153 (by decide) ?_
                refine lv_dup2_11 hx hb dX3_run_154 rfl rfl ?_
                refine va_iald hx hb hK.1 hP 31 0 pz_a31 rfl (vp_in_nI (n := 3) (N := 17) (by decide) (by decide)) dX3_run_155 ?_
                refine lv_iconst (v := 1) hx hb dX3_run_156 (by decide) ?_
                refine lv_iadd hx hb dX3_run_157 ?_
                refine pr_iastR hx hb hK.1 hP hD hS 31 (by omega) (by omega) pz_a31 (fun _ => rfl) (vp_in_nI (n := 3) (N := 17) (by decide) (by decide)) dX3_run_158 (fun h_115 H locs e_h_115 hP hD hS => ?_)
                refine lv_bipush (v := (-10)) hx hb dX3_run_159 (by decide) ?_
                refine lv_iload_n hx hb dX3_run_161 rfl (lv_at hl 0 rfl) ?_
                refine lv_isub hx hb dX3_run_162 ?_
                exact pr_iret (h_115) hx hb hr hlocks hP hD hS dX3_run_163 (by subst e_h_115 e_h_114 e_r_112 e_h_111 e_h_110 e_h_109 e_r_107 e_h_106 e_h_105; rw [← hF]; refine ⟨?_, ?_⟩ <;> simp only [f_mrl, if_neg c_43, if_pos c_50, if_neg c_59, if_neg c_118, if_pos c_146])
            · refine lv_goto (tgt := 35) hx hb dX3_run_121 (by decide) ?_
              exact ih h_109 _ _ _ (by subst e_h_109 e_r_107 e_h_106 e_h_105; exact i3 c_118) (by rw [← hF]; subst e_h_109 e_r_107 e_h_106 e_h_105; simp only [f_mrl, if_neg c_43, if_pos c_50, if_neg c_59, if_pos c_118]) hP hD hS (lv_sub hl [2] rfl)
          · refine lv_aload_n hx hb dX3_run_62 rfl (lv_at hl 0 rfl) ?_
            refine va_get (D := (dC, dI)) (ci := 5) (C := RX3) (T := TX3) (N := 20) hx hb hts inX3_run_X3 hown hK.1 hP 18 pz_a18 rfl 19 (by decide) (hts (.fieldLink RX3 51 "PowderMillModel" "counts" "[I") (by decide +kernel)) (fun _ h9 => h9) rfl dX3_run_63 ?_
            refine lv_iconst (v := 4) hx hb dX3_run_66 (by decide) ?_
            refine lv_dup2_11 hx hb dX3_run_67 rfl rfl ?_
            refine va_iald hx hb hK.1 hP 31 0 pz_a31 rfl (vp_in_nI (n := 4) (N := 17) (by decide) (by decide)) dX3_run_68 ?_
            refine lv_iconst (v := 1) hx hb dX3_run_69 (by decide) ?_
            refine lv_iadd hx hb dX3_run_70 ?_
            refine pr_iastR hx hb hK.1 hP hD hS 31 (by omega) (by omega) pz_a31 (fun _ => rfl) (vp_in_nI (n := 4) (N := 17) (by decide) (by decide)) dX3_run_71 (fun h_116 H locs e_h_116 hP hD hS => ?_)
            refine lv_bipush (v := (-3)) hx hb dX3_run_72 (by decide) ?_
            exact pr_iret (h_116) hx hb hr hlocks hP hD hS dX3_run_74 (by subst e_h_116; rw [← hF]; refine ⟨?_, ?_⟩ <;> simp only [f_mrl, if_neg c_43, if_pos c_50, if_pos c_59])
  refine lv_aload_n hx hb dX3_run_0 rfl (lv_at hl 0 rfl) ?_
  refine lv_iconst (v := 0) hx hb dX3_run_1 (by decide) ?_
  refine pr_putR (ci := 5) (C := RX3) (T := TX3) (N := 20) (ty := .int) (v := 0) hx hb hts inX3_run_X3 tyX3 tyX3_ok nmX3 hown hK.1 hP hD hS 18 (by omega) (by omega) pz_a18 rfl 0 (by decide) (hts (.fieldLink RX3 57 "PowderMillModel" "thrown" "I") (by decide +kernel)) (fun _ h9 => h9) rfl (by decide +kernel) rfl rfl (Nat.le_of_ble_eq_true rfl) rfl dX3_run_2 (fun h_1 H locs e_h_1 hP hD hS => ?_)
  refine lv_aload_n hx hb dX3_run_5 rfl (lv_at hl 0 rfl) ?_
  refine va_get (D := (dC, dI)) (ci := 5) (C := RX3) (T := TX3) (N := 20) hx hb hts inX3_run_X3 hown hK.1 hP 18 pz_a18 rfl 19 (by decide) (hts (.fieldLink RX3 51 "PowderMillModel" "counts" "[I") (by decide +kernel)) (fun _ h9 => h9) rfl dX3_run_6 ?_
  refine lv_iconst (v := 2) hx hb dX3_run_9 (by decide) ?_
  refine lv_dup2_11 hx hb dX3_run_10 rfl rfl ?_
  refine va_iald hx hb hK.1 hP 31 0 pz_a31 rfl (vp_in_nI (n := 2) (N := 17) (by decide) (by decide)) dX3_run_11 ?_
  refine lv_iconst (v := 1) hx hb dX3_run_12 (by decide) ?_
  refine lv_iadd hx hb dX3_run_13 ?_
  refine pr_iastR hx hb hK.1 hP hD hS 31 (by omega) (by omega) pz_a31 (fun _ => rfl) (vp_in_nI (n := 2) (N := 17) (by decide) (by decide)) dX3_run_14 (fun h_2 H locs e_h_2 hP hD hS => ?_)
  refine lv_aload_n hx hb dX3_run_15 rfl (lv_at hl 0 rfl) ?_
  refine lv_iconst (v := 0) hx hb dX3_run_16 (by decide) ?_
  refine pr_putR (ci := 5) (C := RX3) (T := TX3) (N := 20) (ty := .int) (v := 0) hx hb hts inX3_run_X3 tyX3 tyX3_ok nmX3 hown hK.1 hP hD hS 18 (by omega) (by omega) pz_a18 rfl 17 (by decide) (hts (.fieldLink RX3 102 "PowderMillModel" "begun" "I") (by decide +kernel)) (fun _ h9 => h9) rfl (by decide +kernel) rfl rfl (Nat.le_of_ble_eq_true rfl) rfl dX3_run_17 (fun h_3 H locs e_h_3 hP hD hS => ?_)
  refine lv_aload_n hx hb dX3_run_20 rfl (lv_at hl 0 rfl) ?_
  refine lv_iconst (v := 0) hx hb dX3_run_21 (by decide) ?_
  refine pr_putR (ci := 5) (C := RX3) (T := TX3) (N := 20) (ty := .int) (v := 0) hx hb hts inX3_run_X3 tyX3 tyX3_ok nmX3 hown hK.1 hP hD hS 18 (by omega) (by omega) pz_a18 rfl 11 (by decide) (hts (.fieldLink RX3 72 "PowderMillModel" "deep" "I") (by decide +kernel)) (fun _ h9 => h9) rfl (by decide +kernel) rfl rfl (Nat.le_of_ble_eq_true rfl) rfl dX3_run_22 (fun h_4 H locs e_h_4 hP hD hS => ?_)
  refine lv_aload_n hx hb dX3_run_25 rfl (lv_at hl 0 rfl) ?_
  refine lv_iconst (v := 0) hx hb dX3_run_26 (by decide) ?_
  refine pr_putR (ci := 5) (C := RX3) (T := TX3) (N := 20) (ty := .int) (v := 0) hx hb hts inX3_run_X3 tyX3 tyX3_ok nmX3 hown hK.1 hP hD hS 18 (by omega) (by omega) pz_a18 rfl 15 (by decide) (hts (.fieldLink RX3 75 "PowderMillModel" "next" "I") (by decide +kernel)) (fun _ h9 => h9) rfl (by decide +kernel) rfl rfl (Nat.le_of_ble_eq_true rfl) rfl dX3_run_27 (fun h_5 H locs e_h_5 hP hD hS => ?_)
  refine lv_aload_n hx hb dX3_run_30 rfl (lv_at hl 0 rfl) ?_
  refine lv_iconst (v := 0) hx hb dX3_run_31 (by decide) ?_
  refine pr_putR (ci := 5) (C := RX3) (T := TX3) (N := 20) (ty := .boolean) (v := 0) hx hb hts inX3_run_X3 tyX3 tyX3_ok nmX3 hown hK.1 hP hD hS 18 (by omega) (by omega) pz_a18 rfl 16 (by decide) (hts (.fieldLink RX3 98 "PowderMillModel" "quits" "Z") (by decide +kernel)) (fun _ h9 => h9) rfl (by decide +kernel) rfl rfl (Nat.le_of_ble_eq_true rfl) rfl dX3_run_32 (fun h_6 H locs e_h_6 hP hD hS => ?_)
  exact key 82 h_6 _ _ _ (by subst e_h_6 e_h_5 e_h_4 e_h_3 e_h_2 e_h_1; exact hI) (by subst e_h_6 e_h_5 e_h_4 e_h_3 e_h_2 e_h_1; rfl) hP hD hS hl
end
section
def pz_OO (F : Int32 × pz_M × (Nat → Option Nat)) (Y : Int32 × pz_M) : Prop :=
  (F.1 = 0 ∧ Y.1 = F.2.1 0 7 ∧ pz_RE F.2.1 F.2.2 Y.2) ∨
  (F.1 = -3 ∧ Y.1 = -3 ∧ ∃ K : pz_M, pz_RE F.2.1 F.2.2 K ∧ Y.2 = pz_st K 31 4 (K 31 4 + 1)) ∨
  (∃ f : Nat, 1 ≤ f ∧ f ≤ 6 ∧ F.1 = nI f ∧ Y.1 = (-10) - nI f ∧ ∃ K : pz_M, pz_RE F.2.1 F.2.2 K ∧ Y.2 = pz_st K 31 3 (K 31 3 + 1))
theorem pz_REof {d : Nat} {g h : pz_M} {ph : Nat → Option Nat} (hR : pz_RR d g ph h) : pz_RE g ph h := ⟨hR.1, hR.2.1, d, hR.2.2.1⟩
theorem pz_c5 : (5 : Int32).toNatClampNeg = 5 := rfl
theorem pz_c4 : (4 : Int32).toNatClampNeg = 4 := rfl
theorem pz_c3 : (3 : Int32).toNatClampNeg = 3 := rfl
theorem pz_c2 : (2 : Int32).toNatClampNeg = 2 := rfl
/-- one counter of runs, on both sides -/
theorem pz_upR {d : Nat} {g h : pz_M} {ph : Nat → Option Nat} (h1 : pz_R1 g h) (h2 : pz_R2 g h) (h3 : pz_R3 d g ph) {j : Nat} (hj : j < 4) (v : Int32) : pz_R1 (pz_st g 0 (10 + j) v) (pz_st h 31 (2 + j) v) ∧ pz_R2 (pz_st g 0 (10 + j) v) (pz_st h 31 (2 + j) v) ∧ pz_R3 d (pz_st g 0 (10 + j) v) ph := by
  refine ⟨?_, pz_R2m h2 (fun k hk i hi => by rw [pz_t2 (by omega)]) (fun i hj1 hj6 k hk => by rw [pz_t2 (by omega)]), ?_⟩
  · obtain ⟨a1, a2, a3, a4, a5, a6, a7, a8, a9, a10, a11⟩ := h1
    refine ⟨by simpa (disch := omega) only [pz_t2, pz_t] using a1, by simpa (disch := omega) only [pz_t2, pz_t] using a2, by simpa (disch := omega) only [pz_t2, pz_t] using a3, by simpa (disch := omega) only [pz_t2, pz_t] using a4, fun i hi1 hi6 => by simpa (disch := omega) only [pz_t2, pz_t] using a5 i hi1 hi6, by simpa (disch := omega) only [pz_t2, pz_t] using a6, by simpa (disch := omega) only [pz_t2, pz_t] using a7, ?_, ?_, ?_, ?_⟩
    · by_cases e : j = 0
      · subst e; rw [pz_s, pz_s]
      · rw [pz_t (by omega), pz_t (by omega)]; exact a8
    · by_cases e : j = 1
      · subst e; rw [pz_s, pz_s]
      · rw [pz_t (by omega), pz_t (by omega)]; exact a9
    · by_cases e : j = 2
      · subst e; rw [pz_s, pz_s]
      · rw [pz_t (by omega), pz_t (by omega)]; exact a10
    · by_cases e : j = 3
      · subst e; rw [pz_s, pz_s]
      · rw [pz_t (by omega), pz_t (by omega)]; exact a11
  · unfold pz_R3 at *
    simpa (disch := omega) only [pz_t2, pz_t] using h3
theorem ps_loop : ∀ (n m d b : Nat) (g h : pz_M) (ph : Nat → Option Nat), pz_RR d g ph h → g 0 7 = nI b → b ≤ 80 → 80 - b < n → 81 - b < m → h 18 16 = 0 → pz_OO (f_fo n g ph) (f_mrl m h) := by
  intro n
  induction n with
  | zero => intro m d b g h ph _ _ _ q; omega
  | succ n ih =>
    intro m d b g h ph hR hb hb80 hn hm hq0
    obtain ⟨m, rfl⟩ : ∃ k, m = k + 1 := ⟨m - 1, by omega⟩
    obtain ⟨n0, n1, n2, n3, n4⟩ := hR.1.1
    obtain ⟨-, -, q, q1, q2, q3⟩ := hR.2.2.2
    have h17 : h 18 17 = nI b := by rw [← hR.1.2.2.2.2.2.1, hb]
    have hself : pz_st h 31 5 (h 31 5 + 0) = h := pz_self (by rw [Int32.add_zero])
    unfold f_fo f_mrl
    by_cases hnq : q < n0
    · have cm : ¬ h 18 8 ≤ h 18 15 := by rw [n3, q3]; exact nI_ge hnq (by omega)
      have cc : g 0 6 < g 0 5 := by rw [q2, n2]; exact nI_lt hnq (by omega)
      have cc2 : ¬ g 0 5 ≤ g 0 6 := by rw [q2, n2]; exact nI_ge hnq (by omega)
      rw [if_neg cm, if_pos hq0]
      by_cases hb8 : b = 80
      · subst hb8
        rw [if_pos (by rw [hb]; exact nI_le (a := 80) (Nat.le_refl 80) (by decide)), if_neg cc2, if_pos (by rw [h17]; rfl)]
        exact Or.inr (Or.inl ⟨rfl, rfl, h, pz_REof hR, rfl⟩)
      · have c6 : ¬ 80 ≤ g 0 7 := by rw [hb]; exact nI_ge (b := 80) (by omega) (by decide)
        rw [if_neg c6, if_pos cc, if_neg (show ¬ h 18 17 = 80 by rw [h17]; intro z; have := (nI_eq (a := b) (b := 80) (by omega) (by decide)).mp z; omega)]
        obtain ⟨z, hz, ez, ez2, eb, hb9, hR2, ha⟩ := ps_tick hR hb hb80 c6 cc
        have cz : (nI z).toNatClampNeg = z := nI_clamp (by omega)
        have e15 : pz_st h 18 17 (nI (b + 1)) 18 15 = nI z := by rw [pz_t (by omega)]; exact ez2
        simp only [hb, h17, ez, nI_1, e15, cz]
        have g4 : pz_st (pz_st g 0 7 (nI (b + 1))) 0 6 (nI (z + 1)) 4 z = g 4 z := by rw [pz_t2 (by omega), pz_t2 (by omega)]
        have q16 : pz_st (pz_st h 18 17 (nI (b + 1))) 18 15 (nI (z + 1)) 18 16 = 0 := by rw [pz_t (by omega), pz_t (by omega)]; exact hq0
        have b7 : pz_st (pz_st g 0 7 (nI (b + 1))) 0 6 (nI (z + 1)) 0 7 = nI (b + 1) := by rw [pz_t (by omega), pz_s]
        by_cases h6 : g 4 z = 6
        · rw [if_pos (g4.trans h6)]
          have ea : pz_st (pz_st h 18 17 (nI (b + 1))) 18 15 (nI (z + 1)) 26 z = 6 := by rw [pz_t2 (by omega), pz_t2 (by omega), ← hR.1.2.1 z hz]; exact h6
          have E : ∀ x, f_X3_does (pz_st (pz_st h 18 17 (nI (b + 1))) 18 15 (nI (z + 1))) (pz_st (pz_st h 18 17 (nI (b + 1))) 18 15 (nI (z + 1)) 26 z) x = (0, pz_st (pz_st (pz_st h 18 17 (nI (b + 1))) 18 15 (nI (z + 1))) 18 16 1) := by
            intro x
            unfold f_X3_does
            rw [ea, if_neg (by decide), if_neg (by decide), if_neg (by decide), if_neg (by decide), if_neg (by decide), if_neg (by decide), if_pos rfl]
          rw [E]
          dsimp only
          rw [if_pos rfl]
          have RQ := pz_upQ hR2 1
          generalize hK : pz_st (pz_st (pz_st h 18 17 (nI (b + 1))) 18 15 (nI (z + 1))) 18 16 1 = K at RQ ⊢
          have k16 : ¬ K 18 16 = 0 := by rw [← hK, pz_s]; decide
          generalize pz_st (pz_st g 0 7 (nI (b + 1))) 0 6 (nI (z + 1)) = G at RQ b7 ⊢
          obtain ⟨m, rfl⟩ : ∃ k, m = k + 1 := ⟨m - 1, by omega⟩
          have EK : f_mrl (m + 1) K = (pz_st K 31 5 (K 31 5 + 1) 18 17, pz_st K 31 5 (K 31 5 + 1)) := by
            unfold f_mrl
            by_cases cx : K 18 8 ≤ K 18 15
            · rw [if_pos cx, if_neg k16]; rfl
            · rw [if_neg cx, if_neg k16, if_neg k16]; rfl
          rw [EK]
          have e13 : G 0 13 = K 31 5 := RQ.1.2.2.2.2.2.2.2.2.2.2
          obtain ⟨u1, u2, u3⟩ := pz_upR RQ.1 RQ.2.1 RQ.2.2.1 (j := 3) (by omega) (G 0 13 + 1)
          refine Or.inl ⟨rfl, ?_, ?_⟩
          · show pz_st K 31 5 (K 31 5 + 1) 18 17 = pz_st G 0 13 (G 0 13 + 1) 0 7
            rw [pz_t2 (by omega), pz_t (by omega)]
            exact RQ.1.2.2.2.2.2.1.symm
          · show pz_RE (pz_st G 0 13 (G 0 13 + 1)) ph (pz_st K 31 5 (K 31 5 + 1))
            rw [← e13]
            exact ⟨u1, u2, d, u3⟩
        · rw [if_neg (fun y => h6 (g4.symm.trans y))]
          have hS := ps_step hR2 hz pz_s (by rw [g4]; exact ha) (by rw [g4]; exact h6)
          generalize f_X2_perform (pz_st (pz_st g 0 7 (nI (b + 1))) 0 6 (nI (z + 1))) ph (nI z) = X at hS ⊢
          generalize f_X3_does (pz_st (pz_st h 18 17 (nI (b + 1))) 18 15 (nI (z + 1))) _ _ = Y at hS ⊢
          obtain ⟨s1, ⟨d', s2⟩, s3, s4, s5⟩ := hS
          have s5 : X.2.1 0 7 = nI (b + 1) := s5.trans b7
          have s4 : Y.2 18 16 = 0 := s4.trans q16
          by_cases h0 : X.1 = 0
          · rw [if_pos h0, if_pos (by rw [← s1]; exact h0)]
            exact ih m d' (b + 1) _ _ _ s2 s5 (by omega) (by omega) (by omega) s4
          · rw [if_neg h0, if_neg (show ¬ Y.1 = 0 by rw [← s1]; exact h0)]
            obtain ⟨f, f1, f6, ef⟩ := pz_f7 s3 h0
            have c10 : (nI (10 + f)).toNatClampNeg = 10 + f := nI_clamp (by omega)
            rw [← s1, ef, pz_10f f6, c10, pz_t2 (by omega)]
            obtain ⟨t1, t2⟩ := ps_caught s2 f1 f6 (nI z)
            rw [← t1]
            rcases t2 with ⟨u1, u2⟩ | ⟨u1, ⟨d2, u2⟩, u3, u4⟩
            · rw [if_pos u1, if_pos u1]
              exact Or.inr (Or.inr ⟨f, f1, f6, rfl, rfl, _, u2, rfl⟩)
            · rw [if_neg (show ¬ (f_X2_isCaught X.2.1 X.2.2 (nI f) (nI z)).1 = 0 by rw [u1]; decide), if_neg (show ¬ (f_X2_isCaught X.2.1 X.2.2 (nI f) (nI z)).1 = 0 by rw [u1]; decide)]
              exact ih m d2 (b + 1) _ _ _ u2 (u3.trans s5) (by omega) (by omega) (by omega) (u4.trans s4)
    · have cm : h 18 8 ≤ h 18 15 := by rw [n3, q3]; exact nI_le (by omega) (by omega)
      have cc : ¬ g 0 6 < g 0 5 := by rw [q2, n2]; exact nI_nlt (by omega) (by omega)
      have cc2 : g 0 5 ≤ g 0 6 := by rw [q2, n2]; exact nI_le (by omega) (by omega)
      rw [if_pos cm, if_pos hq0, if_pos cc2, if_neg cc]
      have E : (if 80 ≤ g 0 7 then (0, g, ph) else (0, g, ph)) = ((0 : Int32), g, ph) := by split <;> rfl
      rw [E]
      refine Or.inl ⟨rfl, ?_, ?_⟩
      · show pz_st h 31 5 (h 31 5 + 0) 18 17 = g 0 7
        rw [hself]; exact hR.1.2.2.2.2.2.1.symm
      · show pz_RE g ph (pz_st h 31 5 (h 31 5 + 0))
        rw [hself]; exact pz_REof hR
/-- between two calls -/
def pz_B (g : pz_M) (ph : Nat → Option Nat) (h : pz_M) : Prop := pz_R1 g h ∧ pz_R2 g h ∧ pz_R3 0 g ph
theorem ps_start {g h : pz_M} {ph : Nat → Option Nat} (hB : pz_B g ph h) : pz_RR 0 (pz_st (pz_st (pz_st g 0 10 (g 0 10 + 1)) 0 7 0) 0 6 0) ph (pz_st (pz_st (pz_st (pz_st (pz_st (pz_st h 18 0 0) 31 2 (h 31 2 + 1)) 18 17 0) 18 11 0) 18 15 0) 18 16 0) := by
  obtain ⟨h1, h2, h3⟩ := hB
  obtain ⟨a1, a2, a3, a4, a5, a6, a7, a8, a9, a10, a11⟩ := h1
  refine ⟨⟨by simpa (disch := omega) only [pz_t2, pz_t] using a1, by simpa (disch := omega) only [pz_t2, pz_t] using a2, by simpa (disch := omega) only [pz_t2, pz_t] using a3, by simpa (disch := omega) only [pz_t2, pz_t] using a4, fun i hi1 hi6 => by simpa (disch := omega) only [pz_t2, pz_t] using a5 i hi1 hi6, by simp (disch := omega) only [pz_t2, pz_t, pz_s], by simpa (disch := omega) only [pz_t2, pz_t] using a7, by simp (disch := omega) only [pz_t2, pz_t, pz_s]; rw [a8], by simpa (disch := omega) only [pz_t2, pz_t] using a9, by simpa (disch := omega) only [pz_t2, pz_t] using a10, by simpa (disch := omega) only [pz_t2, pz_t] using a11⟩, ?_, ?_, ?_⟩
  · exact pz_R2m h2 (fun k hk i hi => by simp (disch := omega) only [pz_t2]) (fun j hj1 hj6 k hk => by simp (disch := omega) only [pz_t2])
  · unfold pz_R3 at *
    simpa (disch := omega) only [pz_t2, pz_t] using h3
  · refine ⟨by simp (disch := omega) only [pz_t2, pz_t, pz_s]; rfl, fun i hi => absurd hi (Nat.not_lt_zero i), 0, by omega, by simp (disch := omega) only [pz_t2, pz_t, pz_s]; rfl, by simp (disch := omega) only [pz_t2, pz_t, pz_s]; rfl⟩
theorem ps_IC {g h : pz_M} {ph : Nat → Option Nat} (hB : pz_B g ph h) : pz_IC 81 (pz_st (pz_st (pz_st g 0 10 (g 0 10 + 1)) 0 7 0) 0 6 0) ph :=
  ⟨0, _, 0, ps_start hB, by simp (disch := omega) only [pz_t2, pz_t, pz_s]; rfl, by omega, by omega⟩
theorem ps_IM {g h : pz_M} {ph : Nat → Option Nat} (hB : pz_B g ph h) : pz_IM 82 (pz_st (pz_st (pz_st (pz_st (pz_st (pz_st h 18 0 0) 31 2 (h 31 2 + 1)) 18 17 0) 18 11 0) 18 15 0) 18 16 0) :=
  ⟨0, _, ph, 0, ps_start hB, by simp (disch := omega) only [pz_t2, pz_t, pz_s]; rfl, by omega, by omega⟩
theorem ps_OO {g h : pz_M} {ph : Nat → Option Nat} (hB : pz_B g ph h) : pz_OO (f_X2_followOrder (pz_st (pz_st (pz_st g 0 10 (g 0 10 + 1)) 0 7 0) 0 6 0) ph) (f_X3_run h) := by
  have E : f_X3_run h = f_mrl 82 (pz_st (pz_st (pz_st (pz_st (pz_st (pz_st h 18 0 0) 31 2 (h 31 2 + 1)) 18 17 0) 18 11 0) 18 15 0) 18 16 0) := by
    unfold f_X3_run
    dsimp only
    rw [pz_c2, pz_t2 (by omega)]
  rw [E]
  exact ps_loop 81 82 0 0 _ _ _ (ps_start hB) (by simp (disch := omega) only [pz_t2, pz_t, pz_s]; rfl) (by omega) (by omega) (by omega) pz_s
theorem pz_OOW {F : Int32 × pz_M × (Nat → Option Nat)} {Y : Int32 × pz_M} (h : pz_OO F Y) : pz_W F.2.1 F.2.2 := by
  rcases h with ⟨-, -, -, -, d, h3⟩ | ⟨-, -, K, ⟨-, -, d, h3⟩, -⟩ | ⟨f, -, -, -, -, K, ⟨-, -, d, h3⟩, -⟩ <;> exact pz_RW h3
theorem ps_run {g h : pz_M} {ph : Nat → Option Nat} (hB : pz_B g ph h) : (f_X2_run g ph).1 = (f_X3_run h).1 ∧ pz_B (f_X2_run g ph).2.1 (f_X2_run g ph).2.2 (f_X3_run h).2 := by
  have hO := ps_OO hB
  generalize hF : f_X2_followOrder (pz_st (pz_st (pz_st g 0 10 (g 0 10 + 1)) 0 7 0) 0 6 0) ph = F at hO
  have down : ∀ K : pz_M, pz_RE F.2.1 F.2.2 K → pz_B (f_ldt F.2.2 0 7 F.2.1) F.2.2 K ∧ f_ldt F.2.2 0 7 F.2.1 0 7 = F.2.1 0 7 := by
    intro K hK
    obtain ⟨h1, h2, d, h3⟩ := hK
    have h6 := h3.1
    obtain ⟨r1, r2⟩ := pz_ldtR (e := 0) 7 d F.2.1 h3 (by omega) (by omega)
    have r1 : pz_R3 0 (f_ldt F.2.2 0 7 F.2.1) F.2.2 := r1
    have r2 : ∀ r j, ¬ (r = 2 ∧ j = 3) → ¬ (10 ≤ r ∧ j = 7) → f_ldt F.2.2 0 7 F.2.1 r j = F.2.1 r j := r2
    exact ⟨⟨pz_R1m h1 (fun r j hr hr2 _ => r2 r j (by omega) (by omega)) (fun _ _ _ => rfl), pz_R2m h2 (fun k hk i hi => r2 _ _ (by omega) (by omega)) (fun _ _ _ _ _ => rfl), r1⟩, r2 0 7 (by omega) (by omega)⟩
  have E : f_X2_run g ph = if F.1 = (-3) then ((-3), pz_st (f_ldt F.2.2 0 7 F.2.1) 0 12 (f_ldt F.2.2 0 7 F.2.1 0 12 + 1), F.2.2) else if F.1 = 0 then (f_ldt F.2.2 0 7 F.2.1 0 7, f_ldt F.2.2 0 7 F.2.1, F.2.2) else ((-10) - F.1, pz_st (f_ldt F.2.2 0 7 F.2.1) 0 11 (f_ldt F.2.2 0 7 F.2.1 0 11 + 1), F.2.2) := by
    unfold f_X2_run f_X1_leaveDownTo
    dsimp only
    rw [hF]
  rw [E]
  rcases hO with ⟨p1, p2, p3⟩ | ⟨p1, p2, K, p3, p4⟩ | ⟨f, f1, f6, p1, p2, K, p3, p4⟩
  · obtain ⟨r1, r2⟩ := down _ p3
    rw [p1, if_neg (by decide), if_pos rfl]
    exact ⟨by dsimp only; rw [r2, p2], r1⟩
  · obtain ⟨r1, r2⟩ := down _ p3
    rw [p1, if_pos rfl, p4]
    obtain ⟨u1, u2, u3⟩ := pz_upR r1.1 r1.2.1 r1.2.2 (j := 2) (by omega) (f_ldt F.2.2 0 7 F.2.1 0 12 + 1)
    have e12 : f_ldt F.2.2 0 7 F.2.1 0 12 = K 31 4 := r1.1.2.2.2.2.2.2.2.2.2.1
    refine ⟨p2.symm, ?_⟩
    show pz_B (pz_st (f_ldt F.2.2 0 7 F.2.1) 0 12 (f_ldt F.2.2 0 7 F.2.1 0 12 + 1)) F.2.2 (pz_st K 31 4 (K 31 4 + 1))
    rw [← e12]
    exact ⟨u1, u2, u3⟩
  · obtain ⟨r1, r2⟩ := down _ p3
    have n0 : ¬ nI f = 0 := nI_ne0 (by omega) (by omega)
    have n3 : ¬ nI f = -3 := by
      intro z
      have := nI_pos (n := f) (by omega)
      rw [z] at this
      exact this (by decide)
    rw [p1, if_neg n3, if_neg n0, p4]
    obtain ⟨u1, u2, u3⟩ := pz_upR r1.1 r1.2.1 r1.2.2 (j := 1) (by omega) (f_ldt F.2.2 0 7 F.2.1 0 11 + 1)
    have e11 : f_ldt F.2.2 0 7 F.2.1 0 11 = K 31 3 := r1.1.2.2.2.2.2.2.2.2.1
    refine ⟨p2.symm, ?_⟩
    show pz_B (pz_st (f_ldt F.2.2 0 7 F.2.1) 0 11 (f_ldt F.2.2 0 7 F.2.1 0 11 + 1)) F.2.2 (pz_st K 31 3 (K 31 3 + 1))
    rw [← e11]
    exact ⟨u1, u2, u3⟩
end
section
/-! every other call: the same answer, and tied behind it -/
theorem pz_BT {g h : pz_M} {ph : Nat → Option Nat} (hB : pz_B g ph h) (v : Int32) : pz_B g ph (pz_st h 18 0 v) := by
  obtain ⟨h1, h2, h3⟩ := hB
  exact ⟨pz_R1m h1 (fun _ _ _ _ _ => rfl) (fun r j hr => by
    by_cases q : r = 18
    · subst q; rw [pz_t (by omega)]
    · rw [pz_t2 q]), pz_R2m h2 (fun _ _ _ _ => rfl) (fun j j1 j6 k hk => by rw [pz_t2 (by omega)]), h3⟩
theorem pz_placein (a : Int32) : f_X2_isPlace a = 0 ↔ f_X3_isPlace a = 0 := pz_rowin a
theorem pz_actin (a : Int32) : f_X2_isAct a = 0 ↔ f_X3_isIn a 0 8 = 0 := Iff.rfl
theorem pz_act9 {a : Int32} (h : ¬ f_X2_isAct a = 0) : vp_in a 9 := by
  unfold f_X2_isAct at h
  by_cases h1 : a < 0
  · exact absurd (if_pos h1) h
  · by_cases h2 : 8 < a
    · exact absurd (by rw [if_neg h1, if_pos h2]) h
    · exact pz_in (by decide) h1 (fun q => h2 (by
        rw [Int32.le_iff_toInt_le] at q
        rw [Int32.lt_iff_toInt_lt]
        have e1 : (nI 9).toInt = 9 := rfl
        have e2 : (8 : Int32).toInt = 8 := rfl
        omega))
theorem pz_wallin (b : Int32) : f_X3_isIn b 1 100 = 0 ↔ (b < 1 ∨ ¬ b ≤ 100) := by
  unfold f_X3_isIn
  have e : (100 < b) ↔ ¬ b ≤ 100 := by
    rw [Int32.le_iff_toInt_le, Int32.lt_iff_toInt_lt]; omega
  by_cases c1 : b < 1
  · rw [if_pos c1]; exact ⟨fun _ => Or.inl c1, fun _ => rfl⟩
  · rw [if_neg c1]
    by_cases c2 : 100 < b
    · rw [if_pos c2]; exact ⟨fun _ => Or.inr (e.mp c2), fun _ => rfl⟩
    · rw [if_neg c2]
      refine ⟨fun q => absurd q (by decide), fun q => ?_⟩
      rcases q with q | q
      · exact absurd q c1
      · exact absurd (e.mpr q) c2
theorem pz_le0 {x : Int32} (h : 0 < x) : ¬ x ≤ 0 := by
  rw [Int32.lt_iff_toInt_lt] at h
  rw [Int32.le_iff_toInt_le]
  omega
/-- the houses but one, and the rest, stay tied -/
theorem pz_Bk {g h g' h' : pz_M} {ph : Nat → Option Nat} (hB : pz_B g ph h) {k : Nat} (hk : k < 8) (a : ∀ r j, r ≠ 10 + k → g' r j = g r j) (b : ∀ r j, (r < 19 ∨ 24 < r ∨ j ≠ k) → h' r j = h r j) (c : (g' (10 + k) 0 = 1 ∧ 0 < h' 19 k ∧ ∀ j, 1 ≤ j → j ≤ 6 → g' (10 + k) j = h' (18 + j) k) ∨ (g' (10 + k) 0 = 0 ∧ h' 19 k = 0)) (d : g' (10 + k) 7 = 0) : pz_B g' ph h' := by
  obtain ⟨h1, h2, h3⟩ := hB
  refine ⟨pz_R1m h1 (fun r j hr hr2 _ => a r j (by omega)) (fun r j hr => b r j (by omega)), fun k' hk' => ?_, ?_⟩
  · by_cases e : k' = k
    · subst e; exact c
    · rw [a (10 + k') 0 (by omega), b 19 k' (by omega)]
      rcases h2 k' hk' with ⟨q1, q2, q3⟩ | q
      · exact Or.inl ⟨q1, q2, fun j j1 j6 => by rw [a (10 + k') j (by omega), b (18 + j) k' (by omega)]; exact q3 j j1 j6⟩
      · exact Or.inr q
  · obtain ⟨p1, p2, p3, p4⟩ := h3
    refine ⟨p1, by rw [a 2 3 (by omega)]; exact p2, fun i hi => absurd hi (Nat.not_lt_zero i), fun k' hk' => ?_⟩
    by_cases e : k' = k
    · subst e; rw [d]; rfl
    · rw [a (10 + k') 7 (by omega)]; exact p4 k' hk'
theorem pz_B7 {g h : pz_M} {ph : Nat → Option Nat} (hB : pz_B g ph h) {k : Nat} (hk : k < 8) : g (10 + k) 7 = 0 := by
  rw [hB.2.2.2.2.2 k hk]; rfl
theorem ps_build {g h : pz_M} {ph : Nat → Option Nat} (hB : pz_B g ph h) (a b z : Int32) : (f_X2_build g ph a b z).1 = (f_X3_build h a b z).1 ∧ pz_B (f_X2_build g ph a b z).2.1 (f_X2_build g ph a b z).2.2 (f_X3_build h a b z).2 := by
  have hB1 := pz_BT hB 0
  unfold f_X2_build f_X3_build
  by_cases c1 : f_X2_isPlace a = 0
  · simp only [if_pos c1, if_pos ((pz_placein a).mp c1)]
    exact ⟨trivial, hB1⟩
  · simp only [if_neg c1, if_neg (fun q => c1 ((pz_placein a).mpr q))]
    obtain ⟨k, hk, rfl⟩ := vp_in_of (pz_place c1) (by decide)
    have ck : (nI k).toNatClampNeg = k := nI_clamp (by omega)
    by_cases c2 : b < 1
    · rw [if_pos c2, if_pos ((pz_wallin b).mpr (Or.inl c2))]
      exact ⟨rfl, hB1⟩
    · by_cases c3 : b ≤ 100
      · rw [if_neg c2, if_pos c3, if_neg (show ¬ f_X3_isIn b 1 100 = 0 from fun q => by rcases (pz_wallin b).mp q with q | q <;> contradiction)]
        have b0 : 0 < b := by
          rw [Int32.lt_iff_toInt_lt] at c2 ⊢
          have e1 : (1 : Int32).toInt = 1 := rfl
          have e0 : (0 : Int32).toInt = 0 := rfl
          omega
        have key : pz_B (f_X0_setUp g ph k b z).1 ph (f_X3_cleared (pz_st h 18 0 0) (nI k) b z) := by
          unfold f_X0_setUp f_X3_cleared
          rw [ck]
          refine pz_Bk hB1 hk (fun r j hr => by simp (disch := omega) only [pz_t2]) (fun r j hr => ?_) (Or.inl ⟨by simp (disch := omega) only [pz_t2, pz_t, pz_s], by simp (disch := omega) only [pz_t2, pz_t, pz_s]; exact b0, fun j j1 j6 => ?_⟩) (by simp (disch := omega) only [pz_t2, pz_t, pz_s])
          · by_cases e : j = k
            · subst e; simp (disch := omega) only [pz_t2]
            · by_cases e19 : r = 19
              · subst e19; simp (disch := omega) only [pz_t2, pz_t]
              · by_cases e20 : r = 20
                · subst e20; simp (disch := omega) only [pz_t2, pz_t]
                · by_cases e21 : r = 21
                  · subst e21; simp (disch := omega) only [pz_t2, pz_t]
                  · by_cases e22 : r = 22
                    · subst e22; simp (disch := omega) only [pz_t2, pz_t]
                    · by_cases e23 : r = 23
                      · subst e23; simp (disch := omega) only [pz_t2, pz_t]
                      · by_cases e24 : r = 24
                        · subst e24; simp (disch := omega) only [pz_t2, pz_t]
                        · simp (disch := omega) only [pz_t2]
          · rcases (show j = 1 ∨ j = 2 ∨ j = 3 ∨ j = 4 ∨ j = 5 ∨ j = 6 by omega) with rfl | rfl | rfl | rfl | rfl | rfl <;> simp (disch := omega) only [pz_t2, pz_t, pz_s]
        rw [ck]
        have e19 : pz_st h 18 0 0 19 k = h 19 k := by rw [pz_t2 (by omega)]
        rw [e19]
        rcases hB.2.1 k hk with ⟨q1, q2, -⟩ | ⟨q1, q2⟩
        · rw [if_neg (by rw [q1]; decide), if_neg (pz_le0 q2)]
          exact ⟨rfl, key⟩
        · rw [if_pos q1, if_pos (by rw [q2]; decide)]
          exact ⟨rfl, key⟩
      · rw [if_neg c2, if_neg c3, if_pos ((pz_wallin b).mpr (Or.inr c3))]
        exact ⟨rfl, hB1⟩
theorem ps_raze {g h : pz_M} {ph : Nat → Option Nat} (hB : pz_B g ph h) (a : Int32) : (f_X2_raze g ph a).1 = (f_X3_raze h a).1 ∧ pz_B (f_X2_raze g ph a).2.1 (f_X2_raze g ph a).2.2 (f_X3_raze h a).2 := by
  have hB1 := pz_BT hB 0
  unfold f_X2_raze f_X3_raze
  by_cases c1 : f_X2_isPlace a = 0
  · simp only [if_pos c1, if_pos ((pz_placein a).mp c1)]
    exact ⟨trivial, hB1⟩
  · simp only [if_neg c1, if_neg (fun q => c1 ((pz_placein a).mpr q))]
    obtain ⟨k, hk, rfl⟩ := vp_in_of (pz_place c1) (by decide)
    have ck : (nI k).toNatClampNeg = k := nI_clamp (by omega)
    have key : pz_B (pz_st g (10 + k) 0 0) ph (f_X3_cleared (pz_st h 18 0 0) (nI k) 0 0) := by
      unfold f_X3_cleared
      rw [ck]
      refine pz_Bk hB1 hk (fun r j hr => by simp (disch := omega) only [pz_t2]) (fun r j hr => ?_) (Or.inr ⟨pz_s, by simp (disch := omega) only [pz_t2, pz_t, pz_s]⟩) (by rw [pz_t (by omega)]; exact pz_B7 hB hk)
      by_cases e : j = k
      · subst e; simp (disch := omega) only [pz_t2]
      · by_cases e19 : r = 19
        · subst e19; simp (disch := omega) only [pz_t2, pz_t]
        · by_cases e20 : r = 20
          · subst e20; simp (disch := omega) only [pz_t2, pz_t]
          · by_cases e21 : r = 21
            · subst e21; simp (disch := omega) only [pz_t2, pz_t]
            · by_cases e22 : r = 22
              · subst e22; simp (disch := omega) only [pz_t2, pz_t]
              · by_cases e23 : r = 23
                · subst e23; simp (disch := omega) only [pz_t2, pz_t]
                · by_cases e24 : r = 24
                  · subst e24; simp (disch := omega) only [pz_t2, pz_t]
                  · simp (disch := omega) only [pz_t2]
    rw [ck]
    have e19 : pz_st h 18 0 0 19 k = h 19 k := by rw [pz_t2 (by omega)]
    rw [e19]
    rcases hB.2.1 k hk with ⟨q1, q2, -⟩ | ⟨q1, q2⟩
    · rw [if_neg (by rw [q1]; decide), if_neg (pz_le0 q2)]
      exact ⟨rfl, key⟩
    · rw [if_pos q1, if_pos (by rw [q2]; decide)]
      exact ⟨rfl, key⟩
/-- the order, on both sides -/
theorem pz_Bo {g h g' h' : pz_M} {ph : Nat → Option Nat} (hB : pz_B g ph h) (a : ∀ r j, r ≠ 4 → r ≠ 5 → (r = 0 → j ≠ 5) → g' r j = g r j) (b : ∀ r j, r ≠ 26 → r ≠ 27 → (r = 18 → j ≠ 8 ∧ j ≠ 0) → h' r j = h r j) (n : Nat) (hn : n ≤ 30) (c1 : g' 0 5 = nI n) (c2 : h' 18 8 = nI n) (c3 : ∀ j, j < n → vp_in (g' 4 j) 9) (c4 : ∀ j, j < 30 → g' 4 j = h' 26 j) (c5 : ∀ j, j < 30 → g' 5 j = h' 27 j) : pz_B g' ph h' := by
  obtain ⟨⟨a1, a2, a3, a4, a5, a6, a7, a8, a9, a10, a11⟩, h2, h3⟩ := hB
  refine ⟨⟨⟨n, hn, c1, c2, c3⟩, c4, c5, fun j hj => ?_, fun j j1 j6 => ?_, ?_, ?_, ?_, ?_, ?_, ?_⟩, pz_R2m h2 (fun k hk i hi => a _ _ (by omega) (by omega) (by omega)) (fun j j1 j6 k hk => b _ _ (by omega) (by omega) (by omega)), ?_⟩
  · rw [a 3 j (by omega) (by omega) (by omega), b 25 j (by omega) (by omega) (by omega)]; exact a4 j hj
  · rw [a 6 j (by omega) (by omega) (by omega), b 31 _ (by omega) (by omega) (by omega)]; exact a5 j j1 j6
  · rw [a 0 7 (by omega) (by omega) (by omega), b 18 17 (by omega) (by omega) (by omega)]; exact a6
  · rw [a 0 8 (by omega) (by omega) (by omega), b 18 18 (by omega) (by omega) (by omega)]; exact a7
  · rw [a 0 10 (by omega) (by omega) (by omega), b 31 2 (by omega) (by omega) (by omega)]; exact a8
  · rw [a 0 11 (by omega) (by omega) (by omega), b 31 3 (by omega) (by omega) (by omega)]; exact a9
  · rw [a 0 12 (by omega) (by omega) (by omega), b 31 4 (by omega) (by omega) (by omega)]; exact a10
  · rw [a 0 13 (by omega) (by omega) (by omega), b 31 5 (by omega) (by omega) (by omega)]; exact a11
  · obtain ⟨p1, p2, p3, p4⟩ := h3
    exact ⟨p1, by rw [a 2 3 (by omega) (by omega) (by omega)]; exact p2, fun i hi => absurd hi (Nat.not_lt_zero i), fun k hk => by rw [a (10 + k) 7 (by omega) (by omega) (by omega)]; exact p4 k hk⟩
theorem pz_upd2 {g : pz_M} {r n j : Nat} {v : Int32} : pz_st g r n v r j = if j = n then v else g r j := by
  by_cases e : j = n
  · subst e; rw [pz_s, if_pos rfl]
  · rw [pz_t e, if_neg e]
theorem pz_sub18 {h : pz_M} {r j : Nat} {v : Int32} (hr : r = 18 → j ≠ 8 ∧ j ≠ 0) : pz_st h 18 0 v r j = h r j := by
  by_cases e : r = 18
  · subst e; rw [pz_t (hr rfl).2]
  · rw [pz_t2 e]
theorem pz_sub188 {h : pz_M} {r j : Nat} {v : Int32} (hr : r = 18 → j ≠ 8 ∧ j ≠ 0) : pz_st h 18 8 v r j = h r j := by
  by_cases e : r = 18
  · subst e; rw [pz_t (hr rfl).1]
  · rw [pz_t2 e]
theorem pz_sub05 {h : pz_M} {r j : Nat} {v : Int32} (hr : r = 0 → j ≠ 5) : pz_st h 0 5 v r j = h r j := by
  by_cases e : r = 0
  · subst e; rw [pz_t (hr rfl)]
  · rw [pz_t2 e]
theorem ps_stepc {g h : pz_M} {ph : Nat → Option Nat} (hB : pz_B g ph h) (a b : Int32) : (f_X2_step g ph a b).1 = (f_X3_step h a b).1 ∧ pz_B (f_X2_step g ph a b).2.1 (f_X2_step g ph a b).2.2 (f_X3_step h a b).2 := by
  have hB1 := pz_BT hB 0
  obtain ⟨n, n1, n2, n3, n4⟩ := hB.1.1
  have e8 : pz_st h 18 0 0 18 8 = nI n := by rw [pz_t (by omega)]; exact n3
  have cn : (nI n).toNatClampNeg = n := nI_clamp (by omega)
  unfold f_X2_step f_X3_step
  by_cases c1 : f_X2_isAct a = 0
  · simp only [if_pos c1, if_pos ((pz_actin a).mp c1)]
    exact ⟨trivial, hB1⟩
  · simp only [if_neg c1, if_neg (fun q => c1 ((pz_actin a).mpr q))]
    rw [e8, n2]
    by_cases hn : n = 30
    · subst hn
      rw [if_neg (show ¬ nI 30 < 30 by decide +kernel), if_pos (show nI 30 = 30 from rfl)]
      exact ⟨rfl, hB1⟩
    · rw [if_pos (show nI n < 30 from nI_lt (b := 30) (by omega) (by decide)), if_neg (show ¬ nI n = 30 from fun q => hn ((nI_eq (a := n) (b := 30) (by omega) (by decide)).mp q)), cn]
      have g1 : pz_st g 4 n a 0 5 = nI n := by rw [pz_t2 (by omega)]; exact n2
      have g2 : pz_st (pz_st g 4 n a) 5 n b 0 5 = nI n := by rw [pz_t2 (by omega)]; exact g1
      have k1 : pz_st (pz_st h 18 0 0) 26 n a 18 8 = nI n := by rw [pz_t2 (by omega)]; exact e8
      have k2 : pz_st (pz_st (pz_st h 18 0 0) 26 n a) 27 n b 18 8 = nI n := by rw [pz_t2 (by omega)]; exact k1
      rw [g1, k1, cn, g2, k2, nI_1]
      refine ⟨by dsimp only; rw [pz_s, pz_s], ?_⟩
      dsimp only
      refine pz_Bo hB (fun r j q1 q2 q3 => by rw [pz_sub05 q3, pz_t2 q2, pz_t2 q1]) (fun r j q1 q2 q3 => by rw [pz_sub188 q3, pz_t2 q2, pz_t2 q1, pz_sub18 q3]) (n + 1) (by omega) pz_s pz_s (fun j hj => ?_) (fun j hj => ?_) (fun j hj => ?_)
      · rw [pz_t2 (by omega), pz_t2 (by omega), pz_upd2]
        by_cases e : j = n
        · rw [if_pos e]; exact pz_act9 c1
        · rw [if_neg e]; exact n4 j (by omega)
      · simp (disch := omega) only [pz_t2, pz_upd2]; rw [hB.1.2.1 j hj]
      · simp (disch := omega) only [pz_t2, pz_upd2]; rw [hB.1.2.2.1 j hj]
theorem ps_clear {g h : pz_M} {ph : Nat → Option Nat} (hB : pz_B g ph h) : (f_X2_clear g ph).1 = (f_X3_clear h).1 ∧ pz_B (f_X2_clear g ph).2.1 (f_X2_clear g ph).2.2 (f_X3_clear h).2 := by
  obtain ⟨n, n1, n2, n3, n4⟩ := hB.1.1
  unfold f_X2_clear f_X3_clear
  dsimp only
  refine ⟨by rw [pz_t (by omega), n2, n3], ?_⟩
  refine pz_Bo hB (fun r j q1 q2 q3 => by rw [pz_sub05 q3]) (fun r j q1 q2 q3 => by rw [pz_sub188 q3, pz_sub18 q3]) 0 (by omega) (by rw [pz_s]; rfl) (by rw [pz_s]; rfl) (fun j hj => absurd hj (Nat.not_lt_zero j)) (fun j hj => ?_) (fun j hj => ?_)
  · rw [pz_t2 (by omega), pz_t2 (by omega), pz_t2 (by omega)]; exact hB.1.2.1 j hj
  · rw [pz_t2 (by omega), pz_t2 (by omega), pz_t2 (by omega)]; exact hB.1.2.2.1 j hj
theorem ps_begun {g h : pz_M} {ph : Nat → Option Nat} (hB : pz_B g ph h) : f_X2_begun g ph = (f_X3_begun h).1 ∧ pz_B g ph (f_X3_begun h).2 := by
  unfold f_X2_begun f_X3_begun
  dsimp only
  exact ⟨by rw [pz_t (by omega)]; exact hB.1.2.2.2.2.2.1, pz_BT hB 0⟩
theorem ps_where {g h : pz_M} {ph : Nat → Option Nat} (hB : pz_B g ph h) : f_X2_where g ph = (f_X3_where h).1 ∧ pz_B g ph (f_X3_where h).2 := by
  unfold f_X2_where f_X3_where
  dsimp only
  exact ⟨by rw [pz_t (by omega)]; exact hB.1.2.2.2.2.2.2.1, pz_BT hB 0⟩
theorem ps_alter {g h : pz_M} {ph : Nat → Option Nat} (hB : pz_B g ph h) (a b z : Int32) : (f_X2_alter g ph a b z).1 = (f_X3_alter h a b z).1 ∧ pz_B (f_X2_alter g ph a b z).2.1 (f_X2_alter g ph a b z).2.2 (f_X3_alter h a b z).2 := by
  have hB1 := pz_BT hB 0
  obtain ⟨n, n1, n2, n3, n4⟩ := hB.1.1
  have e8 : pz_st h 18 0 0 18 8 = nI n := by rw [pz_t (by omega)]; exact n3
  have hin : f_X3_isIn a 0 (nI n - 1) = 0 ↔ (a < 0 ∨ nI n ≤ a) := by
    unfold f_X3_isIn
    have e : (nI n - 1 < a) ↔ nI n ≤ a := by
      rw [Int32.le_iff_toInt_le, Int32.lt_iff_toInt_lt, nI_toInt (by omega)]
      have e2 : (nI n - 1).toInt = (n : Int) - 1 := pk_sub_toInt (a := n) (b := 1) (by omega) (by omega)
      omega
    by_cases c1 : a < 0
    · rw [if_pos c1]; exact ⟨fun _ => Or.inl c1, fun _ => rfl⟩
    · rw [if_neg c1]
      by_cases c2 : nI n - 1 < a
      · rw [if_pos c2]; exact ⟨fun _ => Or.inr (e.mp c2), fun _ => rfl⟩
      · rw [if_neg c2]
        refine ⟨fun q => absurd q (by decide), fun q => ?_⟩
        rcases q with q | q
        · exact absurd q c1
        · exact absurd (e.mpr q) c2
  unfold f_X2_alter f_X3_alter
  simp only [e8]
  rw [n2]
  by_cases c1 : a < 0
  · rw [if_pos c1, if_pos (hin.mpr (Or.inl c1))]
    exact ⟨rfl, hB1⟩
  · by_cases c2 : nI n ≤ a
    · rw [if_neg c1, if_pos c2, if_pos (hin.mpr (Or.inr c2))]
      exact ⟨rfl, hB1⟩
    · rw [if_neg c1, if_neg c2, if_neg (show ¬ f_X3_isIn a 0 (nI n - 1) = 0 from fun q => by rcases hin.mp q with q | q <;> contradiction)]
      by_cases c3 : f_X2_isAct b = 0
      · rw [if_pos c3, if_pos ((pz_actin b).mp c3)]
        exact ⟨rfl, hB1⟩
      · rw [if_neg c3, if_neg (show ¬ f_X3_isIn b 0 8 = 0 from fun q => c3 ((pz_actin b).mpr q))]
        obtain ⟨j0, hj0, rfl⟩ : ∃ j : Nat, j < n ∧ a = nI j := vp_in_of (pz_in (by omega) c1 c2) (by omega)
        have cj : (nI j0).toNatClampNeg = j0 := nI_clamp (by omega)
        rw [cj]
        dsimp only
        refine ⟨by rw [pz_t2 (by omega)]; exact hB.1.2.1 j0 (by omega), ?_⟩
        refine pz_Bo hB (fun r j q1 q2 q3 => by rw [pz_t2 q2, pz_t2 q1]) (fun r j q1 q2 q3 => by rw [pz_t2 q2, pz_t2 q1, pz_sub18 q3]) n n1 (by rw [pz_t2 (by omega), pz_t2 (by omega)]; exact n2) (by rw [pz_t2 (by omega), pz_t2 (by omega)]; exact e8) (fun j hj => ?_) (fun j hj => ?_) (fun j hj => ?_)
        · rw [pz_t2 (by omega), pz_upd2]
          by_cases e : j = j0
          · rw [if_pos e]; exact pz_act9 c3
          · rw [if_neg e]; exact n4 j hj
        · simp (disch := omega) only [pz_t2, pz_upd2]; rw [hB.1.2.1 j hj]
        · simp (disch := omega) only [pz_t2, pz_upd2]; rw [hB.1.2.2.1 j hj]
theorem ps_house {g h : pz_M} {ph : Nat → Option Nat} (hB : pz_B g ph h) (a b : Int32) : f_X2_house g ph a b = (f_X3_house h a b).1 ∧ pz_B g ph (f_X3_house h a b).2 := by
  have hB1 := pz_BT hB 0
  unfold f_X2_house f_X3_house f_X3_isHouse
  by_cases c1 : f_X2_isPlace a = 0
  · simp only [if_pos c1, if_pos ((pz_placein a).mp c1)]
    rw [if_pos trivial]
    exact ⟨rfl, hB1⟩
  · simp only [if_neg c1, if_neg (fun q => c1 ((pz_placein a).mpr q))]
    obtain ⟨k, hk, rfl⟩ := vp_in_of (pz_place c1) (by decide)
    have ck : (nI k).toNatClampNeg = k := nI_clamp (by omega)
    simp (disch := omega) only [ck, pz_t2]
    rcases hB.2.1 k hk with ⟨q1, q2, q3⟩ | ⟨q1, q2⟩
    · rw [if_neg (by rw [q1]; decide), if_neg (pz_le0 q2), if_neg (by decide)]
      unfold f_X0_tell
      have e1 : g (10 + k) 1 = h 19 k := q3 1 (by omega) (by omega)
      have e2 : g (10 + k) 2 = h 20 k := q3 2 (by omega) (by omega)
      have e3 : g (10 + k) 3 = h 21 k := q3 3 (by omega) (by omega)
      have e4 : g (10 + k) 4 = h 22 k := q3 4 (by omega) (by omega)
      have e5 : g (10 + k) 5 = h 23 k := q3 5 (by omega) (by omega)
      have e6 : g (10 + k) 6 = h 24 k := q3 6 (by omega) (by omega)
      rw [e1, e2, e3, e4, e5, e6, pz_B7 hB hk]
      by_cases b0 : b = 0
      · rw [if_pos b0, if_pos b0]; exact ⟨rfl, hB1⟩
      · rw [if_neg b0, if_neg b0]
        by_cases b1 : b = 1
        · rw [if_pos b1, if_pos b1]; exact ⟨rfl, hB1⟩
        · rw [if_neg b1, if_neg b1]
          by_cases b2 : b = 2
          · rw [if_pos b2, if_pos b2]
            by_cases z : h 21 k = 0
            · rw [if_pos z, if_pos z]; exact ⟨rfl, hB1⟩
            · rw [if_neg z, if_neg z]; exact ⟨rfl, hB1⟩
          · rw [if_neg b2, if_neg b2]
            by_cases b3 : b = 3
            · rw [if_pos b3, if_pos b3]; exact ⟨rfl, hB1⟩
            · rw [if_neg b3, if_neg b3]
              by_cases b4 : b = 4
              · rw [if_pos b4, if_pos b4]; exact ⟨rfl, hB1⟩
              · rw [if_neg b4, if_neg b4]
                by_cases b5 : b = 5
                · rw [if_pos b5, if_pos b5]; exact ⟨rfl, hB1⟩
                · rw [if_neg b5, if_neg b5]
                  by_cases b6 : b = 6
                  · rw [if_pos b6, if_pos b6]; exact ⟨rfl, hB1⟩
                  · rw [if_neg b6, if_neg b6]; exact ⟨rfl, hB1⟩
    · rw [if_pos q1, if_pos (by rw [q2]; decide)]
      exact ⟨rfl, hB1⟩
theorem ps_sth {g h : pz_M} (h2 : pz_R2 g h) : ∀ (n j : Nat) (v : Int32), j ≤ 8 → f_sth g n v (nI j) = f_mct h n v (nI j) := by
  intro n
  induction n with
  | zero => intro j v _; rfl
  | succ n ih =>
    intro j v hj
    unfold f_sth f_mct
    by_cases c : 8 ≤ nI j
    · rw [if_pos c, if_pos c]
    · rw [if_neg c, if_neg c]
      have hj8 : j < 8 := by
        rcases Nat.lt_or_ge j 8 with q | q
        · exact q
        · exact absurd (nI_le (a := 8) q (by omega)) c
      rw [nI_clamp (by omega), nI_1]
      rcases h2 j hj8 with ⟨q1, q2, -⟩ | ⟨q1, q2⟩
      · rw [if_neg (by rw [q1]; decide), if_neg (pz_le0 q2)]; exact ih (j + 1) _ (by omega)
      · rw [if_pos q1, if_pos (by rw [q2]; decide), Int32.add_zero]; exact ih (j + 1) _ (by omega)
theorem ps_count {g h : pz_M} {ph : Nat → Option Nat} (hB : pz_B g ph h) (a : Int32) : f_X2_count g ph a = (f_X3_count h a).1 ∧ pz_B g ph (f_X3_count h a).2 := by
  have hB1 := pz_BT hB 0
  have EY : f_X3_count h a = if a = 0 then (f_mct (pz_st h 18 0 0) 9 0 0, pz_st h 18 0 0) else if a = 1 then (pz_st h 18 0 0 18 8, pz_st h 18 0 0) else if f_X3_isIn a 2 5 = 0 then (if f_X3_isIn a 11 16 = 0 then ((-1), pz_st h 18 0 0) else (pz_st h 18 0 0 31 a.toNatClampNeg, pz_st h 18 0 0)) else (pz_st h 18 0 0 31 a.toNatClampNeg, pz_st h 18 0 0) := rfl
  rw [EY]
  generalize pz_st h 18 0 0 = K at *
  obtain ⟨n, n1, n2, n3, n4⟩ := hB1.1.1
  have E1 : f_X2_standingHouses g ph = f_mct K 9 0 0 := ps_sth hB1.2.1 9 0 0 (by omega)
  have e10 : g 0 10 = K 31 2 := hB1.1.2.2.2.2.2.2.2.1
  have e11 : g 0 11 = K 31 3 := hB1.1.2.2.2.2.2.2.2.2.1
  have e12 : g 0 12 = K 31 4 := hB1.1.2.2.2.2.2.2.2.2.2.1
  have e13 : g 0 13 = K 31 5 := hB1.1.2.2.2.2.2.2.2.2.2.2
  have e6 : ∀ j, 1 ≤ j → j ≤ 6 → g 6 j = K 31 (10 + j) := hB1.1.2.2.2.2.1
  have lit : ∀ i : Nat, i < 20 → (nI i).toNatClampNeg = i := fun i hi => nI_clamp (by omega)
  unfold f_X2_count
  by_cases ha : ∃ j : Nat, j < 17 ∧ a = nI j
  · obtain ⟨j, hj, rfl⟩ := ha
    rw [lit j (by omega)]
    rcases (show j = 0 ∨ j = 1 ∨ j = 2 ∨ j = 3 ∨ j = 4 ∨ j = 5 ∨ (6 ≤ j ∧ j ≤ 10) ∨ (11 ≤ j ∧ j ≤ 16) by omega) with rfl | rfl | rfl | rfl | rfl | rfl | ⟨q1, q2⟩ | ⟨q1, q2⟩
    · rw [if_pos (by decide +kernel), if_pos (by decide +kernel), if_pos (by decide +kernel)]; exact ⟨E1, hB1⟩
    · rw [if_pos (by decide +kernel), if_neg (by decide +kernel), if_pos (by decide +kernel), if_neg (by decide +kernel), if_pos (by decide +kernel)]; exact ⟨n2.trans n3.symm, hB1⟩
    · rw [if_pos (by decide +kernel), if_neg (by decide +kernel), if_neg (by decide +kernel), if_pos (by decide +kernel), if_neg (by decide +kernel), if_neg (by decide +kernel), if_neg (by decide +kernel)]; exact ⟨e10, hB1⟩
    · rw [if_pos (by decide +kernel), if_neg (by decide +kernel), if_neg (by decide +kernel), if_neg (by decide +kernel), if_pos (by decide +kernel), if_neg (by decide +kernel), if_neg (by decide +kernel), if_neg (by decide +kernel)]; exact ⟨e11, hB1⟩
    · rw [if_pos (by decide +kernel), if_neg (by decide +kernel), if_neg (by decide +kernel), if_neg (by decide +kernel), if_neg (by decide +kernel), if_pos (by decide +kernel), if_neg (by decide +kernel), if_neg (by decide +kernel), if_neg (by decide +kernel)]; exact ⟨e12, hB1⟩
    · rw [if_pos (by decide +kernel), if_neg (by decide +kernel), if_neg (by decide +kernel), if_neg (by decide +kernel), if_neg (by decide +kernel), if_neg (by decide +kernel), if_pos (by decide +kernel), if_neg (by decide +kernel), if_neg (by decide +kernel), if_neg (by decide +kernel)]; exact ⟨e13, hB1⟩
    · rcases (show j = 6 ∨ j = 7 ∨ j = 8 ∨ j = 9 ∨ j = 10 by omega) with rfl | rfl | rfl | rfl | rfl <;>
        (rw [if_pos (by decide +kernel), if_neg (by decide +kernel), if_neg (by decide +kernel), if_neg (by decide +kernel), if_neg (by decide +kernel), if_neg (by decide +kernel), if_neg (by decide +kernel), if_neg (by decide +kernel), if_neg (by decide +kernel), if_pos (by decide +kernel), if_pos (by decide +kernel)]; exact ⟨rfl, hB1⟩)
    · have e : (nI j - 10).toNatClampNeg = j - 10 := by rw [show nI j - 10 = nI (j - 10) from pk_sub (a := j) (b := 10) (by omega)]; exact lit _ (by omega)
      have e16 := e6 (j - 10) (by omega) (by omega)
      rw [e, e16, show 10 + (j - 10) = j by omega]
      rcases (show j = 11 ∨ j = 12 ∨ j = 13 ∨ j = 14 ∨ j = 15 ∨ j = 16 by omega) with rfl | rfl | rfl | rfl | rfl | rfl <;>
        (rw [if_neg (by decide +kernel), if_neg (by decide +kernel), if_neg (by decide +kernel), if_neg (by decide +kernel), if_pos (by decide +kernel), if_neg (by decide +kernel)]; exact ⟨rfl, hB1⟩)
  · have ne : ∀ j : Nat, j < 17 → ¬ a = nI j := fun j hj q => ha ⟨j, hj, q⟩
    have n0 : ¬ a = 0 := ne 0 (by omega)
    have n1 : ¬ a = 1 := ne 1 (by omega)
    have n2 : ¬ a = 2 := ne 2 (by omega)
    have n3 : ¬ a = 3 := ne 3 (by omega)
    have n4 : ¬ a = 4 := ne 4 (by omega)
    have n5 : ¬ a = 5 := ne 5 (by omega)
    have out : a.toInt < 0 ∨ 16 < a.toInt := by
      rcases Int.lt_or_le a.toInt 0 with q | q
      · exact Or.inl q
      · right
        obtain ⟨j, hj, e⟩ := nI_of (x := a) (by rw [Int32.lt_iff_toInt_lt, Int32.toInt_zero]; omega)
        rcases Nat.lt_or_ge j 17 with z | z
        · exact absurd e (ne j z)
        · rw [e, nI_toInt hj]; omega
    have i1 : f_X3_isIn a 2 5 = 0 := by
      unfold f_X3_isIn
      have e2 : (2 : Int32).toInt = 2 := rfl
      have e5 : (5 : Int32).toInt = 5 := rfl
      by_cases c : a < 2
      · rw [if_pos c]
      · rw [if_neg c, if_pos (by rw [Int32.lt_iff_toInt_lt] at c ⊢; omega)]
    have i2 : f_X3_isIn a 11 16 = 0 := by
      unfold f_X3_isIn
      have e2 : (11 : Int32).toInt = 11 := rfl
      have e5 : (16 : Int32).toInt = 16 := rfl
      by_cases c : a < 11
      · rw [if_pos c]
      · rw [if_neg c, if_pos (by rw [Int32.lt_iff_toInt_lt] at c ⊢; omega)]
    rw [if_neg n0, if_neg n1, if_neg n2, if_neg n3, if_neg n4, if_neg n5, if_neg n0, if_neg n1, if_pos i1, if_pos i2]
    by_cases c : a ≤ 10
    · rw [if_pos c]; exact ⟨rfl, hB1⟩
    · have c2 : 16 < a := by
        have e10 : (10 : Int32).toInt = 10 := rfl
        have e16 : (16 : Int32).toInt = 16 := rfl
        rw [Int32.le_iff_toInt_le] at c
        rw [Int32.lt_iff_toInt_lt]
        omega
      rw [if_neg c, if_pos c2]; exact ⟨rfl, hB1⟩
theorem ps_row {g h : pz_M} {ph : Nat → Option Nat} (hB : pz_B g ph h) (a : Int32) : pz_B g ph (f_X3_row h a).2 ∧ (f_X3_row h a).2 18 0 = (if f_X2_isRow a = 0 then 1 else 0) ∧ (¬ f_X2_isRow a = 0 → (f_X3_row h a).1 = g 3 a.toNatClampNeg) := by
  unfold f_X3_row
  by_cases c1 : f_X2_isRow a = 0
  · simp only [if_pos c1, if_pos ((pz_rowin a).mp c1)]
    rw [pz_s, if_neg (by decide)]
    exact ⟨pz_BT hB 1, by dsimp only; rw [pz_s], fun q => absurd c1 q⟩
  · simp only [if_neg c1, if_neg (fun q => c1 ((pz_rowin a).mpr q))]
    rw [pz_s, if_pos rfl]
    obtain ⟨k, hk, rfl⟩ := vp_in_of (pz_row c1) (by decide)
    refine ⟨pz_BT hB 0, by dsimp only; rw [pz_s], fun _ => ?_⟩
    rw [nI_clamp (by omega)]
    dsimp only
    rw [pz_t2 (by omega)]
    exact (hB.1.2.2.2.1 k hk).symm
end
section
section ZROWS
variable {p : Program} {l : Launch} {e : Env} {R : Room} {s : State} {m : MethodId} {args : Array Value} {below : List Frame} {meth : Method} {c : Code} {H : Heap} {locs : List Loc} {cells slots : Nat} {Q : State → Prop}
variable {mc ms : Nat} {free : Addr → Prop} {A0 A1 : Nat → Prop} {H0 : Heap} {a : Array Value} {pc : Nat} {ls : Array Slot} {st0 rest : List Value}
/-- caught by the row x of this method's table; the rows ahead don't take it -/
theorem vx_catch {own name : String} {E : String} {ce : Cell} {q : Addr} (hown : s.vm.findClass own = some m.cls) (pre : List ExceptionTableEntry) (x : ExceptionTableEntry) (suf : List ExceptionTableEntry) (hsplit : c.exceptionTable.toList = pre ++ x :: suf)
    (hpass : ∀ z ∈ pre, covers z pc = false ∨ (z.catchType ≠ 0 ∧ ∃ nm : String, (Cond.classLink own z.catchType nm).before args s = true ∧ va_Nc E nm s)) (hx : covers x pc = true) (h0 : x.catchType ≠ 0)
    (hlink : (Cond.classLink own x.catchType name).before args s = true) (hcast : (Cond.castable E name).before args s = true) (hcell : H[q]? = some ce) (hv : ce.vm = .none) (hcl : s.vm.findClass E = some ce.cls)
    (kk : W p l e R s m args below meth c H locs cells slots Q (F0 m x.handlerPc ls [.ref q])) : vx_W p l e R s m args below meth c H locs cells slots Q (F0 m pc ls rest) q := by
  intro T hT X
  have hpl : e.platform.magicAccessors = ({} : Platform).magicAccessors := by rw [X.admits.platform]
  obtain ⟨c3, c4, hc3, hc4, hasg⟩ := Cond.castable_spec hcast
  cases Option.some.inj (hc3.symm.trans hcl)
  obtain ⟨c5, hc5, hcl5⟩ := Cond.classLink_spec hown hlink e.platform hpl
  cases Option.some.inj (hc4.symm.trans hc5)
  obtain ⟨vm', X', st⟩ := Jvm.Stand.thenCaughtThrough X q (g := F0 m pc ls rest) rfl (Steps.refl _) (by rw [hT]; exact hcell) (by rw [hv]; rfl) (by obtain ⟨k9, h9, -⟩ := Vm.findClass_spec hcl; exact ⟨k9, h9⟩) pre x suf hsplit
    (fun z hz => by
      rcases hpass z hz with h | ⟨hz0, nm, hl1, hn1⟩
      · exact Or.inl h
      · obtain ⟨c6, hc6, hcl6⟩ := Cond.classLink_spec hown hl1 e.platform hpl
        obtain ⟨a8, b8, h1, h2, h3⟩ := hn1
        cases Option.some.inj (h1.symm.trans hcl)
        cases Option.some.inj (h2.symm.trans hc6)
        exact Or.inr ⟨hz0, _, hcl6, h3⟩) hx (Or.inr ⟨h0, c4, hcl5, hasg⟩)
  obtain ⟨t, a1, b1⟩ := kk (T.setVm vm') hT X'
  exact ⟨t, st.trans a1, b1⟩
end ZROWS
end
