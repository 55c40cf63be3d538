/-! THE LAYER: what a contract says in this system's words, and rows for its cells -/
def pz_K (dC : Nat → ClassId) (dI : Nat → Nat → Nat) (cc : Nat → ClassId) (U : State) : Prop := va_K (dC, dI) vwCl (pz_ty cc) U ∧ va_Nw (.fieldLinkNest RX2 156 "PowderMill$House" "powder" "I" "PowderMill") U ∧ va_Nw (.fieldLinkNest RX2 65 "PowderMill$House" "stands" "Z" "PowderMill") U ∧ va_Nw (.fieldLinkNest RX1 28 "PowderMill$House" "timesIn" "I" "PowderMill") U ∧ va_Nw (.fieldLinkNest RX1 31 "PowderMill$House" "staysNow" "I" "PowderMill") U ∧ va_Nw (.fieldLinkNest RX1 38 "PowderMill$House" "refuge" "Z" "PowderMill") U ∧ va_Nw (.fieldLinkNest RX1 42 "PowderMill$House" "timesCaught" "I" "PowderMill") U
theorem pz_K.warm {dC : Nat → ClassId} {dI : Nat → Nat → Nat} {cc : Nat → ClassId} {s U : State} (hW : s.WarmedH U.vm) (h : pz_K dC dI cc s) : pz_K dC dI cc U := by
  obtain ⟨h0, h1, h2, h3, h4, h5, h6⟩ := h
  exact ⟨va_K.moved hW.alike h0, va_Nw.warmF hW h1, va_Nw.warmF hW h2, va_Nw.warmF hW h3, va_Nw.warmF hW h4, va_Nw.warmF hW h5, va_Nw.warmF hW h6⟩
def pz_Pre (dC : Nat → ClassId) (dI : Nat → Nat → Nat) (cc : Nat → ClassId) (w : va_W) (sz : Nat) (U : State) : Prop := U.heap.size = sz ∧ va_P (dC, dI) vwCl w U.heap ∧ pz_K dC dI cc U ∧ va_D (fun _ => True) w
theorem pz_blind {dC : Nat → ClassId} {dI : Nat → Nat → Nat} {cc : Nat → ClassId} {w : va_W} {sz : Nat} {av : List Value} : FrameBlind (va_Pc av (pz_Pre dC dI cc w sz)) := by
  intro a U g mk q
  obtain ⟨q0, q1, q2, q3, q4⟩ := q
  exact ⟨q0, q1, q2, pz_K.warm (s := U) (U := U.calling g mk a) (State.WarmedH.refl U) q3, q4⟩
def pz_Qi (dC : Nat → ClassId) (dI : Nat → Nat → Nat) {S : Type} (post : Int32 → S → Prop) (wf : S → va_W) (A : Nat → Prop) : Array Value → State → Outcome → State → Prop := va_Qi post (fun u t => va_P (dC, dI) vwCl (wf u) t.heap ∧ va_D A (wf u)) A
def pz_Qv (dC : Nat → ClassId) (dI : Nat → Nat → Nat) {S : Type} (post : S → Prop) (wf : S → va_W) (A : Nat → Prop) : Array Value → State → Outcome → State → Prop := va_Qv post (fun u t => va_P (dC, dI) vwCl (wf u) t.heap ∧ va_D A (wf u)) A
def pz_Qe (dC : Nat → ClassId) (dI : Nat → Nat → Nat) (ad : Nat → Nat) {S : Type} (post : Option Nat → S → Prop) (wf : S → va_W) (A : Nat → Prop) : Array Value → State → Outcome → State → Prop := va_Qe (fun k => ad (10 + k)) post (fun u t => va_P (dC, dI) vwCl (wf u) t.heap ∧ va_D A (wf u)) A
/-- contracts: an int comes back; nothing does; a house or null does -/
def pz_Mi (l : Launch) (dC : Nat → ClassId) (dI : Nat → Nat → Nat) (cc : Nat → ClassId) (y : MethodName) (ws : List Cond) (rm : Room) (av : List Value) (w : va_W) {S : Type} (wf : S → va_W) (post : Int32 → S → Prop) : Prop :=
  ∀ sz : Nat, Met l y ws rm (va_Pc av (pz_Pre dC dI cc w sz)) (pz_Qi dC dI post wf (va_A w sz)) 0 0 (va_A w sz)
def pz_Mv (l : Launch) (dC : Nat → ClassId) (dI : Nat → Nat → Nat) (cc : Nat → ClassId) (y : MethodName) (ws : List Cond) (rm : Room) (av : List Value) (w : va_W) {S : Type} (wf : S → va_W) (post : S → Prop) : Prop :=
  ∀ sz : Nat, Met l y ws rm (va_Pc av (pz_Pre dC dI cc w sz)) (pz_Qv dC dI post wf (va_A w sz)) 0 0 (va_A w sz)
def pz_Me (l : Launch) (dC : Nat → ClassId) (dI : Nat → Nat → Nat) (cc : Nat → ClassId) (ad : Nat → Nat) (y : MethodName) (ws : List Cond) (rm : Room) (av : List Value) (w : va_W) {S : Type} (wf : S → va_W) (post : Option Nat → S → Prop) : Prop :=
  ∀ sz : Nat, Met l y ws rm (va_Pc av (pz_Pre dC dI cc w sz)) (pz_Qe dC dI ad post wf (va_A w sz)) 0 0 (va_A w sz)
/-- a method's start -/
theorem pr_ofW {l : Launch} {dC : Nat → ClassId} {dI : Nat → Nat → Nat} {cl : Nat → ClassId} {y : MethodName} {ws ws' : List Cond} {rm : Room} {av : List Value} {w : va_W} {sz mc ms : Nat} {Qc : (Nat → Prop) → Array Value → State → Outcome → State → Prop} {cb : ByteArray} {maxL : Nat} {ret : Option FieldType}
    (hy : plainName y.cls = true) (hw : ws = Cond.code y cb maxL ret :: ws') (hlen : (lg_sl av).length ≤ maxL)
    (body : ∀ (p : Program) (e : Env) (s : State) (m : MethodId) (below : List Frame) (meth : Method) (c : Code) (A : Nat → Prop) (ls : Array Slot), p.tables.exec = Jvm.exec → c.code = cb → c.maxLocals = maxL → meth.sig.returnType = ret → meth.locks = false → (∀ x ∈ ws, x.before av.toArray s = true) → s.vm.findClass y.cls = some m.cls →
      pz_K dC dI cl s → va_P (dC, dI) vwCl w s.heap → va_D A w → va_S A s.heap s.heap [] → (∀ q, s.heap.size ≤ q → A q) → lv_has ls maxL (lv_args 0 av) →
      W p l e rm s m av.toArray below meth c s.heap [] 0 0 (MQ below (Qc A) av.toArray s mc ms A) (F0 m 0 ls [])) :
    Met l y ws rm (va_Pc av (pz_Pre dC dI cl w sz)) (Qc (va_A w sz)) mc ms (va_A w sz) := by
  refine Met.ofW (cc := cb) (maxL := maxL) (ret := ret) hy hw ?_
  intro p e s m args below meth c s₁ B hml hv
  obtain ⟨rfl, hsz, hP, hK, hD0⟩ := hv
  subst hsz
  have hl := lv_entry av (n := maxL) hlen
  rw [lg_entry_eq]
  exact body p e s m below meth c (va_A w s.heap.size) _ B.exec B.bytes hml B.returns B.notSynchronized (atoms_spec (ws := ws) B.pre) (findClass_of_methodNamed B.named) hK hP (hD0.self (sz := s.heap.size)) va_S.rf (fun q h => Or.inr h) hl
section PR
variable {p : Program} {l : Launch} {e : Env} {R : Room} {s : State} {m : MethodId} {args : Array Value} {below : List Frame} {meth : Method} {c : Code} {H : Heap} {locs : List Loc} {cells slots : Nat} {Q : State → Prop}
variable {cb : ByteArray} {pc : Nat} {ls : Array Slot} {rest : List Value} {dC : Nat → ClassId} {dI : Nat → Nat → Nat} {ad : Nat → Nat} {cl : Nat → ClassId} {ph : Nat → Option Nat} {o : Nat → Int64} {g h : pz_M} {A : Nat → Prop}
-- ends
theorem pr_iret {S : Type} {post : Int32 → S → Prop} {wf : S → va_W} {v : Int32} (u : S) (hx : p.tables.exec = Jvm.exec) (hb : c.code = cb) (hr : meth.sig.returnType = some .int) (hlocks : meth.locks = false) (hP : va_P (dC, dI) vwCl (wf u) H) (hD : va_D A (wf u)) (hS : va_S A s.heap H locs) (hdg : decode cb pc = .ok (.ireturn, 1)) (hp : post v u) :
    W p l e R s m args below meth c H locs cells slots (MQ below (pz_Qi dC dI post wf A) args s cells slots A) (F0 m pc ls [.int v]) :=
  W.iret (v := v) hx hb hr (fun t ht _ => ⟨⟨v, u, rfl, hp, by rw [ht]; exact hP, hD⟩, hS.F ht⟩) hS.2.2 hdg hlocks
theorem pr_zret {S : Type} {post : Int32 → S → Prop} {wf : S → va_W} {v : Int32} (u : S) (hx : p.tables.exec = Jvm.exec) (hb : c.code = cb) (hr : meth.sig.returnType = some .boolean) (hlocks : meth.locks = false) (hv : v = 0 ∨ v = 1) (hP : va_P (dC, dI) vwCl (wf u) H) (hD : va_D A (wf u)) (hS : va_S A s.heap H locs) (hdg : decode cb pc = .ok (.ireturn, 1)) (hp : post v u) :
    W p l e R s m args below meth c H locs cells slots (MQ below (pz_Qi dC dI post wf A) args s cells slots A) (F0 m pc ls [.int v]) :=
  W.zret (v := v) (ty := .boolean) hx hb hr (by rcases hv with rfl | rfl <;> rfl) (fun t ht _ => ⟨⟨v, u, rfl, hp, by rw [ht]; exact hP, hD⟩, hS.F ht⟩) hS.2.2 hdg hlocks
theorem pr_vret {S : Type} {post : S → Prop} {wf : S → va_W} (u : S) (hx : p.tables.exec = Jvm.exec) (hb : c.code = cb) (hr : meth.sig.returnType = none) (hlocks : meth.locks = false) (hP : va_P (dC, dI) vwCl (wf u) H) (hD : va_D A (wf u)) (hS : va_S A s.heap H locs) (hdg : decode cb pc = .ok (.return_, 1)) (hp : post u) :
    W p l e R s m args below meth c H locs cells slots (MQ below (pz_Qv dC dI post wf A) args s cells slots A) (F0 m pc ls []) :=
  W.vret hx hb hr (fun t ht _ => ⟨⟨u, rfl, hp, by rw [ht]; exact hP, hD⟩, hS.F ht⟩) hS.2.2 hdg hlocks
theorem pr_aret {S : Type} {post : Option Nat → S → Prop} {wf : S → va_W} {v : Value} (r : Option Nat) (u : S) (hx : p.tables.exec = Jvm.exec) (hb : c.code = cb) (hr : meth.sig.returnType = some (.object "PowderMill$House")) (hlocks : meth.locks = false) (hv : va_re (fun k => ad (10 + k)) r = v) (hP : va_P (dC, dI) vwCl (wf u) H) (hD : va_D A (wf u)) (hS : va_S A s.heap H locs) (hdg : decode cb pc = .ok (.areturn, 1)) (hp : post r u) :
    W p l e R s m args below meth c H locs cells slots (MQ below (pz_Qe dC dI ad post wf A) args s cells slots A) (F0 m pc ls [v]) :=
  W.aret (v := v) hx hb hr (Or.inl ⟨_, rfl⟩) (by rw [← hv]; exact va_re_or _ _) (fun t ht _ => ⟨⟨r, u, by rw [hv], hp, by rw [ht]; exact hP, hD⟩, hS.F ht⟩) hS.2.2 hdg hlocks
-- fields of the class's objects
theorem pr_putC (hexec : p.tables.exec = Jvm.exec) (hb : c.code = cb) {own ref C : String} {T : u_T} {N ci index : Nat} {Ts : List Cond} (hts : ∀ w ∈ Ts, w.before args s = true) (hin : ∀ w ∈ u_ws C T N, w ∈ Ts) (ty0 : Nat → FieldType) (hty : ∀ k, k < N → parseFieldDescriptor (T k).2.2.1 = some (ty0 k)) (hnm : ∀ a, a < N → ∀ b, b < N → a ≠ b → (T a).2.1 ≠ (T b).2.1) (hown : s.vm.findClass own = some m.cls) (hK : va_K (dC, dI) vwCl (pz_ty cl) s) (hP : va_P (dC, dI) vwCl (pz_wd ad cl ph o g h) H) (hD : va_D A (pz_wd ad cl ph o g h)) (hS : va_S A s.heap H locs) (i : Nat) (hi : i < 18) {fs : List Value} (ha : (pz_wd ad cl ph o g h)[i]? = some (ad i, .inr (ci, fs))) (hc : vwCl[ci]? = some (C, T, N)) (k : Nat) (hk : k < N) (hlink : (Cond.fieldLink own index ref (T k).2.1 (T k).2.2.1).before args s = true) (hsame : ∀ x, s.fieldFound? (T k).1 (T k).2.1 (T k).2.2.1 = some x → s.fieldFound? ref (T k).2.1 (T k).2.2.1 = some x) (hfin : (T k).2.2.2 = false) {ty : FieldType} {v : Int32} (hd : parseFieldDescriptor (T k).2.2.1 = some ty) (hn : narrow ty (.int v) = .int v) (hfit : fits ty (.int v) = true) (hl : k < fs.length) (he : pz_ce ad cl ph o i (upd (g i) k v) = .inr (ci, fs.set k (.int v))) (hdg : decode cb pc = .ok (.putfield index, 3))
    (kk : ∀ (g1 : pz_M) (H1 : Heap) (locs1 : List Loc), g1 = pz_st g i k v → va_P (dC, dI) vwCl (pz_wd ad cl ph o g1 h) H1 → va_D A (pz_wd ad cl ph o g1 h) → va_S A s.heap H1 locs1 → W p l e R s m args below meth c H1 locs1 cells slots Q (F0 m (pc + 3) ls rest)) : W p l e R s m args below meth c H locs cells slots Q (F0 m pc ls (.int v :: .ref (ad i) :: rest)) :=
  va_put hexec hb hts hin ty0 hty hnm hown hK hP hD hS i ha hc k hk hlink hsame hfin hd hn hfit hl hdg (fun H1 l1 hP1 hD1 hS1 => kk _ H1 l1 rfl (pz_setC hi he ▸ hP1) (pz_setC hi he ▸ hD1) hS1)
theorem pr_putN (hexec : p.tables.exec = Jvm.exec) (hb : c.code = cb) {own ref C host : String} {T : u_T} {N ci index : Nat} {Ts : List Cond} (hts : ∀ w ∈ Ts, w.before args s = true) (hin : ∀ w ∈ u_ws C T N, w ∈ Ts) (ty0 : Nat → FieldType) (hty : ∀ k, k < N → parseFieldDescriptor (T k).2.2.1 = some (ty0 k)) (hnm : ∀ a, a < N → ∀ b, b < N → a ≠ b → (T a).2.1 ≠ (T b).2.1) (hown : s.vm.findClass own = some m.cls) (hK : va_K (dC, dI) vwCl (pz_ty cl) s) (hP : va_P (dC, dI) vwCl (pz_wd ad cl ph o g h) H) (hD : va_D A (pz_wd ad cl ph o g h)) (hS : va_S A s.heap H locs) (i : Nat) (hi : i < 18) {fs : List Value} (ha : (pz_wd ad cl ph o g h)[i]? = some (ad i, .inr (ci, fs))) (hc : vwCl[ci]? = some (C, T, N)) (k : Nat) (hk : k < N) (hlink : (Cond.fieldLinkNest own index ref (T k).2.1 (T k).2.2.1 host).before args s = true) (hsame : ∀ x, s.fieldFound? (T k).1 (T k).2.1 (T k).2.2.1 = some x → s.fieldFound? ref (T k).2.1 (T k).2.2.1 = some x) (hfin : (T k).2.2.2 = false) {ty : FieldType} {v : Int32} (hd : parseFieldDescriptor (T k).2.2.1 = some ty) (hn : narrow ty (.int v) = .int v) (hfit : fits ty (.int v) = true) (hl : k < fs.length) (he : pz_ce ad cl ph o i (upd (g i) k v) = .inr (ci, fs.set k (.int v))) (hdg : decode cb pc = .ok (.putfield index, 3))
    (kk : ∀ (g1 : pz_M) (H1 : Heap) (locs1 : List Loc), g1 = pz_st g i k v → va_P (dC, dI) vwCl (pz_wd ad cl ph o g1 h) H1 → va_D A (pz_wd ad cl ph o g1 h) → va_S A s.heap H1 locs1 → W p l e R s m args below meth c H1 locs1 cells slots Q (F0 m (pc + 3) ls rest)) : W p l e R s m args below meth c H locs cells slots Q (F0 m pc ls (.int v :: .ref (ad i) :: rest)) :=
  va_putN hexec hb hts hin ty0 hty hnm hown hK hP hD hS i ha hc k hk hlink hsame hfin hd hn hfit hl hdg (fun H1 l1 hP1 hD1 hS1 => kk _ H1 l1 rfl (pz_setC hi he ▸ hP1) (pz_setC hi he ▸ hD1) hS1)
theorem pr_putR (hexec : p.tables.exec = Jvm.exec) (hb : c.code = cb) {own ref C : String} {T : u_T} {N ci index : Nat} {Ts : List Cond} (hts : ∀ w ∈ Ts, w.before args s = true) (hin : ∀ w ∈ u_ws C T N, w ∈ Ts) (ty0 : Nat → FieldType) (hty : ∀ k, k < N → parseFieldDescriptor (T k).2.2.1 = some (ty0 k)) (hnm : ∀ a, a < N → ∀ b, b < N → a ≠ b → (T a).2.1 ≠ (T b).2.1) (hown : s.vm.findClass own = some m.cls) (hK : va_K (dC, dI) vwCl (pz_ty cl) s) (hP : va_P (dC, dI) vwCl (pz_wd ad cl ph o g h) H) (hD : va_D A (pz_wd ad cl ph o g h)) (hS : va_S A s.heap H locs) (i : Nat) (hi : ¬ i < 18) (hi2 : i < 33) {fs : List Value} (ha : (pz_wd ad cl ph o g h)[i]? = some (ad i, .inr (ci, fs))) (hc : vwCl[ci]? = some (C, T, N)) (k : Nat) (hk : k < N) (hlink : (Cond.fieldLink own index ref (T k).2.1 (T k).2.2.1).before args s = true) (hsame : ∀ x, s.fieldFound? (T k).1 (T k).2.1 (T k).2.2.1 = some x → s.fieldFound? ref (T k).2.1 (T k).2.2.1 = some x) (hfin : (T k).2.2.2 = false) {ty : FieldType} {v : Int32} (hd : parseFieldDescriptor (T k).2.2.1 = some ty) (hn : narrow ty (.int v) = .int v) (hfit : fits ty (.int v) = true) (hl : k < fs.length) (he : pz_ce ad cl ph o i (upd (h i) k v) = .inr (ci, fs.set k (.int v))) (hdg : decode cb pc = .ok (.putfield index, 3))
    (kk : ∀ (h1 : pz_M) (H1 : Heap) (locs1 : List Loc), h1 = pz_st h i k v → va_P (dC, dI) vwCl (pz_wd ad cl ph o g h1) H1 → va_D A (pz_wd ad cl ph o g h1) → va_S A s.heap H1 locs1 → W p l e R s m args below meth c H1 locs1 cells slots Q (F0 m (pc + 3) ls rest)) : W p l e R s m args below meth c H locs cells slots Q (F0 m pc ls (.int v :: .ref (ad i) :: rest)) :=
  va_put hexec hb hts hin ty0 hty hnm hown hK hP hD hS i ha hc k hk hlink hsame hfin hd hn hfit hl hdg (fun H1 l1 hP1 hD1 hS1 => kk _ H1 l1 rfl (pz_setR hi hi2 he ▸ hP1) (pz_setR hi hi2 he ▸ hD1) hS1)
-- rows of numbers
theorem pr_iastC (hexec : p.tables.exec = Jvm.exec) (hb : c.code = cb) (hK : va_K (dC, dI) vwCl (pz_ty cl) s) (hP : va_P (dC, dI) vwCl (pz_wd ad cl ph o g h) H) (hD : va_D A (pz_wd ad cl ph o g h)) (hS : va_S A s.heap H locs) (i : Nat) (hi : i < 18) {n : Nat} (ha : (pz_wd ad cl ph o g h)[i]? = some (ad i, .inl (cl 0, n, .inl (g i)))) (he : ∀ mm : Nat → Int32, pz_ce ad cl ph o i mm = .inl (cl 0, n, .inl mm)) {j x : Int32} (hin : vp_in j n) (hdg : decode cb pc = .ok (.iastore, 1))
    (kk : ∀ (g1 : pz_M) (H1 : Heap) (locs1 : List Loc), g1 = pz_st g i j.toNatClampNeg x → va_P (dC, dI) vwCl (pz_wd ad cl ph o g1 h) H1 → va_D A (pz_wd ad cl ph o g1 h) → va_S A s.heap H1 locs1 → W p l e R s m args below meth c H1 locs1 cells slots Q (F0 m (pc + 1) ls rest)) : W p l e R s m args below meth c H locs cells slots Q (F0 m pc ls (.int x :: .int j :: .ref (ad i) :: rest)) :=
  va_iast hexec hb hK hP hD hS i 0 ha rfl hin hdg (fun H1 l1 hP1 hD1 hS1 => kk _ H1 l1 rfl (pz_setC hi (he _) ▸ hP1) (pz_setC hi (he _) ▸ hD1) hS1)
theorem pr_iastR (hexec : p.tables.exec = Jvm.exec) (hb : c.code = cb) (hK : va_K (dC, dI) vwCl (pz_ty cl) s) (hP : va_P (dC, dI) vwCl (pz_wd ad cl ph o g h) H) (hD : va_D A (pz_wd ad cl ph o g h)) (hS : va_S A s.heap H locs) (i : Nat) (hi : ¬ i < 18) (hi2 : i < 33) {n : Nat} (ha : (pz_wd ad cl ph o g h)[i]? = some (ad i, .inl (cl 0, n, .inl (h i)))) (he : ∀ mm : Nat → Int32, pz_ce ad cl ph o i mm = .inl (cl 0, n, .inl mm)) {j x : Int32} (hin : vp_in j n) (hdg : decode cb pc = .ok (.iastore, 1))
    (kk : ∀ (h1 : pz_M) (H1 : Heap) (locs1 : List Loc), h1 = pz_st h i j.toNatClampNeg x → va_P (dC, dI) vwCl (pz_wd ad cl ph o g h1) H1 → va_D A (pz_wd ad cl ph o g h1) → va_S A s.heap H1 locs1 → W p l e R s m args below meth c H1 locs1 cells slots Q (F0 m (pc + 1) ls rest)) : W p l e R s m args below meth c H locs cells slots Q (F0 m pc ls (.int x :: .int j :: .ref (ad i) :: rest)) :=
  va_iast hexec hb hK hP hD hS i 0 ha rfl hin hdg (fun H1 l1 hP1 hD1 hS1 => kk _ H1 l1 rfl (pz_setR hi hi2 (he _) ▸ hP1) (pz_setR hi hi2 (he _) ▸ hD1) hS1)
theorem pr_zastR (hexec : p.tables.exec = Jvm.exec) (hb : c.code = cb) (hK : va_K (dC, dI) vwCl (pz_ty cl) s) (hP : va_P (dC, dI) vwCl (pz_wd ad cl ph o g h) H) (hD : va_D A (pz_wd ad cl ph o g h)) (hS : va_S A s.heap H locs) {j x : Int32} (hx : x = 0 ∨ x = 1) (hin : vp_in j 8) (hdg : decode cb pc = .ok (.bastore, 1))
    (kk : ∀ (h1 : pz_M) (H1 : Heap) (locs1 : List Loc), h1 = pz_st h 21 j.toNatClampNeg x → va_P (dC, dI) vwCl (pz_wd ad cl ph o g h1) H1 → va_D A (pz_wd ad cl ph o g h1) → va_S A s.heap H1 locs1 → W p l e R s m args below meth c H1 locs1 cells slots Q (F0 m (pc + 1) ls rest)) : W p l e R s m args below meth c H locs cells slots Q (F0 m pc ls (.int x :: .int j :: .ref (ad 21) :: rest)) := by
  have hz : vp_nar .boolean x = x := by rcases hx with rfl | rfl <;> rfl
  refine va_zast hexec hb hK hP hD hS 21 1 pz_a21 rfl hin hdg (fun H1 l1 hP1 hD1 hS1 => kk _ H1 l1 rfl ?_ ?_ hS1)
  · rw [hz] at hP1; exact (pz_setR (i := 21) (j := j.toNatClampNeg) (v := x) (by omega) (by omega) rfl) ▸ hP1
  · rw [hz] at hD1; exact (pz_setR (i := 21) (j := j.toNatClampNeg) (v := x) (by omega) (by omega) rfl) ▸ hD1
-- rows of houses
theorem pr_places (hexec : p.tables.exec = Jvm.exec) (hb : c.code = cb) (hK : va_K (dC, dI) vwCl (pz_ty cl) s) (hP : va_P (dC, dI) vwCl (pz_wd ad cl ph o g h) H) {j : Int32} (hin : vp_in j 8) (hdg : decode cb pc = .ok (.aaload, 1))
    (kk : W p l e R s m args below meth c H locs cells slots Q (F0 m (pc + 1) ls (.ref (ad (10 + j.toNatClampNeg)) :: rest))) : W p l e R s m args below meth c H locs cells slots Q (F0 m pc ls (.int j :: .ref (ad 1) :: rest)) :=
  va_aldq (C := "PowderMill$House") hexec hb hK hP 1 2 pz_a1 rfl hin hdg kk
theorem pr_stay (hexec : p.tables.exec = Jvm.exec) (hb : c.code = cb) (hK : va_K (dC, dI) vwCl (pz_ty cl) s) (hP : va_P (dC, dI) vwCl (pz_wd ad cl ph o g h) H) {j : Int32} {k : Nat} (hk : ph j.toNatClampNeg = some k) (hin : vp_in j 6) (hdg : decode cb pc = .ok (.aaload, 1))
    (kk : W p l e R s m args below meth c H locs cells slots Q (F0 m (pc + 1) ls (.ref (ad (10 + k)) :: rest))) : W p l e R s m args below meth c H locs cells slots Q (F0 m pc ls (.int j :: .ref (ad 7) :: rest)) :=
  va_aldq (C := "PowderMill$House") hexec hb hK hP 7 2 pz_a7 rfl hin hdg (by
    have : va_rf (pz_rQ ad ph j.toNatClampNeg) = .ref (ad (10 + k)) := by unfold pz_rQ; rw [hk]; rfl
    rw [this]; exact kk)
theorem pr_enter (hexec : p.tables.exec = Jvm.exec) (hb : c.code = cb) (hK : va_K (dC, dI) vwCl (pz_ty cl) s) (hP : va_P (dC, dI) vwCl (pz_wd ad cl ph o g h) H) (hD : va_D A (pz_wd ad cl ph o g h)) (hS : va_S A s.heap H locs) {j : Int32} {k : Nat} (hk : k < 8) (hin : vp_in j 6) (hdg : decode cb pc = .ok (.aastore, 1))
    (kk : ∀ (ph1 : Nat → Option Nat) (H1 : Heap) (locs1 : List Loc), ph1 = va_up ph j.toNatClampNeg (some k) → va_P (dC, dI) vwCl (pz_wd ad cl ph1 o g h) H1 → va_D A (pz_wd ad cl ph1 o g h) → va_S A s.heap H1 locs1 → W p l e R s m args below meth c H1 locs1 cells slots Q (F0 m (pc + 1) ls rest)) : W p l e R s m args below meth c H locs cells slots Q (F0 m pc ls (.ref (ad (10 + k)) :: .int j :: .ref (ad 7) :: rest)) := by
  have hz : pz_rQ ad (va_up ph j.toNatClampNeg (some k)) = va_up (pz_rQ ad ph) j.toNatClampNeg (some (ad (10 + k))) := by
    funext z
    unfold pz_rQ va_up
    by_cases hz : z = j.toNatClampNeg
    · rw [if_pos hz, if_pos hz]; rfl
    · rw [if_neg hz, if_neg hz]
  refine va_astq (r := (RX0, TX0, 8)) hexec hb hK hP hD hS 7 2 (10 + k) 2 pz_a7 rfl (pz_aH hk) rfl hin hdg (fun H1 l1 hP1 hD1 hS1 => kk _ H1 l1 rfl ?_ ?_ hS1)
  · rw [← hz] at hP1; exact pz_setP rfl ▸ hP1
  · rw [← hz] at hD1; exact pz_setP rfl ▸ hD1
-- calls
theorem pr_up {w : va_W} (hD : va_D A w) (hS : va_S A s.heap H locs) (hA : ∀ q, s.heap.size ≤ q → A q) : ∀ q, va_A w H.size q → A q := by
  intro q hq
  rcases hq with ⟨k, e, hq⟩ | hq
  · exact hD.2 k _ hq
  · exact hA q (Nat.le_trans hS.1 hq)
variable {nL n index maxL : Nat} {Ts ws : List Cond} {own C : String} {y : MethodName} {bytes : ByteArray} {ret : Option FieldType} {rm : Room} {b : Nat} {As st0 : List Value} {w : va_W} {S : Type} {wf : S → va_W}
theorem pr_Vi {post : Int32 → S → Prop} (F : CallFix p m c cb nL s args Ts own) (hM : pz_Mi l dC dI cl y ws rm (.ref b :: As) w wf post) (cw : CallW R s args own C index y bytes maxL ret ws rm 0 0 n) (hrecv : ∃ cellB : Cell, H[b]? = some cellB ∧ cellB.vm.isStatics = false ∧ s.vm.findClass C = some cellB.cls)
    (hK : pz_K dC dI cl s) (hP : va_P (dC, dI) vwCl w H) (hD : va_D A w) (hS : va_S A s.heap H locs) (hA : ∀ q, s.heap.size ≤ q → A q) (hn : As.length = n) (hsize : ls.size = nL) (hstack : st0 = As.reverse ++ .ref b :: rest) (hW : (rest.map fun v => v.category).sum ≤ 8) (hf : cells ≤ R.cells ∧ slots ≤ R.slots) (hdg : decode cb pc = .ok (.invokevirtual index, 3))
    (kk : ∀ (r : Int32) (u : S) (H1 : Heap) (locs1 : List Loc), post r u → va_P (dC, dI) vwCl (wf u) H1 → va_D A (wf u) → va_S A s.heap H1 locs1 → W p l e R s m args below meth c H1 locs1 cells slots Q (F0 m (pc + 3) ls (.int r :: rest))) : W p l e R s m args below meth c H locs cells slots Q (F0 m pc ls st0) :=
  va_calli (va_runV (As := As) (rest := rest) F (hM H.size) cw ⟨pz_blind, hrecv, fun U hU hWu => ⟨rfl, by rw [hU], by rw [hU]; exact hP, hK.warm hWu, hD.weaken (fun _ _ _ _ => trivial)⟩⟩ rfl hn hsize hstack (lv_room hW) hdg hf) hS (fun q _ h9 => pr_up hD hS hA q h9) (pr_up hD hS hA)
    (fun r u t H1 l1 ht _ hp hB _ _ hS1 => kk r u H1 l1 hp (by rw [← ht]; exact hB.1) (hB.2.weaken (fun _ q _ h9 => pr_up hD hS hA q.1 h9)) hS1)
theorem pr_Vv {post : S → Prop} (F : CallFix p m c cb nL s args Ts own) (hM : pz_Mv l dC dI cl y ws rm (.ref b :: As) w wf post) (cw : CallW R s args own C index y bytes maxL ret ws rm 0 0 n) (hrecv : ∃ cellB : Cell, H[b]? = some cellB ∧ cellB.vm.isStatics = false ∧ s.vm.findClass C = some cellB.cls)
    (hK : pz_K dC dI cl s) (hP : va_P (dC, dI) vwCl w H) (hD : va_D A w) (hS : va_S A s.heap H locs) (hA : ∀ q, s.heap.size ≤ q → A q) (hn : As.length = n) (hsize : ls.size = nL) (hstack : st0 = As.reverse ++ .ref b :: rest) (hW : (rest.map fun v => v.category).sum ≤ 8) (hf : cells ≤ R.cells ∧ slots ≤ R.slots) (hdg : decode cb pc = .ok (.invokevirtual index, 3))
    (kk : ∀ (u : S) (H1 : Heap) (locs1 : List Loc), post u → va_P (dC, dI) vwCl (wf u) H1 → va_D A (wf u) → va_S A s.heap H1 locs1 → W p l e R s m args below meth c H1 locs1 cells slots Q (F0 m (pc + 3) ls rest)) : W p l e R s m args below meth c H locs cells slots Q (F0 m pc ls st0) :=
  va_callv (va_runV (As := As) (rest := rest) F (hM H.size) cw ⟨pz_blind, hrecv, fun U hU hWu => ⟨rfl, by rw [hU], by rw [hU]; exact hP, hK.warm hWu, hD.weaken (fun _ _ _ _ => trivial)⟩⟩ rfl hn hsize hstack (lv_room hW) hdg hf) hS (fun q _ h9 => pr_up hD hS hA q h9) (pr_up hD hS hA)
    (fun u t H1 l1 ht _ hp hB _ _ hS1 => kk u H1 l1 hp (by rw [← ht]; exact hB.1) (hB.2.weaken (fun _ q _ h9 => pr_up hD hS hA q.1 h9)) hS1)
theorem pr_Ve {post : Option Nat → S → Prop} (F : CallFix p m c cb nL s args Ts own) (hM : pz_Me l dC dI cl ad y ws rm (.ref b :: As) w wf post) (cw : CallW R s args own C index y bytes maxL ret ws rm 0 0 n) (hrecv : ∃ cellB : Cell, H[b]? = some cellB ∧ cellB.vm.isStatics = false ∧ s.vm.findClass C = some cellB.cls)
    (hK : pz_K dC dI cl s) (hP : va_P (dC, dI) vwCl w H) (hD : va_D A w) (hS : va_S A s.heap H locs) (hA : ∀ q, s.heap.size ≤ q → A q) (hn : As.length = n) (hsize : ls.size = nL) (hstack : st0 = As.reverse ++ .ref b :: rest) (hW : (rest.map fun v => v.category).sum ≤ 8) (hf : cells ≤ R.cells ∧ slots ≤ R.slots) (hdg : decode cb pc = .ok (.invokevirtual index, 3))
    (kk : ∀ (r : Option Nat) (u : S) (H1 : Heap) (locs1 : List Loc), post r u → va_P (dC, dI) vwCl (wf u) H1 → va_D A (wf u) → va_S A s.heap H1 locs1 → W p l e R s m args below meth c H1 locs1 cells slots Q (F0 m (pc + 3) ls (va_re (fun k => ad (10 + k)) r :: rest))) : W p l e R s m args below meth c H locs cells slots Q (F0 m pc ls st0) :=
  va_calle (va_runV (As := As) (rest := rest) F (hM H.size) cw ⟨pz_blind, hrecv, fun U hU hWu => ⟨rfl, by rw [hU], by rw [hU]; exact hP, hK.warm hWu, hD.weaken (fun _ _ _ _ => trivial)⟩⟩ rfl hn hsize hstack (lv_room hW) hdg hf) hS (fun q _ h9 => pr_up hD hS hA q h9) (pr_up hD hS hA)
    (fun r u t H1 l1 ht _ hp hB _ _ hS1 => kk r u H1 l1 hp (by rw [← ht]; exact hB.1) (hB.2.weaken (fun _ q _ h9 => pr_up hD hS hA q.1 h9)) hS1)
theorem pr_Si {post : Int32 → S → Prop} (F : CallFix p m c cb nL s args Ts own) (hM : pz_Mi l dC dI cl y ws rm As w wf post) (cw : CallB R s args own index y bytes maxL ret ws rm 0 0 n ∧ (Cond.static y).before args s = true)
    (hK : pz_K dC dI cl s) (hP : va_P (dC, dI) vwCl w H) (hD : va_D A w) (hS : va_S A s.heap H locs) (hA : ∀ q, s.heap.size ≤ q → A q) (hn : As.length = n) (hsize : ls.size = nL) (hstack : st0 = As.reverse ++ rest) (hW : (rest.map fun v => v.category).sum ≤ 8) (hf : cells ≤ R.cells ∧ slots ≤ R.slots) (hdg : decode cb pc = .ok (.invokestatic index, 3))
    (kk : ∀ (r : Int32) (u : S) (H1 : Heap) (locs1 : List Loc), post r u → va_P (dC, dI) vwCl (wf u) H1 → va_D A (wf u) → va_S A s.heap H1 locs1 → W p l e R s m args below meth c H1 locs1 cells slots Q (F0 m (pc + 3) ls (.int r :: rest))) : W p l e R s m args below meth c H locs cells slots Q (F0 m pc ls st0) :=
  va_calli (va_runS (As := As) (rest := rest) F (hM H.size) cw ⟨pz_blind, fun U hU hWu => ⟨rfl, by rw [hU], by rw [hU]; exact hP, hK.warm hWu, hD.weaken (fun _ _ _ _ => trivial)⟩⟩ rfl hn hsize hstack (lv_room hW) hdg hf) hS (fun q _ h9 => pr_up hD hS hA q h9) (pr_up hD hS hA)
    (fun r u t H1 l1 ht _ hp hB _ _ hS1 => kk r u H1 l1 hp (by rw [← ht]; exact hB.1) (hB.2.weaken (fun _ q _ h9 => pr_up hD hS hA q.1 h9)) hS1)
end PR
theorem pz_lt8 {j : Int32} (h : vp_in j 8) : j.toNatClampNeg < 8 := Nat.not_le.mp fun q => h (Or.inr q)
def pz_h (ph : Nat → Option Nat) (i : Nat) : Nat := (ph i).getD 0
/-- the path: how deep, and whole houses in it -/
def pz_W (g : pz_M) (ph : Nat → Option Nat) : Prop := ∃ d : Nat, d ≤ 6 ∧ g 2 3 = nI d ∧ ∀ i, i < d → ∃ k, k < 8 ∧ ph i = some k
theorem pz_Wi {g : pz_M} {ph : Nat → Option Nat} {d i : Nat} (hs : ∀ i, i < d → ∃ k, k < 8 ∧ ph i = some k) (hi : i < d) : ph i = some (pz_h ph i) ∧ pz_h ph i < 8 := by
  obtain ⟨k, h1, h2⟩ := hs i hi
  have : pz_h ph i = k := by unfold pz_h; rw [h2]; rfl
  rw [this]; exact ⟨h2, h1⟩
theorem pz_W1 {g : pz_M} {ph : Nat → Option Nat} (hw : pz_W g ph) (hc : ¬ g 2 3 < 1) : vp_in (g 2 3 - 1) 6 ∧ ph (g 2 3 - 1).toNatClampNeg = some (pz_h ph (g 2 3 - 1).toNatClampNeg) ∧ pz_h ph (g 2 3 - 1).toNatClampNeg < 8 := by
  obtain ⟨d, h6, hd, hs⟩ := hw
  rw [hd] at hc ⊢
  have h1 : 1 ≤ d := by
    rcases Nat.lt_or_ge d 1 with q | q
    · exact absurd (nI_lt q (by decide) : nI d < nI 1) hc
    · exact q
  have e1 : nI d - 1 = nI (d - 1) := pk_sub (a := d) (b := 1) h1
  rw [e1, nI_clamp (by omega)]
  exact ⟨vp_in_nI (by omega) (by decide), pz_Wi (g := g) hs (by omega)⟩
theorem pz_W2 {g : pz_M} {ph : Nat → Option Nat} (hw : pz_W g ph) (hc : ¬ g 2 3 < 2) : vp_in (g 2 3 - 2) 6 ∧ ph (g 2 3 - 2).toNatClampNeg = some (pz_h ph (g 2 3 - 2).toNatClampNeg) ∧ pz_h ph (g 2 3 - 2).toNatClampNeg < 8 := by
  obtain ⟨d, h6, hd, hs⟩ := hw
  rw [hd] at hc ⊢
  have h1 : 2 ≤ d := by
    rcases Nat.lt_or_ge d 2 with q | q
    · exact absurd (nI_lt q (by decide) : nI d < nI 2) hc
    · exact q
  have e1 : nI d - 2 = nI (d - 2) := pk_sub (a := d) (b := 2) h1
  rw [e1, nI_clamp (by omega)]
  exact ⟨vp_in_nI (by omega) (by decide), pz_Wi (g := g) hs (by omega)⟩
section PT
variable {p : Program} {l : Launch} {e : Env} {R : Room} {s : State} {m : MethodId} {args : Array Value} {below : List Frame} {meth : Method} {c : Code} {H : Heap} {locs : List Loc} {cells slots : Nat} {Q : State → Prop} {cb : ByteArray} {pc : Nat} {ls : Array Slot} {rest : List Value}
theorem pr_tabIn (hexec : p.tables.exec = Jvm.exec) (hb : c.code = cb) {dflt lo hi ki : Int} {offs : Array Int} {len : Nat} {x k : Int32} {off : Int} {tgt : Nat} (hdg : decode cb pc = .ok (.tableswitch dflt lo hi offs, len)) (hx : x = k) (hk : k.toInt = ki) (h1 : ¬ ki < lo) (h2 : ¬ hi < ki) (ho : offs[(ki - lo).toNat]? = some off) (ht : (pc : Int) + off = (tgt : Int))
    (kk : W p l e R s m args below meth c H locs cells slots Q (F0 m tgt ls rest)) : W p l e R s m args below meth c H locs cells slots Q (F0 m pc ls (.int x :: rest)) :=
  lv_tableIn hexec hb hdg (by rw [hx, hk]; exact h1) (by rw [hx, hk]; exact h2) (by rw [hx, hk]; exact ho) ht kk
end PT
