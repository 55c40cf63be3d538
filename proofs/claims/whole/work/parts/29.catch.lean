section PKROWS
variable {p : Program} {l : Launch} {e : Env} {R : Room} {s : State} {m : MethodId} {args : Array Value} {below : List Frame} {meth : Method} {c : Code} {T : State} {locs : List Loc} {cells slots : Nat}
/-- the tables behind the handler's class, looked up for the first time or again -/
def pk_vm (T : State) (m : MethodId) (x : ExceptionTableEntry) (k : ClassId) : Vm := T.vm.noted m.cls x.catchType (.cls k)
/-- the first row of the table takes q: what the search gives from any state with T's tables and heap -/
theorem pk_search {x : ExceptionTableEntry} {suf : List ExceptionTableEntry} {g : JFrame} {q : Addr} {ce : Cell} {k : ClassId} (hg : g.method = m) (hx : covers x g.pc = true) (h0 : x.catchType ≠ 0)
    (hk : T.vm.ClassLinks e.platform m.cls x.catchType k) (hce : T.heap[q]? = some ce) (hv : ce.vm = .none) (hc1 : ∃ z, T.vm.classes[ce.cls]? = some z) (hc2 : ∃ z, T.vm.classes[k]? = some z) (hfit : T.vm.assignable ce.cls k = true)
    (S : State) (hS : S.vm = T.vm) (hH : S.heap = T.heap) (Q : Handler → Pre) (E : CtlPost) (d : Bool) (acts : List Action) :
    wp (findHandler.go g q (x :: suf)) Q E e d acts S ↔ Q (.found x.handlerPc) d acts (S.setVm (pk_vm T m x k)) := by
  subst hg
  have hal : T.vm.Alike (pk_vm T g.method x k) := (Vm.Alike.refl T.vm).noted _ _ _
  have hfit' : (pk_vm T g.method x k).assignable ce.cls k = true := (hal.assignable _ _).trans hfit
  obtain ⟨z1, hz1⟩ := hc1
  obtain ⟨z2, hz2⟩ := hc2
  obtain ⟨y1, hy1, -⟩ := hal.2.2 _ _ hz1
  obtain ⟨y2, hy2, -⟩ := hal.2.2 _ _ hz2
  rw [← hS] at hk
  obtain ⟨ha, ht⟩ := (resolveClass_links e.toSetting hk).op (op := VmOp.resolveClass g.method.cls x.catchType) rfl
  rw [hS] at ha ht
  rw [← hH] at hce
  unfold pk_vm at hfit' hy1 hy2 ⊢
  unfold covers at hx
  simp [findHandler.go, hx, h0, hS, ha, ht, hce, hv, hy1, hy2, hfit', VmOp.dirties, VmOp.acts]
/-- q thrown over the frame g of the walked method, whose table's first row takes it: on at the handler, q alone on the stack -/
theorem pk_caught (X : Stand p l e R s m args below meth c T locs cells slots) {x : ExceptionTableEntry} {suf : List ExceptionTableEntry} (htab : c.exceptionTable.toList = x :: suf) {g : JFrame} {q : Addr} {ce : Cell} {k : ClassId} (hg : g.method = m)
    (hx : covers x g.pc = true) (h0 : x.catchType ≠ 0) (hk : s.vm.ClassLinks e.platform m.cls x.catchType k) (hce : T.heap[q]? = some ce) (hv : ce.vm = .none) (hfit : s.vm.assignable ce.cls k = true) :
    Stand p l e R s m args below meth c (T.setVm (pk_vm T m x k)) locs cells slots ∧
      ∀ t, Steps p.tables e below ((T.setVm (pk_vm T m x k)).setTop { g with pc := x.handlerPc, stack := [.ref q] }) t → Steps p.tables e below ((T.setTop g).pushFrame (.throwing q)) t := by
  have hkT : T.vm.ClassLinks e.platform m.cls x.catchType k := X.warmed.classLinks hk
  obtain ⟨d0, -, -, z2, hd0, -, -, -, -, hz2, -, hop⟩ := hk.here
  obtain ⟨y2, hy2, -⟩ := X.warmed.alike.2.2 _ _ hz2
  have hfitT : T.vm.assignable ce.cls k = true := (X.warmed.alike.assignable _ _).trans hfit
  have hc1 : ∃ z, T.vm.classes[ce.cls]? = some z := Vm.classAt_of_assignable hfitT ⟨y2, hy2⟩
  refine ⟨X.noted (X.warmed.noted hd0 hop (State.rightAt_cls hk)), fun t ht => ?_⟩
  have hat : At T g.method c below := by rw [hg]; exact X.here
  obtain ⟨hgo, hin⟩ := hat.throwing q
  obtain ⟨g0, hfr⟩ := X.frames_eq
  have hmeth : ((T.setTop g).pushFrame (.throwing q)).vm.method? g.method = some meth := by rw [Stand.throwing_vm, hg]; exact X.method'
  refine Steps.head hgo hin ?_
  rw [stepThread_throwing (frames_entered hat.top _)]
  have hone : ((stepThrowing e ((T.setTop g).pushFrame (.throwing q)) q (.java g :: below)).Is ((((T.setTop g).pushFrame (.throwing q)).setVm (pk_vm T m x k)).setFrames (.java { g with pc := x.handlerPc, stack := [.ref q] } :: below)) []) := by
    simp only [stepThrowing, searchFrame, vmDo]
    generalize hr : Sem.go _ e false [] ((T.setTop g).pushFrame (.throwing q)) = res
    obtain ⟨as, rfl, ha⟩ := Sem.eq_ok_of hr (a := Handler.found x.handlerPc) (s' := ((T.setTop g).pushFrame (.throwing q)).setVm (pk_vm T m x k)) (acts' := [])
      (by simp [Jvm.W.findHandler_eq hmeth X.code, htab, pk_search hg hx h0 hkT hce hv hc1 ⟨y2, hy2⟩ hfitT _ (Stand.throwing_vm T g q) (Stand.throwing_heap T g q)])
    exact ⟨rfl, ha⟩
  rw [hfr, List.tail_cons, hone.1]
  rw [State.setTop_of_frames (s := T.setVm (pk_vm T m x k)) _ hfr] at ht
  have hlast : (((T.setTop g).pushFrame (.throwing q)).setVm (pk_vm T m x k)).setFrames (.java { g with pc := x.handlerPc, stack := [.ref q] } :: below) = (T.setVm (pk_vm T m x k)).setFrames (.java { g with pc := x.handlerPc, stack := [.ref q] } :: below) := by
    rw [State.pushFrame, State.setTop_of_frames _ hfr, State.setFrames_setFrames]
    exact State.setFrames_setFrames (T.setVm (pk_vm T m x k)) _ _
  rw [hlast]
  exact ht
end PKROWS
section ZROWS
variable {p : Program} {l : Launch} {e : Env} {R : Room} {s : State} {m : MethodId} {args : Array Value} {below : List Frame} {meth : Method} {c : Code} {H : Heap} {locs : List Loc} {cells slots : Nat} {Q : State → Prop}
variable {pc : Nat} {ls : Array Slot} {rest : List Value}
/-- caught by the first row of this method's table -/
theorem vx_catch {own name : String} {E : String} {ce : Cell} {q : Addr} (hown : s.vm.findClass own = some m.cls) (x : ExceptionTableEntry) (suf : List ExceptionTableEntry) (htab : c.exceptionTable.toList = x :: suf) (hx : covers x pc = true) (h0 : x.catchType ≠ 0)
    (hlink : (Cond.classLink own x.catchType name).before args s = true) (hcast : (Cond.castable E name).before args s = true) (hcell : H[q]? = some ce) (hv : ce.vm = .none) (hcl : s.vm.findClass E = some ce.cls)
    (kk : W p l e R s m args below meth c H locs cells slots Q (F0 m x.handlerPc ls [.ref q])) : vx_W p l e R s m args below meth c H locs cells slots Q (F0 m pc ls rest) q := by
  intro T hT X
  have hpl : e.platform.magicAccessors = ({} : Platform).magicAccessors := by rw [X.admits.platform]
  obtain ⟨k3, k4, h3, h4, hfit⟩ := Cond.castable_spec hcast
  cases Option.some.inj (h3.symm.trans hcl)
  obtain ⟨k5, h5, hk⟩ := Cond.classLink_spec hown hlink e.platform hpl
  cases Option.some.inj (h4.symm.trans h5)
  obtain ⟨X', st⟩ := pk_caught X htab (g := F0 m pc ls rest) rfl hx h0 hk (by rw [hT]; exact hcell) hv hfit
  obtain ⟨t, a1, b1⟩ := kk (T.setVm (pk_vm T m x k4)) hT X'
  exact ⟨t, st t a1, b1⟩
end ZROWS
