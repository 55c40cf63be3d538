/-- .. of a class of the JDK's that the machine has entries for, but none for this method -/
theorem pr_ofWF {l : Launch} {dC : Nat → ClassId} {dI : Nat → Nat → Nat} {cl : Nat → ClassId} {y : MethodName} {ws ws' : List Cond} {rm : Room} {av : List Value} {w : va_W} {sz mc ms : Nat} {Qc : (Nat → Prop) → Array Value → State → Outcome → State → Prop} {cb : ByteArray} {maxL : Nat} {ret : Option FieldType}
    (hy : plainFor y = true) (hw : ws = Cond.code y cb maxL ret :: ws') (hlen : (lg_sl av).length ≤ maxL)
    (body : ∀ (p : Program) (e : Env) (s : State) (m : MethodId) (below : List Frame) (meth : Method) (c : Code) (A : Nat → Prop) (ls : Array Slot), p.tables.exec = Jvm.exec → c.code = cb → c.maxLocals = maxL → meth.sig.returnType = ret → meth.locks = false → (∀ x ∈ ws, x.before av.toArray s = true) → s.vm.findClass y.cls = some m.cls →
      pz_K dC dI cl s → va_P (dC, dI) vwCl w s.heap → va_D A w → va_S A s.heap s.heap [] → (∀ q, s.heap.size ≤ q → A q) → lv_has ls maxL (lv_args 0 av) →
      W p l e rm s m av.toArray below meth c s.heap [] 0 0 (MQ below (Qc A) av.toArray s mc ms A) (F0 m 0 ls [])) :
    Met l y ws rm (va_Pc av (pz_Pre dC dI cl w sz)) (Qc (va_A w sz)) mc ms (va_A w sz) := by
  refine va_MetF (cc := cb) (maxL := maxL) (ret := ret) hy hw ?_
  intro p e s m args below meth c s₁ B hml hv
  obtain ⟨rfl, hsz, hP, hK, hD0⟩ := hv
  subst hsz
  have hl := lv_entry av (n := maxL) hlen
  rw [lg_entry_eq]
  exact body p e s m below meth c (va_A w s.heap.size) _ B.exec B.bytes hml B.returns B.notSynchronized (atoms_spec (ws := ws) B.pre) (findClass_of_methodNamed B.named) hK hP (hD0.self (sz := s.heap.size)) va_S.rf (fun q h => Or.inr h) hl
theorem pz_W0 {g : pz_M} {ph : Nat → Option Nat} {n : Nat} (hw : ∃ d : Nat, d ≤ 6 ∧ d < n ∧ g 2 3 = nI d ∧ ∀ i, i < d → ∃ k, k < 8 ∧ ph i = some k) (hc : ¬ g 2 3 ≤ 0) : vp_in (g 2 3 - 1) 6 ∧ ph (g 2 3 - 1).toNatClampNeg = some (pz_h ph (g 2 3 - 1).toNatClampNeg) ∧ pz_h ph (g 2 3 - 1).toNatClampNeg < 8 := by
  obtain ⟨d, h6, -, hd, hs⟩ := hw
  refine pz_W1 ⟨d, h6, hd, hs⟩ (fun q => hc ?_)
  rw [hd] at q ⊢
  have : d < 1 := (nI_ltI (by omega) (by decide)).mp (q : nI d < nI 1)
  have : d = 0 := by omega
  subst this
  exact (nI_leI (by decide) (by decide)).mpr (Nat.le_refl 0)
theorem pz_Wd {g g2 : pz_M} {ph : Nat → Option Nat} {n : Nat} (hw : ∃ d : Nat, d ≤ 6 ∧ d < n + 1 ∧ g 2 3 = nI d ∧ ∀ i, i < d → ∃ k, k < 8 ∧ ph i = some k) (hc : ¬ g 2 3 ≤ 0) (h2 : g2 2 3 = g 2 3 - 1) : ∃ d : Nat, d ≤ 6 ∧ d < n ∧ g2 2 3 = nI d ∧ ∀ i, i < d → ∃ k, k < 8 ∧ ph i = some k := by
  obtain ⟨d, h6, hn, hd, hs⟩ := hw
  have h1 : 1 ≤ d := by
    rcases Nat.lt_or_ge d 1 with q | q
    · have : d = 0 := by omega
      subst this
      exact absurd (by rw [hd]; exact (nI_leI (by decide) (by decide)).mpr (Nat.le_refl 0)) hc
    · exact q
  exact ⟨d - 1, by omega, by omega, by rw [h2, hd]; exact pk_sub (a := d) (b := 1) h1, fun i hi => hs i (by omega)⟩
theorem pz_Wv {g : pz_M} {ph : Nat → Option Nat} (hw : pz_W g ph) : ∃ d : Nat, d ≤ 6 ∧ d < 7 ∧ g 2 3 = nI d ∧ ∀ i, i < d → ∃ k, k < 8 ∧ ph i = some k := by
  obtain ⟨d, h6, hd, hs⟩ := hw
  exact ⟨d, h6, by omega, hd, hs⟩
theorem pz_j1 {i : Int32} {j : Nat} (hj : j ≤ 8) (h : i + 1 = nI j) (hc : ¬ i < 0) : 1 ≤ j ∧ i = nI (j - 1) ∧ i.toNatClampNeg = j - 1 := by
  have e0 : i = nI j - 1 := by rw [← h]; simp
  have h1 : 1 ≤ j := by
    rcases Nat.lt_or_ge j 1 with q | q
    · have : j = 0 := by omega
      subst this
      exact absurd (by rw [e0]; decide +kernel) hc
    · exact q
  have e1 : i = nI (j - 1) := by rw [e0]; exact pk_sub (a := j) (b := 1) h1
  exact ⟨h1, e1, by rw [e1]; exact nI_clamp (by omega)⟩
theorem pz_j2 {i : Int32} {j : Nat} (hj : j ≤ 8) (h : i + 1 = nI j) (hc : ¬ i < 0) : (i + (-1)) + 1 = nI (j - 1) := by
  obtain ⟨h1, e1, -⟩ := pz_j1 hj h hc
  rw [e1, Int32.add_assoc, show ((-1 : Int32) + 1) = 0 by decide, Int32.add_zero]
