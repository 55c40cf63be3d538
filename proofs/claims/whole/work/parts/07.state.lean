/-! THE STATE: one memory for the class (regions 0 .. 17), one for the reference (regions 18 .. 31); a region is the cell of the same number. ph: what the path's row of houses holds (numbers of houses); o: the law's long row. -/
abbrev pz_M : Type := Nat → Nat → Int32
def pz_st (g : pz_M) (r j : Nat) (v : Int32) : pz_M := fun a => if a = r then upd (g r) j v else g a
theorem pz_st_s (g : pz_M) (r j : Nat) (v : Int32) : pz_st g r j v r = upd (g r) j v := if_pos rfl
theorem pz_st_n {g : pz_M} {r a : Nat} {j : Nat} {v : Int32} (h : a ≠ r) : pz_st g r j v a = g a := if_neg h
def pz_fH (m : Nat → Int32) : List Value := [.int (m 0), .int (m 1), .int (m 2), .int (m 3), .int (m 4), .int (m 5), .int (m 6), .int (m 7)]
def pz_fP (ad : Nat → Nat) (m : Nat → Int32) : List Value := [.ref (ad 7), .ref (ad 8), .ref (ad 9), .int (m 3)]
def pz_fM (ad : Nat → Nat) (m : Nat → Int32) : List Value := [.ref (ad 1), .ref (ad 2), .ref (ad 3), .ref (ad 4), .ref (ad 5), .int (m 5), .int (m 6), .int (m 7), .int (m 8), .ref (ad 6), .int (m 10), .int (m 11), .int (m 12), .int (m 13)]
def pz_fR (ad : Nat → Nat) (m : Nat → Int32) : List Value := [.int (m 0), .ref (ad 19), .ref (ad 20), .ref (ad 21), .ref (ad 22), .ref (ad 23), .ref (ad 24), .ref (ad 25), .int (m 8), .ref (ad 26), .ref (ad 27), .int (m 11), .ref (ad 28), .ref (ad 29), .ref (ad 30), .int (m 15), .int (m 16), .int (m 17), .int (m 18), .ref (ad 31)]
def pz_rP (ad : Nat → Nat) : Nat → Option Nat := fun j => some (ad (10 + j))
def pz_rQ (ad : Nat → Nat) (ph : Nat → Option Nat) : Nat → Option Nat := fun j => (ph j).map (fun k => ad (10 + k))
def pz_ce (ad : Nat → Nat) (cc : Nat → ClassId) (ph : Nat → Option Nat) (o : Nat → Int64) (i : Nat) (m : Nat → Int32) : va_E := match i with
  | 0 => .inr (4, pz_fM ad m)
  | 1 => .inl (cc 2, 8, .inr (.inr (.inr (.inr (pz_rP ad)))))
  | 2 => .inr (3, pz_fP ad m)
  | 3 => .inl (cc 0, 8, .inl m)
  | 4 => .inl (cc 0, 30, .inl m)
  | 5 => .inl (cc 0, 30, .inl m)
  | 6 => .inl (cc 0, 7, .inl m)
  | 7 => .inl (cc 2, 6, .inr (.inr (.inr (.inr (pz_rQ ad ph)))))
  | 8 => .inl (cc 0, 6, .inl m)
  | 9 => .inl (cc 0, 6, .inl m)
  | 18 => .inr (5, pz_fR ad m)
  | 19 => .inl (cc 0, 8, .inl m)
  | 20 => .inl (cc 0, 8, .inl m)
  | 21 => .inl (cc 1, 8, .inl m)
  | 22 => .inl (cc 0, 8, .inl m)
  | 23 => .inl (cc 0, 8, .inl m)
  | 24 => .inl (cc 0, 8, .inl m)
  | 25 => .inl (cc 0, 8, .inl m)
  | 26 => .inl (cc 0, 30, .inl m)
  | 27 => .inl (cc 0, 30, .inl m)
  | 28 => .inl (cc 0, 6, .inl m)
  | 29 => .inl (cc 0, 6, .inl m)
  | 30 => .inl (cc 0, 6, .inl m)
  | 31 => .inl (cc 0, 17, .inl m)
  | 32 => .inl (cc 3, 1, .inr (.inl o))
  | _ => .inr (2, pz_fH m)
def pz_wd (ad : Nat → Nat) (cc : Nat → ClassId) (ph : Nat → Option Nat) (o : Nat → Int64) (g h : pz_M) : va_W := (List.range 33).map (fun i => (ad i, pz_ce ad cc ph o i (if i < 18 then g i else h i)))
def pz_ty (cc : Nat → ClassId) : List (ClassId × FieldType) := [(cc 0, .int), (cc 1, .boolean), (cc 2, .object "PowderMill$House"), (cc 3, .long)]
section PZ
variable {ad : Nat → Nat} {cc : Nat → ClassId} {ph : Nat → Option Nat} {o : Nat → Int64} {g h : pz_M}
theorem pz_at {i : Nat} (hi : i < 33) : (pz_wd ad cc ph o g h)[i]? = some (ad i, pz_ce ad cc ph o i (if i < 18 then g i else h i)) := by
  simp [pz_wd, hi]
theorem pz_no {i : Nat} (hi : ¬ i < 33) : (pz_wd ad cc ph o g h)[i]? = none := by
  simp [pz_wd]; omega
theorem pz_atC {i : Nat} (hi : i < 18) : (pz_wd ad cc ph o g h)[i]? = some (ad i, pz_ce ad cc ph o i (g i)) := by
  rw [pz_at (by omega), if_pos hi]
theorem pz_atR {i : Nat} (h1 : ¬ i < 18) (h2 : i < 33) : (pz_wd ad cc ph o g h)[i]? = some (ad i, pz_ce ad cc ph o i (h i)) := by
  rw [pz_at h2, if_neg h1]
theorem pz_len : (pz_wd ad cc ph o g h).length = 33 := by simp [pz_wd]
theorem pz_k8 {P : Nat → Prop} (h0 : P 0) (h1 : P 1) (h2 : P 2) (h3 : P 3) (h4 : P 4) (h5 : P 5) (h6 : P 6) (h7 : P 7) {k : Nat} (hk : k < 8) : P k := by
  rcases (show k = 0 ∨ k = 1 ∨ k = 2 ∨ k = 3 ∨ k = 4 ∨ k = 5 ∨ k = 6 ∨ k = 7 by omega) with rfl | rfl | rfl | rfl | rfl | rfl | rfl | rfl <;> assumption
theorem pz_ceH {k : Nat} {m : Nat → Int32} (hk : k < 8) : pz_ce ad cc ph o (10 + k) m = .inr (2, pz_fH m) :=
  pz_k8 (P := fun k => pz_ce ad cc ph o (10 + k) m = .inr (2, pz_fH m)) rfl rfl rfl rfl rfl rfl rfl rfl hk
theorem pz_fH_set {j : Nat} {m : Nat → Int32} {v : Int32} (hj : j < 8) : pz_fH (upd m j v) = (pz_fH m).set j (.int v) :=
  pz_k8 (P := fun j => pz_fH (upd m j v) = (pz_fH m).set j (.int v)) rfl rfl rfl rfl rfl rfl rfl rfl hj
/-- the class's cell i gets the value v at j -/
theorem pz_setC {i j : Nat} {v : Int32} {e : va_E} (hi : i < 18) (he : pz_ce ad cc ph o i (upd (g i) j v) = e) : (pz_wd ad cc ph o g h).set i (ad i, e) = pz_wd ad cc ph o (pz_st g i j v) h := by
  subst he
  apply List.ext_getElem?
  intro n
  by_cases hn : n < 33
  · by_cases e1 : i = n
    · subst e1
      rw [List.getElem?_set_self (by rw [pz_len]; exact hn), pz_atC hi, pz_st_s]
    · rw [List.getElem?_set_ne e1, pz_at hn, pz_at hn, pz_st_n (Ne.symm e1)]
  · rw [pz_no hn, List.getElem?_eq_none (by rw [List.length_set, pz_len]; omega)]
/-- the reference's cell i gets the value v at j -/
theorem pz_setR {i j : Nat} {v : Int32} {e : va_E} (h1 : ¬ i < 18) (h2 : i < 33) (he : pz_ce ad cc ph o i (upd (h i) j v) = e) : (pz_wd ad cc ph o g h).set i (ad i, e) = pz_wd ad cc ph o g (pz_st h i j v) := by
  subst he
  apply List.ext_getElem?
  intro n
  by_cases hn : n < 33
  · by_cases e1 : i = n
    · subst e1
      rw [List.getElem?_set_self (by rw [pz_len]; exact hn), pz_atR h1 h2, pz_st_s]
    · rw [List.getElem?_set_ne e1, pz_at hn, pz_at hn, pz_st_n (Ne.symm e1)]
  · rw [pz_no hn, List.getElem?_eq_none (by rw [List.length_set, pz_len]; omega)]
/-- the path's row of houses -/
theorem pz_setP {ph' : Nat → Option Nat} {e : va_E} (he : pz_ce ad cc ph' o 7 (g 7) = e) : (pz_wd ad cc ph o g h).set 7 (ad 7, e) = pz_wd ad cc ph' o g h := by
  subst he
  apply List.ext_getElem?
  intro n
  by_cases hn : n < 33
  · by_cases e1 : 7 = n
    · subst e1
      rw [List.getElem?_set_self (by rw [pz_len]; exact hn), pz_atC (by omega)]
    · rw [List.getElem?_set_ne e1, pz_at hn, pz_at hn]
      have key : ∀ m, pz_ce ad cc ph o n m = pz_ce ad cc ph' o n m := by
        intro m
        unfold pz_ce
        split <;> first | rfl | (exfalso; exact e1 rfl)
      rw [key]
  · rw [pz_no hn, List.getElem?_eq_none (by rw [List.length_set, pz_len]; omega)]
/-- the law's row -/
theorem pz_setO {o' : Nat → Int64} {e : va_E} (he : pz_ce ad cc ph o' 32 (h 32) = e) : (pz_wd ad cc ph o g h).set 32 (ad 32, e) = pz_wd ad cc ph o' g h := by
  subst he
  apply List.ext_getElem?
  intro n
  by_cases hn : n < 33
  · by_cases e1 : 32 = n
    · subst e1
      rw [List.getElem?_set_self (by rw [pz_len]; exact hn), pz_atR (by omega) (by omega)]
    · rw [List.getElem?_set_ne e1, pz_at hn, pz_at hn]
      have key : ∀ m, pz_ce ad cc ph o n m = pz_ce ad cc ph o' n m := by
        intro m
        unfold pz_ce
        split <;> first | rfl | (exfalso; exact e1 rfl)
      rw [key]
  · rw [pz_no hn, List.getElem?_eq_none (by rw [List.length_set, pz_len]; omega)]
/-- where the cells are, whatever they hold -/
theorem pz_same {g' h' : pz_M} {ph' : Nat → Option Nat} {o' : Nat → Int64} {i q : Nat} {e : va_E} (hq : (pz_wd ad cc ph o g h)[i]? = some (q, e)) : ∃ e', (pz_wd ad cc ph' o' g' h')[i]? = some (q, e') := by
  by_cases hi : i < 33
  · rw [pz_at hi] at hq
    obtain ⟨rfl, -⟩ := Prod.mk.inj (Option.some.inj hq)
    exact ⟨_, pz_at hi⟩
  · rw [pz_no hi] at hq; cases hq
theorem pz_A {g' h' : pz_M} {ph' : Nat → Option Nat} {o' : Nat → Int64} {sz q : Nat} (hq : va_A (pz_wd ad cc ph o g h) sz q) : va_A (pz_wd ad cc ph' o' g' h') sz q := by
  rcases hq with ⟨k, e, hq⟩ | hq
  · obtain ⟨e', h'⟩ := pz_same (ph' := ph') (o' := o') (g' := g') (h' := h') hq
    exact Or.inl ⟨k, e', h'⟩
  · exact Or.inr hq
theorem pz_D {g' h' : pz_M} {ph' : Nat → Option Nat} {o' : Nat → Int64} {A : Nat → Prop} (hD : va_D A (pz_wd ad cc ph o g h)) : va_D A (pz_wd ad cc ph' o' g' h') := by
  refine ⟨fun i j p q hi hj hpq => ?_, fun k q hk => ?_⟩
  · obtain ⟨e1, h1⟩ := pz_same (ph' := ph) (o' := o) (g' := g) (h' := h) (show _ = some (p.1, p.2) from hi)
    obtain ⟨e2, h2⟩ := pz_same (ph' := ph) (o' := o) (g' := g) (h' := h) (show _ = some (q.1, q.2) from hj)
    exact hD.1 i j _ _ h1 h2 hpq
  · obtain ⟨e1, h1⟩ := pz_same (ph' := ph) (o' := o) (g' := g) (h' := h) (show _ = some (q.1, q.2) from hk)
    exact hD.2 k (q.1, e1) h1
-- the cells one by one
theorem pz_a0 : (pz_wd ad cc ph o g h)[0]? = some (ad 0, .inr (4, pz_fM ad (g 0))) := pz_atC (by omega)
theorem pz_a1 : (pz_wd ad cc ph o g h)[1]? = some (ad 1, .inl (cc 2, 8, .inr (.inr (.inr (.inr (pz_rP ad)))))) := pz_atC (by omega)
theorem pz_a2 : (pz_wd ad cc ph o g h)[2]? = some (ad 2, .inr (3, pz_fP ad (g 2))) := pz_atC (by omega)
theorem pz_a3 : (pz_wd ad cc ph o g h)[3]? = some (ad 3, .inl (cc 0, 8, .inl (g 3))) := pz_atC (by omega)
theorem pz_a4 : (pz_wd ad cc ph o g h)[4]? = some (ad 4, .inl (cc 0, 30, .inl (g 4))) := pz_atC (by omega)
theorem pz_a5 : (pz_wd ad cc ph o g h)[5]? = some (ad 5, .inl (cc 0, 30, .inl (g 5))) := pz_atC (by omega)
theorem pz_a6 : (pz_wd ad cc ph o g h)[6]? = some (ad 6, .inl (cc 0, 7, .inl (g 6))) := pz_atC (by omega)
theorem pz_a7 : (pz_wd ad cc ph o g h)[7]? = some (ad 7, .inl (cc 2, 6, .inr (.inr (.inr (.inr (pz_rQ ad ph)))))) := pz_atC (by omega)
theorem pz_a8 : (pz_wd ad cc ph o g h)[8]? = some (ad 8, .inl (cc 0, 6, .inl (g 8))) := pz_atC (by omega)
theorem pz_a9 : (pz_wd ad cc ph o g h)[9]? = some (ad 9, .inl (cc 0, 6, .inl (g 9))) := pz_atC (by omega)
theorem pz_aH {k : Nat} (hk : k < 8) : (pz_wd ad cc ph o g h)[10 + k]? = some (ad (10 + k), .inr (2, pz_fH (g (10 + k)))) := by
  rw [pz_atC (by omega), pz_ceH hk]
theorem pz_a18 : (pz_wd ad cc ph o g h)[18]? = some (ad 18, .inr (5, pz_fR ad (h 18))) := pz_atR (by omega) (by omega)
theorem pz_a19 : (pz_wd ad cc ph o g h)[19]? = some (ad 19, .inl (cc 0, 8, .inl (h 19))) := pz_atR (by omega) (by omega)
theorem pz_a20 : (pz_wd ad cc ph o g h)[20]? = some (ad 20, .inl (cc 0, 8, .inl (h 20))) := pz_atR (by omega) (by omega)
theorem pz_a21 : (pz_wd ad cc ph o g h)[21]? = some (ad 21, .inl (cc 1, 8, .inl (h 21))) := pz_atR (by omega) (by omega)
theorem pz_a22 : (pz_wd ad cc ph o g h)[22]? = some (ad 22, .inl (cc 0, 8, .inl (h 22))) := pz_atR (by omega) (by omega)
theorem pz_a23 : (pz_wd ad cc ph o g h)[23]? = some (ad 23, .inl (cc 0, 8, .inl (h 23))) := pz_atR (by omega) (by omega)
theorem pz_a24 : (pz_wd ad cc ph o g h)[24]? = some (ad 24, .inl (cc 0, 8, .inl (h 24))) := pz_atR (by omega) (by omega)
theorem pz_a25 : (pz_wd ad cc ph o g h)[25]? = some (ad 25, .inl (cc 0, 8, .inl (h 25))) := pz_atR (by omega) (by omega)
theorem pz_a26 : (pz_wd ad cc ph o g h)[26]? = some (ad 26, .inl (cc 0, 30, .inl (h 26))) := pz_atR (by omega) (by omega)
theorem pz_a27 : (pz_wd ad cc ph o g h)[27]? = some (ad 27, .inl (cc 0, 30, .inl (h 27))) := pz_atR (by omega) (by omega)
theorem pz_a28 : (pz_wd ad cc ph o g h)[28]? = some (ad 28, .inl (cc 0, 6, .inl (h 28))) := pz_atR (by omega) (by omega)
theorem pz_a29 : (pz_wd ad cc ph o g h)[29]? = some (ad 29, .inl (cc 0, 6, .inl (h 29))) := pz_atR (by omega) (by omega)
theorem pz_a30 : (pz_wd ad cc ph o g h)[30]? = some (ad 30, .inl (cc 0, 6, .inl (h 30))) := pz_atR (by omega) (by omega)
theorem pz_a31 : (pz_wd ad cc ph o g h)[31]? = some (ad 31, .inl (cc 0, 17, .inl (h 31))) := pz_atR (by omega) (by omega)
theorem pz_a32 : (pz_wd ad cc ph o g h)[32]? = some (ad 32, .inl (cc 3, 1, .inr (.inl o))) := pz_atR (by omega) (by omega)
theorem pz_sH {k j : Nat} {v : Int32} (hk : k < 8) (hj : j < 8) : (pz_wd ad cc ph o g h).set (10 + k) (ad (10 + k), .inr (2, (pz_fH (g (10 + k))).set j (.int v))) = pz_wd ad cc ph o (pz_st g (10 + k) j v) h :=
  pz_setC (by omega) (by rw [pz_ceH hk, pz_fH_set hj])
end PZ
