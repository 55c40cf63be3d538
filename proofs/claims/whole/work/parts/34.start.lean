/-! the law: its start -/
theorem gT_X2_init : GoodIn lw_tbl wsX2_init := fun w h => ⟨wsL_law_in w (gL_law_X2_init w h).1, (gL_law_X2_init w h).2⟩
theorem gT_X3_init : GoodIn lw_tbl wsX3_init := fun w h => ⟨wsL_law_in w (gL_law_X3_init w h).1, (gL_law_X3_init w h).2⟩
theorem pw_row {D : va_G} {cl : List vw_C} {a n : Nat} {cA : ClassId} {f f' : Nat → Option Nat} {H : Heap} (h : va_at D cl (a, .inl (cA, n, .inr (.inr (.inr (.inr f))))) H) (hf : ∀ j, j < n → f j = f' j) : va_at D cl (a, .inl (cA, n, .inr (.inr (.inr (.inr f'))))) H := by
  have e : arrV cA n (fun j => va_rf (f j)) = arrV cA n (fun j => va_rf (f' j)) := by
    unfold arrV
    congr 1
    congr 1
    funext j
    show va_rf (f j.1) = va_rf (f' j.1)
    rw [hf j.1 j.2]
  have h' : H[a]? = some (arrV cA n (fun j => va_rf (f j))) := h
  rw [e] at h'
  exact h'
theorem pw_D {A : Nat → Prop} {w w' : va_W} (h : va_D A w) (e : w.map (fun q => q.1) = w'.map (fun q => q.1)) : va_D A w' := by
  have key : ∀ (i : Nat) (p : Nat × va_E), w'[i]? = some p → ∃ p' : Nat × va_E, w[i]? = some p' ∧ p'.1 = p.1 := by
    intro i p hp
    have e1 : (w.map (fun q => q.1))[i]? = some p.1 := by rw [e, List.getElem?_map, hp]; rfl
    rw [List.getElem?_map] at e1
    cases hw : w[i]? with
    | none => rw [hw] at e1; cases e1
    | some p' => rw [hw] at e1; exact ⟨p', rfl, Option.some.inj e1⟩
  refine ⟨fun i j p q hi hj hpq => ?_, fun k q hk => ?_⟩
  · obtain ⟨p', a1, a2⟩ := key i p hi
    obtain ⟨q', b1, b2⟩ := key j q hj
    exact h.1 i j p' q' a1 b1 (by rw [a2, b2, hpq])
  · obtain ⟨q', b1, b2⟩ := key k q hk
    rw [← b2]
    exact h.2 k q' b1
theorem pw_B0 : pz_B (pz_st (fun _ _ => 0) 0 8 (-1)) (fun _ => none) (pz_st (fun _ _ => 0) 18 18 (-1)) := by
  refine ⟨⟨⟨0, by omega, nI_0.symm, nI_0.symm, fun j hj => absurd hj (by omega)⟩, fun j _ => rfl, fun j _ => rfl, fun j _ => rfl, fun j _ _ => rfl, rfl, rfl, rfl, rfl, rfl, rfl⟩, fun k _ => Or.inr ⟨?_, rfl⟩, by omega, nI_0.symm, fun i hi => absurd hi (by omega), fun k _ => ?_⟩
  · rw [pz_st_n (by omega)]
  · rw [pz_st_n (by omega)]
    exact nI_0.symm
theorem pw_pl (ad : Nat → Nat) {j : Nat} (hj : j < 8) : (va_up (va_up (va_up (va_up (va_up (va_up (va_up (va_up (fun _ => none) (0 : Int32).toNatClampNeg (some (ad 10))) (1 : Int32).toNatClampNeg (some (ad 11))) (2 : Int32).toNatClampNeg (some (ad 12))) (3 : Int32).toNatClampNeg (some (ad 13))) (4 : Int32).toNatClampNeg (some (ad 14))) (5 : Int32).toNatClampNeg (some (ad 15))) (6 : Int32).toNatClampNeg (some (ad 16))) (7 : Int32).toNatClampNeg (some (ad 17))) j = pz_rP ad j :=
  pz_k8 (P := fun j => (va_up (va_up (va_up (va_up (va_up (va_up (va_up (va_up (fun _ => none) (0 : Int32).toNatClampNeg (some (ad 10))) (1 : Int32).toNatClampNeg (some (ad 11))) (2 : Int32).toNatClampNeg (some (ad 12))) (3 : Int32).toNatClampNeg (some (ad 13))) (4 : Int32).toNatClampNeg (some (ad 14))) (5 : Int32).toNatClampNeg (some (ad 15))) (6 : Int32).toNatClampNeg (some (ad 16))) (7 : Int32).toNatClampNeg (some (ad 17))) j = pz_rP ad j) rfl rfl rfl rfl rfl rfl rfl rfl hj
set_option maxHeartbeats 8000000 in
set_option maxRecDepth 100000 in
theorem whole_start {p : Program} {e : Env} {s : State} {m : MethodId} {below : List Frame} {meth : Method} {c : Code} (l : Launch) (hst : l.stackTraces = false) {b L : Nat} {xs : Nat → Int32} (hL : L ≤ 2048) (C0 : lw_At p s m meth c b L xs) : W p l e room_1 s m #[Value.ref b] below meth c s.heap [] 0 0 (lw_Z below #[Value.ref b] s) (entryFrame m ([Value.ref b] : List Value).toArray 7) := by
  obtain ⟨hx, hb, hr, hml, hown, hts, hX, hbl, hlocks, hgv⟩ := id C0
  have hb : c.code = cL_law := hb
  have hown : s.vm.findClass RL = some m.cls := hown
  have hflat := flat_of_before _ hgv
  have hA0 : ∀ a : Nat, a < s.heap.size → ¬ (fun q : Nat => s.heap.size ≤ q) a := fun a h => Nat.not_le.mpr h
  have hU : vx_Zq Bundle.tN "UNASSIGNED_STACK" Bundle.steD (fun q : Nat => s.heap.size ≤ q) s s.heap := vx_Zqof (args := #[Value.ref b]) (hts _ (by decide +kernel)) (hts _ (by decide +kernel)) (hflat _ (by decide +kernel)) hA0
  have hN : vx_Zq Bundle.tN "SUPPRESSED_SENTINEL" Bundle.listD (fun q : Nat => s.heap.size ≤ q) s s.heap := vx_Zqof (args := #[Value.ref b]) (hts _ (by decide +kernel)) (hts _ (by decide +kernel)) (hflat _ (by decide +kernel)) hA0
  have h5 : pz_N5 s := pz_N5.of (args := #[Value.ref b]) (fun w h => hts w (pz_Bd_tbl w h))
  obtain ⟨sa, -, -, -, hse, -⟩ := Cond.exactly_spec (hflat (.exactly (.string "PowderMill" 93) "java/lang/String") (by decide +kernel))
  have hstr : vk_R RX2 93 pz_tx sa s := vk_R.of (hts (.stringRef RX2 93 pz_tx) (by decide +kernel)) hse
  have hAO : va_AO RX0 s := va_AO.of (hts (.arrayOver (.object RX0)) (by decide +kernel))
  have hN17 : va_Nw (.methodLinkNest RX2 17 yX1_init "PowderMill") s := va_Nw.of rfl (hts _ (by decide +kernel))
  have hN60 : va_Nw (.methodLinkNest RX2 60 yX0_init "PowderMill") s := va_Nw.of rfl (hts _ (by decide +kernel))
  have hA : ∀ q : Nat, s.heap.size ≤ q → (fun q : Nat => s.heap.size ≤ q) q := fun _ h => h
  obtain ⟨c0, iS0, hKn0⟩ := u_known (C := RJ0) (T := TJ0) (N := 2) (n := 4) hts inJ0 (hts (.instantiable RJ0 4) (by decide +kernel))
  obtain ⟨c1, iS1, hKn1⟩ := u_known (C := RJx00060) (T := TJx00060) (N := 6) (n := 6) hts inJx00060 (hts (.instantiable RJx00060 6) (by decide +kernel))
  obtain ⟨c2, iS2, hKn2⟩ := u_known (C := RX0) (T := TX0) (N := 8) (n := 8) hts inX0 (hts (.instantiable RX0 8) (by decide +kernel))
  obtain ⟨c3, iS3, hKn3⟩ := u_known (C := RX1) (T := TX1) (N := 4) (n := 4) hts inX1 (hts (.instantiable RX1 4) (by decide +kernel))
  obtain ⟨c4, iS4, hKn4⟩ := u_known (C := RX2) (T := TX2) (N := 14) (n := 14) hts inX2 (hts (.instantiable RX2 14) (by decide +kernel))
  obtain ⟨c5, iS5, hKn5⟩ := u_known (C := RX3) (T := TX3) (N := 20) (n := 20) hts inX3 (hts (.instantiable RX3 20) (by decide +kernel))
  obtain ⟨dC, dI, hKc⟩ : ∃ (dC : Nat → ClassId) (dI : Nat → Nat → Nat), ∀ (k : Nat) (q : vw_C), vwCl[k]? = some q → u_Kn s q.1 q.2.1 q.2.2 (dC k) (dI k) := by
    refine ⟨fun k => match k with | 0 => c0 | 1 => c1 | 2 => c2 | 3 => c3 | 4 => c4 | _ => c5, fun k => match k with | 0 => iS0 | 1 => iS1 | 2 => iS2 | 3 => iS3 | 4 => iS4 | _ => iS5, ?_⟩
    intro k q hq
    match k, hq with
    | 0, hq => cases hq; exact hKn0
    | 1, hq => cases hq; exact hKn1
    | 2, hq => cases hq; exact hKn2
    | 3, hq => cases hq; exact hKn3
    | 4, hq => cases hq; exact hKn4
    | 5, hq => cases hq; exact hKn5
    | k + 6, hq => simp [vwCl] at hq
  have hS : va_S (fun q : Nat => s.heap.size ≤ q) s.heap s.heap [] := va_S.rf
  have hK : va_K (dC, dI) vwCl [] s := ⟨hKc, fun k q h => by simp at h⟩
  have hP : va_P (dC, dI) vwCl [] s.heap := fun k q h => by simp at h
  have hD : va_D (fun q : Nat => s.heap.size ≤ q) [] := ⟨fun i j p q h => by simp at h, fun k q h => by simp at h⟩
  have hl := lv_entry ([.ref b]) (n := 7) (Nat.le_of_ble_eq_true rfl)
  rw [lg_entry_eq]
  generalize (lg_sl ([.ref b]) ++ List.replicate (7 - (lg_sl ([.ref b])).length) Slot.unset).toArray = ls at hl ⊢
  have hl : lv_has ls 7 [(0, .ref b)] := hl
  refine va_new (ci := 4) (fs := [.null, .null, .null, .null, .null, .int 0, .int 0, .int 0, .int 0, .null, .int 0, .int 0, .int 0, .int 0]) (C := RX2) (T := TX2) (N := 14) hx hb hts inX2 tyX2 tyX2_ok hown (hts (.classLink RL 8 RX2) (by decide +kernel)) (hts (.instantiable RX2 14) (by decide +kernel)) (hts (.initialized RX2) (by decide +kernel)) hK hP hD hS hA rfl (fun j hj => by rcases (show j = 0 ∨ j = 1 ∨ j = 2 ∨ j = 3 ∨ j = 4 ∨ j = 5 ∨ j = 6 ∨ j = 7 ∨ j = 8 ∨ j = 9 ∨ j = 10 ∨ j = 11 ∨ j = 12 ∨ j = 13 by omega) with rfl | rfl | rfl | rfl | rfl | rfl | rfl | rfl | rfl | rfl | rfl | rfl | rfl | rfl <;> rfl) (Nat.le_of_ble_eq_true rfl) (Nat.le_of_ble_eq_true rfl) dL_law_0 (fun q0 H hP hD hS => ?_)
  have hP : va_P (dC, dI) vwCl [(q0, .inr (4, [.null, .null, .null, .null, .null, .int 0, .int 0, .int 0, .int 0, .null, .int 0, .int 0, .int 0, .int 0]))] H := hP
  have hD : va_D (fun q : Nat => s.heap.size ≤ q) [(q0, .inr (4, [.null, .null, .null, .null, .null, .int 0, .int 0, .int 0, .int 0, .null, .int 0, .int 0, .int 0, .int 0]))] := hD
  refine W.widen (k := 1) (n := 14) (by decide) (by decide) ?_
  refine lv_dup hx hb dL_law_3 rfl ?_
  have hPc := hP.sub (ws' := [(q0, .inr (4, [.null, .null, .null, .null, .null, .int 0, .int 0, .int 0, .int 0, .null, .int 0, .int 0, .int 0, .int 0]))]) [0] rfl
  have hDc := hD.sub (ws' := [(q0, .inr (4, [.null, .null, .null, .null, .null, .int 0, .int 0, .int 0, .int 0, .null, .int 0, .int 0, .int 0, .int 0]))]) [0] (by decide) rfl
  have hKc := hK.sub (tys' := []) [] rfl
  have hFc := va_free (wc := [(q0, .inr (4, [.null, .null, .null, .null, .null, .int 0, .int 0, .int 0, .int 0, .null, .int 0, .int 0, .int 0, .int 0]))]) hD hS hA [0] rfl
  refine va_callv (va_runI (As := []) (rest := [.ref q0]) ⟨hx, hb, hml, hown, hts⟩ (k_X2_init q0 H.size) (cwI 0 hts gT_X2_init rfl rfl rfl (hts (.initialized RX2) (by decide +kernel)) (hts (.methodLink RL 15 yX2_init) (by decide +kernel)) (hts (.instanceMethod yX2_init) (by decide +kernel)) rfl (by decide +kernel) ⟨Nat.le_of_ble_eq_true rfl, Nat.le_of_ble_eq_true rfl⟩) ⟨fun a U g mk q => by obtain ⟨q0, q1, qP, qK, qD, qA, qB, qC⟩ := q; exact ⟨q0, q1, qP, va_K.moved (u := U) (U := U.calling g mk a) (Vm.Alike.refl U.vm) qK, qD, va_AO.moved (u := U) (U := U.calling g mk a) (Vm.Alike.refl U.vm) qA, va_Nw.same (u := U) (U := U.calling g mk a) rfl rfl qB, va_Nw.same (u := U) (U := U.calling g mk a) rfl rfl qC⟩, fun U hU hW => ⟨rfl, by rw [hU], by rw [hU]; exact hPc, va_K.moved hW.alike hKc, hDc.weaken (fun _ _ _ _ => trivial), va_AO.moved hW.alike hAO, va_Nw.warmM hW hN17, va_Nw.warmM hW hN60⟩⟩ rfl rfl hl.1 rfl (lv_room (Nat.le_of_ble_eq_true rfl)) dL_law_4 ⟨Nat.le_of_ble_eq_true rfl, Nat.le_of_ble_eq_true rfl⟩) hS (fun q _ h => hFc q h) hFc (fun u t H1 locs ht hvm hw hB hz1 hk1 hS => ?_)
  obtain ⟨hP1, hK1, hD1⟩ := hB
  obtain ⟨x0, e_x0⟩ : ∃ z, z = u.1 0 := ⟨_, rfl⟩
  obtain ⟨x1, e_x1⟩ : ∃ z, z = u.1 1 := ⟨_, rfl⟩
  obtain ⟨x2, e_x2⟩ : ∃ z, z = u.1 2 := ⟨_, rfl⟩
  obtain ⟨x3, e_x3⟩ : ∃ z, z = u.1 3 := ⟨_, rfl⟩
  obtain ⟨x4, e_x4⟩ : ∃ z, z = u.1 4 := ⟨_, rfl⟩
  obtain ⟨x5, e_x5⟩ : ∃ z, z = u.1 5 := ⟨_, rfl⟩
  obtain ⟨x6, e_x6⟩ : ∃ z, z = u.1 6 := ⟨_, rfl⟩
  obtain ⟨x7, e_x7⟩ : ∃ z, z = u.1 7 := ⟨_, rfl⟩
  obtain ⟨x8, e_x8⟩ : ∃ z, z = u.1 8 := ⟨_, rfl⟩
  obtain ⟨x9, e_x9⟩ : ∃ z, z = u.1 9 := ⟨_, rfl⟩
  obtain ⟨x10, e_x10⟩ : ∃ z, z = u.1 10 := ⟨_, rfl⟩
  obtain ⟨x11, e_x11⟩ : ∃ z, z = u.1 11 := ⟨_, rfl⟩
  obtain ⟨x12, e_x12⟩ : ∃ z, z = u.1 12 := ⟨_, rfl⟩
  obtain ⟨x13, e_x13⟩ : ∃ z, z = u.1 13 := ⟨_, rfl⟩
  obtain ⟨x14, e_x14⟩ : ∃ z, z = u.1 14 := ⟨_, rfl⟩
  obtain ⟨x15, e_x15⟩ : ∃ z, z = u.1 15 := ⟨_, rfl⟩
  obtain ⟨x16, e_x16⟩ : ∃ z, z = u.1 16 := ⟨_, rfl⟩
  obtain ⟨k0, e_k0⟩ : ∃ z, z = u.2 0 := ⟨_, rfl⟩
  obtain ⟨k1, e_k1⟩ : ∃ z, z = u.2 1 := ⟨_, rfl⟩
  obtain ⟨k2, e_k2⟩ : ∃ z, z = u.2 2 := ⟨_, rfl⟩
  obtain ⟨k3, e_k3⟩ : ∃ z, z = u.2 3 := ⟨_, rfl⟩
  obtain ⟨k4, e_k4⟩ : ∃ z, z = u.2 4 := ⟨_, rfl⟩
  obtain ⟨k5, e_k5⟩ : ∃ z, z = u.2 5 := ⟨_, rfl⟩
  obtain ⟨k6, e_k6⟩ : ∃ z, z = u.2 6 := ⟨_, rfl⟩
  obtain ⟨k7, e_k7⟩ : ∃ z, z = u.2 7 := ⟨_, rfl⟩
  rw [← e_x0, ← e_x1, ← e_x2, ← e_x3, ← e_x4, ← e_x5, ← e_x6, ← e_x7, ← e_x8, ← e_x9, ← e_x10, ← e_x11, ← e_x12, ← e_x13, ← e_x14, ← e_x15, ← e_x16, ← e_k0, ← e_k1, ← e_k2, ← e_k3, ← e_k4, ← e_k5, ← e_k6, ← e_k7] at hP1 hD1
  rw [← e_k0, ← e_k1, ← e_k2, ← e_k3, ← e_k4, ← e_k5, ← e_k6, ← e_k7] at hK1
  rw [ht] at hP1
  have hK1 := va_K.moved hvm.symm hK1
  obtain ⟨hP, hD⟩ := va_join (wr := []) (w1 := [(q0, .inr (4, [.ref x0, .ref x1, .ref x5, .ref x6, .ref x7, .int 0, .int 0, .int 0, .int (-1), .ref x8, .int 0, .int 0, .int 0, .int 0])), (x0, .inl (k0, 8, .inr (.inr (.inr (.inr (va_up (va_up (va_up (va_up (va_up (va_up (va_up (va_up (fun _ => none) (0 : Int32).toNatClampNeg (some x9)) (1 : Int32).toNatClampNeg (some x10)) (2 : Int32).toNatClampNeg (some x11)) (3 : Int32).toNatClampNeg (some x12)) (4 : Int32).toNatClampNeg (some x13)) (5 : Int32).toNatClampNeg (some x14)) (6 : Int32).toNatClampNeg (some x15)) (7 : Int32).toNatClampNeg (some x16))))))), (x1, .inr (3, [.ref x2, .ref x3, .ref x4, .int 0])), (x2, .inl (k1, 6, .inr (.inr (.inr (.inr (fun _ => none)))))), (x3, .inl (k2, 6, .inl (fun _ => 0))), (x4, .inl (k3, 6, .inl (fun _ => 0))), (x5, .inl (k4, 8, .inl (fun _ => 0))), (x6, .inl (k5, 30, .inl (fun _ => 0))), (x7, .inl (k6, 30, .inl (fun _ => 0))), (x8, .inl (k7, 7, .inl (fun _ => 0))), (x9, .inr (2, [.int 0, .int 0, .int 0, .int 0, .int 0, .int 0, .int 0, .int 0])), (x10, .inr (2, [.int 0, .int 0, .int 0, .int 0, .int 0, .int 0, .int 0, .int 0])), (x11, .inr (2, [.int 0, .int 0, .int 0, .int 0, .int 0, .int 0, .int 0, .int 0])), (x12, .inr (2, [.int 0, .int 0, .int 0, .int 0, .int 0, .int 0, .int 0, .int 0])), (x13, .inr (2, [.int 0, .int 0, .int 0, .int 0, .int 0, .int 0, .int 0, .int 0])), (x14, .inr (2, [.int 0, .int 0, .int 0, .int 0, .int 0, .int 0, .int 0, .int 0])), (x15, .inr (2, [.int 0, .int 0, .int 0, .int 0, .int 0, .int 0, .int 0, .int 0])), (x16, .inr (2, [.int 0, .int 0, .int 0, .int 0, .int 0, .int 0, .int 0, .int 0]))]) hP hD [0] [] rfl rfl (by decide) (by decide) hk1 hFc hP1 hD1
  have hK := hK.app hK1
  generalize H1 = H at hP hS ⊢
  clear e_x0 e_x1 e_x2 e_x3 e_x4 e_x5 e_x6 e_x7 e_x8 e_x9 e_x10 e_x11 e_x12 e_x13 e_x14 e_x15 e_x16 e_k0 e_k1 e_k2 e_k3 e_k4 e_k5 e_k6 e_k7 hk1 hz1 ht hvm hw hFc hPc hDc hKc hP1 hD1 hK1
  have hP : va_P (dC, dI) vwCl [(q0, .inr (4, [.ref x0, .ref x1, .ref x5, .ref x6, .ref x7, .int 0, .int 0, .int 0, .int (-1), .ref x8, .int 0, .int 0, .int 0, .int 0])), (x0, .inl (k0, 8, .inr (.inr (.inr (.inr (va_up (va_up (va_up (va_up (va_up (va_up (va_up (va_up (fun _ => none) (0 : Int32).toNatClampNeg (some x9)) (1 : Int32).toNatClampNeg (some x10)) (2 : Int32).toNatClampNeg (some x11)) (3 : Int32).toNatClampNeg (some x12)) (4 : Int32).toNatClampNeg (some x13)) (5 : Int32).toNatClampNeg (some x14)) (6 : Int32).toNatClampNeg (some x15)) (7 : Int32).toNatClampNeg (some x16))))))), (x1, .inr (3, [.ref x2, .ref x3, .ref x4, .int 0])), (x2, .inl (k1, 6, .inr (.inr (.inr (.inr (fun _ => none)))))), (x3, .inl (k2, 6, .inl (fun _ => 0))), (x4, .inl (k3, 6, .inl (fun _ => 0))), (x5, .inl (k4, 8, .inl (fun _ => 0))), (x6, .inl (k5, 30, .inl (fun _ => 0))), (x7, .inl (k6, 30, .inl (fun _ => 0))), (x8, .inl (k7, 7, .inl (fun _ => 0))), (x9, .inr (2, [.int 0, .int 0, .int 0, .int 0, .int 0, .int 0, .int 0, .int 0])), (x10, .inr (2, [.int 0, .int 0, .int 0, .int 0, .int 0, .int 0, .int 0, .int 0])), (x11, .inr (2, [.int 0, .int 0, .int 0, .int 0, .int 0, .int 0, .int 0, .int 0])), (x12, .inr (2, [.int 0, .int 0, .int 0, .int 0, .int 0, .int 0, .int 0, .int 0])), (x13, .inr (2, [.int 0, .int 0, .int 0, .int 0, .int 0, .int 0, .int 0, .int 0])), (x14, .inr (2, [.int 0, .int 0, .int 0, .int 0, .int 0, .int 0, .int 0, .int 0])), (x15, .inr (2, [.int 0, .int 0, .int 0, .int 0, .int 0, .int 0, .int 0, .int 0])), (x16, .inr (2, [.int 0, .int 0, .int 0, .int 0, .int 0, .int 0, .int 0, .int 0]))] H := hP
  have hD : va_D (fun q : Nat => s.heap.size ≤ q) [(q0, .inr (4, [.ref x0, .ref x1, .ref x5, .ref x6, .ref x7, .int 0, .int 0, .int 0, .int (-1), .ref x8, .int 0, .int 0, .int 0, .int 0])), (x0, .inl (k0, 8, .inr (.inr (.inr (.inr (va_up (va_up (va_up (va_up (va_up (va_up (va_up (va_up (fun _ => none) (0 : Int32).toNatClampNeg (some x9)) (1 : Int32).toNatClampNeg (some x10)) (2 : Int32).toNatClampNeg (some x11)) (3 : Int32).toNatClampNeg (some x12)) (4 : Int32).toNatClampNeg (some x13)) (5 : Int32).toNatClampNeg (some x14)) (6 : Int32).toNatClampNeg (some x15)) (7 : Int32).toNatClampNeg (some x16))))))), (x1, .inr (3, [.ref x2, .ref x3, .ref x4, .int 0])), (x2, .inl (k1, 6, .inr (.inr (.inr (.inr (fun _ => none)))))), (x3, .inl (k2, 6, .inl (fun _ => 0))), (x4, .inl (k3, 6, .inl (fun _ => 0))), (x5, .inl (k4, 8, .inl (fun _ => 0))), (x6, .inl (k5, 30, .inl (fun _ => 0))), (x7, .inl (k6, 30, .inl (fun _ => 0))), (x8, .inl (k7, 7, .inl (fun _ => 0))), (x9, .inr (2, [.int 0, .int 0, .int 0, .int 0, .int 0, .int 0, .int 0, .int 0])), (x10, .inr (2, [.int 0, .int 0, .int 0, .int 0, .int 0, .int 0, .int 0, .int 0])), (x11, .inr (2, [.int 0, .int 0, .int 0, .int 0, .int 0, .int 0, .int 0, .int 0])), (x12, .inr (2, [.int 0, .int 0, .int 0, .int 0, .int 0, .int 0, .int 0, .int 0])), (x13, .inr (2, [.int 0, .int 0, .int 0, .int 0, .int 0, .int 0, .int 0, .int 0])), (x14, .inr (2, [.int 0, .int 0, .int 0, .int 0, .int 0, .int 0, .int 0, .int 0])), (x15, .inr (2, [.int 0, .int 0, .int 0, .int 0, .int 0, .int 0, .int 0, .int 0])), (x16, .inr (2, [.int 0, .int 0, .int 0, .int 0, .int 0, .int 0, .int 0, .int 0]))] := hD
  have hK : va_K (dC, dI) vwCl [(k0, .object RX0), (k1, .object RX0), (k2, .int), (k3, .int), (k4, .int), (k5, .int), (k6, .int), (k7, .int)] s := hK
  refine W.widen (k := 18) (n := 183) (by decide) (by decide) ?_
  refine lv_astore_n (lv' := [(1, .ref q0), (0, .ref b)]) hx hb dL_law_7 rfl hl (by decide) rfl (fun ls hl => ?_)
  refine va_new (ci := 5) (fs := [.int 0, .null, .null, .null, .null, .null, .null, .null, .int 0, .null, .null, .int 0, .null, .null, .null, .int 0, .int 0, .int 0, .int 0, .null]) (C := RX3) (T := TX3) (N := 20) hx hb hts inX3 tyX3 tyX3_ok hown (hts (.classLink RL 16 RX3) (by decide +kernel)) (hts (.instantiable RX3 20) (by decide +kernel)) (hts (.initialized RX3) (by decide +kernel)) hK hP hD hS hA rfl (fun j hj => by rcases (show j = 0 ∨ j = 1 ∨ j = 2 ∨ j = 3 ∨ j = 4 ∨ j = 5 ∨ j = 6 ∨ j = 7 ∨ j = 8 ∨ j = 9 ∨ j = 10 ∨ j = 11 ∨ j = 12 ∨ j = 13 ∨ j = 14 ∨ j = 15 ∨ j = 16 ∨ j = 17 ∨ j = 18 ∨ j = 19 by omega) with rfl | rfl | rfl | rfl | rfl | rfl | rfl | rfl | rfl | rfl | rfl | rfl | rfl | rfl | rfl | rfl | rfl | rfl | rfl | rfl <;> rfl) (Nat.le_of_ble_eq_true rfl) (Nat.le_of_ble_eq_true rfl) dL_law_8 (fun q1 H hP hD hS => ?_)
  have hP : va_P (dC, dI) vwCl [(q0, .inr (4, [.ref x0, .ref x1, .ref x5, .ref x6, .ref x7, .int 0, .int 0, .int 0, .int (-1), .ref x8, .int 0, .int 0, .int 0, .int 0])), (x0, .inl (k0, 8, .inr (.inr (.inr (.inr (va_up (va_up (va_up (va_up (va_up (va_up (va_up (va_up (fun _ => none) (0 : Int32).toNatClampNeg (some x9)) (1 : Int32).toNatClampNeg (some x10)) (2 : Int32).toNatClampNeg (some x11)) (3 : Int32).toNatClampNeg (some x12)) (4 : Int32).toNatClampNeg (some x13)) (5 : Int32).toNatClampNeg (some x14)) (6 : Int32).toNatClampNeg (some x15)) (7 : Int32).toNatClampNeg (some x16))))))), (x1, .inr (3, [.ref x2, .ref x3, .ref x4, .int 0])), (x2, .inl (k1, 6, .inr (.inr (.inr (.inr (fun _ => none)))))), (x3, .inl (k2, 6, .inl (fun _ => 0))), (x4, .inl (k3, 6, .inl (fun _ => 0))), (x5, .inl (k4, 8, .inl (fun _ => 0))), (x6, .inl (k5, 30, .inl (fun _ => 0))), (x7, .inl (k6, 30, .inl (fun _ => 0))), (x8, .inl (k7, 7, .inl (fun _ => 0))), (x9, .inr (2, [.int 0, .int 0, .int 0, .int 0, .int 0, .int 0, .int 0, .int 0])), (x10, .inr (2, [.int 0, .int 0, .int 0, .int 0, .int 0, .int 0, .int 0, .int 0])), (x11, .inr (2, [.int 0, .int 0, .int 0, .int 0, .int 0, .int 0, .int 0, .int 0])), (x12, .inr (2, [.int 0, .int 0, .int 0, .int 0, .int 0, .int 0, .int 0, .int 0])), (x13, .inr (2, [.int 0, .int 0, .int 0, .int 0, .int 0, .int 0, .int 0, .int 0])), (x14, .inr (2, [.int 0, .int 0, .int 0, .int 0, .int 0, .int 0, .int 0, .int 0])), (x15, .inr (2, [.int 0, .int 0, .int 0, .int 0, .int 0, .int 0, .int 0, .int 0])), (x16, .inr (2, [.int 0, .int 0, .int 0, .int 0, .int 0, .int 0, .int 0, .int 0])), (q1, .inr (5, [.int 0, .null, .null, .null, .null, .null, .null, .null, .int 0, .null, .null, .int 0, .null, .null, .null, .int 0, .int 0, .int 0, .int 0, .null]))] H := hP
  have hD : va_D (fun q : Nat => s.heap.size ≤ q) [(q0, .inr (4, [.ref x0, .ref x1, .ref x5, .ref x6, .ref x7, .int 0, .int 0, .int 0, .int (-1), .ref x8, .int 0, .int 0, .int 0, .int 0])), (x0, .inl (k0, 8, .inr (.inr (.inr (.inr (va_up (va_up (va_up (va_up (va_up (va_up (va_up (va_up (fun _ => none) (0 : Int32).toNatClampNeg (some x9)) (1 : Int32).toNatClampNeg (some x10)) (2 : Int32).toNatClampNeg (some x11)) (3 : Int32).toNatClampNeg (some x12)) (4 : Int32).toNatClampNeg (some x13)) (5 : Int32).toNatClampNeg (some x14)) (6 : Int32).toNatClampNeg (some x15)) (7 : Int32).toNatClampNeg (some x16))))))), (x1, .inr (3, [.ref x2, .ref x3, .ref x4, .int 0])), (x2, .inl (k1, 6, .inr (.inr (.inr (.inr (fun _ => none)))))), (x3, .inl (k2, 6, .inl (fun _ => 0))), (x4, .inl (k3, 6, .inl (fun _ => 0))), (x5, .inl (k4, 8, .inl (fun _ => 0))), (x6, .inl (k5, 30, .inl (fun _ => 0))), (x7, .inl (k6, 30, .inl (fun _ => 0))), (x8, .inl (k7, 7, .inl (fun _ => 0))), (x9, .inr (2, [.int 0, .int 0, .int 0, .int 0, .int 0, .int 0, .int 0, .int 0])), (x10, .inr (2, [.int 0, .int 0, .int 0, .int 0, .int 0, .int 0, .int 0, .int 0])), (x11, .inr (2, [.int 0, .int 0, .int 0, .int 0, .int 0, .int 0, .int 0, .int 0])), (x12, .inr (2, [.int 0, .int 0, .int 0, .int 0, .int 0, .int 0, .int 0, .int 0])), (x13, .inr (2, [.int 0, .int 0, .int 0, .int 0, .int 0, .int 0, .int 0, .int 0])), (x14, .inr (2, [.int 0, .int 0, .int 0, .int 0, .int 0, .int 0, .int 0, .int 0])), (x15, .inr (2, [.int 0, .int 0, .int 0, .int 0, .int 0, .int 0, .int 0, .int 0])), (x16, .inr (2, [.int 0, .int 0, .int 0, .int 0, .int 0, .int 0, .int 0, .int 0])), (q1, .inr (5, [.int 0, .null, .null, .null, .null, .null, .null, .null, .int 0, .null, .null, .int 0, .null, .null, .null, .int 0, .int 0, .int 0, .int 0, .null]))] := hD
  refine W.widen (k := 19) (n := 203) (by decide) (by decide) ?_
  refine lv_dup hx hb dL_law_11 rfl ?_
  have hPc := hP.sub (ws' := [(q1, .inr (5, [.int 0, .null, .null, .null, .null, .null, .null, .null, .int 0, .null, .null, .int 0, .null, .null, .null, .int 0, .int 0, .int 0, .int 0, .null]))]) [18] rfl
  have hDc := hD.sub (ws' := [(q1, .inr (5, [.int 0, .null, .null, .null, .null, .null, .null, .null, .int 0, .null, .null, .int 0, .null, .null, .null, .int 0, .int 0, .int 0, .int 0, .null]))]) [18] (by decide) rfl
  have hKc := hK.sub (tys' := []) [] rfl
  have hFc := va_free (wc := [(q1, .inr (5, [.int 0, .null, .null, .null, .null, .null, .null, .null, .int 0, .null, .null, .int 0, .null, .null, .null, .int 0, .int 0, .int 0, .int 0, .null]))]) hD hS hA [18] rfl
  refine va_callv (va_runI (As := []) (rest := [.ref q1]) ⟨hx, hb, hml, hown, hts⟩ (k_X3_init q1 H.size) (cwI 0 hts gT_X3_init rfl rfl rfl (hts (.initialized RX3) (by decide +kernel)) (hts (.methodLink RL 18 yX3_init) (by decide +kernel)) (hts (.instanceMethod yX3_init) (by decide +kernel)) rfl (by decide +kernel) ⟨Nat.le_of_ble_eq_true rfl, Nat.le_of_ble_eq_true rfl⟩) ⟨fun a U g mk q => by obtain ⟨q0, q1, qP, qK, qD⟩ := q; exact ⟨q0, q1, qP, va_K.moved (u := U) (U := U.calling g mk a) (Vm.Alike.refl U.vm) qK, qD⟩, fun U hU hW => ⟨rfl, by rw [hU], by rw [hU]; exact hPc, va_K.moved hW.alike hKc, hDc.weaken (fun _ _ _ _ => trivial)⟩⟩ rfl rfl hl.1 rfl (lv_room (Nat.le_of_ble_eq_true rfl)) dL_law_12 ⟨Nat.le_of_ble_eq_true rfl, Nat.le_of_ble_eq_true rfl⟩) hS (fun q _ h => hFc q h) hFc (fun u t H1 locs ht hvm hw hB hz1 hk1 hS => ?_)
  obtain ⟨hP1, hK1, hD1⟩ := hB
  obtain ⟨y0, e_y0⟩ : ∃ z, z = u.1 0 := ⟨_, rfl⟩
  obtain ⟨y1, e_y1⟩ : ∃ z, z = u.1 1 := ⟨_, rfl⟩
  obtain ⟨y2, e_y2⟩ : ∃ z, z = u.1 2 := ⟨_, rfl⟩
  obtain ⟨y3, e_y3⟩ : ∃ z, z = u.1 3 := ⟨_, rfl⟩
  obtain ⟨y4, e_y4⟩ : ∃ z, z = u.1 4 := ⟨_, rfl⟩
  obtain ⟨y5, e_y5⟩ : ∃ z, z = u.1 5 := ⟨_, rfl⟩
  obtain ⟨y6, e_y6⟩ : ∃ z, z = u.1 6 := ⟨_, rfl⟩
  obtain ⟨y7, e_y7⟩ : ∃ z, z = u.1 7 := ⟨_, rfl⟩
  obtain ⟨y8, e_y8⟩ : ∃ z, z = u.1 8 := ⟨_, rfl⟩
  obtain ⟨y9, e_y9⟩ : ∃ z, z = u.1 9 := ⟨_, rfl⟩
  obtain ⟨y10, e_y10⟩ : ∃ z, z = u.1 10 := ⟨_, rfl⟩
  obtain ⟨y11, e_y11⟩ : ∃ z, z = u.1 11 := ⟨_, rfl⟩
  obtain ⟨y12, e_y12⟩ : ∃ z, z = u.1 12 := ⟨_, rfl⟩
  obtain ⟨j0, e_j0⟩ : ∃ z, z = u.2 0 := ⟨_, rfl⟩
  obtain ⟨j1, e_j1⟩ : ∃ z, z = u.2 1 := ⟨_, rfl⟩
  obtain ⟨j2, e_j2⟩ : ∃ z, z = u.2 2 := ⟨_, rfl⟩
  obtain ⟨j3, e_j3⟩ : ∃ z, z = u.2 3 := ⟨_, rfl⟩
  obtain ⟨j4, e_j4⟩ : ∃ z, z = u.2 4 := ⟨_, rfl⟩
  obtain ⟨j5, e_j5⟩ : ∃ z, z = u.2 5 := ⟨_, rfl⟩
  obtain ⟨j6, e_j6⟩ : ∃ z, z = u.2 6 := ⟨_, rfl⟩
  obtain ⟨j7, e_j7⟩ : ∃ z, z = u.2 7 := ⟨_, rfl⟩
  obtain ⟨j8, e_j8⟩ : ∃ z, z = u.2 8 := ⟨_, rfl⟩
  obtain ⟨j9, e_j9⟩ : ∃ z, z = u.2 9 := ⟨_, rfl⟩
  obtain ⟨j10, e_j10⟩ : ∃ z, z = u.2 10 := ⟨_, rfl⟩
  obtain ⟨j11, e_j11⟩ : ∃ z, z = u.2 11 := ⟨_, rfl⟩
  obtain ⟨j12, e_j12⟩ : ∃ z, z = u.2 12 := ⟨_, rfl⟩
  rw [← e_y0, ← e_y1, ← e_y2, ← e_y3, ← e_y4, ← e_y5, ← e_y6, ← e_y7, ← e_y8, ← e_y9, ← e_y10, ← e_y11, ← e_y12, ← e_j0, ← e_j1, ← e_j2, ← e_j3, ← e_j4, ← e_j5, ← e_j6, ← e_j7, ← e_j8, ← e_j9, ← e_j10, ← e_j11, ← e_j12] at hP1 hD1
  rw [← e_j0, ← e_j1, ← e_j2, ← e_j3, ← e_j4, ← e_j5, ← e_j6, ← e_j7, ← e_j8, ← e_j9, ← e_j10, ← e_j11, ← e_j12] at hK1
  rw [ht] at hP1
  have hK1 := va_K.moved hvm.symm hK1
  obtain ⟨hP, hD⟩ := va_join (wr := [(q0, .inr (4, [.ref x0, .ref x1, .ref x5, .ref x6, .ref x7, .int 0, .int 0, .int 0, .int (-1), .ref x8, .int 0, .int 0, .int 0, .int 0])), (x0, .inl (k0, 8, .inr (.inr (.inr (.inr (va_up (va_up (va_up (va_up (va_up (va_up (va_up (va_up (fun _ => none) (0 : Int32).toNatClampNeg (some x9)) (1 : Int32).toNatClampNeg (some x10)) (2 : Int32).toNatClampNeg (some x11)) (3 : Int32).toNatClampNeg (some x12)) (4 : Int32).toNatClampNeg (some x13)) (5 : Int32).toNatClampNeg (some x14)) (6 : Int32).toNatClampNeg (some x15)) (7 : Int32).toNatClampNeg (some x16))))))), (x1, .inr (3, [.ref x2, .ref x3, .ref x4, .int 0])), (x2, .inl (k1, 6, .inr (.inr (.inr (.inr (fun _ => none)))))), (x3, .inl (k2, 6, .inl (fun _ => 0))), (x4, .inl (k3, 6, .inl (fun _ => 0))), (x5, .inl (k4, 8, .inl (fun _ => 0))), (x6, .inl (k5, 30, .inl (fun _ => 0))), (x7, .inl (k6, 30, .inl (fun _ => 0))), (x8, .inl (k7, 7, .inl (fun _ => 0))), (x9, .inr (2, [.int 0, .int 0, .int 0, .int 0, .int 0, .int 0, .int 0, .int 0])), (x10, .inr (2, [.int 0, .int 0, .int 0, .int 0, .int 0, .int 0, .int 0, .int 0])), (x11, .inr (2, [.int 0, .int 0, .int 0, .int 0, .int 0, .int 0, .int 0, .int 0])), (x12, .inr (2, [.int 0, .int 0, .int 0, .int 0, .int 0, .int 0, .int 0, .int 0])), (x13, .inr (2, [.int 0, .int 0, .int 0, .int 0, .int 0, .int 0, .int 0, .int 0])), (x14, .inr (2, [.int 0, .int 0, .int 0, .int 0, .int 0, .int 0, .int 0, .int 0])), (x15, .inr (2, [.int 0, .int 0, .int 0, .int 0, .int 0, .int 0, .int 0, .int 0])), (x16, .inr (2, [.int 0, .int 0, .int 0, .int 0, .int 0, .int 0, .int 0, .int 0]))]) (w1 := [(q1, .inr (5, [.int 0, .ref y0, .ref y1, .ref y2, .ref y3, .ref y4, .ref y5, .ref y6, .int 0, .ref y7, .ref y8, .int 0, .ref y9, .ref y10, .ref y11, .int 0, .int 0, .int 0, .int (-1), .ref y12])), (y0, .inl (j0, 8, .inl (fun _ => 0))), (y1, .inl (j1, 8, .inl (fun _ => 0))), (y2, .inl (j2, 8, .inl (fun _ => 0))), (y3, .inl (j3, 8, .inl (fun _ => 0))), (y4, .inl (j4, 8, .inl (fun _ => 0))), (y5, .inl (j5, 8, .inl (fun _ => 0))), (y6, .inl (j6, 8, .inl (fun _ => 0))), (y7, .inl (j7, 30, .inl (fun _ => 0))), (y8, .inl (j8, 30, .inl (fun _ => 0))), (y9, .inl (j9, 6, .inl (fun _ => 0))), (y10, .inl (j10, 6, .inl (fun _ => 0))), (y11, .inl (j11, 6, .inl (fun _ => 0))), (y12, .inl (j12, 17, .inl (fun _ => 0)))]) hP hD [18] [0, 1, 2, 3, 4, 5, 6, 7, 8, 9, 10, 11, 12, 13, 14, 15, 16, 17] rfl rfl (by decide) (by decide) hk1 hFc hP1 hD1
  have hK := hK.app hK1
  generalize H1 = H at hP hS ⊢
  clear e_y0 e_y1 e_y2 e_y3 e_y4 e_y5 e_y6 e_y7 e_y8 e_y9 e_y10 e_y11 e_y12 e_j0 e_j1 e_j2 e_j3 e_j4 e_j5 e_j6 e_j7 e_j8 e_j9 e_j10 e_j11 e_j12 hk1 hz1 ht hvm hw hFc hPc hDc hKc hP1 hD1 hK1
  have hP : va_P (dC, dI) vwCl [(q0, .inr (4, [.ref x0, .ref x1, .ref x5, .ref x6, .ref x7, .int 0, .int 0, .int 0, .int (-1), .ref x8, .int 0, .int 0, .int 0, .int 0])), (x0, .inl (k0, 8, .inr (.inr (.inr (.inr (va_up (va_up (va_up (va_up (va_up (va_up (va_up (va_up (fun _ => none) (0 : Int32).toNatClampNeg (some x9)) (1 : Int32).toNatClampNeg (some x10)) (2 : Int32).toNatClampNeg (some x11)) (3 : Int32).toNatClampNeg (some x12)) (4 : Int32).toNatClampNeg (some x13)) (5 : Int32).toNatClampNeg (some x14)) (6 : Int32).toNatClampNeg (some x15)) (7 : Int32).toNatClampNeg (some x16))))))), (x1, .inr (3, [.ref x2, .ref x3, .ref x4, .int 0])), (x2, .inl (k1, 6, .inr (.inr (.inr (.inr (fun _ => none)))))), (x3, .inl (k2, 6, .inl (fun _ => 0))), (x4, .inl (k3, 6, .inl (fun _ => 0))), (x5, .inl (k4, 8, .inl (fun _ => 0))), (x6, .inl (k5, 30, .inl (fun _ => 0))), (x7, .inl (k6, 30, .inl (fun _ => 0))), (x8, .inl (k7, 7, .inl (fun _ => 0))), (x9, .inr (2, [.int 0, .int 0, .int 0, .int 0, .int 0, .int 0, .int 0, .int 0])), (x10, .inr (2, [.int 0, .int 0, .int 0, .int 0, .int 0, .int 0, .int 0, .int 0])), (x11, .inr (2, [.int 0, .int 0, .int 0, .int 0, .int 0, .int 0, .int 0, .int 0])), (x12, .inr (2, [.int 0, .int 0, .int 0, .int 0, .int 0, .int 0, .int 0, .int 0])), (x13, .inr (2, [.int 0, .int 0, .int 0, .int 0, .int 0, .int 0, .int 0, .int 0])), (x14, .inr (2, [.int 0, .int 0, .int 0, .int 0, .int 0, .int 0, .int 0, .int 0])), (x15, .inr (2, [.int 0, .int 0, .int 0, .int 0, .int 0, .int 0, .int 0, .int 0])), (x16, .inr (2, [.int 0, .int 0, .int 0, .int 0, .int 0, .int 0, .int 0, .int 0])), (q1, .inr (5, [.int 0, .ref y0, .ref y1, .ref y2, .ref y3, .ref y4, .ref y5, .ref y6, .int 0, .ref y7, .ref y8, .int 0, .ref y9, .ref y10, .ref y11, .int 0, .int 0, .int 0, .int (-1), .ref y12])), (y0, .inl (j0, 8, .inl (fun _ => 0))), (y1, .inl (j1, 8, .inl (fun _ => 0))), (y2, .inl (j2, 8, .inl (fun _ => 0))), (y3, .inl (j3, 8, .inl (fun _ => 0))), (y4, .inl (j4, 8, .inl (fun _ => 0))), (y5, .inl (j5, 8, .inl (fun _ => 0))), (y6, .inl (j6, 8, .inl (fun _ => 0))), (y7, .inl (j7, 30, .inl (fun _ => 0))), (y8, .inl (j8, 30, .inl (fun _ => 0))), (y9, .inl (j9, 6, .inl (fun _ => 0))), (y10, .inl (j10, 6, .inl (fun _ => 0))), (y11, .inl (j11, 6, .inl (fun _ => 0))), (y12, .inl (j12, 17, .inl (fun _ => 0)))] H := hP
  have hD : va_D (fun q : Nat => s.heap.size ≤ q) [(q0, .inr (4, [.ref x0, .ref x1, .ref x5, .ref x6, .ref x7, .int 0, .int 0, .int 0, .int (-1), .ref x8, .int 0, .int 0, .int 0, .int 0])), (x0, .inl (k0, 8, .inr (.inr (.inr (.inr (va_up (va_up (va_up (va_up (va_up (va_up (va_up (va_up (fun _ => none) (0 : Int32).toNatClampNeg (some x9)) (1 : Int32).toNatClampNeg (some x10)) (2 : Int32).toNatClampNeg (some x11)) (3 : Int32).toNatClampNeg (some x12)) (4 : Int32).toNatClampNeg (some x13)) (5 : Int32).toNatClampNeg (some x14)) (6 : Int32).toNatClampNeg (some x15)) (7 : Int32).toNatClampNeg (some x16))))))), (x1, .inr (3, [.ref x2, .ref x3, .ref x4, .int 0])), (x2, .inl (k1, 6, .inr (.inr (.inr (.inr (fun _ => none)))))), (x3, .inl (k2, 6, .inl (fun _ => 0))), (x4, .inl (k3, 6, .inl (fun _ => 0))), (x5, .inl (k4, 8, .inl (fun _ => 0))), (x6, .inl (k5, 30, .inl (fun _ => 0))), (x7, .inl (k6, 30, .inl (fun _ => 0))), (x8, .inl (k7, 7, .inl (fun _ => 0))), (x9, .inr (2, [.int 0, .int 0, .int 0, .int 0, .int 0, .int 0, .int 0, .int 0])), (x10, .inr (2, [.int 0, .int 0, .int 0, .int 0, .int 0, .int 0, .int 0, .int 0])), (x11, .inr (2, [.int 0, .int 0, .int 0, .int 0, .int 0, .int 0, .int 0, .int 0])), (x12, .inr (2, [.int 0, .int 0, .int 0, .int 0, .int 0, .int 0, .int 0, .int 0])), (x13, .inr (2, [.int 0, .int 0, .int 0, .int 0, .int 0, .int 0, .int 0, .int 0])), (x14, .inr (2, [.int 0, .int 0, .int 0, .int 0, .int 0, .int 0, .int 0, .int 0])), (x15, .inr (2, [.int 0, .int 0, .int 0, .int 0, .int 0, .int 0, .int 0, .int 0])), (x16, .inr (2, [.int 0, .int 0, .int 0, .int 0, .int 0, .int 0, .int 0, .int 0])), (q1, .inr (5, [.int 0, .ref y0, .ref y1, .ref y2, .ref y3, .ref y4, .ref y5, .ref y6, .int 0, .ref y7, .ref y8, .int 0, .ref y9, .ref y10, .ref y11, .int 0, .int 0, .int 0, .int (-1), .ref y12])), (y0, .inl (j0, 8, .inl (fun _ => 0))), (y1, .inl (j1, 8, .inl (fun _ => 0))), (y2, .inl (j2, 8, .inl (fun _ => 0))), (y3, .inl (j3, 8, .inl (fun _ => 0))), (y4, .inl (j4, 8, .inl (fun _ => 0))), (y5, .inl (j5, 8, .inl (fun _ => 0))), (y6, .inl (j6, 8, .inl (fun _ => 0))), (y7, .inl (j7, 30, .inl (fun _ => 0))), (y8, .inl (j8, 30, .inl (fun _ => 0))), (y9, .inl (j9, 6, .inl (fun _ => 0))), (y10, .inl (j10, 6, .inl (fun _ => 0))), (y11, .inl (j11, 6, .inl (fun _ => 0))), (y12, .inl (j12, 17, .inl (fun _ => 0)))] := hD
  have hK : va_K (dC, dI) vwCl [(k0, .object RX0), (k1, .object RX0), (k2, .int), (k3, .int), (k4, .int), (k5, .int), (k6, .int), (k7, .int), (j0, .int), (j1, .int), (j2, .boolean), (j3, .int), (j4, .int), (j5, .int), (j6, .int), (j7, .int), (j8, .int), (j9, .int), (j10, .int), (j11, .int), (j12, .int)] s := hK
  refine W.widen (k := 32) (n := 354) (by decide) (by decide) ?_
  refine lv_astore_n (lv' := [(2, .ref q1), (1, .ref q0), (0, .ref b)]) hx hb dL_law_15 rfl hl (by decide) rfl (fun ls hl => ?_)
  refine lv_iconst (v := 1) hx hb dL_law_16 (by decide) ?_
  refine va_newa (atype := .long) (ty := .long) hx hb (hts (.arrayClass .long) (by decide +kernel)) rfl hK hP hD hS hA (n := 1) (N' := 1) (a0 := (1, .inr (.inl (fun _ => 0)))) (fun _ => rfl) (by decide) (by decide) (by decide) (Nat.le_of_ble_eq_true rfl) (Nat.le_of_ble_eq_true rfl) dL_law_17 (fun q2 cz H hK hP hD hS => ?_)
  have hP : va_P (dC, dI) vwCl [(q0, .inr (4, [.ref x0, .ref x1, .ref x5, .ref x6, .ref x7, .int 0, .int 0, .int 0, .int (-1), .ref x8, .int 0, .int 0, .int 0, .int 0])), (x0, .inl (k0, 8, .inr (.inr (.inr (.inr (va_up (va_up (va_up (va_up (va_up (va_up (va_up (va_up (fun _ => none) (0 : Int32).toNatClampNeg (some x9)) (1 : Int32).toNatClampNeg (some x10)) (2 : Int32).toNatClampNeg (some x11)) (3 : Int32).toNatClampNeg (some x12)) (4 : Int32).toNatClampNeg (some x13)) (5 : Int32).toNatClampNeg (some x14)) (6 : Int32).toNatClampNeg (some x15)) (7 : Int32).toNatClampNeg (some x16))))))), (x1, .inr (3, [.ref x2, .ref x3, .ref x4, .int 0])), (x2, .inl (k1, 6, .inr (.inr (.inr (.inr (fun _ => none)))))), (x3, .inl (k2, 6, .inl (fun _ => 0))), (x4, .inl (k3, 6, .inl (fun _ => 0))), (x5, .inl (k4, 8, .inl (fun _ => 0))), (x6, .inl (k5, 30, .inl (fun _ => 0))), (x7, .inl (k6, 30, .inl (fun _ => 0))), (x8, .inl (k7, 7, .inl (fun _ => 0))), (x9, .inr (2, [.int 0, .int 0, .int 0, .int 0, .int 0, .int 0, .int 0, .int 0])), (x10, .inr (2, [.int 0, .int 0, .int 0, .int 0, .int 0, .int 0, .int 0, .int 0])), (x11, .inr (2, [.int 0, .int 0, .int 0, .int 0, .int 0, .int 0, .int 0, .int 0])), (x12, .inr (2, [.int 0, .int 0, .int 0, .int 0, .int 0, .int 0, .int 0, .int 0])), (x13, .inr (2, [.int 0, .int 0, .int 0, .int 0, .int 0, .int 0, .int 0, .int 0])), (x14, .inr (2, [.int 0, .int 0, .int 0, .int 0, .int 0, .int 0, .int 0, .int 0])), (x15, .inr (2, [.int 0, .int 0, .int 0, .int 0, .int 0, .int 0, .int 0, .int 0])), (x16, .inr (2, [.int 0, .int 0, .int 0, .int 0, .int 0, .int 0, .int 0, .int 0])), (q1, .inr (5, [.int 0, .ref y0, .ref y1, .ref y2, .ref y3, .ref y4, .ref y5, .ref y6, .int 0, .ref y7, .ref y8, .int 0, .ref y9, .ref y10, .ref y11, .int 0, .int 0, .int 0, .int (-1), .ref y12])), (y0, .inl (j0, 8, .inl (fun _ => 0))), (y1, .inl (j1, 8, .inl (fun _ => 0))), (y2, .inl (j2, 8, .inl (fun _ => 0))), (y3, .inl (j3, 8, .inl (fun _ => 0))), (y4, .inl (j4, 8, .inl (fun _ => 0))), (y5, .inl (j5, 8, .inl (fun _ => 0))), (y6, .inl (j6, 8, .inl (fun _ => 0))), (y7, .inl (j7, 30, .inl (fun _ => 0))), (y8, .inl (j8, 30, .inl (fun _ => 0))), (y9, .inl (j9, 6, .inl (fun _ => 0))), (y10, .inl (j10, 6, .inl (fun _ => 0))), (y11, .inl (j11, 6, .inl (fun _ => 0))), (y12, .inl (j12, 17, .inl (fun _ => 0))), (q2, .inl (cz, 1, .inr (.inl (fun _ => 0))))] H := hP
  have hD : va_D (fun q : Nat => s.heap.size ≤ q) [(q0, .inr (4, [.ref x0, .ref x1, .ref x5, .ref x6, .ref x7, .int 0, .int 0, .int 0, .int (-1), .ref x8, .int 0, .int 0, .int 0, .int 0])), (x0, .inl (k0, 8, .inr (.inr (.inr (.inr (va_up (va_up (va_up (va_up (va_up (va_up (va_up (va_up (fun _ => none) (0 : Int32).toNatClampNeg (some x9)) (1 : Int32).toNatClampNeg (some x10)) (2 : Int32).toNatClampNeg (some x11)) (3 : Int32).toNatClampNeg (some x12)) (4 : Int32).toNatClampNeg (some x13)) (5 : Int32).toNatClampNeg (some x14)) (6 : Int32).toNatClampNeg (some x15)) (7 : Int32).toNatClampNeg (some x16))))))), (x1, .inr (3, [.ref x2, .ref x3, .ref x4, .int 0])), (x2, .inl (k1, 6, .inr (.inr (.inr (.inr (fun _ => none)))))), (x3, .inl (k2, 6, .inl (fun _ => 0))), (x4, .inl (k3, 6, .inl (fun _ => 0))), (x5, .inl (k4, 8, .inl (fun _ => 0))), (x6, .inl (k5, 30, .inl (fun _ => 0))), (x7, .inl (k6, 30, .inl (fun _ => 0))), (x8, .inl (k7, 7, .inl (fun _ => 0))), (x9, .inr (2, [.int 0, .int 0, .int 0, .int 0, .int 0, .int 0, .int 0, .int 0])), (x10, .inr (2, [.int 0, .int 0, .int 0, .int 0, .int 0, .int 0, .int 0, .int 0])), (x11, .inr (2, [.int 0, .int 0, .int 0, .int 0, .int 0, .int 0, .int 0, .int 0])), (x12, .inr (2, [.int 0, .int 0, .int 0, .int 0, .int 0, .int 0, .int 0, .int 0])), (x13, .inr (2, [.int 0, .int 0, .int 0, .int 0, .int 0, .int 0, .int 0, .int 0])), (x14, .inr (2, [.int 0, .int 0, .int 0, .int 0, .int 0, .int 0, .int 0, .int 0])), (x15, .inr (2, [.int 0, .int 0, .int 0, .int 0, .int 0, .int 0, .int 0, .int 0])), (x16, .inr (2, [.int 0, .int 0, .int 0, .int 0, .int 0, .int 0, .int 0, .int 0])), (q1, .inr (5, [.int 0, .ref y0, .ref y1, .ref y2, .ref y3, .ref y4, .ref y5, .ref y6, .int 0, .ref y7, .ref y8, .int 0, .ref y9, .ref y10, .ref y11, .int 0, .int 0, .int 0, .int (-1), .ref y12])), (y0, .inl (j0, 8, .inl (fun _ => 0))), (y1, .inl (j1, 8, .inl (fun _ => 0))), (y2, .inl (j2, 8, .inl (fun _ => 0))), (y3, .inl (j3, 8, .inl (fun _ => 0))), (y4, .inl (j4, 8, .inl (fun _ => 0))), (y5, .inl (j5, 8, .inl (fun _ => 0))), (y6, .inl (j6, 8, .inl (fun _ => 0))), (y7, .inl (j7, 30, .inl (fun _ => 0))), (y8, .inl (j8, 30, .inl (fun _ => 0))), (y9, .inl (j9, 6, .inl (fun _ => 0))), (y10, .inl (j10, 6, .inl (fun _ => 0))), (y11, .inl (j11, 6, .inl (fun _ => 0))), (y12, .inl (j12, 17, .inl (fun _ => 0))), (q2, .inl (cz, 1, .inr (.inl (fun _ => 0))))] := hD
  have hK : va_K (dC, dI) vwCl [(k0, .object RX0), (k1, .object RX0), (k2, .int), (k3, .int), (k4, .int), (k5, .int), (k6, .int), (k7, .int), (j0, .int), (j1, .int), (j2, .boolean), (j3, .int), (j4, .int), (j5, .int), (j6, .int), (j7, .int), (j8, .int), (j9, .int), (j10, .int), (j11, .int), (j12, .int), (cz, .long)] s := hK
  refine W.widen (k := 33) (n := 355) (by decide) (by decide) ?_
  refine lv_astore_n (lv' := [(3, .ref q2), (2, .ref q1), (1, .ref q0), (0, .ref b)]) hx hb dL_law_19 rfl hl (by decide) rfl (fun ls hl => ?_)
  refine lv_iconst (v := 0) hx hb dL_law_20 (by decide) ?_
  refine lv_istore (lv' := [(4, .int 0), (3, .ref q2), (2, .ref q1), (1, .ref q0), (0, .ref b)]) hx hb dL_law_21 hl (by decide) rfl (fun ls hl => ?_)
  have hl : lv_has ls 7 [(4, .int (nI (4 * 0))), (0, .ref b), (1, .ref q0), (2, .ref q1), (3, .ref q2)] := lv_sub hl [0, 4, 3, 2, 1] rfl
  obtain ⟨cl, m0, m1, m2, m3⟩ : ∃ cl : Nat → ClassId, cl 0 = k2 ∧ cl 1 = j2 ∧ cl 2 = k0 ∧ cl 3 = cz := ⟨fun i => match i with | 0 => k2 | 1 => j2 | 2 => k0 | _ => cz, rfl, rfl, rfl, rfl⟩
  have z3 : k2 = k3 := Option.some.inj ((show s.vm.findClass _ = some k2 from (hK.2 2 _ rfl).2).symm.trans (show s.vm.findClass _ = some k3 from (hK.2 3 _ rfl).2))
  have z4 : k2 = k4 := Option.some.inj ((show s.vm.findClass _ = some k2 from (hK.2 2 _ rfl).2).symm.trans (show s.vm.findClass _ = some k4 from (hK.2 4 _ rfl).2))
  have z5 : k2 = k5 := Option.some.inj ((show s.vm.findClass _ = some k2 from (hK.2 2 _ rfl).2).symm.trans (show s.vm.findClass _ = some k5 from (hK.2 5 _ rfl).2))
  have z6 : k2 = k6 := Option.some.inj ((show s.vm.findClass _ = some k2 from (hK.2 2 _ rfl).2).symm.trans (show s.vm.findClass _ = some k6 from (hK.2 6 _ rfl).2))
  have z7 : k2 = k7 := Option.some.inj ((show s.vm.findClass _ = some k2 from (hK.2 2 _ rfl).2).symm.trans (show s.vm.findClass _ = some k7 from (hK.2 7 _ rfl).2))
  have z8 : k2 = j0 := Option.some.inj ((show s.vm.findClass _ = some k2 from (hK.2 2 _ rfl).2).symm.trans (show s.vm.findClass _ = some j0 from (hK.2 8 _ rfl).2))
  have z9 : k2 = j1 := Option.some.inj ((show s.vm.findClass _ = some k2 from (hK.2 2 _ rfl).2).symm.trans (show s.vm.findClass _ = some j1 from (hK.2 9 _ rfl).2))
  have z11 : k2 = j3 := Option.some.inj ((show s.vm.findClass _ = some k2 from (hK.2 2 _ rfl).2).symm.trans (show s.vm.findClass _ = some j3 from (hK.2 11 _ rfl).2))
  have z12 : k2 = j4 := Option.some.inj ((show s.vm.findClass _ = some k2 from (hK.2 2 _ rfl).2).symm.trans (show s.vm.findClass _ = some j4 from (hK.2 12 _ rfl).2))
  have z13 : k2 = j5 := Option.some.inj ((show s.vm.findClass _ = some k2 from (hK.2 2 _ rfl).2).symm.trans (show s.vm.findClass _ = some j5 from (hK.2 13 _ rfl).2))
  have z14 : k2 = j6 := Option.some.inj ((show s.vm.findClass _ = some k2 from (hK.2 2 _ rfl).2).symm.trans (show s.vm.findClass _ = some j6 from (hK.2 14 _ rfl).2))
  have z15 : k2 = j7 := Option.some.inj ((show s.vm.findClass _ = some k2 from (hK.2 2 _ rfl).2).symm.trans (show s.vm.findClass _ = some j7 from (hK.2 15 _ rfl).2))
  have z16 : k2 = j8 := Option.some.inj ((show s.vm.findClass _ = some k2 from (hK.2 2 _ rfl).2).symm.trans (show s.vm.findClass _ = some j8 from (hK.2 16 _ rfl).2))
  have z17 : k2 = j9 := Option.some.inj ((show s.vm.findClass _ = some k2 from (hK.2 2 _ rfl).2).symm.trans (show s.vm.findClass _ = some j9 from (hK.2 17 _ rfl).2))
  have z18 : k2 = j10 := Option.some.inj ((show s.vm.findClass _ = some k2 from (hK.2 2 _ rfl).2).symm.trans (show s.vm.findClass _ = some j10 from (hK.2 18 _ rfl).2))
  have z19 : k2 = j11 := Option.some.inj ((show s.vm.findClass _ = some k2 from (hK.2 2 _ rfl).2).symm.trans (show s.vm.findClass _ = some j11 from (hK.2 19 _ rfl).2))
  have z20 : k2 = j12 := Option.some.inj ((show s.vm.findClass _ = some k2 from (hK.2 2 _ rfl).2).symm.trans (show s.vm.findClass _ = some j12 from (hK.2 20 _ rfl).2))
  have z1 : k0 = k1 := by
    obtain ⟨_, _, -, -, -, w1⟩ := (hK.2 0 _ rfl).2
    obtain ⟨_, _, -, -, -, w2⟩ := (hK.2 1 _ rfl).2
    exact Option.some.inj (w1.symm.trans w2)
  subst z3
  subst z4
  subst z5
  subst z6
  subst z7
  subst z8
  subst z9
  subst z11
  subst z12
  subst z13
  subst z14
  subst z15
  subst z16
  subst z17
  subst z18
  subst z19
  subst z20
  subst z1
  subst m0
  subst m1
  subst m2
  subst m3
  obtain ⟨ad, n0, n1, n2, n3, n4, n5, n6, n7, n8, n9, n10, n11, n12, n13, n14, n15, n16, n17, n18, n19, n20, n21, n22, n23, n24, n25, n26, n27, n28, n29, n30, n31, n32⟩ : ∃ ad : Nat → Nat, ad 0 = q0 ∧ ad 1 = x0 ∧ ad 2 = x1 ∧ ad 7 = x2 ∧ ad 8 = x3 ∧ ad 9 = x4 ∧ ad 3 = x5 ∧ ad 4 = x6 ∧ ad 5 = x7 ∧ ad 6 = x8 ∧ ad 10 = x9 ∧ ad 11 = x10 ∧ ad 12 = x11 ∧ ad 13 = x12 ∧ ad 14 = x13 ∧ ad 15 = x14 ∧ ad 16 = x15 ∧ ad 17 = x16 ∧ ad 18 = q1 ∧ ad 19 = y0 ∧ ad 20 = y1 ∧ ad 21 = y2 ∧ ad 22 = y3 ∧ ad 23 = y4 ∧ ad 24 = y5 ∧ ad 25 = y6 ∧ ad 26 = y7 ∧ ad 27 = y8 ∧ ad 28 = y9 ∧ ad 29 = y10 ∧ ad 30 = y11 ∧ ad 31 = y12 ∧ ad 32 = q2 := ⟨fun i => [q0, x0, x1, x5, x6, x7, x8, x2, x3, x4, x9, x10, x11, x12, x13, x14, x15, x16, q1, y0, y1, y2, y3, y4, y5, y6, y7, y8, y9, y10, y11, y12, q2].getD i 0, rfl, rfl, rfl, rfl, rfl, rfl, rfl, rfl, rfl, rfl, rfl, rfl, rfl, rfl, rfl, rfl, rfl, rfl, rfl, rfl, rfl, rfl, rfl, rfl, rfl, rfl, rfl, rfl, rfl, rfl, rfl, rfl, rfl⟩
  subst n0
  subst n1
  subst n2
  subst n3
  subst n4
  subst n5
  subst n6
  subst n7
  subst n8
  subst n9
  subst n10
  subst n11
  subst n12
  subst n13
  subst n14
  subst n15
  subst n16
  subst n17
  subst n18
  subst n19
  subst n20
  subst n21
  subst n22
  subst n23
  subst n24
  subst n25
  subst n26
  subst n27
  subst n28
  subst n29
  subst n30
  subst n31
  subst n32
  have hK4 : va_K (dC, dI) vwCl (pz_ty cl) s := hK.sub [2, 10, 0, 21] rfl
  have hKz : pz_K dC dI cl s := ⟨hK4, va_Nw.of rfl (hts _ (by decide +kernel)), va_Nw.of rfl (hts _ (by decide +kernel)), va_Nw.of rfl (hts _ (by decide +kernel)), va_Nw.of rfl (hts _ (by decide +kernel)), va_Nw.of rfl (hts _ (by decide +kernel)), va_Nw.of rfl (hts _ (by decide +kernel))⟩
  have hPz : va_P (dC, dI) vwCl (pz_wd ad cl (fun _ => none) (fun _ => 0) (pz_st (fun _ _ => 0) 0 8 (-1)) (pz_st (fun _ _ => 0) 18 18 (-1))) H := by
    intro k q hq
    match k, hq with
    | 0, hq => obtain rfl := Option.some.inj (hq.symm.trans pz_a0); exact hP 0 _ rfl
    | 1, hq => obtain rfl := Option.some.inj (hq.symm.trans pz_a1); exact pw_row (hP 1 _ rfl) (fun j hj => pw_pl ad hj)
    | 2, hq => obtain rfl := Option.some.inj (hq.symm.trans pz_a2); exact hP 2 _ rfl
    | 3, hq => obtain rfl := Option.some.inj (hq.symm.trans pz_a3); exact hP 6 _ rfl
    | 4, hq => obtain rfl := Option.some.inj (hq.symm.trans pz_a4); exact hP 7 _ rfl
    | 5, hq => obtain rfl := Option.some.inj (hq.symm.trans pz_a5); exact hP 8 _ rfl
    | 6, hq => obtain rfl := Option.some.inj (hq.symm.trans pz_a6); exact hP 9 _ rfl
    | 7, hq => obtain rfl := Option.some.inj (hq.symm.trans pz_a7); exact hP 3 _ rfl
    | 8, hq => obtain rfl := Option.some.inj (hq.symm.trans pz_a8); exact hP 4 _ rfl
    | 9, hq => obtain rfl := Option.some.inj (hq.symm.trans pz_a9); exact hP 5 _ rfl
    | 10, hq => obtain rfl := Option.some.inj (hq.symm.trans (pz_aH (k := 0) (by omega))); exact hP 10 _ rfl
    | 11, hq => obtain rfl := Option.some.inj (hq.symm.trans (pz_aH (k := 1) (by omega))); exact hP 11 _ rfl
    | 12, hq => obtain rfl := Option.some.inj (hq.symm.trans (pz_aH (k := 2) (by omega))); exact hP 12 _ rfl
    | 13, hq => obtain rfl := Option.some.inj (hq.symm.trans (pz_aH (k := 3) (by omega))); exact hP 13 _ rfl
    | 14, hq => obtain rfl := Option.some.inj (hq.symm.trans (pz_aH (k := 4) (by omega))); exact hP 14 _ rfl
    | 15, hq => obtain rfl := Option.some.inj (hq.symm.trans (pz_aH (k := 5) (by omega))); exact hP 15 _ rfl
    | 16, hq => obtain rfl := Option.some.inj (hq.symm.trans (pz_aH (k := 6) (by omega))); exact hP 16 _ rfl
    | 17, hq => obtain rfl := Option.some.inj (hq.symm.trans (pz_aH (k := 7) (by omega))); exact hP 17 _ rfl
    | 18, hq => obtain rfl := Option.some.inj (hq.symm.trans pz_a18); exact hP 18 _ rfl
    | 19, hq => obtain rfl := Option.some.inj (hq.symm.trans pz_a19); exact hP 19 _ rfl
    | 20, hq => obtain rfl := Option.some.inj (hq.symm.trans pz_a20); exact hP 20 _ rfl
    | 21, hq => obtain rfl := Option.some.inj (hq.symm.trans pz_a21); exact hP 21 _ rfl
    | 22, hq => obtain rfl := Option.some.inj (hq.symm.trans pz_a22); exact hP 22 _ rfl
    | 23, hq => obtain rfl := Option.some.inj (hq.symm.trans pz_a23); exact hP 23 _ rfl
    | 24, hq => obtain rfl := Option.some.inj (hq.symm.trans pz_a24); exact hP 24 _ rfl
    | 25, hq => obtain rfl := Option.some.inj (hq.symm.trans pz_a25); exact hP 25 _ rfl
    | 26, hq => obtain rfl := Option.some.inj (hq.symm.trans pz_a26); exact hP 26 _ rfl
    | 27, hq => obtain rfl := Option.some.inj (hq.symm.trans pz_a27); exact hP 27 _ rfl
    | 28, hq => obtain rfl := Option.some.inj (hq.symm.trans pz_a28); exact hP 28 _ rfl
    | 29, hq => obtain rfl := Option.some.inj (hq.symm.trans pz_a29); exact hP 29 _ rfl
    | 30, hq => obtain rfl := Option.some.inj (hq.symm.trans pz_a30); exact hP 30 _ rfl
    | 31, hq => obtain rfl := Option.some.inj (hq.symm.trans pz_a31); exact hP 31 _ rfl
    | 32, hq => obtain rfl := Option.some.inj (hq.symm.trans pz_a32); exact hP 32 _ rfl
    | k + 33, hq => exact absurd hq (by rw [pz_no (by omega)]; exact fun h9 => nomatch h9)
  have hDz : va_D (fun q : Nat => s.heap.size ≤ q) (pz_wd ad cl (fun _ => none) (fun _ => 0) (pz_st (fun _ _ => 0) 0 8 (-1)) (pz_st (fun _ _ => 0) 18 18 (-1))) := pw_D (hD.sub (ws' := [((ad 0), .inr (4, [.ref (ad 1), .ref (ad 2), .ref (ad 3), .ref (ad 4), .ref (ad 5), .int 0, .int 0, .int 0, .int (-1), .ref (ad 6), .int 0, .int 0, .int 0, .int 0])), ((ad 1), .inl ((cl 2), 8, .inr (.inr (.inr (.inr (va_up (va_up (va_up (va_up (va_up (va_up (va_up (va_up (fun _ => none) (0 : Int32).toNatClampNeg (some (ad 10))) (1 : Int32).toNatClampNeg (some (ad 11))) (2 : Int32).toNatClampNeg (some (ad 12))) (3 : Int32).toNatClampNeg (some (ad 13))) (4 : Int32).toNatClampNeg (some (ad 14))) (5 : Int32).toNatClampNeg (some (ad 15))) (6 : Int32).toNatClampNeg (some (ad 16))) (7 : Int32).toNatClampNeg (some (ad 17)))))))), ((ad 2), .inr (3, [.ref (ad 7), .ref (ad 8), .ref (ad 9), .int 0])), ((ad 3), .inl ((cl 0), 8, .inl (fun _ => 0))), ((ad 4), .inl ((cl 0), 30, .inl (fun _ => 0))), ((ad 5), .inl ((cl 0), 30, .inl (fun _ => 0))), ((ad 6), .inl ((cl 0), 7, .inl (fun _ => 0))), ((ad 7), .inl ((cl 2), 6, .inr (.inr (.inr (.inr (fun _ => none)))))), ((ad 8), .inl ((cl 0), 6, .inl (fun _ => 0))), ((ad 9), .inl ((cl 0), 6, .inl (fun _ => 0))), ((ad 10), .inr (2, [.int 0, .int 0, .int 0, .int 0, .int 0, .int 0, .int 0, .int 0])), ((ad 11), .inr (2, [.int 0, .int 0, .int 0, .int 0, .int 0, .int 0, .int 0, .int 0])), ((ad 12), .inr (2, [.int 0, .int 0, .int 0, .int 0, .int 0, .int 0, .int 0, .int 0])), ((ad 13), .inr (2, [.int 0, .int 0, .int 0, .int 0, .int 0, .int 0, .int 0, .int 0])), ((ad 14), .inr (2, [.int 0, .int 0, .int 0, .int 0, .int 0, .int 0, .int 0, .int 0])), ((ad 15), .inr (2, [.int 0, .int 0, .int 0, .int 0, .int 0, .int 0, .int 0, .int 0])), ((ad 16), .inr (2, [.int 0, .int 0, .int 0, .int 0, .int 0, .int 0, .int 0, .int 0])), ((ad 17), .inr (2, [.int 0, .int 0, .int 0, .int 0, .int 0, .int 0, .int 0, .int 0])), ((ad 18), .inr (5, [.int 0, .ref (ad 19), .ref (ad 20), .ref (ad 21), .ref (ad 22), .ref (ad 23), .ref (ad 24), .ref (ad 25), .int 0, .ref (ad 26), .ref (ad 27), .int 0, .ref (ad 28), .ref (ad 29), .ref (ad 30), .int 0, .int 0, .int 0, .int (-1), .ref (ad 31)])), ((ad 19), .inl ((cl 0), 8, .inl (fun _ => 0))), ((ad 20), .inl ((cl 0), 8, .inl (fun _ => 0))), ((ad 21), .inl ((cl 1), 8, .inl (fun _ => 0))), ((ad 22), .inl ((cl 0), 8, .inl (fun _ => 0))), ((ad 23), .inl ((cl 0), 8, .inl (fun _ => 0))), ((ad 24), .inl ((cl 0), 8, .inl (fun _ => 0))), ((ad 25), .inl ((cl 0), 8, .inl (fun _ => 0))), ((ad 26), .inl ((cl 0), 30, .inl (fun _ => 0))), ((ad 27), .inl ((cl 0), 30, .inl (fun _ => 0))), ((ad 28), .inl ((cl 0), 6, .inl (fun _ => 0))), ((ad 29), .inl ((cl 0), 6, .inl (fun _ => 0))), ((ad 30), .inl ((cl 0), 6, .inl (fun _ => 0))), ((ad 31), .inl ((cl 0), 17, .inl (fun _ => 0))), ((ad 32), .inl ((cl 3), 1, .inr (.inl (fun _ => 0))))]) [0, 1, 2, 6, 7, 8, 9, 3, 4, 5, 10, 11, 12, 13, 14, 15, 16, 17, 18, 19, 20, 21, 22, 23, 24, 25, 26, 27, 28, 29, 30, 31, 32] (by decide) rfl) rfl
  exact law_loop hst hL C0 hA (fun _ h9 => h9) hKz hstr hU hN h5 513 0 _ _ _ _ H _ ls rfl (by omega) pw_B0 hPz hDz hS hl
