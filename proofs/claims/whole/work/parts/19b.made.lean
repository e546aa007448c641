set_option maxHeartbeats 4000000 in
set_option maxRecDepth 100000 in
theorem c_X1_init (l : Launch) (dC : Nat → ClassId) (dI : Nat → Nat → Nat) (sz : Nat) (h2 : Nat) : Met l yX1_init wsX1_init ({ frames := 2, cells := 4, slots := 480, locals := 37 }) (va_Pc [.ref h2] (fun U => U.heap.size = sz ∧ va_P (dC, dI) vwCl [(h2, .inr (1, [.null, .null, .null, .null, .int 0, .int 0, .int 0, .int 0]))] U.heap ∧ va_K (dC, dI) vwCl [] U ∧ va_D (fun _ => True) [(h2, .inr (1, [.null, .null, .null, .null, .int 0, .int 0, .int 0, .int 0]))])) (va_Qv (S := Nat × Nat × Nat × Nat × ClassId × (Nat → Int32) × (Nat → Int32)) (fun u => ∀ q, q < 10 → u.2.2.2.2.2.1 q = 1 ∧ u.2.2.2.2.2.2 q = -9) (fun (u : Nat × Nat × Nat × Nat × ClassId × (Nat → Int32) × (Nat → Int32)) (t : State) => va_P (dC, dI) vwCl [(h2, .inr (1, [.ref u.1, .ref u.2.1, .ref u.2.2.1, .ref u.2.2.2.1, .int (nI 10), .int (nI (bc (alv (fun _ => 1)) 10)), .int (nI 0), .int (nI ([] : List (Nat × Nat)).length)])), (u.1, .inl (u.2.2.2.2.1, 40, .inl u.2.2.2.2.2.1)), (u.2.1, .inl (u.2.2.2.2.1, 40, .inl u.2.2.2.2.2.2)), (u.2.2.1, .inl (u.2.2.2.2.1, 200, .inl (fun _ => 0))), (u.2.2.2.1, .inl (u.2.2.2.2.1, 200, .inl (fun _ => 0)))] t.heap ∧ va_K (dC, dI) vwCl [(u.2.2.2.2.1, .int)] t ∧ va_D (va_A [(h2, .inr (1, [.null, .null, .null, .null, .int 0, .int 0, .int 0, .int 0]))] sz) [(h2, .inr (1, [.ref u.1, .ref u.2.1, .ref u.2.2.1, .ref u.2.2.2.1, .int (nI 10), .int (nI (bc (alv (fun _ => 1)) 10)), .int (nI 0), .int (nI ([] : List (Nat × Nat)).length)])), (u.1, .inl (u.2.2.2.2.1, 40, .inl u.2.2.2.2.2.1)), (u.2.1, .inl (u.2.2.2.2.1, 40, .inl u.2.2.2.2.2.2)), (u.2.2.1, .inl (u.2.2.2.2.1, 200, .inl (fun _ => 0))), (u.2.2.2.1, .inl (u.2.2.2.2.1, 200, .inl (fun _ => 0)))]) (va_A [(h2, .inr (1, [.null, .null, .null, .null, .int 0, .int 0, .int 0, .int 0]))] sz)) 4 480 (va_A [(h2, .inr (1, [.null, .null, .null, .null, .int 0, .int 0, .int 0, .int 0]))] sz) := by
  refine Met.ofW (cc := cX1_init) (maxL := 1) (ret := none) (by decide) rfl ?_
  intro p e s m args below meth c s₁ B hml hv
  obtain ⟨rfl, hsz, hP, hK, hD0⟩ := hv
  have hx := B.exec
  have hb := B.bytes
  have hr := B.returns
  have hts := atoms_spec (ws := wsX1_init) B.pre
  have hown : s.vm.findClass RX1 = some m.cls := findClass_of_methodNamed B.named
  have hlocks := B.notSynchronized
  have hin : meth.name = "<init>" := (name_of_methodNamed B.named B.method).1
  subst hsz
  have hD := hD0.self (sz := s.heap.size)
  generalize hAe : va_A [(h2, .inr (1, [.null, .null, .null, .null, .int 0, .int 0, .int 0, .int 0]))] s.heap.size = A at hD ⊢
  have hA : ∀ q : Nat, s.heap.size ≤ q → A q := fun q h => by rw [← hAe]; exact Or.inr h
  have hS : va_S A s.heap s.heap [] := va_S.rf
  have hP : va_P (dC, dI) vwCl [(h2, .inr (1, [.null, .null, .null, .null, .int 0, .int 0, .int 0, .int 0]))] s.heap := hP
  have hl := lv_entry ([.ref h2]) (n := 1) (Nat.le_of_ble_eq_true rfl)
  rw [lg_entry_eq]
  generalize (lg_sl ([.ref h2]) ++ List.replicate (1 - (lg_sl ([.ref h2])).length) Slot.unset).toArray = ls at hl ⊢
  have hl : lv_has ls 1 [(0, .ref h2)] := hl
  refine lv_aload_n hx hb dX1_init_0 rfl (lv_at hl 0 rfl) ?_
  refine W.objInit hx hb hown (hts (.methodLink RX1 3 objectInit) (by decide +kernel)) (hts (.instanceMethod objectInit) (by decide +kernel)) (hts _ (List.mem_cons_of_mem _ (List.mem_append_left _ (List.mem_of_getElem? (i := 2) rfl)))) rfl (by rw [hml]; exact hl.1) rfl dX1_init_1 (Nat.le_of_ble_eq_true rfl) (Nat.le_of_ble_eq_true rfl) ?_
  refine W.eq (g2 := F0 m 4 ls []) rfl ?_
  refine lv_aload_n hx hb dX1_init_4 rfl (lv_at hl 0 rfl) ?_
  refine lv_bipush (v := 40) hx hb dX1_init_5 (by decide) ?_
  refine va_newa (a0 := (40, .inl (fun _ => 0))) (N' := 40) (atype := .int) (ty := .int) hx hb (hts (.arrayClass .int) (by decide +kernel)) rfl hK hP hD hS hA (fun cA => vp_cell_i cA 40 (fun _ => 0)) (by decide) (by decide) (show 40 * 4 ≤ 536870912 by omega) (Nat.le_of_ble_eq_true rfl) (Nat.le_of_ble_eq_true rfl) dX1_init_7 (fun q_7 cA_7 H hK hP hD hS => ?_)
  have hK : va_K (dC, dI) vwCl [(cA_7, .int)] s := hK
  have hP : va_P (dC, dI) vwCl [(h2, .inr (1, [.null, .null, .null, .null, .int 0, .int 0, .int 0, .int 0])), (q_7, .inl (cA_7, 40, .inl (fun _ => 0)))] H := hP
  have hD : va_D A [(h2, .inr (1, [.null, .null, .null, .null, .int 0, .int 0, .int 0, .int 0])), (q_7, .inl (cA_7, 40, .inl (fun _ => 0)))] := hD
  refine va_putF (D := (dC, dI)) (ci := 1) (v := .ref q_7) (ty := .array .int) (C := RX1) (T := TX1) (N := 8) hx hb hts (by decide +kernel) tyX1 tyX1_ok nmX1 hown hK hP hD hS 0 rfl rfl 0 (by decide) (hts (.fieldLink RX1 9 "CountedOut$Ring" "livesLeft" "[I") (by decide +kernel)) (fun _ h9 => h9) rfl hin rfl (by decide +kernel) rfl rfl (Nat.le_of_ble_eq_true rfl) dX1_init_9 (fun H locs hP hD hS => ?_)
  have hP : va_P (dC, dI) vwCl [(h2, .inr (1, [.ref q_7, .null, .null, .null, .int 0, .int 0, .int 0, .int 0])), (q_7, .inl (cA_7, 40, .inl (fun _ => 0)))] H := hP
  have hD : va_D A [(h2, .inr (1, [.ref q_7, .null, .null, .null, .int 0, .int 0, .int 0, .int 0])), (q_7, .inl (cA_7, 40, .inl (fun _ => 0)))] := hD
  refine lv_aload_n hx hb dX1_init_12 rfl (lv_at hl 0 rfl) ?_
  refine lv_bipush (v := 40) hx hb dX1_init_13 (by decide) ?_
  refine va_newa (a0 := (40, .inl (fun _ => 0))) (N' := 40) (atype := .int) (ty := .int) hx hb (hts (.arrayClass .int) (by decide +kernel)) rfl hK hP hD hS hA (fun cA => vp_cell_i cA 40 (fun _ => 0)) (by decide) (by decide) (show 40 * 4 ≤ 536870912 by omega) (Nat.le_of_ble_eq_true rfl) (Nat.le_of_ble_eq_true rfl) dX1_init_15 (fun q_15 cA_15 H hK hP hD hS => ?_)
  obtain rfl : cA_7 = cA_15 := z_sameA hK
  have hK := hK.sub (tys' := [(cA_7, .int)]) [0] rfl
  have hP : va_P (dC, dI) vwCl [(h2, .inr (1, [.ref q_7, .null, .null, .null, .int 0, .int 0, .int 0, .int 0])), (q_7, .inl (cA_7, 40, .inl (fun _ => 0))), (q_15, .inl (cA_7, 40, .inl (fun _ => 0)))] H := hP
  have hD : va_D A [(h2, .inr (1, [.ref q_7, .null, .null, .null, .int 0, .int 0, .int 0, .int 0])), (q_7, .inl (cA_7, 40, .inl (fun _ => 0))), (q_15, .inl (cA_7, 40, .inl (fun _ => 0)))] := hD
  refine va_putF (D := (dC, dI)) (ci := 1) (v := .ref q_15) (ty := .array .int) (C := RX1) (T := TX1) (N := 8) hx hb hts (by decide +kernel) tyX1 tyX1_ok nmX1 hown hK hP hD hS 0 rfl rfl 1 (by decide) (hts (.fieldLink RX1 15 "CountedOut$Ring" "wentAs" "[I") (by decide +kernel)) (fun _ h9 => h9) rfl hin rfl (by decide +kernel) rfl rfl (Nat.le_of_ble_eq_true rfl) dX1_init_17 (fun H locs hP hD hS => ?_)
  have hP : va_P (dC, dI) vwCl [(h2, .inr (1, [.ref q_7, .ref q_15, .null, .null, .int 0, .int 0, .int 0, .int 0])), (q_7, .inl (cA_7, 40, .inl (fun _ => 0))), (q_15, .inl (cA_7, 40, .inl (fun _ => 0)))] H := hP
  have hD : va_D A [(h2, .inr (1, [.ref q_7, .ref q_15, .null, .null, .int 0, .int 0, .int 0, .int 0])), (q_7, .inl (cA_7, 40, .inl (fun _ => 0))), (q_15, .inl (cA_7, 40, .inl (fun _ => 0)))] := hD
  refine lv_aload_n hx hb dX1_init_20 rfl (lv_at hl 0 rfl) ?_
  refine lv_sipush (v := 200) hx hb dX1_init_21 (by decide) ?_
  refine va_newa (a0 := (200, .inl (fun _ => 0))) (N' := 200) (atype := .int) (ty := .int) hx hb (hts (.arrayClass .int) (by decide +kernel)) rfl hK hP hD hS hA (fun cA => vp_cell_i cA 200 (fun _ => 0)) (by decide) (by decide) (show 200 * 4 ≤ 536870912 by omega) (Nat.le_of_ble_eq_true rfl) (Nat.le_of_ble_eq_true rfl) dX1_init_24 (fun q_24 cA_24 H hK hP hD hS => ?_)
  obtain rfl : cA_7 = cA_24 := z_sameA hK
  have hK := hK.sub (tys' := [(cA_7, .int)]) [0] rfl
  have hP : va_P (dC, dI) vwCl [(h2, .inr (1, [.ref q_7, .ref q_15, .null, .null, .int 0, .int 0, .int 0, .int 0])), (q_7, .inl (cA_7, 40, .inl (fun _ => 0))), (q_15, .inl (cA_7, 40, .inl (fun _ => 0))), (q_24, .inl (cA_7, 200, .inl (fun _ => 0)))] H := hP
  have hD : va_D A [(h2, .inr (1, [.ref q_7, .ref q_15, .null, .null, .int 0, .int 0, .int 0, .int 0])), (q_7, .inl (cA_7, 40, .inl (fun _ => 0))), (q_15, .inl (cA_7, 40, .inl (fun _ => 0))), (q_24, .inl (cA_7, 200, .inl (fun _ => 0)))] := hD
  refine va_putF (D := (dC, dI)) (ci := 1) (v := .ref q_24) (ty := .array .int) (C := RX1) (T := TX1) (N := 8) hx hb hts (by decide +kernel) tyX1 tyX1_ok nmX1 hown hK hP hD hS 0 rfl rfl 2 (by decide) (hts (.fieldLink RX1 18 "CountedOut$Ring" "loggedCounted" "[I") (by decide +kernel)) (fun _ h9 => h9) rfl hin rfl (by decide +kernel) rfl rfl (Nat.le_of_ble_eq_true rfl) dX1_init_26 (fun H locs hP hD hS => ?_)
  have hP : va_P (dC, dI) vwCl [(h2, .inr (1, [.ref q_7, .ref q_15, .ref q_24, .null, .int 0, .int 0, .int 0, .int 0])), (q_7, .inl (cA_7, 40, .inl (fun _ => 0))), (q_15, .inl (cA_7, 40, .inl (fun _ => 0))), (q_24, .inl (cA_7, 200, .inl (fun _ => 0)))] H := hP
  have hD : va_D A [(h2, .inr (1, [.ref q_7, .ref q_15, .ref q_24, .null, .int 0, .int 0, .int 0, .int 0])), (q_7, .inl (cA_7, 40, .inl (fun _ => 0))), (q_15, .inl (cA_7, 40, .inl (fun _ => 0))), (q_24, .inl (cA_7, 200, .inl (fun _ => 0)))] := hD
  refine lv_aload_n hx hb dX1_init_29 rfl (lv_at hl 0 rfl) ?_
  refine lv_sipush (v := 200) hx hb dX1_init_30 (by decide) ?_
  refine va_newa (a0 := (200, .inl (fun _ => 0))) (N' := 200) (atype := .int) (ty := .int) hx hb (hts (.arrayClass .int) (by decide +kernel)) rfl hK hP hD hS hA (fun cA => vp_cell_i cA 200 (fun _ => 0)) (by decide) (by decide) (show 200 * 4 ≤ 536870912 by omega) (Nat.le_of_ble_eq_true rfl) (Nat.le_of_ble_eq_true rfl) dX1_init_33 (fun q_33 cA_33 H hK hP hD hS => ?_)
  obtain rfl : cA_7 = cA_33 := z_sameA hK
  have hK := hK.sub (tys' := [(cA_7, .int)]) [0] rfl
  have hP : va_P (dC, dI) vwCl [(h2, .inr (1, [.ref q_7, .ref q_15, .ref q_24, .null, .int 0, .int 0, .int 0, .int 0])), (q_7, .inl (cA_7, 40, .inl (fun _ => 0))), (q_15, .inl (cA_7, 40, .inl (fun _ => 0))), (q_24, .inl (cA_7, 200, .inl (fun _ => 0))), (q_33, .inl (cA_7, 200, .inl (fun _ => 0)))] H := hP
  have hD : va_D A [(h2, .inr (1, [.ref q_7, .ref q_15, .ref q_24, .null, .int 0, .int 0, .int 0, .int 0])), (q_7, .inl (cA_7, 40, .inl (fun _ => 0))), (q_15, .inl (cA_7, 40, .inl (fun _ => 0))), (q_24, .inl (cA_7, 200, .inl (fun _ => 0))), (q_33, .inl (cA_7, 200, .inl (fun _ => 0)))] := hD
  refine va_putF (D := (dC, dI)) (ci := 1) (v := .ref q_33) (ty := .array .int) (C := RX1) (T := TX1) (N := 8) hx hb hts (by decide +kernel) tyX1 tyX1_ok nmX1 hown hK hP hD hS 0 rfl rfl 3 (by decide) (hts (.fieldLink RX1 21 "CountedOut$Ring" "loggedAhead" "[I") (by decide +kernel)) (fun _ h9 => h9) rfl hin rfl (by decide +kernel) rfl rfl (Nat.le_of_ble_eq_true rfl) dX1_init_35 (fun H locs hP hD hS => ?_)
  have hP : va_P (dC, dI) vwCl [(h2, .inr (1, [.ref q_7, .ref q_15, .ref q_24, .ref q_33, .int 0, .int 0, .int 0, .int 0])), (q_7, .inl (cA_7, 40, .inl (fun _ => 0))), (q_15, .inl (cA_7, 40, .inl (fun _ => 0))), (q_24, .inl (cA_7, 200, .inl (fun _ => 0))), (q_33, .inl (cA_7, 200, .inl (fun _ => 0)))] H := hP
  have hD : va_D A [(h2, .inr (1, [.ref q_7, .ref q_15, .ref q_24, .ref q_33, .int 0, .int 0, .int 0, .int 0])), (q_7, .inl (cA_7, 40, .inl (fun _ => 0))), (q_15, .inl (cA_7, 40, .inl (fun _ => 0))), (q_24, .inl (cA_7, 200, .inl (fun _ => 0))), (q_33, .inl (cA_7, 200, .inl (fun _ => 0)))] := hD
  refine lv_aload_n hx hb dX1_init_38 rfl (lv_at hl 0 rfl) ?_
  refine lv_bipush (v := 10) hx hb dX1_init_39 (by decide) ?_
  have hPc := hP.sub (ws' := [(h2, .inr (1, [.ref q_7, .ref q_15, .ref q_24, .ref q_33, .int 0, .int 0, .int 0, .int 0])), (q_7, .inl (cA_7, 40, .inl (fun _ => 0))), (q_15, .inl (cA_7, 40, .inl (fun _ => 0)))]) [0, 1, 2] rfl
  have hDc := hD.sub (ws' := [(h2, .inr (1, [.ref q_7, .ref q_15, .ref q_24, .ref q_33, .int 0, .int 0, .int 0, .int 0])), (q_7, .inl (cA_7, 40, .inl (fun _ => 0))), (q_15, .inl (cA_7, 40, .inl (fun _ => 0)))]) [0, 1, 2] (by decide) rfl
  have hFc := va_free (wc := [(h2, .inr (1, [.ref q_7, .ref q_15, .ref q_24, .ref q_33, .int 0, .int 0, .int 0, .int 0])), (q_7, .inl (cA_7, 40, .inl (fun _ => 0))), (q_15, .inl (cA_7, 40, .inl (fun _ => 0)))]) hD hS hA [0, 1, 2] rfl
  refine va_callv (va_runV (As := [.int 10]) (rest := []) ⟨hx, hb, hml, hown, hts⟩ (c_X1_begin l dC dI H.size cA_7 h2 q_7 q_15 q_24 q_33 10 (by decide) (by decide) 0 0 0 0 (fun _ => 0) (fun _ => 0)) (cwV 1 hts gX1_init_X1_begin rfl rfl rfl (by decide +kernel) ⟨Nat.le_of_ble_eq_true rfl, Nat.le_of_ble_eq_true rfl⟩) ⟨fun a U g mk q => by obtain ⟨q0, q1, qP, qK, qD⟩ := q; exact ⟨q0, q1, qP, va_K.moved (u := U) (U := U.calling g mk a) (Vm.Alike.refl U.vm) qK, qD⟩, va_recv hK hP (ci := 1) (q0 := 0) rfl rfl, fun U hU hW => ⟨rfl, by rw [hU], by rw [hU]; exact hPc, va_K.moved hW.alike hK, hDc.weaken (fun _ _ _ _ => trivial)⟩⟩ rfl rfl hl.1 rfl (lv_room (Nat.le_of_ble_eq_true rfl)) dX1_init_41 ⟨Nat.le_of_ble_eq_true rfl, Nat.le_of_ble_eq_true rfl⟩) hS (fun q _ h => hFc q h) hFc (fun u_41 t_41 H1 locs ht_41 hvm_41 hw_41 hB_41 hz1 hk1 hS => ?_)
  obtain ⟨V, U⟩ := u_41
  obtain ⟨hP1, hK1, hD1⟩ := hB_41
  rw [ht_41] at hP1
  have hP1 : va_P (dC, dI) vwCl [(h2, .inr (1, [.ref q_7, .ref q_15, .ref q_24, .ref q_33, .int (nI 10), .int (nI (bc (alv (fun _ => 1)) 10)), .int (nI 0), .int (nI ([] : List (Nat × Nat)).length)])), (q_7, .inl (cA_7, 40, .inl V)), (q_15, .inl (cA_7, 40, .inl U))] H1 := by rw [all1]; exact hP1
  have hD1 : va_D (va_A [(h2, .inr (1, [.ref q_7, .ref q_15, .ref q_24, .ref q_33, .int 0, .int 0, .int 0, .int 0])), (q_7, .inl (cA_7, 40, .inl (fun _ => 0))), (q_15, .inl (cA_7, 40, .inl (fun _ => 0)))] H.size) [(h2, .inr (1, [.ref q_7, .ref q_15, .ref q_24, .ref q_33, .int (nI 10), .int (nI (bc (alv (fun _ => 1)) 10)), .int (nI 0), .int (nI ([] : List (Nat × Nat)).length)])), (q_7, .inl (cA_7, 40, .inl V)), (q_15, .inl (cA_7, 40, .inl U))] := by rw [all1]; exact hD1
  obtain ⟨hP, hD⟩ := va_join (wr := [(q_24, .inl (cA_7, 200, .inl (fun _ => 0))), (q_33, .inl (cA_7, 200, .inl (fun _ => 0)))]) (w1 := [(h2, .inr (1, [.ref q_7, .ref q_15, .ref q_24, .ref q_33, .int (nI 10), .int (nI (bc (alv (fun _ => 1)) 10)), .int (nI 0), .int (nI ([] : List (Nat × Nat)).length)])), (q_7, .inl (cA_7, 40, .inl V)), (q_15, .inl (cA_7, 40, .inl U))]) hP hD [0, 1, 2] [3, 4] rfl rfl (by decide) (by decide) hk1 hFc hP1 hD1
  generalize H1 = H at hP hS ⊢
  have hP := hP.sub (ws' := [(h2, .inr (1, [.ref q_7, .ref q_15, .ref q_24, .ref q_33, .int (nI 10), .int (nI (bc (alv (fun _ => 1)) 10)), .int (nI 0), .int (nI ([] : List (Nat × Nat)).length)])), (q_7, .inl (cA_7, 40, .inl V)), (q_15, .inl (cA_7, 40, .inl U)), (q_24, .inl (cA_7, 200, .inl (fun _ => 0))), (q_33, .inl (cA_7, 200, .inl (fun _ => 0)))]) [2, 3, 4, 0, 1] rfl
  have hD := hD.sub (ws' := [(h2, .inr (1, [.ref q_7, .ref q_15, .ref q_24, .ref q_33, .int (nI 10), .int (nI (bc (alv (fun _ => 1)) 10)), .int (nI 0), .int (nI ([] : List (Nat × Nat)).length)])), (q_7, .inl (cA_7, 40, .inl V)), (q_15, .inl (cA_7, 40, .inl U)), (q_24, .inl (cA_7, 200, .inl (fun _ => 0))), (q_33, .inl (cA_7, 200, .inl (fun _ => 0)))]) [2, 3, 4, 0, 1] (by decide) rfl
  have hP9 := hP.sub (ws' := [(h2, .inr (1, [.ref q_7, .ref q_15, .ref q_24, .ref q_33, .int (nI 10), .int (nI (bc (alv (fun _ => 1)) 10)), .int (nI 0), .int (nI ([] : List (Nat × Nat)).length)])), (q_7, .inl (cA_7, 40, .inl V)), (q_15, .inl (cA_7, 40, .inl U)), (q_24, .inl (cA_7, 200, .inl (fun _ => 0))), (q_33, .inl (cA_7, 200, .inl (fun _ => 0)))]) [0, 1, 2, 3, 4] rfl
  have hD9 := hD.sub (ws' := [(h2, .inr (1, [.ref q_7, .ref q_15, .ref q_24, .ref q_33, .int (nI 10), .int (nI (bc (alv (fun _ => 1)) 10)), .int (nI 0), .int (nI ([] : List (Nat × Nat)).length)])), (q_7, .inl (cA_7, 40, .inl V)), (q_15, .inl (cA_7, 40, .inl U)), (q_24, .inl (cA_7, 200, .inl (fun _ => 0))), (q_33, .inl (cA_7, 200, .inl (fun _ => 0)))]) [0, 1, 2, 3, 4] (by decide) rfl
  refine W.widen (k := 4) (n := 480) (by omega) (by omega) ?_
  exact W.vret hx hb hr (fun t ht hW => ⟨⟨(q_7, q_15, q_24, q_33, cA_7, V, U), rfl, hw_41, ⟨by rw [ht]; exact hP9, va_K.moved hW.alike hK, hD9⟩⟩, hS.F ht⟩) hS.2.2 dX1_init_44
