set_option maxHeartbeats 4000000 in
set_option maxRecDepth 100000 in
theorem c_X0_init (l : Launch) (dC : Nat → ClassId) (dI : Nat → Nat → Nat) (sz : Nat) (h1 : Nat) : Met l yX0_init wsX0_init ({ frames := 1, cells := 1, slots := 8, locals := 12 }) (va_Pc [.ref h1] (fun U => U.heap.size = sz ∧ va_P (dC, dI) vwCl [(h1, .inr (0, [.null, .int 0, .int 0, .int 0]))] U.heap ∧ va_K (dC, dI) vwCl [] U ∧ va_D (fun _ => True) [(h1, .inr (0, [.null, .int 0, .int 0, .int 0]))])) (va_Qv (S := Nat × ClassId) (fun _ => True) (fun (u : Nat × ClassId) (t : State) => va_P (dC, dI) vwCl [(h1, .inr (0, [.ref u.1, .int 1, .int 3, .int 0])), (u.1, .inl (u.2, 8, .inl (upd (fun _ => 0) 0 3)))] t.heap ∧ va_K (dC, dI) vwCl [(u.2, .int)] t ∧ va_D (va_A [(h1, .inr (0, [.null, .int 0, .int 0, .int 0]))] sz) [(h1, .inr (0, [.ref u.1, .int 1, .int 3, .int 0])), (u.1, .inl (u.2, 8, .inl (upd (fun _ => 0) 0 3)))]) (va_A [(h1, .inr (0, [.null, .int 0, .int 0, .int 0]))] sz)) 1 8 (va_A [(h1, .inr (0, [.null, .int 0, .int 0, .int 0]))] sz) := by
  refine Met.ofW (cc := cX0_init) (maxL := 1) (ret := none) (by decide) rfl ?_
  intro p e s m args below meth c s₁ B hml hv
  obtain ⟨rfl, hsz, hP, hK, hD0⟩ := hv
  have hx := B.exec
  have hb := B.bytes
  have hr := B.returns
  have hts := atoms_spec (ws := wsX0_init) B.pre
  have hown : s.vm.findClass RX0 = some m.cls := findClass_of_methodNamed B.named
  have hlocks := B.notSynchronized
  have hin : meth.name = "<init>" := (name_of_methodNamed B.named B.method).1
  subst hsz
  have hD := hD0.self (sz := s.heap.size)
  generalize hAe : va_A [(h1, .inr (0, [.null, .int 0, .int 0, .int 0]))] s.heap.size = A at hD ⊢
  have hA : ∀ q : Nat, s.heap.size ≤ q → A q := fun q h => by rw [← hAe]; exact Or.inr h
  have hS : va_S A s.heap s.heap [] := va_S.rf
  have hP : va_P (dC, dI) vwCl [(h1, .inr (0, [.null, .int 0, .int 0, .int 0]))] s.heap := hP
  have hl := lv_entry ([.ref h1]) (n := 1) (Nat.le_of_ble_eq_true rfl)
  rw [lg_entry_eq]
  generalize (lg_sl ([.ref h1]) ++ List.replicate (1 - (lg_sl ([.ref h1])).length) Slot.unset).toArray = ls at hl ⊢
  have hl : lv_has ls 1 [(0, .ref h1)] := hl
  refine lv_aload_n hx hb dX0_init_0 rfl (lv_at hl 0 rfl) ?_
  refine W.objInit hx hb hown (hts (.methodLink RX0 3 objectInit) (by decide +kernel)) (hts (.instanceMethod objectInit) (by decide +kernel)) (hts _ (List.mem_cons_of_mem _ (List.mem_append_left _ (List.mem_of_getElem? (i := 2) rfl)))) rfl (by rw [hml]; exact hl.1) rfl dX0_init_1 (Nat.le_of_ble_eq_true rfl) (Nat.le_of_ble_eq_true rfl) ?_
  refine W.eq (g2 := F0 m 4 ls []) rfl ?_
  refine lv_aload_n hx hb dX0_init_4 rfl (lv_at hl 0 rfl) ?_
  refine lv_bipush (v := 8) hx hb dX0_init_5 (by decide) ?_
  refine va_newa (a0 := (8, .inl (fun _ => 0))) (N' := 8) (atype := .int) (ty := .int) hx hb (hts (.arrayClass .int) (by decide +kernel)) rfl hK hP hD hS hA (fun cA => vp_cell_i cA 8 (fun _ => 0)) (by decide) (by decide) (show 8 * 4 ≤ 536870912 by omega) (Nat.le_of_ble_eq_true rfl) (Nat.le_of_ble_eq_true rfl) dX0_init_7 (fun q_7 cA_7 H hK hP hD hS => ?_)
  have hK : va_K (dC, dI) vwCl [(cA_7, .int)] s := hK
  have hP : va_P (dC, dI) vwCl [(h1, .inr (0, [.null, .int 0, .int 0, .int 0])), (q_7, .inl (cA_7, 8, .inl (fun _ => 0)))] H := hP
  have hD : va_D A [(h1, .inr (0, [.null, .int 0, .int 0, .int 0])), (q_7, .inl (cA_7, 8, .inl (fun _ => 0)))] := hD
  refine va_putF (D := (dC, dI)) (ci := 0) (v := .ref q_7) (ty := .array .int) (C := RX0) (T := TX0) (N := 4) hx hb hts (by decide +kernel) tyX0 tyX0_ok nmX0 hown hK hP hD hS 0 rfl rfl 0 (by decide) (hts (.fieldLink RX0 9 "CountedOut$Counts" "wordRow" "[I") (by decide +kernel)) (fun _ h9 => h9) rfl hin rfl (by decide +kernel) rfl rfl (Nat.le_of_ble_eq_true rfl) dX0_init_9 (fun H locs hP hD hS => ?_)
  have hP : va_P (dC, dI) vwCl [(h1, .inr (0, [.ref q_7, .int 0, .int 0, .int 0])), (q_7, .inl (cA_7, 8, .inl (fun _ => 0)))] H := hP
  have hD : va_D A [(h1, .inr (0, [.ref q_7, .int 0, .int 0, .int 0])), (q_7, .inl (cA_7, 8, .inl (fun _ => 0)))] := hD
  refine lv_aload_n hx hb dX0_init_12 rfl (lv_at hl 0 rfl) ?_
  refine va_get (D := (dC, dI)) (ci := 0) (v := .ref q_7) (C := RX0) (T := TX0) (N := 4) hx hb hts (by decide +kernel) hown hK hP 0 rfl rfl 0 (by decide) (hts (.fieldLink RX0 9 "CountedOut$Counts" "wordRow" "[I") (by decide +kernel)) (fun _ h9 => h9) rfl dX0_init_13 ?_
  refine lv_iconst (v := 0) hx hb dX0_init_16 (by decide) ?_
  refine lv_iconst (v := 3) hx hb dX0_init_17 (by decide) ?_
  refine z_iast hx hb hK hP hD hS 1 0 rfl rfl (i := 0) (by decide) (by decide) dX0_init_18 (fun H locs hP hD hS => ?_)
  have hP : va_P (dC, dI) vwCl [(h1, .inr (0, [.ref q_7, .int 0, .int 0, .int 0])), (q_7, .inl (cA_7, 8, .inl (upd (fun _ => 0) 0 3)))] H := hP
  have hD : va_D A [(h1, .inr (0, [.ref q_7, .int 0, .int 0, .int 0])), (q_7, .inl (cA_7, 8, .inl (upd (fun _ => 0) 0 3)))] := hD
  refine lv_aload_n hx hb dX0_init_19 rfl (lv_at hl 0 rfl) ?_
  refine lv_iconst (v := 1) hx hb dX0_init_20 (by decide) ?_
  refine va_put (D := (dC, dI)) (ci := 0) (v := .int 1) (ty := .int) (C := RX0) (T := TX0) (N := 4) hx hb hts (by decide +kernel) tyX0 tyX0_ok nmX0 hown hK hP hD hS 0 rfl rfl 1 (by decide) (hts (.fieldLink RX0 15 "CountedOut$Counts" "wordCount" "I") (by decide +kernel)) (fun _ h9 => h9) rfl (by decide +kernel) rfl rfl (Nat.le_of_ble_eq_true rfl) dX0_init_21 (fun H locs hP hD hS => ?_)
  have hP : va_P (dC, dI) vwCl [(h1, .inr (0, [.ref q_7, .int 1, .int 0, .int 0])), (q_7, .inl (cA_7, 8, .inl (upd (fun _ => 0) 0 3)))] H := hP
  have hD : va_D A [(h1, .inr (0, [.ref q_7, .int 1, .int 0, .int 0])), (q_7, .inl (cA_7, 8, .inl (upd (fun _ => 0) 0 3)))] := hD
  refine lv_aload_n hx hb dX0_init_24 rfl (lv_at hl 0 rfl) ?_
  refine lv_iconst (v := 3) hx hb dX0_init_25 (by decide) ?_
  refine va_put (D := (dC, dI)) (ci := 0) (v := .int 3) (ty := .int) (C := RX0) (T := TX0) (N := 4) hx hb hts (by decide +kernel) tyX0 tyX0_ok nmX0 hown hK hP hD hS 0 rfl rfl 2 (by decide) (hts (.fieldLink RX0 19 "CountedOut$Counts" "step" "I") (by decide +kernel)) (fun _ h9 => h9) rfl (by decide +kernel) rfl rfl (Nat.le_of_ble_eq_true rfl) dX0_init_26 (fun H locs hP hD hS => ?_)
  have hP : va_P (dC, dI) vwCl [(h1, .inr (0, [.ref q_7, .int 1, .int 3, .int 0])), (q_7, .inl (cA_7, 8, .inl (upd (fun _ => 0) 0 3)))] H := hP
  have hD : va_D A [(h1, .inr (0, [.ref q_7, .int 1, .int 3, .int 0])), (q_7, .inl (cA_7, 8, .inl (upd (fun _ => 0) 0 3)))] := hD
  refine lv_aload_n hx hb dX0_init_29 rfl (lv_at hl 0 rfl) ?_
  refine lv_iconst (v := 0) hx hb dX0_init_30 (by decide) ?_
  refine va_put (D := (dC, dI)) (ci := 0) (v := .int 0) (ty := .int) (C := RX0) (T := TX0) (N := 4) hx hb hts (by decide +kernel) tyX0 tyX0_ok nmX0 hown hK hP hD hS 0 rfl rfl 3 (by decide) (hts (.fieldLink RX0 22 "CountedOut$Counts" "kind" "I") (by decide +kernel)) (fun _ h9 => h9) rfl (by decide +kernel) rfl rfl (Nat.le_of_ble_eq_true rfl) dX0_init_31 (fun H locs hP hD hS => ?_)
  have hP : va_P (dC, dI) vwCl [(h1, .inr (0, [.ref q_7, .int 1, .int 3, .int 0])), (q_7, .inl (cA_7, 8, .inl (upd (fun _ => 0) 0 3)))] H := hP
  have hD : va_D A [(h1, .inr (0, [.ref q_7, .int 1, .int 3, .int 0])), (q_7, .inl (cA_7, 8, .inl (upd (fun _ => 0) 0 3)))] := hD
  have hP9 := hP.sub (ws' := [(h1, .inr (0, [.ref q_7, .int 1, .int 3, .int 0])), (q_7, .inl (cA_7, 8, .inl (upd (fun _ => 0) 0 3)))]) [0, 1] rfl
  have hD9 := hD.sub (ws' := [(h1, .inr (0, [.ref q_7, .int 1, .int 3, .int 0])), (q_7, .inl (cA_7, 8, .inl (upd (fun _ => 0) 0 3)))]) [0, 1] (by decide) rfl
  refine W.widen (k := 1) (n := 8) (by omega) (by omega) ?_
  exact W.vret hx hb hr (fun t ht hW => ⟨⟨(q_7, cA_7), rfl, trivial, ⟨by rw [ht]; exact hP9, va_K.moved hW.alike hK, hD9⟩⟩, hS.F ht⟩) hS.2.2 dX0_init_34
