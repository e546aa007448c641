theorem cr_1 : CR 1 (fun _ => 3) (upd (fun _ => 0) 0 3) := by
  intro i hi
  obtain rfl : i = 0 := by omega
  exact pk_us
set_option maxHeartbeats 4000000 in
set_option maxRecDepth 100000 in
/-- THE LAW, from its entry -/
theorem whole_start {p : Program} {e : Env} {s : State} {m : MethodId} {below : List Frame} {meth : Method} {c : Code} (l : Launch) {b L : Nat} {xs : Nat → Int32} (hL : L ≤ 3584) (C0 : lw_At p s m meth c b L xs) : W p l e room_1 s m #[Value.ref b] below meth c s.heap [] 0 0 (lw_Z below #[Value.ref b] s) (entryFrame m ([Value.ref b] : List Value).toArray 4) := by
  obtain ⟨hx, hb, hr, hml, hown0, hts0, hX, hbl, hlocks, hgv⟩ := id C0
  have hts : ∀ w ∈ wsL_law, w.before #[Value.ref b] s = true := fun w h => hts0 w (wsL_law_in w h)
  have hown : s.vm.findClass RL = some m.cls := hown0
  obtain ⟨A, hAe⟩ : ∃ A : Nat → Prop, A = fun q => s.heap.size ≤ q := ⟨_, rfl⟩
  have hA : ∀ q : Nat, s.heap.size ≤ q → A q := fun q h => by rw [hAe]; exact h
  have hA2 : ∀ q : Nat, A q → s.heap.size ≤ q := fun q h => by rw [hAe] at h; exact h
  have hAn : ∀ q : Nat, q < s.heap.size → ¬ A q := fun q h h2 => absurd (hA2 q h2) (Nat.not_le.mpr h)
  obtain ⟨c0, iS0, hKn0⟩ := u_known (C := RX0) (T := TX0) (N := 4) (n := 4) hts inlX0 (hts (.instantiable RX0 4) (by decide +kernel))
  obtain ⟨c1, iS1, hKn1⟩ := u_known (C := RX1) (T := TX1) (N := 8) (n := 8) hts inlX1 (hts (.instantiable RX1 8) (by decide +kernel))
  obtain ⟨c2, iS2, hKn2⟩ := u_known (C := RX2) (T := TX2) (N := 3) (n := 3) hts inlX2 (hts (.instantiable RX2 3) (by decide +kernel))
  obtain ⟨c3, iS3, hKn3⟩ := u_known (C := RX3) (T := TX3) (N := 17) (n := 17) hts inlX3 (hts (.instantiable RX3 17) (by decide +kernel))
  obtain ⟨dC, dI, hKc⟩ : ∃ (dC : Nat → ClassId) (dI : Nat → Nat → Nat), ∀ (k : Nat) (q : vw_C), vwCl[k]? = some q → u_Kn s q.1 q.2.1 q.2.2 (dC k) (dI k) := by
    refine ⟨fun k => if k = 0 then c0 else if k = 1 then c1 else if k = 2 then c2 else c3, fun k => if k = 0 then iS0 else if k = 1 then iS1 else if k = 2 then iS2 else iS3, ?_⟩
    intro k q hq
    match k, hq with
    | 0, hq => cases hq; exact hKn0
    | 1, hq => cases hq; exact hKn1
    | 2, hq => cases hq; exact hKn2
    | 3, hq => cases hq; exact hKn3
    | k + 4, hq => simp [vwCl] at hq
  have hs := flat_of_before _ hgv
  have t0 : (Term.elem (.static "CountedOut$Counts" "TOLLS" "[I") (.int 0)).eval #[Value.ref b] s none [] s = some (.int 1) := va_eqt (hs _ (by decide +kernel))
  have t1 : (Term.elem (.static "CountedOut$Counts" "TOLLS" "[I") (.int 1)).eval #[Value.ref b] s none [] s = some (.int 11) := va_eqt (hs _ (by decide +kernel))
  have t2 : (Term.elem (.static "CountedOut$Counts" "TOLLS" "[I") (.int 2)).eval #[Value.ref b] s none [] s = some (.int 111) := va_eqt (hs _ (by decide +kernel))
  have tn : (Term.length (.static "CountedOut$Counts" "TOLLS" "[I")).eval #[Value.ref b] s none [] s = some (.int 3) := va_eqt (hs _ (by decide +kernel))
  have ta : (Cond.arrayOf (.static "CountedOut$Counts" "TOLLS" "[I") .int).before #[Value.ref b] s = true := hs _ (by decide +kernel)
  obtain ⟨tt, hv, hT⟩ := va_Tof (N := 3) (f := fun j => .int (tollN j)) (A := A) (by decide) ta tn (fun j hj => by
    rcases (show j = 0 ∨ j = 1 ∨ j = 2 by omega) with rfl | rfl | rfl
    · exact t0
    · exact t1
    · exact t2) hAn
  have hZ := va_Zref (A := A) (hts0 (.laysStatic "CountedOut$Counts" "TOLLS" "[I") (by decide +kernel)) (hts0 (.initialized "CountedOut$Counts") (by decide +kernel)) hv hAn
  have hS : va_S A s.heap s.heap [] := va_S.rf
  have hK : va_K (dC, dI) vwCl [] s := ⟨hKc, fun k q h => by simp at h⟩
  have hP : va_P (dC, dI) vwCl [] s.heap := fun k q h => by simp at h
  have hD : va_D A [] := ⟨fun i j p q h => by simp at h, fun k q h => by simp at h⟩
  have hl := lv_entry ([.ref b]) (n := 4) (Nat.le_of_ble_eq_true rfl)
  rw [lg_entry_eq]
  generalize (lg_sl ([.ref b]) ++ List.replicate (4 - (lg_sl ([.ref b])).length) Slot.unset).toArray = ls at hl ⊢
  have hl : lv_has ls 4 [(0, .ref b)] := hl
  refine va_new (ci := 2) (fs := [.null, .null, .long 0]) (C := RX2) (T := TX2) (N := 3) hx hb hts inlX2 tyX2 tyX2_ok hown (hts (.classLink RL 7 RX2) (by decide +kernel)) (hts (.instantiable RX2 3) (by decide +kernel)) (hts (.initialized RX2) (by decide +kernel)) hK hP hD hS hA rfl (fun j hj => by rcases (show j = 0 ∨ j = 1 ∨ j = 2 by omega) with rfl | rfl | rfl <;> rfl) (Nat.le_of_ble_eq_true rfl) (Nat.le_of_ble_eq_true rfl) dL_law_0 (fun q_0 H hP hD hS => ?_)
  have hP : va_P (dC, dI) vwCl [(q_0, .inr (2, [.null, .null, .long 0]))] H := hP
  have hD : va_D A [(q_0, .inr (2, [.null, .null, .long 0]))] := hD
  refine lv_dup hx hb dL_law_3 rfl ?_
  have hPc := hP.sub (ws' := [(q_0, .inr (2, [.null, .null, .long 0]))]) [0] rfl
  have hDc := hD.sub (ws' := [(q_0, .inr (2, [.null, .null, .long 0]))]) [0] (by decide) rfl
  have hFc := va_free (wc := [(q_0, .inr (2, [.null, .null, .long 0]))]) hD hS hA [0] rfl
  refine va_callv (va_runI (As := []) (rest := [.ref q_0]) ⟨hx, hb, hml, hown, hts⟩ (c_X2_init l dC dI H.size q_0) (cwI 0 hts gL_law_X2_init rfl rfl rfl (hts (.initialized RX2) (by decide +kernel)) (hts (.methodLink RL 9 yX2_init) (by decide +kernel)) (hts (.instanceMethod yX2_init) (by decide +kernel)) rfl (by decide +kernel) ⟨Nat.le_of_ble_eq_true rfl, Nat.le_of_ble_eq_true rfl⟩) ⟨fun a U g mk q => by obtain ⟨q0, q1, qP, qK, qD⟩ := q; exact ⟨q0, q1, qP, va_K.moved (u := U) (U := U.calling g mk a) (Vm.Alike.refl U.vm) qK, qD⟩, fun U hU hW => ⟨rfl, by rw [hU], by rw [hU]; exact hPc, va_K.moved hW.alike (hK.sub (tys' := []) [] rfl), hDc.weaken (fun _ _ _ _ => trivial)⟩⟩ rfl rfl hl.1 rfl (lv_room (Nat.le_of_ble_eq_true rfl)) dL_law_4 ⟨Nat.le_of_ble_eq_true rfl, Nat.le_of_ble_eq_true rfl⟩) hS (fun q _ h => hFc q h) hFc (fun u_4 t_4 H1 locs ht_4 hvm_4 hw_4 hB_4 hz1 hk1 hS => ?_)
  obtain ⟨h1, b0, h2, a0, a1, a2, a3, cA, V, U⟩ := u_4
  obtain ⟨hP1, hK1, hD1⟩ := hB_4
  rw [ht_4] at hP1
  obtain ⟨hP, hD⟩ := va_join (wr := []) (w1 := [(q_0, .inr (2, [.ref h1, .ref h2, .long 0])), (h1, .inr (0, [.ref b0, .int 1, .int 3, .int 0])), (b0, .inl (cA, 8, .inl (upd (fun _ => 0) 0 3))), (h2, .inr (1, [.ref a0, .ref a1, .ref a2, .ref a3, .int (nI 10), .int (nI (bc (alv (fun _ => 1)) 10)), .int (nI 0), .int (nI ([] : List (Nat × Nat)).length)])), (a0, .inl (cA, 40, .inl V)), (a1, .inl (cA, 40, .inl U)), (a2, .inl (cA, 200, .inl (fun _ => 0))), (a3, .inl (cA, 200, .inl (fun _ => 0)))]) hP hD [0] [] rfl rfl (by decide) (by decide) hk1 hFc hP1 hD1
  generalize H1 = H at hP hS ⊢
  have hP := hP.sub (ws' := [(q_0, .inr (2, [.ref h1, .ref h2, .long 0])), (h1, .inr (0, [.ref b0, .int 1, .int 3, .int 0])), (b0, .inl (cA, 8, .inl (upd (fun _ => 0) 0 3))), (h2, .inr (1, [.ref a0, .ref a1, .ref a2, .ref a3, .int (nI 10), .int (nI (bc (alv (fun _ => 1)) 10)), .int (nI 0), .int (nI ([] : List (Nat × Nat)).length)])), (a0, .inl (cA, 40, .inl V)), (a1, .inl (cA, 40, .inl U)), (a2, .inl (cA, 200, .inl (fun _ => 0))), (a3, .inl (cA, 200, .inl (fun _ => 0)))]) [0, 1, 2, 3, 4, 5, 6, 7] rfl
  have hD := hD.sub (ws' := [(q_0, .inr (2, [.ref h1, .ref h2, .long 0])), (h1, .inr (0, [.ref b0, .int 1, .int 3, .int 0])), (b0, .inl (cA, 8, .inl (upd (fun _ => 0) 0 3))), (h2, .inr (1, [.ref a0, .ref a1, .ref a2, .ref a3, .int (nI 10), .int (nI (bc (alv (fun _ => 1)) 10)), .int (nI 0), .int (nI ([] : List (Nat × Nat)).length)])), (a0, .inl (cA, 40, .inl V)), (a1, .inl (cA, 40, .inl U)), (a2, .inl (cA, 200, .inl (fun _ => 0))), (a3, .inl (cA, 200, .inl (fun _ => 0)))]) [0, 1, 2, 3, 4, 5, 6, 7] (by decide) rfl
  have hK := va_K.moved hvm_4.symm hK1
  refine lv_astore_n (lv' := [(1, .ref q_0), (0, .ref b)]) hx hb dL_law_7 rfl hl (by decide) rfl (fun ls hl => ?_)
  refine va_new (ci := 3) (fs := [.int 0, .long 0, .int 0, .null, .null, .null, .int 0, .int 0, .int 0, .null, .int 0, .null, .null, .int 0, .null, .null, .null]) (C := RX3) (T := TX3) (N := 17) hx hb hts inlX3 tyX3 tyX3_ok hown (hts (.classLink RL 10 RX3) (by decide +kernel)) (hts (.instantiable RX3 17) (by decide +kernel)) (hts (.initialized RX3) (by decide +kernel)) hK hP hD hS hA rfl (fun j hj => by rcases (show j = 0 ∨ j = 1 ∨ j = 2 ∨ j = 3 ∨ j = 4 ∨ j = 5 ∨ j = 6 ∨ j = 7 ∨ j = 8 ∨ j = 9 ∨ j = 10 ∨ j = 11 ∨ j = 12 ∨ j = 13 ∨ j = 14 ∨ j = 15 ∨ j = 16 by omega) with rfl | rfl | rfl | rfl | rfl | rfl | rfl | rfl | rfl | rfl | rfl | rfl | rfl | rfl | rfl | rfl | rfl <;> rfl) (Nat.le_of_ble_eq_true rfl) (Nat.le_of_ble_eq_true rfl) dL_law_8 (fun q_8 H hP hD hS => ?_)
  have hP : va_P (dC, dI) vwCl [(q_0, .inr (2, [.ref h1, .ref h2, .long 0])), (h1, .inr (0, [.ref b0, .int 1, .int 3, .int 0])), (b0, .inl (cA, 8, .inl (upd (fun _ => 0) 0 3))), (h2, .inr (1, [.ref a0, .ref a1, .ref a2, .ref a3, .int (nI 10), .int (nI (bc (alv (fun _ => 1)) 10)), .int (nI 0), .int (nI ([] : List (Nat × Nat)).length)])), (a0, .inl (cA, 40, .inl V)), (a1, .inl (cA, 40, .inl U)), (a2, .inl (cA, 200, .inl (fun _ => 0))), (a3, .inl (cA, 200, .inl (fun _ => 0))), (q_8, .inr (3, [.int 0, .long 0, .int 0, .null, .null, .null, .int 0, .int 0, .int 0, .null, .int 0, .null, .null, .int 0, .null, .null, .null]))] H := hP
  have hD : va_D A [(q_0, .inr (2, [.ref h1, .ref h2, .long 0])), (h1, .inr (0, [.ref b0, .int 1, .int 3, .int 0])), (b0, .inl (cA, 8, .inl (upd (fun _ => 0) 0 3))), (h2, .inr (1, [.ref a0, .ref a1, .ref a2, .ref a3, .int (nI 10), .int (nI (bc (alv (fun _ => 1)) 10)), .int (nI 0), .int (nI ([] : List (Nat × Nat)).length)])), (a0, .inl (cA, 40, .inl V)), (a1, .inl (cA, 40, .inl U)), (a2, .inl (cA, 200, .inl (fun _ => 0))), (a3, .inl (cA, 200, .inl (fun _ => 0))), (q_8, .inr (3, [.int 0, .long 0, .int 0, .null, .null, .null, .int 0, .int 0, .int 0, .null, .int 0, .null, .null, .int 0, .null, .null, .null]))] := hD
  refine lv_dup hx hb dL_law_11 rfl ?_
  have hPc := hP.sub (ws' := [(q_8, .inr (3, [.int 0, .long 0, .int 0, .null, .null, .null, .int 0, .int 0, .int 0, .null, .int 0, .null, .null, .int 0, .null, .null, .null]))]) [8] rfl
  have hDc := hD.sub (ws' := [(q_8, .inr (3, [.int 0, .long 0, .int 0, .null, .null, .null, .int 0, .int 0, .int 0, .null, .int 0, .null, .null, .int 0, .null, .null, .null]))]) [8] (by decide) rfl
  have hFc := va_free (wc := [(q_8, .inr (3, [.int 0, .long 0, .int 0, .null, .null, .null, .int 0, .int 0, .int 0, .null, .int 0, .null, .null, .int 0, .null, .null, .null]))]) hD hS hA [8] rfl
  refine va_callv (va_runI (As := []) (rest := [.ref q_8]) ⟨hx, hb, hml, hown, hts⟩ (c_X3_init l dC dI H.size q_8) (cwI 0 hts gL_law_X3_init rfl rfl rfl (hts (.initialized RX3) (by decide +kernel)) (hts (.methodLink RL 12 yX3_init) (by decide +kernel)) (hts (.instanceMethod yX3_init) (by decide +kernel)) rfl (by decide +kernel) ⟨Nat.le_of_ble_eq_true rfl, Nat.le_of_ble_eq_true rfl⟩) ⟨fun a U g mk q => by obtain ⟨q0, q1, qP, qK, qD⟩ := q; exact ⟨q0, q1, qP, va_K.moved (u := U) (U := U.calling g mk a) (Vm.Alike.refl U.vm) qK, qD⟩, fun U hU hW => ⟨rfl, by rw [hU], by rw [hU]; exact hPc, va_K.moved hW.alike (hK.sub (tys' := []) [] rfl), hDc.weaken (fun _ _ _ _ => trivial)⟩⟩ rfl rfl hl.1 rfl (lv_room (Nat.le_of_ble_eq_true rfl)) dL_law_12 ⟨Nat.le_of_ble_eq_true rfl, Nat.le_of_ble_eq_true rfl⟩) hS (fun q _ h => hFc q h) hFc (fun u_12 t_12 H1 locs ht_12 hvm_12 hw_12 hB_12 hz1 hk1 hS => ?_)
  obtain ⟨b3, b4, b5, b9, b11, b12, b14, b15, b16, cB, V2, U2, X2⟩ := u_12
  obtain ⟨hP1, hK1, hD1⟩ := hB_12
  rw [ht_12] at hP1
  obtain ⟨hP, hD⟩ := va_join (wr := [(q_0, .inr (2, [.ref h1, .ref h2, .long 0])), (h1, .inr (0, [.ref b0, .int 1, .int 3, .int 0])), (b0, .inl (cA, 8, .inl (upd (fun _ => 0) 0 3))), (h2, .inr (1, [.ref a0, .ref a1, .ref a2, .ref a3, .int (nI 10), .int (nI (bc (alv (fun _ => 1)) 10)), .int (nI 0), .int (nI ([] : List (Nat × Nat)).length)])), (a0, .inl (cA, 40, .inl V)), (a1, .inl (cA, 40, .inl U)), (a2, .inl (cA, 200, .inl (fun _ => 0))), (a3, .inl (cA, 200, .inl (fun _ => 0)))]) (w1 := [(q_8, .inr (3, [.int 0, .long 0, .int (nI 10), .ref b3, .ref b4, .ref b5, .int 3, .int 0, .int 1, .ref b9, .int (nI ([] : List (Nat × Nat)).length), .ref b11, .ref b12, .int (nI 0), .ref b14, .ref b15, .ref b16])), (b3, .inl (cB, 40, .inl V2)), (b4, .inl (cB, 40, .inl U2)), (b5, .inl (cB, 40, .inl X2)), (b9, .inl (cB, 8, .inl (upd (fun _ => 0) 0 3))), (b11, .inl (cB, 200, .inl (fun _ => 0))), (b12, .inl (cB, 200, .inl (fun _ => 0))), (b14, .inl (cB, 20, .inl (fun _ => 0))), (b15, .inl (cB, 13, .inl (fun _ => 0))), (b16, .inl (cB, 13, .inl (fun _ => 0)))]) hP hD [8] [0, 1, 2, 3, 4, 5, 6, 7] rfl rfl (by decide) (by decide) hk1 hFc hP1 hD1
  generalize H1 = H at hP hS ⊢
  have hP := hP.sub (ws' := [(q_0, .inr (2, [.ref h1, .ref h2, .long 0])), (h1, .inr (0, [.ref b0, .int 1, .int 3, .int 0])), (b0, .inl (cA, 8, .inl (upd (fun _ => 0) 0 3))), (h2, .inr (1, [.ref a0, .ref a1, .ref a2, .ref a3, .int (nI 10), .int (nI (bc (alv (fun _ => 1)) 10)), .int (nI 0), .int (nI ([] : List (Nat × Nat)).length)])), (a0, .inl (cA, 40, .inl V)), (a1, .inl (cA, 40, .inl U)), (a2, .inl (cA, 200, .inl (fun _ => 0))), (a3, .inl (cA, 200, .inl (fun _ => 0))), (q_8, .inr (3, [.int 0, .long 0, .int (nI 10), .ref b3, .ref b4, .ref b5, .int 3, .int 0, .int 1, .ref b9, .int (nI ([] : List (Nat × Nat)).length), .ref b11, .ref b12, .int (nI 0), .ref b14, .ref b15, .ref b16])), (b3, .inl (cB, 40, .inl V2)), (b4, .inl (cB, 40, .inl U2)), (b5, .inl (cB, 40, .inl X2)), (b9, .inl (cB, 8, .inl (upd (fun _ => 0) 0 3))), (b11, .inl (cB, 200, .inl (fun _ => 0))), (b12, .inl (cB, 200, .inl (fun _ => 0))), (b14, .inl (cB, 20, .inl (fun _ => 0))), (b15, .inl (cB, 13, .inl (fun _ => 0))), (b16, .inl (cB, 13, .inl (fun _ => 0)))]) [0, 1, 2, 3, 4, 5, 6, 7, 8, 9, 10, 11, 12, 13, 14, 15, 16, 17] rfl
  have hD := hD.sub (ws' := [(q_0, .inr (2, [.ref h1, .ref h2, .long 0])), (h1, .inr (0, [.ref b0, .int 1, .int 3, .int 0])), (b0, .inl (cA, 8, .inl (upd (fun _ => 0) 0 3))), (h2, .inr (1, [.ref a0, .ref a1, .ref a2, .ref a3, .int (nI 10), .int (nI (bc (alv (fun _ => 1)) 10)), .int (nI 0), .int (nI ([] : List (Nat × Nat)).length)])), (a0, .inl (cA, 40, .inl V)), (a1, .inl (cA, 40, .inl U)), (a2, .inl (cA, 200, .inl (fun _ => 0))), (a3, .inl (cA, 200, .inl (fun _ => 0))), (q_8, .inr (3, [.int 0, .long 0, .int (nI 10), .ref b3, .ref b4, .ref b5, .int 3, .int 0, .int 1, .ref b9, .int (nI ([] : List (Nat × Nat)).length), .ref b11, .ref b12, .int (nI 0), .ref b14, .ref b15, .ref b16])), (b3, .inl (cB, 40, .inl V2)), (b4, .inl (cB, 40, .inl U2)), (b5, .inl (cB, 40, .inl X2)), (b9, .inl (cB, 8, .inl (upd (fun _ => 0) 0 3))), (b11, .inl (cB, 200, .inl (fun _ => 0))), (b12, .inl (cB, 200, .inl (fun _ => 0))), (b14, .inl (cB, 20, .inl (fun _ => 0))), (b15, .inl (cB, 13, .inl (fun _ => 0))), (b16, .inl (cB, 13, .inl (fun _ => 0)))]) [0, 1, 2, 3, 4, 5, 6, 7, 8, 9, 10, 11, 12, 13, 14, 15, 16, 17] (by decide) rfl
  have hK := (hK.sub (tys' := [(cA, .int)]) [0] rfl).app (va_K.moved hvm_12.symm hK1)
  obtain rfl : cA = cB := z_sameA hK
  have hK := hK.sub (tys' := [(cA, .int)]) [0] rfl
  refine lv_astore_n (lv' := [(2, .ref q_8), (1, .ref q_0), (0, .ref b)]) hx hb dL_law_15 rfl hl (by decide) rfl (fun ls hl => ?_)
  refine lv_iconst (v := 0) hx hb dL_law_16 (by decide) ?_
  refine lv_istore_n (lv' := [(3, .int 0), (2, .ref q_8), (1, .ref q_0), (0, .ref b)]) hx hb dL_law_17 rfl hl (by decide) rfl (fun ls hl => ?_)
  exact law_loop (dC := dC) (dI := dI) (cA := cA) hL C0 hA hA2 hZ hT hK ⟨10, (fun _ => 1), ([], (fun _ => 1), (fun _ => 0), 0), 3, 0, 1, (fun _ => 3), 0, V, U, (fun _ => 0), (fun _ => 0), upd (fun _ => 0) 0 3, V2, U2, X2, (fun _ => 0), (fun _ => 0), upd (fun _ => 0) 0 3, (fun _ => 0), (fun _ => 0), (fun _ => 0), GA_new (by decide) (by decide), ⟨by decide, by decide, by decide, by decide, by decide, fun _ _ => ⟨(by decide : 1 ≤ 3), (by decide : 3 ≤ 99)⟩⟩, RA_new hw_4, cr_1, RA_new (fun q hq => (hw_12 q (by omega)).2), (fun q hq => (hw_12 q (by omega)).1), cr_1, lv_sub hl [3, 2, 1, 0] rfl, hP.sub [0, 1, 2, 3, 4, 5, 6, 7, 8, 9, 10, 11, 12, 13, 14, 15, 16, 17] rfl, hD.sub [0, 1, 2, 3, 4, 5, 6, 7, 8, 9, 10, 11, 12, 13, 14, 15, 16, 17] (by decide) rfl, hS⟩
set_option maxHeartbeats 4000000 in
theorem lw_walk (l : Launch) (b : Addr) (xs : List Int32) : MetFree l x (headSpec (Jvm.Cond.code x code maxLocals ret :: tables_1) room_1) (lw_P b xs) (fun _ _ _ _ _ => True) lw_Q := by
  refine MetFree.of_bodyS (code := code) (maxLocals := maxLocals) (ret := ret) (by decide) ?_ ?_
  · intro args s m h hn
    obtain ⟨meth, c, h1, h2, h3, h4, h5, h6, -, -⟩ := Cond.code_spec hn (atoms_spec (ws := Jvm.Cond.code x code maxLocals ret :: tables_1) h _ List.mem_cons_self)
    exact ⟨meth, c, h1, h2, h3, h4, h5, h6⟩
  · intro p e s m args below meth c s₁ B hml0 hP _
    obtain ⟨rfl, hx, hbd, hgv⟩ := hP
    obtain ⟨scr, harrAt, hlist, hof, hsmall⟩ := hx
    obtain ⟨hcb, hkn, -, -⟩ := State.arrayAt?_spec harrAt
    have hown : s.vm.findClass R_law = some m.cls := findClass_of_methodNamed B.named
    have hts0 : ∀ c ∈ (Jvm.Cond.code x code maxLocals ret :: tables_1), c.before #[Value.ref b] s = true := atoms_spec (ws := Jvm.Cond.code x code maxLocals ret :: tables_1) B.pre
    have hts : ∀ w ∈ lw_tbl, w.before #[Value.ref b] s = true := k2_hts_sels lw_privs (fun w hw => hts0 w (List.mem_cons_of_mem _ hw)) lw_privs_ok
    have hml : c.maxLocals = 4 := B.maxLocals_eq (hts0 _ List.mem_cons_self)
    have X₀ : Stand p l e room_1 s m #[Value.ref b] below meth c s₁ [] 0 0 := Stand.of_body B
    have hh0 : s₁.heap = s.heap := by rw [B.state]; rfl
    have hsz : scr.slots.size = xs.length := by rw [← Array.length_toList, hlist, List.length_map]
    have hval : ∀ j : Nat, j < xs.length → scr.slots[j]? = some (.int (xs.getD j 0)) := fun j hj => by
      rw [← Array.getElem?_toList, hlist]
      simp [hj]
    have hbl : b < s.heap.size := (Array.getElem?_eq_some_iff.mp hcb).1
    have hX : va_X b xs.length (fun j => xs.getD j 0) s s.heap := ⟨scr, hcb, hof, hkn, hsz, hval⟩
    have K : W p l e room_1 s m #[Value.ref b] below meth c s₁.heap [] 0 0 (lw_Z below #[Value.ref b] s) (entryFrame m ([Value.ref b] : List Value).toArray 4) := by
      rw [hh0]
      exact whole_start l hbd ⟨B.exec, B.bytes, B.returns, hml, hown, hts, hX, hbl, B.notSynchronized, hgv⟩
    obtain ⟨t, a1, o, b1, b2, b3⟩ := K s₁ rfl X₀
    exact ⟨t, o, a1, b1, b2, b3⟩
theorem lw_pre_spec {args : Array Value} {s : State} (h : (Jvm.Cond.and given_1 narrow_1).before args s = true) (hr : rest_1_c.before args s = true) : ∃ (b : Addr) (xs : List Int32), lw_P b xs args s := by
  have hs := flat_of_before _ h
  have hq := flat_of_before _ hr
  have hc : (Cond.count 1).before args s = true := hs _ (by decide +kernel)
  have harr : (Cond.arrayOf (.arg 0) .int).before args s = true := hs _ (by decide +kernel)
  have hle : (Cond.le (.length (.arg 0)) (.int 3584)).before args s = true := hs _ (by decide +kernel)
  have hlen : (Cond.isInt (.length (.arg 0))).before args s = true := hq _ (by decide +kernel)
  have hall : (Cond.all (.arg 0) (.isInt (.elem (.arg 0) (.index 0)))).before args s = true := hq _ (by decide +kernel)
  obtain ⟨b, xs, hb, hx⟩ := State.ints_of_pre rfl harr hlen hall
  have hsm : xs.length < 2 ^ 31 := hx.choose_spec.2.2.2
  have hev : (Term.length (.arg 0)).eval args s none [] s = some (.int xs.length.toInt32) := hx.length_eval hb
  have hv := Cond.le_ints hev (show (Term.int 3584).eval args s none [] s = some (.int 3584) from rfl)
  have hd : xs.length.toInt32 ≤ 3584 := by
    simpa [Cond.before, Cond.holds, hv] using hle
  have hN : xs.length ≤ 3584 := (Int32.ofNat_le_ofNat hsm (by decide)).mp (show Int32.ofNat xs.length ≤ Int32.ofNat 3584 from hd)
  exact ⟨b, xs, Cond.one_arg hc (show args[0]? = some (.ref b) from hb), hx, hN, h⟩
theorem lw_comes (l : Launch) : Comes l x (Jvm.Cond.code x code maxLocals ret :: tables_1) room_1 (fun tb e args s => Calls_1 tb e args s ∧ rest_1 tb e args s ∧ Pre_1 tb e args s)
    (fun _ _ args s o t => lw_Q args s o t) := by
  intro p e ha hc hk s m args below hf hfit hheap happ hpre
  obtain ⟨b, xs, hP⟩ := lw_pre_spec hpre.2.2 hpre.2.1
  obtain ⟨k, o, h1, h2, h3, hQ⟩ := lw_walk l b xs p e ha hc hk s m args below hf ((Spec.applies_iff_loose hf).mp happ).1 hP trivial
  exact ⟨k, o, h1, h2, h3, hQ⟩
theorem lw_frame {s t : State} {o : Outcome} {args : Array Value} (h : Framed s o t [] 18 1094) :
    Framed s o t (fieldLocs frame_1_writes args s ++ arrayLocs frame_1_arrays args s ++ staticLocs frame_1_statics s) 18 1094 := h
theorem lw_limb (L : Cond) (hL : ∀ (args : Array Value) (s t : State), L.after args s (.returned (some (.int 1))) t = true) :
    ArmFor flags0 classFile x code maxLocals ret World_1 tables_1 room_1 Calls_1 rest_1 Pre_1
      (fun tb e a s o t => postC L tb e a s o t ∧ Framed s o t (fieldLocs frame_1_writes a s ++ arrayLocs frame_1_arrays a s ++ staticLocs frame_1_statics s) 18 1094) := by
  intro l _ _ _ p e ha hc hk s m args below hf hfit hheap happ hpre
  obtain ⟨k, o, h1, h2, h3, rfl, hF⟩ := lw_comes l p e ha hc hk s m args below hf hfit hheap happ hpre
  exact ⟨k, _, h1, h2, h3, hL args s _, lw_frame hF⟩
theorem i_vc : Claimed_1_1 ∧ Claimed_1_2 := ⟨lw_limb limb_1_1 (fun args s t => by simp [limb_1_1, Cond.after, Cond.holds, Cond.value]), lw_limb limb_1_2 (fun args s t => Cond.after_iff.mpr (by
  first | (rw [show limb_1_2 = Cond.eq .result (.int 1) from rfl, Cond.eq_ints (x := 1) (y := 1) rfl rfl]; simp; done) | (simp [limb_1_2, Cond.value, Term.eval]; done)))⟩
