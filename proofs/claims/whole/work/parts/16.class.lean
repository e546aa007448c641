theorem toll_l {k : Nat} (h : k ≤ 2) : (tollN k).toInt64 = tollI k := by
  rcases (show k = 0 ∨ k = 1 ∨ k = 2 by omega) with rfl | rfl | rfl <;> rfl
theorem bk1_0 {Z : AS} (h : ¬ 0 < Z.1.length) : bk1 Z = Z := by
  obtain ⟨lg, x⟩ := Z
  cases lg with
  | nil => rfl
  | cons y t => exact absurd (Nat.succ_pos t.length) h
theorem bkS_0 {n : Nat} {Z : AS} (h : ¬ 0 < Z.1.length) : bkS n Z = (0, Z) := by
  obtain ⟨lg, x⟩ := Z
  cases lg with
  | nil => cases n <;> rfl
  | cons y t => exact absurd (Nat.succ_pos t.length) h
theorem bkS_s {n : Nat} {Z : AS} (h : 0 < Z.1.length) : (bkS (n + 1) Z).1 = (bkS n (bk1 Z)).1 + 1 ∧ (bkS (n + 1) Z).2 = (bkS n (bk1 Z)).2 := by
  obtain ⟨lg, x⟩ := Z
  cases lg with
  | nil => exact absurd h (Nat.lt_irrefl 0)
  | cons y t => obtain ⟨q, a⟩ := y; exact ⟨rfl, rfl⟩
theorem GA_bk1 {B : Nat → Nat} {N : Nat} {Z : AS} (h : GA B N Z) : GA B N (bk1 Z) := by
  obtain ⟨lg, L, Wn, ah⟩ := Z
  cases lg with
  | nil => exact h
  | cons y t => obtain ⟨q, a⟩ := y; exact (GA_back h).2.2.2.1
set_option maxHeartbeats 4000000 in
set_option maxRecDepth 100000 in
theorem c_X2_isWord (l : Launch) (dC : Nat → ClassId) (dI : Nat → Nat → Nat) (v : Int32) : Met l yX2_isWord wsX2_isWord ({ frames := 1, cells := 0, slots := 0, locals := 25 }) (va_Pc [.int v] (fun _ => True)) (vp_Si (fun r => r = zb (okW v))) 0 0 (fun _ => False) := by
  refine Met.ofW (cc := cX2_isWord) (maxL := 1) (ret := (some .boolean)) (by decide) rfl ?_
  intro p e s m args below meth c s₁ B hml hv
  obtain ⟨rfl, -⟩ := hv
  have hx := B.exec
  have hb := B.bytes
  have hr := B.returns
  have hts := atoms_spec (ws := wsX2_isWord) B.pre
  have hown : s.vm.findClass RX2 = some m.cls := findClass_of_methodNamed B.named
  have hlocks := B.notSynchronized
  have hl := lv_entry ([.int v]) (n := 1) (Nat.le_of_ble_eq_true rfl)
  rw [lg_entry_eq]
  generalize (lg_sl ([.int v]) ++ List.replicate (1 - (lg_sl ([.int v])).length) Slot.unset).toArray = ls at hl ⊢
  have hl : lv_has ls 1 [(0, .int v)] := hl
  refine lv_iload_n hx hb dX2_isWord_0 rfl (lv_at hl 0 rfl) ?_
  refine lv_i2l (v := v.toInt64) hx hb dX2_isWord_1 rfl ?_
  refine lv_lconst (v := 1) hx hb dX2_isWord_2 (by decide) ?_
  refine lv_ldc2 (v := 99) hx hb hown (hts (.constantLong RX2 159 (99)) (by decide +kernel)) dX2_isWord_3 ?_
  refine vp_callSi (va_Run.run (va_runS (As := [.long v.toInt64, .long 1, .long 99]) (rest := []) ⟨hx, hb, hml, hown, hts⟩ (c_X2_isWithin l dC dI v.toInt64 1 99) (va_cwS 3 hts gX2_isWord_X2_isWithin rfl rfl rfl (by decide +kernel) ⟨Nat.le_of_ble_eq_true rfl, Nat.le_of_ble_eq_true rfl⟩) ⟨fun a U g mk q => ⟨q.1, trivial⟩, fun U hU hW => ⟨rfl, trivial⟩⟩ rfl rfl hl.1 rfl (lv_room (Nat.le_of_ble_eq_true rfl)) dX2_isWord_6 ⟨Nat.zero_le _, Nat.zero_le _⟩)) (fun r_6 hr_6 => ?_)
  obtain rfl : r_6 = zb (wi v.toInt 1 99) := hr_6.trans (by rw [i2l_toInt]; rfl)
  exact W.zret (v := zb (wi v.toInt 1 99)) hx hb hr (narrow_zb _) (fun t ht hW => ⟨_, rfl, rfl, ht⟩) (fun _ h => absurd h List.not_mem_nil) dX2_isWord_9

set_option maxHeartbeats 4000000 in
set_option maxRecDepth 100000 in
theorem c_X2_ring (l : Launch) (dC : Nat → ClassId) (dI : Nat → Nat → Nat) (sz : Nat) (cA : ClassId) (h0 h1 h2 b0 a0 a1 a2 a3 : Nat) (tr : Int64) (Bl : Nat → Nat) (N : Nat) (Z : AS) (LA WA CA AA : Nat → Int32) (hG : GA Bl N Z) (hR : RA N Z LA WA CA AA) (n : Int32) : Met l yX2_ring wsX2_ring ({ frames := 2, cells := 0, slots := 0, locals := 37 }) (va_Pc [.ref h0, .int n] (fun U => U.heap.size = sz ∧ va_P (dC, dI) vwCl [(h0, .inr (2, [.ref h1, .ref h2, .long tr])), (h2, .inr (1, [.ref a0, .ref a1, .ref a2, .ref a3, .int (nI N), .int (nI (bc (alv Z.2.1) N)), .int (nI Z.2.2.2), .int (nI Z.1.length)])), (a0, .inl (cA, 40, .inl LA)), (a1, .inl (cA, 40, .inl WA)), (a2, .inl (cA, 200, .inl CA)), (a3, .inl (cA, 200, .inl AA))] U.heap ∧ va_K (dC, dI) vwCl [(cA, .int)] U ∧ va_D (fun _ => True) [(h0, .inr (2, [.ref h1, .ref h2, .long tr])), (h2, .inr (1, [.ref a0, .ref a1, .ref a2, .ref a3, .int (nI N), .int (nI (bc (alv Z.2.1) N)), .int (nI Z.2.2.2), .int (nI Z.1.length)])), (a0, .inl (cA, 40, .inl LA)), (a1, .inl (cA, 40, .inl WA)), (a2, .inl (cA, 200, .inl CA)), (a3, .inl (cA, 200, .inl AA))])) (va_Qi (S := Nat × (Nat → Nat) × AS × (Nat → Int32) × (Nat → Int32) × (Nat → Int32) × (Nat → Int32)) (fun r u => (r, u.1, u.2.1, u.2.2.1) = spRing n N Bl Z ∧ GA u.2.1 u.1 u.2.2.1 ∧ RA u.1 u.2.2.1 u.2.2.2.1 u.2.2.2.2.1 u.2.2.2.2.2.1 u.2.2.2.2.2.2) (fun (u : Nat × (Nat → Nat) × AS × (Nat → Int32) × (Nat → Int32) × (Nat → Int32) × (Nat → Int32)) (t : State) => va_P (dC, dI) vwCl [(h0, .inr (2, [.ref h1, .ref h2, .long tr])), (h2, .inr (1, [.ref a0, .ref a1, .ref a2, .ref a3, .int (nI u.1), .int (nI (bc (alv u.2.2.1.2.1) u.1)), .int (nI u.2.2.1.2.2.2), .int (nI u.2.2.1.1.length)])), (a0, .inl (cA, 40, .inl u.2.2.2.1)), (a1, .inl (cA, 40, .inl u.2.2.2.2.1)), (a2, .inl (cA, 200, .inl u.2.2.2.2.2.1)), (a3, .inl (cA, 200, .inl u.2.2.2.2.2.2))] t.heap ∧ va_K (dC, dI) vwCl [(cA, .int)] t ∧ va_D (va_A [(h0, .inr (2, [.ref h1, .ref h2, .long tr])), (h2, .inr (1, [.ref a0, .ref a1, .ref a2, .ref a3, .int (nI N), .int (nI (bc (alv Z.2.1) N)), .int (nI Z.2.2.2), .int (nI Z.1.length)])), (a0, .inl (cA, 40, .inl LA)), (a1, .inl (cA, 40, .inl WA)), (a2, .inl (cA, 200, .inl CA)), (a3, .inl (cA, 200, .inl AA))] sz) [(h0, .inr (2, [.ref h1, .ref h2, .long tr])), (h2, .inr (1, [.ref a0, .ref a1, .ref a2, .ref a3, .int (nI u.1), .int (nI (bc (alv u.2.2.1.2.1) u.1)), .int (nI u.2.2.1.2.2.2), .int (nI u.2.2.1.1.length)])), (a0, .inl (cA, 40, .inl u.2.2.2.1)), (a1, .inl (cA, 40, .inl u.2.2.2.2.1)), (a2, .inl (cA, 200, .inl u.2.2.2.2.2.1)), (a3, .inl (cA, 200, .inl u.2.2.2.2.2.2))]) (va_A [(h0, .inr (2, [.ref h1, .ref h2, .long tr])), (h2, .inr (1, [.ref a0, .ref a1, .ref a2, .ref a3, .int (nI N), .int (nI (bc (alv Z.2.1) N)), .int (nI Z.2.2.2), .int (nI Z.1.length)])), (a0, .inl (cA, 40, .inl LA)), (a1, .inl (cA, 40, .inl WA)), (a2, .inl (cA, 200, .inl CA)), (a3, .inl (cA, 200, .inl AA))] sz)) 0 0 (va_A [(h0, .inr (2, [.ref h1, .ref h2, .long tr])), (h2, .inr (1, [.ref a0, .ref a1, .ref a2, .ref a3, .int (nI N), .int (nI (bc (alv Z.2.1) N)), .int (nI Z.2.2.2), .int (nI Z.1.length)])), (a0, .inl (cA, 40, .inl LA)), (a1, .inl (cA, 40, .inl WA)), (a2, .inl (cA, 200, .inl CA)), (a3, .inl (cA, 200, .inl AA))] sz) := by
  refine Met.ofW (cc := cX2_ring) (maxL := 3) (ret := (some .int)) (by decide) rfl ?_
  intro p e s m args below meth c s₁ B hml hv
  obtain ⟨rfl, hsz, hP, hK, hD0⟩ := hv
  have hx := B.exec
  have hb := B.bytes
  have hr := B.returns
  have hts := atoms_spec (ws := wsX2_ring) B.pre
  have hown : s.vm.findClass RX2 = some m.cls := findClass_of_methodNamed B.named
  have hlocks := B.notSynchronized
  subst hsz
  have hD := hD0.self (sz := s.heap.size)
  generalize hAe : va_A [(h0, .inr (2, [.ref h1, .ref h2, .long tr])), (h2, .inr (1, [.ref a0, .ref a1, .ref a2, .ref a3, .int (nI N), .int (nI (bc (alv Z.2.1) N)), .int (nI Z.2.2.2), .int (nI Z.1.length)])), (a0, .inl (cA, 40, .inl LA)), (a1, .inl (cA, 40, .inl WA)), (a2, .inl (cA, 200, .inl CA)), (a3, .inl (cA, 200, .inl AA))] s.heap.size = A at hD ⊢
  have hA : ∀ q : Nat, s.heap.size ≤ q → A q := fun q h => by rw [← hAe]; exact Or.inr h
  have hS : va_S A s.heap s.heap [] := va_S.rf
  have hP : va_P (dC, dI) vwCl [(h0, .inr (2, [.ref h1, .ref h2, .long tr])), (h2, .inr (1, [.ref a0, .ref a1, .ref a2, .ref a3, .int (nI N), .int (nI (bc (alv Z.2.1) N)), .int (nI Z.2.2.2), .int (nI Z.1.length)])), (a0, .inl (cA, 40, .inl LA)), (a1, .inl (cA, 40, .inl WA)), (a2, .inl (cA, 200, .inl CA)), (a3, .inl (cA, 200, .inl AA))] s.heap := hP
  have hl := lv_entry ([.ref h0, .int n]) (n := 3) (Nat.le_of_ble_eq_true rfl)
  rw [lg_entry_eq]
  generalize (lg_sl ([.ref h0, .int n]) ++ List.replicate (3 - (lg_sl ([.ref h0, .int n])).length) Slot.unset).toArray = ls at hl ⊢
  have hl : lv_has ls 3 [(0, .ref h0), (1, .int n)] := hl
  obtain ⟨hN1, hN, hah, hal, hL5, hWL, hWc, hWi, hWe⟩ := hG.rb
  have hlen := hG.len
  have hcl := bc_le (alv Z.2.1) N
  refine lv_iload_n hx hb dX2_ring_0 rfl (lv_at hl 1 rfl) ?_
  refine lv_i2l (v := n.toInt64) hx hb dX2_ring_1 rfl ?_
  refine lv_lconst (v := 1) hx hb dX2_ring_2 (by decide) ?_
  refine lv_ldc2 (v := 40) hx hb hown (hts (.constantLong RX2 54 (40)) (by decide +kernel)) dX2_ring_3 ?_
  refine vp_callSi (va_Run.run (va_runS (As := [.long n.toInt64, .long 1, .long 40]) (rest := []) ⟨hx, hb, hml, hown, hts⟩ (c_X2_isWithin l dC dI n.toInt64 1 40) (va_cwS 3 hts gX2_ring_X2_isWithin rfl rfl rfl (by decide +kernel) ⟨Nat.le_of_ble_eq_true rfl, Nat.le_of_ble_eq_true rfl⟩) ⟨fun a U g mk q => ⟨q.1, trivial⟩, fun U hU hW => ⟨rfl, trivial⟩⟩ rfl rfl hl.1 rfl (lv_room (Nat.le_of_ble_eq_true rfl)) dX2_ring_6 ⟨Nat.zero_le _, Nat.zero_le _⟩)) (fun r_6 hr_6 => ?_)
  obtain rfl : r_6 = zb (wi n.toInt 1 40) := hr_6.trans (by rw [i2l_toInt]; rfl)
  refine lv_if_ne (tgt := 14) hx hb dX2_ring_9 (by decide) (fun c_9 => ?_) (fun c_9 => ?_)
  · have c_9 := zb_n.mp c_9
    obtain ⟨n1, hn1, hn2, rfl⟩ := nI_wi (a := 1) (b := 40) c_9
    refine lv_aload_n hx hb dX2_ring_14 rfl (lv_at hl 0 rfl) ?_
    refine va_get (D := (dC, dI)) (ci := 2) (v := .ref h2) (C := RX2) (T := TX2) (N := 3) hx hb hts (by decide +kernel) hown hK hP 0 rfl rfl 1 (by decide) (hts (.fieldLink RX2 19 "CountedOut" "people" "LCountedOut$Ring;") (by decide +kernel)) (fun _ h9 => h9) rfl dX2_ring_15 ?_
    refine va_get (D := (dC, dI)) (ci := 1) (v := .int (nI N)) (C := RX1) (T := TX1) (N := 8) hx hb hts (by decide +kernel) hown hK hP 1 rfl rfl 4 (by decide) (hts (.fieldLink RX2 56 "CountedOut$Ring" "size" "I") (by decide +kernel)) (fun _ h9 => h9) rfl dX2_ring_18 ?_
    refine lv_istore_n (lv' := [(2, .int (nI N)), (0, .ref h0), (1, .int (nI n1))]) hx hb dX2_ring_21 rfl hl (by decide) rfl (fun ls hl => ?_)
    refine lv_aload_n hx hb dX2_ring_22 rfl (lv_at hl 1 rfl) ?_
    refine va_get (D := (dC, dI)) (ci := 2) (v := .ref h2) (C := RX2) (T := TX2) (N := 3) hx hb hts (by decide +kernel) hown hK hP 0 rfl rfl 1 (by decide) (hts (.fieldLink RX2 19 "CountedOut" "people" "LCountedOut$Ring;") (by decide +kernel)) (fun _ h9 => h9) rfl dX2_ring_23 ?_
    refine lv_iload_n hx hb dX2_ring_26 rfl (lv_at hl 2 rfl) ?_
    have hPc := hP.sub (ws' := [(h2, .inr (1, [.ref a0, .ref a1, .ref a2, .ref a3, .int (nI N), .int (nI (bc (alv Z.2.1) N)), .int (nI Z.2.2.2), .int (nI Z.1.length)])), (a0, .inl (cA, 40, .inl LA)), (a1, .inl (cA, 40, .inl WA))]) [1, 2, 3] rfl
    have hDc := hD.sub (ws' := [(h2, .inr (1, [.ref a0, .ref a1, .ref a2, .ref a3, .int (nI N), .int (nI (bc (alv Z.2.1) N)), .int (nI Z.2.2.2), .int (nI Z.1.length)])), (a0, .inl (cA, 40, .inl LA)), (a1, .inl (cA, 40, .inl WA))]) [1, 2, 3] (by decide) rfl
    have hFc := va_free (wc := [(h2, .inr (1, [.ref a0, .ref a1, .ref a2, .ref a3, .int (nI N), .int (nI (bc (alv Z.2.1) N)), .int (nI Z.2.2.2), .int (nI Z.1.length)])), (a0, .inl (cA, 40, .inl LA)), (a1, .inl (cA, 40, .inl WA))]) hD hS hA [1, 2, 3] rfl
    refine va_callv (va_runV (As := [.int (nI n1)]) (rest := []) ⟨hx, hb, hml, hown, hts⟩ (c_X1_begin l dC dI s.heap.size cA h2 a0 a1 a2 a3 n1 hn1 hn2 (nI N) (nI (bc (alv Z.2.1) N)) (nI Z.2.2.2) (nI Z.1.length) LA WA) (cwV 1 hts gX2_ring_X1_begin rfl rfl rfl (by decide +kernel) ⟨Nat.le_of_ble_eq_true rfl, Nat.le_of_ble_eq_true rfl⟩) ⟨fun a U g mk q => by obtain ⟨q0, q1, qP, qK, qD⟩ := q; exact ⟨q0, q1, qP, va_K.moved (u := U) (U := U.calling g mk a) (Vm.Alike.refl U.vm) qK, qD⟩, va_recv hK hP (ci := 1) (q0 := 1) rfl rfl, fun U hU hW => ⟨rfl, by rw [hU], by rw [hU]; exact hPc, va_K.moved hW.alike hK, hDc.weaken (fun _ _ _ _ => trivial)⟩⟩ rfl rfl hl.1 rfl (lv_room (Nat.le_of_ble_eq_true rfl)) dX2_ring_27 ⟨Nat.zero_le _, Nat.zero_le _⟩) hS (fun q _ h => hFc q h) hFc (fun u_27 t_27 H1 locs ht_27 hvm_27 hw_27 hB_27 hz1 hk1 hS => ?_)
    obtain ⟨V, U⟩ := u_27
    obtain ⟨hP1, hK1, hD1⟩ := hB_27
    rw [ht_27] at hP1
    have hP1 : va_P (dC, dI) vwCl [(h2, .inr (1, [.ref a0, .ref a1, .ref a2, .ref a3, .int (nI n1), .int (nI (bc (alv (fun _ => 1)) n1)), .int (nI 0), .int (nI ([] : List (Nat × Nat)).length)])), (a0, .inl (cA, 40, .inl V)), (a1, .inl (cA, 40, .inl U))] H1 := by rw [all1]; exact hP1
    have hD1 : va_D (va_A [(h2, .inr (1, [.ref a0, .ref a1, .ref a2, .ref a3, .int (nI N), .int (nI (bc (alv Z.2.1) N)), .int (nI Z.2.2.2), .int (nI Z.1.length)])), (a0, .inl (cA, 40, .inl LA)), (a1, .inl (cA, 40, .inl WA))] s.heap.size) [(h2, .inr (1, [.ref a0, .ref a1, .ref a2, .ref a3, .int (nI n1), .int (nI (bc (alv (fun _ => 1)) n1)), .int (nI 0), .int (nI ([] : List (Nat × Nat)).length)])), (a0, .inl (cA, 40, .inl V)), (a1, .inl (cA, 40, .inl U))] := by rw [all1]; exact hD1
    obtain ⟨hP, hD⟩ := va_join (wr := [(h0, .inr (2, [.ref h1, .ref h2, .long tr])), (a2, .inl (cA, 200, .inl CA)), (a3, .inl (cA, 200, .inl AA))]) (w1 := [(h2, .inr (1, [.ref a0, .ref a1, .ref a2, .ref a3, .int (nI n1), .int (nI (bc (alv (fun _ => 1)) n1)), .int (nI 0), .int (nI ([] : List (Nat × Nat)).length)])), (a0, .inl (cA, 40, .inl V)), (a1, .inl (cA, 40, .inl U))]) hP hD [1, 2, 3] [0, 4, 5] rfl rfl (by decide) (by decide) hk1 hFc hP1 hD1
    generalize H1 = H at hP hS ⊢
    have hP := hP.sub (ws' := [(h0, .inr (2, [.ref h1, .ref h2, .long tr])), (h2, .inr (1, [.ref a0, .ref a1, .ref a2, .ref a3, .int (nI n1), .int (nI (bc (alv (fun _ => 1)) n1)), .int (nI 0), .int (nI ([] : List (Nat × Nat)).length)])), (a0, .inl (cA, 40, .inl V)), (a1, .inl (cA, 40, .inl U)), (a2, .inl (cA, 200, .inl CA)), (a3, .inl (cA, 200, .inl AA))]) [0, 3, 4, 5, 1, 2] rfl
    have hD := hD.sub (ws' := [(h0, .inr (2, [.ref h1, .ref h2, .long tr])), (h2, .inr (1, [.ref a0, .ref a1, .ref a2, .ref a3, .int (nI n1), .int (nI (bc (alv (fun _ => 1)) n1)), .int (nI 0), .int (nI ([] : List (Nat × Nat)).length)])), (a0, .inl (cA, 40, .inl V)), (a1, .inl (cA, 40, .inl U)), (a2, .inl (cA, 200, .inl CA)), (a3, .inl (cA, 200, .inl AA))]) [0, 3, 4, 5, 1, 2] (by decide) rfl
    refine lv_iload_n hx hb dX2_ring_30 rfl (lv_at hl 0 rfl) ?_
    have hP9 := hP.sub (ws' := [(h0, .inr (2, [.ref h1, .ref h2, .long tr])), (h2, .inr (1, [.ref a0, .ref a1, .ref a2, .ref a3, .int (nI n1), .int (nI (bc (alv (fun _ => 1)) n1)), .int (nI 0), .int (nI ([] : List (Nat × Nat)).length)])), (a0, .inl (cA, 40, .inl V)), (a1, .inl (cA, 40, .inl U)), (a2, .inl (cA, 200, .inl CA)), (a3, .inl (cA, 200, .inl AA))]) [0, 1, 2, 3, 4, 5] rfl
    have hD9 := hD.sub (ws' := [(h0, .inr (2, [.ref h1, .ref h2, .long tr])), (h2, .inr (1, [.ref a0, .ref a1, .ref a2, .ref a3, .int (nI n1), .int (nI (bc (alv (fun _ => 1)) n1)), .int (nI 0), .int (nI ([] : List (Nat × Nat)).length)])), (a0, .inl (cA, 40, .inl V)), (a1, .inl (cA, 40, .inl U)), (a2, .inl (cA, 200, .inl CA)), (a3, .inl (cA, 200, .inl AA))]) [0, 1, 2, 3, 4, 5] (by decide) rfl
    exact W.iret (v := nI N) hx hb hr (fun t ht hW => ⟨⟨_, (n1, (fun _ => 1), ([], (fun _ => 1), (fun _ => 0), 0), V, U, CA, AA), rfl, ⟨by unfold spRing; rw [if_pos c_9, nI_toInt (by omega)]; rfl, GA_new hn1 hn2, RA_new hw_27⟩, ⟨by rw [ht]; exact hP9, va_K.moved hW.alike hK, hD9⟩⟩, hS.F ht⟩) hS.2.2 dX2_ring_31
  · have c_9 := zb_0.mp c_9
    refine lv_iconst (v := (-1)) hx hb dX2_ring_12 (by decide) ?_
    have hP9 := hP.sub (ws' := [(h0, .inr (2, [.ref h1, .ref h2, .long tr])), (h2, .inr (1, [.ref a0, .ref a1, .ref a2, .ref a3, .int (nI N), .int (nI (bc (alv Z.2.1) N)), .int (nI Z.2.2.2), .int (nI Z.1.length)])), (a0, .inl (cA, 40, .inl LA)), (a1, .inl (cA, 40, .inl WA)), (a2, .inl (cA, 200, .inl CA)), (a3, .inl (cA, 200, .inl AA))]) [0, 1, 2, 3, 4, 5] rfl
    have hD9 := hD.sub (ws' := [(h0, .inr (2, [.ref h1, .ref h2, .long tr])), (h2, .inr (1, [.ref a0, .ref a1, .ref a2, .ref a3, .int (nI N), .int (nI (bc (alv Z.2.1) N)), .int (nI Z.2.2.2), .int (nI Z.1.length)])), (a0, .inl (cA, 40, .inl LA)), (a1, .inl (cA, 40, .inl WA)), (a2, .inl (cA, 200, .inl CA)), (a3, .inl (cA, 200, .inl AA))]) [0, 1, 2, 3, 4, 5] (by decide) rfl
    exact W.iret (v := (-1)) hx hb hr (fun t ht hW => ⟨⟨_, (N, Bl, Z, LA, WA, CA, AA), rfl, ⟨by unfold spRing; rw [if_neg (by rw [c_9]; decide)], hG, hR⟩, ⟨by rw [ht]; exact hP9, va_K.moved hW.alike hK, hD9⟩⟩, hS.F ht⟩) hS.2.2 dX2_ring_13

set_option maxHeartbeats 4000000 in
set_option maxRecDepth 100000 in
theorem c_X2_lives (l : Launch) (dC : Nat → ClassId) (dI : Nat → Nat → Nat) (sz : Nat) (cA : ClassId) (h0 h1 h2 b0 a0 a1 a2 a3 : Nat) (tr : Int64) (Bl : Nat → Nat) (N : Nat) (lg : List (Nat × Nat)) (L Wn : Nat → Nat) (ah : Nat) (LA WA CA AA : Nat → Int32) (hG : Rg Bl N lg L Wn ah) (hR : RX N lg L Wn LA WA CA AA) (p0 v : Int32) : Met l yX2_lives wsX2_lives ({ frames := 1, cells := 0, slots := 0, locals := 25 }) (va_Pc [.ref h0, .int p0, .int v] (fun U => U.heap.size = sz ∧ va_P (dC, dI) vwCl [(h0, .inr (2, [.ref h1, .ref h2, .long tr])), (h2, .inr (1, [.ref a0, .ref a1, .ref a2, .ref a3, .int (nI N), .int (nI (bc (alv L) N)), .int (nI ah), .int (nI lg.length)])), (a0, .inl (cA, 40, .inl LA))] U.heap ∧ va_K (dC, dI) vwCl [(cA, .int)] U ∧ va_D (fun _ => True) [(h0, .inr (2, [.ref h1, .ref h2, .long tr])), (h2, .inr (1, [.ref a0, .ref a1, .ref a2, .ref a3, .int (nI N), .int (nI (bc (alv L) N)), .int (nI ah), .int (nI lg.length)])), (a0, .inl (cA, 40, .inl LA))])) (va_Qi (S := (Nat → Nat) × AS × (Nat → Int32)) (fun r u => (r, u.1, u.2.1) = spLives p0 v N Bl (lg, L, Wn, ah) ∧ GA u.1 N u.2.1 ∧ RA N u.2.1 u.2.2 WA CA AA) (fun (u : (Nat → Nat) × AS × (Nat → Int32)) (t : State) => va_P (dC, dI) vwCl [(h0, .inr (2, [.ref h1, .ref h2, .long tr])), (h2, .inr (1, [.ref a0, .ref a1, .ref a2, .ref a3, .int (nI N), .int (nI (bc (alv u.2.1.2.1) N)), .int (nI u.2.1.2.2.2), .int (nI u.2.1.1.length)])), (a0, .inl (cA, 40, .inl u.2.2))] t.heap ∧ va_K (dC, dI) vwCl [(cA, .int)] t ∧ va_D (va_A [(h0, .inr (2, [.ref h1, .ref h2, .long tr])), (h2, .inr (1, [.ref a0, .ref a1, .ref a2, .ref a3, .int (nI N), .int (nI (bc (alv L) N)), .int (nI ah), .int (nI lg.length)])), (a0, .inl (cA, 40, .inl LA))] sz) [(h0, .inr (2, [.ref h1, .ref h2, .long tr])), (h2, .inr (1, [.ref a0, .ref a1, .ref a2, .ref a3, .int (nI N), .int (nI (bc (alv u.2.1.2.1) N)), .int (nI u.2.1.2.2.2), .int (nI u.2.1.1.length)])), (a0, .inl (cA, 40, .inl u.2.2))]) (va_A [(h0, .inr (2, [.ref h1, .ref h2, .long tr])), (h2, .inr (1, [.ref a0, .ref a1, .ref a2, .ref a3, .int (nI N), .int (nI (bc (alv L) N)), .int (nI ah), .int (nI lg.length)])), (a0, .inl (cA, 40, .inl LA))] sz)) 0 0 (va_A [(h0, .inr (2, [.ref h1, .ref h2, .long tr])), (h2, .inr (1, [.ref a0, .ref a1, .ref a2, .ref a3, .int (nI N), .int (nI (bc (alv L) N)), .int (nI ah), .int (nI lg.length)])), (a0, .inl (cA, 40, .inl LA))] sz) := by
  refine Met.ofW (cc := cX2_lives) (maxL := 3) (ret := (some .int)) (by decide) rfl ?_
  intro p e s m args below meth c s₁ B hml hv
  obtain ⟨rfl, hsz, hP, hK, hD0⟩ := hv
  have hx := B.exec
  have hb := B.bytes
  have hr := B.returns
  have hts := atoms_spec (ws := wsX2_lives) B.pre
  have hown : s.vm.findClass RX2 = some m.cls := findClass_of_methodNamed B.named
  have hlocks := B.notSynchronized
  subst hsz
  have hD := hD0.self (sz := s.heap.size)
  generalize hAe : va_A [(h0, .inr (2, [.ref h1, .ref h2, .long tr])), (h2, .inr (1, [.ref a0, .ref a1, .ref a2, .ref a3, .int (nI N), .int (nI (bc (alv L) N)), .int (nI ah), .int (nI lg.length)])), (a0, .inl (cA, 40, .inl LA))] s.heap.size = A at hD ⊢
  have hA : ∀ q : Nat, s.heap.size ≤ q → A q := fun q h => by rw [← hAe]; exact Or.inr h
  have hS : va_S A s.heap s.heap [] := va_S.rf
  have hP : va_P (dC, dI) vwCl [(h0, .inr (2, [.ref h1, .ref h2, .long tr])), (h2, .inr (1, [.ref a0, .ref a1, .ref a2, .ref a3, .int (nI N), .int (nI (bc (alv L) N)), .int (nI ah), .int (nI lg.length)])), (a0, .inl (cA, 40, .inl LA))] s.heap := hP
  have hl := lv_entry ([.ref h0, .int p0, .int v]) (n := 3) (Nat.le_of_ble_eq_true rfl)
  rw [lg_entry_eq]
  generalize (lg_sl ([.ref h0, .int p0, .int v]) ++ List.replicate (3 - (lg_sl ([.ref h0, .int p0, .int v])).length) Slot.unset).toArray = ls at hl ⊢
  have hl : lv_has ls 3 [(0, .ref h0), (1, .int p0), (2, .int v)] := hl
  obtain ⟨hN1, hN, hah, hal, hL5, hWL, hWc, hWi, hWe⟩ := hG.rb
  have hlen := hG.len
  have hcl := bc_le (alv L) N
  refine lv_aload_n hx hb dX2_lives_0 rfl (lv_at hl 0 rfl) ?_
  refine va_get (D := (dC, dI)) (ci := 2) (v := .ref h2) (C := RX2) (T := TX2) (N := 3) hx hb hts (by decide +kernel) hown hK hP 0 rfl rfl 1 (by decide) (hts (.fieldLink RX2 19 "CountedOut" "people" "LCountedOut$Ring;") (by decide +kernel)) (fun _ h9 => h9) rfl dX2_lives_1 ?_
  refine lv_iload_n hx hb dX2_lives_4 rfl (lv_at hl 1 rfl) ?_
  have hPc := hP.sub (ws' := [(h2, .inr (1, [.ref a0, .ref a1, .ref a2, .ref a3, .int (nI N), .int (nI (bc (alv L) N)), .int (nI ah), .int (nI lg.length)]))]) [1] rfl
  refine vp_callSi (va_Run.run (va_runV (As := [.int p0]) (rest := []) ⟨hx, hb, hml, hown, hts⟩ (c_X1_has l dC dI cA h2 a0 a1 a2 a3 N hN (nI (bc (alv L) N)) (nI ah) (nI lg.length) p0) (cwV 1 hts gX2_lives_X1_has rfl rfl rfl (by decide +kernel) ⟨Nat.le_of_ble_eq_true rfl, Nat.le_of_ble_eq_true rfl⟩) ⟨fun a U g mk q => by obtain ⟨q0, qP, qK⟩ := q; exact ⟨q0, qP, va_K.moved (u := U) (U := U.calling g mk a) (Vm.Alike.refl U.vm) qK⟩, va_recv hK hP (ci := 1) (q0 := 1) rfl rfl, fun U hU hW => ⟨rfl, by rw [hU]; exact hPc, va_K.moved hW.alike hK⟩⟩ rfl rfl hl.1 rfl (lv_room (Nat.le_of_ble_eq_true rfl)) dX2_lives_5 ⟨Nat.zero_le _, Nat.zero_le _⟩)) (fun r_5 hr_5 => ?_)
  subst hr_5
  refine lv_if_eq (tgt := 23) hx hb dX2_lives_8 (by decide) (fun c_8 => ?_) (fun c_8 => ?_)
  · have c_8 := zb_0.mp c_8
    refine lv_iconst (v := (-1)) hx hb dX2_lives_23 (by decide) ?_
    have hP9 := hP.sub (ws' := [(h0, .inr (2, [.ref h1, .ref h2, .long tr])), (h2, .inr (1, [.ref a0, .ref a1, .ref a2, .ref a3, .int (nI N), .int (nI (bc (alv L) N)), .int (nI ah), .int (nI lg.length)])), (a0, .inl (cA, 40, .inl LA))]) [0, 1, 2] rfl
    have hD9 := hD.sub (ws' := [(h0, .inr (2, [.ref h1, .ref h2, .long tr])), (h2, .inr (1, [.ref a0, .ref a1, .ref a2, .ref a3, .int (nI N), .int (nI (bc (alv L) N)), .int (nI ah), .int (nI lg.length)])), (a0, .inl (cA, 40, .inl LA))]) [0, 1, 2] (by decide) rfl
    exact W.iret (v := (-1)) hx hb hr (fun t ht hW => ⟨⟨_, (Bl, (lg, L, Wn, ah), LA), rfl, ⟨by unfold spLives; first | (rw [c_8, Bool.false_and, if_neg (by decide)]) | (rw [c_8, c_20, Bool.true_and, if_neg (by decide)]), hG, hR⟩, ⟨by rw [ht]; exact hP9, va_K.moved hW.alike hK, hD9⟩⟩, hS.F ht⟩) hS.2.2 dX2_lives_24
  · have c_8 := zb_n.mp c_8
    refine lv_iload_n hx hb dX2_lives_11 rfl (lv_at hl 2 rfl) ?_
    refine lv_i2l (v := v.toInt64) hx hb dX2_lives_12 rfl ?_
    refine lv_lconst (v := 1) hx hb dX2_lives_13 (by decide) ?_
    refine lv_ldc2 (v := 5) hx hb hown (hts (.constantLong RX2 68 (5)) (by decide +kernel)) dX2_lives_14 ?_
    refine vp_callSi (va_Run.run (va_runS (As := [.long v.toInt64, .long 1, .long 5]) (rest := []) ⟨hx, hb, hml, hown, hts⟩ (c_X2_isWithin l dC dI v.toInt64 1 5) (va_cwS 3 hts gX2_lives_X2_isWithin rfl rfl rfl (by decide +kernel) ⟨Nat.le_of_ble_eq_true rfl, Nat.le_of_ble_eq_true rfl⟩) ⟨fun a U g mk q => ⟨q.1, trivial⟩, fun U hU hW => ⟨rfl, trivial⟩⟩ rfl rfl hl.1 rfl (lv_room (Nat.le_of_ble_eq_true rfl)) dX2_lives_17 ⟨Nat.zero_le _, Nat.zero_le _⟩)) (fun r_17 hr_17 => ?_)
    obtain rfl : r_17 = zb (wi v.toInt 1 5) := hr_17.trans (by rw [i2l_toInt]; rfl)
    refine lv_if_ne (tgt := 25) hx hb dX2_lives_20 (by decide) (fun c_20 => ?_) (fun c_20 => ?_)
    · have c_20 := zb_n.mp c_20
      obtain ⟨p1, hp1, rfl⟩ := person_of hN1 hN c_8
      obtain ⟨v1, hv1, hv5, rfl⟩ := nI_wi (a := 1) (b := 5) c_20
      refine lv_aload_n hx hb dX2_lives_25 rfl (lv_at hl 0 rfl) ?_
      refine va_get (D := (dC, dI)) (ci := 2) (v := .ref h2) (C := RX2) (T := TX2) (N := 3) hx hb hts (by decide +kernel) hown hK hP 0 rfl rfl 1 (by decide) (hts (.fieldLink RX2 19 "CountedOut" "people" "LCountedOut$Ring;") (by decide +kernel)) (fun _ h9 => h9) rfl dX2_lives_26 ?_
      have hPc := hP.sub (ws' := [(h2, .inr (1, [.ref a0, .ref a1, .ref a2, .ref a3, .int (nI N), .int (nI (bc (alv L) N)), .int (nI ah), .int (nI lg.length)]))]) [1] rfl
      refine vp_callSi (va_Run.run (va_runV (As := []) (rest := []) ⟨hx, hb, hml, hown, hts⟩ (c_X1_hasBegun l dC dI cA h2 a0 a1 a2 a3 lg.length (by omega) (nI N) (nI (bc (alv L) N)) (nI ah)) (cwV 0 hts gX2_lives_X1_hasBegun rfl rfl rfl (by decide +kernel) ⟨Nat.le_of_ble_eq_true rfl, Nat.le_of_ble_eq_true rfl⟩) ⟨fun a U g mk q => by obtain ⟨q0, qP, qK⟩ := q; exact ⟨q0, qP, va_K.moved (u := U) (U := U.calling g mk a) (Vm.Alike.refl U.vm) qK⟩, va_recv hK hP (ci := 1) (q0 := 1) rfl rfl, fun U hU hW => ⟨rfl, by rw [hU]; exact hPc, va_K.moved hW.alike hK⟩⟩ rfl rfl hl.1 rfl (lv_room (Nat.le_of_ble_eq_true rfl)) dX2_lives_29 ⟨Nat.zero_le _, Nat.zero_le _⟩)) (fun r_29 hr_29 => ?_)
      subst hr_29
      refine lv_if_eq (tgt := 38) hx hb dX2_lives_32 (by decide) (fun c_32 => ?_) (fun c_32 => ?_)
      · have c_32 := zb_0.mp c_32
        obtain rfl : lg = [] := by cases lg with | nil => rfl | cons x tl => exact absurd (decide_eq_false_iff_not.mp c_32) (by show ¬ ¬ 0 < tl.length + 1; omega)
        refine lv_aload_n hx hb dX2_lives_38 rfl (lv_at hl 0 rfl) ?_
        refine va_get (D := (dC, dI)) (ci := 2) (v := .ref h2) (C := RX2) (T := TX2) (N := 3) hx hb hts (by decide +kernel) hown hK hP 0 rfl rfl 1 (by decide) (hts (.fieldLink RX2 19 "CountedOut" "people" "LCountedOut$Ring;") (by decide +kernel)) (fun _ h9 => h9) rfl dX2_lives_39 ?_
        refine lv_iload_n hx hb dX2_lives_42 rfl (lv_at hl 1 rfl) ?_
        refine lv_iload_n hx hb dX2_lives_43 rfl (lv_at hl 2 rfl) ?_
        have hPc := hP.sub (ws' := [(h2, .inr (1, [.ref a0, .ref a1, .ref a2, .ref a3, .int (nI N), .int (nI (bc (alv L) N)), .int (nI ah), .int (nI ([] : List (Nat × Nat)).length)])), (a0, .inl (cA, 40, .inl LA))]) [1, 2] rfl
        have hDc := hD.sub (ws' := [(h2, .inr (1, [.ref a0, .ref a1, .ref a2, .ref a3, .int (nI N), .int (nI (bc (alv L) N)), .int (nI ah), .int (nI ([] : List (Nat × Nat)).length)])), (a0, .inl (cA, 40, .inl LA))]) [1, 2] (by decide) rfl
        have hFc := va_free (wc := [(h2, .inr (1, [.ref a0, .ref a1, .ref a2, .ref a3, .int (nI N), .int (nI (bc (alv L) N)), .int (nI ah), .int (nI ([] : List (Nat × Nat)).length)])), (a0, .inl (cA, 40, .inl LA))]) hD hS hA [1, 2] rfl
        refine va_calli (va_runV (As := [.int (nI p1), .int (nI v1)]) (rest := []) ⟨hx, hb, hml, hown, hts⟩ (c_X1_giveLives l dC dI s.heap.size cA h2 a0 a1 a2 a3 (nI N) (nI (bc (alv L) N)) (nI ah) (nI ([] : List (Nat × Nat)).length) (nI v1) p1 (by omega) LA) (cwV 2 hts gX2_lives_X1_giveLives rfl rfl rfl (by decide +kernel) ⟨Nat.le_of_ble_eq_true rfl, Nat.le_of_ble_eq_true rfl⟩) ⟨fun a U g mk q => by obtain ⟨q0, q1, qP, qK, qD⟩ := q; exact ⟨q0, q1, qP, va_K.moved (u := U) (U := U.calling g mk a) (Vm.Alike.refl U.vm) qK, qD⟩, va_recv hK hP (ci := 1) (q0 := 1) rfl rfl, fun U hU hW => ⟨rfl, by rw [hU], by rw [hU]; exact hPc, va_K.moved hW.alike hK, hDc.weaken (fun _ _ _ _ => trivial)⟩⟩ rfl rfl hl.1 rfl (lv_room (Nat.le_of_ble_eq_true rfl)) dX2_lives_44 ⟨Nat.zero_le _, Nat.zero_le _⟩) hS (fun q _ h => hFc q h) hFc (fun r_44 u_44 t_44 H1 locs ht_44 hvm_44 hw_44 hB_44 hz1 hk1 hS => ?_)
        obtain ⟨hP1, hK1, hD1⟩ := hB_44
        rw [ht_44] at hP1
        have hP1 : va_P (dC, dI) vwCl [(h2, .inr (1, [.ref a0, .ref a1, .ref a2, .ref a3, .int (nI N), .int (nI (bc (alv (upN L p1 v1)) N)), .int (nI ah), .int (nI ([] : List (Nat × Nat)).length)])), (a0, .inl (cA, 40, .inl (upd LA p1 (nI v1))))] H1 := by rw [upN_cnt (hG.2.2.2 _ hp1).2 hv1]; exact hP1
        have hD1 : va_D (va_A [(h2, .inr (1, [.ref a0, .ref a1, .ref a2, .ref a3, .int (nI N), .int (nI (bc (alv L) N)), .int (nI ah), .int (nI ([] : List (Nat × Nat)).length)])), (a0, .inl (cA, 40, .inl LA))] s.heap.size) [(h2, .inr (1, [.ref a0, .ref a1, .ref a2, .ref a3, .int (nI N), .int (nI (bc (alv (upN L p1 v1)) N)), .int (nI ah), .int (nI ([] : List (Nat × Nat)).length)])), (a0, .inl (cA, 40, .inl (upd LA p1 (nI v1))))] := by rw [upN_cnt (hG.2.2.2 _ hp1).2 hv1]; exact hD1
        obtain ⟨hP, hD⟩ := va_join (wr := [(h0, .inr (2, [.ref h1, .ref h2, .long tr]))]) (w1 := [(h2, .inr (1, [.ref a0, .ref a1, .ref a2, .ref a3, .int (nI N), .int (nI (bc (alv (upN L p1 v1)) N)), .int (nI ah), .int (nI ([] : List (Nat × Nat)).length)])), (a0, .inl (cA, 40, .inl (upd LA p1 (nI v1))))]) hP hD [1, 2] [0] rfl rfl (by decide) (by decide) hk1 hFc hP1 hD1
        generalize H1 = H at hP hS ⊢
        have hP := hP.sub (ws' := [(h0, .inr (2, [.ref h1, .ref h2, .long tr])), (h2, .inr (1, [.ref a0, .ref a1, .ref a2, .ref a3, .int (nI N), .int (nI (bc (alv (upN L p1 v1)) N)), .int (nI ah), .int (nI ([] : List (Nat × Nat)).length)])), (a0, .inl (cA, 40, .inl (upd LA p1 (nI v1))))]) [0, 1, 2] rfl
        have hD := hD.sub (ws' := [(h0, .inr (2, [.ref h1, .ref h2, .long tr])), (h2, .inr (1, [.ref a0, .ref a1, .ref a2, .ref a3, .int (nI N), .int (nI (bc (alv (upN L p1 v1)) N)), .int (nI ah), .int (nI ([] : List (Nat × Nat)).length)])), (a0, .inl (cA, 40, .inl (upd LA p1 (nI v1))))]) [0, 1, 2] (by decide) rfl
        obtain rfl : r_44 = nI (L p1) := hw_44.trans (hR.1 _ hp1)
        have hP9 := hP.sub (ws' := [(h0, .inr (2, [.ref h1, .ref h2, .long tr])), (h2, .inr (1, [.ref a0, .ref a1, .ref a2, .ref a3, .int (nI N), .int (nI (bc (alv (upN L p1 v1)) N)), .int (nI ah), .int (nI ([] : List (Nat × Nat)).length)])), (a0, .inl (cA, 40, .inl (upd LA p1 (nI v1))))]) [0, 1, 2] rfl
        have hD9 := hD.sub (ws' := [(h0, .inr (2, [.ref h1, .ref h2, .long tr])), (h2, .inr (1, [.ref a0, .ref a1, .ref a2, .ref a3, .int (nI N), .int (nI (bc (alv (upN L p1 v1)) N)), .int (nI ah), .int (nI ([] : List (Nat × Nat)).length)])), (a0, .inl (cA, 40, .inl (upd LA p1 (nI v1))))]) [0, 1, 2] (by decide) rfl
        exact W.iret (v := nI (L p1)) hx hb hr (fun t ht hW => ⟨⟨_, (upN Bl p1 v1, ([], upN L p1 v1, Wn, ah), _), rfl, ⟨(spLives_t hN hp1 hv1 hv5).symm, Rg_lives hG hp1 hv1 hv5, RX_lives hR⟩, ⟨by rw [ht]; exact hP9, va_K.moved hW.alike hK, hD9⟩⟩, hS.F ht⟩) hS.2.2 dX2_lives_47
      · have c_32 := zb_n.mp c_32
        refine lv_bipush (v := (-2)) hx hb dX2_lives_35 (by decide) ?_
        have hP9 := hP.sub (ws' := [(h0, .inr (2, [.ref h1, .ref h2, .long tr])), (h2, .inr (1, [.ref a0, .ref a1, .ref a2, .ref a3, .int (nI N), .int (nI (bc (alv L) N)), .int (nI ah), .int (nI lg.length)])), (a0, .inl (cA, 40, .inl LA))]) [0, 1, 2] rfl
        have hD9 := hD.sub (ws' := [(h0, .inr (2, [.ref h1, .ref h2, .long tr])), (h2, .inr (1, [.ref a0, .ref a1, .ref a2, .ref a3, .int (nI N), .int (nI (bc (alv L) N)), .int (nI ah), .int (nI lg.length)])), (a0, .inl (cA, 40, .inl LA))]) [0, 1, 2] (by decide) rfl
        exact W.iret (v := (-2)) hx hb hr (fun t ht hW => ⟨⟨_, (Bl, (lg, L, Wn, ah), LA), rfl, ⟨by unfold spLives; rw [c_8, c_20, Bool.true_and, if_pos rfl, if_pos (of_decide_eq_true c_32)], hG, hR⟩, ⟨by rw [ht]; exact hP9, va_K.moved hW.alike hK, hD9⟩⟩, hS.F ht⟩) hS.2.2 dX2_lives_37
    · have c_20 := zb_0.mp c_20
      refine lv_iconst (v := (-1)) hx hb dX2_lives_23 (by decide) ?_
      have hP9 := hP.sub (ws' := [(h0, .inr (2, [.ref h1, .ref h2, .long tr])), (h2, .inr (1, [.ref a0, .ref a1, .ref a2, .ref a3, .int (nI N), .int (nI (bc (alv L) N)), .int (nI ah), .int (nI lg.length)])), (a0, .inl (cA, 40, .inl LA))]) [0, 1, 2] rfl
      have hD9 := hD.sub (ws' := [(h0, .inr (2, [.ref h1, .ref h2, .long tr])), (h2, .inr (1, [.ref a0, .ref a1, .ref a2, .ref a3, .int (nI N), .int (nI (bc (alv L) N)), .int (nI ah), .int (nI lg.length)])), (a0, .inl (cA, 40, .inl LA))]) [0, 1, 2] (by decide) rfl
      exact W.iret (v := (-1)) hx hb hr (fun t ht hW => ⟨⟨_, (Bl, (lg, L, Wn, ah), LA), rfl, ⟨by unfold spLives; first | (rw [c_8, Bool.false_and, if_neg (by decide)]) | (rw [c_8, c_20, Bool.true_and, if_neg (by decide)]), hG, hR⟩, ⟨by rw [ht]; exact hP9, va_K.moved hW.alike hK, hD9⟩⟩, hS.F ht⟩) hS.2.2 dX2_lives_24

set_option maxHeartbeats 4000000 in
set_option maxRecDepth 100000 in
theorem c_X2_set (l : Launch) (dC : Nat → ClassId) (dI : Nat → Nat → Nat) (sz : Nat) (cA : ClassId) (h0 h1 h2 b0 a0 a1 a2 a3 : Nat) (tr : Int64) (st kd nw : Nat) (wd : Nat → Nat) (hCS : CS st kd nw wd) (d : Nat) (hd : d < 200) (sz0 lf av : Int32) (w v : Int32) : Met l yX2_set wsX2_set ({ frames := 1, cells := 0, slots := 0, locals := 25 }) (va_Pc [.ref h0, .int w, .int v] (fun U => U.heap.size = sz ∧ va_P (dC, dI) vwCl [(h0, .inr (2, [.ref h1, .ref h2, .long tr])), (h1, .inr (0, [.ref b0, .int (nI nw), .int (nI st), .int (nI kd)])), (h2, .inr (1, [.ref a0, .ref a1, .ref a2, .ref a3, .int sz0, .int lf, .int av, .int (nI d)]))] U.heap ∧ va_K (dC, dI) vwCl [(cA, .int)] U ∧ va_D (fun _ => True) [(h0, .inr (2, [.ref h1, .ref h2, .long tr])), (h1, .inr (0, [.ref b0, .int (nI nw), .int (nI st), .int (nI kd)])), (h2, .inr (1, [.ref a0, .ref a1, .ref a2, .ref a3, .int sz0, .int lf, .int av, .int (nI d)]))])) (va_Qi (S := Nat × Nat) (fun r u => (r, u.1, u.2) = spSet w v d st kd ∧ CS u.1 u.2 nw wd) (fun (u : Nat × Nat) (t : State) => va_P (dC, dI) vwCl [(h0, .inr (2, [.ref h1, .ref h2, .long tr])), (h1, .inr (0, [.ref b0, .int (nI nw), .int (nI u.1), .int (nI u.2)])), (h2, .inr (1, [.ref a0, .ref a1, .ref a2, .ref a3, .int sz0, .int lf, .int av, .int (nI d)]))] t.heap ∧ va_K (dC, dI) vwCl [(cA, .int)] t ∧ va_D (va_A [(h0, .inr (2, [.ref h1, .ref h2, .long tr])), (h1, .inr (0, [.ref b0, .int (nI nw), .int (nI st), .int (nI kd)])), (h2, .inr (1, [.ref a0, .ref a1, .ref a2, .ref a3, .int sz0, .int lf, .int av, .int (nI d)]))] sz) [(h0, .inr (2, [.ref h1, .ref h2, .long tr])), (h1, .inr (0, [.ref b0, .int (nI nw), .int (nI u.1), .int (nI u.2)])), (h2, .inr (1, [.ref a0, .ref a1, .ref a2, .ref a3, .int sz0, .int lf, .int av, .int (nI d)]))]) (va_A [(h0, .inr (2, [.ref h1, .ref h2, .long tr])), (h1, .inr (0, [.ref b0, .int (nI nw), .int (nI st), .int (nI kd)])), (h2, .inr (1, [.ref a0, .ref a1, .ref a2, .ref a3, .int sz0, .int lf, .int av, .int (nI d)]))] sz)) 0 0 (va_A [(h0, .inr (2, [.ref h1, .ref h2, .long tr])), (h1, .inr (0, [.ref b0, .int (nI nw), .int (nI st), .int (nI kd)])), (h2, .inr (1, [.ref a0, .ref a1, .ref a2, .ref a3, .int sz0, .int lf, .int av, .int (nI d)]))] sz) := by
  refine Met.ofW (cc := cX2_set) (maxL := 5) (ret := (some .int)) (by decide) rfl ?_
  intro p e s m args below meth c s₁ B hml hv
  obtain ⟨rfl, hsz, hP, hK, hD0⟩ := hv
  have hx := B.exec
  have hb := B.bytes
  have hr := B.returns
  have hts := atoms_spec (ws := wsX2_set) B.pre
  have hown : s.vm.findClass RX2 = some m.cls := findClass_of_methodNamed B.named
  have hlocks := B.notSynchronized
  subst hsz
  have hD := hD0.self (sz := s.heap.size)
  generalize hAe : va_A [(h0, .inr (2, [.ref h1, .ref h2, .long tr])), (h1, .inr (0, [.ref b0, .int (nI nw), .int (nI st), .int (nI kd)])), (h2, .inr (1, [.ref a0, .ref a1, .ref a2, .ref a3, .int sz0, .int lf, .int av, .int (nI d)]))] s.heap.size = A at hD ⊢
  have hA : ∀ q : Nat, s.heap.size ≤ q → A q := fun q h => by rw [← hAe]; exact Or.inr h
  have hS : va_S A s.heap s.heap [] := va_S.rf
  have hP : va_P (dC, dI) vwCl [(h0, .inr (2, [.ref h1, .ref h2, .long tr])), (h1, .inr (0, [.ref b0, .int (nI nw), .int (nI st), .int (nI kd)])), (h2, .inr (1, [.ref a0, .ref a1, .ref a2, .ref a3, .int sz0, .int lf, .int av, .int (nI d)]))] s.heap := hP
  have hl := lv_entry ([.ref h0, .int w, .int v]) (n := 5) (Nat.le_of_ble_eq_true rfl)
  rw [lg_entry_eq]
  generalize (lg_sl ([.ref h0, .int w, .int v]) ++ List.replicate (5 - (lg_sl ([.ref h0, .int w, .int v])).length) Slot.unset).toArray = ls at hl ⊢
  have hl : lv_has ls 5 [(0, .ref h0), (1, .int w), (2, .int v)] := hl
  refine W_join (α := Int32) (pc' := 21) (ls' := ls) (st' := fun vj => [.int vj]) (Pj := fun vj => vj = zb (decide (w = 0) && wi v.toInt 1 20)) (fun J_21 => ?_) (fun v_21 hv_21 => ?_)
  · refine lv_iload_n hx hb dX2_set_0 rfl (lv_at hl 1 rfl) ?_
    refine lv_if_ne (tgt := 20) hx hb dX2_set_1 (by decide) (fun c_1 => ?_) (fun c_1 => ?_)
    · refine lv_iconst (v := 0) hx hb dX2_set_20 (by decide) ?_
      exact J_21 _ (by first | (rw [decide_eq_false c_1]; rfl) | (rw [decide_eq_true c_1, c_13]; rfl))
    · refine lv_iload_n hx hb dX2_set_4 rfl (lv_at hl 2 rfl) ?_
      refine lv_i2l (v := v.toInt64) hx hb dX2_set_5 rfl ?_
      refine lv_lconst (v := 1) hx hb dX2_set_6 (by decide) ?_
      refine lv_ldc2 (v := 20) hx hb hown (hts (.constantLong RX2 78 (20)) (by decide +kernel)) dX2_set_7 ?_
      refine vp_callSi (va_Run.run (va_runS (As := [.long v.toInt64, .long 1, .long 20]) (rest := []) ⟨hx, hb, hml, hown, hts⟩ (c_X2_isWithin l dC dI v.toInt64 1 20) (va_cwS 3 hts gX2_set_X2_isWithin rfl rfl rfl (by decide +kernel) ⟨Nat.le_of_ble_eq_true rfl, Nat.le_of_ble_eq_true rfl⟩) ⟨fun a U g mk q => ⟨q.1, trivial⟩, fun U hU hW => ⟨rfl, trivial⟩⟩ rfl rfl hl.1 rfl (lv_room (Nat.le_of_ble_eq_true rfl)) dX2_set_10 ⟨Nat.zero_le _, Nat.zero_le _⟩)) (fun r_10 hr_10 => ?_)
      obtain rfl : r_10 = zb (wi v.toInt 1 20) := hr_10.trans (by rw [i2l_toInt]; rfl)
      refine lv_if_eq (tgt := 20) hx hb dX2_set_13 (by decide) (fun c_13 => ?_) (fun c_13 => ?_)
      · have c_13 := zb_0.mp c_13
        refine lv_iconst (v := 0) hx hb dX2_set_20 (by decide) ?_
        exact J_21 _ (by first | (rw [decide_eq_false c_1]; rfl) | (rw [decide_eq_true c_1, c_13]; rfl))
      · have c_13 := zb_n.mp c_13
        refine lv_iconst (v := 1) hx hb dX2_set_16 (by decide) ?_
        refine lv_goto (tgt := 21) hx hb dX2_set_17 (by decide) ?_
        exact J_21 _ (by first | (rw [decide_eq_false c_1]; rfl) | (rw [decide_eq_true c_1, c_13]; rfl))
  subst hv_21
  refine lv_istore_n (lv' := [(3, .int (zb (decide (w = 0) && wi v.toInt 1 20))), (0, .ref h0), (1, .int w), (2, .int v)]) hx hb dX2_set_21 rfl hl (by decide) rfl (fun ls hl => ?_)
  refine W_join (α := Int32) (pc' := 44) (ls' := ls) (st' := fun vj => [.int vj]) (Pj := fun vj => vj = zb (decide (w = 1) && wi v.toInt 0 2)) (fun J_44 => ?_) (fun v_44 hv_44 => ?_)
  · refine lv_iload_n hx hb dX2_set_22 rfl (lv_at hl 2 rfl) ?_
    refine lv_iconst (v := 1) hx hb dX2_set_23 (by decide) ?_
    refine lv_icmp_ne (tgt := 43) hx hb dX2_set_24 (by decide) (fun c_24 => ?_) (fun c_24 => ?_)
    · refine lv_iconst (v := 0) hx hb dX2_set_43 (by decide) ?_
      exact J_44 _ (by first | (rw [decide_eq_false c_24]; rfl) | (rw [decide_eq_true c_24, c_36]; rfl))
    · refine lv_iload_n hx hb dX2_set_27 rfl (lv_at hl 3 rfl) ?_
      refine lv_i2l (v := v.toInt64) hx hb dX2_set_28 rfl ?_
      refine lv_lconst (v := 0) hx hb dX2_set_29 (by decide) ?_
      refine lv_ldc2 (v := 2) hx hb hown (hts (.constantLong RX2 80 (2)) (by decide +kernel)) dX2_set_30 ?_
      refine vp_callSi (va_Run.run (va_runS (As := [.long v.toInt64, .long 0, .long 2]) (rest := []) ⟨hx, hb, hml, hown, hts⟩ (c_X2_isWithin l dC dI v.toInt64 0 2) (va_cwS 3 hts gX2_set_X2_isWithin rfl rfl rfl (by decide +kernel) ⟨Nat.le_of_ble_eq_true rfl, Nat.le_of_ble_eq_true rfl⟩) ⟨fun a U g mk q => ⟨q.1, trivial⟩, fun U hU hW => ⟨rfl, trivial⟩⟩ rfl rfl hl.1 rfl (lv_room (Nat.le_of_ble_eq_true rfl)) dX2_set_33 ⟨Nat.zero_le _, Nat.zero_le _⟩)) (fun r_33 hr_33 => ?_)
      obtain rfl : r_33 = zb (wi v.toInt 0 2) := hr_33.trans (by rw [i2l_toInt]; rfl)
      refine lv_if_eq (tgt := 43) hx hb dX2_set_36 (by decide) (fun c_36 => ?_) (fun c_36 => ?_)
      · have c_36 := zb_0.mp c_36
        refine lv_iconst (v := 0) hx hb dX2_set_43 (by decide) ?_
        exact J_44 _ (by first | (rw [decide_eq_false c_24]; rfl) | (rw [decide_eq_true c_24, c_36]; rfl))
      · have c_36 := zb_n.mp c_36
        refine lv_iconst (v := 1) hx hb dX2_set_39 (by decide) ?_
        refine lv_goto (tgt := 44) hx hb dX2_set_40 (by decide) ?_
        exact J_44 _ (by first | (rw [decide_eq_false c_24]; rfl) | (rw [decide_eq_true c_24, c_36]; rfl))
  subst hv_44
  refine lv_istore (lv' := [(4, .int (zb (decide (w = 1) && wi v.toInt 0 2))), (3, .int (zb (decide (w = 0) && wi v.toInt 1 20))), (0, .ref h0), (1, .int w), (2, .int v)]) hx hb dX2_set_44 hl (by decide) rfl (fun ls hl => ?_)
  refine lv_iload_n hx hb dX2_set_46 rfl (lv_at hl 1 rfl) ?_
  refine lv_if_ne (tgt := 57) hx hb dX2_set_47 (by decide) (fun c_47 => ?_) (fun c_47 => ?_)
  · have c_47 := zb_n.mp c_47
    refine lv_aload_n hx hb dX2_set_57 rfl (lv_at hl 2 rfl) ?_
    refine va_get (D := (dC, dI)) (ci := 2) (v := .ref h2) (C := RX2) (T := TX2) (N := 3) hx hb hts (by decide +kernel) hown hK hP 0 rfl rfl 1 (by decide) (hts (.fieldLink RX2 19 "CountedOut" "people" "LCountedOut$Ring;") (by decide +kernel)) (fun _ h9 => h9) rfl dX2_set_58 ?_
    have hPc := hP.sub (ws' := [(h2, .inr (1, [.ref a0, .ref a1, .ref a2, .ref a3, .int sz0, .int lf, .int av, .int (nI d)]))]) [2] rfl
    refine vp_callSi (va_Run.run (va_runV (As := []) (rest := []) ⟨hx, hb, hml, hown, hts⟩ (c_X1_hasBegun l dC dI cA h2 a0 a1 a2 a3 d (by omega) sz0 lf av) (cwV 0 hts gX2_set_X1_hasBegun rfl rfl rfl (by decide +kernel) ⟨Nat.le_of_ble_eq_true rfl, Nat.le_of_ble_eq_true rfl⟩) ⟨fun a U g mk q => by obtain ⟨q0, qP, qK⟩ := q; exact ⟨q0, qP, va_K.moved (u := U) (U := U.calling g mk a) (Vm.Alike.refl U.vm) qK⟩, va_recv hK hP (ci := 1) (q0 := 2) rfl rfl, fun U hU hW => ⟨rfl, by rw [hU]; exact hPc, va_K.moved hW.alike hK⟩⟩ rfl rfl hl.1 rfl (lv_room (Nat.le_of_ble_eq_true rfl)) dX2_set_61 ⟨Nat.zero_le _, Nat.zero_le _⟩)) (fun r_61 hr_61 => ?_)
    subst hr_61
    refine lv_if_eq (tgt := 70) hx hb dX2_set_64 (by decide) (fun c_64 => ?_) (fun c_64 => ?_)
    · have c_64 := zb_0.mp c_64
      refine lv_iload_n hx hb dX2_set_70 rfl (lv_at hl 1 rfl) ?_
      refine lv_if_eq (tgt := 85) hx hb dX2_set_71 (by decide) (fun c_71 => ?_) (fun c_71 => ?_)
      · have c_71 := zb_0.mp c_71
        have c_52 : (decide (w = 1) && wi v.toInt 0 2) = true := by first | exact c_52 | (rw [c_71] at c_47; cases c_47)
        obtain ⟨v1, hv1, hv2, rfl⟩ := nI_wi (a := 0) (b := 2) (Bool.and_eq_true_iff.mp c_52).2
        refine lv_aload_n hx hb dX2_set_85 rfl (lv_at hl 2 rfl) ?_
        refine va_get (D := (dC, dI)) (ci := 2) (v := .ref h1) (C := RX2) (T := TX2) (N := 3) hx hb hts (by decide +kernel) hown hK hP 0 rfl rfl 0 (by decide) (hts (.fieldLink RX2 12 "CountedOut" "counts" "LCountedOut$Counts;") (by decide +kernel)) (fun _ h9 => h9) rfl dX2_set_86 ?_
        refine lv_iload_n hx hb dX2_set_89 rfl (lv_at hl 4 rfl) ?_
        have hPc := hP.sub (ws' := [(h1, .inr (0, [.ref b0, .int (nI nw), .int (nI st), .int (nI kd)]))]) [1] rfl
        have hDc := hD.sub (ws' := [(h1, .inr (0, [.ref b0, .int (nI nw), .int (nI st), .int (nI kd)]))]) [1] (by decide) rfl
        have hFc := va_free (wc := [(h1, .inr (0, [.ref b0, .int (nI nw), .int (nI st), .int (nI kd)]))]) hD hS hA [1] rfl
        refine va_calli (va_runV (As := [.int (nI v1)]) (rest := []) ⟨hx, hb, hml, hown, hts⟩ (c_X0_changeKind l dC dI s.heap.size cA h1 b0 (nI nw) (nI st) (nI kd) (nI v1)) (cwV 1 hts gX2_set_X0_changeKind rfl rfl rfl (by decide +kernel) ⟨Nat.le_of_ble_eq_true rfl, Nat.le_of_ble_eq_true rfl⟩) ⟨fun a U g mk q => by obtain ⟨q0, q1, qP, qK, qD⟩ := q; exact ⟨q0, q1, qP, va_K.moved (u := U) (U := U.calling g mk a) (Vm.Alike.refl U.vm) qK, qD⟩, va_recv hK hP (ci := 0) (q0 := 1) rfl rfl, fun U hU hW => ⟨rfl, by rw [hU], by rw [hU]; exact hPc, va_K.moved hW.alike hK, hDc.weaken (fun _ _ _ _ => trivial)⟩⟩ rfl rfl hl.1 rfl (lv_room (Nat.le_of_ble_eq_true rfl)) dX2_set_90 ⟨Nat.zero_le _, Nat.zero_le _⟩) hS (fun q _ h => hFc q h) hFc (fun r_90 u_90 t_90 H1 locs ht_90 hvm_90 hw_90 hB_90 hz1 hk1 hS => ?_)
        obtain ⟨hP1, hK1, hD1⟩ := hB_90
        rw [ht_90] at hP1
        obtain ⟨hP, hD⟩ := va_join (wr := [(h0, .inr (2, [.ref h1, .ref h2, .long tr])), (h2, .inr (1, [.ref a0, .ref a1, .ref a2, .ref a3, .int sz0, .int lf, .int av, .int (nI d)]))]) (w1 := [(h1, .inr (0, [.ref b0, .int (nI nw), .int (nI st), .int (nI v1)]))]) hP hD [1] [0, 2] rfl rfl (by decide) (by decide) hk1 hFc hP1 hD1
        generalize H1 = H at hP hS ⊢
        have hP := hP.sub (ws' := [(h0, .inr (2, [.ref h1, .ref h2, .long tr])), (h1, .inr (0, [.ref b0, .int (nI nw), .int (nI st), .int (nI v1)])), (h2, .inr (1, [.ref a0, .ref a1, .ref a2, .ref a3, .int sz0, .int lf, .int av, .int (nI d)]))]) [0, 2, 1] rfl
        have hD := hD.sub (ws' := [(h0, .inr (2, [.ref h1, .ref h2, .long tr])), (h1, .inr (0, [.ref b0, .int (nI nw), .int (nI st), .int (nI v1)])), (h2, .inr (1, [.ref a0, .ref a1, .ref a2, .ref a3, .int sz0, .int lf, .int av, .int (nI d)]))]) [0, 2, 1] (by decide) rfl
        subst hw_90
        have hP9 := hP.sub (ws' := [(h0, .inr (2, [.ref h1, .ref h2, .long tr])), (h1, .inr (0, [.ref b0, .int (nI nw), .int (nI st), .int (nI v1)])), (h2, .inr (1, [.ref a0, .ref a1, .ref a2, .ref a3, .int sz0, .int lf, .int av, .int (nI d)]))]) [0, 1, 2] rfl
        have hD9 := hD.sub (ws' := [(h0, .inr (2, [.ref h1, .ref h2, .long tr])), (h1, .inr (0, [.ref b0, .int (nI nw), .int (nI st), .int (nI v1)])), (h2, .inr (1, [.ref a0, .ref a1, .ref a2, .ref a3, .int sz0, .int lf, .int av, .int (nI d)]))]) [0, 1, 2] (by decide) rfl
        exact W.iret (v := nI kd) hx hb hr (fun t ht hW => ⟨⟨_, (st, v1), rfl, ⟨by rw [spSet_eq, if_neg (by rw [c_71]; decide), if_pos c_52, if_neg (of_decide_eq_false c_64), nI_toInt (by omega)]; rfl, CS_kd hCS hv2⟩, ⟨by rw [ht]; exact hP9, va_K.moved hW.alike hK, hD9⟩⟩, hS.F ht⟩) hS.2.2 dX2_set_93
      · have c_71 := zb_n.mp c_71
        obtain ⟨v1, hv1, hv2, rfl⟩ := nI_wi (a := 1) (b := 20) (Bool.and_eq_true_iff.mp c_71).2
        refine lv_aload_n hx hb dX2_set_74 rfl (lv_at hl 2 rfl) ?_
        refine va_get (D := (dC, dI)) (ci := 2) (v := .ref h1) (C := RX2) (T := TX2) (N := 3) hx hb hts (by decide +kernel) hown hK hP 0 rfl rfl 0 (by decide) (hts (.fieldLink RX2 12 "CountedOut" "counts" "LCountedOut$Counts;") (by decide +kernel)) (fun _ h9 => h9) rfl dX2_set_75 ?_
        refine lv_iload_n hx hb dX2_set_78 rfl (lv_at hl 4 rfl) ?_
        have hPc := hP.sub (ws' := [(h1, .inr (0, [.ref b0, .int (nI nw), .int (nI st), .int (nI kd)]))]) [1] rfl
        have hDc := hD.sub (ws' := [(h1, .inr (0, [.ref b0, .int (nI nw), .int (nI st), .int (nI kd)]))]) [1] (by decide) rfl
        have hFc := va_free (wc := [(h1, .inr (0, [.ref b0, .int (nI nw), .int (nI st), .int (nI kd)]))]) hD hS hA [1] rfl
        refine va_calli (va_runV (As := [.int (nI v1)]) (rest := []) ⟨hx, hb, hml, hown, hts⟩ (c_X0_changeStep l dC dI s.heap.size cA h1 b0 (nI nw) (nI st) (nI kd) (nI v1)) (cwV 1 hts gX2_set_X0_changeStep rfl rfl rfl (by decide +kernel) ⟨Nat.le_of_ble_eq_true rfl, Nat.le_of_ble_eq_true rfl⟩) ⟨fun a U g mk q => by obtain ⟨q0, q1, qP, qK, qD⟩ := q; exact ⟨q0, q1, qP, va_K.moved (u := U) (U := U.calling g mk a) (Vm.Alike.refl U.vm) qK, qD⟩, va_recv hK hP (ci := 0) (q0 := 1) rfl rfl, fun U hU hW => ⟨rfl, by rw [hU], by rw [hU]; exact hPc, va_K.moved hW.alike hK, hDc.weaken (fun _ _ _ _ => trivial)⟩⟩ rfl rfl hl.1 rfl (lv_room (Nat.le_of_ble_eq_true rfl)) dX2_set_79 ⟨Nat.zero_le _, Nat.zero_le _⟩) hS (fun q _ h => hFc q h) hFc (fun r_79 u_79 t_79 H1 locs ht_79 hvm_79 hw_79 hB_79 hz1 hk1 hS => ?_)
        obtain ⟨hP1, hK1, hD1⟩ := hB_79
        rw [ht_79] at hP1
        obtain ⟨hP, hD⟩ := va_join (wr := [(h0, .inr (2, [.ref h1, .ref h2, .long tr])), (h2, .inr (1, [.ref a0, .ref a1, .ref a2, .ref a3, .int sz0, .int lf, .int av, .int (nI d)]))]) (w1 := [(h1, .inr (0, [.ref b0, .int (nI nw), .int (nI v1), .int (nI kd)]))]) hP hD [1] [0, 2] rfl rfl (by decide) (by decide) hk1 hFc hP1 hD1
        generalize H1 = H at hP hS ⊢
        have hP := hP.sub (ws' := [(h0, .inr (2, [.ref h1, .ref h2, .long tr])), (h1, .inr (0, [.ref b0, .int (nI nw), .int (nI v1), .int (nI kd)])), (h2, .inr (1, [.ref a0, .ref a1, .ref a2, .ref a3, .int sz0, .int lf, .int av, .int (nI d)]))]) [0, 2, 1] rfl
        have hD := hD.sub (ws' := [(h0, .inr (2, [.ref h1, .ref h2, .long tr])), (h1, .inr (0, [.ref b0, .int (nI nw), .int (nI v1), .int (nI kd)])), (h2, .inr (1, [.ref a0, .ref a1, .ref a2, .ref a3, .int sz0, .int lf, .int av, .int (nI d)]))]) [0, 2, 1] (by decide) rfl
        subst hw_79
        refine lv_goto (tgt := 93) hx hb dX2_set_82 (by decide) ?_
        have hP9 := hP.sub (ws' := [(h0, .inr (2, [.ref h1, .ref h2, .long tr])), (h1, .inr (0, [.ref b0, .int (nI nw), .int (nI v1), .int (nI kd)])), (h2, .inr (1, [.ref a0, .ref a1, .ref a2, .ref a3, .int sz0, .int lf, .int av, .int (nI d)]))]) [0, 1, 2] rfl
        have hD9 := hD.sub (ws' := [(h0, .inr (2, [.ref h1, .ref h2, .long tr])), (h1, .inr (0, [.ref b0, .int (nI nw), .int (nI v1), .int (nI kd)])), (h2, .inr (1, [.ref a0, .ref a1, .ref a2, .ref a3, .int sz0, .int lf, .int av, .int (nI d)]))]) [0, 1, 2] (by decide) rfl
        exact W.iret (v := nI st) hx hb hr (fun t ht hW => ⟨⟨_, (v1, kd), rfl, ⟨by rw [spSet_eq, if_pos c_71, if_neg (of_decide_eq_false c_64), nI_toInt (by omega)]; rfl, CS_st hCS hv1 hv2⟩, ⟨by rw [ht]; exact hP9, va_K.moved hW.alike hK, hD9⟩⟩, hS.F ht⟩) hS.2.2 dX2_set_93
    · have c_64 := zb_n.mp c_64
      refine lv_bipush (v := (-2)) hx hb dX2_set_67 (by decide) ?_
      have hP9 := hP.sub (ws' := [(h0, .inr (2, [.ref h1, .ref h2, .long tr])), (h1, .inr (0, [.ref b0, .int (nI nw), .int (nI st), .int (nI kd)])), (h2, .inr (1, [.ref a0, .ref a1, .ref a2, .ref a3, .int sz0, .int lf, .int av, .int (nI d)]))]) [0, 1, 2] rfl
      have hD9 := hD.sub (ws' := [(h0, .inr (2, [.ref h1, .ref h2, .long tr])), (h1, .inr (0, [.ref b0, .int (nI nw), .int (nI st), .int (nI kd)])), (h2, .inr (1, [.ref a0, .ref a1, .ref a2, .ref a3, .int sz0, .int lf, .int av, .int (nI d)]))]) [0, 1, 2] (by decide) rfl
      exact W.iret (v := (-2)) hx hb hr (fun t ht hW => ⟨⟨_, (st, kd), rfl, ⟨by rw [spSet_eq]; first | (rw [if_pos c_47, if_pos (of_decide_eq_true c_64)]) | (rw [if_neg (by rw [c_47]; decide), if_pos c_52, if_pos (of_decide_eq_true c_64)]), hCS⟩, ⟨by rw [ht]; exact hP9, va_K.moved hW.alike hK, hD9⟩⟩, hS.F ht⟩) hS.2.2 dX2_set_69
  · have c_47 := zb_0.mp c_47
    refine lv_iload hx hb dX2_set_50 (lv_at hl 0 rfl) ?_
    refine lv_if_ne (tgt := 57) hx hb dX2_set_52 (by decide) (fun c_52 => ?_) (fun c_52 => ?_)
    · have c_52 := zb_n.mp c_52
      refine lv_aload_n hx hb dX2_set_57 rfl (lv_at hl 2 rfl) ?_
      refine va_get (D := (dC, dI)) (ci := 2) (v := .ref h2) (C := RX2) (T := TX2) (N := 3) hx hb hts (by decide +kernel) hown hK hP 0 rfl rfl 1 (by decide) (hts (.fieldLink RX2 19 "CountedOut" "people" "LCountedOut$Ring;") (by decide +kernel)) (fun _ h9 => h9) rfl dX2_set_58 ?_
      have hPc := hP.sub (ws' := [(h2, .inr (1, [.ref a0, .ref a1, .ref a2, .ref a3, .int sz0, .int lf, .int av, .int (nI d)]))]) [2] rfl
      refine vp_callSi (va_Run.run (va_runV (As := []) (rest := []) ⟨hx, hb, hml, hown, hts⟩ (c_X1_hasBegun l dC dI cA h2 a0 a1 a2 a3 d (by omega) sz0 lf av) (cwV 0 hts gX2_set_X1_hasBegun rfl rfl rfl (by decide +kernel) ⟨Nat.le_of_ble_eq_true rfl, Nat.le_of_ble_eq_true rfl⟩) ⟨fun a U g mk q => by obtain ⟨q0, qP, qK⟩ := q; exact ⟨q0, qP, va_K.moved (u := U) (U := U.calling g mk a) (Vm.Alike.refl U.vm) qK⟩, va_recv hK hP (ci := 1) (q0 := 2) rfl rfl, fun U hU hW => ⟨rfl, by rw [hU]; exact hPc, va_K.moved hW.alike hK⟩⟩ rfl rfl hl.1 rfl (lv_room (Nat.le_of_ble_eq_true rfl)) dX2_set_61 ⟨Nat.zero_le _, Nat.zero_le _⟩)) (fun r_61 hr_61 => ?_)
      subst hr_61
      refine lv_if_eq (tgt := 70) hx hb dX2_set_64 (by decide) (fun c_64 => ?_) (fun c_64 => ?_)
      · have c_64 := zb_0.mp c_64
        refine lv_iload_n hx hb dX2_set_70 rfl (lv_at hl 1 rfl) ?_
        refine lv_if_eq (tgt := 85) hx hb dX2_set_71 (by decide) (fun c_71 => ?_) (fun c_71 => ?_)
        · have c_71 := zb_0.mp c_71
          have c_52 : (decide (w = 1) && wi v.toInt 0 2) = true := by first | exact c_52 | (rw [c_71] at c_47; cases c_47)
          obtain ⟨v1, hv1, hv2, rfl⟩ := nI_wi (a := 0) (b := 2) (Bool.and_eq_true_iff.mp c_52).2
          refine lv_aload_n hx hb dX2_set_85 rfl (lv_at hl 2 rfl) ?_
          refine va_get (D := (dC, dI)) (ci := 2) (v := .ref h1) (C := RX2) (T := TX2) (N := 3) hx hb hts (by decide +kernel) hown hK hP 0 rfl rfl 0 (by decide) (hts (.fieldLink RX2 12 "CountedOut" "counts" "LCountedOut$Counts;") (by decide +kernel)) (fun _ h9 => h9) rfl dX2_set_86 ?_
          refine lv_iload_n hx hb dX2_set_89 rfl (lv_at hl 4 rfl) ?_
          have hPc := hP.sub (ws' := [(h1, .inr (0, [.ref b0, .int (nI nw), .int (nI st), .int (nI kd)]))]) [1] rfl
          have hDc := hD.sub (ws' := [(h1, .inr (0, [.ref b0, .int (nI nw), .int (nI st), .int (nI kd)]))]) [1] (by decide) rfl
          have hFc := va_free (wc := [(h1, .inr (0, [.ref b0, .int (nI nw), .int (nI st), .int (nI kd)]))]) hD hS hA [1] rfl
          refine va_calli (va_runV (As := [.int (nI v1)]) (rest := []) ⟨hx, hb, hml, hown, hts⟩ (c_X0_changeKind l dC dI s.heap.size cA h1 b0 (nI nw) (nI st) (nI kd) (nI v1)) (cwV 1 hts gX2_set_X0_changeKind rfl rfl rfl (by decide +kernel) ⟨Nat.le_of_ble_eq_true rfl, Nat.le_of_ble_eq_true rfl⟩) ⟨fun a U g mk q => by obtain ⟨q0, q1, qP, qK, qD⟩ := q; exact ⟨q0, q1, qP, va_K.moved (u := U) (U := U.calling g mk a) (Vm.Alike.refl U.vm) qK, qD⟩, va_recv hK hP (ci := 0) (q0 := 1) rfl rfl, fun U hU hW => ⟨rfl, by rw [hU], by rw [hU]; exact hPc, va_K.moved hW.alike hK, hDc.weaken (fun _ _ _ _ => trivial)⟩⟩ rfl rfl hl.1 rfl (lv_room (Nat.le_of_ble_eq_true rfl)) dX2_set_90 ⟨Nat.zero_le _, Nat.zero_le _⟩) hS (fun q _ h => hFc q h) hFc (fun r_90 u_90 t_90 H1 locs ht_90 hvm_90 hw_90 hB_90 hz1 hk1 hS => ?_)
          obtain ⟨hP1, hK1, hD1⟩ := hB_90
          rw [ht_90] at hP1
          obtain ⟨hP, hD⟩ := va_join (wr := [(h0, .inr (2, [.ref h1, .ref h2, .long tr])), (h2, .inr (1, [.ref a0, .ref a1, .ref a2, .ref a3, .int sz0, .int lf, .int av, .int (nI d)]))]) (w1 := [(h1, .inr (0, [.ref b0, .int (nI nw), .int (nI st), .int (nI v1)]))]) hP hD [1] [0, 2] rfl rfl (by decide) (by decide) hk1 hFc hP1 hD1
          generalize H1 = H at hP hS ⊢
          have hP := hP.sub (ws' := [(h0, .inr (2, [.ref h1, .ref h2, .long tr])), (h1, .inr (0, [.ref b0, .int (nI nw), .int (nI st), .int (nI v1)])), (h2, .inr (1, [.ref a0, .ref a1, .ref a2, .ref a3, .int sz0, .int lf, .int av, .int (nI d)]))]) [0, 2, 1] rfl
          have hD := hD.sub (ws' := [(h0, .inr (2, [.ref h1, .ref h2, .long tr])), (h1, .inr (0, [.ref b0, .int (nI nw), .int (nI st), .int (nI v1)])), (h2, .inr (1, [.ref a0, .ref a1, .ref a2, .ref a3, .int sz0, .int lf, .int av, .int (nI d)]))]) [0, 2, 1] (by decide) rfl
          subst hw_90
          have hP9 := hP.sub (ws' := [(h0, .inr (2, [.ref h1, .ref h2, .long tr])), (h1, .inr (0, [.ref b0, .int (nI nw), .int (nI st), .int (nI v1)])), (h2, .inr (1, [.ref a0, .ref a1, .ref a2, .ref a3, .int sz0, .int lf, .int av, .int (nI d)]))]) [0, 1, 2] rfl
          have hD9 := hD.sub (ws' := [(h0, .inr (2, [.ref h1, .ref h2, .long tr])), (h1, .inr (0, [.ref b0, .int (nI nw), .int (nI st), .int (nI v1)])), (h2, .inr (1, [.ref a0, .ref a1, .ref a2, .ref a3, .int sz0, .int lf, .int av, .int (nI d)]))]) [0, 1, 2] (by decide) rfl
          exact W.iret (v := nI kd) hx hb hr (fun t ht hW => ⟨⟨_, (st, v1), rfl, ⟨by rw [spSet_eq, if_neg (by rw [c_71]; decide), if_pos c_52, if_neg (of_decide_eq_false c_64), nI_toInt (by omega)]; rfl, CS_kd hCS hv2⟩, ⟨by rw [ht]; exact hP9, va_K.moved hW.alike hK, hD9⟩⟩, hS.F ht⟩) hS.2.2 dX2_set_93
        · have c_71 := zb_n.mp c_71
          obtain ⟨v1, hv1, hv2, rfl⟩ := nI_wi (a := 1) (b := 20) (Bool.and_eq_true_iff.mp c_71).2
          refine lv_aload_n hx hb dX2_set_74 rfl (lv_at hl 2 rfl) ?_
          refine va_get (D := (dC, dI)) (ci := 2) (v := .ref h1) (C := RX2) (T := TX2) (N := 3) hx hb hts (by decide +kernel) hown hK hP 0 rfl rfl 0 (by decide) (hts (.fieldLink RX2 12 "CountedOut" "counts" "LCountedOut$Counts;") (by decide +kernel)) (fun _ h9 => h9) rfl dX2_set_75 ?_
          refine lv_iload_n hx hb dX2_set_78 rfl (lv_at hl 4 rfl) ?_
          have hPc := hP.sub (ws' := [(h1, .inr (0, [.ref b0, .int (nI nw), .int (nI st), .int (nI kd)]))]) [1] rfl
          have hDc := hD.sub (ws' := [(h1, .inr (0, [.ref b0, .int (nI nw), .int (nI st), .int (nI kd)]))]) [1] (by decide) rfl
          have hFc := va_free (wc := [(h1, .inr (0, [.ref b0, .int (nI nw), .int (nI st), .int (nI kd)]))]) hD hS hA [1] rfl
          refine va_calli (va_runV (As := [.int (nI v1)]) (rest := []) ⟨hx, hb, hml, hown, hts⟩ (c_X0_changeStep l dC dI s.heap.size cA h1 b0 (nI nw) (nI st) (nI kd) (nI v1)) (cwV 1 hts gX2_set_X0_changeStep rfl rfl rfl (by decide +kernel) ⟨Nat.le_of_ble_eq_true rfl, Nat.le_of_ble_eq_true rfl⟩) ⟨fun a U g mk q => by obtain ⟨q0, q1, qP, qK, qD⟩ := q; exact ⟨q0, q1, qP, va_K.moved (u := U) (U := U.calling g mk a) (Vm.Alike.refl U.vm) qK, qD⟩, va_recv hK hP (ci := 0) (q0 := 1) rfl rfl, fun U hU hW => ⟨rfl, by rw [hU], by rw [hU]; exact hPc, va_K.moved hW.alike hK, hDc.weaken (fun _ _ _ _ => trivial)⟩⟩ rfl rfl hl.1 rfl (lv_room (Nat.le_of_ble_eq_true rfl)) dX2_set_79 ⟨Nat.zero_le _, Nat.zero_le _⟩) hS (fun q _ h => hFc q h) hFc (fun r_79 u_79 t_79 H1 locs ht_79 hvm_79 hw_79 hB_79 hz1 hk1 hS => ?_)
          obtain ⟨hP1, hK1, hD1⟩ := hB_79
          rw [ht_79] at hP1
          obtain ⟨hP, hD⟩ := va_join (wr := [(h0, .inr (2, [.ref h1, .ref h2, .long tr])), (h2, .inr (1, [.ref a0, .ref a1, .ref a2, .ref a3, .int sz0, .int lf, .int av, .int (nI d)]))]) (w1 := [(h1, .inr (0, [.ref b0, .int (nI nw), .int (nI v1), .int (nI kd)]))]) hP hD [1] [0, 2] rfl rfl (by decide) (by decide) hk1 hFc hP1 hD1
          generalize H1 = H at hP hS ⊢
          have hP := hP.sub (ws' := [(h0, .inr (2, [.ref h1, .ref h2, .long tr])), (h1, .inr (0, [.ref b0, .int (nI nw), .int (nI v1), .int (nI kd)])), (h2, .inr (1, [.ref a0, .ref a1, .ref a2, .ref a3, .int sz0, .int lf, .int av, .int (nI d)]))]) [0, 2, 1] rfl
          have hD := hD.sub (ws' := [(h0, .inr (2, [.ref h1, .ref h2, .long tr])), (h1, .inr (0, [.ref b0, .int (nI nw), .int (nI v1), .int (nI kd)])), (h2, .inr (1, [.ref a0, .ref a1, .ref a2, .ref a3, .int sz0, .int lf, .int av, .int (nI d)]))]) [0, 2, 1] (by decide) rfl
          subst hw_79
          refine lv_goto (tgt := 93) hx hb dX2_set_82 (by decide) ?_
          have hP9 := hP.sub (ws' := [(h0, .inr (2, [.ref h1, .ref h2, .long tr])), (h1, .inr (0, [.ref b0, .int (nI nw), .int (nI v1), .int (nI kd)])), (h2, .inr (1, [.ref a0, .ref a1, .ref a2, .ref a3, .int sz0, .int lf, .int av, .int (nI d)]))]) [0, 1, 2] rfl
          have hD9 := hD.sub (ws' := [(h0, .inr (2, [.ref h1, .ref h2, .long tr])), (h1, .inr (0, [.ref b0, .int (nI nw), .int (nI v1), .int (nI kd)])), (h2, .inr (1, [.ref a0, .ref a1, .ref a2, .ref a3, .int sz0, .int lf, .int av, .int (nI d)]))]) [0, 1, 2] (by decide) rfl
          exact W.iret (v := nI st) hx hb hr (fun t ht hW => ⟨⟨_, (v1, kd), rfl, ⟨by rw [spSet_eq, if_pos c_71, if_neg (of_decide_eq_false c_64), nI_toInt (by omega)]; rfl, CS_st hCS hv1 hv2⟩, ⟨by rw [ht]; exact hP9, va_K.moved hW.alike hK, hD9⟩⟩, hS.F ht⟩) hS.2.2 dX2_set_93
      · have c_64 := zb_n.mp c_64
        refine lv_bipush (v := (-2)) hx hb dX2_set_67 (by decide) ?_
        have hP9 := hP.sub (ws' := [(h0, .inr (2, [.ref h1, .ref h2, .long tr])), (h1, .inr (0, [.ref b0, .int (nI nw), .int (nI st), .int (nI kd)])), (h2, .inr (1, [.ref a0, .ref a1, .ref a2, .ref a3, .int sz0, .int lf, .int av, .int (nI d)]))]) [0, 1, 2] rfl
        have hD9 := hD.sub (ws' := [(h0, .inr (2, [.ref h1, .ref h2, .long tr])), (h1, .inr (0, [.ref b0, .int (nI nw), .int (nI st), .int (nI kd)])), (h2, .inr (1, [.ref a0, .ref a1, .ref a2, .ref a3, .int sz0, .int lf, .int av, .int (nI d)]))]) [0, 1, 2] (by decide) rfl
        exact W.iret (v := (-2)) hx hb hr (fun t ht hW => ⟨⟨_, (st, kd), rfl, ⟨by rw [spSet_eq]; first | (rw [if_pos c_47, if_pos (of_decide_eq_true c_64)]) | (rw [if_neg (by rw [c_47]; decide), if_pos c_52, if_pos (of_decide_eq_true c_64)]), hCS⟩, ⟨by rw [ht]; exact hP9, va_K.moved hW.alike hK, hD9⟩⟩, hS.F ht⟩) hS.2.2 dX2_set_69
    · have c_52 := zb_0.mp c_52
      refine lv_iconst (v := (-1)) hx hb dX2_set_55 (by decide) ?_
      have hP9 := hP.sub (ws' := [(h0, .inr (2, [.ref h1, .ref h2, .long tr])), (h1, .inr (0, [.ref b0, .int (nI nw), .int (nI st), .int (nI kd)])), (h2, .inr (1, [.ref a0, .ref a1, .ref a2, .ref a3, .int sz0, .int lf, .int av, .int (nI d)]))]) [0, 1, 2] rfl
      have hD9 := hD.sub (ws' := [(h0, .inr (2, [.ref h1, .ref h2, .long tr])), (h1, .inr (0, [.ref b0, .int (nI nw), .int (nI st), .int (nI kd)])), (h2, .inr (1, [.ref a0, .ref a1, .ref a2, .ref a3, .int sz0, .int lf, .int av, .int (nI d)]))]) [0, 1, 2] (by decide) rfl
      exact W.iret (v := (-1)) hx hb hr (fun t ht hW => ⟨⟨_, (st, kd), rfl, ⟨by rw [spSet_eq, if_neg (by rw [c_47]; decide), if_neg (by rw [c_52]; decide)], hCS⟩, ⟨by rw [ht]; exact hP9, va_K.moved hW.alike hK, hD9⟩⟩, hS.F ht⟩) hS.2.2 dX2_set_56

set_option maxHeartbeats 4000000 in
set_option maxRecDepth 100000 in
theorem c_X2_words (l : Launch) (dC : Nat → ClassId) (dI : Nat → Nat → Nat) (sz : Nat) (cA : ClassId) (h0 h1 h2 b0 a0 a1 a2 a3 : Nat) (tr : Int64) (st kd nw : Nat) (wd : Nat → Nat) (hCS : CS st kd nw wd) (WR : Nat → Int32) (hCR : CR nw wd WR) (dn : Nat) (hd : dn < 200) (sz0 lf av : Int32) (n a b c0 d : Int32) (tw : Bool) : Met l yX2_words wsX2_words ({ frames := 2, cells := 0, slots := 0, locals := 45 }) (va_Pc [.ref h0, .int n, .int a, .int b, .int c0, .int d, .int (zb tw)] (fun U => U.heap.size = sz ∧ va_P (dC, dI) vwCl [(h0, .inr (2, [.ref h1, .ref h2, .long tr])), (h1, .inr (0, [.ref b0, .int (nI nw), .int (nI st), .int (nI kd)])), (b0, .inl (cA, 8, .inl WR)), (h2, .inr (1, [.ref a0, .ref a1, .ref a2, .ref a3, .int sz0, .int lf, .int av, .int (nI dn)]))] U.heap ∧ va_K (dC, dI) vwCl [(cA, .int)] U ∧ va_D (fun _ => True) [(h0, .inr (2, [.ref h1, .ref h2, .long tr])), (h1, .inr (0, [.ref b0, .int (nI nw), .int (nI st), .int (nI kd)])), (b0, .inl (cA, 8, .inl WR)), (h2, .inr (1, [.ref a0, .ref a1, .ref a2, .ref a3, .int sz0, .int lf, .int av, .int (nI dn)]))])) (va_Qi (S := Nat × (Nat → Nat) × (Nat → Int32)) (fun r u => (r, u.1, u.2.1) = spWords n a b c0 d tw dn nw wd ∧ CS st kd u.1 u.2.1 ∧ CR u.1 u.2.1 u.2.2) (fun (u : Nat × (Nat → Nat) × (Nat → Int32)) (t : State) => va_P (dC, dI) vwCl [(h0, .inr (2, [.ref h1, .ref h2, .long tr])), (h1, .inr (0, [.ref b0, .int (nI u.1), .int (nI st), .int (nI kd)])), (b0, .inl (cA, 8, .inl u.2.2)), (h2, .inr (1, [.ref a0, .ref a1, .ref a2, .ref a3, .int sz0, .int lf, .int av, .int (nI dn)]))] t.heap ∧ va_K (dC, dI) vwCl [(cA, .int)] t ∧ va_D (va_A [(h0, .inr (2, [.ref h1, .ref h2, .long tr])), (h1, .inr (0, [.ref b0, .int (nI nw), .int (nI st), .int (nI kd)])), (b0, .inl (cA, 8, .inl WR)), (h2, .inr (1, [.ref a0, .ref a1, .ref a2, .ref a3, .int sz0, .int lf, .int av, .int (nI dn)]))] sz) [(h0, .inr (2, [.ref h1, .ref h2, .long tr])), (h1, .inr (0, [.ref b0, .int (nI u.1), .int (nI st), .int (nI kd)])), (b0, .inl (cA, 8, .inl u.2.2)), (h2, .inr (1, [.ref a0, .ref a1, .ref a2, .ref a3, .int sz0, .int lf, .int av, .int (nI dn)]))]) (va_A [(h0, .inr (2, [.ref h1, .ref h2, .long tr])), (h1, .inr (0, [.ref b0, .int (nI nw), .int (nI st), .int (nI kd)])), (b0, .inl (cA, 8, .inl WR)), (h2, .inr (1, [.ref a0, .ref a1, .ref a2, .ref a3, .int sz0, .int lf, .int av, .int (nI dn)]))] sz)) 0 0 (va_A [(h0, .inr (2, [.ref h1, .ref h2, .long tr])), (h1, .inr (0, [.ref b0, .int (nI nw), .int (nI st), .int (nI kd)])), (b0, .inl (cA, 8, .inl WR)), (h2, .inr (1, [.ref a0, .ref a1, .ref a2, .ref a3, .int sz0, .int lf, .int av, .int (nI dn)]))] sz) := by
  refine Met.ofW (cc := cX2_words) (maxL := 7) (ret := (some .int)) (by decide) rfl ?_
  intro p e s m args below meth c s₁ B hml hv
  obtain ⟨rfl, hsz, hP, hK, hD0⟩ := hv
  have hx := B.exec
  have hb := B.bytes
  have hr := B.returns
  have hts := atoms_spec (ws := wsX2_words) B.pre
  have hown : s.vm.findClass RX2 = some m.cls := findClass_of_methodNamed B.named
  have hlocks := B.notSynchronized
  subst hsz
  have hD := hD0.self (sz := s.heap.size)
  generalize hAe : va_A [(h0, .inr (2, [.ref h1, .ref h2, .long tr])), (h1, .inr (0, [.ref b0, .int (nI nw), .int (nI st), .int (nI kd)])), (b0, .inl (cA, 8, .inl WR)), (h2, .inr (1, [.ref a0, .ref a1, .ref a2, .ref a3, .int sz0, .int lf, .int av, .int (nI dn)]))] s.heap.size = A at hD ⊢
  have hA : ∀ q : Nat, s.heap.size ≤ q → A q := fun q h => by rw [← hAe]; exact Or.inr h
  have hS : va_S A s.heap s.heap [] := va_S.rf
  have hP : va_P (dC, dI) vwCl [(h0, .inr (2, [.ref h1, .ref h2, .long tr])), (h1, .inr (0, [.ref b0, .int (nI nw), .int (nI st), .int (nI kd)])), (b0, .inl (cA, 8, .inl WR)), (h2, .inr (1, [.ref a0, .ref a1, .ref a2, .ref a3, .int sz0, .int lf, .int av, .int (nI dn)]))] s.heap := hP
  have hl := lv_entry ([.ref h0, .int n, .int a, .int b, .int c0, .int d, .int (zb tw)]) (n := 7) (Nat.le_of_ble_eq_true rfl)
  rw [lg_entry_eq]
  generalize (lg_sl ([.ref h0, .int n, .int a, .int b, .int c0, .int d, .int (zb tw)]) ++ List.replicate (7 - (lg_sl ([.ref h0, .int n, .int a, .int b, .int c0, .int d, .int (zb tw)])).length) Slot.unset).toArray = ls at hl ⊢
  have hl : lv_has ls 7 [(0, .ref h0), (1, .int n), (2, .int a), (3, .int b), (4, .int c0), (5, .int d), (6, .int (zb tw))] := hl
  refine lv_iload_n hx hb dX2_words_0 rfl (lv_at hl 1 rfl) ?_
  refine lv_i2l (v := n.toInt64) hx hb dX2_words_1 rfl ?_
  refine lv_lconst (v := 1) hx hb dX2_words_2 (by decide) ?_
  refine lv_ldc2 (v := 4) hx hb hown (hts (.constantLong RX2 89 (4)) (by decide +kernel)) dX2_words_3 ?_
  refine vp_callSi (va_Run.run (va_runS (As := [.long n.toInt64, .long 1, .long 4]) (rest := []) ⟨hx, hb, hml, hown, hts⟩ (c_X2_isWithin l dC dI n.toInt64 1 4) (va_cwS 3 hts gX2_words_X2_isWithin rfl rfl rfl (by decide +kernel) ⟨Nat.le_of_ble_eq_true rfl, Nat.le_of_ble_eq_true rfl⟩) ⟨fun a U g mk q => ⟨q.1, trivial⟩, fun U hU hW => ⟨rfl, trivial⟩⟩ rfl rfl hl.1 rfl (lv_room (Nat.le_of_ble_eq_true rfl)) dX2_words_6 ⟨Nat.zero_le _, Nat.zero_le _⟩)) (fun r_6 hr_6 => ?_)
  obtain rfl : r_6 = zb (wi n.toInt 1 4) := hr_6.trans (by rw [i2l_toInt]; rfl)
  refine lv_if_ne (tgt := 14) hx hb dX2_words_9 (by decide) (fun c_9 => ?_) (fun c_9 => ?_)
  · have c_9 := zb_n.mp c_9
    refine lv_iload_n hx hb dX2_words_14 rfl (lv_at hl 2 rfl) ?_
    refine vp_callSi (va_Run.run (va_runS (As := [.int a]) (rest := []) ⟨hx, hb, hml, hown, hts⟩ (c_X2_isWord l dC dI a) (va_cwS 1 hts gX2_words_X2_isWord rfl rfl rfl (by decide +kernel) ⟨Nat.le_of_ble_eq_true rfl, Nat.le_of_ble_eq_true rfl⟩) ⟨fun a U g mk q => ⟨q.1, trivial⟩, fun U hU hW => ⟨rfl, trivial⟩⟩ rfl rfl hl.1 rfl (lv_room (Nat.le_of_ble_eq_true rfl)) dX2_words_15 ⟨Nat.zero_le _, Nat.zero_le _⟩)) (fun r_15 hr_15 => ?_)
    subst hr_15
    refine lv_if_eq (tgt := 59) hx hb dX2_words_18 (by decide) (fun c_18 => ?_) (fun c_18 => ?_)
    · have c_18 := zb_0.mp c_18
      refine lv_iconst (v := (-1)) hx hb dX2_words_59 (by decide) ?_
      have hP9 := hP.sub (ws' := [(h0, .inr (2, [.ref h1, .ref h2, .long tr])), (h1, .inr (0, [.ref b0, .int (nI nw), .int (nI st), .int (nI kd)])), (b0, .inl (cA, 8, .inl WR)), (h2, .inr (1, [.ref a0, .ref a1, .ref a2, .ref a3, .int sz0, .int lf, .int av, .int (nI dn)]))]) [0, 1, 2, 3] rfl
      have hD9 := hD.sub (ws' := [(h0, .inr (2, [.ref h1, .ref h2, .long tr])), (h1, .inr (0, [.ref b0, .int (nI nw), .int (nI st), .int (nI kd)])), (b0, .inl (cA, 8, .inl WR)), (h2, .inr (1, [.ref a0, .ref a1, .ref a2, .ref a3, .int sz0, .int lf, .int av, .int (nI dn)]))]) [0, 1, 2, 3] (by decide) rfl
      exact W.iret (v := (-1)) hx hb hr (fun t ht hW => ⟨⟨_, (nw, wd, WR), rfl, ⟨Eq.symm (spWords_bad (by unfold okWs; first | (rw [c_9, c_18, hv_33, hv_46, decide_eq_false c_48, c_56]; rfl) | (rw [c_9, c_18, hv_33, decide_eq_false c_35, c_43]; rfl) | (rw [c_9, c_18, decide_eq_false c_23, c_30]; rfl) | (rw [c_9, c_18]; rfl))), hCS, hCR⟩, ⟨by rw [ht]; exact hP9, va_K.moved hW.alike hK, hD9⟩⟩, hS.F ht⟩) hS.2.2 dX2_words_60
    · have c_18 := zb_n.mp c_18
      refine W_join (α := Unit) (pc' := 33) (ls' := ls) (st' := fun _ => []) (Pj := fun _ => (decide (n.toInt ≤ 1) || okW b) = true) (fun J_33 => ?_) (fun _ hv_33 => ?_)
      · refine lv_iload_n hx hb dX2_words_21 rfl (lv_at hl 1 rfl) ?_
        refine lv_iconst (v := 1) hx hb dX2_words_22 (by decide) ?_
        refine lv_icmp_le (tgt := 33) hx hb dX2_words_23 (by decide) (fun c_23 => ?_) (fun c_23 => ?_)
        · have c_23 : n.toInt ≤ 1 := (le32 _ _).mp c_23
          exact J_33 () (by first | (rw [decide_eq_true c_23]; rfl) | (rw [c_30, Bool.or_true]))
        · have c_23 : ¬ n.toInt ≤ 1 := fun h => c_23 ((le32 n 1).mpr h)
          refine lv_iload_n hx hb dX2_words_26 rfl (lv_at hl 3 rfl) ?_
          refine vp_callSi (va_Run.run (va_runS (As := [.int b]) (rest := []) ⟨hx, hb, hml, hown, hts⟩ (c_X2_isWord l dC dI b) (va_cwS 1 hts gX2_words_X2_isWord rfl rfl rfl (by decide +kernel) ⟨Nat.le_of_ble_eq_true rfl, Nat.le_of_ble_eq_true rfl⟩) ⟨fun a U g mk q => ⟨q.1, trivial⟩, fun U hU hW => ⟨rfl, trivial⟩⟩ rfl rfl hl.1 rfl (lv_room (Nat.le_of_ble_eq_true rfl)) dX2_words_27 ⟨Nat.zero_le _, Nat.zero_le _⟩)) (fun r_27 hr_27 => ?_)
          subst hr_27
          refine lv_if_eq (tgt := 59) hx hb dX2_words_30 (by decide) (fun c_30 => ?_) (fun c_30 => ?_)
          · have c_30 := zb_0.mp c_30
            refine lv_iconst (v := (-1)) hx hb dX2_words_59 (by decide) ?_
            have hP9 := hP.sub (ws' := [(h0, .inr (2, [.ref h1, .ref h2, .long tr])), (h1, .inr (0, [.ref b0, .int (nI nw), .int (nI st), .int (nI kd)])), (b0, .inl (cA, 8, .inl WR)), (h2, .inr (1, [.ref a0, .ref a1, .ref a2, .ref a3, .int sz0, .int lf, .int av, .int (nI dn)]))]) [0, 1, 2, 3] rfl
            have hD9 := hD.sub (ws' := [(h0, .inr (2, [.ref h1, .ref h2, .long tr])), (h1, .inr (0, [.ref b0, .int (nI nw), .int (nI st), .int (nI kd)])), (b0, .inl (cA, 8, .inl WR)), (h2, .inr (1, [.ref a0, .ref a1, .ref a2, .ref a3, .int sz0, .int lf, .int av, .int (nI dn)]))]) [0, 1, 2, 3] (by decide) rfl
            exact W.iret (v := (-1)) hx hb hr (fun t ht hW => ⟨⟨_, (nw, wd, WR), rfl, ⟨Eq.symm (spWords_bad (by unfold okWs; first | (rw [c_9, c_18, hv_33, hv_46, decide_eq_false c_48, c_56]; rfl) | (rw [c_9, c_18, hv_33, decide_eq_false c_35, c_43]; rfl) | (rw [c_9, c_18, decide_eq_false c_23, c_30]; rfl) | (rw [c_9, c_18]; rfl))), hCS, hCR⟩, ⟨by rw [ht]; exact hP9, va_K.moved hW.alike hK, hD9⟩⟩, hS.F ht⟩) hS.2.2 dX2_words_60
          · have c_30 := zb_n.mp c_30
            exact J_33 () (by first | (rw [decide_eq_true c_23]; rfl) | (rw [c_30, Bool.or_true]))
      refine W_join (α := Unit) (pc' := 46) (ls' := ls) (st' := fun _ => []) (Pj := fun _ => (decide (n.toInt ≤ 2) || okW c0) = true) (fun J_46 => ?_) (fun _ hv_46 => ?_)
      · refine lv_iload_n hx hb dX2_words_33 rfl (lv_at hl 1 rfl) ?_
        refine lv_iconst (v := 2) hx hb dX2_words_34 (by decide) ?_
        refine lv_icmp_le (tgt := 46) hx hb dX2_words_35 (by decide) (fun c_35 => ?_) (fun c_35 => ?_)
        · have c_35 : n.toInt ≤ 2 := (le32 _ _).mp c_35
          exact J_46 () (by first | (rw [decide_eq_true c_35]; rfl) | (rw [c_43, Bool.or_true]))
        · have c_35 : ¬ n.toInt ≤ 2 := fun h => c_35 ((le32 n 2).mpr h)
          refine lv_iload hx hb dX2_words_38 (lv_at hl 4 rfl) ?_
          refine vp_callSi (va_Run.run (va_runS (As := [.int c0]) (rest := []) ⟨hx, hb, hml, hown, hts⟩ (c_X2_isWord l dC dI c0) (va_cwS 1 hts gX2_words_X2_isWord rfl rfl rfl (by decide +kernel) ⟨Nat.le_of_ble_eq_true rfl, Nat.le_of_ble_eq_true rfl⟩) ⟨fun a U g mk q => ⟨q.1, trivial⟩, fun U hU hW => ⟨rfl, trivial⟩⟩ rfl rfl hl.1 rfl (lv_room (Nat.le_of_ble_eq_true rfl)) dX2_words_40 ⟨Nat.zero_le _, Nat.zero_le _⟩)) (fun r_40 hr_40 => ?_)
          subst hr_40
          refine lv_if_eq (tgt := 59) hx hb dX2_words_43 (by decide) (fun c_43 => ?_) (fun c_43 => ?_)
          · have c_43 := zb_0.mp c_43
            refine lv_iconst (v := (-1)) hx hb dX2_words_59 (by decide) ?_
            have hP9 := hP.sub (ws' := [(h0, .inr (2, [.ref h1, .ref h2, .long tr])), (h1, .inr (0, [.ref b0, .int (nI nw), .int (nI st), .int (nI kd)])), (b0, .inl (cA, 8, .inl WR)), (h2, .inr (1, [.ref a0, .ref a1, .ref a2, .ref a3, .int sz0, .int lf, .int av, .int (nI dn)]))]) [0, 1, 2, 3] rfl
            have hD9 := hD.sub (ws' := [(h0, .inr (2, [.ref h1, .ref h2, .long tr])), (h1, .inr (0, [.ref b0, .int (nI nw), .int (nI st), .int (nI kd)])), (b0, .inl (cA, 8, .inl WR)), (h2, .inr (1, [.ref a0, .ref a1, .ref a2, .ref a3, .int sz0, .int lf, .int av, .int (nI dn)]))]) [0, 1, 2, 3] (by decide) rfl
            exact W.iret (v := (-1)) hx hb hr (fun t ht hW => ⟨⟨_, (nw, wd, WR), rfl, ⟨Eq.symm (spWords_bad (by unfold okWs; first | (rw [c_9, c_18, hv_33, hv_46, decide_eq_false c_48, c_56]; rfl) | (rw [c_9, c_18, hv_33, decide_eq_false c_35, c_43]; rfl) | (rw [c_9, c_18, decide_eq_false c_23, c_30]; rfl) | (rw [c_9, c_18]; rfl))), hCS, hCR⟩, ⟨by rw [ht]; exact hP9, va_K.moved hW.alike hK, hD9⟩⟩, hS.F ht⟩) hS.2.2 dX2_words_60
          · have c_43 := zb_n.mp c_43
            exact J_46 () (by first | (rw [decide_eq_true c_35]; rfl) | (rw [c_43, Bool.or_true]))
      refine W_join (α := Unit) (pc' := 61) (ls' := ls) (st' := fun _ => []) (Pj := fun _ => (decide (n.toInt ≤ 3) || okW d) = true) (fun J_61 => ?_) (fun _ hv_61 => ?_)
      · refine lv_iload_n hx hb dX2_words_46 rfl (lv_at hl 1 rfl) ?_
        refine lv_iconst (v := 3) hx hb dX2_words_47 (by decide) ?_
        refine lv_icmp_le (tgt := 61) hx hb dX2_words_48 (by decide) (fun c_48 => ?_) (fun c_48 => ?_)
        · have c_48 : n.toInt ≤ 3 := (le32 _ _).mp c_48
          exact J_61 () (by first | (rw [decide_eq_true c_48]; rfl) | (rw [c_56, Bool.or_true]))
        · have c_48 : ¬ n.toInt ≤ 3 := fun h => c_48 ((le32 n 3).mpr h)
          refine lv_iload hx hb dX2_words_51 (lv_at hl 5 rfl) ?_
          refine vp_callSi (va_Run.run (va_runS (As := [.int d]) (rest := []) ⟨hx, hb, hml, hown, hts⟩ (c_X2_isWord l dC dI d) (va_cwS 1 hts gX2_words_X2_isWord rfl rfl rfl (by decide +kernel) ⟨Nat.le_of_ble_eq_true rfl, Nat.le_of_ble_eq_true rfl⟩) ⟨fun a U g mk q => ⟨q.1, trivial⟩, fun U hU hW => ⟨rfl, trivial⟩⟩ rfl rfl hl.1 rfl (lv_room (Nat.le_of_ble_eq_true rfl)) dX2_words_53 ⟨Nat.zero_le _, Nat.zero_le _⟩)) (fun r_53 hr_53 => ?_)
          subst hr_53
          refine lv_if_ne (tgt := 61) hx hb dX2_words_56 (by decide) (fun c_56 => ?_) (fun c_56 => ?_)
          · have c_56 := zb_n.mp c_56
            exact J_61 () (by first | (rw [decide_eq_true c_48]; rfl) | (rw [c_56, Bool.or_true]))
          · have c_56 := zb_0.mp c_56
            refine lv_iconst (v := (-1)) hx hb dX2_words_59 (by decide) ?_
            have hP9 := hP.sub (ws' := [(h0, .inr (2, [.ref h1, .ref h2, .long tr])), (h1, .inr (0, [.ref b0, .int (nI nw), .int (nI st), .int (nI kd)])), (b0, .inl (cA, 8, .inl WR)), (h2, .inr (1, [.ref a0, .ref a1, .ref a2, .ref a3, .int sz0, .int lf, .int av, .int (nI dn)]))]) [0, 1, 2, 3] rfl
            have hD9 := hD.sub (ws' := [(h0, .inr (2, [.ref h1, .ref h2, .long tr])), (h1, .inr (0, [.ref b0, .int (nI nw), .int (nI st), .int (nI kd)])), (b0, .inl (cA, 8, .inl WR)), (h2, .inr (1, [.ref a0, .ref a1, .ref a2, .ref a3, .int sz0, .int lf, .int av, .int (nI dn)]))]) [0, 1, 2, 3] (by decide) rfl
            exact W.iret (v := (-1)) hx hb hr (fun t ht hW => ⟨⟨_, (nw, wd, WR), rfl, ⟨Eq.symm (spWords_bad (by unfold okWs; first | (rw [c_9, c_18, hv_33, hv_46, decide_eq_false c_48, c_56]; rfl) | (rw [c_9, c_18, hv_33, decide_eq_false c_35, c_43]; rfl) | (rw [c_9, c_18, decide_eq_false c_23, c_30]; rfl) | (rw [c_9, c_18]; rfl))), hCS, hCR⟩, ⟨by rw [ht]; exact hP9, va_K.moved hW.alike hK, hD9⟩⟩, hS.F ht⟩) hS.2.2 dX2_words_60
      have hok : okWs n a b c0 d = true := by unfold okWs; rw [c_9, c_18, hv_33, hv_46, hv_61]; rfl
      refine lv_aload_n hx hb dX2_words_61 rfl (lv_at hl 0 rfl) ?_
      refine va_get (D := (dC, dI)) (ci := 2) (v := .ref h2) (C := RX2) (T := TX2) (N := 3) hx hb hts (by decide +kernel) hown hK hP 0 rfl rfl 1 (by decide) (hts (.fieldLink RX2 19 "CountedOut" "people" "LCountedOut$Ring;") (by decide +kernel)) (fun _ h9 => h9) rfl dX2_words_62 ?_
      have hPc := hP.sub (ws' := [(h2, .inr (1, [.ref a0, .ref a1, .ref a2, .ref a3, .int sz0, .int lf, .int av, .int (nI dn)]))]) [3] rfl
      refine vp_callSi (va_Run.run (va_runV (As := []) (rest := []) ⟨hx, hb, hml, hown, hts⟩ (c_X1_hasBegun l dC dI cA h2 a0 a1 a2 a3 dn (by omega) sz0 lf av) (cwV 0 hts gX2_words_X1_hasBegun rfl rfl rfl (by decide +kernel) ⟨Nat.le_of_ble_eq_true rfl, Nat.le_of_ble_eq_true rfl⟩) ⟨fun a U g mk q => by obtain ⟨q0, qP, qK⟩ := q; exact ⟨q0, qP, va_K.moved (u := U) (U := U.calling g mk a) (Vm.Alike.refl U.vm) qK⟩, va_recv hK hP (ci := 1) (q0 := 3) rfl rfl, fun U hU hW => ⟨rfl, by rw [hU]; exact hPc, va_K.moved hW.alike hK⟩⟩ rfl rfl hl.1 rfl (lv_room (Nat.le_of_ble_eq_true rfl)) dX2_words_65 ⟨Nat.zero_le _, Nat.zero_le _⟩)) (fun r_65 hr_65 => ?_)
      subst hr_65
      refine lv_if_eq (tgt := 74) hx hb dX2_words_68 (by decide) (fun c_68 => ?_) (fun c_68 => ?_)
      · have c_68 := zb_0.mp c_68
        obtain rfl : dn = 0 := by have := of_decide_eq_false c_68; omega
        obtain ⟨n1, hn1, hn4, rfl⟩ := nI_wi (a := 1) (b := 4) c_9
        refine lv_aload_n hx hb dX2_words_74 rfl (lv_at hl 0 rfl) ?_
        refine va_get (D := (dC, dI)) (ci := 2) (v := .ref h1) (C := RX2) (T := TX2) (N := 3) hx hb hts (by decide +kernel) hown hK hP 0 rfl rfl 0 (by decide) (hts (.fieldLink RX2 12 "CountedOut" "counts" "LCountedOut$Counts;") (by decide +kernel)) (fun _ h9 => h9) rfl dX2_words_75 ?_
        refine lv_iload_n hx hb dX2_words_78 rfl (lv_at hl 1 rfl) ?_
        refine lv_iload_n hx hb dX2_words_79 rfl (lv_at hl 2 rfl) ?_
        refine lv_iload_n hx hb dX2_words_80 rfl (lv_at hl 3 rfl) ?_
        refine lv_iload hx hb dX2_words_81 (lv_at hl 4 rfl) ?_
        refine lv_iload hx hb dX2_words_83 (lv_at hl 5 rfl) ?_
        have hPc := hP.sub (ws' := [(h1, .inr (0, [.ref b0, .int (nI nw), .int (nI st), .int (nI kd)])), (b0, .inl (cA, 8, .inl WR))]) [1, 2] rfl
        have hDc := hD.sub (ws' := [(h1, .inr (0, [.ref b0, .int (nI nw), .int (nI st), .int (nI kd)])), (b0, .inl (cA, 8, .inl WR))]) [1, 2] (by decide) rfl
        have hFc := va_free (wc := [(h1, .inr (0, [.ref b0, .int (nI nw), .int (nI st), .int (nI kd)])), (b0, .inl (cA, 8, .inl WR))]) hD hS hA [1, 2] rfl
        refine va_callv (va_runV (As := [.int (nI n1), .int a, .int b, .int c0, .int d]) (rest := []) ⟨hx, hb, hml, hown, hts⟩ (c_X0_takeWords l dC dI s.heap.size cA h1 b0 (nI nw) (nI st) (nI kd) (nI n1) a b c0 d WR) (cwV 5 hts gX2_words_X0_takeWords rfl rfl rfl (by decide +kernel) ⟨Nat.le_of_ble_eq_true rfl, Nat.le_of_ble_eq_true rfl⟩) ⟨fun a U g mk q => by obtain ⟨q0, q1, qP, qK, qD⟩ := q; exact ⟨q0, q1, qP, va_K.moved (u := U) (U := U.calling g mk a) (Vm.Alike.refl U.vm) qK, qD⟩, va_recv hK hP (ci := 0) (q0 := 1) rfl rfl, fun U hU hW => ⟨rfl, by rw [hU], by rw [hU]; exact hPc, va_K.moved hW.alike hK, hDc.weaken (fun _ _ _ _ => trivial)⟩⟩ rfl rfl hl.1 rfl (lv_room (Nat.le_of_ble_eq_true rfl)) dX2_words_85 ⟨Nat.zero_le _, Nat.zero_le _⟩) hS (fun q _ h => hFc q h) hFc (fun u_85 t_85 H1 locs ht_85 hvm_85 hw_85 hB_85 hz1 hk1 hS => ?_)
        obtain ⟨hP1, hK1, hD1⟩ := hB_85
        rw [ht_85] at hP1
        obtain ⟨hP, hD⟩ := va_join (wr := [(h0, .inr (2, [.ref h1, .ref h2, .long tr])), (h2, .inr (1, [.ref a0, .ref a1, .ref a2, .ref a3, .int sz0, .int lf, .int av, .int (nI 0)]))]) (w1 := [(h1, .inr (0, [.ref b0, .int (nI n1), .int (nI st), .int (nI kd)])), (b0, .inl (cA, 8, .inl (upd (upd (upd (upd WR 0 a) 1 b) 2 c0) 3 d)))]) hP hD [1, 2] [0, 3] rfl rfl (by decide) (by decide) hk1 hFc hP1 hD1
        generalize H1 = H at hP hS ⊢
        have hP := hP.sub (ws' := [(h0, .inr (2, [.ref h1, .ref h2, .long tr])), (h1, .inr (0, [.ref b0, .int (nI n1), .int (nI st), .int (nI kd)])), (b0, .inl (cA, 8, .inl (upd (upd (upd (upd WR 0 a) 1 b) 2 c0) 3 d))), (h2, .inr (1, [.ref a0, .ref a1, .ref a2, .ref a3, .int sz0, .int lf, .int av, .int (nI 0)]))]) [0, 2, 3, 1] rfl
        have hD := hD.sub (ws' := [(h0, .inr (2, [.ref h1, .ref h2, .long tr])), (h1, .inr (0, [.ref b0, .int (nI n1), .int (nI st), .int (nI kd)])), (b0, .inl (cA, 8, .inl (upd (upd (upd (upd WR 0 a) 1 b) 2 c0) 3 d))), (h2, .inr (1, [.ref a0, .ref a1, .ref a2, .ref a3, .int sz0, .int lf, .int av, .int (nI 0)]))]) [0, 2, 3, 1] (by decide) rfl
        refine lv_iload hx hb dX2_words_88 (lv_at hl 6 rfl) ?_
        refine lv_if_eq (tgt := 100) hx hb dX2_words_90 (by decide) (fun c_90 => ?_) (fun c_90 => ?_)
        · have c_90 := zb_0.mp c_90
          subst c_90
          refine lv_aload_n hx hb dX2_words_100 rfl (lv_at hl 0 rfl) ?_
          refine va_get (D := (dC, dI)) (ci := 2) (v := .ref h1) (C := RX2) (T := TX2) (N := 3) hx hb hts (by decide +kernel) hown hK hP 0 rfl rfl 0 (by decide) (hts (.fieldLink RX2 12 "CountedOut" "counts" "LCountedOut$Counts;") (by decide +kernel)) (fun _ h9 => h9) rfl dX2_words_101 ?_
          refine va_get (D := (dC, dI)) (ci := 0) (v := .int (nI n1)) (C := RX0) (T := TX0) (N := 4) hx hb hts (by decide +kernel) hown hK hP 1 rfl rfl 1 (by decide) (hts (.fieldLink RX2 101 "CountedOut$Counts" "wordCount" "I") (by decide +kernel)) (fun _ h9 => h9) rfl dX2_words_104 ?_
          have hP9 := hP.sub (ws' := [(h0, .inr (2, [.ref h1, .ref h2, .long tr])), (h1, .inr (0, [.ref b0, .int (nI n1), .int (nI st), .int (nI kd)])), (b0, .inl (cA, 8, .inl (upd (upd (upd (upd WR 0 a) 1 b) 2 c0) 3 d))), (h2, .inr (1, [.ref a0, .ref a1, .ref a2, .ref a3, .int sz0, .int lf, .int av, .int (nI 0)]))]) [0, 1, 2, 3] rfl
          have hD9 := hD.sub (ws' := [(h0, .inr (2, [.ref h1, .ref h2, .long tr])), (h1, .inr (0, [.ref b0, .int (nI n1), .int (nI st), .int (nI kd)])), (b0, .inl (cA, 8, .inl (upd (upd (upd (upd WR 0 a) 1 b) 2 c0) 3 d))), (h2, .inr (1, [.ref a0, .ref a1, .ref a2, .ref a3, .int sz0, .int lf, .int av, .int (nI 0)]))]) [0, 1, 2, 3] (by decide) rfl
          exact W.iret (v := nI n1) hx hb hr (fun t ht hW => ⟨⟨_, (n1, w4 a b c0 d, _), rfl, ⟨(spWords_f hn4 hok).symm, CS_w4 hCS hn1 hn4 hok, fun i hi => (w4_ok hn1 hn4 hok i hi).2 WR⟩, ⟨by rw [ht]; exact hP9, va_K.moved hW.alike hK, hD9⟩⟩, hS.F ht⟩) hS.2.2 dX2_words_107
        · have c_90 := zb_n.mp c_90
          subst c_90
          refine lv_aload_n hx hb dX2_words_93 rfl (lv_at hl 0 rfl) ?_
          refine va_get (D := (dC, dI)) (ci := 2) (v := .ref h1) (C := RX2) (T := TX2) (N := 3) hx hb hts (by decide +kernel) hown hK hP 0 rfl rfl 0 (by decide) (hts (.fieldLink RX2 12 "CountedOut" "counts" "LCountedOut$Counts;") (by decide +kernel)) (fun _ h9 => h9) rfl dX2_words_94 ?_
          have hPc := hP.sub (ws' := [(h1, .inr (0, [.ref b0, .int (nI n1), .int (nI st), .int (nI kd)])), (b0, .inl (cA, 8, .inl (upd (upd (upd (upd WR 0 a) 1 b) 2 c0) 3 d)))]) [1, 2] rfl
          have hDc := hD.sub (ws' := [(h1, .inr (0, [.ref b0, .int (nI n1), .int (nI st), .int (nI kd)])), (b0, .inl (cA, 8, .inl (upd (upd (upd (upd WR 0 a) 1 b) 2 c0) 3 d)))]) [1, 2] (by decide) rfl
          have hFc := va_free (wc := [(h1, .inr (0, [.ref b0, .int (nI n1), .int (nI st), .int (nI kd)])), (b0, .inl (cA, 8, .inl (upd (upd (upd (upd WR 0 a) 1 b) 2 c0) 3 d)))]) hD hS hA [1, 2] rfl
          refine va_callv (va_runV (As := []) (rest := []) ⟨hx, hb, hml, hown, hts⟩ (c_X0_mirrorWords l dC dI H.size cA h1 b0 n1 hn1 hn4 (nI st) (nI kd) (upd (upd (upd (upd WR 0 a) 1 b) 2 c0) 3 d)) (cwV 0 hts gX2_words_X0_mirrorWords rfl rfl rfl (by decide +kernel) ⟨Nat.le_of_ble_eq_true rfl, Nat.le_of_ble_eq_true rfl⟩) ⟨fun a U g mk q => by obtain ⟨q0, q1, qP, qK, qD⟩ := q; exact ⟨q0, q1, qP, va_K.moved (u := U) (U := U.calling g mk a) (Vm.Alike.refl U.vm) qK, qD⟩, va_recv hK hP (ci := 0) (q0 := 1) rfl rfl, fun U hU hW => ⟨rfl, by rw [hU], by rw [hU]; exact hPc, va_K.moved hW.alike hK, hDc.weaken (fun _ _ _ _ => trivial)⟩⟩ rfl rfl hl.1 rfl (lv_room (Nat.le_of_ble_eq_true rfl)) dX2_words_97 ⟨Nat.zero_le _, Nat.zero_le _⟩) hS (fun q _ h => hFc q h) hFc (fun u_97 t_97 H1 locs ht_97 hvm_97 hw_97 hB_97 hz1 hk1 hS => ?_)
          obtain ⟨V, rfl⟩ : ∃ z, z = u_97 := ⟨_, rfl⟩
          obtain ⟨hP1, hK1, hD1⟩ := hB_97
          rw [ht_97] at hP1
          obtain ⟨hP, hD⟩ := va_join (wr := [(h0, .inr (2, [.ref h1, .ref h2, .long tr])), (h2, .inr (1, [.ref a0, .ref a1, .ref a2, .ref a3, .int sz0, .int lf, .int av, .int (nI 0)]))]) (w1 := [(h1, .inr (0, [.ref b0, .int (nI (2 * n1)), .int (nI st), .int (nI kd)])), (b0, .inl (cA, 8, .inl V))]) hP hD [1, 2] [0, 3] rfl rfl (by decide) (by decide) hk1 hFc hP1 hD1
          generalize H1 = H at hP hS ⊢
          have hP := hP.sub (ws' := [(h0, .inr (2, [.ref h1, .ref h2, .long tr])), (h1, .inr (0, [.ref b0, .int (nI (2 * n1)), .int (nI st), .int (nI kd)])), (b0, .inl (cA, 8, .inl V)), (h2, .inr (1, [.ref a0, .ref a1, .ref a2, .ref a3, .int sz0, .int lf, .int av, .int (nI 0)]))]) [0, 2, 3, 1] rfl
          have hD := hD.sub (ws' := [(h0, .inr (2, [.ref h1, .ref h2, .long tr])), (h1, .inr (0, [.ref b0, .int (nI (2 * n1)), .int (nI st), .int (nI kd)])), (b0, .inl (cA, 8, .inl V)), (h2, .inr (1, [.ref a0, .ref a1, .ref a2, .ref a3, .int sz0, .int lf, .int av, .int (nI 0)]))]) [0, 2, 3, 1] (by decide) rfl
          refine lv_aload_n hx hb dX2_words_100 rfl (lv_at hl 0 rfl) ?_
          refine va_get (D := (dC, dI)) (ci := 2) (v := .ref h1) (C := RX2) (T := TX2) (N := 3) hx hb hts (by decide +kernel) hown hK hP 0 rfl rfl 0 (by decide) (hts (.fieldLink RX2 12 "CountedOut" "counts" "LCountedOut$Counts;") (by decide +kernel)) (fun _ h9 => h9) rfl dX2_words_101 ?_
          refine va_get (D := (dC, dI)) (ci := 0) (v := .int (nI (2 * n1))) (C := RX0) (T := TX0) (N := 4) hx hb hts (by decide +kernel) hown hK hP 1 rfl rfl 1 (by decide) (hts (.fieldLink RX2 101 "CountedOut$Counts" "wordCount" "I") (by decide +kernel)) (fun _ h9 => h9) rfl dX2_words_104 ?_
          have hP9 := hP.sub (ws' := [(h0, .inr (2, [.ref h1, .ref h2, .long tr])), (h1, .inr (0, [.ref b0, .int (nI (2 * n1)), .int (nI st), .int (nI kd)])), (b0, .inl (cA, 8, .inl V)), (h2, .inr (1, [.ref a0, .ref a1, .ref a2, .ref a3, .int sz0, .int lf, .int av, .int (nI 0)]))]) [0, 1, 2, 3] rfl
          have hD9 := hD.sub (ws' := [(h0, .inr (2, [.ref h1, .ref h2, .long tr])), (h1, .inr (0, [.ref b0, .int (nI (2 * n1)), .int (nI st), .int (nI kd)])), (b0, .inl (cA, 8, .inl V)), (h2, .inr (1, [.ref a0, .ref a1, .ref a2, .ref a3, .int sz0, .int lf, .int av, .int (nI 0)]))]) [0, 1, 2, 3] (by decide) rfl
          exact W.iret (v := nI (2 * n1)) hx hb hr (fun t ht hW => ⟨⟨_, (2 * n1, m4 n1 a b c0 d, _), rfl, ⟨(spWords_t hn4 hok).symm, CS_m4 hCS hn1 hn4 hok, CR_m4 hw_97 (fun i hi => (w4_ok hn1 hn4 hok i hi).2 WR)⟩, ⟨by rw [ht]; exact hP9, va_K.moved hW.alike hK, hD9⟩⟩, hS.F ht⟩) hS.2.2 dX2_words_107
      · have c_68 := zb_n.mp c_68
        refine lv_bipush (v := (-2)) hx hb dX2_words_71 (by decide) ?_
        have hP9 := hP.sub (ws' := [(h0, .inr (2, [.ref h1, .ref h2, .long tr])), (h1, .inr (0, [.ref b0, .int (nI nw), .int (nI st), .int (nI kd)])), (b0, .inl (cA, 8, .inl WR)), (h2, .inr (1, [.ref a0, .ref a1, .ref a2, .ref a3, .int sz0, .int lf, .int av, .int (nI dn)]))]) [0, 1, 2, 3] rfl
        have hD9 := hD.sub (ws' := [(h0, .inr (2, [.ref h1, .ref h2, .long tr])), (h1, .inr (0, [.ref b0, .int (nI nw), .int (nI st), .int (nI kd)])), (b0, .inl (cA, 8, .inl WR)), (h2, .inr (1, [.ref a0, .ref a1, .ref a2, .ref a3, .int sz0, .int lf, .int av, .int (nI dn)]))]) [0, 1, 2, 3] (by decide) rfl
        exact W.iret (v := (-2)) hx hb hr (fun t ht hW => ⟨⟨_, (nw, wd, WR), rfl, ⟨(spWords_state hok (of_decide_eq_true c_68)).symm, hCS, hCR⟩, ⟨by rw [ht]; exact hP9, va_K.moved hW.alike hK, hD9⟩⟩, hS.F ht⟩) hS.2.2 dX2_words_73
  · have c_9 := zb_0.mp c_9
    refine lv_iconst (v := (-1)) hx hb dX2_words_12 (by decide) ?_
    have hP9 := hP.sub (ws' := [(h0, .inr (2, [.ref h1, .ref h2, .long tr])), (h1, .inr (0, [.ref b0, .int (nI nw), .int (nI st), .int (nI kd)])), (b0, .inl (cA, 8, .inl WR)), (h2, .inr (1, [.ref a0, .ref a1, .ref a2, .ref a3, .int sz0, .int lf, .int av, .int (nI dn)]))]) [0, 1, 2, 3] rfl
    have hD9 := hD.sub (ws' := [(h0, .inr (2, [.ref h1, .ref h2, .long tr])), (h1, .inr (0, [.ref b0, .int (nI nw), .int (nI st), .int (nI kd)])), (b0, .inl (cA, 8, .inl WR)), (h2, .inr (1, [.ref a0, .ref a1, .ref a2, .ref a3, .int sz0, .int lf, .int av, .int (nI dn)]))]) [0, 1, 2, 3] (by decide) rfl
    exact W.iret (v := (-1)) hx hb hr (fun t ht hW => ⟨⟨_, (nw, wd, WR), rfl, ⟨spWords_bad (by unfold okWs; rw [c_9]; rfl) |>.symm, hCS, hCR⟩, ⟨by rw [ht]; exact hP9, va_K.moved hW.alike hK, hD9⟩⟩, hS.F ht⟩) hS.2.2 dX2_words_13

set_option maxHeartbeats 4000000 in
set_option maxRecDepth 100000 in
theorem c_X2_count (l : Launch) (dC : Nat → ClassId) (dI : Nat → Nat → Nat) (sz : Nat) (cA : ClassId) (h0 h1 h2 b0 a0 a1 a2 a3 : Nat) (tr : Int64) (st kd nw : Nat) (wd : Nat → Nat) (hCS : CS st kd nw wd) (WR : Nat → Int32) (hCR : CR nw wd WR) (tt : Nat) (t : Int32) : Met l yX2_count wsX2_count ({ frames := 4, cells := 0, slots := 0, locals := 84 }) (va_Pc [.ref h0, .int t] (fun U => U.heap.size = sz ∧ va_P (dC, dI) vwCl [(h0, .inr (2, [.ref h1, .ref h2, .long tr])), (h1, .inr (0, [.ref b0, .int (nI nw), .int (nI st), .int (nI kd)])), (b0, .inl (cA, 8, .inl WR))] U.heap ∧ va_K (dC, dI) vwCl [(cA, .int)] U ∧ va_D (fun _ => True) [(h0, .inr (2, [.ref h1, .ref h2, .long tr])), (h1, .inr (0, [.ref b0, .int (nI nw), .int (nI st), .int (nI kd)])), (b0, .inl (cA, 8, .inl WR))] ∧ va_Z "CountedOut$Counts" "TOLLS" "[I" (.ref tt) (va_A [(h0, .inr (2, [.ref h1, .ref h2, .long tr])), (h1, .inr (0, [.ref b0, .int (nI nw), .int (nI st), .int (nI kd)])), (b0, .inl (cA, 8, .inl WR))] sz) U U.heap ∧ va_T .int tt 3 (fun j => .int (tollN j)) (va_A [(h0, .inr (2, [.ref h1, .ref h2, .long tr])), (h1, .inr (0, [.ref b0, .int (nI nw), .int (nI st), .int (nI kd)])), (b0, .inl (cA, 8, .inl WR))] sz) U U.heap)) (va_Qi (S := Int64) (fun r u => (r, u) = spCount t st kd nw wd tr) (fun (u : Int64) (t : State) => va_P (dC, dI) vwCl [(h0, .inr (2, [.ref h1, .ref h2, .long u])), (h1, .inr (0, [.ref b0, .int (nI nw), .int (nI st), .int (nI kd)])), (b0, .inl (cA, 8, .inl WR))] t.heap ∧ va_K (dC, dI) vwCl [(cA, .int)] t ∧ va_D (va_A [(h0, .inr (2, [.ref h1, .ref h2, .long tr])), (h1, .inr (0, [.ref b0, .int (nI nw), .int (nI st), .int (nI kd)])), (b0, .inl (cA, 8, .inl WR))] sz) [(h0, .inr (2, [.ref h1, .ref h2, .long u])), (h1, .inr (0, [.ref b0, .int (nI nw), .int (nI st), .int (nI kd)])), (b0, .inl (cA, 8, .inl WR))]) (va_A [(h0, .inr (2, [.ref h1, .ref h2, .long tr])), (h1, .inr (0, [.ref b0, .int (nI nw), .int (nI st), .int (nI kd)])), (b0, .inl (cA, 8, .inl WR))] sz)) 0 0 (va_A [(h0, .inr (2, [.ref h1, .ref h2, .long tr])), (h1, .inr (0, [.ref b0, .int (nI nw), .int (nI st), .int (nI kd)])), (b0, .inl (cA, 8, .inl WR))] sz) := by
  refine Met.ofW (cc := cX2_count) (maxL := 2) (ret := (some .int)) (by decide) rfl ?_
  intro p e s m args below meth c s₁ B hml hv
  obtain ⟨rfl, hsz, hP, hK, hD0, hX⟩ := hv
  have hx := B.exec
  have hb := B.bytes
  have hr := B.returns
  have hts := atoms_spec (ws := wsX2_count) B.pre
  have hown : s.vm.findClass RX2 = some m.cls := findClass_of_methodNamed B.named
  have hlocks := B.notSynchronized
  subst hsz
  have hD := hD0.self (sz := s.heap.size)
  generalize hAe : va_A [(h0, .inr (2, [.ref h1, .ref h2, .long tr])), (h1, .inr (0, [.ref b0, .int (nI nw), .int (nI st), .int (nI kd)])), (b0, .inl (cA, 8, .inl WR))] s.heap.size = A at hD hX ⊢
  have hA : ∀ q : Nat, s.heap.size ≤ q → A q := fun q h => by rw [← hAe]; exact Or.inr h
  have hS : va_S A s.heap s.heap [] := va_S.rf
  have hP : va_P (dC, dI) vwCl [(h0, .inr (2, [.ref h1, .ref h2, .long tr])), (h1, .inr (0, [.ref b0, .int (nI nw), .int (nI st), .int (nI kd)])), (b0, .inl (cA, 8, .inl WR))] s.heap := hP
  have hl := lv_entry ([.ref h0, .int t]) (n := 2) (Nat.le_of_ble_eq_true rfl)
  rw [lg_entry_eq]
  generalize (lg_sl ([.ref h0, .int t]) ++ List.replicate (2 - (lg_sl ([.ref h0, .int t])).length) Slot.unset).toArray = ls at hl ⊢
  have hl : lv_has ls 2 [(0, .ref h0), (1, .int t)] := hl
  obtain ⟨hs1, hs2, hk2, hw1, hw2, hwd⟩ := id hCS
  refine lv_iload_n hx hb dX2_count_0 rfl (lv_at hl 1 rfl) ?_
  refine lv_i2l (v := t.toInt64) hx hb dX2_count_1 rfl ?_
  refine lv_lconst (v := 0) hx hb dX2_count_2 (by decide) ?_
  refine lv_ldc2 (v := 100000) hx hb hown (hts (.constantLong RX2 104 (100000)) (by decide +kernel)) dX2_count_3 ?_
  refine vp_callSi (va_Run.run (va_runS (As := [.long t.toInt64, .long 0, .long 100000]) (rest := []) ⟨hx, hb, hml, hown, hts⟩ (c_X2_isWithin l dC dI t.toInt64 0 100000) (va_cwS 3 hts gX2_count_X2_isWithin rfl rfl rfl (by decide +kernel) ⟨Nat.le_of_ble_eq_true rfl, Nat.le_of_ble_eq_true rfl⟩) ⟨fun a U g mk q => ⟨q.1, trivial⟩, fun U hU hW => ⟨rfl, trivial⟩⟩ rfl rfl hl.1 rfl (lv_room (Nat.le_of_ble_eq_true rfl)) dX2_count_6 ⟨Nat.zero_le _, Nat.zero_le _⟩)) (fun r_6 hr_6 => ?_)
  obtain rfl : r_6 = zb (wi t.toInt 0 100000) := hr_6.trans (by rw [i2l_toInt]; rfl)
  refine lv_if_ne (tgt := 16) hx hb dX2_count_9 (by decide) (fun c_9 => ?_) (fun c_9 => ?_)
  · have c_9 := zb_n.mp c_9
    obtain ⟨t1, ht1, ht2, rfl⟩ := nI_wi (a := 0) (b := 100000) c_9
    refine lv_aload_n hx hb dX2_count_16 rfl (lv_at hl 0 rfl) ?_
    refine lv_dup hx hb dX2_count_17 rfl ?_
    refine va_get (D := (dC, dI)) (ci := 2) (v := .long tr) (C := RX2) (T := TX2) (N := 3) hx hb hts (by decide +kernel) hown hK hP 0 rfl rfl 2 (by decide) (hts (.fieldLink RX2 23 "CountedOut" "traced" "J") (by decide +kernel)) (fun _ h9 => h9) rfl dX2_count_18 ?_
    refine lv_aload_n hx hb dX2_count_21 rfl (lv_at hl 0 rfl) ?_
    refine va_get (D := (dC, dI)) (ci := 2) (v := .ref h1) (C := RX2) (T := TX2) (N := 3) hx hb hts (by decide +kernel) hown hK hP 0 rfl rfl 0 (by decide) (hts (.fieldLink RX2 12 "CountedOut" "counts" "LCountedOut$Counts;") (by decide +kernel)) (fun _ h9 => h9) rfl dX2_count_22 ?_
    have hPc := hP.sub (ws' := [(h1, .inr (0, [.ref b0, .int (nI nw), .int (nI st), .int (nI kd)]))]) [1] rfl
    refine vp_callSi (va_Run.run (va_runV (As := []) (rest := [.long tr, .ref h0]) ⟨hx, hb, hml, hown, hts⟩ (c_X0_toll l dC dI cA h1 b0 tt kd hk2 (nI nw) (nI st)) (cwV 0 hts gX2_count_X0_toll rfl rfl rfl (by decide +kernel) ⟨Nat.le_of_ble_eq_true rfl, Nat.le_of_ble_eq_true rfl⟩) ⟨fun a U g mk q => by obtain ⟨q0, qP, qK, qX⟩ := q; exact ⟨q0, qP, va_K.moved (u := U) (U := U.calling g mk a) (Vm.Alike.refl U.vm) qK, ⟨va_Z.moved (u := U) (U := U.calling g mk a) (Vm.Alike.refl U.vm) qX.1, va_T.moved (u := U) (U := U.calling g mk a) (Vm.Alike.refl U.vm) qX.2⟩⟩, va_recv hK hP (ci := 0) (q0 := 1) rfl rfl, fun U hU hW => ⟨rfl, by rw [hU]; exact hPc, va_K.moved hW.alike hK, ⟨by rw [hU]; exact ((hX.1.kept (fun q h1 h2 => hS.2.1 q h1 h2)).narrow (fun q h => h.elim)).moved hW.alike, by rw [hU]; exact ((hX.2.kept (fun q h1 h2 => hS.2.1 q h1 h2)).narrow (fun q h => h.elim)).moved hW.alike⟩⟩⟩ rfl rfl hl.1 rfl (lv_room (Nat.le_of_ble_eq_true rfl)) dX2_count_25 ⟨Nat.zero_le _, Nat.zero_le _⟩)) (fun r_25 hr_25 => ?_)
    subst hr_25
    refine lv_i2l (v := (tollN kd).toInt64) hx hb dX2_count_28 rfl ?_
    refine lv_ladd hx hb dX2_count_29 ?_
    refine z_l (y := tr + tollI kd) (by rw [show (tollN kd).toInt64 = tollI kd from toll_l hk2]) ?_
    refine va_put (D := (dC, dI)) (ci := 2) (v := .long (tr + tollI kd)) (ty := .long) (C := RX2) (T := TX2) (N := 3) hx hb hts (by decide +kernel) tyX2 tyX2_ok nmX2 hown hK hP hD hS 0 rfl rfl 2 (by decide) (hts (.fieldLink RX2 23 "CountedOut" "traced" "J") (by decide +kernel)) (fun _ h9 => h9) rfl (by decide +kernel) rfl rfl (Nat.le_of_ble_eq_true rfl) dX2_count_30 (fun H locs hP hD hS => ?_)
    have hP : va_P (dC, dI) vwCl [(h0, .inr (2, [.ref h1, .ref h2, .long (tr + tollI kd)])), (h1, .inr (0, [.ref b0, .int (nI nw), .int (nI st), .int (nI kd)])), (b0, .inl (cA, 8, .inl WR))] H := hP
    have hD : va_D A [(h0, .inr (2, [.ref h1, .ref h2, .long (tr + tollI kd)])), (h1, .inr (0, [.ref b0, .int (nI nw), .int (nI st), .int (nI kd)])), (b0, .inl (cA, 8, .inl WR))] := hD
    refine lv_aload_n hx hb dX2_count_33 rfl (lv_at hl 0 rfl) ?_
    refine va_get (D := (dC, dI)) (ci := 2) (v := .ref h1) (C := RX2) (T := TX2) (N := 3) hx hb hts (by decide +kernel) hown hK hP 0 rfl rfl 0 (by decide) (hts (.fieldLink RX2 12 "CountedOut" "counts" "LCountedOut$Counts;") (by decide +kernel)) (fun _ h9 => h9) rfl dX2_count_34 ?_
    refine lv_iload_n hx hb dX2_count_37 rfl (lv_at hl 1 rfl) ?_
    have hPc := hP.sub (ws' := [(h1, .inr (0, [.ref b0, .int (nI nw), .int (nI st), .int (nI kd)])), (b0, .inl (cA, 8, .inl WR))]) [1, 2] rfl
    refine vp_callSi (va_Run.run (va_runV (As := [.int (nI t1)]) (rest := []) ⟨hx, hb, hml, hown, hts⟩ (c_X0_ofTurn l dC dI cA h1 b0 st kd nw wd WR hCS hCR t1 (by omega)) (cwV 1 hts gX2_count_X0_ofTurn rfl rfl rfl (by decide +kernel) ⟨Nat.le_of_ble_eq_true rfl, Nat.le_of_ble_eq_true rfl⟩) ⟨fun a U g mk q => by obtain ⟨q0, qP, qK⟩ := q; exact ⟨q0, qP, va_K.moved (u := U) (U := U.calling g mk a) (Vm.Alike.refl U.vm) qK⟩, va_recv hK hP (ci := 0) (q0 := 1) rfl rfl, fun U hU hW => ⟨rfl, by rw [hU]; exact hPc, va_K.moved hW.alike hK⟩⟩ rfl rfl hl.1 rfl (lv_room (Nat.le_of_ble_eq_true rfl)) dX2_count_38 ⟨Nat.zero_le _, Nat.zero_le _⟩)) (fun r_38 hr_38 => ?_)
    subst hr_38
    have hP9 := hP.sub (ws' := [(h0, .inr (2, [.ref h1, .ref h2, .long (tr + tollI kd)])), (h1, .inr (0, [.ref b0, .int (nI nw), .int (nI st), .int (nI kd)])), (b0, .inl (cA, 8, .inl WR))]) [0, 1, 2] rfl
    have hD9 := hD.sub (ws' := [(h0, .inr (2, [.ref h1, .ref h2, .long (tr + tollI kd)])), (h1, .inr (0, [.ref b0, .int (nI nw), .int (nI st), .int (nI kd)])), (b0, .inl (cA, 8, .inl WR))]) [0, 1, 2] (by decide) rfl
    exact W.iret (v := cI (cNeg kd t1) (cK st kd nw wd t1)) hx hb hr (fun t ht hW => ⟨⟨_, _, rfl, by unfold spCount; rw [if_pos c_9, nI_toInt (by omega)]; rfl, ⟨by rw [ht]; exact hP9, va_K.moved hW.alike hK, hD9⟩⟩, hS.F ht⟩) hS.2.2 dX2_count_41
  · have c_9 := zb_0.mp c_9
    refine lv_sipush (v := (-1000)) hx hb dX2_count_12 (by decide) ?_
    have hP9 := hP.sub (ws' := [(h0, .inr (2, [.ref h1, .ref h2, .long tr])), (h1, .inr (0, [.ref b0, .int (nI nw), .int (nI st), .int (nI kd)])), (b0, .inl (cA, 8, .inl WR))]) [0, 1, 2] rfl
    have hD9 := hD.sub (ws' := [(h0, .inr (2, [.ref h1, .ref h2, .long tr])), (h1, .inr (0, [.ref b0, .int (nI nw), .int (nI st), .int (nI kd)])), (b0, .inl (cA, 8, .inl WR))]) [0, 1, 2] (by decide) rfl
    exact W.iret (v := (-1000)) hx hb hr (fun t ht hW => ⟨⟨_, tr, rfl, by unfold spCount; rw [if_neg (by rw [c_9]; decide)], ⟨by rw [ht]; exact hP9, va_K.moved hW.alike hK, hD9⟩⟩, hS.F ht⟩) hS.2.2 dX2_count_15

set_option maxHeartbeats 4000000 in
set_option maxRecDepth 100000 in
theorem c_X2_turns (l : Launch) (dC : Nat → ClassId) (dI : Nat → Nat → Nat) (sz : Nat) (cA : ClassId) (h0 h1 h2 b0 a0 a1 a2 a3 : Nat) (tr : Int64) (Bl : Nat → Nat) (N : Nat) (Z : AS) (LA WA CA AA : Nat → Int32) (hG : GA Bl N Z) (hR : RA N Z LA WA CA AA) (st kd nw : Nat) (wd : Nat → Nat) (hCS : CS st kd nw wd) (WR : Nat → Int32) (hCR : CR nw wd WR) (n : Int32) : Met l yX2_turns wsX2_turns ({ frames := 4, cells := 0, slots := 0, locals := 84 }) (va_Pc [.ref h0, .int n] (fun U => U.heap.size = sz ∧ va_P (dC, dI) vwCl [(h0, .inr (2, [.ref h1, .ref h2, .long tr])), (h1, .inr (0, [.ref b0, .int (nI nw), .int (nI st), .int (nI kd)])), (b0, .inl (cA, 8, .inl WR)), (h2, .inr (1, [.ref a0, .ref a1, .ref a2, .ref a3, .int (nI N), .int (nI (bc (alv Z.2.1) N)), .int (nI Z.2.2.2), .int (nI Z.1.length)])), (a0, .inl (cA, 40, .inl LA)), (a1, .inl (cA, 40, .inl WA)), (a2, .inl (cA, 200, .inl CA)), (a3, .inl (cA, 200, .inl AA))] U.heap ∧ va_K (dC, dI) vwCl [(cA, .int)] U ∧ va_D (fun _ => True) [(h0, .inr (2, [.ref h1, .ref h2, .long tr])), (h1, .inr (0, [.ref b0, .int (nI nw), .int (nI st), .int (nI kd)])), (b0, .inl (cA, 8, .inl WR)), (h2, .inr (1, [.ref a0, .ref a1, .ref a2, .ref a3, .int (nI N), .int (nI (bc (alv Z.2.1) N)), .int (nI Z.2.2.2), .int (nI Z.1.length)])), (a0, .inl (cA, 40, .inl LA)), (a1, .inl (cA, 40, .inl WA)), (a2, .inl (cA, 200, .inl CA)), (a3, .inl (cA, 200, .inl AA))])) (va_Qi (S := AS × (Nat → Int32) × (Nat → Int32) × (Nat → Int32) × (Nat → Int32)) (fun r u => (r, u.1) = spTurns n N st kd nw wd Z ∧ GA Bl N u.1 ∧ RA N u.1 u.2.1 u.2.2.1 u.2.2.2.1 u.2.2.2.2) (fun (u : AS × (Nat → Int32) × (Nat → Int32) × (Nat → Int32) × (Nat → Int32)) (t : State) => va_P (dC, dI) vwCl [(h0, .inr (2, [.ref h1, .ref h2, .long tr])), (h1, .inr (0, [.ref b0, .int (nI nw), .int (nI st), .int (nI kd)])), (b0, .inl (cA, 8, .inl WR)), (h2, .inr (1, [.ref a0, .ref a1, .ref a2, .ref a3, .int (nI N), .int (nI (bc (alv u.1.2.1) N)), .int (nI u.1.2.2.2), .int (nI u.1.1.length)])), (a0, .inl (cA, 40, .inl u.2.1)), (a1, .inl (cA, 40, .inl u.2.2.1)), (a2, .inl (cA, 200, .inl u.2.2.2.1)), (a3, .inl (cA, 200, .inl u.2.2.2.2))] t.heap ∧ va_K (dC, dI) vwCl [(cA, .int)] t ∧ va_D (va_A [(h0, .inr (2, [.ref h1, .ref h2, .long tr])), (h1, .inr (0, [.ref b0, .int (nI nw), .int (nI st), .int (nI kd)])), (b0, .inl (cA, 8, .inl WR)), (h2, .inr (1, [.ref a0, .ref a1, .ref a2, .ref a3, .int (nI N), .int (nI (bc (alv Z.2.1) N)), .int (nI Z.2.2.2), .int (nI Z.1.length)])), (a0, .inl (cA, 40, .inl LA)), (a1, .inl (cA, 40, .inl WA)), (a2, .inl (cA, 200, .inl CA)), (a3, .inl (cA, 200, .inl AA))] sz) [(h0, .inr (2, [.ref h1, .ref h2, .long tr])), (h1, .inr (0, [.ref b0, .int (nI nw), .int (nI st), .int (nI kd)])), (b0, .inl (cA, 8, .inl WR)), (h2, .inr (1, [.ref a0, .ref a1, .ref a2, .ref a3, .int (nI N), .int (nI (bc (alv u.1.2.1) N)), .int (nI u.1.2.2.2), .int (nI u.1.1.length)])), (a0, .inl (cA, 40, .inl u.2.1)), (a1, .inl (cA, 40, .inl u.2.2.1)), (a2, .inl (cA, 200, .inl u.2.2.2.1)), (a3, .inl (cA, 200, .inl u.2.2.2.2))]) (va_A [(h0, .inr (2, [.ref h1, .ref h2, .long tr])), (h1, .inr (0, [.ref b0, .int (nI nw), .int (nI st), .int (nI kd)])), (b0, .inl (cA, 8, .inl WR)), (h2, .inr (1, [.ref a0, .ref a1, .ref a2, .ref a3, .int (nI N), .int (nI (bc (alv Z.2.1) N)), .int (nI Z.2.2.2), .int (nI Z.1.length)])), (a0, .inl (cA, 40, .inl LA)), (a1, .inl (cA, 40, .inl WA)), (a2, .inl (cA, 200, .inl CA)), (a3, .inl (cA, 200, .inl AA))] sz)) 0 0 (va_A [(h0, .inr (2, [.ref h1, .ref h2, .long tr])), (h1, .inr (0, [.ref b0, .int (nI nw), .int (nI st), .int (nI kd)])), (b0, .inl (cA, 8, .inl WR)), (h2, .inr (1, [.ref a0, .ref a1, .ref a2, .ref a3, .int (nI N), .int (nI (bc (alv Z.2.1) N)), .int (nI Z.2.2.2), .int (nI Z.1.length)])), (a0, .inl (cA, 40, .inl LA)), (a1, .inl (cA, 40, .inl WA)), (a2, .inl (cA, 200, .inl CA)), (a3, .inl (cA, 200, .inl AA))] sz) := by
  refine Met.ofW (cc := cX2_turns) (maxL := 3) (ret := (some .int)) (by decide) rfl ?_
  intro p e s m args below meth c s₁ B hml hv
  obtain ⟨rfl, hsz, hP, hK, hD0⟩ := hv
  have hx := B.exec
  have hb := B.bytes
  have hr := B.returns
  have hts := atoms_spec (ws := wsX2_turns) B.pre
  have hown : s.vm.findClass RX2 = some m.cls := findClass_of_methodNamed B.named
  have hlocks := B.notSynchronized
  subst hsz
  have hD := hD0.self (sz := s.heap.size)
  generalize hAe : va_A [(h0, .inr (2, [.ref h1, .ref h2, .long tr])), (h1, .inr (0, [.ref b0, .int (nI nw), .int (nI st), .int (nI kd)])), (b0, .inl (cA, 8, .inl WR)), (h2, .inr (1, [.ref a0, .ref a1, .ref a2, .ref a3, .int (nI N), .int (nI (bc (alv Z.2.1) N)), .int (nI Z.2.2.2), .int (nI Z.1.length)])), (a0, .inl (cA, 40, .inl LA)), (a1, .inl (cA, 40, .inl WA)), (a2, .inl (cA, 200, .inl CA)), (a3, .inl (cA, 200, .inl AA))] s.heap.size = A at hD ⊢
  have hA : ∀ q : Nat, s.heap.size ≤ q → A q := fun q h => by rw [← hAe]; exact Or.inr h
  have hS : va_S A s.heap s.heap [] := va_S.rf
  have hP : va_P (dC, dI) vwCl [(h0, .inr (2, [.ref h1, .ref h2, .long tr])), (h1, .inr (0, [.ref b0, .int (nI nw), .int (nI st), .int (nI kd)])), (b0, .inl (cA, 8, .inl WR)), (h2, .inr (1, [.ref a0, .ref a1, .ref a2, .ref a3, .int (nI N), .int (nI (bc (alv Z.2.1) N)), .int (nI Z.2.2.2), .int (nI Z.1.length)])), (a0, .inl (cA, 40, .inl LA)), (a1, .inl (cA, 40, .inl WA)), (a2, .inl (cA, 200, .inl CA)), (a3, .inl (cA, 200, .inl AA))] s.heap := hP
  have hl := lv_entry ([.ref h0, .int n]) (n := 3) (Nat.le_of_ble_eq_true rfl)
  rw [lg_entry_eq]
  generalize (lg_sl ([.ref h0, .int n]) ++ List.replicate (3 - (lg_sl ([.ref h0, .int n])).length) Slot.unset).toArray = ls at hl ⊢
  have hl : lv_has ls 3 [(0, .ref h0), (1, .int n)] := hl
  obtain ⟨hN1, hN, -⟩ := hG.rb
  refine lv_iload_n hx hb dX2_turns_0 rfl (lv_at hl 1 rfl) ?_
  refine lv_i2l (v := n.toInt64) hx hb dX2_turns_1 rfl ?_
  refine lv_lconst (v := 1) hx hb dX2_turns_2 (by decide) ?_
  refine lv_ldc2 (v := 200) hx hb hown (hts (.constantLong RX2 113 (200)) (by decide +kernel)) dX2_turns_3 ?_
  refine vp_callSi (va_Run.run (va_runS (As := [.long n.toInt64, .long 1, .long 200]) (rest := []) ⟨hx, hb, hml, hown, hts⟩ (c_X2_isWithin l dC dI n.toInt64 1 200) (va_cwS 3 hts gX2_turns_X2_isWithin rfl rfl rfl (by decide +kernel) ⟨Nat.le_of_ble_eq_true rfl, Nat.le_of_ble_eq_true rfl⟩) ⟨fun a U g mk q => ⟨q.1, trivial⟩, fun U hU hW => ⟨rfl, trivial⟩⟩ rfl rfl hl.1 rfl (lv_room (Nat.le_of_ble_eq_true rfl)) dX2_turns_6 ⟨Nat.zero_le _, Nat.zero_le _⟩)) (fun r_6 hr_6 => ?_)
  obtain rfl : r_6 = zb (wi n.toInt 1 200) := hr_6.trans (by rw [i2l_toInt]; rfl)
  refine lv_if_ne (tgt := 14) hx hb dX2_turns_9 (by decide) (fun c_9 => ?_) (fun c_9 => ?_)
  · have c_9 := zb_n.mp c_9
    obtain ⟨n1, hn1, hn2, rfl⟩ := nI_wi (a := 1) (b := 200) c_9
    refine lv_iconst (v := 0) hx hb dX2_turns_14 (by decide) ?_
    refine lv_istore_n (lv' := [(2, .int 0), (0, .ref h0), (1, .int (nI n1))]) hx hb dX2_turns_15 rfl hl (by decide) rfl (fun ls hl => ?_)
    refine W_loop (σ := Nat × AS × (Nat → Int32) × (Nat → Int32) × (Nat → Int32) × (Nat → Int32)) (fun xx ls H locs => match xx with | (i, Z1, LA, WA, CA, AA) => lv_has ls 3 [(0, .ref h0), (1, .int (nI n1)), (2, .int (nI i))] ∧ va_P (dC, dI) vwCl [(h0, .inr (2, [.ref h1, .ref h2, .long tr])), (h1, .inr (0, [.ref b0, .int (nI nw), .int (nI st), .int (nI kd)])), (b0, .inl (cA, 8, .inl WR)), (h2, .inr (1, [.ref a0, .ref a1, .ref a2, .ref a3, .int (nI N), .int (nI (bc (alv Z1.2.1) N)), .int (nI Z1.2.2.2), .int (nI Z1.1.length)])), (a0, .inl (cA, 40, .inl LA)), (a1, .inl (cA, 40, .inl WA)), (a2, .inl (cA, 200, .inl CA)), (a3, .inl (cA, 200, .inl AA))] H ∧ va_D A [(h0, .inr (2, [.ref h1, .ref h2, .long tr])), (h1, .inr (0, [.ref b0, .int (nI nw), .int (nI st), .int (nI kd)])), (b0, .inl (cA, 8, .inl WR)), (h2, .inr (1, [.ref a0, .ref a1, .ref a2, .ref a3, .int (nI N), .int (nI (bc (alv Z1.2.1) N)), .int (nI Z1.2.2.2), .int (nI Z1.1.length)])), (a0, .inl (cA, 40, .inl LA)), (a1, .inl (cA, 40, .inl WA)), (a2, .inl (cA, 200, .inl CA)), (a3, .inl (cA, 200, .inl AA))] ∧ va_S A s.heap H locs ∧ GA Bl N Z1 ∧ RA N Z1 LA WA CA AA ∧ i ≤ n1 ∧ (tnS N st kd nw wd (n1 - i) Z1).1 + i = (tnS N st kd nw wd n1 Z).1 ∧ (tnS N st kd nw wd (n1 - i) Z1).2 = (tnS N st kd nw wd n1 Z).2) (fun xx => match xx with | (i, Z1, LA, WA, CA, AA) => n1 - i) ?_ (0, Z, LA, WA, CA, AA) ⟨lv_sub hl [1, 2, 0] rfl, hP, hD, hS, hG, hR, Nat.zero_le _, rfl, rfl⟩
    rintro ⟨i, Z1, LA, WA, CA, AA⟩ ls H locs ⟨hl, hP, hD, hS, hG, hR, hi, hg1, hg2⟩ ih_16
    have hlen := hG.len
    have hcl := bc_le (alv Z1.2.1) N
    refine lv_iload_n hx hb dX2_turns_16 rfl (lv_at hl 2 rfl) ?_
    refine lv_iload_n hx hb dX2_turns_17 rfl (lv_at hl 1 rfl) ?_
    refine lv_icmp_ge (tgt := 51) hx hb dX2_turns_18 (by decide) (fun c_18 => ?_) (fun c_18 => ?_)
    · have c_18 : n1 ≤ i := (nI_leI (a := n1) (b := i) (by omega) (by omega)).mp c_18
      refine lv_iload_n hx hb dX2_turns_51 rfl (lv_at hl 2 rfl) ?_
      have hP9 := hP.sub (ws' := [(h0, .inr (2, [.ref h1, .ref h2, .long tr])), (h1, .inr (0, [.ref b0, .int (nI nw), .int (nI st), .int (nI kd)])), (b0, .inl (cA, 8, .inl WR)), (h2, .inr (1, [.ref a0, .ref a1, .ref a2, .ref a3, .int (nI N), .int (nI (bc (alv Z1.2.1) N)), .int (nI Z1.2.2.2), .int (nI Z1.1.length)])), (a0, .inl (cA, 40, .inl LA)), (a1, .inl (cA, 40, .inl WA)), (a2, .inl (cA, 200, .inl CA)), (a3, .inl (cA, 200, .inl AA))]) [0, 1, 2, 3, 4, 5, 6, 7] rfl
      have hD9 := hD.sub (ws' := [(h0, .inr (2, [.ref h1, .ref h2, .long tr])), (h1, .inr (0, [.ref b0, .int (nI nw), .int (nI st), .int (nI kd)])), (b0, .inl (cA, 8, .inl WR)), (h2, .inr (1, [.ref a0, .ref a1, .ref a2, .ref a3, .int (nI N), .int (nI (bc (alv Z1.2.1) N)), .int (nI Z1.2.2.2), .int (nI Z1.1.length)])), (a0, .inl (cA, 40, .inl LA)), (a1, .inl (cA, 40, .inl WA)), (a2, .inl (cA, 200, .inl CA)), (a3, .inl (cA, 200, .inl AA))]) [0, 1, 2, 3, 4, 5, 6, 7] (by decide) rfl
      exact W.iret (v := nI i) hx hb hr (fun t ht hW => ⟨⟨_, (Z1, LA, WA, CA, AA), rfl, ⟨by unfold spTurns; rw [if_pos c_9, nI_toInt (by omega), Int.toNat_natCast, ← hg1, ← hg2, show n1 - i = 0 by omega]; simp only [tnS, Nat.zero_add], hG, hR⟩, ⟨by rw [ht]; exact hP9, va_K.moved hW.alike hK, hD9⟩⟩, hS.F ht⟩) hS.2.2 dX2_turns_52
    · have c_18 : i < n1 := Nat.lt_of_not_le (fun h => c_18 ((nI_leI (a := n1) (b := i) (by omega) (by omega)).mpr h))
      refine lv_aload_n hx hb dX2_turns_21 rfl (lv_at hl 0 rfl) ?_
      refine va_get (D := (dC, dI)) (ci := 2) (v := .ref h2) (C := RX2) (T := TX2) (N := 3) hx hb hts (by decide +kernel) hown hK hP 0 rfl rfl 1 (by decide) (hts (.fieldLink RX2 19 "CountedOut" "people" "LCountedOut$Ring;") (by decide +kernel)) (fun _ h9 => h9) rfl dX2_turns_22 ?_
      refine lv_aload_n hx hb dX2_turns_25 rfl (lv_at hl 0 rfl) ?_
      refine va_get (D := (dC, dI)) (ci := 2) (v := .ref h1) (C := RX2) (T := TX2) (N := 3) hx hb hts (by decide +kernel) hown hK hP 0 rfl rfl 0 (by decide) (hts (.fieldLink RX2 12 "CountedOut" "counts" "LCountedOut$Counts;") (by decide +kernel)) (fun _ h9 => h9) rfl dX2_turns_26 ?_
      refine lv_aload_n hx hb dX2_turns_29 rfl (lv_at hl 0 rfl) ?_
      refine va_get (D := (dC, dI)) (ci := 2) (v := .ref h2) (C := RX2) (T := TX2) (N := 3) hx hb hts (by decide +kernel) hown hK hP 0 rfl rfl 1 (by decide) (hts (.fieldLink RX2 19 "CountedOut" "people" "LCountedOut$Ring;") (by decide +kernel)) (fun _ h9 => h9) rfl dX2_turns_30 ?_
      refine va_get (D := (dC, dI)) (ci := 1) (v := .int (nI Z1.1.length)) (C := RX1) (T := TX1) (N := 8) hx hb hts (by decide +kernel) hown hK hP 3 rfl rfl 7 (by decide) (hts (.fieldLink RX2 115 "CountedOut$Ring" "done" "I") (by decide +kernel)) (fun _ h9 => h9) rfl dX2_turns_33 ?_
      have hPc := hP.sub (ws' := [(h1, .inr (0, [.ref b0, .int (nI nw), .int (nI st), .int (nI kd)])), (b0, .inl (cA, 8, .inl WR))]) [1, 2] rfl
      refine vp_callSi (va_Run.run (va_runV (As := [.int (nI Z1.1.length)]) (rest := [.ref h2]) ⟨hx, hb, hml, hown, hts⟩ (c_X0_ofTurn l dC dI cA h1 b0 st kd nw wd WR hCS hCR Z1.1.length (by omega)) (cwV 1 hts gX2_turns_X0_ofTurn rfl rfl rfl (by decide +kernel) ⟨Nat.le_of_ble_eq_true rfl, Nat.le_of_ble_eq_true rfl⟩) ⟨fun a U g mk q => by obtain ⟨q0, qP, qK⟩ := q; exact ⟨q0, qP, va_K.moved (u := U) (U := U.calling g mk a) (Vm.Alike.refl U.vm) qK⟩, va_recv hK hP (ci := 0) (q0 := 1) rfl rfl, fun U hU hW => ⟨rfl, by rw [hU]; exact hPc, va_K.moved hW.alike hK⟩⟩ rfl rfl hl.1 rfl (lv_room (Nat.le_of_ble_eq_true rfl)) dX2_turns_36 ⟨Nat.zero_le _, Nat.zero_le _⟩)) (fun r_36 hr_36 => ?_)
      subst hr_36
      have hPc := hP.sub (ws' := [(h2, .inr (1, [.ref a0, .ref a1, .ref a2, .ref a3, .int (nI N), .int (nI (bc (alv Z1.2.1) N)), .int (nI Z1.2.2.2), .int (nI Z1.1.length)])), (a0, .inl (cA, 40, .inl LA)), (a1, .inl (cA, 40, .inl WA)), (a2, .inl (cA, 200, .inl CA)), (a3, .inl (cA, 200, .inl AA))]) [3, 4, 5, 6, 7] rfl
      have hDc := hD.sub (ws' := [(h2, .inr (1, [.ref a0, .ref a1, .ref a2, .ref a3, .int (nI N), .int (nI (bc (alv Z1.2.1) N)), .int (nI Z1.2.2.2), .int (nI Z1.1.length)])), (a0, .inl (cA, 40, .inl LA)), (a1, .inl (cA, 40, .inl WA)), (a2, .inl (cA, 200, .inl CA)), (a3, .inl (cA, 200, .inl AA))]) [3, 4, 5, 6, 7] (by decide) rfl
      have hFc := va_free (wc := [(h2, .inr (1, [.ref a0, .ref a1, .ref a2, .ref a3, .int (nI N), .int (nI (bc (alv Z1.2.1) N)), .int (nI Z1.2.2.2), .int (nI Z1.1.length)])), (a0, .inl (cA, 40, .inl LA)), (a1, .inl (cA, 40, .inl WA)), (a2, .inl (cA, 200, .inl CA)), (a3, .inl (cA, 200, .inl AA))]) hD hS hA [3, 4, 5, 6, 7] rfl
      refine va_calli (va_runV (As := [.int (cI (cNeg kd Z1.1.length) (cK st kd nw wd Z1.1.length))]) (rest := []) ⟨hx, hb, hml, hown, hts⟩ (c_X1_takeTurn l dC dI H.size cA h2 a0 a1 a2 a3 Bl N Z1 LA WA CA AA hG hR (cNeg kd Z1.1.length) (cK st kd nw wd Z1.1.length) (cK_in hCS).1 (cK_in hCS).2) (cwV 1 hts gX2_turns_X1_takeTurn rfl rfl rfl (by decide +kernel) ⟨Nat.le_of_ble_eq_true rfl, Nat.le_of_ble_eq_true rfl⟩) ⟨fun a U g mk q => by obtain ⟨q0, q1, qP, qK, qD⟩ := q; exact ⟨q0, q1, qP, va_K.moved (u := U) (U := U.calling g mk a) (Vm.Alike.refl U.vm) qK, qD⟩, va_recv hK hP (ci := 1) (q0 := 3) rfl rfl, fun U hU hW => ⟨rfl, by rw [hU], by rw [hU]; exact hPc, va_K.moved hW.alike hK, hDc.weaken (fun _ _ _ _ => trivial)⟩⟩ rfl rfl hl.1 rfl (lv_room (Nat.le_of_ble_eq_true rfl)) dX2_turns_39 ⟨Nat.zero_le _, Nat.zero_le _⟩) hS (fun q _ h => hFc q h) hFc (fun r_39 u_39 t_39 H1 locs ht_39 hvm_39 hw_39 hB_39 hz1 hk1 hS => ?_)
      obtain ⟨Z2, LA2, WA2, CA2, AA2⟩ := u_39
      obtain ⟨hr39, hZ2, hR2⟩ := hw_39
      try dsimp only at hZ2 hR2
      obtain ⟨hP1, hK1, hD1⟩ := hB_39
      rw [ht_39] at hP1
      obtain ⟨hP, hD⟩ := va_join (wr := [(h0, .inr (2, [.ref h1, .ref h2, .long tr])), (h1, .inr (0, [.ref b0, .int (nI nw), .int (nI st), .int (nI kd)])), (b0, .inl (cA, 8, .inl WR))]) (w1 := [(h2, .inr (1, [.ref a0, .ref a1, .ref a2, .ref a3, .int (nI N), .int (nI (bc (alv Z2.2.1) N)), .int (nI Z2.2.2.2), .int (nI Z2.1.length)])), (a0, .inl (cA, 40, .inl LA2)), (a1, .inl (cA, 40, .inl WA2)), (a2, .inl (cA, 200, .inl CA2)), (a3, .inl (cA, 200, .inl AA2))]) hP hD [3, 4, 5, 6, 7] [0, 1, 2] rfl rfl (by decide) (by decide) hk1 hFc hP1 hD1
      generalize H1 = H at hP hS ⊢
      have hP := hP.sub (ws' := [(h0, .inr (2, [.ref h1, .ref h2, .long tr])), (h1, .inr (0, [.ref b0, .int (nI nw), .int (nI st), .int (nI kd)])), (b0, .inl (cA, 8, .inl WR)), (h2, .inr (1, [.ref a0, .ref a1, .ref a2, .ref a3, .int (nI N), .int (nI (bc (alv Z2.2.1) N)), .int (nI Z2.2.2.2), .int (nI Z2.1.length)])), (a0, .inl (cA, 40, .inl LA2)), (a1, .inl (cA, 40, .inl WA2)), (a2, .inl (cA, 200, .inl CA2)), (a3, .inl (cA, 200, .inl AA2))]) [0, 1, 2, 3, 4, 5, 6, 7] rfl
      have hD := hD.sub (ws' := [(h0, .inr (2, [.ref h1, .ref h2, .long tr])), (h1, .inr (0, [.ref b0, .int (nI nw), .int (nI st), .int (nI kd)])), (b0, .inl (cA, 8, .inl WR)), (h2, .inr (1, [.ref a0, .ref a1, .ref a2, .ref a3, .int (nI N), .int (nI (bc (alv Z2.2.1) N)), .int (nI Z2.2.2.2), .int (nI Z2.1.length)])), (a0, .inl (cA, 40, .inl LA2)), (a1, .inl (cA, 40, .inl WA2)), (a2, .inl (cA, 200, .inl CA2)), (a3, .inl (cA, 200, .inl AA2))]) [0, 1, 2, 3, 4, 5, 6, 7] (by decide) rfl
      subst hr39
      refine lv_if_eq (tgt := 51) hx hb dX2_turns_42 (by decide) (fun c_42 => ?_) (fun c_42 => ?_)
      · have c_42 := zb_0.mp c_42
        have c_42 : bc (alv Z1.2.1) N < 2 := by have := of_decide_eq_false c_42; omega
        have hZ3 : Z2 = Z1 := hZ2.trans (if_pos c_42)
        refine lv_iload_n hx hb dX2_turns_51 rfl (lv_at hl 2 rfl) ?_
        have hP9 := hP.sub (ws' := [(h0, .inr (2, [.ref h1, .ref h2, .long tr])), (h1, .inr (0, [.ref b0, .int (nI nw), .int (nI st), .int (nI kd)])), (b0, .inl (cA, 8, .inl WR)), (h2, .inr (1, [.ref a0, .ref a1, .ref a2, .ref a3, .int (nI N), .int (nI (bc (alv Z2.2.1) N)), .int (nI Z2.2.2.2), .int (nI Z2.1.length)])), (a0, .inl (cA, 40, .inl LA2)), (a1, .inl (cA, 40, .inl WA2)), (a2, .inl (cA, 200, .inl CA2)), (a3, .inl (cA, 200, .inl AA2))]) [0, 1, 2, 3, 4, 5, 6, 7] rfl
        have hD9 := hD.sub (ws' := [(h0, .inr (2, [.ref h1, .ref h2, .long tr])), (h1, .inr (0, [.ref b0, .int (nI nw), .int (nI st), .int (nI kd)])), (b0, .inl (cA, 8, .inl WR)), (h2, .inr (1, [.ref a0, .ref a1, .ref a2, .ref a3, .int (nI N), .int (nI (bc (alv Z2.2.1) N)), .int (nI Z2.2.2.2), .int (nI Z2.1.length)])), (a0, .inl (cA, 40, .inl LA2)), (a1, .inl (cA, 40, .inl WA2)), (a2, .inl (cA, 200, .inl CA2)), (a3, .inl (cA, 200, .inl AA2))]) [0, 1, 2, 3, 4, 5, 6, 7] (by decide) rfl
        exact W.iret (v := nI i) hx hb hr (fun t ht hW => ⟨⟨_, (Z2, LA2, WA2, CA2, AA2), rfl, ⟨by unfold spTurns; rw [if_pos c_9, nI_toInt (by omega), Int.toNat_natCast, ← hg1, ← hg2, tnS_0 c_42]; simp only [Nat.zero_add, hZ3], by rw [hZ3]; exact hG, hR2⟩, ⟨by rw [ht]; exact hP9, va_K.moved hW.alike hK, hD9⟩⟩, hS.F ht⟩) hS.2.2 dX2_turns_52
      · have c_42 := zb_n.mp c_42
        have c_42 : 2 ≤ bc (alv Z1.2.1) N := of_decide_eq_true c_42
        obtain ⟨f, hf⟩ : ∃ f, n1 - i = f + 1 := ⟨n1 - i - 1, by omega⟩
        have hZ3 : Z2 = tS N (cNeg kd Z1.1.length) (cK st kd nw wd Z1.1.length) Z1 := hZ2.trans (if_neg (by omega))
        subst hZ3
        refine lv_iinc (v := nI (i + 1)) (lv' := [(2, .int (nI (i + 1))), (0, .ref h0), (1, .int (nI n1))]) hx hb dX2_turns_45 hl (k := 2) rfl (nI_1 i) (by decide) rfl (fun ls hl => ?_)
        refine lv_goto (tgt := 16) hx hb dX2_turns_48 (by decide) ?_
        exact ih_16 (i + 1, tS N (cNeg kd Z1.1.length) (cK st kd nw wd Z1.1.length) Z1, LA2, WA2, CA2, AA2) _ _ _ (by show n1 - (i + 1) < n1 - i; omega) ⟨lv_sub hl [1, 2, 0] rfl, hP, hD, hS, GA_tS hG _ _ c_42, hR2, (by omega), (by rw [← hg1, hf, tnS_s (by omega), show n1 - (i + 1) = f by omega]; show _ + (i + 1) = _ + 1 + i; omega), (by rw [← hg2, hf, tnS_s (by omega), show n1 - (i + 1) = f by omega])⟩
  · have c_9 := zb_0.mp c_9
    refine lv_iconst (v := (-1)) hx hb dX2_turns_12 (by decide) ?_
    have hP9 := hP.sub (ws' := [(h0, .inr (2, [.ref h1, .ref h2, .long tr])), (h1, .inr (0, [.ref b0, .int (nI nw), .int (nI st), .int (nI kd)])), (b0, .inl (cA, 8, .inl WR)), (h2, .inr (1, [.ref a0, .ref a1, .ref a2, .ref a3, .int (nI N), .int (nI (bc (alv Z.2.1) N)), .int (nI Z.2.2.2), .int (nI Z.1.length)])), (a0, .inl (cA, 40, .inl LA)), (a1, .inl (cA, 40, .inl WA)), (a2, .inl (cA, 200, .inl CA)), (a3, .inl (cA, 200, .inl AA))]) [0, 1, 2, 3, 4, 5, 6, 7] rfl
    have hD9 := hD.sub (ws' := [(h0, .inr (2, [.ref h1, .ref h2, .long tr])), (h1, .inr (0, [.ref b0, .int (nI nw), .int (nI st), .int (nI kd)])), (b0, .inl (cA, 8, .inl WR)), (h2, .inr (1, [.ref a0, .ref a1, .ref a2, .ref a3, .int (nI N), .int (nI (bc (alv Z.2.1) N)), .int (nI Z.2.2.2), .int (nI Z.1.length)])), (a0, .inl (cA, 40, .inl LA)), (a1, .inl (cA, 40, .inl WA)), (a2, .inl (cA, 200, .inl CA)), (a3, .inl (cA, 200, .inl AA))]) [0, 1, 2, 3, 4, 5, 6, 7] (by decide) rfl
    exact W.iret (v := (-1)) hx hb hr (fun t ht hW => ⟨⟨_, (Z, LA, WA, CA, AA), rfl, ⟨by unfold spTurns; rw [if_neg (by rw [c_9]; decide)], hG, hR⟩, ⟨by rw [ht]; exact hP9, va_K.moved hW.alike hK, hD9⟩⟩, hS.F ht⟩) hS.2.2 dX2_turns_13

set_option maxHeartbeats 4000000 in
set_option maxRecDepth 100000 in
theorem c_X2_back (l : Launch) (dC : Nat → ClassId) (dI : Nat → Nat → Nat) (sz : Nat) (cA : ClassId) (h0 h1 h2 b0 a0 a1 a2 a3 : Nat) (tr : Int64) (Bl : Nat → Nat) (N : Nat) (Z : AS) (LA WA CA AA : Nat → Int32) (hG : GA Bl N Z) (hR : RA N Z LA WA CA AA) (n : Int32) : Met l yX2_back wsX2_back ({ frames := 1, cells := 0, slots := 0, locals := 25 }) (va_Pc [.ref h0, .int n] (fun U => U.heap.size = sz ∧ va_P (dC, dI) vwCl [(h0, .inr (2, [.ref h1, .ref h2, .long tr])), (h2, .inr (1, [.ref a0, .ref a1, .ref a2, .ref a3, .int (nI N), .int (nI (bc (alv Z.2.1) N)), .int (nI Z.2.2.2), .int (nI Z.1.length)])), (a0, .inl (cA, 40, .inl LA)), (a1, .inl (cA, 40, .inl WA)), (a2, .inl (cA, 200, .inl CA)), (a3, .inl (cA, 200, .inl AA))] U.heap ∧ va_K (dC, dI) vwCl [(cA, .int)] U ∧ va_D (fun _ => True) [(h0, .inr (2, [.ref h1, .ref h2, .long tr])), (h2, .inr (1, [.ref a0, .ref a1, .ref a2, .ref a3, .int (nI N), .int (nI (bc (alv Z.2.1) N)), .int (nI Z.2.2.2), .int (nI Z.1.length)])), (a0, .inl (cA, 40, .inl LA)), (a1, .inl (cA, 40, .inl WA)), (a2, .inl (cA, 200, .inl CA)), (a3, .inl (cA, 200, .inl AA))])) (va_Qi (S := AS × (Nat → Int32) × (Nat → Int32) × (Nat → Int32) × (Nat → Int32)) (fun r u => (r, u.1) = spBack n Z ∧ GA Bl N u.1 ∧ RA N u.1 u.2.1 u.2.2.1 u.2.2.2.1 u.2.2.2.2) (fun (u : AS × (Nat → Int32) × (Nat → Int32) × (Nat → Int32) × (Nat → Int32)) (t : State) => va_P (dC, dI) vwCl [(h0, .inr (2, [.ref h1, .ref h2, .long tr])), (h2, .inr (1, [.ref a0, .ref a1, .ref a2, .ref a3, .int (nI N), .int (nI (bc (alv u.1.2.1) N)), .int (nI u.1.2.2.2), .int (nI u.1.1.length)])), (a0, .inl (cA, 40, .inl u.2.1)), (a1, .inl (cA, 40, .inl u.2.2.1)), (a2, .inl (cA, 200, .inl u.2.2.2.1)), (a3, .inl (cA, 200, .inl u.2.2.2.2))] t.heap ∧ va_K (dC, dI) vwCl [(cA, .int)] t ∧ va_D (va_A [(h0, .inr (2, [.ref h1, .ref h2, .long tr])), (h2, .inr (1, [.ref a0, .ref a1, .ref a2, .ref a3, .int (nI N), .int (nI (bc (alv Z.2.1) N)), .int (nI Z.2.2.2), .int (nI Z.1.length)])), (a0, .inl (cA, 40, .inl LA)), (a1, .inl (cA, 40, .inl WA)), (a2, .inl (cA, 200, .inl CA)), (a3, .inl (cA, 200, .inl AA))] sz) [(h0, .inr (2, [.ref h1, .ref h2, .long tr])), (h2, .inr (1, [.ref a0, .ref a1, .ref a2, .ref a3, .int (nI N), .int (nI (bc (alv u.1.2.1) N)), .int (nI u.1.2.2.2), .int (nI u.1.1.length)])), (a0, .inl (cA, 40, .inl u.2.1)), (a1, .inl (cA, 40, .inl u.2.2.1)), (a2, .inl (cA, 200, .inl u.2.2.2.1)), (a3, .inl (cA, 200, .inl u.2.2.2.2))]) (va_A [(h0, .inr (2, [.ref h1, .ref h2, .long tr])), (h2, .inr (1, [.ref a0, .ref a1, .ref a2, .ref a3, .int (nI N), .int (nI (bc (alv Z.2.1) N)), .int (nI Z.2.2.2), .int (nI Z.1.length)])), (a0, .inl (cA, 40, .inl LA)), (a1, .inl (cA, 40, .inl WA)), (a2, .inl (cA, 200, .inl CA)), (a3, .inl (cA, 200, .inl AA))] sz)) 0 0 (va_A [(h0, .inr (2, [.ref h1, .ref h2, .long tr])), (h2, .inr (1, [.ref a0, .ref a1, .ref a2, .ref a3, .int (nI N), .int (nI (bc (alv Z.2.1) N)), .int (nI Z.2.2.2), .int (nI Z.1.length)])), (a0, .inl (cA, 40, .inl LA)), (a1, .inl (cA, 40, .inl WA)), (a2, .inl (cA, 200, .inl CA)), (a3, .inl (cA, 200, .inl AA))] sz) := by
  refine Met.ofW (cc := cX2_back) (maxL := 3) (ret := (some .int)) (by decide) rfl ?_
  intro p e s m args below meth c s₁ B hml hv
  obtain ⟨rfl, hsz, hP, hK, hD0⟩ := hv
  have hx := B.exec
  have hb := B.bytes
  have hr := B.returns
  have hts := atoms_spec (ws := wsX2_back) B.pre
  have hown : s.vm.findClass RX2 = some m.cls := findClass_of_methodNamed B.named
  have hlocks := B.notSynchronized
  subst hsz
  have hD := hD0.self (sz := s.heap.size)
  generalize hAe : va_A [(h0, .inr (2, [.ref h1, .ref h2, .long tr])), (h2, .inr (1, [.ref a0, .ref a1, .ref a2, .ref a3, .int (nI N), .int (nI (bc (alv Z.2.1) N)), .int (nI Z.2.2.2), .int (nI Z.1.length)])), (a0, .inl (cA, 40, .inl LA)), (a1, .inl (cA, 40, .inl WA)), (a2, .inl (cA, 200, .inl CA)), (a3, .inl (cA, 200, .inl AA))] s.heap.size = A at hD ⊢
  have hA : ∀ q : Nat, s.heap.size ≤ q → A q := fun q h => by rw [← hAe]; exact Or.inr h
  have hS : va_S A s.heap s.heap [] := va_S.rf
  have hP : va_P (dC, dI) vwCl [(h0, .inr (2, [.ref h1, .ref h2, .long tr])), (h2, .inr (1, [.ref a0, .ref a1, .ref a2, .ref a3, .int (nI N), .int (nI (bc (alv Z.2.1) N)), .int (nI Z.2.2.2), .int (nI Z.1.length)])), (a0, .inl (cA, 40, .inl LA)), (a1, .inl (cA, 40, .inl WA)), (a2, .inl (cA, 200, .inl CA)), (a3, .inl (cA, 200, .inl AA))] s.heap := hP
  have hl := lv_entry ([.ref h0, .int n]) (n := 3) (Nat.le_of_ble_eq_true rfl)
  rw [lg_entry_eq]
  generalize (lg_sl ([.ref h0, .int n]) ++ List.replicate (3 - (lg_sl ([.ref h0, .int n])).length) Slot.unset).toArray = ls at hl ⊢
  have hl : lv_has ls 3 [(0, .ref h0), (1, .int n)] := hl
  obtain ⟨hN1, hN, -⟩ := hG.rb
  refine lv_iload_n hx hb dX2_back_0 rfl (lv_at hl 1 rfl) ?_
  refine lv_i2l (v := n.toInt64) hx hb dX2_back_1 rfl ?_
  refine lv_lconst (v := 1) hx hb dX2_back_2 (by decide) ?_
  refine lv_ldc2 (v := 200) hx hb hown (hts (.constantLong RX2 113 (200)) (by decide +kernel)) dX2_back_3 ?_
  refine vp_callSi (va_Run.run (va_runS (As := [.long n.toInt64, .long 1, .long 200]) (rest := []) ⟨hx, hb, hml, hown, hts⟩ (c_X2_isWithin l dC dI n.toInt64 1 200) (va_cwS 3 hts gX2_back_X2_isWithin rfl rfl rfl (by decide +kernel) ⟨Nat.le_of_ble_eq_true rfl, Nat.le_of_ble_eq_true rfl⟩) ⟨fun a U g mk q => ⟨q.1, trivial⟩, fun U hU hW => ⟨rfl, trivial⟩⟩ rfl rfl hl.1 rfl (lv_room (Nat.le_of_ble_eq_true rfl)) dX2_back_6 ⟨Nat.zero_le _, Nat.zero_le _⟩)) (fun r_6 hr_6 => ?_)
  obtain rfl : r_6 = zb (wi n.toInt 1 200) := hr_6.trans (by rw [i2l_toInt]; rfl)
  refine lv_if_ne (tgt := 14) hx hb dX2_back_9 (by decide) (fun c_9 => ?_) (fun c_9 => ?_)
  · have c_9 := zb_n.mp c_9
    obtain ⟨n1, hn1, hn2, rfl⟩ := nI_wi (a := 1) (b := 200) c_9
    refine lv_iconst (v := 0) hx hb dX2_back_14 (by decide) ?_
    refine lv_istore_n (lv' := [(2, .int 0), (0, .ref h0), (1, .int (nI n1))]) hx hb dX2_back_15 rfl hl (by decide) rfl (fun ls hl => ?_)
    refine W_loop (σ := Nat × AS × (Nat → Int32) × (Nat → Int32) × (Nat → Int32) × (Nat → Int32)) (fun xx ls H locs => match xx with | (i, Z1, LA, WA, CA, AA) => lv_has ls 3 [(0, .ref h0), (1, .int (nI n1)), (2, .int (nI i))] ∧ va_P (dC, dI) vwCl [(h0, .inr (2, [.ref h1, .ref h2, .long tr])), (h2, .inr (1, [.ref a0, .ref a1, .ref a2, .ref a3, .int (nI N), .int (nI (bc (alv Z1.2.1) N)), .int (nI Z1.2.2.2), .int (nI Z1.1.length)])), (a0, .inl (cA, 40, .inl LA)), (a1, .inl (cA, 40, .inl WA)), (a2, .inl (cA, 200, .inl CA)), (a3, .inl (cA, 200, .inl AA))] H ∧ va_D A [(h0, .inr (2, [.ref h1, .ref h2, .long tr])), (h2, .inr (1, [.ref a0, .ref a1, .ref a2, .ref a3, .int (nI N), .int (nI (bc (alv Z1.2.1) N)), .int (nI Z1.2.2.2), .int (nI Z1.1.length)])), (a0, .inl (cA, 40, .inl LA)), (a1, .inl (cA, 40, .inl WA)), (a2, .inl (cA, 200, .inl CA)), (a3, .inl (cA, 200, .inl AA))] ∧ va_S A s.heap H locs ∧ GA Bl N Z1 ∧ RA N Z1 LA WA CA AA ∧ i ≤ n1 ∧ (bkS (n1 - i) Z1).1 + i = (bkS n1 Z).1 ∧ (bkS (n1 - i) Z1).2 = (bkS n1 Z).2) (fun xx => match xx with | (i, Z1, LA, WA, CA, AA) => n1 - i) ?_ (0, Z, LA, WA, CA, AA) ⟨lv_sub hl [1, 2, 0] rfl, hP, hD, hS, hG, hR, Nat.zero_le _, rfl, rfl⟩
    rintro ⟨i, Z1, LA, WA, CA, AA⟩ ls H locs ⟨hl, hP, hD, hS, hG, hR, hi, hg1, hg2⟩ ih_16
    refine lv_iload_n hx hb dX2_back_16 rfl (lv_at hl 2 rfl) ?_
    refine lv_iload_n hx hb dX2_back_17 rfl (lv_at hl 1 rfl) ?_
    refine lv_icmp_ge (tgt := 37) hx hb dX2_back_18 (by decide) (fun c_18 => ?_) (fun c_18 => ?_)
    · have c_18 : n1 ≤ i := (nI_leI (a := n1) (b := i) (by omega) (by omega)).mp c_18
      refine lv_iload_n hx hb dX2_back_37 rfl (lv_at hl 2 rfl) ?_
      have hP9 := hP.sub (ws' := [(h0, .inr (2, [.ref h1, .ref h2, .long tr])), (h2, .inr (1, [.ref a0, .ref a1, .ref a2, .ref a3, .int (nI N), .int (nI (bc (alv Z1.2.1) N)), .int (nI Z1.2.2.2), .int (nI Z1.1.length)])), (a0, .inl (cA, 40, .inl LA)), (a1, .inl (cA, 40, .inl WA)), (a2, .inl (cA, 200, .inl CA)), (a3, .inl (cA, 200, .inl AA))]) [0, 1, 2, 3, 4, 5] rfl
      have hD9 := hD.sub (ws' := [(h0, .inr (2, [.ref h1, .ref h2, .long tr])), (h2, .inr (1, [.ref a0, .ref a1, .ref a2, .ref a3, .int (nI N), .int (nI (bc (alv Z1.2.1) N)), .int (nI Z1.2.2.2), .int (nI Z1.1.length)])), (a0, .inl (cA, 40, .inl LA)), (a1, .inl (cA, 40, .inl WA)), (a2, .inl (cA, 200, .inl CA)), (a3, .inl (cA, 200, .inl AA))]) [0, 1, 2, 3, 4, 5] (by decide) rfl
      exact W.iret (v := nI i) hx hb hr (fun t ht hW => ⟨⟨_, (Z1, LA, WA, CA, AA), rfl, ⟨by unfold spBack; rw [if_pos c_9, nI_toInt (by omega), Int.toNat_natCast, ← hg1, ← hg2, show n1 - i = 0 by omega]; simp only [bkS, Nat.zero_add], hG, hR⟩, ⟨by rw [ht]; exact hP9, va_K.moved hW.alike hK, hD9⟩⟩, hS.F ht⟩) hS.2.2 dX2_back_38
    · have c_18 : i < n1 := Nat.lt_of_not_le (fun h => c_18 ((nI_leI (a := n1) (b := i) (by omega) (by omega)).mpr h))
      refine lv_aload_n hx hb dX2_back_21 rfl (lv_at hl 0 rfl) ?_
      refine va_get (D := (dC, dI)) (ci := 2) (v := .ref h2) (C := RX2) (T := TX2) (N := 3) hx hb hts (by decide +kernel) hown hK hP 0 rfl rfl 1 (by decide) (hts (.fieldLink RX2 19 "CountedOut" "people" "LCountedOut$Ring;") (by decide +kernel)) (fun _ h9 => h9) rfl dX2_back_22 ?_
      have hPc := hP.sub (ws' := [(h2, .inr (1, [.ref a0, .ref a1, .ref a2, .ref a3, .int (nI N), .int (nI (bc (alv Z1.2.1) N)), .int (nI Z1.2.2.2), .int (nI Z1.1.length)])), (a0, .inl (cA, 40, .inl LA)), (a1, .inl (cA, 40, .inl WA)), (a2, .inl (cA, 200, .inl CA)), (a3, .inl (cA, 200, .inl AA))]) [1, 2, 3, 4, 5] rfl
      have hDc := hD.sub (ws' := [(h2, .inr (1, [.ref a0, .ref a1, .ref a2, .ref a3, .int (nI N), .int (nI (bc (alv Z1.2.1) N)), .int (nI Z1.2.2.2), .int (nI Z1.1.length)])), (a0, .inl (cA, 40, .inl LA)), (a1, .inl (cA, 40, .inl WA)), (a2, .inl (cA, 200, .inl CA)), (a3, .inl (cA, 200, .inl AA))]) [1, 2, 3, 4, 5] (by decide) rfl
      have hFc := va_free (wc := [(h2, .inr (1, [.ref a0, .ref a1, .ref a2, .ref a3, .int (nI N), .int (nI (bc (alv Z1.2.1) N)), .int (nI Z1.2.2.2), .int (nI Z1.1.length)])), (a0, .inl (cA, 40, .inl LA)), (a1, .inl (cA, 40, .inl WA)), (a2, .inl (cA, 200, .inl CA)), (a3, .inl (cA, 200, .inl AA))]) hD hS hA [1, 2, 3, 4, 5] rfl
      refine va_calli (va_runV (As := []) (rest := []) ⟨hx, hb, hml, hown, hts⟩ (c_X1_takeBack l dC dI H.size cA h2 a0 a1 a2 a3 Bl N Z1.1 Z1.2.1 Z1.2.2.1 Z1.2.2.2 LA WA CA AA hG hR) (cwV 0 hts gX2_back_X1_takeBack rfl rfl rfl (by decide +kernel) ⟨Nat.le_of_ble_eq_true rfl, Nat.le_of_ble_eq_true rfl⟩) ⟨fun a U g mk q => by obtain ⟨q0, q1, qP, qK, qD⟩ := q; exact ⟨q0, q1, qP, va_K.moved (u := U) (U := U.calling g mk a) (Vm.Alike.refl U.vm) qK, qD⟩, va_recv hK hP (ci := 1) (q0 := 1) rfl rfl, fun U hU hW => ⟨rfl, by rw [hU], by rw [hU]; exact hPc, va_K.moved hW.alike hK, hDc.weaken (fun _ _ _ _ => trivial)⟩⟩ rfl rfl hl.1 rfl (lv_room (Nat.le_of_ble_eq_true rfl)) dX2_back_25 ⟨Nat.zero_le _, Nat.zero_le _⟩) hS (fun q _ h => hFc q h) hFc (fun r_25 u_25 t_25 H1 locs ht_25 hvm_25 hw_25 hB_25 hz1 hk1 hS => ?_)
      obtain ⟨Z2, LA2, WA2, CA2, AA2⟩ := u_25
      obtain ⟨hr25, hZ2, hR2⟩ := hw_25
      try dsimp only at hZ2 hR2
      obtain ⟨hP1, hK1, hD1⟩ := hB_25
      rw [ht_25] at hP1
      obtain ⟨hP, hD⟩ := va_join (wr := [(h0, .inr (2, [.ref h1, .ref h2, .long tr]))]) (w1 := [(h2, .inr (1, [.ref a0, .ref a1, .ref a2, .ref a3, .int (nI N), .int (nI (bc (alv Z2.2.1) N)), .int (nI Z2.2.2.2), .int (nI Z2.1.length)])), (a0, .inl (cA, 40, .inl LA2)), (a1, .inl (cA, 40, .inl WA2)), (a2, .inl (cA, 200, .inl CA2)), (a3, .inl (cA, 200, .inl AA2))]) hP hD [1, 2, 3, 4, 5] [0] rfl rfl (by decide) (by decide) hk1 hFc hP1 hD1
      generalize H1 = H at hP hS ⊢
      have hP := hP.sub (ws' := [(h0, .inr (2, [.ref h1, .ref h2, .long tr])), (h2, .inr (1, [.ref a0, .ref a1, .ref a2, .ref a3, .int (nI N), .int (nI (bc (alv Z2.2.1) N)), .int (nI Z2.2.2.2), .int (nI Z2.1.length)])), (a0, .inl (cA, 40, .inl LA2)), (a1, .inl (cA, 40, .inl WA2)), (a2, .inl (cA, 200, .inl CA2)), (a3, .inl (cA, 200, .inl AA2))]) [0, 1, 2, 3, 4, 5] rfl
      have hD := hD.sub (ws' := [(h0, .inr (2, [.ref h1, .ref h2, .long tr])), (h2, .inr (1, [.ref a0, .ref a1, .ref a2, .ref a3, .int (nI N), .int (nI (bc (alv Z2.2.1) N)), .int (nI Z2.2.2.2), .int (nI Z2.1.length)])), (a0, .inl (cA, 40, .inl LA2)), (a1, .inl (cA, 40, .inl WA2)), (a2, .inl (cA, 200, .inl CA2)), (a3, .inl (cA, 200, .inl AA2))]) [0, 1, 2, 3, 4, 5] (by decide) rfl
      subst hr25
      refine lv_if_eq (tgt := 37) hx hb dX2_back_28 (by decide) (fun c_28 => ?_) (fun c_28 => ?_)
      · have c_28 := zb_0.mp c_28
        have c_28 := of_decide_eq_false c_28
        have hZ3 : Z2 = Z1 := hZ2.trans (bk1_0 c_28)
        refine lv_iload_n hx hb dX2_back_37 rfl (lv_at hl 2 rfl) ?_
        have hP9 := hP.sub (ws' := [(h0, .inr (2, [.ref h1, .ref h2, .long tr])), (h2, .inr (1, [.ref a0, .ref a1, .ref a2, .ref a3, .int (nI N), .int (nI (bc (alv Z2.2.1) N)), .int (nI Z2.2.2.2), .int (nI Z2.1.length)])), (a0, .inl (cA, 40, .inl LA2)), (a1, .inl (cA, 40, .inl WA2)), (a2, .inl (cA, 200, .inl CA2)), (a3, .inl (cA, 200, .inl AA2))]) [0, 1, 2, 3, 4, 5] rfl
        have hD9 := hD.sub (ws' := [(h0, .inr (2, [.ref h1, .ref h2, .long tr])), (h2, .inr (1, [.ref a0, .ref a1, .ref a2, .ref a3, .int (nI N), .int (nI (bc (alv Z2.2.1) N)), .int (nI Z2.2.2.2), .int (nI Z2.1.length)])), (a0, .inl (cA, 40, .inl LA2)), (a1, .inl (cA, 40, .inl WA2)), (a2, .inl (cA, 200, .inl CA2)), (a3, .inl (cA, 200, .inl AA2))]) [0, 1, 2, 3, 4, 5] (by decide) rfl
        exact W.iret (v := nI i) hx hb hr (fun t ht hW => ⟨⟨_, (Z2, LA2, WA2, CA2, AA2), rfl, ⟨by unfold spBack; rw [if_pos c_9, nI_toInt (by omega), Int.toNat_natCast, ← hg1, ← hg2, bkS_0 c_28]; simp only [Nat.zero_add, hZ3], by rw [hZ3]; exact hG, hR2⟩, ⟨by rw [ht]; exact hP9, va_K.moved hW.alike hK, hD9⟩⟩, hS.F ht⟩) hS.2.2 dX2_back_38
      · have c_28 := zb_n.mp c_28
        have c_28 := of_decide_eq_true c_28
        obtain ⟨f, hf⟩ : ∃ f, n1 - i = f + 1 := ⟨n1 - i - 1, by omega⟩
        have hZ3 : Z2 = bk1 Z1 := hZ2
        subst hZ3
        refine lv_iinc (v := nI (i + 1)) (lv' := [(2, .int (nI (i + 1))), (0, .ref h0), (1, .int (nI n1))]) hx hb dX2_back_31 hl (k := 2) rfl (nI_1 i) (by decide) rfl (fun ls hl => ?_)
        refine lv_goto (tgt := 16) hx hb dX2_back_34 (by decide) ?_
        exact ih_16 (i + 1, bk1 Z1, LA2, WA2, CA2, AA2) _ _ _ (by show n1 - (i + 1) < n1 - i; omega) ⟨lv_sub hl [1, 2, 0] rfl, hP, hD, hS, GA_bk1 hG, hR2, (by omega), (by rw [← hg1, hf, (bkS_s c_28).1, show n1 - (i + 1) = f by omega]; omega), (by rw [← hg2, hf, (bkS_s c_28).2, show n1 - (i + 1) = f by omega])⟩
  · have c_9 := zb_0.mp c_9
    refine lv_iconst (v := (-1)) hx hb dX2_back_12 (by decide) ?_
    have hP9 := hP.sub (ws' := [(h0, .inr (2, [.ref h1, .ref h2, .long tr])), (h2, .inr (1, [.ref a0, .ref a1, .ref a2, .ref a3, .int (nI N), .int (nI (bc (alv Z.2.1) N)), .int (nI Z.2.2.2), .int (nI Z.1.length)])), (a0, .inl (cA, 40, .inl LA)), (a1, .inl (cA, 40, .inl WA)), (a2, .inl (cA, 200, .inl CA)), (a3, .inl (cA, 200, .inl AA))]) [0, 1, 2, 3, 4, 5] rfl
    have hD9 := hD.sub (ws' := [(h0, .inr (2, [.ref h1, .ref h2, .long tr])), (h2, .inr (1, [.ref a0, .ref a1, .ref a2, .ref a3, .int (nI N), .int (nI (bc (alv Z.2.1) N)), .int (nI Z.2.2.2), .int (nI Z.1.length)])), (a0, .inl (cA, 40, .inl LA)), (a1, .inl (cA, 40, .inl WA)), (a2, .inl (cA, 200, .inl CA)), (a3, .inl (cA, 200, .inl AA))]) [0, 1, 2, 3, 4, 5] (by decide) rfl
    exact W.iret (v := (-1)) hx hb hr (fun t ht hW => ⟨⟨_, (Z, LA, WA, CA, AA), rfl, ⟨by unfold spBack; rw [if_neg (by rw [c_9]; decide)], hG, hR⟩, ⟨by rw [ht]; exact hP9, va_K.moved hW.alike hK, hD9⟩⟩, hS.F ht⟩) hS.2.2 dX2_back_13

set_option maxHeartbeats 4000000 in
set_option maxRecDepth 100000 in
theorem c_X2_about (l : Launch) (dC : Nat → ClassId) (dI : Nat → Nat → Nat) (cA : ClassId) (h0 h1 h2 b0 a0 a1 a2 a3 : Nat) (tr : Int64) (Bl : Nat → Nat) (N : Nat) (lg : List (Nat × Nat)) (L Wn : Nat → Nat) (ah : Nat) (LA WA CA AA : Nat → Int32) (hG : Rg Bl N lg L Wn ah) (hR : RX N lg L Wn LA WA CA AA) (p0 w : Int32) : Met l yX2_about wsX2_about ({ frames := 1, cells := 0, slots := 0, locals := 25 }) (va_Pc [.ref h0, .int p0, .int w] (fun U => va_P (dC, dI) vwCl [(h0, .inr (2, [.ref h1, .ref h2, .long tr])), (h2, .inr (1, [.ref a0, .ref a1, .ref a2, .ref a3, .int (nI N), .int (nI (bc (alv L) N)), .int (nI ah), .int (nI lg.length)])), (a0, .inl (cA, 40, .inl LA)), (a1, .inl (cA, 40, .inl WA))] U.heap ∧ va_K (dC, dI) vwCl [(cA, .int)] U)) (vp_Si (fun r => r = spAbout p0 w N (lg, L, Wn, ah))) 0 0 (fun _ => False) := by
  refine Met.ofW (cc := cX2_about) (maxL := 3) (ret := (some .int)) (by decide) rfl ?_
  intro p e s m args below meth c s₁ B hml hv
  obtain ⟨rfl, hP, hK⟩ := hv
  have hx := B.exec
  have hb := B.bytes
  have hr := B.returns
  have hts := atoms_spec (ws := wsX2_about) B.pre
  have hown : s.vm.findClass RX2 = some m.cls := findClass_of_methodNamed B.named
  have hlocks := B.notSynchronized
  have hl := lv_entry ([.ref h0, .int p0, .int w]) (n := 3) (Nat.le_of_ble_eq_true rfl)
  rw [lg_entry_eq]
  generalize (lg_sl ([.ref h0, .int p0, .int w]) ++ List.replicate (3 - (lg_sl ([.ref h0, .int p0, .int w])).length) Slot.unset).toArray = ls at hl ⊢
  have hl : lv_has ls 3 [(0, .ref h0), (1, .int p0), (2, .int w)] := hl
  obtain ⟨hN1, hN, hah, hal, hL5, hWL, hWc, hWi, hWe⟩ := hG.rb
  have hlen := hG.len
  have hcl := bc_le (alv L) N
  refine lv_aload_n hx hb dX2_about_0 rfl (lv_at hl 0 rfl) ?_
  refine va_get (D := (dC, dI)) (ci := 2) (v := .ref h2) (C := RX2) (T := TX2) (N := 3) hx hb hts (by decide +kernel) hown hK hP 0 rfl rfl 1 (by decide) (hts (.fieldLink RX2 19 "CountedOut" "people" "LCountedOut$Ring;") (by decide +kernel)) (fun _ h9 => h9) rfl dX2_about_1 ?_
  refine lv_iload_n hx hb dX2_about_4 rfl (lv_at hl 1 rfl) ?_
  have hPc := hP.sub (ws' := [(h2, .inr (1, [.ref a0, .ref a1, .ref a2, .ref a3, .int (nI N), .int (nI (bc (alv L) N)), .int (nI ah), .int (nI lg.length)]))]) [1] rfl
  refine vp_callSi (va_Run.run (va_runV (As := [.int p0]) (rest := []) ⟨hx, hb, hml, hown, hts⟩ (c_X1_has l dC dI cA h2 a0 a1 a2 a3 N hN (nI (bc (alv L) N)) (nI ah) (nI lg.length) p0) (cwV 1 hts gX2_about_X1_has rfl rfl rfl (by decide +kernel) ⟨Nat.le_of_ble_eq_true rfl, Nat.le_of_ble_eq_true rfl⟩) ⟨fun a U g mk q => by obtain ⟨q0, qP, qK⟩ := q; exact ⟨q0, qP, va_K.moved (u := U) (U := U.calling g mk a) (Vm.Alike.refl U.vm) qK⟩, va_recv hK hP (ci := 1) (q0 := 1) rfl rfl, fun U hU hW => ⟨rfl, by rw [hU]; exact hPc, va_K.moved hW.alike hK⟩⟩ rfl rfl hl.1 rfl (lv_room (Nat.le_of_ble_eq_true rfl)) dX2_about_5 ⟨Nat.zero_le _, Nat.zero_le _⟩)) (fun r_5 hr_5 => ?_)
  subst hr_5
  refine lv_if_eq (tgt := 21) hx hb dX2_about_8 (by decide) (fun c_8 => ?_) (fun c_8 => ?_)
  · have c_8 := zb_0.mp c_8
    refine lv_iconst (v := (-1)) hx hb dX2_about_21 (by decide) ?_
    exact W.iret (v := (-1)) hx hb hr (fun t ht hW => ⟨_, rfl, by unfold spAbout; first | (rw [c_8, Bool.false_and, if_neg (by decide)]) | (rw [c_8, c_18, Bool.true_and, if_neg (by decide)]), ht⟩) (fun _ h => absurd h List.not_mem_nil) dX2_about_22
  · have c_8 := zb_n.mp c_8
    refine lv_iload_n hx hb dX2_about_11 rfl (lv_at hl 2 rfl) ?_
    refine lv_i2l (v := w.toInt64) hx hb dX2_about_12 rfl ?_
    refine lv_lconst (v := 0) hx hb dX2_about_13 (by decide) ?_
    refine lv_lconst (v := 1) hx hb dX2_about_14 (by decide) ?_
    refine vp_callSi (va_Run.run (va_runS (As := [.long w.toInt64, .long 0, .long 1]) (rest := []) ⟨hx, hb, hml, hown, hts⟩ (c_X2_isWithin l dC dI w.toInt64 0 1) (va_cwS 3 hts gX2_about_X2_isWithin rfl rfl rfl (by decide +kernel) ⟨Nat.le_of_ble_eq_true rfl, Nat.le_of_ble_eq_true rfl⟩) ⟨fun a U g mk q => ⟨q.1, trivial⟩, fun U hU hW => ⟨rfl, trivial⟩⟩ rfl rfl hl.1 rfl (lv_room (Nat.le_of_ble_eq_true rfl)) dX2_about_15 ⟨Nat.zero_le _, Nat.zero_le _⟩)) (fun r_15 hr_15 => ?_)
    obtain rfl : r_15 = zb (wi w.toInt 0 1) := hr_15.trans (by rw [i2l_toInt]; rfl)
    refine lv_if_ne (tgt := 23) hx hb dX2_about_18 (by decide) (fun c_18 => ?_) (fun c_18 => ?_)
    · have c_18 := zb_n.mp c_18
      obtain ⟨p1, hp1, rfl⟩ := person_of hN1 hN c_8
      refine lv_iload_n hx hb dX2_about_23 rfl (lv_at hl 2 rfl) ?_
      refine lv_if_ne (tgt := 39) hx hb dX2_about_24 (by decide) (fun c_24 => ?_) (fun c_24 => ?_)
      · refine lv_aload_n hx hb dX2_about_39 rfl (lv_at hl 0 rfl) ?_
        refine va_get (D := (dC, dI)) (ci := 2) (v := .ref h2) (C := RX2) (T := TX2) (N := 3) hx hb hts (by decide +kernel) hown hK hP 0 rfl rfl 1 (by decide) (hts (.fieldLink RX2 19 "CountedOut" "people" "LCountedOut$Ring;") (by decide +kernel)) (fun _ h9 => h9) rfl dX2_about_40 ?_
        refine va_get (D := (dC, dI)) (ci := 1) (v := .ref a1) (C := RX1) (T := TX1) (N := 8) hx hb hts (by decide +kernel) hown hK hP 1 rfl rfl 1 (by decide) (hts (.fieldLink RX2 128 "CountedOut$Ring" "wentAs" "[I") (by decide +kernel)) (fun _ h9 => h9) rfl dX2_about_43 ?_
        refine lv_iload_n hx hb dX2_about_46 rfl (lv_at hl 1 rfl) ?_
        refine z_iald hx hb hK hP 3 0 rfl rfl (i := p1) (by omega) (by decide) dX2_about_47 ?_
        refine z_i (y := wI (Wn p1)) (hR.2.1 _ hp1) ?_
        exact W.iret (v := wI (Wn p1)) hx hb hr (fun t ht hW => ⟨_, rfl, by unfold spAbout; rw [c_8, c_18, Bool.true_and, if_pos rfl, nI_toInt (by omega)]; first | (rw [if_pos c_24]; rfl) | (rw [if_neg c_24]; rfl), ht⟩) (fun _ h => absurd h List.not_mem_nil) dX2_about_48
      · refine lv_aload_n hx hb dX2_about_27 rfl (lv_at hl 0 rfl) ?_
        refine va_get (D := (dC, dI)) (ci := 2) (v := .ref h2) (C := RX2) (T := TX2) (N := 3) hx hb hts (by decide +kernel) hown hK hP 0 rfl rfl 1 (by decide) (hts (.fieldLink RX2 19 "CountedOut" "people" "LCountedOut$Ring;") (by decide +kernel)) (fun _ h9 => h9) rfl dX2_about_28 ?_
        refine va_get (D := (dC, dI)) (ci := 1) (v := .ref a0) (C := RX1) (T := TX1) (N := 8) hx hb hts (by decide +kernel) hown hK hP 1 rfl rfl 0 (by decide) (hts (.fieldLink RX2 124 "CountedOut$Ring" "livesLeft" "[I") (by decide +kernel)) (fun _ h9 => h9) rfl dX2_about_31 ?_
        refine lv_iload_n hx hb dX2_about_34 rfl (lv_at hl 1 rfl) ?_
        refine z_iald hx hb hK hP 2 0 rfl rfl (i := p1) (by omega) (by decide) dX2_about_35 ?_
        refine z_i (y := nI (L p1)) (hR.1 _ hp1) ?_
        refine lv_goto (tgt := 48) hx hb dX2_about_36 (by decide) ?_
        exact W.iret (v := nI (L p1)) hx hb hr (fun t ht hW => ⟨_, rfl, by unfold spAbout; rw [c_8, c_18, Bool.true_and, if_pos rfl, nI_toInt (by omega)]; first | (rw [if_pos c_24]; rfl) | (rw [if_neg c_24]; rfl), ht⟩) (fun _ h => absurd h List.not_mem_nil) dX2_about_48
    · have c_18 := zb_0.mp c_18
      refine lv_iconst (v := (-1)) hx hb dX2_about_21 (by decide) ?_
      exact W.iret (v := (-1)) hx hb hr (fun t ht hW => ⟨_, rfl, by unfold spAbout; first | (rw [c_8, Bool.false_and, if_neg (by decide)]) | (rw [c_8, c_18, Bool.true_and, if_neg (by decide)]), ht⟩) (fun _ h => absurd h List.not_mem_nil) dX2_about_22

set_option maxHeartbeats 4000000 in
set_option maxRecDepth 100000 in
theorem c_X2_told (l : Launch) (dC : Nat → ClassId) (dI : Nat → Nat → Nat) (cA : ClassId) (h0 h1 h2 b0 a0 a1 a2 a3 : Nat) (tr : Int64) (Bl : Nat → Nat) (N : Nat) (lg : List (Nat × Nat)) (L Wn : Nat → Nat) (ah : Nat) (LA WA CA AA : Nat → Int32) (hG : Rg Bl N lg L Wn ah) (hR : RX N lg L Wn LA WA CA AA) (w : Int32) : Met l yX2_told wsX2_told ({ frames := 1, cells := 0, slots := 0, locals := 21 }) (va_Pc [.ref h0, .int w] (fun U => va_P (dC, dI) vwCl [(h0, .inr (2, [.ref h1, .ref h2, .long tr])), (h2, .inr (1, [.ref a0, .ref a1, .ref a2, .ref a3, .int (nI N), .int (nI (bc (alv L) N)), .int (nI ah), .int (nI lg.length)])), (a0, .inl (cA, 40, .inl LA)), (a1, .inl (cA, 40, .inl WA)), (a2, .inl (cA, 200, .inl CA)), (a3, .inl (cA, 200, .inl AA))] U.heap ∧ va_K (dC, dI) vwCl [(cA, .int)] U)) (vp_Si (fun r => r = spTold w N (lg, L, Wn, ah))) 0 0 (fun _ => False) := by
  refine Met.ofW (cc := cX2_told) (maxL := 2) (ret := (some .int)) (by decide) rfl ?_
  intro p e s m args below meth c s₁ B hml hv
  obtain ⟨rfl, hP, hK⟩ := hv
  have hx := B.exec
  have hb := B.bytes
  have hr := B.returns
  have hts := atoms_spec (ws := wsX2_told) B.pre
  have hown : s.vm.findClass RX2 = some m.cls := findClass_of_methodNamed B.named
  have hlocks := B.notSynchronized
  have hl := lv_entry ([.ref h0, .int w]) (n := 2) (Nat.le_of_ble_eq_true rfl)
  rw [lg_entry_eq]
  generalize (lg_sl ([.ref h0, .int w]) ++ List.replicate (2 - (lg_sl ([.ref h0, .int w])).length) Slot.unset).toArray = ls at hl ⊢
  have hl : lv_has ls 2 [(0, .ref h0), (1, .int w)] := hl
  obtain ⟨hN1, hN, hah, hal, hL5, hWL, hWc, hWi, hWe⟩ := hG.rb
  have hlen := hG.len
  have hcl := bc_le (alv L) N
  refine lv_iload_n hx hb dX2_told_0 rfl (lv_at hl 1 rfl) ?_
  rcases tsw w with rfl | rfl | rfl | rfl | rfl | ho
  · refine lv_tableIn (off := 35) (tgt := 36) hx hb dX2_told_1 (by decide) (by decide) rfl (by decide) ?_
    refine lv_aload_n hx hb dX2_told_36 rfl (lv_at hl 0 rfl) ?_
    refine va_get (D := (dC, dI)) (ci := 2) (v := .ref h2) (C := RX2) (T := TX2) (N := 3) hx hb hts (by decide +kernel) hown hK hP 0 rfl rfl 1 (by decide) (hts (.fieldLink RX2 19 "CountedOut" "people" "LCountedOut$Ring;") (by decide +kernel)) (fun _ h9 => h9) rfl dX2_told_37 ?_
    refine va_get (D := (dC, dI)) (ci := 1) (v := .int (nI ah)) (C := RX1) (T := TX1) (N := 8) hx hb hts (by decide +kernel) hown hK hP 1 rfl rfl 6 (by decide) (hts (.fieldLink RX2 131 "CountedOut$Ring" "ahead" "I") (by decide +kernel)) (fun _ h9 => h9) rfl dX2_told_40 ?_
    exact W.iret (v := nI ah) hx hb hr (fun t ht hW => ⟨_, rfl, rfl, ht⟩) (fun _ h => absurd h List.not_mem_nil) dX2_told_43
  · refine lv_tableIn (off := 43) (tgt := 44) hx hb dX2_told_1 (by decide) (by decide) rfl (by decide) ?_
    refine lv_aload_n hx hb dX2_told_44 rfl (lv_at hl 0 rfl) ?_
    refine va_get (D := (dC, dI)) (ci := 2) (v := .ref h2) (C := RX2) (T := TX2) (N := 3) hx hb hts (by decide +kernel) hown hK hP 0 rfl rfl 1 (by decide) (hts (.fieldLink RX2 19 "CountedOut" "people" "LCountedOut$Ring;") (by decide +kernel)) (fun _ h9 => h9) rfl dX2_told_45 ?_
    refine va_get (D := (dC, dI)) (ci := 1) (v := .int (nI (bc (alv L) N))) (C := RX1) (T := TX1) (N := 8) hx hb hts (by decide +kernel) hown hK hP 1 rfl rfl 5 (by decide) (hts (.fieldLink RX2 134 "CountedOut$Ring" "left" "I") (by decide +kernel)) (fun _ h9 => h9) rfl dX2_told_48 ?_
    exact W.iret (v := nI (bc (alv L) N)) hx hb hr (fun t ht hW => ⟨_, rfl, rfl, ht⟩) (fun _ h => absurd h List.not_mem_nil) dX2_told_51
  · refine lv_tableIn (off := 51) (tgt := 52) hx hb dX2_told_1 (by decide) (by decide) rfl (by decide) ?_
    refine lv_aload_n hx hb dX2_told_52 rfl (lv_at hl 0 rfl) ?_
    refine va_get (D := (dC, dI)) (ci := 2) (v := .ref h2) (C := RX2) (T := TX2) (N := 3) hx hb hts (by decide +kernel) hown hK hP 0 rfl rfl 1 (by decide) (hts (.fieldLink RX2 19 "CountedOut" "people" "LCountedOut$Ring;") (by decide +kernel)) (fun _ h9 => h9) rfl dX2_told_53 ?_
    refine va_get (D := (dC, dI)) (ci := 1) (v := .int (nI lg.length)) (C := RX1) (T := TX1) (N := 8) hx hb hts (by decide +kernel) hown hK hP 1 rfl rfl 7 (by decide) (hts (.fieldLink RX2 115 "CountedOut$Ring" "done" "I") (by decide +kernel)) (fun _ h9 => h9) rfl dX2_told_56 ?_
    exact W.iret (v := nI lg.length) hx hb hr (fun t ht hW => ⟨_, rfl, rfl, ht⟩) (fun _ h => absurd h List.not_mem_nil) dX2_told_59
  · refine lv_tableIn (off := 59) (tgt := 60) hx hb dX2_told_1 (by decide) (by decide) rfl (by decide) ?_
    refine lv_aload_n hx hb dX2_told_60 rfl (lv_at hl 0 rfl) ?_
    refine va_get (D := (dC, dI)) (ci := 2) (v := .ref h2) (C := RX2) (T := TX2) (N := 3) hx hb hts (by decide +kernel) hown hK hP 0 rfl rfl 1 (by decide) (hts (.fieldLink RX2 19 "CountedOut" "people" "LCountedOut$Ring;") (by decide +kernel)) (fun _ h9 => h9) rfl dX2_told_61 ?_
    have hPc := hP.sub (ws' := [(h2, .inr (1, [.ref a0, .ref a1, .ref a2, .ref a3, .int (nI N), .int (nI (bc (alv L) N)), .int (nI ah), .int (nI lg.length)])), (a2, .inl (cA, 200, .inl CA))]) [1, 4] rfl
    refine vp_callSi (va_Run.run (va_runV (As := []) (rest := []) ⟨hx, hb, hml, hown, hts⟩ (c_X1_latestCounted l dC dI cA h2 a0 a1 a2 a3 lg hlen (nI N) (nI (bc (alv L) N)) (nI ah) CA AA hR.2.2 L Wn ah) (cwV 0 hts gX2_told_X1_latestCounted rfl rfl rfl (by decide +kernel) ⟨Nat.le_of_ble_eq_true rfl, Nat.le_of_ble_eq_true rfl⟩) ⟨fun a U g mk q => by obtain ⟨q0, qP, qK⟩ := q; exact ⟨q0, qP, va_K.moved (u := U) (U := U.calling g mk a) (Vm.Alike.refl U.vm) qK⟩, va_recv hK hP (ci := 1) (q0 := 1) rfl rfl, fun U hU hW => ⟨rfl, by rw [hU]; exact hPc, va_K.moved hW.alike hK⟩⟩ rfl rfl hl.1 rfl (lv_room (Nat.le_of_ble_eq_true rfl)) dX2_told_64 ⟨Nat.zero_le _, Nat.zero_le _⟩)) (fun r_64 hr_64 => ?_)
    subst hr_64
    exact W.iret (v := lcI (lg, L, Wn, ah)) hx hb hr (fun t ht hW => ⟨_, rfl, rfl, ht⟩) (fun _ h => absurd h List.not_mem_nil) dX2_told_67
  · refine lv_tableIn (off := 67) (tgt := 68) hx hb dX2_told_1 (by decide) (by decide) rfl (by decide) ?_
    refine lv_aload_n hx hb dX2_told_68 rfl (lv_at hl 0 rfl) ?_
    refine va_get (D := (dC, dI)) (ci := 2) (v := .ref h2) (C := RX2) (T := TX2) (N := 3) hx hb hts (by decide +kernel) hown hK hP 0 rfl rfl 1 (by decide) (hts (.fieldLink RX2 19 "CountedOut" "people" "LCountedOut$Ring;") (by decide +kernel)) (fun _ h9 => h9) rfl dX2_told_69 ?_
    have hPc := hP.sub (ws' := [(h2, .inr (1, [.ref a0, .ref a1, .ref a2, .ref a3, .int (nI N), .int (nI (bc (alv L) N)), .int (nI ah), .int (nI lg.length)])), (a1, .inl (cA, 40, .inl WA))]) [1, 3] rfl
    refine vp_callSi (va_Run.run (va_runV (As := []) (rest := []) ⟨hx, hb, hml, hown, hts⟩ (c_X1_latestOut l dC dI cA h2 a0 a1 a2 a3 N hN Wn WA hR.2.1 (fun p hp => by have := hWc p hp; omega) (bc (alv L) N) hcl (nI ah) (nI lg.length)) (cwV 0 hts gX2_told_X1_latestOut rfl rfl rfl (by decide +kernel) ⟨Nat.le_of_ble_eq_true rfl, Nat.le_of_ble_eq_true rfl⟩) ⟨fun a U g mk q => by obtain ⟨q0, qP, qK⟩ := q; exact ⟨q0, qP, va_K.moved (u := U) (U := U.calling g mk a) (Vm.Alike.refl U.vm) qK⟩, va_recv hK hP (ci := 1) (q0 := 1) rfl rfl, fun U hU hW => ⟨rfl, by rw [hU]; exact hPc, va_K.moved hW.alike hK⟩⟩ rfl rfl hl.1 rfl (lv_room (Nat.le_of_ble_eq_true rfl)) dX2_told_72 ⟨Nat.zero_le _, Nat.zero_le _⟩)) (fun r_72 hr_72 => ?_)
    subst hr_72
    exact W.iret (v := lo N Wn (N - bc (alv L) N) N 0) hx hb hr (fun t ht hW => ⟨_, rfl, rfl, ht⟩) (fun _ h => absurd h List.not_mem_nil) dX2_told_75
  · refine lv_tableOut (tgt := 76) hx hb dX2_told_1 ho (by decide) ?_
    refine lv_iconst (v := (-1)) hx hb dX2_told_76 (by decide) ?_
    exact W.iret (v := (-1)) hx hb hr (fun t ht hW => ⟨_, rfl, spTold_out ho N _, ht⟩) (fun _ h => absurd h List.not_mem_nil) dX2_told_77

set_option maxHeartbeats 4000000 in
set_option maxRecDepth 100000 in
theorem c_X2_trace (l : Launch) (dC : Nat → ClassId) (dI : Nat → Nat → Nat) (cA : ClassId) (h0 h1 h2 b0 a0 a1 a2 a3 : Nat) (tr : Int64) : Met l yX2_trace wsX2_trace ({ frames := 0, cells := 0, slots := 0, locals := 0 }) (va_Pc [.ref h0] (fun U => va_P (dC, dI) vwCl [(h0, .inr (2, [.ref h1, .ref h2, .long tr]))] U.heap ∧ va_K (dC, dI) vwCl [(cA, .int)] U)) (vp_Sl (fun r => r = tr)) 0 0 (fun _ => False) := by
  refine Met.ofW (cc := cX2_trace) (maxL := 1) (ret := (some .long)) (by decide) rfl ?_
  intro p e s m args below meth c s₁ B hml hv
  obtain ⟨rfl, hP, hK⟩ := hv
  have hx := B.exec
  have hb := B.bytes
  have hr := B.returns
  have hts := atoms_spec (ws := wsX2_trace) B.pre
  have hown : s.vm.findClass RX2 = some m.cls := findClass_of_methodNamed B.named
  have hlocks := B.notSynchronized
  have hl := lv_entry ([.ref h0]) (n := 1) (Nat.le_of_ble_eq_true rfl)
  rw [lg_entry_eq]
  generalize (lg_sl ([.ref h0]) ++ List.replicate (1 - (lg_sl ([.ref h0])).length) Slot.unset).toArray = ls at hl ⊢
  have hl : lv_has ls 1 [(0, .ref h0)] := hl
  refine lv_aload_n hx hb dX2_trace_0 rfl (lv_at hl 0 rfl) ?_
  refine va_get (D := (dC, dI)) (ci := 2) (v := .long tr) (C := RX2) (T := TX2) (N := 3) hx hb hts (by decide +kernel) hown hK hP 0 rfl rfl 2 (by decide) (hts (.fieldLink RX2 23 "CountedOut" "traced" "J") (by decide +kernel)) (fun _ h9 => h9) rfl dX2_trace_1 ?_
  exact W.lret (v := tr) hx hb hr (fun t ht hW => ⟨_, rfl, rfl, ht⟩) (fun _ h => absurd h List.not_mem_nil) dX2_trace_4
