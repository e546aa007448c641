theorem sub1_toInt {n : Int64} (h : 1 ≤ n.toInt ∧ n.toInt ≤ 1000000000000) : (n - 1).toInt = n.toInt - 1 := by
  obtain ⟨k, h1, h2, rfl⟩ := lN_wi (x := n) (a := 1) (b := 1000000000000) (wi_t.mpr h) (by omega)
  rw [show lN k - 1 = lN (k - 1) from lN_sub (b := 1) h1, pk_lT (by omega), pk_lT (by omega)]
  omega
theorem tIt_end1 {n k x : Nat} (hn : n ≤ 1000000000000) (hk1 : 1 ≤ k) (hK : k ≤ 1000) (hxk : x ≤ k * n) : tIt n k 1000000 x % k = 0 := by
  rcases Nat.lt_or_ge k 2 with h | h
  · have : k = 1 := by omega
    subst this
    exact Nat.mod_one _
  · exact tIt_end hn h hK hxk
theorem tst_le1 {n k x : Nat} (hk1 : 1 ≤ k) (h : ¬ x % k = 0) (hx : x ≤ k * n) : tst n k x ≤ k * n := by
  rcases Nat.lt_or_ge k 2 with h2 | h2
  · have : k = 1 := by omega
    subst this
    exact absurd (Nat.mod_one _) h
  · exact (tst_le h2 hx).1
theorem tuN1 {n k q f x : Nat} (hk1 : 1 ≤ k) (hg : tIt n k f x = tIt n k 1000000 (q + 1)) (h : x % k = 0) : x / k = tuN n k q := by
  rw [tIt_stay h] at hg
  unfold tuN
  rcases Nat.lt_or_ge k 2 with h2 | h2
  · have : k = 1 := by omega
    subst this
    rw [if_pos (by omega)]
    rw [tIt_stay (Nat.mod_one _)] at hg
    omega
  · rw [if_neg (by omega), hg]
set_option maxHeartbeats 4000000 in
set_option maxRecDepth 100000 in
theorem c_X2_goes (l : Launch) (dC : Nat → ClassId) (dI : Nat → Nat → Nat) (h0 : Nat) (n : Int64) (k : Int32) (j : Int64) : Met l yX2_goes wsX2_goes ({ frames := 2, cells := 0, slots := 0, locals := 47 }) (va_Pc [.ref h0, .long n, .int k, .long j] (fun _ => True)) (vp_Sl (fun r => r = spGoes n k j)) 0 0 (fun _ => False) := by
  refine Met.ofW (cc := cX2_goes) (maxL := 6) (ret := (some .long)) (by decide) rfl ?_
  intro p e s m args below meth c s₁ B hml hv
  obtain ⟨rfl, -⟩ := hv
  have hx := B.exec
  have hb := B.bytes
  have hr := B.returns
  have hts := atoms_spec (ws := wsX2_goes) B.pre
  have hown : s.vm.findClass RX2 = some m.cls := findClass_of_methodNamed B.named
  have hlocks := B.notSynchronized
  have hl := lv_entry ([.ref h0, .long n, .int k, .long j]) (n := 6) (Nat.le_of_ble_eq_true rfl)
  rw [lg_entry_eq]
  generalize (lg_sl ([.ref h0, .long n, .int k, .long j]) ++ List.replicate (6 - (lg_sl ([.ref h0, .long n, .int k, .long j])).length) Slot.unset).toArray = ls at hl ⊢
  have hl : lv_has ls 6 [(0, .ref h0), (1, .long n), (3, .int k), (4, .long j)] := hl
  refine lv_lload_n hx hb dX2_goes_0 rfl (lv_at hl 1 rfl) ?_
  refine lv_iload_n hx hb dX2_goes_1 rfl (lv_at hl 2 rfl) ?_
  refine vp_callSi (va_Run.run (va_runS (As := [.long n, .int k]) (rest := []) ⟨hx, hb, hml, hown, hts⟩ (c_X2_isGreatRing l dC dI n k) (va_cwS 2 hts gX2_goes_X2_isGreatRing rfl rfl rfl (by decide +kernel) ⟨Nat.le_of_ble_eq_true rfl, Nat.le_of_ble_eq_true rfl⟩) ⟨fun a U g mk q => ⟨q.1, trivial⟩, fun U hU hW => ⟨rfl, trivial⟩⟩ rfl rfl hl.1 rfl (lv_room (Nat.le_of_ble_eq_true rfl)) dX2_goes_2 ⟨Nat.zero_le _, Nat.zero_le _⟩)) (fun r_2 hr_2 => ?_)
  subst hr_2
  refine lv_if_eq (tgt := 18) hx hb dX2_goes_5 (by decide) (fun c_5 => ?_) (fun c_5 => ?_)
  · have c_5 := zb_0.mp c_5
    refine lv_ldc2 (v := (-1)) hx hb hown (hts (.constantLong RX2 35 (-1)) (by decide +kernel)) dX2_goes_18 ?_
    exact W.lret (v := (-1)) hx hb hr (fun t ht hW => ⟨_, rfl, by unfold spGoes; first | (rw [c_5, Bool.false_and, if_neg (by decide)]) | (rw [c_5, c_15, Bool.true_and, if_neg (by decide)]), ht⟩) (fun _ h => absurd h List.not_mem_nil) dX2_goes_21
  · have c_5 := zb_n.mp c_5
    refine lv_lload hx hb dX2_goes_8 (lv_at hl 3 rfl) ?_
    refine lv_lconst (v := 1) hx hb dX2_goes_10 (by decide) ?_
    refine lv_lload_n hx hb dX2_goes_11 rfl (lv_at hl 1 rfl) ?_
    refine vp_callSi (va_Run.run (va_runS (As := [.long j, .long 1, .long n]) (rest := []) ⟨hx, hb, hml, hown, hts⟩ (c_X2_isWithin l dC dI j 1 n) (va_cwS 3 hts gX2_goes_X2_isWithin rfl rfl rfl (by decide +kernel) ⟨Nat.le_of_ble_eq_true rfl, Nat.le_of_ble_eq_true rfl⟩) ⟨fun a U g mk q => ⟨q.1, trivial⟩, fun U hU hW => ⟨rfl, trivial⟩⟩ rfl rfl hl.1 rfl (lv_room (Nat.le_of_ble_eq_true rfl)) dX2_goes_12 ⟨Nat.zero_le _, Nat.zero_le _⟩)) (fun r_12 hr_12 => ?_)
    obtain rfl : r_12 = zb (wi j.toInt 1 n.toInt) := hr_12.trans (by rfl)
    refine lv_if_ne (tgt := 22) hx hb dX2_goes_15 (by decide) (fun c_15 => ?_) (fun c_15 => ?_)
    · have c_15 := zb_n.mp c_15
      rw [Bool.and_eq_true] at c_5
      obtain ⟨n1, hn1, hn2, rfl⟩ := lN_wi (a := 1) (b := 1000000000000) c_5.1 (by omega)
      obtain ⟨k1, hk1, hk2, rfl⟩ := nI_wi (a := 1) (b := 1000) c_5.2
      rw [pk_lT (by omega)] at c_15
      obtain ⟨j1, hj1, hj2, rfl⟩ := lN_wi (a := 1) (b := n1) c_15 (by omega)
      refine lv_lload_n hx hb dX2_goes_22 rfl (lv_at hl 1 rfl) ?_
      refine lv_iload_n hx hb dX2_goes_23 rfl (lv_at hl 2 rfl) ?_
      refine lv_lload hx hb dX2_goes_24 (lv_at hl 3 rfl) ?_
      refine vp_callSl (va_Run.run (va_runS (As := [.long (lN n1), .int (nI k1), .long (lN j1)]) (rest := []) ⟨hx, hb, hml, hown, hts⟩ (c_X2_placeOfGoing l dC dI n1 k1 j1 hn1 hn2 hk1 hk2 hj1 hj2) (va_cwS 3 hts gX2_goes_X2_placeOfGoing rfl rfl rfl (by decide +kernel) ⟨Nat.le_of_ble_eq_true rfl, Nat.le_of_ble_eq_true rfl⟩) ⟨fun a U g mk q => ⟨q.1, trivial⟩, fun U hU hW => ⟨rfl, trivial⟩⟩ rfl rfl hl.1 rfl (lv_room (Nat.le_of_ble_eq_true rfl)) dX2_goes_26 ⟨Nat.zero_le _, Nat.zero_le _⟩)) (fun r_26 hr_26 => ?_)
      subst hr_26
      exact W.lret (v := lN (goN n1 k1 j1)) hx hb hr (fun t ht hW => ⟨_, rfl, spGoes_t hn1 hn2 hk1 hk2 hj1 hj2, ht⟩) (fun _ h => absurd h List.not_mem_nil) dX2_goes_29
    · have c_15 := zb_0.mp c_15
      refine lv_ldc2 (v := (-1)) hx hb hown (hts (.constantLong RX2 35 (-1)) (by decide +kernel)) dX2_goes_18 ?_
      exact W.lret (v := (-1)) hx hb hr (fun t ht hW => ⟨_, rfl, by unfold spGoes; first | (rw [c_5, Bool.false_and, if_neg (by decide)]) | (rw [c_5, c_15, Bool.true_and, if_neg (by decide)]), ht⟩) (fun _ h => absurd h List.not_mem_nil) dX2_goes_21

set_option maxHeartbeats 4000000 in
set_option maxRecDepth 100000 in
theorem c_X2_last (l : Launch) (dC : Nat → ClassId) (dI : Nat → Nat → Nat) (h0 : Nat) (n : Int64) (k : Int32) : Met l yX2_last wsX2_last ({ frames := 2, cells := 0, slots := 0, locals := 47 }) (va_Pc [.ref h0, .long n, .int k] (fun _ => True)) (vp_Sl (fun r => r = spLast n k)) 0 0 (fun _ => False) := by
  refine Met.ofW (cc := cX2_last) (maxL := 4) (ret := (some .long)) (by decide) rfl ?_
  intro p e s m args below meth c s₁ B hml hv
  obtain ⟨rfl, -⟩ := hv
  have hx := B.exec
  have hb := B.bytes
  have hr := B.returns
  have hts := atoms_spec (ws := wsX2_last) B.pre
  have hown : s.vm.findClass RX2 = some m.cls := findClass_of_methodNamed B.named
  have hlocks := B.notSynchronized
  have hl := lv_entry ([.ref h0, .long n, .int k]) (n := 4) (Nat.le_of_ble_eq_true rfl)
  rw [lg_entry_eq]
  generalize (lg_sl ([.ref h0, .long n, .int k]) ++ List.replicate (4 - (lg_sl ([.ref h0, .long n, .int k])).length) Slot.unset).toArray = ls at hl ⊢
  have hl : lv_has ls 4 [(0, .ref h0), (1, .long n), (3, .int k)] := hl
  refine lv_lload_n hx hb dX2_last_0 rfl (lv_at hl 1 rfl) ?_
  refine lv_iload_n hx hb dX2_last_1 rfl (lv_at hl 2 rfl) ?_
  refine vp_callSi (va_Run.run (va_runS (As := [.long n, .int k]) (rest := []) ⟨hx, hb, hml, hown, hts⟩ (c_X2_isGreatRing l dC dI n k) (va_cwS 2 hts gX2_last_X2_isGreatRing rfl rfl rfl (by decide +kernel) ⟨Nat.le_of_ble_eq_true rfl, Nat.le_of_ble_eq_true rfl⟩) ⟨fun a U g mk q => ⟨q.1, trivial⟩, fun U hU hW => ⟨rfl, trivial⟩⟩ rfl rfl hl.1 rfl (lv_room (Nat.le_of_ble_eq_true rfl)) dX2_last_2 ⟨Nat.zero_le _, Nat.zero_le _⟩)) (fun r_2 hr_2 => ?_)
  subst hr_2
  refine lv_if_ne (tgt := 12) hx hb dX2_last_5 (by decide) (fun c_5 => ?_) (fun c_5 => ?_)
  · have c_5 := zb_n.mp c_5
    rw [Bool.and_eq_true] at c_5
    obtain ⟨n1, hn1, hn2, rfl⟩ := lN_wi (a := 1) (b := 1000000000000) c_5.1 (by omega)
    obtain ⟨k1, hk1, hk2, rfl⟩ := nI_wi (a := 1) (b := 1000) c_5.2
    refine lv_lload_n hx hb dX2_last_12 rfl (lv_at hl 1 rfl) ?_
    refine lv_iload_n hx hb dX2_last_13 rfl (lv_at hl 2 rfl) ?_
    refine lv_lload_n hx hb dX2_last_14 rfl (lv_at hl 1 rfl) ?_
    refine vp_callSl (va_Run.run (va_runS (As := [.long (lN n1), .int (nI k1), .long (lN n1)]) (rest := []) ⟨hx, hb, hml, hown, hts⟩ (c_X2_placeOfGoing l dC dI n1 k1 n1 hn1 hn2 hk1 hk2 hn1 (Nat.le_refl _)) (va_cwS 3 hts gX2_last_X2_placeOfGoing rfl rfl rfl (by decide +kernel) ⟨Nat.le_of_ble_eq_true rfl, Nat.le_of_ble_eq_true rfl⟩) ⟨fun a U g mk q => ⟨q.1, trivial⟩, fun U hU hW => ⟨rfl, trivial⟩⟩ rfl rfl hl.1 rfl (lv_room (Nat.le_of_ble_eq_true rfl)) dX2_last_15 ⟨Nat.zero_le _, Nat.zero_le _⟩)) (fun r_15 hr_15 => ?_)
    subst hr_15
    exact W.lret (v := lN (goN n1 k1 n1)) hx hb hr (fun t ht hW => ⟨_, rfl, spLast_t hn1 hn2 hk1 hk2, ht⟩) (fun _ h => absurd h List.not_mem_nil) dX2_last_18
  · have c_5 := zb_0.mp c_5
    refine lv_ldc2 (v := (-1)) hx hb hown (hts (.constantLong RX2 35 (-1)) (by decide +kernel)) dX2_last_8 ?_
    exact W.lret (v := (-1)) hx hb hr (fun t ht hW => ⟨_, rfl, by unfold spLast; rw [c_5, if_neg (by decide)], ht⟩) (fun _ h => absurd h List.not_mem_nil) dX2_last_11

set_option maxHeartbeats 4000000 in
set_option maxRecDepth 100000 in
theorem c_X2_turn (l : Launch) (dC : Nat → ClassId) (dI : Nat → Nat → Nat) (h0 : Nat) (n : Int64) (k : Int32) (q : Int64) : Met l yX2_turn wsX2_turn ({ frames := 2, cells := 0, slots := 0, locals := 47 }) (va_Pc [.ref h0, .long n, .int k, .long q] (fun _ => True)) (vp_Sl (fun r => r = spTurn n k q)) 0 0 (fun _ => False) := by
  refine Met.ofW (cc := cX2_turn) (maxL := 6) (ret := (some .long)) (by decide) rfl ?_
  intro p e s m args below meth c s₁ B hml hv
  obtain ⟨rfl, -⟩ := hv
  have hx := B.exec
  have hb := B.bytes
  have hr := B.returns
  have hts := atoms_spec (ws := wsX2_turn) B.pre
  have hown : s.vm.findClass RX2 = some m.cls := findClass_of_methodNamed B.named
  have hlocks := B.notSynchronized
  have hl := lv_entry ([.ref h0, .long n, .int k, .long q]) (n := 6) (Nat.le_of_ble_eq_true rfl)
  rw [lg_entry_eq]
  generalize (lg_sl ([.ref h0, .long n, .int k, .long q]) ++ List.replicate (6 - (lg_sl ([.ref h0, .long n, .int k, .long q])).length) Slot.unset).toArray = ls at hl ⊢
  have hl : lv_has ls 6 [(0, .ref h0), (1, .long n), (3, .int k), (4, .long q)] := hl
  refine lv_lload_n hx hb dX2_turn_0 rfl (lv_at hl 1 rfl) ?_
  refine lv_iload_n hx hb dX2_turn_1 rfl (lv_at hl 2 rfl) ?_
  refine vp_callSi (va_Run.run (va_runS (As := [.long n, .int k]) (rest := []) ⟨hx, hb, hml, hown, hts⟩ (c_X2_isGreatRing l dC dI n k) (va_cwS 2 hts gX2_turn_X2_isGreatRing rfl rfl rfl (by decide +kernel) ⟨Nat.le_of_ble_eq_true rfl, Nat.le_of_ble_eq_true rfl⟩) ⟨fun a U g mk q => ⟨q.1, trivial⟩, fun U hU hW => ⟨rfl, trivial⟩⟩ rfl rfl hl.1 rfl (lv_room (Nat.le_of_ble_eq_true rfl)) dX2_turn_2 ⟨Nat.zero_le _, Nat.zero_le _⟩)) (fun r_2 hr_2 => ?_)
  subst hr_2
  refine lv_if_eq (tgt := 20) hx hb dX2_turn_5 (by decide) (fun c_5 => ?_) (fun c_5 => ?_)
  · have c_5 := zb_0.mp c_5
    refine lv_ldc2 (v := (-1)) hx hb hown (hts (.constantLong RX2 35 (-1)) (by decide +kernel)) dX2_turn_20 ?_
    exact W.lret (v := (-1)) hx hb hr (fun t ht hW => ⟨_, rfl, by unfold spTurn; first | (rw [c_5, Bool.false_and, if_neg (by decide)]) | (rw [c_5, c_17, Bool.true_and, if_neg (by decide)]), ht⟩) (fun _ h => absurd h List.not_mem_nil) dX2_turn_23
  · have c_5 := zb_n.mp c_5
    refine lv_lload hx hb dX2_turn_8 (lv_at hl 3 rfl) ?_
    refine lv_lconst (v := 0) hx hb dX2_turn_10 (by decide) ?_
    refine lv_lload_n hx hb dX2_turn_11 rfl (lv_at hl 1 rfl) ?_
    refine lv_lconst (v := 1) hx hb dX2_turn_12 (by decide) ?_
    refine lv_lsub hx hb dX2_turn_13 ?_
    refine vp_callSi (va_Run.run (va_runS (As := [.long q, .long 0, .long (n - 1)]) (rest := []) ⟨hx, hb, hml, hown, hts⟩ (c_X2_isWithin l dC dI q 0 (n - 1)) (va_cwS 3 hts gX2_turn_X2_isWithin rfl rfl rfl (by decide +kernel) ⟨Nat.le_of_ble_eq_true rfl, Nat.le_of_ble_eq_true rfl⟩) ⟨fun a U g mk q => ⟨q.1, trivial⟩, fun U hU hW => ⟨rfl, trivial⟩⟩ rfl rfl hl.1 rfl (lv_room (Nat.le_of_ble_eq_true rfl)) dX2_turn_14 ⟨Nat.zero_le _, Nat.zero_le _⟩)) (fun r_14 hr_14 => ?_)
    obtain rfl : r_14 = zb (wi q.toInt 0 (n.toInt - 1)) := hr_14.trans (by rw [sub1_toInt (wi_t.mp (Bool.and_eq_true_iff.mp c_5).1)]; rfl)
    refine lv_if_ne (tgt := 24) hx hb dX2_turn_17 (by decide) (fun c_17 => ?_) (fun c_17 => ?_)
    · have c_17 := zb_n.mp c_17
      rw [Bool.and_eq_true] at c_5
      obtain ⟨n1, hn1, hn2, rfl⟩ := lN_wi (a := 1) (b := 1000000000000) c_5.1 (by omega)
      obtain ⟨k1, hk1, hk2, rfl⟩ := nI_wi (a := 1) (b := 1000) c_5.2
      rw [pk_lT (by omega)] at c_17
      obtain ⟨q1, hq1, hq2, rfl⟩ := lN_wi (x := q) (a := 0) (b := n1 - 1) (by rw [Int.ofNat_sub hn1]; exact c_17) (by omega)
      refine lv_lload_n hx hb dX2_turn_24 rfl (lv_at hl 1 rfl) ?_
      refine lv_iload_n hx hb dX2_turn_25 rfl (lv_at hl 2 rfl) ?_
      refine lv_lload hx hb dX2_turn_26 (lv_at hl 3 rfl) ?_
      refine vp_callSl (va_Run.run (va_runS (As := [.long (lN n1), .int (nI k1), .long (lN q1)]) (rest := []) ⟨hx, hb, hml, hown, hts⟩ (c_X2_goingOfPlace l dC dI n1 k1 q1 hn1 hn2 hk1 hk2 (by omega)) (va_cwS 3 hts gX2_turn_X2_goingOfPlace rfl rfl rfl (by decide +kernel) ⟨Nat.le_of_ble_eq_true rfl, Nat.le_of_ble_eq_true rfl⟩) ⟨fun a U g mk q => ⟨q.1, trivial⟩, fun U hU hW => ⟨rfl, trivial⟩⟩ rfl rfl hl.1 rfl (lv_room (Nat.le_of_ble_eq_true rfl)) dX2_turn_28 ⟨Nat.zero_le _, Nat.zero_le _⟩)) (fun r_28 hr_28 => ?_)
      subst hr_28
      exact W.lret (v := lN (tuN n1 k1 q1)) hx hb hr (fun t ht hW => ⟨_, rfl, spTurn_t hn1 hn2 hk1 hk2 (by omega), ht⟩) (fun _ h => absurd h List.not_mem_nil) dX2_turn_31
    · have c_17 := zb_0.mp c_17
      refine lv_ldc2 (v := (-1)) hx hb hown (hts (.constantLong RX2 35 (-1)) (by decide +kernel)) dX2_turn_20 ?_
      exact W.lret (v := (-1)) hx hb hr (fun t ht hW => ⟨_, rfl, by unfold spTurn; first | (rw [c_5, Bool.false_and, if_neg (by decide)]) | (rw [c_5, c_17, Bool.true_and, if_neg (by decide)]), ht⟩) (fun _ h => absurd h List.not_mem_nil) dX2_turn_23

set_option maxHeartbeats 4000000 in
set_option maxRecDepth 100000 in
theorem c_X3_goes (l : Launch) (dC : Nat → ClassId) (dI : Nat → Nat → Nat) (sz : Nat) (cA : ClassId) (h0 a3 a4 a5 a9 a11 a12 a14 a15 a16 : Nat) (tr : Int64) (pe st kd wd tn sd : Int32) (n : Int64) (k : Int32) (j : Int64) : Met l yX3_goes wsX3_goes ({ frames := 2, cells := 0, slots := 0, locals := 47 }) (va_Pc [.ref h0, .long n, .int k, .long j] (fun U => U.heap.size = sz ∧ va_P (dC, dI) vwCl [(h0, .inr (3, [.int 0, .long tr, .int pe, .ref a3, .ref a4, .ref a5, .int st, .int kd, .int wd, .ref a9, .int tn, .ref a11, .ref a12, .int sd, .ref a14, .ref a15, .ref a16]))] U.heap ∧ va_K (dC, dI) vwCl [(cA, .int)] U ∧ va_D (fun _ => True) [(h0, .inr (3, [.int 0, .long tr, .int pe, .ref a3, .ref a4, .ref a5, .int st, .int kd, .int wd, .ref a9, .int tn, .ref a11, .ref a12, .int sd, .ref a14, .ref a15, .ref a16]))])) (va_Ql (S := Unit) (fun r _ => r = spGoes n k j) (fun (_ : Unit) (t : State) => va_P (dC, dI) vwCl [(h0, .inr (3, [.int 0, .long tr, .int pe, .ref a3, .ref a4, .ref a5, .int st, .int kd, .int wd, .ref a9, .int tn, .ref a11, .ref a12, .int sd, .ref a14, .ref a15, .ref a16]))] t.heap ∧ va_K (dC, dI) vwCl [(cA, .int)] t ∧ va_D (va_A [(h0, .inr (3, [.int 0, .long tr, .int pe, .ref a3, .ref a4, .ref a5, .int st, .int kd, .int wd, .ref a9, .int tn, .ref a11, .ref a12, .int sd, .ref a14, .ref a15, .ref a16]))] sz) [(h0, .inr (3, [.int 0, .long tr, .int pe, .ref a3, .ref a4, .ref a5, .int st, .int kd, .int wd, .ref a9, .int tn, .ref a11, .ref a12, .int sd, .ref a14, .ref a15, .ref a16]))]) (va_A [(h0, .inr (3, [.int 0, .long tr, .int pe, .ref a3, .ref a4, .ref a5, .int st, .int kd, .int wd, .ref a9, .int tn, .ref a11, .ref a12, .int sd, .ref a14, .ref a15, .ref a16]))] sz)) 0 0 (va_A [(h0, .inr (3, [.int 0, .long tr, .int pe, .ref a3, .ref a4, .ref a5, .int st, .int kd, .int wd, .ref a9, .int tn, .ref a11, .ref a12, .int sd, .ref a14, .ref a15, .ref a16]))] sz) := by
  refine Met.ofW (cc := cX3_goes) (maxL := 6) (ret := (some .long)) (by decide) rfl ?_
  intro p e s m args below meth c s₁ B hml hv
  obtain ⟨rfl, hsz, hP, hK, hD0⟩ := hv
  have hx := B.exec
  have hb := B.bytes
  have hr := B.returns
  have hts := atoms_spec (ws := wsX3_goes) B.pre
  have hown : s.vm.findClass RX3 = some m.cls := findClass_of_methodNamed B.named
  have hlocks := B.notSynchronized
  subst hsz
  have hD := hD0.self (sz := s.heap.size)
  generalize hAe : va_A [(h0, .inr (3, [.int 0, .long tr, .int pe, .ref a3, .ref a4, .ref a5, .int st, .int kd, .int wd, .ref a9, .int tn, .ref a11, .ref a12, .int sd, .ref a14, .ref a15, .ref a16]))] s.heap.size = A at hD ⊢
  have hA : ∀ q : Nat, s.heap.size ≤ q → A q := fun q h => by rw [← hAe]; exact Or.inr h
  have hS : va_S A s.heap s.heap [] := va_S.rf
  have hP : va_P (dC, dI) vwCl [(h0, .inr (3, [.int 0, .long tr, .int pe, .ref a3, .ref a4, .ref a5, .int st, .int kd, .int wd, .ref a9, .int tn, .ref a11, .ref a12, .int sd, .ref a14, .ref a15, .ref a16]))] s.heap := hP
  have hl := lv_entry ([.ref h0, .long n, .int k, .long j]) (n := 6) (Nat.le_of_ble_eq_true rfl)
  rw [lg_entry_eq]
  generalize (lg_sl ([.ref h0, .long n, .int k, .long j]) ++ List.replicate (6 - (lg_sl ([.ref h0, .long n, .int k, .long j])).length) Slot.unset).toArray = ls at hl ⊢
  have hl : lv_has ls 6 [(0, .ref h0), (1, .long n), (3, .int k), (4, .long j)] := hl
  refine lv_aload_n hx hb dX3_goes_0 rfl (lv_at hl 0 rfl) ?_
  refine lv_iconst (v := 0) hx hb dX3_goes_1 (by decide) ?_
  refine va_put (D := (dC, dI)) (ci := 3) (v := .int 0) (ty := .int) (C := RX3) (T := TX3) (N := 17) hx hb hts (by decide +kernel) tyX3 tyX3_ok nmX3 hown hK hP hD hS 0 rfl rfl 0 (by decide) (hts (.fieldLink RX3 51 "CountedOutModel" "thrown" "I") (by decide +kernel)) (fun _ h9 => h9) rfl (by decide +kernel) rfl rfl (Nat.le_of_ble_eq_true rfl) dX3_goes_2 (fun H locs hP hD hS => ?_)
  have hP : va_P (dC, dI) vwCl [(h0, .inr (3, [.int 0, .long tr, .int pe, .ref a3, .ref a4, .ref a5, .int st, .int kd, .int wd, .ref a9, .int tn, .ref a11, .ref a12, .int sd, .ref a14, .ref a15, .ref a16]))] H := hP
  have hD : va_D A [(h0, .inr (3, [.int 0, .long tr, .int pe, .ref a3, .ref a4, .ref a5, .int st, .int kd, .int wd, .ref a9, .int tn, .ref a11, .ref a12, .int sd, .ref a14, .ref a15, .ref a16]))] := hD
  refine lv_lload_n hx hb dX3_goes_5 rfl (lv_at hl 1 rfl) ?_
  refine lv_iload_n hx hb dX3_goes_6 rfl (lv_at hl 2 rfl) ?_
  refine vp_callSi (va_Run.run (va_runS (As := [.long n, .int k]) (rest := []) ⟨hx, hb, hml, hown, hts⟩ (c_X3_isGreat l dC dI n k) (va_cwS 2 hts gX3_goes_X3_isGreat rfl rfl rfl (by decide +kernel) ⟨Nat.le_of_ble_eq_true rfl, Nat.le_of_ble_eq_true rfl⟩) ⟨fun a U g mk q => ⟨q.1, trivial⟩, fun U hU hW => ⟨rfl, trivial⟩⟩ rfl rfl hl.1 rfl (lv_room (Nat.le_of_ble_eq_true rfl)) dX3_goes_7 ⟨Nat.zero_le _, Nat.zero_le _⟩)) (fun r_7 hr_7 => ?_)
  subst hr_7
  refine lv_if_eq (tgt := 33) hx hb dX3_goes_10 (by decide) (fun c_10 => ?_) (fun c_10 => ?_)
  · have c_10 := zb_0.mp c_10
    refine lv_ldc2 (v := (-1)) hx hb hown (hts (.constantLong RX3 70 (-1)) (by decide +kernel)) dX3_goes_33 ?_
    have hP9 := hP.sub (ws' := [(h0, .inr (3, [.int 0, .long tr, .int pe, .ref a3, .ref a4, .ref a5, .int st, .int kd, .int wd, .ref a9, .int tn, .ref a11, .ref a12, .int sd, .ref a14, .ref a15, .ref a16]))]) [0] rfl
    have hD9 := hD.sub (ws' := [(h0, .inr (3, [.int 0, .long tr, .int pe, .ref a3, .ref a4, .ref a5, .int st, .int kd, .int wd, .ref a9, .int tn, .ref a11, .ref a12, .int sd, .ref a14, .ref a15, .ref a16]))]) [0] (by decide) rfl
    exact W.lret (v := (-1)) hx hb hr (fun t ht hW => ⟨⟨_, (), rfl, by first | exact spGoes_t hn1 hn2 hk1 hk2 hj1 hj2 | (unfold spGoes; first | (rw [c_10, Bool.false_and, if_neg (by decide)]) | (rw [c_10, c_20, Bool.true_and, if_neg (by decide)])), ⟨by rw [ht]; exact hP9, va_K.moved hW.alike hK, hD9⟩⟩, hS.F ht⟩) hS.2.2 dX3_goes_36
  · have c_10 := zb_n.mp c_10
    refine lv_lload hx hb dX3_goes_13 (lv_at hl 3 rfl) ?_
    refine lv_lconst (v := 1) hx hb dX3_goes_15 (by decide) ?_
    refine lv_lload_n hx hb dX3_goes_16 rfl (lv_at hl 1 rfl) ?_
    refine vp_callSi (va_Run.run (va_runS (As := [.long j, .long 1, .long n]) (rest := []) ⟨hx, hb, hml, hown, hts⟩ (c_X3_in l dC dI j 1 n) (va_cwS 3 hts gX3_goes_X3_in rfl rfl rfl (by decide +kernel) ⟨Nat.le_of_ble_eq_true rfl, Nat.le_of_ble_eq_true rfl⟩) ⟨fun a U g mk q => ⟨q.1, trivial⟩, fun U hU hW => ⟨rfl, trivial⟩⟩ rfl rfl hl.1 rfl (lv_room (Nat.le_of_ble_eq_true rfl)) dX3_goes_17 ⟨Nat.zero_le _, Nat.zero_le _⟩)) (fun r_17 hr_17 => ?_)
    obtain rfl : r_17 = zb (wi j.toInt 1 n.toInt) := hr_17.trans (by rfl)
    refine lv_if_eq (tgt := 33) hx hb dX3_goes_20 (by decide) (fun c_20 => ?_) (fun c_20 => ?_)
    · have c_20 := zb_0.mp c_20
      refine lv_ldc2 (v := (-1)) hx hb hown (hts (.constantLong RX3 70 (-1)) (by decide +kernel)) dX3_goes_33 ?_
      have hP9 := hP.sub (ws' := [(h0, .inr (3, [.int 0, .long tr, .int pe, .ref a3, .ref a4, .ref a5, .int st, .int kd, .int wd, .ref a9, .int tn, .ref a11, .ref a12, .int sd, .ref a14, .ref a15, .ref a16]))]) [0] rfl
      have hD9 := hD.sub (ws' := [(h0, .inr (3, [.int 0, .long tr, .int pe, .ref a3, .ref a4, .ref a5, .int st, .int kd, .int wd, .ref a9, .int tn, .ref a11, .ref a12, .int sd, .ref a14, .ref a15, .ref a16]))]) [0] (by decide) rfl
      exact W.lret (v := (-1)) hx hb hr (fun t ht hW => ⟨⟨_, (), rfl, by first | exact spGoes_t hn1 hn2 hk1 hk2 hj1 hj2 | (unfold spGoes; first | (rw [c_10, Bool.false_and, if_neg (by decide)]) | (rw [c_10, c_20, Bool.true_and, if_neg (by decide)])), ⟨by rw [ht]; exact hP9, va_K.moved hW.alike hK, hD9⟩⟩, hS.F ht⟩) hS.2.2 dX3_goes_36
    · have c_20 := zb_n.mp c_20
      rw [Bool.and_eq_true] at c_10
      obtain ⟨n1, hn1, hn2, rfl⟩ := lN_wi (a := 1) (b := 1000000000000) c_10.1 (by omega)
      obtain ⟨k1, hk1, hk2, rfl⟩ := nI_wi (a := 1) (b := 1000) c_10.2
      rw [pk_lT (by omega)] at c_20
      obtain ⟨j1, hj1, hj2, rfl⟩ := lN_wi (a := 1) (b := n1) c_20 (by omega)
      refine lv_lload_n hx hb dX3_goes_23 rfl (lv_at hl 1 rfl) ?_
      refine lv_iload_n hx hb dX3_goes_24 rfl (lv_at hl 2 rfl) ?_
      refine lv_lload hx hb dX3_goes_25 (lv_at hl 3 rfl) ?_
      refine vp_callSl (va_Run.run (va_runS (As := [.long (lN n1), .int (nI k1), .long (lN j1)]) (rest := []) ⟨hx, hb, hml, hown, hts⟩ (c_X3_goesOf l dC dI n1 k1 j1 hn1 hn2 hk1 hk2 hj1 hj2) (va_cwS 3 hts gX3_goes_X3_goesOf rfl rfl rfl (by decide +kernel) ⟨Nat.le_of_ble_eq_true rfl, Nat.le_of_ble_eq_true rfl⟩) ⟨fun a U g mk q => ⟨q.1, trivial⟩, fun U hU hW => ⟨rfl, trivial⟩⟩ rfl rfl hl.1 rfl (lv_room (Nat.le_of_ble_eq_true rfl)) dX3_goes_27 ⟨Nat.zero_le _, Nat.zero_le _⟩)) (fun r_27 hr_27 => ?_)
      subst hr_27
      refine lv_goto (tgt := 36) hx hb dX3_goes_30 (by decide) ?_
      have hP9 := hP.sub (ws' := [(h0, .inr (3, [.int 0, .long tr, .int pe, .ref a3, .ref a4, .ref a5, .int st, .int kd, .int wd, .ref a9, .int tn, .ref a11, .ref a12, .int sd, .ref a14, .ref a15, .ref a16]))]) [0] rfl
      have hD9 := hD.sub (ws' := [(h0, .inr (3, [.int 0, .long tr, .int pe, .ref a3, .ref a4, .ref a5, .int st, .int kd, .int wd, .ref a9, .int tn, .ref a11, .ref a12, .int sd, .ref a14, .ref a15, .ref a16]))]) [0] (by decide) rfl
      exact W.lret (v := lN (goN n1 k1 j1)) hx hb hr (fun t ht hW => ⟨⟨_, (), rfl, by first | exact spGoes_t hn1 hn2 hk1 hk2 hj1 hj2 | (unfold spGoes; first | (rw [c_10, Bool.false_and, if_neg (by decide)]) | (rw [c_10, c_20, Bool.true_and, if_neg (by decide)])), ⟨by rw [ht]; exact hP9, va_K.moved hW.alike hK, hD9⟩⟩, hS.F ht⟩) hS.2.2 dX3_goes_36

set_option maxHeartbeats 4000000 in
set_option maxRecDepth 100000 in
theorem c_X3_last (l : Launch) (dC : Nat → ClassId) (dI : Nat → Nat → Nat) (sz : Nat) (cA : ClassId) (h0 a3 a4 a5 a9 a11 a12 a14 a15 a16 : Nat) (tr : Int64) (pe st kd wd tn sd : Int32) (n : Int64) (k : Int32) : Met l yX3_last wsX3_last ({ frames := 2, cells := 0, slots := 0, locals := 47 }) (va_Pc [.ref h0, .long n, .int k] (fun U => U.heap.size = sz ∧ va_P (dC, dI) vwCl [(h0, .inr (3, [.int 0, .long tr, .int pe, .ref a3, .ref a4, .ref a5, .int st, .int kd, .int wd, .ref a9, .int tn, .ref a11, .ref a12, .int sd, .ref a14, .ref a15, .ref a16]))] U.heap ∧ va_K (dC, dI) vwCl [(cA, .int)] U ∧ va_D (fun _ => True) [(h0, .inr (3, [.int 0, .long tr, .int pe, .ref a3, .ref a4, .ref a5, .int st, .int kd, .int wd, .ref a9, .int tn, .ref a11, .ref a12, .int sd, .ref a14, .ref a15, .ref a16]))])) (va_Ql (S := Unit) (fun r _ => r = spLast n k) (fun (_ : Unit) (t : State) => va_P (dC, dI) vwCl [(h0, .inr (3, [.int 0, .long tr, .int pe, .ref a3, .ref a4, .ref a5, .int st, .int kd, .int wd, .ref a9, .int tn, .ref a11, .ref a12, .int sd, .ref a14, .ref a15, .ref a16]))] t.heap ∧ va_K (dC, dI) vwCl [(cA, .int)] t ∧ va_D (va_A [(h0, .inr (3, [.int 0, .long tr, .int pe, .ref a3, .ref a4, .ref a5, .int st, .int kd, .int wd, .ref a9, .int tn, .ref a11, .ref a12, .int sd, .ref a14, .ref a15, .ref a16]))] sz) [(h0, .inr (3, [.int 0, .long tr, .int pe, .ref a3, .ref a4, .ref a5, .int st, .int kd, .int wd, .ref a9, .int tn, .ref a11, .ref a12, .int sd, .ref a14, .ref a15, .ref a16]))]) (va_A [(h0, .inr (3, [.int 0, .long tr, .int pe, .ref a3, .ref a4, .ref a5, .int st, .int kd, .int wd, .ref a9, .int tn, .ref a11, .ref a12, .int sd, .ref a14, .ref a15, .ref a16]))] sz)) 0 0 (va_A [(h0, .inr (3, [.int 0, .long tr, .int pe, .ref a3, .ref a4, .ref a5, .int st, .int kd, .int wd, .ref a9, .int tn, .ref a11, .ref a12, .int sd, .ref a14, .ref a15, .ref a16]))] sz) := by
  refine Met.ofW (cc := cX3_last) (maxL := 4) (ret := (some .long)) (by decide) rfl ?_
  intro p e s m args below meth c s₁ B hml hv
  obtain ⟨rfl, hsz, hP, hK, hD0⟩ := hv
  have hx := B.exec
  have hb := B.bytes
  have hr := B.returns
  have hts := atoms_spec (ws := wsX3_last) B.pre
  have hown : s.vm.findClass RX3 = some m.cls := findClass_of_methodNamed B.named
  have hlocks := B.notSynchronized
  subst hsz
  have hD := hD0.self (sz := s.heap.size)
  generalize hAe : va_A [(h0, .inr (3, [.int 0, .long tr, .int pe, .ref a3, .ref a4, .ref a5, .int st, .int kd, .int wd, .ref a9, .int tn, .ref a11, .ref a12, .int sd, .ref a14, .ref a15, .ref a16]))] s.heap.size = A at hD ⊢
  have hA : ∀ q : Nat, s.heap.size ≤ q → A q := fun q h => by rw [← hAe]; exact Or.inr h
  have hS : va_S A s.heap s.heap [] := va_S.rf
  have hP : va_P (dC, dI) vwCl [(h0, .inr (3, [.int 0, .long tr, .int pe, .ref a3, .ref a4, .ref a5, .int st, .int kd, .int wd, .ref a9, .int tn, .ref a11, .ref a12, .int sd, .ref a14, .ref a15, .ref a16]))] s.heap := hP
  have hl := lv_entry ([.ref h0, .long n, .int k]) (n := 4) (Nat.le_of_ble_eq_true rfl)
  rw [lg_entry_eq]
  generalize (lg_sl ([.ref h0, .long n, .int k]) ++ List.replicate (4 - (lg_sl ([.ref h0, .long n, .int k])).length) Slot.unset).toArray = ls at hl ⊢
  have hl : lv_has ls 4 [(0, .ref h0), (1, .long n), (3, .int k)] := hl
  refine lv_aload_n hx hb dX3_last_0 rfl (lv_at hl 0 rfl) ?_
  refine lv_iconst (v := 0) hx hb dX3_last_1 (by decide) ?_
  refine va_put (D := (dC, dI)) (ci := 3) (v := .int 0) (ty := .int) (C := RX3) (T := TX3) (N := 17) hx hb hts (by decide +kernel) tyX3 tyX3_ok nmX3 hown hK hP hD hS 0 rfl rfl 0 (by decide) (hts (.fieldLink RX3 51 "CountedOutModel" "thrown" "I") (by decide +kernel)) (fun _ h9 => h9) rfl (by decide +kernel) rfl rfl (Nat.le_of_ble_eq_true rfl) dX3_last_2 (fun H locs hP hD hS => ?_)
  have hP : va_P (dC, dI) vwCl [(h0, .inr (3, [.int 0, .long tr, .int pe, .ref a3, .ref a4, .ref a5, .int st, .int kd, .int wd, .ref a9, .int tn, .ref a11, .ref a12, .int sd, .ref a14, .ref a15, .ref a16]))] H := hP
  have hD : va_D A [(h0, .inr (3, [.int 0, .long tr, .int pe, .ref a3, .ref a4, .ref a5, .int st, .int kd, .int wd, .ref a9, .int tn, .ref a11, .ref a12, .int sd, .ref a14, .ref a15, .ref a16]))] := hD
  refine lv_lload_n hx hb dX3_last_5 rfl (lv_at hl 1 rfl) ?_
  refine lv_iload_n hx hb dX3_last_6 rfl (lv_at hl 2 rfl) ?_
  refine vp_callSi (va_Run.run (va_runS (As := [.long n, .int k]) (rest := []) ⟨hx, hb, hml, hown, hts⟩ (c_X3_isGreat l dC dI n k) (va_cwS 2 hts gX3_last_X3_isGreat rfl rfl rfl (by decide +kernel) ⟨Nat.le_of_ble_eq_true rfl, Nat.le_of_ble_eq_true rfl⟩) ⟨fun a U g mk q => ⟨q.1, trivial⟩, fun U hU hW => ⟨rfl, trivial⟩⟩ rfl rfl hl.1 rfl (lv_room (Nat.le_of_ble_eq_true rfl)) dX3_last_7 ⟨Nat.zero_le _, Nat.zero_le _⟩)) (fun r_7 hr_7 => ?_)
  subst hr_7
  refine lv_if_eq (tgt := 22) hx hb dX3_last_10 (by decide) (fun c_10 => ?_) (fun c_10 => ?_)
  · have c_10 := zb_0.mp c_10
    refine lv_ldc2 (v := (-1)) hx hb hown (hts (.constantLong RX3 70 (-1)) (by decide +kernel)) dX3_last_22 ?_
    have hP9 := hP.sub (ws' := [(h0, .inr (3, [.int 0, .long tr, .int pe, .ref a3, .ref a4, .ref a5, .int st, .int kd, .int wd, .ref a9, .int tn, .ref a11, .ref a12, .int sd, .ref a14, .ref a15, .ref a16]))]) [0] rfl
    have hD9 := hD.sub (ws' := [(h0, .inr (3, [.int 0, .long tr, .int pe, .ref a3, .ref a4, .ref a5, .int st, .int kd, .int wd, .ref a9, .int tn, .ref a11, .ref a12, .int sd, .ref a14, .ref a15, .ref a16]))]) [0] (by decide) rfl
    exact W.lret (v := (-1)) hx hb hr (fun t ht hW => ⟨⟨_, (), rfl, by first | exact spLast_t hn1 hn2 hk1 hk2 | (unfold spLast; rw [c_10, if_neg (by decide)]), ⟨by rw [ht]; exact hP9, va_K.moved hW.alike hK, hD9⟩⟩, hS.F ht⟩) hS.2.2 dX3_last_25
  · have c_10 := zb_n.mp c_10
    rw [Bool.and_eq_true] at c_10
    obtain ⟨n1, hn1, hn2, rfl⟩ := lN_wi (a := 1) (b := 1000000000000) c_10.1 (by omega)
    obtain ⟨k1, hk1, hk2, rfl⟩ := nI_wi (a := 1) (b := 1000) c_10.2
    refine lv_lload_n hx hb dX3_last_13 rfl (lv_at hl 1 rfl) ?_
    refine lv_iload_n hx hb dX3_last_14 rfl (lv_at hl 2 rfl) ?_
    refine lv_lload_n hx hb dX3_last_15 rfl (lv_at hl 1 rfl) ?_
    refine vp_callSl (va_Run.run (va_runS (As := [.long (lN n1), .int (nI k1), .long (lN n1)]) (rest := []) ⟨hx, hb, hml, hown, hts⟩ (c_X3_goesOf l dC dI n1 k1 n1 hn1 hn2 hk1 hk2 hn1 (Nat.le_refl _)) (va_cwS 3 hts gX3_last_X3_goesOf rfl rfl rfl (by decide +kernel) ⟨Nat.le_of_ble_eq_true rfl, Nat.le_of_ble_eq_true rfl⟩) ⟨fun a U g mk q => ⟨q.1, trivial⟩, fun U hU hW => ⟨rfl, trivial⟩⟩ rfl rfl hl.1 rfl (lv_room (Nat.le_of_ble_eq_true rfl)) dX3_last_16 ⟨Nat.zero_le _, Nat.zero_le _⟩)) (fun r_16 hr_16 => ?_)
    subst hr_16
    refine lv_goto (tgt := 25) hx hb dX3_last_19 (by decide) ?_
    have hP9 := hP.sub (ws' := [(h0, .inr (3, [.int 0, .long tr, .int pe, .ref a3, .ref a4, .ref a5, .int st, .int kd, .int wd, .ref a9, .int tn, .ref a11, .ref a12, .int sd, .ref a14, .ref a15, .ref a16]))]) [0] rfl
    have hD9 := hD.sub (ws' := [(h0, .inr (3, [.int 0, .long tr, .int pe, .ref a3, .ref a4, .ref a5, .int st, .int kd, .int wd, .ref a9, .int tn, .ref a11, .ref a12, .int sd, .ref a14, .ref a15, .ref a16]))]) [0] (by decide) rfl
    exact W.lret (v := lN (goN n1 k1 n1)) hx hb hr (fun t ht hW => ⟨⟨_, (), rfl, by first | exact spLast_t hn1 hn2 hk1 hk2 | (unfold spLast; rw [c_10, if_neg (by decide)]), ⟨by rw [ht]; exact hP9, va_K.moved hW.alike hK, hD9⟩⟩, hS.F ht⟩) hS.2.2 dX3_last_25

set_option maxHeartbeats 4000000 in
set_option maxRecDepth 100000 in
theorem c_X3_turn (l : Launch) (dC : Nat → ClassId) (dI : Nat → Nat → Nat) (sz : Nat) (cA : ClassId) (h0 a3 a4 a5 a9 a11 a12 a14 a15 a16 : Nat) (tr : Int64) (pe st kd wd tn sd : Int32) (n : Int64) (k : Int32) (q : Int64) : Met l yX3_turn wsX3_turn ({ frames := 2, cells := 0, slots := 0, locals := 47 }) (va_Pc [.ref h0, .long n, .int k, .long q] (fun U => U.heap.size = sz ∧ va_P (dC, dI) vwCl [(h0, .inr (3, [.int 0, .long tr, .int pe, .ref a3, .ref a4, .ref a5, .int st, .int kd, .int wd, .ref a9, .int tn, .ref a11, .ref a12, .int sd, .ref a14, .ref a15, .ref a16]))] U.heap ∧ va_K (dC, dI) vwCl [(cA, .int)] U ∧ va_D (fun _ => True) [(h0, .inr (3, [.int 0, .long tr, .int pe, .ref a3, .ref a4, .ref a5, .int st, .int kd, .int wd, .ref a9, .int tn, .ref a11, .ref a12, .int sd, .ref a14, .ref a15, .ref a16]))])) (va_Ql (S := Unit) (fun r _ => r = spTurn n k q) (fun (_ : Unit) (t : State) => va_P (dC, dI) vwCl [(h0, .inr (3, [.int 0, .long tr, .int pe, .ref a3, .ref a4, .ref a5, .int st, .int kd, .int wd, .ref a9, .int tn, .ref a11, .ref a12, .int sd, .ref a14, .ref a15, .ref a16]))] t.heap ∧ va_K (dC, dI) vwCl [(cA, .int)] t ∧ va_D (va_A [(h0, .inr (3, [.int 0, .long tr, .int pe, .ref a3, .ref a4, .ref a5, .int st, .int kd, .int wd, .ref a9, .int tn, .ref a11, .ref a12, .int sd, .ref a14, .ref a15, .ref a16]))] sz) [(h0, .inr (3, [.int 0, .long tr, .int pe, .ref a3, .ref a4, .ref a5, .int st, .int kd, .int wd, .ref a9, .int tn, .ref a11, .ref a12, .int sd, .ref a14, .ref a15, .ref a16]))]) (va_A [(h0, .inr (3, [.int 0, .long tr, .int pe, .ref a3, .ref a4, .ref a5, .int st, .int kd, .int wd, .ref a9, .int tn, .ref a11, .ref a12, .int sd, .ref a14, .ref a15, .ref a16]))] sz)) 0 0 (va_A [(h0, .inr (3, [.int 0, .long tr, .int pe, .ref a3, .ref a4, .ref a5, .int st, .int kd, .int wd, .ref a9, .int tn, .ref a11, .ref a12, .int sd, .ref a14, .ref a15, .ref a16]))] sz) := by
  refine Met.ofW (cc := cX3_turn) (maxL := 8) (ret := (some .long)) (by decide) rfl ?_
  intro p e s m args below meth c s₁ B hml hv
  obtain ⟨rfl, hsz, hP, hK, hD0⟩ := hv
  have hx := B.exec
  have hb := B.bytes
  have hr := B.returns
  have hts := atoms_spec (ws := wsX3_turn) B.pre
  have hown : s.vm.findClass RX3 = some m.cls := findClass_of_methodNamed B.named
  have hlocks := B.notSynchronized
  subst hsz
  have hD := hD0.self (sz := s.heap.size)
  generalize hAe : va_A [(h0, .inr (3, [.int 0, .long tr, .int pe, .ref a3, .ref a4, .ref a5, .int st, .int kd, .int wd, .ref a9, .int tn, .ref a11, .ref a12, .int sd, .ref a14, .ref a15, .ref a16]))] s.heap.size = A at hD ⊢
  have hA : ∀ q : Nat, s.heap.size ≤ q → A q := fun q h => by rw [← hAe]; exact Or.inr h
  have hS : va_S A s.heap s.heap [] := va_S.rf
  have hP : va_P (dC, dI) vwCl [(h0, .inr (3, [.int 0, .long tr, .int pe, .ref a3, .ref a4, .ref a5, .int st, .int kd, .int wd, .ref a9, .int tn, .ref a11, .ref a12, .int sd, .ref a14, .ref a15, .ref a16]))] s.heap := hP
  have hl := lv_entry ([.ref h0, .long n, .int k, .long q]) (n := 8) (Nat.le_of_ble_eq_true rfl)
  rw [lg_entry_eq]
  generalize (lg_sl ([.ref h0, .long n, .int k, .long q]) ++ List.replicate (8 - (lg_sl ([.ref h0, .long n, .int k, .long q])).length) Slot.unset).toArray = ls at hl ⊢
  have hl : lv_has ls 8 [(0, .ref h0), (1, .long n), (3, .int k), (4, .long q)] := hl
  refine lv_aload_n hx hb dX3_turn_0 rfl (lv_at hl 0 rfl) ?_
  refine lv_iconst (v := 0) hx hb dX3_turn_1 (by decide) ?_
  refine va_put (D := (dC, dI)) (ci := 3) (v := .int 0) (ty := .int) (C := RX3) (T := TX3) (N := 17) hx hb hts (by decide +kernel) tyX3 tyX3_ok nmX3 hown hK hP hD hS 0 rfl rfl 0 (by decide) (hts (.fieldLink RX3 51 "CountedOutModel" "thrown" "I") (by decide +kernel)) (fun _ h9 => h9) rfl (by decide +kernel) rfl rfl (Nat.le_of_ble_eq_true rfl) dX3_turn_2 (fun H locs hP hD hS => ?_)
  have hP : va_P (dC, dI) vwCl [(h0, .inr (3, [.int 0, .long tr, .int pe, .ref a3, .ref a4, .ref a5, .int st, .int kd, .int wd, .ref a9, .int tn, .ref a11, .ref a12, .int sd, .ref a14, .ref a15, .ref a16]))] H := hP
  have hD : va_D A [(h0, .inr (3, [.int 0, .long tr, .int pe, .ref a3, .ref a4, .ref a5, .int st, .int kd, .int wd, .ref a9, .int tn, .ref a11, .ref a12, .int sd, .ref a14, .ref a15, .ref a16]))] := hD
  refine lv_lload_n hx hb dX3_turn_5 rfl (lv_at hl 1 rfl) ?_
  refine lv_iload_n hx hb dX3_turn_6 rfl (lv_at hl 2 rfl) ?_
  refine vp_callSi (va_Run.run (va_runS (As := [.long n, .int k]) (rest := []) ⟨hx, hb, hml, hown, hts⟩ (c_X3_isGreat l dC dI n k) (va_cwS 2 hts gX3_turn_X3_isGreat rfl rfl rfl (by decide +kernel) ⟨Nat.le_of_ble_eq_true rfl, Nat.le_of_ble_eq_true rfl⟩) ⟨fun a U g mk q => ⟨q.1, trivial⟩, fun U hU hW => ⟨rfl, trivial⟩⟩ rfl rfl hl.1 rfl (lv_room (Nat.le_of_ble_eq_true rfl)) dX3_turn_7 ⟨Nat.zero_le _, Nat.zero_le _⟩)) (fun r_7 hr_7 => ?_)
  subst hr_7
  refine lv_if_eq (tgt := 25) hx hb dX3_turn_10 (by decide) (fun c_10 => ?_) (fun c_10 => ?_)
  · have c_10 := zb_0.mp c_10
    refine lv_ldc2 (v := (-1)) hx hb hown (hts (.constantLong RX3 70 (-1)) (by decide +kernel)) dX3_turn_25 ?_
    have hP9 := hP.sub (ws' := [(h0, .inr (3, [.int 0, .long tr, .int pe, .ref a3, .ref a4, .ref a5, .int st, .int kd, .int wd, .ref a9, .int tn, .ref a11, .ref a12, .int sd, .ref a14, .ref a15, .ref a16]))]) [0] rfl
    have hD9 := hD.sub (ws' := [(h0, .inr (3, [.int 0, .long tr, .int pe, .ref a3, .ref a4, .ref a5, .int st, .int kd, .int wd, .ref a9, .int tn, .ref a11, .ref a12, .int sd, .ref a14, .ref a15, .ref a16]))]) [0] (by decide) rfl
    exact W.lret (v := (-1)) hx hb hr (fun t ht hW => ⟨⟨_, (), rfl, by unfold spTurn; first | (rw [c_10, Bool.false_and, if_neg (by decide)]) | (rw [c_10, c_22, Bool.true_and, if_neg (by decide)]), ⟨by rw [ht]; exact hP9, va_K.moved hW.alike hK, hD9⟩⟩, hS.F ht⟩) hS.2.2 dX3_turn_28
  · have c_10 := zb_n.mp c_10
    refine lv_lload hx hb dX3_turn_13 (lv_at hl 3 rfl) ?_
    refine lv_lconst (v := 0) hx hb dX3_turn_15 (by decide) ?_
    refine lv_lload_n hx hb dX3_turn_16 rfl (lv_at hl 1 rfl) ?_
    refine lv_lconst (v := 1) hx hb dX3_turn_17 (by decide) ?_
    refine lv_lsub hx hb dX3_turn_18 ?_
    refine vp_callSi (va_Run.run (va_runS (As := [.long q, .long 0, .long (n - 1)]) (rest := []) ⟨hx, hb, hml, hown, hts⟩ (c_X3_in l dC dI q 0 (n - 1)) (va_cwS 3 hts gX3_turn_X3_in rfl rfl rfl (by decide +kernel) ⟨Nat.le_of_ble_eq_true rfl, Nat.le_of_ble_eq_true rfl⟩) ⟨fun a U g mk q => ⟨q.1, trivial⟩, fun U hU hW => ⟨rfl, trivial⟩⟩ rfl rfl hl.1 rfl (lv_room (Nat.le_of_ble_eq_true rfl)) dX3_turn_19 ⟨Nat.zero_le _, Nat.zero_le _⟩)) (fun r_19 hr_19 => ?_)
    obtain rfl : r_19 = zb (wi q.toInt 0 (n.toInt - 1)) := hr_19.trans (by rw [sub1_toInt (wi_t.mp (Bool.and_eq_true_iff.mp c_10).1)]; rfl)
    refine lv_if_ne (tgt := 29) hx hb dX3_turn_22 (by decide) (fun c_22 => ?_) (fun c_22 => ?_)
    · have c_22 := zb_n.mp c_22
      rw [Bool.and_eq_true] at c_10
      obtain ⟨n1, hn1, hn2, rfl⟩ := lN_wi (a := 1) (b := 1000000000000) c_10.1 (by omega)
      obtain ⟨k1, hk1, hk2, rfl⟩ := nI_wi (a := 1) (b := 1000) c_10.2
      rw [pk_lT (by omega)] at c_22
      obtain ⟨q1, hq1, hq2, rfl⟩ := lN_wi (x := q) (a := 0) (b := n1 - 1) (by rw [Int.ofNat_sub hn1]; exact c_22) (by omega)
      have hkn : k1 * n1 ≤ 1000 * 1000000000000 := Nat.mul_le_mul hk2 hn2
      have hkn1 : 1 * n1 ≤ k1 * n1 := Nat.mul_le_mul_right _ hk1
      refine lv_lload hx hb dX3_turn_29 (lv_at hl 3 rfl) ?_
      refine lv_lconst (v := 1) hx hb dX3_turn_31 (by decide) ?_
      refine lv_ladd hx hb dX3_turn_32 ?_
      refine z_l (y := lN (q1 + 1)) (lN_add q1 1) ?_
      refine lv_lstore (lv' := [(6, .long (lN (q1 + 1))), (0, .ref h0), (1, .long (lN n1)), (3, .int (nI k1)), (4, .long (lN q1))]) hx hb dX3_turn_33 hl (by decide) rfl (fun ls hl => ?_)
      have hend := tIt_end1 hn2 hk1 hk2 (show q1 + 1 ≤ k1 * n1 by omega)
      refine W_loopR (σ := Nat × Nat) (fun xx ls => match xx with | (x, f) => lv_has ls 8 [(1, .long (lN n1)), (3, .int (nI k1)), (6, .long (lN x))] ∧ x ≤ k1 * n1 ∧ tIt n1 k1 f x = tIt n1 k1 1000000 (q1 + 1)) (fun xx => match xx with | (x, f) => f) ?_ (q1 + 1, 1000000) ⟨lv_sub hl [2, 3, 0] rfl, (by omega), rfl⟩
      rintro ⟨x, f⟩ ls ⟨hl, hxk, hg⟩ ih_35
      refine lv_lload hx hb dX3_turn_35 (lv_at hl 2 rfl) ?_
      refine lv_iload_n hx hb dX3_turn_37 rfl (lv_at hl 1 rfl) ?_
      refine lv_i2l (v := (nI k1).toInt64) hx hb dX3_turn_38 rfl ?_
      refine z_l (y := lN k1) (nI_l (by omega)) ?_
      refine lv_lrem hx hb dX3_turn_39 (fun h => by have := (pk_lEQ (b := 0) (by omega) (by omega)).mp h; omega) ?_
      refine z_l (y := lN (x % k1)) (pk_lRem (by omega) (by omega) (by omega)) ?_
      have hmod : x % k1 < k1 := Nat.mod_lt _ (by omega)
      refine lv_lconst (v := 0) hx hb dX3_turn_40 (by decide) ?_
      refine W.lcmp hx hb dX3_turn_41 ?_
      refine lv_if_eq (tgt := 68) hx hb dX3_turn_42 (by decide) (fun c_42 => ?_) (fun c_42 => ?_)
      · have c_42 : x % k1 = 0 := (pk_lEQ (b := 0) (by omega) (by omega)).mp ((lg_cmp_eq _ _).mp c_42)
        refine lv_lload hx hb dX3_turn_68 (lv_at hl 2 rfl) ?_
        refine lv_iload_n hx hb dX3_turn_70 rfl (lv_at hl 1 rfl) ?_
        refine lv_i2l (v := (nI k1).toInt64) hx hb dX3_turn_71 rfl ?_
        refine z_l (y := lN k1) (nI_l (by omega)) ?_
        refine lv_ldiv hx hb dX3_turn_72 (fun h => by have := (pk_lEQ (b := 0) (by omega) (by omega)).mp h; omega) ?_
        refine z_l (y := lN (x / k1)) (pk_lDiv (by omega) (by omega) (by omega)) ?_
        have hP9 := hP.sub (ws' := [(h0, .inr (3, [.int 0, .long tr, .int pe, .ref a3, .ref a4, .ref a5, .int st, .int kd, .int wd, .ref a9, .int tn, .ref a11, .ref a12, .int sd, .ref a14, .ref a15, .ref a16]))]) [0] rfl
        have hD9 := hD.sub (ws' := [(h0, .inr (3, [.int 0, .long tr, .int pe, .ref a3, .ref a4, .ref a5, .int st, .int kd, .int wd, .ref a9, .int tn, .ref a11, .ref a12, .int sd, .ref a14, .ref a15, .ref a16]))]) [0] (by decide) rfl
        exact W.lret (v := lN (x / k1)) hx hb hr (fun t ht hW => ⟨⟨_, (), rfl, by rw [← spTurn_t hn1 hn2 hk1 hk2 (by omega)]; exact congrArg lN (tuN1 hk1 hg c_42), ⟨by rw [ht]; exact hP9, va_K.moved hW.alike hK, hD9⟩⟩, hS.F ht⟩) hS.2.2 dX3_turn_73
      · have c_42 : ¬ x % k1 = 0 := fun h => c_42 ((lg_cmp_eq _ _).mpr ((pk_lEQ (b := 0) (by omega) (by omega)).mpr h))
        obtain ⟨f, rfl⟩ : ∃ f0, f = f0 + 1 := Nat.exists_eq_succ_of_ne_zero (fun h => by subst h; rw [← hg] at hend; exact absurd hend c_42)
        have hdv : x / k1 ≤ x := Nat.div_le_self _ _
        have hdm : k1 * (x / k1) + x % k1 = x := Nat.div_add_mod x k1
        have hdk : x / k1 * (k1 - 1) = k1 * (x / k1) - x / k1 := by rw [Nat.mul_sub, Nat.mul_one, Nat.mul_comm]
        have hdq : x / k1 ≤ k1 * (x / k1) := Nat.le_mul_of_pos_left _ (by omega)
        refine lv_lload_n hx hb dX3_turn_45 rfl (lv_at hl 0 rfl) ?_
        refine lv_lload hx hb dX3_turn_46 (lv_at hl 2 rfl) ?_
        refine lv_iload_n hx hb dX3_turn_48 rfl (lv_at hl 1 rfl) ?_
        refine lv_i2l (v := (nI k1).toInt64) hx hb dX3_turn_49 rfl ?_
        refine z_l (y := lN k1) (nI_l (by omega)) ?_
        refine lv_ldiv hx hb dX3_turn_50 (fun h => by have := (pk_lEQ (b := 0) (by omega) (by omega)).mp h; omega) ?_
        refine z_l (y := lN (x / k1)) (pk_lDiv (by omega) (by omega) (by omega)) ?_
        refine lv_iload_n hx hb dX3_turn_51 rfl (lv_at hl 1 rfl) ?_
        refine lv_iconst (v := 1) hx hb dX3_turn_52 (by decide) ?_
        refine lv_isub hx hb dX3_turn_53 ?_
        refine lv_i2l (v := ((nI k1) - 1).toInt64) hx hb dX3_turn_54 rfl ?_
        refine z_l (y := lN (k1 - 1)) (by rw [show nI k1 - 1 = nI (k1 - 1) from pk_sub (b := 1) (by omega), nI_l (by omega)]) ?_
        refine lv_lmul hx hb dX3_turn_55 ?_
        refine z_l (y := lN (x / k1 * (k1 - 1))) (lN_mul _ _) ?_
        refine lv_ladd hx hb dX3_turn_56 ?_
        refine z_l (y := lN (n1 + x / k1 * (k1 - 1))) (lN_add _ _) ?_
        refine lv_lload hx hb dX3_turn_57 (lv_at hl 2 rfl) ?_
        refine lv_iload_n hx hb dX3_turn_59 rfl (lv_at hl 1 rfl) ?_
        refine lv_i2l (v := (nI k1).toInt64) hx hb dX3_turn_60 rfl ?_
        refine z_l (y := lN k1) (nI_l (by omega)) ?_
        refine lv_lrem hx hb dX3_turn_61 (fun h => by have := (pk_lEQ (b := 0) (by omega) (by omega)).mp h; omega) ?_
        refine z_l (y := lN (x % k1)) (pk_lRem (by omega) (by omega) (by omega)) ?_
        refine lv_ladd hx hb dX3_turn_62 ?_
        refine z_l (y := lN (tst n1 k1 x)) (by rw [lN_add]; congr 1; unfold tst; omega) ?_
        refine lv_lstore (lv' := [(6, .long (lN (tst n1 k1 x))), (1, .long (lN n1)), (3, .int (nI k1))]) hx hb dX3_turn_63 hl (by decide) rfl (fun ls hl => ?_)
        refine lv_goto (tgt := 35) hx hb dX3_turn_65 (by decide) ?_
        exact ih_35 (tst n1 k1 x, f) _ (by show f < f + 1; omega) ⟨lv_sub hl [1, 2, 0] rfl, tst_le1 hk1 c_42 hxk, (by rw [← hg]; simp [tIt, c_42])⟩
    · have c_22 := zb_0.mp c_22
      refine lv_ldc2 (v := (-1)) hx hb hown (hts (.constantLong RX3 70 (-1)) (by decide +kernel)) dX3_turn_25 ?_
      have hP9 := hP.sub (ws' := [(h0, .inr (3, [.int 0, .long tr, .int pe, .ref a3, .ref a4, .ref a5, .int st, .int kd, .int wd, .ref a9, .int tn, .ref a11, .ref a12, .int sd, .ref a14, .ref a15, .ref a16]))]) [0] rfl
      have hD9 := hD.sub (ws' := [(h0, .inr (3, [.int 0, .long tr, .int pe, .ref a3, .ref a4, .ref a5, .int st, .int kd, .int wd, .ref a9, .int tn, .ref a11, .ref a12, .int sd, .ref a14, .ref a15, .ref a16]))]) [0] (by decide) rfl
      exact W.lret (v := (-1)) hx hb hr (fun t ht hW => ⟨⟨_, (), rfl, by unfold spTurn; first | (rw [c_10, Bool.false_and, if_neg (by decide)]) | (rw [c_10, c_22, Bool.true_and, if_neg (by decide)]), ⟨by rw [ht]; exact hP9, va_K.moved hW.alike hK, hD9⟩⟩, hS.F ht⟩) hS.2.2 dX3_turn_28
