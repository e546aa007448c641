theorem isF_cnt (h p : Nat) : bc h.testBit p + h / 2 ^ p % 2 = bc h.testBit (p + 1) := by
  have hlt : h / 2 ^ p % 2 < 2 := Nat.mod_lt _ (by decide)
  rw [bc, Nat.testBit_eq_decide_div_mod_eq]
  by_cases hz : h / 2 ^ p % 2 = 1
  · simp [hz]
  · simp [hz]; omega
theorem isF_move {m0 p2 a : Nat} {Rg Rg2 : Nat → Int32} (hp : p2 < m0 + 1) (ha : a ≤ p2) (hc : p2 + 1 < m0 + 1) (hR : ∀ q, q < m0 + 1 → Rg2 q = if q < p2 then (if q < a then Rg q else Rg (q + 1)) else Rg q) :
    ∀ q, q < m0 + 1 → upd Rg2 p2 (Rg2 (p2 + 1)) q = if q < p2 + 1 then (if q < a then Rg q else Rg (q + 1)) else Rg q := by
  intro q hq
  by_cases h : q = p2
  · subst h
    rw [pk_us, hR _ hc, if_neg (by omega), if_pos (by omega), if_neg (by omega)]
  · rw [pk_un h, hR q hq]
    by_cases h2 : q < p2
    · rw [if_pos h2, if_pos (show q < p2 + 1 by omega)]
    · rw [if_neg h2, if_neg (show ¬ q < p2 + 1 by omega)]
theorem isF_ring {n h b i m0 a p2 : Nat} {rg : Nat → Nat} {Rg Rg2 : Nat → Int32} (hm1 : n - (i + 1) = m0) (hm0 : n - i = m0 + 1) (ha : a < m0 + 1) (hR : ∀ q, q < m0 + 1 → Rg q = nI (rg q) ∧ rg q < n ∧ h.testBit (rg q) = b.testBit q)
    (hR2 : ∀ q, q < m0 + 1 → Rg2 q = if q < p2 then (if q < a then Rg q else Rg (q + 1)) else Rg q) (hp : m0 ≤ p2) :
    ∀ q, q < n - (i + 1) → Rg2 q = nI (if q < a then rg q else rg (q + 1)) ∧ (if q < a then rg q else rg (q + 1)) < n ∧ h.testBit (if q < a then rg q else rg (q + 1)) = (wob b a).testBit q := by
  intro q hq
  rw [hm1] at hq
  rw [hR2 q (by omega), if_pos (by omega), wob_tb]
  by_cases h2 : q < a
  · simp only [h2, if_true]; exact hR q (by omega)
  · simp only [h2, if_false]; exact hR (q + 1) (by omega)
set_option maxHeartbeats 4000000 in
set_option maxRecDepth 100000 in
theorem c_X2_isHeap (l : Launch) (dC : Nat → ClassId) (dI : Nat → Nat → Nat) (n h : Int32) : Met l yX2_isHeap wsX2_isHeap ({ frames := 1, cells := 0, slots := 0, locals := 25 }) (va_Pc [.int n, .int h] (fun _ => True)) (vp_Si (fun r => r = zb (isHp n h))) 0 0 (fun _ => False) := by
  refine Met.ofW (cc := cX2_isHeap) (maxL := 2) (ret := (some .boolean)) (by decide) rfl ?_
  intro p e s m args below meth c s₁ B hml hv
  obtain ⟨rfl, -⟩ := hv
  have hx := B.exec
  have hb := B.bytes
  have hr := B.returns
  have hts := atoms_spec (ws := wsX2_isHeap) B.pre
  have hown : s.vm.findClass RX2 = some m.cls := findClass_of_methodNamed B.named
  have hlocks := B.notSynchronized
  have hl := lv_entry ([.int n, .int h]) (n := 2) (Nat.le_of_ble_eq_true rfl)
  rw [lg_entry_eq]
  generalize (lg_sl ([.int n, .int h]) ++ List.replicate (2 - (lg_sl ([.int n, .int h])).length) Slot.unset).toArray = ls at hl ⊢
  have hl : lv_has ls 2 [(0, .int n), (1, .int h)] := hl
  refine lv_iload_n hx hb dX2_isHeap_0 rfl (lv_at hl 0 rfl) ?_
  refine lv_i2l (v := n.toInt64) hx hb dX2_isHeap_1 rfl ?_
  refine lv_ldc2 (v := 2) hx hb hown (hts (.constantLong RX2 80 (2)) (by decide +kernel)) dX2_isHeap_2 ?_
  refine lv_ldc2 (v := 20) hx hb hown (hts (.constantLong RX2 78 (20)) (by decide +kernel)) dX2_isHeap_5 ?_
  refine vp_callSi (va_Run.run (va_runS (As := [.long n.toInt64, .long 2, .long 20]) (rest := []) ⟨hx, hb, hml, hown, hts⟩ (c_X2_isWithin l dC dI n.toInt64 2 20) (va_cwS 3 hts gX2_isHeap_X2_isWithin rfl rfl rfl (by decide +kernel) ⟨Nat.le_of_ble_eq_true rfl, Nat.le_of_ble_eq_true rfl⟩) ⟨fun a U g mk q => ⟨q.1, trivial⟩, fun U hU hW => ⟨rfl, trivial⟩⟩ rfl rfl hl.1 rfl (lv_room (Nat.le_of_ble_eq_true rfl)) dX2_isHeap_8 ⟨Nat.zero_le _, Nat.zero_le _⟩)) (fun r_8 hr_8 => ?_)
  obtain rfl : r_8 = zb (wi n.toInt 2 20) := hr_8.trans (by rw [i2l_toInt]; rfl)
  refine lv_if_eq (tgt := 33) hx hb dX2_isHeap_11 (by decide) (fun c_11 => ?_) (fun c_11 => ?_)
  · have c_11 := zb_0.mp c_11
    refine lv_iconst (v := 0) hx hb dX2_isHeap_33 (by decide) ?_
    exact W.zret (v := 0) hx hb hr (rfl) (fun t ht hW => ⟨_, rfl, by unfold isHp; first | (rw [c_11, Bool.false_and]; rfl) | (rw [c_11, nI_toInt (by omega), Int.toNat_natCast, c_26]; rfl), ht⟩) (fun _ h => absurd h List.not_mem_nil) dX2_isHeap_34
  · have c_11 := zb_n.mp c_11
    obtain ⟨n1, hn1, hn2, rfl⟩ := nI_wi (a := 2) (b := 20) c_11
    have hp1 : (2 : Nat) ^ 2 ≤ 2 ^ n1 := Nat.pow_le_pow_right (by decide) hn1
    have hp2 : (2 : Nat) ^ n1 ≤ 2 ^ 20 := Nat.pow_le_pow_right (by decide) hn2
    refine lv_iload_n hx hb dX2_isHeap_14 rfl (lv_at hl 1 rfl) ?_
    refine lv_i2l (v := h.toInt64) hx hb dX2_isHeap_15 rfl ?_
    refine lv_lconst (v := 1) hx hb dX2_isHeap_16 (by decide) ?_
    refine lv_iconst (v := 1) hx hb dX2_isHeap_17 (by decide) ?_
    refine lv_iload_n hx hb dX2_isHeap_18 rfl (lv_at hl 0 rfl) ?_
    refine lv_ishl hx hb dX2_isHeap_19 ?_
    refine z_i (y := nI (2 ^ n1)) (sh1 (by omega)) ?_
    refine lv_iconst (v := 2) hx hb dX2_isHeap_20 (by decide) ?_
    refine lv_isub hx hb dX2_isHeap_21 ?_
    refine z_i (y := nI (2 ^ n1 - 2)) (pk_sub (b := 2) (by omega)) ?_
    refine lv_i2l (v := (nI (2 ^ n1 - 2)).toInt64) hx hb dX2_isHeap_22 rfl ?_
    refine vp_callSi (va_Run.run (va_runS (As := [.long h.toInt64, .long 1, .long ((nI (2 ^ n1 - 2)).toInt64)]) (rest := []) ⟨hx, hb, hml, hown, hts⟩ (c_X2_isWithin l dC dI h.toInt64 1 ((nI (2 ^ n1 - 2)).toInt64)) (va_cwS 3 hts gX2_isHeap_X2_isWithin rfl rfl rfl (by decide +kernel) ⟨Nat.le_of_ble_eq_true rfl, Nat.le_of_ble_eq_true rfl⟩) ⟨fun a U g mk q => ⟨q.1, trivial⟩, fun U hU hW => ⟨rfl, trivial⟩⟩ rfl rfl hl.1 rfl (lv_room (Nat.le_of_ble_eq_true rfl)) dX2_isHeap_23 ⟨Nat.zero_le _, Nat.zero_le _⟩)) (fun r_23 hr_23 => ?_)
    obtain rfl : r_23 = zb (wi h.toInt 1 ((2 : Int) ^ n1 - 2)) := hr_23.trans (by rw [i2l_toInt, i2l_toInt, nI_toInt (by omega), Int.ofNat_sub (by omega), Int.natCast_pow]; rfl)
    refine lv_if_eq (tgt := 33) hx hb dX2_isHeap_26 (by decide) (fun c_26 => ?_) (fun c_26 => ?_)
    · have c_26 := zb_0.mp c_26
      refine lv_iconst (v := 0) hx hb dX2_isHeap_33 (by decide) ?_
      exact W.zret (v := 0) hx hb hr (rfl) (fun t ht hW => ⟨_, rfl, by unfold isHp; first | (rw [c_11, Bool.false_and]; rfl) | (rw [c_11, nI_toInt (by omega), Int.toNat_natCast, c_26]; rfl), ht⟩) (fun _ h => absurd h List.not_mem_nil) dX2_isHeap_34
    · have c_26 := zb_n.mp c_26
      refine lv_iconst (v := 1) hx hb dX2_isHeap_29 (by decide) ?_
      refine lv_goto (tgt := 34) hx hb dX2_isHeap_30 (by decide) ?_
      exact W.zret (v := 1) hx hb hr (rfl) (fun t ht hW => ⟨_, rfl, by unfold isHp; first | (rw [c_11, Bool.false_and]; rfl) | (rw [c_11, nI_toInt (by omega), Int.toNat_natCast, c_26]; rfl), ht⟩) (fun _ h => absurd h List.not_mem_nil) dX2_isHeap_34

set_option maxHeartbeats 4000000 in
set_option maxRecDepth 100000 in
theorem c_X3_isHeap (l : Launch) (dC : Nat → ClassId) (dI : Nat → Nat → Nat) (n h : Int32) : Met l yX3_isHeap wsX3_isHeap ({ frames := 1, cells := 0, slots := 0, locals := 25 }) (va_Pc [.int n, .int h] (fun _ => True)) (vp_Si (fun r => r = zb (isHp n h))) 0 0 (fun _ => False) := by
  refine Met.ofW (cc := cX3_isHeap) (maxL := 2) (ret := (some .boolean)) (by decide) rfl ?_
  intro p e s m args below meth c s₁ B hml hv
  obtain ⟨rfl, -⟩ := hv
  have hx := B.exec
  have hb := B.bytes
  have hr := B.returns
  have hts := atoms_spec (ws := wsX3_isHeap) B.pre
  have hown : s.vm.findClass RX3 = some m.cls := findClass_of_methodNamed B.named
  have hlocks := B.notSynchronized
  have hl := lv_entry ([.int n, .int h]) (n := 2) (Nat.le_of_ble_eq_true rfl)
  rw [lg_entry_eq]
  generalize (lg_sl ([.int n, .int h]) ++ List.replicate (2 - (lg_sl ([.int n, .int h])).length) Slot.unset).toArray = ls at hl ⊢
  have hl : lv_has ls 2 [(0, .int n), (1, .int h)] := hl
  refine lv_iload_n hx hb dX3_isHeap_0 rfl (lv_at hl 0 rfl) ?_
  refine lv_i2l (v := n.toInt64) hx hb dX3_isHeap_1 rfl ?_
  refine lv_ldc2 (v := 2) hx hb hown (hts (.constantLong RX3 72 (2)) (by decide +kernel)) dX3_isHeap_2 ?_
  refine lv_ldc2 (v := 20) hx hb hown (hts (.constantLong RX3 74 (20)) (by decide +kernel)) dX3_isHeap_5 ?_
  refine vp_callSi (va_Run.run (va_runS (As := [.long n.toInt64, .long 2, .long 20]) (rest := []) ⟨hx, hb, hml, hown, hts⟩ (c_X3_in l dC dI n.toInt64 2 20) (va_cwS 3 hts gX3_isHeap_X3_in rfl rfl rfl (by decide +kernel) ⟨Nat.le_of_ble_eq_true rfl, Nat.le_of_ble_eq_true rfl⟩) ⟨fun a U g mk q => ⟨q.1, trivial⟩, fun U hU hW => ⟨rfl, trivial⟩⟩ rfl rfl hl.1 rfl (lv_room (Nat.le_of_ble_eq_true rfl)) dX3_isHeap_8 ⟨Nat.zero_le _, Nat.zero_le _⟩)) (fun r_8 hr_8 => ?_)
  obtain rfl : r_8 = zb (wi n.toInt 2 20) := hr_8.trans (by rw [i2l_toInt]; rfl)
  refine lv_if_eq (tgt := 33) hx hb dX3_isHeap_11 (by decide) (fun c_11 => ?_) (fun c_11 => ?_)
  · have c_11 := zb_0.mp c_11
    refine lv_iconst (v := 0) hx hb dX3_isHeap_33 (by decide) ?_
    exact W.zret (v := 0) hx hb hr (rfl) (fun t ht hW => ⟨_, rfl, by unfold isHp; first | (rw [c_11, Bool.false_and]; rfl) | (rw [c_11, nI_toInt (by omega), Int.toNat_natCast, c_26]; rfl), ht⟩) (fun _ h => absurd h List.not_mem_nil) dX3_isHeap_34
  · have c_11 := zb_n.mp c_11
    obtain ⟨n1, hn1, hn2, rfl⟩ := nI_wi (a := 2) (b := 20) c_11
    have hp1 : (2 : Nat) ^ 2 ≤ 2 ^ n1 := Nat.pow_le_pow_right (by decide) hn1
    have hp2 : (2 : Nat) ^ n1 ≤ 2 ^ 20 := Nat.pow_le_pow_right (by decide) hn2
    refine lv_iload_n hx hb dX3_isHeap_14 rfl (lv_at hl 1 rfl) ?_
    refine lv_i2l (v := h.toInt64) hx hb dX3_isHeap_15 rfl ?_
    refine lv_lconst (v := 1) hx hb dX3_isHeap_16 (by decide) ?_
    refine lv_iconst (v := 1) hx hb dX3_isHeap_17 (by decide) ?_
    refine lv_iload_n hx hb dX3_isHeap_18 rfl (lv_at hl 0 rfl) ?_
    refine lv_ishl hx hb dX3_isHeap_19 ?_
    refine z_i (y := nI (2 ^ n1)) (sh1 (by omega)) ?_
    refine lv_iconst (v := 2) hx hb dX3_isHeap_20 (by decide) ?_
    refine lv_isub hx hb dX3_isHeap_21 ?_
    refine z_i (y := nI (2 ^ n1 - 2)) (pk_sub (b := 2) (by omega)) ?_
    refine lv_i2l (v := (nI (2 ^ n1 - 2)).toInt64) hx hb dX3_isHeap_22 rfl ?_
    refine vp_callSi (va_Run.run (va_runS (As := [.long h.toInt64, .long 1, .long ((nI (2 ^ n1 - 2)).toInt64)]) (rest := []) ⟨hx, hb, hml, hown, hts⟩ (c_X3_in l dC dI h.toInt64 1 ((nI (2 ^ n1 - 2)).toInt64)) (va_cwS 3 hts gX3_isHeap_X3_in rfl rfl rfl (by decide +kernel) ⟨Nat.le_of_ble_eq_true rfl, Nat.le_of_ble_eq_true rfl⟩) ⟨fun a U g mk q => ⟨q.1, trivial⟩, fun U hU hW => ⟨rfl, trivial⟩⟩ rfl rfl hl.1 rfl (lv_room (Nat.le_of_ble_eq_true rfl)) dX3_isHeap_23 ⟨Nat.zero_le _, Nat.zero_le _⟩)) (fun r_23 hr_23 => ?_)
    obtain rfl : r_23 = zb (wi h.toInt 1 ((2 : Int) ^ n1 - 2)) := hr_23.trans (by rw [i2l_toInt, i2l_toInt, nI_toInt (by omega), Int.ofNat_sub (by omega), Int.natCast_pow]; rfl)
    refine lv_if_eq (tgt := 33) hx hb dX3_isHeap_26 (by decide) (fun c_26 => ?_) (fun c_26 => ?_)
    · have c_26 := zb_0.mp c_26
      refine lv_iconst (v := 0) hx hb dX3_isHeap_33 (by decide) ?_
      exact W.zret (v := 0) hx hb hr (rfl) (fun t ht hW => ⟨_, rfl, by unfold isHp; first | (rw [c_11, Bool.false_and]; rfl) | (rw [c_11, nI_toInt (by omega), Int.toNat_natCast, c_26]; rfl), ht⟩) (fun _ h => absurd h List.not_mem_nil) dX3_isHeap_34
    · have c_26 := zb_n.mp c_26
      refine lv_iconst (v := 1) hx hb dX3_isHeap_29 (by decide) ?_
      refine lv_goto (tgt := 34) hx hb dX3_isHeap_30 (by decide) ?_
      exact W.zret (v := 1) hx hb hr (rfl) (fun t ht hW => ⟨_, rfl, by unfold isHp; first | (rw [c_11, Bool.false_and]; rfl) | (rw [c_11, nI_toInt (by omega), Int.toNat_natCast, c_26]; rfl), ht⟩) (fun _ h => absurd h List.not_mem_nil) dX3_isHeap_34

set_option maxHeartbeats 4000000 in
set_option maxRecDepth 100000 in
theorem c_X2_withoutBit (l : Launch) (dC : Nat → ClassId) (dI : Nat → Nat → Nat) (b a : Nat) (hbb : b < 2 ^ 31) (ha : a < 31) : Met l yX2_withoutBit wsX2_withoutBit ({ frames := 0, cells := 0, slots := 0, locals := 0 }) (va_Pc [.int (nI b), .int (nI a)] (fun _ => True)) (vp_Si (fun r => r = nI (wob b a))) 0 0 (fun _ => False) := by
  refine Met.ofW (cc := cX2_withoutBit) (maxL := 3) (ret := (some .int)) (by decide) rfl ?_
  intro p e s m args below meth c s₁ B hml hv
  obtain ⟨rfl, -⟩ := hv
  have hx := B.exec
  have hb := B.bytes
  have hr := B.returns
  have hts := atoms_spec (ws := wsX2_withoutBit) B.pre
  have hown : s.vm.findClass RX2 = some m.cls := findClass_of_methodNamed B.named
  have hlocks := B.notSynchronized
  have hl := lv_entry ([.int (nI b), .int (nI a)]) (n := 3) (Nat.le_of_ble_eq_true rfl)
  rw [lg_entry_eq]
  generalize (lg_sl ([.int (nI b), .int (nI a)]) ++ List.replicate (3 - (lg_sl ([.int (nI b), .int (nI a)])).length) Slot.unset).toArray = ls at hl ⊢
  have hl : lv_has ls 3 [(0, .int (nI b)), (1, .int (nI a))] := hl
  refine lv_iconst (v := 1) hx hb dX2_withoutBit_0 (by decide) ?_
  refine lv_iload_n hx hb dX2_withoutBit_1 rfl (lv_at hl 1 rfl) ?_
  refine lv_ishl hx hb dX2_withoutBit_2 ?_
  refine z_i (y := nI (2 ^ a)) (sh1 ha) ?_
  refine lv_iconst (v := 1) hx hb dX2_withoutBit_3 (by decide) ?_
  refine lv_isub hx hb dX2_withoutBit_4 ?_
  refine z_i (y := nI (2 ^ a - 1)) (pow_m1) ?_
  refine lv_istore_n (lv' := [(2, .int (nI (2 ^ a - 1))), (0, .int (nI b)), (1, .int (nI a))]) hx hb dX2_withoutBit_5 rfl hl (by decide) rfl (fun ls hl => ?_)
  refine lv_iload_n hx hb dX2_withoutBit_6 rfl (lv_at hl 1 rfl) ?_
  refine lv_iload_n hx hb dX2_withoutBit_7 rfl (lv_at hl 0 rfl) ?_
  refine lv_iand hx hb dX2_withoutBit_8 ?_
  refine lv_iload_n hx hb dX2_withoutBit_9 rfl (lv_at hl 1 rfl) ?_
  refine lv_iconst (v := 1) hx hb dX2_withoutBit_10 (by decide) ?_
  refine lv_ishr hx hb dX2_withoutBit_11 ?_
  refine lv_iload_n hx hb dX2_withoutBit_12 rfl (lv_at hl 0 rfl) ?_
  refine lv_iconst (v := (-1)) hx hb dX2_withoutBit_13 (by decide) ?_
  refine lv_ixor hx hb dX2_withoutBit_14 ?_
  refine lv_iand hx hb dX2_withoutBit_15 ?_
  refine lv_ior hx hb dX2_withoutBit_16 ?_
  refine z_i (y := nI (wob b a)) (wob_int hbb ha) ?_
  exact W.iret (v := nI (wob b a)) hx hb hr (fun t ht hW => ⟨_, rfl, rfl, ht⟩) (fun _ h => absurd h List.not_mem_nil) dX2_withoutBit_17

set_option maxHeartbeats 4000000 in
set_option maxRecDepth 100000 in
theorem c_X2_goesFirst (l : Launch) (dC : Nat → ClassId) (dI : Nat → Nat → Nat) (n h k : Nat) (hn : n ≤ 20) (hh : h < 2 ^ n) (hk1 : 1 ≤ k) (hk : k ≤ 10000) : Met l yX2_goesFirst wsX2_goesFirst ({ frames := 1, cells := 0, slots := 0, locals := 22 }) (va_Pc [.int (nI n), .int (nI h), .int (nI k)] (fun _ => True)) (vp_Si (fun r => r = zb (gF k n 0 h))) 0 0 (fun _ => False) := by
  refine Met.ofW (cc := cX2_goesFirst) (maxL := 6) (ret := (some .boolean)) (by decide) rfl ?_
  intro p e s m args below meth c s₁ B hml hv
  obtain ⟨rfl, -⟩ := hv
  have hx := B.exec
  have hb := B.bytes
  have hr := B.returns
  have hts := atoms_spec (ws := wsX2_goesFirst) B.pre
  have hown : s.vm.findClass RX2 = some m.cls := findClass_of_methodNamed B.named
  have hlocks := B.notSynchronized
  have hl := lv_entry ([.int (nI n), .int (nI h), .int (nI k)]) (n := 6) (Nat.le_of_ble_eq_true rfl)
  rw [lg_entry_eq]
  generalize (lg_sl ([.int (nI n), .int (nI h), .int (nI k)]) ++ List.replicate (6 - (lg_sl ([.int (nI n), .int (nI h), .int (nI k)])).length) Slot.unset).toArray = ls at hl ⊢
  have hl : lv_has ls 6 [(0, .int (nI n)), (1, .int (nI h)), (2, .int (nI k))] := hl
  have hp20 : (2 : Nat) ^ n ≤ 2 ^ 20 := Nat.pow_le_pow_right (by decide) hn
  refine lv_iload_n hx hb dX2_goesFirst_0 rfl (lv_at hl 1 rfl) ?_
  refine lv_istore_n (lv' := [(3, .int (nI h)), (0, .int (nI n)), (1, .int (nI h)), (2, .int (nI k))]) hx hb dX2_goesFirst_1 rfl hl (by decide) rfl (fun ls hl => ?_)
  refine lv_iconst (v := 0) hx hb dX2_goesFirst_2 (by decide) ?_
  refine lv_istore (lv' := [(4, .int 0), (3, .int (nI h)), (0, .int (nI n)), (1, .int (nI h)), (2, .int (nI k))]) hx hb dX2_goesFirst_3 hl (by decide) rfl (fun ls hl => ?_)
  refine lv_iload_n hx hb dX2_goesFirst_5 rfl (lv_at hl 2 rfl) ?_
  refine lv_istore (lv' := [(5, .int (nI n)), (4, .int 0), (3, .int (nI h)), (0, .int (nI n)), (1, .int (nI h)), (2, .int (nI k))]) hx hb dX2_goesFirst_6 hl (by decide) rfl (fun ls hl => ?_)
  refine W_loopR (σ := Nat × Nat × Nat) (fun xx ls => match xx with | (m1, a, b) => lv_has ls 6 [(2, .int (nI k)), (3, .int (nI b)), (4, .int (nI a)), (5, .int (nI m1))] ∧ m1 ≤ n ∧ a ≤ 20 ∧ b < 2 ^ m1 ∧ gF k m1 a b = gF k n 0 h) (fun xx => match xx with | (m1, a, b) => m1) ?_ (n, 0, h) ⟨lv_sub hl [5, 2, 1, 0] rfl, Nat.le_refl _, (by omega), hh, rfl⟩
  rintro ⟨m1, a, b⟩ ls ⟨hl, hm, ha, hbm, hg⟩ ih_8
  have hpm : (2 : Nat) ^ m1 ≤ 2 ^ 20 := Nat.pow_le_pow_right (by decide) (by omega)
  refine lv_iload hx hb dX2_goesFirst_8 (lv_at hl 3 rfl) ?_
  refine lv_if_le (tgt := 52) hx hb dX2_goesFirst_10 (by decide) (fun c_10 => ?_) (fun c_10 => ?_)
  · have c_10 : m1 = 0 := by have h0 := (nI_leI (b := 0) (by omega) (by omega)).mp c_10; omega
    refine lv_iconst (v := 1) hx hb dX2_goesFirst_52 (by decide) ?_
    exact W.zret (v := 1) hx hb hr (rfl) (fun t ht hW => ⟨_, rfl, by first | (rw [← hg, c_10]; rfl) | (rw [← hg, c_14, gF_z]; rfl), ht⟩) (fun _ h => absurd h List.not_mem_nil) dX2_goesFirst_53
  · have c_10 : 0 < m1 := Nat.lt_of_not_le (fun h => c_10 ((nI_leI (b := 0) (by omega) (by omega)).mpr h))
    refine lv_iload_n hx hb dX2_goesFirst_13 rfl (lv_at hl 1 rfl) ?_
    refine lv_if_eq (tgt := 52) hx hb dX2_goesFirst_14 (by decide) (fun c_14 => ?_) (fun c_14 => ?_)
    · have c_14 : b = 0 := (nI_eq (b := 0) (by omega) (by omega)).mp c_14
      refine lv_iconst (v := 1) hx hb dX2_goesFirst_52 (by decide) ?_
      exact W.zret (v := 1) hx hb hr (rfl) (fun t ht hW => ⟨_, rfl, by first | (rw [← hg, c_10]; rfl) | (rw [← hg, c_14, gF_z]; rfl), ht⟩) (fun _ h => absurd h List.not_mem_nil) dX2_goesFirst_53
    · have c_14 : ¬ b = 0 := fun h => c_14 ((nI_eq (b := 0) (by omega) (by omega)).mpr h)
      obtain ⟨m0, rfl⟩ : ∃ m0, m1 = m0 + 1 := ⟨m1 - 1, by omega⟩
      have hr0 : (a + k - 1) % (m0 + 1) < m0 + 1 := Nat.mod_lt _ (by omega)
      refine lv_iload hx hb dX2_goesFirst_17 (lv_at hl 2 rfl) ?_
      refine lv_iload_n hx hb dX2_goesFirst_19 rfl (lv_at hl 0 rfl) ?_
      refine lv_iadd hx hb dX2_goesFirst_20 ?_
      refine lv_iconst (v := 1) hx hb dX2_goesFirst_21 (by decide) ?_
      refine lv_isub hx hb dX2_goesFirst_22 ?_
      refine z_i (y := nI (a + k - 1)) (by rw [nI_add]; exact pk_sub (b := 1) (by omega)) ?_
      refine lv_iload hx hb dX2_goesFirst_23 (lv_at hl 3 rfl) ?_
      refine lv_irem hx hb dX2_goesFirst_25 (nI_ne0 (by omega) (by omega)) ?_
      refine z_i (y := nI ((a + k - 1) % (m0 + 1))) (pk_rem (by omega) (by omega) (by omega)) ?_
      refine lv_istore (lv' := [(4, .int (nI ((a + k - 1) % (m0 + 1)))), (2, .int (nI k)), (3, .int (nI b)), (5, .int (nI (m0 + 1)))]) hx hb dX2_goesFirst_26 hl (by decide) rfl (fun ls hl => ?_)
      refine lv_iload_n hx hb dX2_goesFirst_28 rfl (lv_at hl 2 rfl) ?_
      refine lv_iload hx hb dX2_goesFirst_29 (lv_at hl 0 rfl) ?_
      refine lv_ishr hx hb dX2_goesFirst_31 ?_
      refine z_i (y := nI (b / 2 ^ ((a + k - 1) % (m0 + 1)))) (shr_nI (by omega) (by omega)) ?_
      refine lv_iconst (v := 1) hx hb dX2_goesFirst_32 (by decide) ?_
      refine lv_iand hx hb dX2_goesFirst_33 ?_
      refine z_i (y := nI (b / 2 ^ ((a + k - 1) % (m0 + 1)) % 2)) (bit_nI _ _) ?_
      refine lv_if_ne (tgt := 39) hx hb dX2_goesFirst_34 (by decide) (fun c_34 => ?_) (fun c_34 => ?_)
      · have c_34 : b.testBit ((a + k - 1) % (m0 + 1)) = true := by cases hq : b.testBit ((a + k - 1) % (m0 + 1)) with | true => rfl | false => exact absurd (bit_0.mpr hq) c_34
        refine lv_iload_n hx hb dX2_goesFirst_39 rfl (lv_at hl 2 rfl) ?_
        refine lv_iload hx hb dX2_goesFirst_40 (lv_at hl 0 rfl) ?_
        refine vp_callSi (va_Run.run (va_runS (As := [.int (nI b), .int (nI ((a + k - 1) % (m0 + 1)))]) (rest := []) ⟨hx, hb, hml, hown, hts⟩ (c_X2_withoutBit l dC dI b ((a + k - 1) % (m0 + 1)) (by omega) (by omega)) (va_cwS 2 hts gX2_goesFirst_X2_withoutBit rfl rfl rfl (by decide +kernel) ⟨Nat.le_of_ble_eq_true rfl, Nat.le_of_ble_eq_true rfl⟩) ⟨fun a U g mk q => ⟨q.1, trivial⟩, fun U hU hW => ⟨rfl, trivial⟩⟩ rfl rfl hl.1 rfl (lv_room (Nat.le_of_ble_eq_true rfl)) dX2_goesFirst_42 ⟨Nat.zero_le _, Nat.zero_le _⟩)) (fun r_42 hr_42 => ?_)
        subst hr_42
        refine lv_istore_n (lv' := [(3, .int (nI (wob b ((a + k - 1) % (m0 + 1))))), (4, .int (nI ((a + k - 1) % (m0 + 1)))), (2, .int (nI k)), (5, .int (nI (m0 + 1)))]) hx hb dX2_goesFirst_45 rfl hl (by decide) rfl (fun ls hl => ?_)
        refine lv_iinc (v := nI m0) (lv' := [(5, .int (nI m0)), (3, .int (nI (wob b ((a + k - 1) % (m0 + 1))))), (4, .int (nI ((a + k - 1) % (m0 + 1)))), (2, .int (nI k))]) hx hb dX2_goesFirst_46 hl (k := 3) rfl (pk_m1 m0) (by decide) rfl (fun ls hl => ?_)
        refine lv_goto (tgt := 8) hx hb dX2_goesFirst_49 (by decide) ?_
        exact ih_8 (m0, (a + k - 1) % (m0 + 1), wob b ((a + k - 1) % (m0 + 1))) _ (by show m0 < m0 + 1; omega) ⟨lv_sub hl [3, 1, 2, 0] rfl, (by omega), (by omega), wob_lt hbm hr0, (by rw [← hg, gF_s c_14 c_34])⟩
      · have c_34 := bit_0.mp c_34
        refine lv_iconst (v := 0) hx hb dX2_goesFirst_37 (by decide) ?_
        exact W.zret (v := 0) hx hb hr (rfl) (fun t ht hW => ⟨_, rfl, by rw [← hg, gF_n c_14 c_34]; rfl, ht⟩) (fun _ h => absurd h List.not_mem_nil) dX2_goesFirst_38

set_option maxHeartbeats 4000000 in
set_option maxRecDepth 100000 in
theorem c_X2_first (l : Launch) (dC : Nat → ClassId) (dI : Nat → Nat → Nat) (h0 : Nat) (n h k : Int32) : Met l yX2_first wsX2_first ({ frames := 2, cells := 0, slots := 0, locals := 47 }) (va_Pc [.ref h0, .int n, .int h, .int k] (fun _ => True)) (vp_Si (fun r => r = spFirst n h k)) 0 0 (fun _ => False) := by
  refine Met.ofW (cc := cX2_first) (maxL := 4) (ret := (some .int)) (by decide) rfl ?_
  intro p e s m args below meth c s₁ B hml hv
  obtain ⟨rfl, -⟩ := hv
  have hx := B.exec
  have hb := B.bytes
  have hr := B.returns
  have hts := atoms_spec (ws := wsX2_first) B.pre
  have hown : s.vm.findClass RX2 = some m.cls := findClass_of_methodNamed B.named
  have hlocks := B.notSynchronized
  have hl := lv_entry ([.ref h0, .int n, .int h, .int k]) (n := 4) (Nat.le_of_ble_eq_true rfl)
  rw [lg_entry_eq]
  generalize (lg_sl ([.ref h0, .int n, .int h, .int k]) ++ List.replicate (4 - (lg_sl ([.ref h0, .int n, .int h, .int k])).length) Slot.unset).toArray = ls at hl ⊢
  have hl : lv_has ls 4 [(0, .ref h0), (1, .int n), (2, .int h), (3, .int k)] := hl
  refine lv_iload_n hx hb dX2_first_0 rfl (lv_at hl 1 rfl) ?_
  refine lv_iload_n hx hb dX2_first_1 rfl (lv_at hl 2 rfl) ?_
  refine vp_callSi (va_Run.run (va_runS (As := [.int n, .int h]) (rest := []) ⟨hx, hb, hml, hown, hts⟩ (c_X2_isHeap l dC dI n h) (va_cwS 2 hts gX2_first_X2_isHeap rfl rfl rfl (by decide +kernel) ⟨Nat.le_of_ble_eq_true rfl, Nat.le_of_ble_eq_true rfl⟩) ⟨fun a U g mk q => ⟨q.1, trivial⟩, fun U hU hW => ⟨rfl, trivial⟩⟩ rfl rfl hl.1 rfl (lv_room (Nat.le_of_ble_eq_true rfl)) dX2_first_2 ⟨Nat.zero_le _, Nat.zero_le _⟩)) (fun r_2 hr_2 => ?_)
  subst hr_2
  refine lv_if_eq (tgt := 20) hx hb dX2_first_5 (by decide) (fun c_5 => ?_) (fun c_5 => ?_)
  · have c_5 := zb_0.mp c_5
    refine lv_iconst (v := (-1)) hx hb dX2_first_20 (by decide) ?_
    exact W.iret (v := (-1)) hx hb hr (fun t ht hW => ⟨_, rfl, by unfold spFirst; first | (rw [c_5, Bool.false_and, if_neg (by decide)]) | (rw [c_5, c_17, Bool.true_and, if_neg (by decide)]), ht⟩) (fun _ h => absurd h List.not_mem_nil) dX2_first_21
  · have c_5 := zb_n.mp c_5
    refine lv_iload_n hx hb dX2_first_8 rfl (lv_at hl 3 rfl) ?_
    refine lv_i2l (v := k.toInt64) hx hb dX2_first_9 rfl ?_
    refine lv_lconst (v := 1) hx hb dX2_first_10 (by decide) ?_
    refine lv_ldc2 (v := 10000) hx hb hown (hts (.constantLong RX2 48 (10000)) (by decide +kernel)) dX2_first_11 ?_
    refine vp_callSi (va_Run.run (va_runS (As := [.long k.toInt64, .long 1, .long 10000]) (rest := []) ⟨hx, hb, hml, hown, hts⟩ (c_X2_isWithin l dC dI k.toInt64 1 10000) (va_cwS 3 hts gX2_first_X2_isWithin rfl rfl rfl (by decide +kernel) ⟨Nat.le_of_ble_eq_true rfl, Nat.le_of_ble_eq_true rfl⟩) ⟨fun a U g mk q => ⟨q.1, trivial⟩, fun U hU hW => ⟨rfl, trivial⟩⟩ rfl rfl hl.1 rfl (lv_room (Nat.le_of_ble_eq_true rfl)) dX2_first_14 ⟨Nat.zero_le _, Nat.zero_le _⟩)) (fun r_14 hr_14 => ?_)
    obtain rfl : r_14 = zb (wi k.toInt 1 10000) := hr_14.trans (by rw [i2l_toInt]; rfl)
    refine lv_if_ne (tgt := 22) hx hb dX2_first_17 (by decide) (fun c_17 => ?_) (fun c_17 => ?_)
    · have c_17 := zb_n.mp c_17
      obtain ⟨n1, h1, rfl, rfl, hn1, hn2, hh1, hh2⟩ := isHp_t c_5
      have hp2 : (2 : Nat) ^ n1 ≤ 2 ^ 20 := Nat.pow_le_pow_right (by decide) hn2
      obtain ⟨k1, hk1, hk2, rfl⟩ := nI_wi (a := 1) (b := 10000) c_17
      refine lv_iload_n hx hb dX2_first_22 rfl (lv_at hl 1 rfl) ?_
      refine lv_iload_n hx hb dX2_first_23 rfl (lv_at hl 2 rfl) ?_
      refine lv_iload_n hx hb dX2_first_24 rfl (lv_at hl 3 rfl) ?_
      refine vp_callSi (va_Run.run (va_runS (As := [.int (nI n1), .int (nI h1), .int (nI k1)]) (rest := []) ⟨hx, hb, hml, hown, hts⟩ (c_X2_goesFirst l dC dI n1 h1 k1 hn2 (by omega) hk1 hk2) (va_cwS 3 hts gX2_first_X2_goesFirst rfl rfl rfl (by decide +kernel) ⟨Nat.le_of_ble_eq_true rfl, Nat.le_of_ble_eq_true rfl⟩) ⟨fun a U g mk q => ⟨q.1, trivial⟩, fun U hU hW => ⟨rfl, trivial⟩⟩ rfl rfl hl.1 rfl (lv_room (Nat.le_of_ble_eq_true rfl)) dX2_first_25 ⟨Nat.zero_le _, Nat.zero_le _⟩)) (fun r_25 hr_25 => ?_)
      subst hr_25
      refine lv_if_eq (tgt := 35) hx hb dX2_first_28 (by decide) (fun c_28 => ?_) (fun c_28 => ?_)
      · have c_28 := zb_0.mp c_28
        refine lv_iconst (v := 0) hx hb dX2_first_35 (by decide) ?_
        exact W.iret (v := 0) hx hb hr (fun t ht hW => ⟨_, rfl, by unfold spFirst; rw [c_5, c_17, Bool.true_and, if_pos rfl, nI_toInt (by omega), nI_toInt (by omega), nI_toInt (by omega), Int.toNat_natCast, Int.toNat_natCast, Int.toNat_natCast, c_28]; rfl, ht⟩) (fun _ h => absurd h List.not_mem_nil) dX2_first_36
      · have c_28 := zb_n.mp c_28
        refine lv_iconst (v := 1) hx hb dX2_first_31 (by decide) ?_
        refine lv_goto (tgt := 36) hx hb dX2_first_32 (by decide) ?_
        exact W.iret (v := 1) hx hb hr (fun t ht hW => ⟨_, rfl, by unfold spFirst; rw [c_5, c_17, Bool.true_and, if_pos rfl, nI_toInt (by omega), nI_toInt (by omega), nI_toInt (by omega), Int.toNat_natCast, Int.toNat_natCast, Int.toNat_natCast, c_28]; rfl, ht⟩) (fun _ h => absurd h List.not_mem_nil) dX2_first_36
    · have c_17 := zb_0.mp c_17
      refine lv_iconst (v := (-1)) hx hb dX2_first_20 (by decide) ?_
      exact W.iret (v := (-1)) hx hb hr (fun t ht hW => ⟨_, rfl, by unfold spFirst; first | (rw [c_5, Bool.false_and, if_neg (by decide)]) | (rw [c_5, c_17, Bool.true_and, if_neg (by decide)]), ht⟩) (fun _ h => absurd h List.not_mem_nil) dX2_first_21

set_option maxHeartbeats 4000000 in
set_option maxRecDepth 100000 in
theorem c_X2_least (l : Launch) (dC : Nat → ClassId) (dI : Nat → Nat → Nat) (h0 : Nat) (n h : Int32) : Met l yX2_least wsX2_least ({ frames := 2, cells := 0, slots := 0, locals := 47 }) (va_Pc [.ref h0, .int n, .int h] (fun _ => True)) (vp_Si (fun r => r = spLeast n h)) 0 0 (fun _ => False) := by
  refine Met.ofW (cc := cX2_least) (maxL := 4) (ret := (some .int)) (by decide) rfl ?_
  intro p e s m args below meth c s₁ B hml hv
  obtain ⟨rfl, -⟩ := hv
  have hx := B.exec
  have hb := B.bytes
  have hr := B.returns
  have hts := atoms_spec (ws := wsX2_least) B.pre
  have hown : s.vm.findClass RX2 = some m.cls := findClass_of_methodNamed B.named
  have hlocks := B.notSynchronized
  have hl := lv_entry ([.ref h0, .int n, .int h]) (n := 4) (Nat.le_of_ble_eq_true rfl)
  rw [lg_entry_eq]
  generalize (lg_sl ([.ref h0, .int n, .int h]) ++ List.replicate (4 - (lg_sl ([.ref h0, .int n, .int h])).length) Slot.unset).toArray = ls at hl ⊢
  have hl : lv_has ls 4 [(0, .ref h0), (1, .int n), (2, .int h)] := hl
  refine lv_iload_n hx hb dX2_least_0 rfl (lv_at hl 1 rfl) ?_
  refine lv_iload_n hx hb dX2_least_1 rfl (lv_at hl 2 rfl) ?_
  refine vp_callSi (va_Run.run (va_runS (As := [.int n, .int h]) (rest := []) ⟨hx, hb, hml, hown, hts⟩ (c_X2_isHeap l dC dI n h) (va_cwS 2 hts gX2_least_X2_isHeap rfl rfl rfl (by decide +kernel) ⟨Nat.le_of_ble_eq_true rfl, Nat.le_of_ble_eq_true rfl⟩) ⟨fun a U g mk q => ⟨q.1, trivial⟩, fun U hU hW => ⟨rfl, trivial⟩⟩ rfl rfl hl.1 rfl (lv_room (Nat.le_of_ble_eq_true rfl)) dX2_least_2 ⟨Nat.zero_le _, Nat.zero_le _⟩)) (fun r_2 hr_2 => ?_)
  subst hr_2
  refine lv_if_ne (tgt := 10) hx hb dX2_least_5 (by decide) (fun c_5 => ?_) (fun c_5 => ?_)
  · have c_5 := zb_n.mp c_5
    obtain ⟨n1, h1, rfl, rfl, hn1, hn2, hh1, hh2⟩ := isHp_t c_5
    have hp2 : (2 : Nat) ^ n1 ≤ 2 ^ 20 := Nat.pow_le_pow_right (by decide) hn2
    refine lv_iconst (v := 1) hx hb dX2_least_10 (by decide) ?_
    refine lv_istore_n (lv' := [(3, .int 1), (0, .ref h0), (1, .int (nI n1)), (2, .int (nI h1))]) hx hb dX2_least_11 rfl hl (by decide) rfl (fun ls hl => ?_)
    refine W_loopR (σ := Nat) (fun c0 ls => lv_has ls 4 [(0, .ref h0), (1, .int (nI n1)), (2, .int (nI h1)), (3, .int (nI c0))] ∧ 1 ≤ c0 ∧ c0 ≤ 10001 ∧ lstN n1 h1 (10001 - c0) c0 = lstN n1 h1 10000 1) (fun c0 => 10001 - c0) ?_ 1 ⟨lv_sub hl [1, 2, 3, 0] rfl, (by omega), (by omega), rfl⟩
    rintro c0 ls ⟨hl, hc1, hc2, hg⟩ ih_12
    refine lv_iload_n hx hb dX2_least_12 rfl (lv_at hl 3 rfl) ?_
    refine lv_sipush (v := 10000) hx hb dX2_least_13 (by decide) ?_
    refine lv_icmp_gt (tgt := 36) hx hb dX2_least_16 (by decide) (fun c_16 => ?_) (fun c_16 => ?_)
    · have c_16 : 10000 < c0 := (nI_ltI (a := 10000) (by omega) (by omega)).mp c_16
      refine lv_bipush (v := (-9)) hx hb dX2_least_36 (by decide) ?_
      exact W.iret (v := (-9)) hx hb hr (fun t ht hW => ⟨_, rfl, by unfold spLeast; rw [c_5, if_pos rfl, nI_toInt (by omega), nI_toInt (by omega), Int.toNat_natCast, Int.toNat_natCast, ← hg]; rw [show 10001 - c0 = 0 by omega]; rfl, ht⟩) (fun _ h => absurd h List.not_mem_nil) dX2_least_38
    · have c_16 : c0 ≤ 10000 := Nat.le_of_not_lt (fun h => c_16 ((nI_ltI (a := 10000) (by omega) (by omega)).mpr h))
      obtain ⟨f, hf⟩ : ∃ f, 10001 - c0 = f + 1 := ⟨10000 - c0, by omega⟩
      refine lv_iload_n hx hb dX2_least_19 rfl (lv_at hl 1 rfl) ?_
      refine lv_iload_n hx hb dX2_least_20 rfl (lv_at hl 2 rfl) ?_
      refine lv_iload_n hx hb dX2_least_21 rfl (lv_at hl 3 rfl) ?_
      refine vp_callSi (va_Run.run (va_runS (As := [.int (nI n1), .int (nI h1), .int (nI c0)]) (rest := []) ⟨hx, hb, hml, hown, hts⟩ (c_X2_goesFirst l dC dI n1 h1 c0 hn2 (by omega) hc1 (by omega)) (va_cwS 3 hts gX2_least_X2_goesFirst rfl rfl rfl (by decide +kernel) ⟨Nat.le_of_ble_eq_true rfl, Nat.le_of_ble_eq_true rfl⟩) ⟨fun a U g mk q => ⟨q.1, trivial⟩, fun U hU hW => ⟨rfl, trivial⟩⟩ rfl rfl hl.1 rfl (lv_room (Nat.le_of_ble_eq_true rfl)) dX2_least_22 ⟨Nat.zero_le _, Nat.zero_le _⟩)) (fun r_22 hr_22 => ?_)
      subst hr_22
      refine lv_if_eq (tgt := 30) hx hb dX2_least_25 (by decide) (fun c_25 => ?_) (fun c_25 => ?_)
      · have c_25 := zb_0.mp c_25
        refine lv_iinc (v := nI (c0 + 1)) (lv' := [(3, .int (nI (c0 + 1))), (0, .ref h0), (1, .int (nI n1)), (2, .int (nI h1))]) hx hb dX2_least_30 hl (k := 3) rfl (nI_1 c0) (by decide) rfl (fun ls hl => ?_)
        refine lv_goto (tgt := 12) hx hb dX2_least_33 (by decide) ?_
        exact ih_12 (c0 + 1) _ (by omega) ⟨lv_sub hl [1, 2, 3, 0] rfl, (by omega), (by omega), (by rw [← hg, hf, show 10001 - (c0 + 1) = f by omega]; simp [lstN, c_25])⟩
      · have c_25 := zb_n.mp c_25
        refine lv_iload_n hx hb dX2_least_28 rfl (lv_at hl 3 rfl) ?_
        exact W.iret (v := nI c0) hx hb hr (fun t ht hW => ⟨_, rfl, by unfold spLeast; rw [c_5, if_pos rfl, nI_toInt (by omega), nI_toInt (by omega), Int.toNat_natCast, Int.toNat_natCast, ← hg]; rw [hf]; simp [lstN, c_25], ht⟩) (fun _ h => absurd h List.not_mem_nil) dX2_least_29
  · have c_5 := zb_0.mp c_5
    refine lv_iconst (v := (-1)) hx hb dX2_least_8 (by decide) ?_
    exact W.iret (v := (-1)) hx hb hr (fun t ht hW => ⟨_, rfl, by unfold spLeast; rw [c_5, if_neg (by decide)], ht⟩) (fun _ h => absurd h List.not_mem_nil) dX2_least_9

set_option maxHeartbeats 4000000 in
set_option maxRecDepth 100000 in
theorem c_X3_isFirst (l : Launch) (dC : Nat → ClassId) (dI : Nat → Nat → Nat) (sz : Nat) (cA : ClassId) (h0 a3 a4 a5 a9 a11 a12 a14 a15 a16 : Nat) (tr : Int64) (pe st kd wd tn sd : Int32) (n h k : Nat) (hn1 : 1 ≤ n) (hn : n ≤ 20) (hh : h < 2 ^ n) (hk1 : 1 ≤ k) (hk : k ≤ 10000) (Rg : Nat → Int32) : Met l yX3_isFirst wsX3_isFirst ({ frames := 0, cells := 0, slots := 0, locals := 0 }) (va_Pc [.ref h0, .int (nI n), .int (nI h), .int (nI k)] (fun U => U.heap.size = sz ∧ va_P (dC, dI) vwCl [(h0, .inr (3, [.int 0, .long tr, .int pe, .ref a3, .ref a4, .ref a5, .int st, .int kd, .int wd, .ref a9, .int tn, .ref a11, .ref a12, .int sd, .ref a14, .ref a15, .ref a16])), (a14, .inl (cA, 20, .inl Rg))] U.heap ∧ va_K (dC, dI) vwCl [(cA, .int)] U ∧ va_D (fun _ => True) [(h0, .inr (3, [.int 0, .long tr, .int pe, .ref a3, .ref a4, .ref a5, .int st, .int kd, .int wd, .ref a9, .int tn, .ref a11, .ref a12, .int sd, .ref a14, .ref a15, .ref a16])), (a14, .inl (cA, 20, .inl Rg))])) (va_Qi (S := Nat → Int32) (fun r _ => r = zb (gF k n 0 h)) (fun (u : Nat → Int32) (t : State) => va_P (dC, dI) vwCl [(h0, .inr (3, [.int 0, .long tr, .int pe, .ref a3, .ref a4, .ref a5, .int st, .int kd, .int wd, .ref a9, .int tn, .ref a11, .ref a12, .int sd, .ref a14, .ref a15, .ref a16])), (a14, .inl (cA, 20, .inl u))] t.heap ∧ va_K (dC, dI) vwCl [(cA, .int)] t ∧ va_D (va_A [(h0, .inr (3, [.int 0, .long tr, .int pe, .ref a3, .ref a4, .ref a5, .int st, .int kd, .int wd, .ref a9, .int tn, .ref a11, .ref a12, .int sd, .ref a14, .ref a15, .ref a16])), (a14, .inl (cA, 20, .inl Rg))] sz) [(h0, .inr (3, [.int 0, .long tr, .int pe, .ref a3, .ref a4, .ref a5, .int st, .int kd, .int wd, .ref a9, .int tn, .ref a11, .ref a12, .int sd, .ref a14, .ref a15, .ref a16])), (a14, .inl (cA, 20, .inl u))]) (va_A [(h0, .inr (3, [.int 0, .long tr, .int pe, .ref a3, .ref a4, .ref a5, .int st, .int kd, .int wd, .ref a9, .int tn, .ref a11, .ref a12, .int sd, .ref a14, .ref a15, .ref a16])), (a14, .inl (cA, 20, .inl Rg))] sz)) 0 0 (va_A [(h0, .inr (3, [.int 0, .long tr, .int pe, .ref a3, .ref a4, .ref a5, .int st, .int kd, .int wd, .ref a9, .int tn, .ref a11, .ref a12, .int sd, .ref a14, .ref a15, .ref a16])), (a14, .inl (cA, 20, .inl Rg))] sz) := by
  refine Met.ofW (cc := cX3_isFirst) (maxL := 9) (ret := (some .boolean)) (by decide) rfl ?_
  intro p e s m args below meth c s₁ B hml hv
  obtain ⟨rfl, hsz, hP, hK, hD0⟩ := hv
  have hx := B.exec
  have hb := B.bytes
  have hr := B.returns
  have hts := atoms_spec (ws := wsX3_isFirst) B.pre
  have hown : s.vm.findClass RX3 = some m.cls := findClass_of_methodNamed B.named
  have hlocks := B.notSynchronized
  subst hsz
  have hD := hD0.self (sz := s.heap.size)
  generalize hAe : va_A [(h0, .inr (3, [.int 0, .long tr, .int pe, .ref a3, .ref a4, .ref a5, .int st, .int kd, .int wd, .ref a9, .int tn, .ref a11, .ref a12, .int sd, .ref a14, .ref a15, .ref a16])), (a14, .inl (cA, 20, .inl Rg))] s.heap.size = A at hD ⊢
  have hA : ∀ q : Nat, s.heap.size ≤ q → A q := fun q h => by rw [← hAe]; exact Or.inr h
  have hS : va_S A s.heap s.heap [] := va_S.rf
  have hP : va_P (dC, dI) vwCl [(h0, .inr (3, [.int 0, .long tr, .int pe, .ref a3, .ref a4, .ref a5, .int st, .int kd, .int wd, .ref a9, .int tn, .ref a11, .ref a12, .int sd, .ref a14, .ref a15, .ref a16])), (a14, .inl (cA, 20, .inl Rg))] s.heap := hP
  have hl := lv_entry ([.ref h0, .int (nI n), .int (nI h), .int (nI k)]) (n := 9) (Nat.le_of_ble_eq_true rfl)
  rw [lg_entry_eq]
  generalize (lg_sl ([.ref h0, .int (nI n), .int (nI h), .int (nI k)]) ++ List.replicate (9 - (lg_sl ([.ref h0, .int (nI n), .int (nI h), .int (nI k)])).length) Slot.unset).toArray = ls at hl ⊢
  have hl : lv_has ls 9 [(0, .ref h0), (1, .int (nI n)), (2, .int (nI h)), (3, .int (nI k))] := hl
  have hp20 : (2 : Nat) ^ n ≤ 2 ^ 20 := Nat.pow_le_pow_right (by decide) hn
  have hbl := bc_le h.testBit n
  refine lv_iconst (v := 0) hx hb dX3_isFirst_0 (by decide) ?_
  refine lv_istore (lv' := [(4, .int 0), (0, .ref h0), (1, .int (nI n)), (2, .int (nI h)), (3, .int (nI k))]) hx hb dX3_isFirst_1 hl (by decide) rfl (fun ls hl => ?_)
  refine lv_iconst (v := 0) hx hb dX3_isFirst_3 (by decide) ?_
  refine lv_istore (lv' := [(5, .int 0), (4, .int 0), (0, .ref h0), (1, .int (nI n)), (2, .int (nI h)), (3, .int (nI k))]) hx hb dX3_isFirst_4 hl (by decide) rfl (fun ls hl => ?_)
  refine W_loop (σ := Nat × (Nat → Int32)) (fun xx ls H locs => match xx with | (p0, Rg) => lv_has ls 9 [(0, .ref h0), (1, .int (nI n)), (2, .int (nI h)), (3, .int (nI k)), (4, .int (nI (bc h.testBit p0))), (5, .int (nI p0))] ∧ va_P (dC, dI) vwCl [(h0, .inr (3, [.int 0, .long tr, .int pe, .ref a3, .ref a4, .ref a5, .int st, .int kd, .int wd, .ref a9, .int tn, .ref a11, .ref a12, .int sd, .ref a14, .ref a15, .ref a16])), (a14, .inl (cA, 20, .inl Rg))] H ∧ va_D A [(h0, .inr (3, [.int 0, .long tr, .int pe, .ref a3, .ref a4, .ref a5, .int st, .int kd, .int wd, .ref a9, .int tn, .ref a11, .ref a12, .int sd, .ref a14, .ref a15, .ref a16])), (a14, .inl (cA, 20, .inl Rg))] ∧ va_S A s.heap H locs ∧ p0 ≤ n ∧ (∀ q, q < p0 → Rg q = nI q)) (fun xx => match xx with | (p0, Rg) => n - p0) ?_ (0, Rg) ⟨lv_sub hl [2, 3, 4, 5, 1, 0] rfl, hP, hD, hS, (by omega), (fun q hq => absurd hq (Nat.not_lt_zero _))⟩
  rintro ⟨p0, Rg⟩ ls H locs ⟨hl, hP, hD, hS, hp, hR⟩ ih_6
  have hb0 := bc_le h.testBit p0
  refine lv_iload hx hb dX3_isFirst_6 (lv_at hl 5 rfl) ?_
  refine lv_iload_n hx hb dX3_isFirst_8 rfl (lv_at hl 1 rfl) ?_
  refine lv_icmp_ge (tgt := 38) hx hb dX3_isFirst_9 (by decide) (fun c_9 => ?_) (fun c_9 => ?_)
  · have c_9 : n ≤ p0 := (nI_leI (by omega) (by omega)).mp c_9
    have hpn : p0 = n := by omega
    rw [hpn] at hl hR
    refine lv_iconst (v := 0) hx hb dX3_isFirst_38 (by decide) ?_
    refine lv_istore (lv' := [(5, .int 0), (0, .ref h0), (1, .int (nI n)), (2, .int (nI h)), (3, .int (nI k)), (4, .int (nI (bc h.testBit n)))]) hx hb dX3_isFirst_39 hl (by decide) rfl (fun ls hl => ?_)
    refine lv_iconst (v := 0) hx hb dX3_isFirst_41 (by decide) ?_
    refine lv_istore (lv' := [(6, .int 0), (5, .int 0), (0, .ref h0), (1, .int (nI n)), (2, .int (nI h)), (3, .int (nI k)), (4, .int (nI (bc h.testBit n)))]) hx hb dX3_isFirst_42 hl (by decide) rfl (fun ls hl => ?_)
    refine W_loop (σ := Nat × Nat × Nat × (Nat → Nat) × (Nat → Int32)) (fun xx ls H locs => match xx with | (i, a, b, rg, Rg) => lv_has ls 9 [(0, .ref h0), (1, .int (nI n)), (2, .int (nI h)), (3, .int (nI k)), (4, .int (nI (bc h.testBit n))), (5, .int (nI a)), (6, .int (nI i))] ∧ va_P (dC, dI) vwCl [(h0, .inr (3, [.int 0, .long tr, .int pe, .ref a3, .ref a4, .ref a5, .int st, .int kd, .int wd, .ref a9, .int tn, .ref a11, .ref a12, .int sd, .ref a14, .ref a15, .ref a16])), (a14, .inl (cA, 20, .inl Rg))] H ∧ va_D A [(h0, .inr (3, [.int 0, .long tr, .int pe, .ref a3, .ref a4, .ref a5, .int st, .int kd, .int wd, .ref a9, .int tn, .ref a11, .ref a12, .int sd, .ref a14, .ref a15, .ref a16])), (a14, .inl (cA, 20, .inl Rg))] ∧ va_S A s.heap H locs ∧ i ≤ bc h.testBit n ∧ a ≤ 20 ∧ b < 2 ^ (n - i) ∧ bc b.testBit (n - i) + i = bc h.testBit n ∧ (∀ q, q < n - i → Rg q = nI (rg q) ∧ rg q < n ∧ h.testBit (rg q) = b.testBit q) ∧ gF k (n - i) a b = gF k n 0 h) (fun xx => match xx with | (i, a, b, rg, Rg) => n - i) ?_ (0, 0, h, fun q => q, Rg) ⟨lv_sub hl [2, 3, 4, 5, 6, 1, 0] rfl, hP, hD, hS, (by omega), (by omega), hh, rfl, (fun q hq => ⟨hR q hq, hq, rfl⟩), rfl⟩
    rintro ⟨i, a, b, rg, Rg⟩ ls H locs ⟨hl, hP, hD, hS, hi, ha, hbm, hbc, hR, hg⟩ ih_44
    refine lv_iload hx hb dX3_isFirst_44 (lv_at hl 6 rfl) ?_
    refine lv_iload hx hb dX3_isFirst_46 (lv_at hl 4 rfl) ?_
    refine lv_icmp_ge (tgt := 125) hx hb dX3_isFirst_48 (by decide) (fun c_48 => ?_) (fun c_48 => ?_)
    · have c_48 : bc h.testBit n ≤ i := (nI_leI (by omega) (by omega)).mp c_48
      refine lv_iconst (v := 1) hx hb dX3_isFirst_125 (by decide) ?_
      have hP9 := hP.sub (ws' := [(h0, .inr (3, [.int 0, .long tr, .int pe, .ref a3, .ref a4, .ref a5, .int st, .int kd, .int wd, .ref a9, .int tn, .ref a11, .ref a12, .int sd, .ref a14, .ref a15, .ref a16])), (a14, .inl (cA, 20, .inl Rg))]) [0, 1] rfl
      have hD9 := hD.sub (ws' := [(h0, .inr (3, [.int 0, .long tr, .int pe, .ref a3, .ref a4, .ref a5, .int st, .int kd, .int wd, .ref a9, .int tn, .ref a11, .ref a12, .int sd, .ref a14, .ref a15, .ref a16])), (a14, .inl (cA, 20, .inl Rg))]) [0, 1] (by decide) rfl
      exact W.zret (v := 1) hx hb hr (rfl) (fun t ht hW => ⟨⟨_, _, rfl, by rw [← hg, tb_zero hbm (by omega), gF_z]; rfl, ⟨by rw [ht]; exact hP9, va_K.moved hW.alike hK, hD9⟩⟩, hS.F ht⟩) hS.2.2 dX3_isFirst_126
    · have c_48 : i < bc h.testBit n := Nat.lt_of_not_le (fun h => c_48 ((nI_leI (by omega) (by omega)).mpr h))
      obtain ⟨m0, hm0⟩ : ∃ m0, n - i = m0 + 1 := ⟨n - i - 1, by omega⟩
      have hm1 : n - (i + 1) = m0 := by omega
      have hb0 : ¬ b = 0 := fun h => by rw [h, bc_zero] at hbc; omega
      rw [hm0] at hbm hbc hR
      have hr0 : ((a + k - 1) % (m0 + 1)) < m0 + 1 := Nat.mod_lt _ (by omega)
      have hp22 : (2 : Nat) ^ (m0 + 1) ≤ 2 ^ 20 := Nat.pow_le_pow_right (by decide) (by omega)
      have hRa := hR _ hr0
      refine lv_iload_n hx hb dX3_isFirst_51 rfl (lv_at hl 1 rfl) ?_
      refine lv_iload hx hb dX3_isFirst_52 (lv_at hl 6 rfl) ?_
      refine lv_isub hx hb dX3_isFirst_54 ?_
      refine z_i (y := nI (m0 + 1)) (by rw [pk_sub (by omega), hm0]) ?_
      refine lv_istore (lv' := [(7, .int (nI (m0 + 1))), (0, .ref h0), (1, .int (nI n)), (2, .int (nI h)), (3, .int (nI k)), (4, .int (nI (bc h.testBit n))), (5, .int (nI a)), (6, .int (nI i))]) hx hb dX3_isFirst_55 hl (by decide) rfl (fun ls hl => ?_)
      refine lv_iload hx hb dX3_isFirst_57 (lv_at hl 6 rfl) ?_
      refine lv_iload_n hx hb dX3_isFirst_59 rfl (lv_at hl 4 rfl) ?_
      refine lv_iadd hx hb dX3_isFirst_60 ?_
      refine lv_iconst (v := 1) hx hb dX3_isFirst_61 (by decide) ?_
      refine lv_isub hx hb dX3_isFirst_62 ?_
      refine z_i (y := nI (a + k - 1)) (by rw [nI_add]; exact pk_sub (b := 1) (by omega)) ?_
      refine lv_iload hx hb dX3_isFirst_63 (lv_at hl 0 rfl) ?_
      refine lv_irem hx hb dX3_isFirst_65 (nI_ne0 (by omega) (by omega)) ?_
      refine z_i (y := nI ((a + k - 1) % (m0 + 1))) (pk_rem (by omega) (by omega) (by omega)) ?_
      refine lv_istore (lv' := [(5, .int (nI ((a + k - 1) % (m0 + 1)))), (7, .int (nI (m0 + 1))), (0, .ref h0), (1, .int (nI n)), (2, .int (nI h)), (3, .int (nI k)), (4, .int (nI (bc h.testBit n))), (6, .int (nI i))]) hx hb dX3_isFirst_66 hl (by decide) rfl (fun ls hl => ?_)
      refine lv_iload_n hx hb dX3_isFirst_68 rfl (lv_at hl 4 rfl) ?_
      refine lv_aload_n hx hb dX3_isFirst_69 rfl (lv_at hl 2 rfl) ?_
      refine va_get (D := (dC, dI)) (ci := 3) (v := .ref a14) (C := RX3) (T := TX3) (N := 17) hx hb hts (by decide +kernel) hown hK hP 0 rfl rfl 14 (by decide) (hts (.fieldLink RX3 38 "CountedOutModel" "ring" "[I") (by decide +kernel)) (fun _ h9 => h9) rfl dX3_isFirst_70 ?_
      refine lv_iload hx hb dX3_isFirst_73 (lv_at hl 0 rfl) ?_
      refine z_iald hx hb hK hP 1 0 rfl rfl (i := ((a + k - 1) % (m0 + 1))) (by omega) (by decide) dX3_isFirst_75 ?_
      refine z_i (y := nI (rg ((a + k - 1) % (m0 + 1)))) (hRa.1) ?_
      refine lv_ishr hx hb dX3_isFirst_76 ?_
      refine z_i (y := nI (h / 2 ^ (rg ((a + k - 1) % (m0 + 1))))) (shr_nI (by omega) (by omega)) ?_
      refine lv_iconst (v := 1) hx hb dX3_isFirst_77 (by decide) ?_
      refine lv_iand hx hb dX3_isFirst_78 ?_
      refine z_i (y := nI (h / 2 ^ (rg ((a + k - 1) % (m0 + 1))) % 2)) (bit_nI _ _) ?_
      refine lv_if_ne (tgt := 84) hx hb dX3_isFirst_79 (by decide) (fun c_79 => ?_) (fun c_79 => ?_)
      · have c_79 : b.testBit ((a + k - 1) % (m0 + 1)) = true := by cases hq : h.testBit (rg ((a + k - 1) % (m0 + 1))) with | true => exact hRa.2.2 ▸ hq | false => exact absurd (bit_0.mpr hq) c_79
        refine lv_iload hx hb dX3_isFirst_84 (lv_at hl 0 rfl) ?_
        refine lv_istore (lv' := [(8, .int (nI ((a + k - 1) % (m0 + 1)))), (5, .int (nI ((a + k - 1) % (m0 + 1)))), (7, .int (nI (m0 + 1))), (0, .ref h0), (1, .int (nI n)), (2, .int (nI h)), (3, .int (nI k)), (4, .int (nI (bc h.testBit n))), (6, .int (nI i))]) hx hb dX3_isFirst_86 hl (by decide) rfl (fun ls hl => ?_)
        refine W_loop (σ := Nat × (Nat → Int32)) (fun xx ls H locs => match xx with | (p2, Rg2) => lv_has ls 9 [(0, .ref h0), (1, .int (nI n)), (2, .int (nI h)), (3, .int (nI k)), (4, .int (nI (bc h.testBit n))), (5, .int (nI ((a + k - 1) % (m0 + 1)))), (6, .int (nI i)), (7, .int (nI (m0 + 1))), (8, .int (nI p2))] ∧ va_P (dC, dI) vwCl [(h0, .inr (3, [.int 0, .long tr, .int pe, .ref a3, .ref a4, .ref a5, .int st, .int kd, .int wd, .ref a9, .int tn, .ref a11, .ref a12, .int sd, .ref a14, .ref a15, .ref a16])), (a14, .inl (cA, 20, .inl Rg2))] H ∧ va_D A [(h0, .inr (3, [.int 0, .long tr, .int pe, .ref a3, .ref a4, .ref a5, .int st, .int kd, .int wd, .ref a9, .int tn, .ref a11, .ref a12, .int sd, .ref a14, .ref a15, .ref a16])), (a14, .inl (cA, 20, .inl Rg2))] ∧ va_S A s.heap H locs ∧ p2 < m0 + 1 ∧ ((a + k - 1) % (m0 + 1)) ≤ p2 ∧ (∀ q, q < m0 + 1 → Rg2 q = if q < p2 then (if q < ((a + k - 1) % (m0 + 1)) then Rg q else Rg (q + 1)) else Rg q)) (fun xx => match xx with | (p2, Rg2) => m0 + 1 - p2) ?_ (((a + k - 1) % (m0 + 1)), Rg) ⟨lv_sub hl [3, 4, 5, 6, 7, 1, 8, 2, 0] rfl, hP, hD, hS, hr0, Nat.le_refl _, (fun q hq => by split <;> rfl)⟩
        rintro ⟨p2, Rg2⟩ ls H locs ⟨hl, hP, hD, hS, hp2, hap, hR2⟩ ih_88
        refine lv_iload hx hb dX3_isFirst_88 (lv_at hl 8 rfl) ?_
        refine lv_iconst (v := 1) hx hb dX3_isFirst_90 (by decide) ?_
        refine lv_iadd hx hb dX3_isFirst_91 ?_
        refine z_i (y := nI (p2 + 1)) (nI_1 p2) ?_
        refine lv_iload hx hb dX3_isFirst_92 (lv_at hl 7 rfl) ?_
        refine lv_icmp_ge (tgt := 119) hx hb dX3_isFirst_94 (by decide) (fun c_94 => ?_) (fun c_94 => ?_)
        · have c_94 : m0 + 1 ≤ p2 + 1 := (nI_leI (by omega) (by omega)).mp c_94
          refine lv_iinc (v := nI (i + 1)) (lv' := [(6, .int (nI (i + 1))), (0, .ref h0), (1, .int (nI n)), (2, .int (nI h)), (3, .int (nI k)), (4, .int (nI (bc h.testBit n))), (5, .int (nI ((a + k - 1) % (m0 + 1)))), (7, .int (nI (m0 + 1))), (8, .int (nI p2))]) hx hb dX3_isFirst_119 hl (k := 6) rfl (nI_1 i) (by decide) rfl (fun ls hl => ?_)
          refine lv_goto (tgt := 44) hx hb dX3_isFirst_122 (by decide) ?_
          exact ih_44 (i + 1, ((a + k - 1) % (m0 + 1)), wob b ((a + k - 1) % (m0 + 1)), fun q => if q < ((a + k - 1) % (m0 + 1)) then rg q else rg (q + 1), Rg2) _ _ _ (by show n - (i + 1) < n - i; omega) ⟨lv_sub hl [1, 2, 3, 4, 5, 6, 0] rfl, hP, hD, hS, (by omega), (by omega), (by rw [hm1]; exact wob_lt hbm hr0), (by rw [hm1]; have := bc_wob hr0 c_79; omega), isF_ring hm1 hm0 hr0 hR hR2 (by omega), (by rw [← hg, hm0, hm1, gF_s hb0 c_79])⟩
        · have c_94 : p2 + 1 < m0 + 1 := Nat.lt_of_not_le (fun h => c_94 ((nI_leI (by omega) (by omega)).mpr h))
          refine lv_aload_n hx hb dX3_isFirst_97 rfl (lv_at hl 0 rfl) ?_
          refine va_get (D := (dC, dI)) (ci := 3) (v := .ref a14) (C := RX3) (T := TX3) (N := 17) hx hb hts (by decide +kernel) hown hK hP 0 rfl rfl 14 (by decide) (hts (.fieldLink RX3 38 "CountedOutModel" "ring" "[I") (by decide +kernel)) (fun _ h9 => h9) rfl dX3_isFirst_98 ?_
          refine lv_iload hx hb dX3_isFirst_101 (lv_at hl 8 rfl) ?_
          refine lv_aload_n hx hb dX3_isFirst_103 rfl (lv_at hl 0 rfl) ?_
          refine va_get (D := (dC, dI)) (ci := 3) (v := .ref a14) (C := RX3) (T := TX3) (N := 17) hx hb hts (by decide +kernel) hown hK hP 0 rfl rfl 14 (by decide) (hts (.fieldLink RX3 38 "CountedOutModel" "ring" "[I") (by decide +kernel)) (fun _ h9 => h9) rfl dX3_isFirst_104 ?_
          refine lv_iload hx hb dX3_isFirst_107 (lv_at hl 8 rfl) ?_
          refine lv_iconst (v := 1) hx hb dX3_isFirst_109 (by decide) ?_
          refine lv_iadd hx hb dX3_isFirst_110 ?_
          refine z_i (y := nI (p2 + 1)) (nI_1 p2) ?_
          refine z_iald hx hb hK hP 1 0 rfl rfl (i := (p2 + 1)) (by omega) (by decide) dX3_isFirst_111 ?_
          refine z_iast hx hb hK hP hD hS 1 0 rfl rfl (i := p2) (by omega) (by decide) dX3_isFirst_112 (fun H locs hP hD hS => ?_)
          have hP : va_P (dC, dI) vwCl [(h0, .inr (3, [.int 0, .long tr, .int pe, .ref a3, .ref a4, .ref a5, .int st, .int kd, .int wd, .ref a9, .int tn, .ref a11, .ref a12, .int sd, .ref a14, .ref a15, .ref a16])), (a14, .inl (cA, 20, .inl (upd Rg2 p2 (Rg2 (p2 + 1)))))] H := hP
          have hD : va_D A [(h0, .inr (3, [.int 0, .long tr, .int pe, .ref a3, .ref a4, .ref a5, .int st, .int kd, .int wd, .ref a9, .int tn, .ref a11, .ref a12, .int sd, .ref a14, .ref a15, .ref a16])), (a14, .inl (cA, 20, .inl (upd Rg2 p2 (Rg2 (p2 + 1)))))] := hD
          refine lv_iinc (v := nI (p2 + 1)) (lv' := [(8, .int (nI (p2 + 1))), (0, .ref h0), (1, .int (nI n)), (2, .int (nI h)), (3, .int (nI k)), (4, .int (nI (bc h.testBit n))), (5, .int (nI ((a + k - 1) % (m0 + 1)))), (6, .int (nI i)), (7, .int (nI (m0 + 1)))]) hx hb dX3_isFirst_113 hl (k := 8) rfl (nI_1 p2) (by decide) rfl (fun ls hl => ?_)
          refine lv_goto (tgt := 88) hx hb dX3_isFirst_116 (by decide) ?_
          exact ih_88 (p2 + 1, upd Rg2 p2 (Rg2 (p2 + 1))) _ _ _ (by show m0 + 1 - (p2 + 1) < m0 + 1 - p2; omega) ⟨lv_sub hl [1, 2, 3, 4, 5, 6, 7, 8, 0] rfl, hP, hD, hS, (by omega), (by omega), isF_move hp2 hap c_94 hR2⟩
      · have c_79 : b.testBit ((a + k - 1) % (m0 + 1)) = false := hRa.2.2 ▸ bit_0.mp c_79
        refine lv_iconst (v := 0) hx hb dX3_isFirst_82 (by decide) ?_
        have hP9 := hP.sub (ws' := [(h0, .inr (3, [.int 0, .long tr, .int pe, .ref a3, .ref a4, .ref a5, .int st, .int kd, .int wd, .ref a9, .int tn, .ref a11, .ref a12, .int sd, .ref a14, .ref a15, .ref a16])), (a14, .inl (cA, 20, .inl Rg))]) [0, 1] rfl
        have hD9 := hD.sub (ws' := [(h0, .inr (3, [.int 0, .long tr, .int pe, .ref a3, .ref a4, .ref a5, .int st, .int kd, .int wd, .ref a9, .int tn, .ref a11, .ref a12, .int sd, .ref a14, .ref a15, .ref a16])), (a14, .inl (cA, 20, .inl Rg))]) [0, 1] (by decide) rfl
        exact W.zret (v := 0) hx hb hr (rfl) (fun t ht hW => ⟨⟨_, _, rfl, by rw [← hg, hm0, gF_n hb0 c_79]; rfl, ⟨by rw [ht]; exact hP9, va_K.moved hW.alike hK, hD9⟩⟩, hS.F ht⟩) hS.2.2 dX3_isFirst_83
  · have c_9 : p0 < n := Nat.lt_of_not_le (fun h => c_9 ((nI_leI (by omega) (by omega)).mpr h))
    refine lv_aload_n hx hb dX3_isFirst_12 rfl (lv_at hl 0 rfl) ?_
    refine va_get (D := (dC, dI)) (ci := 3) (v := .ref a14) (C := RX3) (T := TX3) (N := 17) hx hb hts (by decide +kernel) hown hK hP 0 rfl rfl 14 (by decide) (hts (.fieldLink RX3 38 "CountedOutModel" "ring" "[I") (by decide +kernel)) (fun _ h9 => h9) rfl dX3_isFirst_13 ?_
    refine lv_iload hx hb dX3_isFirst_16 (lv_at hl 5 rfl) ?_
    refine lv_iload hx hb dX3_isFirst_18 (lv_at hl 5 rfl) ?_
    refine z_iast hx hb hK hP hD hS 1 0 rfl rfl (i := p0) (by omega) (by decide) dX3_isFirst_20 (fun H locs hP hD hS => ?_)
    have hP : va_P (dC, dI) vwCl [(h0, .inr (3, [.int 0, .long tr, .int pe, .ref a3, .ref a4, .ref a5, .int st, .int kd, .int wd, .ref a9, .int tn, .ref a11, .ref a12, .int sd, .ref a14, .ref a15, .ref a16])), (a14, .inl (cA, 20, .inl (upd Rg p0 (nI p0))))] H := hP
    have hD : va_D A [(h0, .inr (3, [.int 0, .long tr, .int pe, .ref a3, .ref a4, .ref a5, .int st, .int kd, .int wd, .ref a9, .int tn, .ref a11, .ref a12, .int sd, .ref a14, .ref a15, .ref a16])), (a14, .inl (cA, 20, .inl (upd Rg p0 (nI p0))))] := hD
    refine lv_iload hx hb dX3_isFirst_21 (lv_at hl 4 rfl) ?_
    refine lv_iload_n hx hb dX3_isFirst_23 rfl (lv_at hl 2 rfl) ?_
    refine lv_iload hx hb dX3_isFirst_24 (lv_at hl 5 rfl) ?_
    refine lv_ishr hx hb dX3_isFirst_26 ?_
    refine z_i (y := nI (h / 2 ^ p0)) (shr_nI (by omega) (by omega)) ?_
    refine lv_iconst (v := 1) hx hb dX3_isFirst_27 (by decide) ?_
    refine lv_iand hx hb dX3_isFirst_28 ?_
    refine z_i (y := nI (h / 2 ^ p0 % 2)) (bit_nI _ _) ?_
    refine lv_iadd hx hb dX3_isFirst_29 ?_
    refine z_i (y := nI (bc h.testBit (p0 + 1))) (by rw [nI_add]; exact congrArg nI (isF_cnt h p0)) ?_
    refine lv_istore (lv' := [(4, .int (nI (bc h.testBit (p0 + 1)))), (0, .ref h0), (1, .int (nI n)), (2, .int (nI h)), (3, .int (nI k)), (5, .int (nI p0))]) hx hb dX3_isFirst_30 hl (by decide) rfl (fun ls hl => ?_)
    refine lv_iinc (v := nI (p0 + 1)) (lv' := [(5, .int (nI (p0 + 1))), (4, .int (nI (bc h.testBit (p0 + 1)))), (0, .ref h0), (1, .int (nI n)), (2, .int (nI h)), (3, .int (nI k))]) hx hb dX3_isFirst_32 hl (k := 5) rfl (nI_1 p0) (by decide) rfl (fun ls hl => ?_)
    refine lv_goto (tgt := 6) hx hb dX3_isFirst_35 (by decide) ?_
    exact ih_6 (p0 + 1, upd Rg p0 (nI p0)) _ _ _ (by show n - (p0 + 1) < n - p0; omega) ⟨lv_sub hl [2, 3, 4, 5, 1, 0] rfl, hP, hD, hS, (by omega), (fun q hq => by rcases Nat.lt_or_ge q p0 with h5 | h5 <;> first | (rw [pk_un (by omega)]; exact hR q h5) | (rw [show q = p0 by omega, pk_us]))⟩

set_option maxHeartbeats 4000000 in
set_option maxRecDepth 100000 in
theorem c_X3_first (l : Launch) (dC : Nat → ClassId) (dI : Nat → Nat → Nat) (sz : Nat) (cA : ClassId) (h0 a3 a4 a5 a9 a11 a12 a14 a15 a16 : Nat) (tr : Int64) (pe st kd wd tn sd : Int32) (n h k : Int32) (Rg : Nat → Int32) : Met l yX3_first wsX3_first ({ frames := 2, cells := 0, slots := 0, locals := 46 }) (va_Pc [.ref h0, .int n, .int h, .int k] (fun U => U.heap.size = sz ∧ va_P (dC, dI) vwCl [(h0, .inr (3, [.int 0, .long tr, .int pe, .ref a3, .ref a4, .ref a5, .int st, .int kd, .int wd, .ref a9, .int tn, .ref a11, .ref a12, .int sd, .ref a14, .ref a15, .ref a16])), (a14, .inl (cA, 20, .inl Rg))] U.heap ∧ va_K (dC, dI) vwCl [(cA, .int)] U ∧ va_D (fun _ => True) [(h0, .inr (3, [.int 0, .long tr, .int pe, .ref a3, .ref a4, .ref a5, .int st, .int kd, .int wd, .ref a9, .int tn, .ref a11, .ref a12, .int sd, .ref a14, .ref a15, .ref a16])), (a14, .inl (cA, 20, .inl Rg))])) (va_Qi (S := Nat → Int32) (fun r _ => r = spFirst n h k) (fun (u : Nat → Int32) (t : State) => va_P (dC, dI) vwCl [(h0, .inr (3, [.int 0, .long tr, .int pe, .ref a3, .ref a4, .ref a5, .int st, .int kd, .int wd, .ref a9, .int tn, .ref a11, .ref a12, .int sd, .ref a14, .ref a15, .ref a16])), (a14, .inl (cA, 20, .inl u))] t.heap ∧ va_K (dC, dI) vwCl [(cA, .int)] t ∧ va_D (va_A [(h0, .inr (3, [.int 0, .long tr, .int pe, .ref a3, .ref a4, .ref a5, .int st, .int kd, .int wd, .ref a9, .int tn, .ref a11, .ref a12, .int sd, .ref a14, .ref a15, .ref a16])), (a14, .inl (cA, 20, .inl Rg))] sz) [(h0, .inr (3, [.int 0, .long tr, .int pe, .ref a3, .ref a4, .ref a5, .int st, .int kd, .int wd, .ref a9, .int tn, .ref a11, .ref a12, .int sd, .ref a14, .ref a15, .ref a16])), (a14, .inl (cA, 20, .inl u))]) (va_A [(h0, .inr (3, [.int 0, .long tr, .int pe, .ref a3, .ref a4, .ref a5, .int st, .int kd, .int wd, .ref a9, .int tn, .ref a11, .ref a12, .int sd, .ref a14, .ref a15, .ref a16])), (a14, .inl (cA, 20, .inl Rg))] sz)) 0 0 (va_A [(h0, .inr (3, [.int 0, .long tr, .int pe, .ref a3, .ref a4, .ref a5, .int st, .int kd, .int wd, .ref a9, .int tn, .ref a11, .ref a12, .int sd, .ref a14, .ref a15, .ref a16])), (a14, .inl (cA, 20, .inl Rg))] sz) := by
  refine Met.ofW (cc := cX3_first) (maxL := 4) (ret := (some .int)) (by decide) rfl ?_
  intro p e s m args below meth c s₁ B hml hv
  obtain ⟨rfl, hsz, hP, hK, hD0⟩ := hv
  have hx := B.exec
  have hb := B.bytes
  have hr := B.returns
  have hts := atoms_spec (ws := wsX3_first) B.pre
  have hown : s.vm.findClass RX3 = some m.cls := findClass_of_methodNamed B.named
  have hlocks := B.notSynchronized
  subst hsz
  have hD := hD0.self (sz := s.heap.size)
  generalize hAe : va_A [(h0, .inr (3, [.int 0, .long tr, .int pe, .ref a3, .ref a4, .ref a5, .int st, .int kd, .int wd, .ref a9, .int tn, .ref a11, .ref a12, .int sd, .ref a14, .ref a15, .ref a16])), (a14, .inl (cA, 20, .inl Rg))] s.heap.size = A at hD ⊢
  have hA : ∀ q : Nat, s.heap.size ≤ q → A q := fun q h => by rw [← hAe]; exact Or.inr h
  have hS : va_S A s.heap s.heap [] := va_S.rf
  have hP : va_P (dC, dI) vwCl [(h0, .inr (3, [.int 0, .long tr, .int pe, .ref a3, .ref a4, .ref a5, .int st, .int kd, .int wd, .ref a9, .int tn, .ref a11, .ref a12, .int sd, .ref a14, .ref a15, .ref a16])), (a14, .inl (cA, 20, .inl Rg))] s.heap := hP
  have hl := lv_entry ([.ref h0, .int n, .int h, .int k]) (n := 4) (Nat.le_of_ble_eq_true rfl)
  rw [lg_entry_eq]
  generalize (lg_sl ([.ref h0, .int n, .int h, .int k]) ++ List.replicate (4 - (lg_sl ([.ref h0, .int n, .int h, .int k])).length) Slot.unset).toArray = ls at hl ⊢
  have hl : lv_has ls 4 [(0, .ref h0), (1, .int n), (2, .int h), (3, .int k)] := hl
  refine lv_aload_n hx hb dX3_first_0 rfl (lv_at hl 0 rfl) ?_
  refine lv_iconst (v := 0) hx hb dX3_first_1 (by decide) ?_
  refine va_put (D := (dC, dI)) (ci := 3) (v := .int 0) (ty := .int) (C := RX3) (T := TX3) (N := 17) hx hb hts (by decide +kernel) tyX3 tyX3_ok nmX3 hown hK hP hD hS 0 rfl rfl 0 (by decide) (hts (.fieldLink RX3 51 "CountedOutModel" "thrown" "I") (by decide +kernel)) (fun _ h9 => h9) rfl (by decide +kernel) rfl rfl (Nat.le_of_ble_eq_true rfl) dX3_first_2 (fun H locs hP hD hS => ?_)
  have hP : va_P (dC, dI) vwCl [(h0, .inr (3, [.int 0, .long tr, .int pe, .ref a3, .ref a4, .ref a5, .int st, .int kd, .int wd, .ref a9, .int tn, .ref a11, .ref a12, .int sd, .ref a14, .ref a15, .ref a16])), (a14, .inl (cA, 20, .inl Rg))] H := hP
  have hD : va_D A [(h0, .inr (3, [.int 0, .long tr, .int pe, .ref a3, .ref a4, .ref a5, .int st, .int kd, .int wd, .ref a9, .int tn, .ref a11, .ref a12, .int sd, .ref a14, .ref a15, .ref a16])), (a14, .inl (cA, 20, .inl Rg))] := hD
  refine lv_iload_n hx hb dX3_first_5 rfl (lv_at hl 1 rfl) ?_
  refine lv_iload_n hx hb dX3_first_6 rfl (lv_at hl 2 rfl) ?_
  refine vp_callSi (va_Run.run (va_runS (As := [.int n, .int h]) (rest := []) ⟨hx, hb, hml, hown, hts⟩ (c_X3_isHeap l dC dI n h) (va_cwS 2 hts gX3_first_X3_isHeap rfl rfl rfl (by decide +kernel) ⟨Nat.le_of_ble_eq_true rfl, Nat.le_of_ble_eq_true rfl⟩) ⟨fun a U g mk q => ⟨q.1, trivial⟩, fun U hU hW => ⟨rfl, trivial⟩⟩ rfl rfl hl.1 rfl (lv_room (Nat.le_of_ble_eq_true rfl)) dX3_first_7 ⟨Nat.zero_le _, Nat.zero_le _⟩)) (fun r_7 hr_7 => ?_)
  subst hr_7
  refine lv_if_eq (tgt := 25) hx hb dX3_first_10 (by decide) (fun c_10 => ?_) (fun c_10 => ?_)
  · have c_10 := zb_0.mp c_10
    refine lv_iconst (v := (-1)) hx hb dX3_first_25 (by decide) ?_
    refine lv_goto (tgt := 44) hx hb dX3_first_26 (by decide) ?_
    have hP9 := hP.sub (ws' := [(h0, .inr (3, [.int 0, .long tr, .int pe, .ref a3, .ref a4, .ref a5, .int st, .int kd, .int wd, .ref a9, .int tn, .ref a11, .ref a12, .int sd, .ref a14, .ref a15, .ref a16])), (a14, .inl (cA, 20, .inl Rg))]) [0, 1] rfl
    have hD9 := hD.sub (ws' := [(h0, .inr (3, [.int 0, .long tr, .int pe, .ref a3, .ref a4, .ref a5, .int st, .int kd, .int wd, .ref a9, .int tn, .ref a11, .ref a12, .int sd, .ref a14, .ref a15, .ref a16])), (a14, .inl (cA, 20, .inl Rg))]) [0, 1] (by decide) rfl
    exact W.iret (v := (-1)) hx hb hr (fun t ht hW => ⟨⟨_, _, rfl, by first | (unfold spFirst; rw [c_10, c_22, Bool.true_and, if_pos rfl, nI_toInt (by omega), nI_toInt (by omega), nI_toInt (by omega), Int.toNat_natCast, Int.toNat_natCast, Int.toNat_natCast, c_36]; rfl) | (unfold spFirst; first | (rw [c_10, Bool.false_and, if_neg (by decide)]) | (rw [c_10, c_22, Bool.true_and, if_neg (by decide)])), ⟨by rw [ht]; exact hP9, va_K.moved hW.alike hK, hD9⟩⟩, hS.F ht⟩) hS.2.2 dX3_first_44
  · have c_10 := zb_n.mp c_10
    refine lv_iload_n hx hb dX3_first_13 rfl (lv_at hl 3 rfl) ?_
    refine lv_i2l (v := k.toInt64) hx hb dX3_first_14 rfl ?_
    refine lv_lconst (v := 1) hx hb dX3_first_15 (by decide) ?_
    refine lv_ldc2 (v := 10000) hx hb hown (hts (.constantLong RX3 80 (10000)) (by decide +kernel)) dX3_first_16 ?_
    refine vp_callSi (va_Run.run (va_runS (As := [.long k.toInt64, .long 1, .long 10000]) (rest := []) ⟨hx, hb, hml, hown, hts⟩ (c_X3_in l dC dI k.toInt64 1 10000) (va_cwS 3 hts gX3_first_X3_in rfl rfl rfl (by decide +kernel) ⟨Nat.le_of_ble_eq_true rfl, Nat.le_of_ble_eq_true rfl⟩) ⟨fun a U g mk q => ⟨q.1, trivial⟩, fun U hU hW => ⟨rfl, trivial⟩⟩ rfl rfl hl.1 rfl (lv_room (Nat.le_of_ble_eq_true rfl)) dX3_first_19 ⟨Nat.zero_le _, Nat.zero_le _⟩)) (fun r_19 hr_19 => ?_)
    obtain rfl : r_19 = zb (wi k.toInt 1 10000) := hr_19.trans (by rw [i2l_toInt]; rfl)
    refine lv_if_ne (tgt := 29) hx hb dX3_first_22 (by decide) (fun c_22 => ?_) (fun c_22 => ?_)
    · have c_22 := zb_n.mp c_22
      obtain ⟨n1, h1, rfl, rfl, hn1, hn2, hh1, hh2⟩ := isHp_t c_10
      have hp2 : (2 : Nat) ^ n1 ≤ 2 ^ 20 := Nat.pow_le_pow_right (by decide) hn2
      obtain ⟨k1, hk1, hk2, rfl⟩ := nI_wi (a := 1) (b := 10000) c_22
      refine lv_aload_n hx hb dX3_first_29 rfl (lv_at hl 0 rfl) ?_
      refine lv_iload_n hx hb dX3_first_30 rfl (lv_at hl 1 rfl) ?_
      refine lv_iload_n hx hb dX3_first_31 rfl (lv_at hl 2 rfl) ?_
      refine lv_iload_n hx hb dX3_first_32 rfl (lv_at hl 3 rfl) ?_
      have hPc := hP.sub (ws' := [(h0, .inr (3, [.int 0, .long tr, .int pe, .ref a3, .ref a4, .ref a5, .int st, .int kd, .int wd, .ref a9, .int tn, .ref a11, .ref a12, .int sd, .ref a14, .ref a15, .ref a16])), (a14, .inl (cA, 20, .inl Rg))]) [0, 1] rfl
      have hDc := hD.sub (ws' := [(h0, .inr (3, [.int 0, .long tr, .int pe, .ref a3, .ref a4, .ref a5, .int st, .int kd, .int wd, .ref a9, .int tn, .ref a11, .ref a12, .int sd, .ref a14, .ref a15, .ref a16])), (a14, .inl (cA, 20, .inl Rg))]) [0, 1] (by decide) rfl
      have hFc := va_free (wc := [(h0, .inr (3, [.int 0, .long tr, .int pe, .ref a3, .ref a4, .ref a5, .int st, .int kd, .int wd, .ref a9, .int tn, .ref a11, .ref a12, .int sd, .ref a14, .ref a15, .ref a16])), (a14, .inl (cA, 20, .inl Rg))]) hD hS hA [0, 1] rfl
      refine va_calli (va_runV (As := [.int (nI n1), .int (nI h1), .int (nI k1)]) (rest := []) ⟨hx, hb, hml, hown, hts⟩ (c_X3_isFirst l dC dI H.size cA h0 a3 a4 a5 a9 a11 a12 a14 a15 a16 tr pe st kd wd tn sd n1 h1 k1 (by omega) hn2 (by omega) hk1 hk2 Rg) (cwV 3 hts gX3_first_X3_isFirst rfl rfl rfl (by decide +kernel) ⟨Nat.le_of_ble_eq_true rfl, Nat.le_of_ble_eq_true rfl⟩) ⟨fun a U g mk q => by obtain ⟨q0, q1, qP, qK, qD⟩ := q; exact ⟨q0, q1, qP, va_K.moved (u := U) (U := U.calling g mk a) (Vm.Alike.refl U.vm) qK, qD⟩, va_recv hK hP (ci := 3) (q0 := 0) rfl rfl, fun U hU hW => ⟨rfl, by rw [hU], by rw [hU]; exact hPc, va_K.moved hW.alike hK, hDc.weaken (fun _ _ _ _ => trivial)⟩⟩ rfl rfl hl.1 rfl (lv_room (Nat.le_of_ble_eq_true rfl)) dX3_first_33 ⟨Nat.zero_le _, Nat.zero_le _⟩) hS (fun q _ h => hFc q h) hFc (fun r_33 u_33 t_33 H1 locs ht_33 hvm_33 hw_33 hB_33 hz1 hk1 hS => ?_)
      obtain ⟨Rg3, rfl⟩ : ∃ z, z = u_33 := ⟨_, rfl⟩
      obtain ⟨hP1, hK1, hD1⟩ := hB_33
      rw [ht_33] at hP1
      obtain ⟨hP, hD⟩ := va_join (wr := []) (w1 := [(h0, .inr (3, [.int 0, .long tr, .int pe, .ref a3, .ref a4, .ref a5, .int st, .int kd, .int wd, .ref a9, .int tn, .ref a11, .ref a12, .int sd, .ref a14, .ref a15, .ref a16])), (a14, .inl (cA, 20, .inl Rg3))]) hP hD [0, 1] [] rfl rfl (by decide) (by decide) hk1 hFc hP1 hD1
      generalize H1 = H at hP hS ⊢
      have hP := hP.sub (ws' := [(h0, .inr (3, [.int 0, .long tr, .int pe, .ref a3, .ref a4, .ref a5, .int st, .int kd, .int wd, .ref a9, .int tn, .ref a11, .ref a12, .int sd, .ref a14, .ref a15, .ref a16])), (a14, .inl (cA, 20, .inl Rg3))]) [0, 1] rfl
      have hD := hD.sub (ws' := [(h0, .inr (3, [.int 0, .long tr, .int pe, .ref a3, .ref a4, .ref a5, .int st, .int kd, .int wd, .ref a9, .int tn, .ref a11, .ref a12, .int sd, .ref a14, .ref a15, .ref a16])), (a14, .inl (cA, 20, .inl Rg3))]) [0, 1] (by decide) rfl
      subst hw_33
      refine lv_if_eq (tgt := 43) hx hb dX3_first_36 (by decide) (fun c_36 => ?_) (fun c_36 => ?_)
      · have c_36 := zb_0.mp c_36
        refine lv_iconst (v := 0) hx hb dX3_first_43 (by decide) ?_
        have hP9 := hP.sub (ws' := [(h0, .inr (3, [.int 0, .long tr, .int pe, .ref a3, .ref a4, .ref a5, .int st, .int kd, .int wd, .ref a9, .int tn, .ref a11, .ref a12, .int sd, .ref a14, .ref a15, .ref a16])), (a14, .inl (cA, 20, .inl Rg3))]) [0, 1] rfl
        have hD9 := hD.sub (ws' := [(h0, .inr (3, [.int 0, .long tr, .int pe, .ref a3, .ref a4, .ref a5, .int st, .int kd, .int wd, .ref a9, .int tn, .ref a11, .ref a12, .int sd, .ref a14, .ref a15, .ref a16])), (a14, .inl (cA, 20, .inl Rg3))]) [0, 1] (by decide) rfl
        exact W.iret (v := 0) hx hb hr (fun t ht hW => ⟨⟨_, _, rfl, by first | (unfold spFirst; rw [c_10, c_22, Bool.true_and, if_pos rfl, nI_toInt (by omega), nI_toInt (by omega), nI_toInt (by omega), Int.toNat_natCast, Int.toNat_natCast, Int.toNat_natCast, c_36]; rfl) | (unfold spFirst; first | (rw [c_10, Bool.false_and, if_neg (by decide)]) | (rw [c_10, c_22, Bool.true_and, if_neg (by decide)])), ⟨by rw [ht]; exact hP9, va_K.moved hW.alike hK, hD9⟩⟩, hS.F ht⟩) hS.2.2 dX3_first_44
      · have c_36 := zb_n.mp c_36
        refine lv_iconst (v := 1) hx hb dX3_first_39 (by decide) ?_
        refine lv_goto (tgt := 44) hx hb dX3_first_40 (by decide) ?_
        have hP9 := hP.sub (ws' := [(h0, .inr (3, [.int 0, .long tr, .int pe, .ref a3, .ref a4, .ref a5, .int st, .int kd, .int wd, .ref a9, .int tn, .ref a11, .ref a12, .int sd, .ref a14, .ref a15, .ref a16])), (a14, .inl (cA, 20, .inl Rg3))]) [0, 1] rfl
        have hD9 := hD.sub (ws' := [(h0, .inr (3, [.int 0, .long tr, .int pe, .ref a3, .ref a4, .ref a5, .int st, .int kd, .int wd, .ref a9, .int tn, .ref a11, .ref a12, .int sd, .ref a14, .ref a15, .ref a16])), (a14, .inl (cA, 20, .inl Rg3))]) [0, 1] (by decide) rfl
        exact W.iret (v := 1) hx hb hr (fun t ht hW => ⟨⟨_, _, rfl, by first | (unfold spFirst; rw [c_10, c_22, Bool.true_and, if_pos rfl, nI_toInt (by omega), nI_toInt (by omega), nI_toInt (by omega), Int.toNat_natCast, Int.toNat_natCast, Int.toNat_natCast, c_36]; rfl) | (unfold spFirst; first | (rw [c_10, Bool.false_and, if_neg (by decide)]) | (rw [c_10, c_22, Bool.true_and, if_neg (by decide)])), ⟨by rw [ht]; exact hP9, va_K.moved hW.alike hK, hD9⟩⟩, hS.F ht⟩) hS.2.2 dX3_first_44
    · have c_22 := zb_0.mp c_22
      refine lv_iconst (v := (-1)) hx hb dX3_first_25 (by decide) ?_
      refine lv_goto (tgt := 44) hx hb dX3_first_26 (by decide) ?_
      have hP9 := hP.sub (ws' := [(h0, .inr (3, [.int 0, .long tr, .int pe, .ref a3, .ref a4, .ref a5, .int st, .int kd, .int wd, .ref a9, .int tn, .ref a11, .ref a12, .int sd, .ref a14, .ref a15, .ref a16])), (a14, .inl (cA, 20, .inl Rg))]) [0, 1] rfl
      have hD9 := hD.sub (ws' := [(h0, .inr (3, [.int 0, .long tr, .int pe, .ref a3, .ref a4, .ref a5, .int st, .int kd, .int wd, .ref a9, .int tn, .ref a11, .ref a12, .int sd, .ref a14, .ref a15, .ref a16])), (a14, .inl (cA, 20, .inl Rg))]) [0, 1] (by decide) rfl
      exact W.iret (v := (-1)) hx hb hr (fun t ht hW => ⟨⟨_, _, rfl, by first | (unfold spFirst; rw [c_10, c_22, Bool.true_and, if_pos rfl, nI_toInt (by omega), nI_toInt (by omega), nI_toInt (by omega), Int.toNat_natCast, Int.toNat_natCast, Int.toNat_natCast, c_36]; rfl) | (unfold spFirst; first | (rw [c_10, Bool.false_and, if_neg (by decide)]) | (rw [c_10, c_22, Bool.true_and, if_neg (by decide)])), ⟨by rw [ht]; exact hP9, va_K.moved hW.alike hK, hD9⟩⟩, hS.F ht⟩) hS.2.2 dX3_first_44

set_option maxHeartbeats 4000000 in
set_option maxRecDepth 100000 in
theorem c_X3_least (l : Launch) (dC : Nat → ClassId) (dI : Nat → Nat → Nat) (sz : Nat) (cA : ClassId) (h0 a3 a4 a5 a9 a11 a12 a14 a15 a16 : Nat) (tr : Int64) (pe st kd wd tn sd : Int32) (n h : Int32) (Rg : Nat → Int32) : Met l yX3_least wsX3_least ({ frames := 2, cells := 0, slots := 0, locals := 46 }) (va_Pc [.ref h0, .int n, .int h] (fun U => U.heap.size = sz ∧ va_P (dC, dI) vwCl [(h0, .inr (3, [.int 0, .long tr, .int pe, .ref a3, .ref a4, .ref a5, .int st, .int kd, .int wd, .ref a9, .int tn, .ref a11, .ref a12, .int sd, .ref a14, .ref a15, .ref a16])), (a14, .inl (cA, 20, .inl Rg))] U.heap ∧ va_K (dC, dI) vwCl [(cA, .int)] U ∧ va_D (fun _ => True) [(h0, .inr (3, [.int 0, .long tr, .int pe, .ref a3, .ref a4, .ref a5, .int st, .int kd, .int wd, .ref a9, .int tn, .ref a11, .ref a12, .int sd, .ref a14, .ref a15, .ref a16])), (a14, .inl (cA, 20, .inl Rg))])) (va_Qi (S := Nat → Int32) (fun r _ => r = spLeast n h) (fun (u : Nat → Int32) (t : State) => va_P (dC, dI) vwCl [(h0, .inr (3, [.int 0, .long tr, .int pe, .ref a3, .ref a4, .ref a5, .int st, .int kd, .int wd, .ref a9, .int tn, .ref a11, .ref a12, .int sd, .ref a14, .ref a15, .ref a16])), (a14, .inl (cA, 20, .inl u))] t.heap ∧ va_K (dC, dI) vwCl [(cA, .int)] t ∧ va_D (va_A [(h0, .inr (3, [.int 0, .long tr, .int pe, .ref a3, .ref a4, .ref a5, .int st, .int kd, .int wd, .ref a9, .int tn, .ref a11, .ref a12, .int sd, .ref a14, .ref a15, .ref a16])), (a14, .inl (cA, 20, .inl Rg))] sz) [(h0, .inr (3, [.int 0, .long tr, .int pe, .ref a3, .ref a4, .ref a5, .int st, .int kd, .int wd, .ref a9, .int tn, .ref a11, .ref a12, .int sd, .ref a14, .ref a15, .ref a16])), (a14, .inl (cA, 20, .inl u))]) (va_A [(h0, .inr (3, [.int 0, .long tr, .int pe, .ref a3, .ref a4, .ref a5, .int st, .int kd, .int wd, .ref a9, .int tn, .ref a11, .ref a12, .int sd, .ref a14, .ref a15, .ref a16])), (a14, .inl (cA, 20, .inl Rg))] sz)) 0 0 (va_A [(h0, .inr (3, [.int 0, .long tr, .int pe, .ref a3, .ref a4, .ref a5, .int st, .int kd, .int wd, .ref a9, .int tn, .ref a11, .ref a12, .int sd, .ref a14, .ref a15, .ref a16])), (a14, .inl (cA, 20, .inl Rg))] sz) := by
  refine Met.ofW (cc := cX3_least) (maxL := 4) (ret := (some .int)) (by decide) rfl ?_
  intro p e s m args below meth c s₁ B hml hv
  obtain ⟨rfl, hsz, hP, hK, hD0⟩ := hv
  have hx := B.exec
  have hb := B.bytes
  have hr := B.returns
  have hts := atoms_spec (ws := wsX3_least) B.pre
  have hown : s.vm.findClass RX3 = some m.cls := findClass_of_methodNamed B.named
  have hlocks := B.notSynchronized
  subst hsz
  have hD := hD0.self (sz := s.heap.size)
  generalize hAe : va_A [(h0, .inr (3, [.int 0, .long tr, .int pe, .ref a3, .ref a4, .ref a5, .int st, .int kd, .int wd, .ref a9, .int tn, .ref a11, .ref a12, .int sd, .ref a14, .ref a15, .ref a16])), (a14, .inl (cA, 20, .inl Rg))] s.heap.size = A at hD ⊢
  have hA : ∀ q : Nat, s.heap.size ≤ q → A q := fun q h => by rw [← hAe]; exact Or.inr h
  have hS : va_S A s.heap s.heap [] := va_S.rf
  have hP : va_P (dC, dI) vwCl [(h0, .inr (3, [.int 0, .long tr, .int pe, .ref a3, .ref a4, .ref a5, .int st, .int kd, .int wd, .ref a9, .int tn, .ref a11, .ref a12, .int sd, .ref a14, .ref a15, .ref a16])), (a14, .inl (cA, 20, .inl Rg))] s.heap := hP
  have hl := lv_entry ([.ref h0, .int n, .int h]) (n := 4) (Nat.le_of_ble_eq_true rfl)
  rw [lg_entry_eq]
  generalize (lg_sl ([.ref h0, .int n, .int h]) ++ List.replicate (4 - (lg_sl ([.ref h0, .int n, .int h])).length) Slot.unset).toArray = ls at hl ⊢
  have hl : lv_has ls 4 [(0, .ref h0), (1, .int n), (2, .int h)] := hl
  refine lv_aload_n hx hb dX3_least_0 rfl (lv_at hl 0 rfl) ?_
  refine lv_iconst (v := 0) hx hb dX3_least_1 (by decide) ?_
  refine va_put (D := (dC, dI)) (ci := 3) (v := .int 0) (ty := .int) (C := RX3) (T := TX3) (N := 17) hx hb hts (by decide +kernel) tyX3 tyX3_ok nmX3 hown hK hP hD hS 0 rfl rfl 0 (by decide) (hts (.fieldLink RX3 51 "CountedOutModel" "thrown" "I") (by decide +kernel)) (fun _ h9 => h9) rfl (by decide +kernel) rfl rfl (Nat.le_of_ble_eq_true rfl) dX3_least_2 (fun H locs hP hD hS => ?_)
  have hP : va_P (dC, dI) vwCl [(h0, .inr (3, [.int 0, .long tr, .int pe, .ref a3, .ref a4, .ref a5, .int st, .int kd, .int wd, .ref a9, .int tn, .ref a11, .ref a12, .int sd, .ref a14, .ref a15, .ref a16])), (a14, .inl (cA, 20, .inl Rg))] H := hP
  have hD : va_D A [(h0, .inr (3, [.int 0, .long tr, .int pe, .ref a3, .ref a4, .ref a5, .int st, .int kd, .int wd, .ref a9, .int tn, .ref a11, .ref a12, .int sd, .ref a14, .ref a15, .ref a16])), (a14, .inl (cA, 20, .inl Rg))] := hD
  refine lv_iload_n hx hb dX3_least_5 rfl (lv_at hl 1 rfl) ?_
  refine lv_iload_n hx hb dX3_least_6 rfl (lv_at hl 2 rfl) ?_
  refine vp_callSi (va_Run.run (va_runS (As := [.int n, .int h]) (rest := []) ⟨hx, hb, hml, hown, hts⟩ (c_X3_isHeap l dC dI n h) (va_cwS 2 hts gX3_least_X3_isHeap rfl rfl rfl (by decide +kernel) ⟨Nat.le_of_ble_eq_true rfl, Nat.le_of_ble_eq_true rfl⟩) ⟨fun a U g mk q => ⟨q.1, trivial⟩, fun U hU hW => ⟨rfl, trivial⟩⟩ rfl rfl hl.1 rfl (lv_room (Nat.le_of_ble_eq_true rfl)) dX3_least_7 ⟨Nat.zero_le _, Nat.zero_le _⟩)) (fun r_7 hr_7 => ?_)
  subst hr_7
  refine lv_if_ne (tgt := 15) hx hb dX3_least_10 (by decide) (fun c_10 => ?_) (fun c_10 => ?_)
  · have c_10 := zb_n.mp c_10
    obtain ⟨n1, h1, rfl, rfl, hn1, hn2, hh1, hh2⟩ := isHp_t c_10
    have hp2 : (2 : Nat) ^ n1 ≤ 2 ^ 20 := Nat.pow_le_pow_right (by decide) hn2
    refine lv_iconst (v := 1) hx hb dX3_least_15 (by decide) ?_
    refine lv_istore_n (lv' := [(3, .int 1), (0, .ref h0), (1, .int (nI n1)), (2, .int (nI h1))]) hx hb dX3_least_16 rfl hl (by decide) rfl (fun ls hl => ?_)
    refine W_loop (σ := Nat × (Nat → Int32)) (fun xx ls H locs => match xx with | (c0, Rg) => lv_has ls 4 [(0, .ref h0), (1, .int (nI n1)), (2, .int (nI h1)), (3, .int (nI c0))] ∧ va_P (dC, dI) vwCl [(h0, .inr (3, [.int 0, .long tr, .int pe, .ref a3, .ref a4, .ref a5, .int st, .int kd, .int wd, .ref a9, .int tn, .ref a11, .ref a12, .int sd, .ref a14, .ref a15, .ref a16])), (a14, .inl (cA, 20, .inl Rg))] H ∧ va_D A [(h0, .inr (3, [.int 0, .long tr, .int pe, .ref a3, .ref a4, .ref a5, .int st, .int kd, .int wd, .ref a9, .int tn, .ref a11, .ref a12, .int sd, .ref a14, .ref a15, .ref a16])), (a14, .inl (cA, 20, .inl Rg))] ∧ va_S A s.heap H locs ∧ 1 ≤ c0 ∧ c0 ≤ 10001 ∧ lstN n1 h1 (10001 - c0) c0 = lstN n1 h1 10000 1) (fun xx => match xx with | (c0, Rg) => 10001 - c0) ?_ (1, Rg) ⟨lv_sub hl [1, 2, 3, 0] rfl, hP, hD, hS, (by omega), (by omega), rfl⟩
    rintro ⟨c0, Rg⟩ ls H locs ⟨hl, hP, hD, hS, hc1, hc2, hg⟩ ih_17
    refine lv_iload_n hx hb dX3_least_17 rfl (lv_at hl 3 rfl) ?_
    refine lv_sipush (v := 10000) hx hb dX3_least_18 (by decide) ?_
    refine lv_icmp_gt (tgt := 42) hx hb dX3_least_21 (by decide) (fun c_21 => ?_) (fun c_21 => ?_)
    · have c_21 : 10000 < c0 := (nI_ltI (a := 10000) (by omega) (by omega)).mp c_21
      refine lv_bipush (v := (-9)) hx hb dX3_least_42 (by decide) ?_
      have hP9 := hP.sub (ws' := [(h0, .inr (3, [.int 0, .long tr, .int pe, .ref a3, .ref a4, .ref a5, .int st, .int kd, .int wd, .ref a9, .int tn, .ref a11, .ref a12, .int sd, .ref a14, .ref a15, .ref a16])), (a14, .inl (cA, 20, .inl Rg))]) [0, 1] rfl
      have hD9 := hD.sub (ws' := [(h0, .inr (3, [.int 0, .long tr, .int pe, .ref a3, .ref a4, .ref a5, .int st, .int kd, .int wd, .ref a9, .int tn, .ref a11, .ref a12, .int sd, .ref a14, .ref a15, .ref a16])), (a14, .inl (cA, 20, .inl Rg))]) [0, 1] (by decide) rfl
      exact W.iret (v := (-9)) hx hb hr (fun t ht hW => ⟨⟨_, _, rfl, by unfold spLeast; rw [c_10, if_pos rfl, nI_toInt (by omega), nI_toInt (by omega), Int.toNat_natCast, Int.toNat_natCast, ← hg]; rw [show 10001 - c0 = 0 by omega]; rfl, ⟨by rw [ht]; exact hP9, va_K.moved hW.alike hK, hD9⟩⟩, hS.F ht⟩) hS.2.2 dX3_least_44
    · have c_21 : c0 ≤ 10000 := Nat.le_of_not_lt (fun h => c_21 ((nI_ltI (a := 10000) (by omega) (by omega)).mpr h))
      obtain ⟨f, hf⟩ : ∃ f, 10001 - c0 = f + 1 := ⟨10000 - c0, by omega⟩
      refine lv_aload_n hx hb dX3_least_24 rfl (lv_at hl 0 rfl) ?_
      refine lv_iload_n hx hb dX3_least_25 rfl (lv_at hl 1 rfl) ?_
      refine lv_iload_n hx hb dX3_least_26 rfl (lv_at hl 2 rfl) ?_
      refine lv_iload_n hx hb dX3_least_27 rfl (lv_at hl 3 rfl) ?_
      have hPc := hP.sub (ws' := [(h0, .inr (3, [.int 0, .long tr, .int pe, .ref a3, .ref a4, .ref a5, .int st, .int kd, .int wd, .ref a9, .int tn, .ref a11, .ref a12, .int sd, .ref a14, .ref a15, .ref a16])), (a14, .inl (cA, 20, .inl Rg))]) [0, 1] rfl
      have hDc := hD.sub (ws' := [(h0, .inr (3, [.int 0, .long tr, .int pe, .ref a3, .ref a4, .ref a5, .int st, .int kd, .int wd, .ref a9, .int tn, .ref a11, .ref a12, .int sd, .ref a14, .ref a15, .ref a16])), (a14, .inl (cA, 20, .inl Rg))]) [0, 1] (by decide) rfl
      have hFc := va_free (wc := [(h0, .inr (3, [.int 0, .long tr, .int pe, .ref a3, .ref a4, .ref a5, .int st, .int kd, .int wd, .ref a9, .int tn, .ref a11, .ref a12, .int sd, .ref a14, .ref a15, .ref a16])), (a14, .inl (cA, 20, .inl Rg))]) hD hS hA [0, 1] rfl
      refine va_calli (va_runV (As := [.int (nI n1), .int (nI h1), .int (nI c0)]) (rest := []) ⟨hx, hb, hml, hown, hts⟩ (c_X3_isFirst l dC dI H.size cA h0 a3 a4 a5 a9 a11 a12 a14 a15 a16 tr pe st kd wd tn sd n1 h1 c0 (by omega) hn2 (by omega) hc1 (by omega) Rg) (cwV 3 hts gX3_least_X3_isFirst rfl rfl rfl (by decide +kernel) ⟨Nat.le_of_ble_eq_true rfl, Nat.le_of_ble_eq_true rfl⟩) ⟨fun a U g mk q => by obtain ⟨q0, q1, qP, qK, qD⟩ := q; exact ⟨q0, q1, qP, va_K.moved (u := U) (U := U.calling g mk a) (Vm.Alike.refl U.vm) qK, qD⟩, va_recv hK hP (ci := 3) (q0 := 0) rfl rfl, fun U hU hW => ⟨rfl, by rw [hU], by rw [hU]; exact hPc, va_K.moved hW.alike hK, hDc.weaken (fun _ _ _ _ => trivial)⟩⟩ rfl rfl hl.1 rfl (lv_room (Nat.le_of_ble_eq_true rfl)) dX3_least_28 ⟨Nat.zero_le _, Nat.zero_le _⟩) hS (fun q _ h => hFc q h) hFc (fun r_28 u_28 t_28 H1 locs ht_28 hvm_28 hw_28 hB_28 hz1 hk1 hS => ?_)
      obtain ⟨Rg3, rfl⟩ : ∃ z, z = u_28 := ⟨_, rfl⟩
      obtain ⟨hP1, hK1, hD1⟩ := hB_28
      rw [ht_28] at hP1
      obtain ⟨hP, hD⟩ := va_join (wr := []) (w1 := [(h0, .inr (3, [.int 0, .long tr, .int pe, .ref a3, .ref a4, .ref a5, .int st, .int kd, .int wd, .ref a9, .int tn, .ref a11, .ref a12, .int sd, .ref a14, .ref a15, .ref a16])), (a14, .inl (cA, 20, .inl Rg3))]) hP hD [0, 1] [] rfl rfl (by decide) (by decide) hk1 hFc hP1 hD1
      generalize H1 = H at hP hS ⊢
      have hP := hP.sub (ws' := [(h0, .inr (3, [.int 0, .long tr, .int pe, .ref a3, .ref a4, .ref a5, .int st, .int kd, .int wd, .ref a9, .int tn, .ref a11, .ref a12, .int sd, .ref a14, .ref a15, .ref a16])), (a14, .inl (cA, 20, .inl Rg3))]) [0, 1] rfl
      have hD := hD.sub (ws' := [(h0, .inr (3, [.int 0, .long tr, .int pe, .ref a3, .ref a4, .ref a5, .int st, .int kd, .int wd, .ref a9, .int tn, .ref a11, .ref a12, .int sd, .ref a14, .ref a15, .ref a16])), (a14, .inl (cA, 20, .inl Rg3))]) [0, 1] (by decide) rfl
      subst hw_28
      refine lv_if_eq (tgt := 36) hx hb dX3_least_31 (by decide) (fun c_31 => ?_) (fun c_31 => ?_)
      · have c_31 := zb_0.mp c_31
        refine lv_iinc (v := nI (c0 + 1)) (lv' := [(3, .int (nI (c0 + 1))), (0, .ref h0), (1, .int (nI n1)), (2, .int (nI h1))]) hx hb dX3_least_36 hl (k := 3) rfl (nI_1 c0) (by decide) rfl (fun ls hl => ?_)
        refine lv_goto (tgt := 17) hx hb dX3_least_39 (by decide) ?_
        exact ih_17 (c0 + 1, Rg3) _ _ _ (by show 10001 - (c0 + 1) < 10001 - c0; omega) ⟨lv_sub hl [1, 2, 3, 0] rfl, hP, hD, hS, (by omega), (by omega), (by rw [← hg, hf, show 10001 - (c0 + 1) = f by omega]; simp [lstN, c_31])⟩
      · have c_31 := zb_n.mp c_31
        refine lv_iload_n hx hb dX3_least_34 rfl (lv_at hl 3 rfl) ?_
        have hP9 := hP.sub (ws' := [(h0, .inr (3, [.int 0, .long tr, .int pe, .ref a3, .ref a4, .ref a5, .int st, .int kd, .int wd, .ref a9, .int tn, .ref a11, .ref a12, .int sd, .ref a14, .ref a15, .ref a16])), (a14, .inl (cA, 20, .inl Rg3))]) [0, 1] rfl
        have hD9 := hD.sub (ws' := [(h0, .inr (3, [.int 0, .long tr, .int pe, .ref a3, .ref a4, .ref a5, .int st, .int kd, .int wd, .ref a9, .int tn, .ref a11, .ref a12, .int sd, .ref a14, .ref a15, .ref a16])), (a14, .inl (cA, 20, .inl Rg3))]) [0, 1] (by decide) rfl
        exact W.iret (v := nI c0) hx hb hr (fun t ht hW => ⟨⟨_, _, rfl, by unfold spLeast; rw [c_10, if_pos rfl, nI_toInt (by omega), nI_toInt (by omega), Int.toNat_natCast, Int.toNat_natCast, ← hg]; rw [hf]; simp [lstN, c_31], ⟨by rw [ht]; exact hP9, va_K.moved hW.alike hK, hD9⟩⟩, hS.F ht⟩) hS.2.2 dX3_least_35
  · have c_10 := zb_0.mp c_10
    refine lv_iconst (v := (-1)) hx hb dX3_least_13 (by decide) ?_
    have hP9 := hP.sub (ws' := [(h0, .inr (3, [.int 0, .long tr, .int pe, .ref a3, .ref a4, .ref a5, .int st, .int kd, .int wd, .ref a9, .int tn, .ref a11, .ref a12, .int sd, .ref a14, .ref a15, .ref a16])), (a14, .inl (cA, 20, .inl Rg))]) [0, 1] rfl
    have hD9 := hD.sub (ws' := [(h0, .inr (3, [.int 0, .long tr, .int pe, .ref a3, .ref a4, .ref a5, .int st, .int kd, .int wd, .ref a9, .int tn, .ref a11, .ref a12, .int sd, .ref a14, .ref a15, .ref a16])), (a14, .inl (cA, 20, .inl Rg))]) [0, 1] (by decide) rfl
    exact W.iret (v := (-1)) hx hb hr (fun t ht hW => ⟨⟨_, _, rfl, by unfold spLeast; rw [c_10, if_neg (by decide)], ⟨by rw [ht]; exact hP9, va_K.moved hW.alike hK, hD9⟩⟩, hS.F ht⟩) hS.2.2 dX3_least_14
