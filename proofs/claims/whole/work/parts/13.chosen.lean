theorem tb_n1 {b a : Nat} (h : ¬ nI (b / 2 ^ a % 2) = 1) : b.testBit a = false := by
  cases hq : b.testBit a with
  | true => exact absurd (bit_1.mpr hq) h
  | false => rfl
theorem tb_n0 {b a : Nat} (h : ¬ nI (b / 2 ^ a % 2) = 0) : b.testBit a = true := by
  cases hq : b.testBit a with
  | false => exact absurd (bit_0.mpr hq) h
  | true => rfl
theorem canK_0 {n own foe : Nat} : canK n own foe 0 = 1 := by unfold canK; split <;> rfl
theorem sTo_int {p a m : Nat} (h : a ≤ p + m) : nI p - nI a + nI m = nI (p + m - a) := by
  rw [Int32.sub_eq_add_neg, Int32.add_assoc, Int32.add_comm (-nI a), ← Int32.add_assoc, ← Int32.sub_eq_add_neg, nI_add, pk_sub h]
theorem zb_or (a b : Bool) : zb a ||| zb b = zb (a || b) := by cases a <;> cases b <;> decide
theorem zb_and (a b : Bool) : zb a &&& zb b = zb (a && b) := by cases a <;> cases b <;> decide
set_option maxHeartbeats 4000000 in
set_option maxRecDepth 100000 in
theorem c_X2_isChosenSet (l : Launch) (dC : Nat → ClassId) (dI : Nat → Nat → Nat) (v : Int32) : Met l yX2_isChosenSet wsX2_isChosenSet ({ frames := 1, cells := 0, slots := 0, locals := 25 }) (va_Pc [.int v] (fun _ => True)) (vp_Si (fun r => r = zb (wi v.toInt 1 63))) 0 0 (fun _ => False) := by
  refine Met.ofW (cc := cX2_isChosenSet) (maxL := 1) (ret := (some .boolean)) (by decide) rfl ?_
  intro p e s m args below meth c s₁ B hml hv
  obtain ⟨rfl, -⟩ := hv
  have hx := B.exec
  have hb := B.bytes
  have hr := B.returns
  have hts := atoms_spec (ws := wsX2_isChosenSet) B.pre
  have hown : s.vm.findClass RX2 = some m.cls := findClass_of_methodNamed B.named
  have hlocks := B.notSynchronized
  have hl := lv_entry ([.int v]) (n := 1) (Nat.le_of_ble_eq_true rfl)
  rw [lg_entry_eq]
  generalize (lg_sl ([.int v]) ++ List.replicate (1 - (lg_sl ([.int v])).length) Slot.unset).toArray = ls at hl ⊢
  have hl : lv_has ls 1 [(0, .int v)] := hl
  refine lv_iload_n hx hb dX2_isChosenSet_0 rfl (lv_at hl 0 rfl) ?_
  refine lv_i2l (v := v.toInt64) hx hb dX2_isChosenSet_1 rfl ?_
  refine lv_lconst (v := 1) hx hb dX2_isChosenSet_2 (by decide) ?_
  refine lv_ldc2 (v := 63) hx hb hown (hts (.constantLong RX2 161 (63)) (by decide +kernel)) dX2_isChosenSet_3 ?_
  refine vp_callSi (va_Run.run (va_runS (As := [.long v.toInt64, .long 1, .long 63]) (rest := []) ⟨hx, hb, hml, hown, hts⟩ (c_X2_isWithin l dC dI v.toInt64 1 63) (va_cwS 3 hts gX2_isChosenSet_X2_isWithin rfl rfl rfl (by decide +kernel) ⟨Nat.le_of_ble_eq_true rfl, Nat.le_of_ble_eq_true rfl⟩) ⟨fun a U g mk q => ⟨q.1, trivial⟩, fun U hU hW => ⟨rfl, trivial⟩⟩ rfl rfl hl.1 rfl (lv_room (Nat.le_of_ble_eq_true rfl)) dX2_isChosenSet_6 ⟨Nat.zero_le _, Nat.zero_le _⟩)) (fun r_6 hr_6 => ?_)
  obtain rfl : r_6 = zb (wi v.toInt 1 63) := hr_6.trans (by rw [i2l_toInt]; rfl)
  exact W.zret (v := zb (wi v.toInt 1 63)) hx hb hr (narrow_zb _) (fun t ht hW => ⟨_, rfl, rfl, ht⟩) (fun _ h => absurd h List.not_mem_nil) dX2_isChosenSet_9

set_option maxHeartbeats 4000000 in
set_option maxRecDepth 100000 in
theorem c_X3_isSet (l : Launch) (dC : Nat → ClassId) (dI : Nat → Nat → Nat) (v : Int32) : Met l yX3_isSet wsX3_isSet ({ frames := 1, cells := 0, slots := 0, locals := 25 }) (va_Pc [.int v] (fun _ => True)) (vp_Si (fun r => r = zb (wi v.toInt 1 63))) 0 0 (fun _ => False) := by
  refine Met.ofW (cc := cX3_isSet) (maxL := 1) (ret := (some .boolean)) (by decide) rfl ?_
  intro p e s m args below meth c s₁ B hml hv
  obtain ⟨rfl, -⟩ := hv
  have hx := B.exec
  have hb := B.bytes
  have hr := B.returns
  have hts := atoms_spec (ws := wsX3_isSet) B.pre
  have hown : s.vm.findClass RX3 = some m.cls := findClass_of_methodNamed B.named
  have hlocks := B.notSynchronized
  have hl := lv_entry ([.int v]) (n := 1) (Nat.le_of_ble_eq_true rfl)
  rw [lg_entry_eq]
  generalize (lg_sl ([.int v]) ++ List.replicate (1 - (lg_sl ([.int v])).length) Slot.unset).toArray = ls at hl ⊢
  have hl : lv_has ls 1 [(0, .int v)] := hl
  refine lv_iload_n hx hb dX3_isSet_0 rfl (lv_at hl 0 rfl) ?_
  refine lv_i2l (v := v.toInt64) hx hb dX3_isSet_1 rfl ?_
  refine lv_lconst (v := 1) hx hb dX3_isSet_2 (by decide) ?_
  refine lv_ldc2 (v := 63) hx hb hown (hts (.constantLong RX3 137 (63)) (by decide +kernel)) dX3_isSet_3 ?_
  refine vp_callSi (va_Run.run (va_runS (As := [.long v.toInt64, .long 1, .long 63]) (rest := []) ⟨hx, hb, hml, hown, hts⟩ (c_X3_in l dC dI v.toInt64 1 63) (va_cwS 3 hts gX3_isSet_X3_in rfl rfl rfl (by decide +kernel) ⟨Nat.le_of_ble_eq_true rfl, Nat.le_of_ble_eq_true rfl⟩) ⟨fun a U g mk q => ⟨q.1, trivial⟩, fun U hU hW => ⟨rfl, trivial⟩⟩ rfl rfl hl.1 rfl (lv_room (Nat.le_of_ble_eq_true rfl)) dX3_isSet_6 ⟨Nat.zero_le _, Nat.zero_le _⟩)) (fun r_6 hr_6 => ?_)
  obtain rfl : r_6 = zb (wi v.toInt 1 63) := hr_6.trans (by rw [i2l_toInt]; rfl)
  exact W.zret (v := zb (wi v.toInt 1 63)) hx hb hr (narrow_zb _) (fun t ht hW => ⟨_, rfl, rfl, ht⟩) (fun _ h => absurd h List.not_mem_nil) dX3_isSet_9

set_option maxHeartbeats 4000000 in
set_option maxRecDepth 100000 in
theorem c_X2_isChosen (l : Launch) (dC : Nat → ClassId) (dI : Nat → Nat → Nat) (set c0 : Nat) (hs : set < 64) (hc : c0 < 6) : Met l yX2_isChosen wsX2_isChosen ({ frames := 0, cells := 0, slots := 0, locals := 0 }) (va_Pc [.int (nI set), .int (nI (c0 + 1))] (fun _ => True)) (vp_Si (fun r => r = zb (set.testBit c0))) 0 0 (fun _ => False) := by
  refine Met.ofW (cc := cX2_isChosen) (maxL := 2) (ret := (some .boolean)) (by decide) rfl ?_
  intro p e s m args below meth c s₁ B hml hv
  obtain ⟨rfl, -⟩ := hv
  have hx := B.exec
  have hb := B.bytes
  have hr := B.returns
  have hts := atoms_spec (ws := wsX2_isChosen) B.pre
  have hown : s.vm.findClass RX2 = some m.cls := findClass_of_methodNamed B.named
  have hlocks := B.notSynchronized
  have hl := lv_entry ([.int (nI set), .int (nI (c0 + 1))]) (n := 2) (Nat.le_of_ble_eq_true rfl)
  rw [lg_entry_eq]
  generalize (lg_sl ([.int (nI set), .int (nI (c0 + 1))]) ++ List.replicate (2 - (lg_sl ([.int (nI set), .int (nI (c0 + 1))])).length) Slot.unset).toArray = ls at hl ⊢
  have hl : lv_has ls 2 [(0, .int (nI set)), (1, .int (nI (c0 + 1)))] := hl
  refine lv_iload_n hx hb dX2_isChosen_0 rfl (lv_at hl 0 rfl) ?_
  refine lv_iload_n hx hb dX2_isChosen_1 rfl (lv_at hl 1 rfl) ?_
  refine lv_iconst (v := 1) hx hb dX2_isChosen_2 (by decide) ?_
  refine lv_isub hx hb dX2_isChosen_3 ?_
  refine z_i (y := nI c0) (nI_pred c0) ?_
  refine lv_ishr hx hb dX2_isChosen_4 ?_
  refine z_i (y := nI (set / 2 ^ c0)) (shr_nI (by omega) (by omega)) ?_
  refine lv_iconst (v := 1) hx hb dX2_isChosen_5 (by decide) ?_
  refine lv_iand hx hb dX2_isChosen_6 ?_
  refine z_i (y := nI (set / 2 ^ c0 % 2)) (bit_nI _ _) ?_
  refine lv_iconst (v := 1) hx hb dX2_isChosen_7 (by decide) ?_
  refine lv_icmp_ne (tgt := 15) hx hb dX2_isChosen_8 (by decide) (fun c_8 => ?_) (fun c_8 => ?_)
  · have c_8 := tb_n1 c_8
    refine lv_iconst (v := 0) hx hb dX2_isChosen_15 (by decide) ?_
    exact W.zret (v := 0) hx hb hr (rfl) (fun t ht hW => ⟨_, rfl, by rw [c_8]; rfl, ht⟩) (fun _ h => absurd h List.not_mem_nil) dX2_isChosen_16
  · have c_8 := bit_1.mp c_8
    refine lv_iconst (v := 1) hx hb dX2_isChosen_11 (by decide) ?_
    refine lv_goto (tgt := 16) hx hb dX2_isChosen_12 (by decide) ?_
    exact W.zret (v := 1) hx hb hr (rfl) (fun t ht hW => ⟨_, rfl, by rw [c_8]; rfl, ht⟩) (fun _ h => absurd h List.not_mem_nil) dX2_isChosen_16

set_option maxHeartbeats 4000000 in
set_option maxRecDepth 100000 in
theorem c_X2_stayingBehind (l : Launch) (dC : Nat → ClassId) (dI : Nat → Nat → Nat) (m0 c0 b : Nat) (hm1 : 1 ≤ m0) (hm : m0 ≤ 12) (hc : c0 ≤ 6) (hbb : b < 4096) : Met l yX2_stayingBehind wsX2_stayingBehind ({ frames := 0, cells := 0, slots := 0, locals := 0 }) (va_Pc [.int (nI m0), .int (nI c0), .int (nI b)] (fun _ => True)) (vp_Si (fun r => r = nI (sBh m0 c0 b))) 0 0 (fun _ => False) := by
  refine Met.ofW (cc := cX2_stayingBehind) (maxL := 5) (ret := (some .int)) (by decide) rfl ?_
  intro p e s m args below meth c s₁ B hml hv
  obtain ⟨rfl, -⟩ := hv
  have hx := B.exec
  have hb := B.bytes
  have hr := B.returns
  have hts := atoms_spec (ws := wsX2_stayingBehind) B.pre
  have hown : s.vm.findClass RX2 = some m.cls := findClass_of_methodNamed B.named
  have hlocks := B.notSynchronized
  have hl := lv_entry ([.int (nI m0), .int (nI c0), .int (nI b)]) (n := 5) (Nat.le_of_ble_eq_true rfl)
  rw [lg_entry_eq]
  generalize (lg_sl ([.int (nI m0), .int (nI c0), .int (nI b)]) ++ List.replicate (5 - (lg_sl ([.int (nI m0), .int (nI c0), .int (nI b)])).length) Slot.unset).toArray = ls at hl ⊢
  have hl : lv_has ls 5 [(0, .int (nI m0)), (1, .int (nI c0)), (2, .int (nI b))] := hl
  have hcm : c0 % m0 ≤ 6 := Nat.le_trans (Nat.mod_le _ _) hc
  have hpw : (2 : Nat) ^ (c0 % m0) ≤ 2 ^ 6 := Nat.pow_le_pow_right (by decide) hcm
  have hmv : b * 2 ^ (c0 % m0) ≤ 4095 * 2 ^ 6 := Nat.mul_le_mul (by omega) hpw
  refine lv_iload_n hx hb dX2_stayingBehind_0 rfl (lv_at hl 0 rfl) ?_
  refine lv_iconst (v := 1) hx hb dX2_stayingBehind_1 (by decide) ?_
  refine lv_icmp_ge (tgt := 7) hx hb dX2_stayingBehind_2 (by decide) (fun c_2 => ?_) (fun c_2 => ?_)
  · refine lv_iload_n hx hb dX2_stayingBehind_7 rfl (lv_at hl 1 rfl) ?_
    refine lv_iload_n hx hb dX2_stayingBehind_8 rfl (lv_at hl 0 rfl) ?_
    refine lv_irem hx hb dX2_stayingBehind_9 (nI_ne0 (by omega) (by omega)) ?_
    refine z_i (y := nI (c0 % m0)) (pk_rem (by omega) (by omega) (by omega)) ?_
    refine lv_istore_n (lv' := [(3, .int (nI (c0 % m0))), (0, .int (nI m0)), (1, .int (nI c0)), (2, .int (nI b))]) hx hb dX2_stayingBehind_10 rfl hl (by decide) rfl (fun ls hl => ?_)
    refine lv_iload_n hx hb dX2_stayingBehind_11 rfl (lv_at hl 3 rfl) ?_
    refine lv_iload_n hx hb dX2_stayingBehind_12 rfl (lv_at hl 0 rfl) ?_
    refine lv_ishl hx hb dX2_stayingBehind_13 ?_
    refine z_i (y := nI (b * 2 ^ (c0 % m0))) (shl_nI (by omega) (by omega)) ?_
    refine lv_istore (lv' := [(4, .int (nI (b * 2 ^ (c0 % m0)))), (3, .int (nI (c0 % m0))), (0, .int (nI m0)), (1, .int (nI c0)), (2, .int (nI b))]) hx hb dX2_stayingBehind_14 hl (by decide) rfl (fun ls hl => ?_)
    refine lv_iload hx hb dX2_stayingBehind_16 (lv_at hl 0 rfl) ?_
    refine lv_iload hx hb dX2_stayingBehind_18 (lv_at hl 0 rfl) ?_
    refine lv_iload_n hx hb dX2_stayingBehind_20 rfl (lv_at hl 2 rfl) ?_
    refine lv_ishr hx hb dX2_stayingBehind_21 ?_
    refine z_i (y := nI (b * 2 ^ (c0 % m0) / 2 ^ m0)) (shr_nI (by omega) (by omega)) ?_
    refine lv_ior hx hb dX2_stayingBehind_22 ?_
    refine z_i (y := nI (b * 2 ^ (c0 % m0) ||| b * 2 ^ (c0 % m0) / 2 ^ m0)) (fa_or _ _) ?_
    refine lv_iconst (v := 1) hx hb dX2_stayingBehind_23 (by decide) ?_
    refine lv_iload_n hx hb dX2_stayingBehind_24 rfl (lv_at hl 2 rfl) ?_
    refine lv_ishl hx hb dX2_stayingBehind_25 ?_
    refine z_i (y := nI (2 ^ m0)) (sh1 (by omega)) ?_
    refine lv_iconst (v := 1) hx hb dX2_stayingBehind_26 (by decide) ?_
    refine lv_isub hx hb dX2_stayingBehind_27 ?_
    refine z_i (y := nI (2 ^ m0 - 1)) (pow_m1) ?_
    refine lv_iand hx hb dX2_stayingBehind_28 ?_
    refine z_i (y := nI (sBh m0 c0 b)) (fa_mask _ _) ?_
    exact W.iret (v := nI (sBh m0 c0 b)) hx hb hr (fun t ht hW => ⟨_, rfl, rfl, ht⟩) (fun _ h => absurd h List.not_mem_nil) dX2_stayingBehind_29
  · exact absurd ((nI_leI (a := 1) (b := m0) (by omega) (by omega)).mpr hm1) c_2

set_option maxHeartbeats 4000000 in
set_option maxRecDepth 100000 in
theorem c_X2_stayingBySome (l : Launch) (dC : Nat → ClassId) (dI : Nat → Nat → Nat) (m0 set b : Nat) (hm1 : 1 ≤ m0) (hm : m0 ≤ 12) (hs : set < 64) (hbb : b < 2 ^ (m0 - 1)) : Met l yX2_stayingBySome wsX2_stayingBySome ({ frames := 1, cells := 0, slots := 0, locals := 24 }) (va_Pc [.int (nI m0), .int (nI set), .int (nI b)] (fun _ => True)) (vp_Si (fun r => r = nI (sBS m0 set b 6))) 0 0 (fun _ => False) := by
  refine Met.ofW (cc := cX2_stayingBySome) (maxL := 5) (ret := (some .int)) (by decide) rfl ?_
  intro p e s m args below meth c s₁ B hml hv
  obtain ⟨rfl, -⟩ := hv
  have hx := B.exec
  have hb := B.bytes
  have hr := B.returns
  have hts := atoms_spec (ws := wsX2_stayingBySome) B.pre
  have hown : s.vm.findClass RX2 = some m.cls := findClass_of_methodNamed B.named
  have hlocks := B.notSynchronized
  have hl := lv_entry ([.int (nI m0), .int (nI set), .int (nI b)]) (n := 5) (Nat.le_of_ble_eq_true rfl)
  rw [lg_entry_eq]
  generalize (lg_sl ([.int (nI m0), .int (nI set), .int (nI b)]) ++ List.replicate (5 - (lg_sl ([.int (nI m0), .int (nI set), .int (nI b)])).length) Slot.unset).toArray = ls at hl ⊢
  have hl : lv_has ls 5 [(0, .int (nI m0)), (1, .int (nI set)), (2, .int (nI b))] := hl
  have hp12 : (2 : Nat) ^ (m0 - 1) ≤ 2 ^ 11 := Nat.pow_le_pow_right (by decide) (by omega)
  refine lv_iconst (v := 0) hx hb dX2_stayingBySome_0 (by decide) ?_
  refine lv_istore_n (lv' := [(3, .int 0), (0, .int (nI m0)), (1, .int (nI set)), (2, .int (nI b))]) hx hb dX2_stayingBySome_1 rfl hl (by decide) rfl (fun ls hl => ?_)
  refine lv_iconst (v := 1) hx hb dX2_stayingBySome_2 (by decide) ?_
  refine lv_istore (lv' := [(4, .int 1), (3, .int 0), (0, .int (nI m0)), (1, .int (nI set)), (2, .int (nI b))]) hx hb dX2_stayingBySome_3 hl (by decide) rfl (fun ls hl => ?_)
  refine W_loopR (σ := Nat) (fun c0 ls => lv_has ls 5 [(0, .int (nI m0)), (1, .int (nI set)), (2, .int (nI b)), (3, .int (nI (sBS m0 set b c0))), (4, .int (nI (c0 + 1)))] ∧ c0 ≤ 6) (fun c0 => 6 - c0) ?_ 0 ⟨lv_sub hl [2, 3, 4, 1, 0] rfl, (by omega)⟩
  rintro c0 ls ⟨hl, hc⟩ ih_5
  refine lv_iload hx hb dX2_stayingBySome_5 (lv_at hl 4 rfl) ?_
  refine lv_bipush (v := 6) hx hb dX2_stayingBySome_7 (by decide) ?_
  refine lv_icmp_gt (tgt := 37) hx hb dX2_stayingBySome_9 (by decide) (fun c_9 => ?_) (fun c_9 => ?_)
  · have c_9 : 6 < c0 + 1 := (nI_ltI (a := 6) (b := c0 + 1) (by omega) (by omega)).mp c_9
    refine lv_iload_n hx hb dX2_stayingBySome_37 rfl (lv_at hl 3 rfl) ?_
    exact W.iret (v := nI (sBS m0 set b c0)) hx hb hr (fun t ht hW => ⟨_, rfl, by rw [show c0 = 6 by omega], ht⟩) (fun _ h => absurd h List.not_mem_nil) dX2_stayingBySome_38
  · have c_9 : c0 + 1 ≤ 6 := Nat.le_of_not_lt (fun h => c_9 ((nI_ltI (a := 6) (b := c0 + 1) (by omega) (by omega)).mpr h))
    refine lv_iload_n hx hb dX2_stayingBySome_12 rfl (lv_at hl 1 rfl) ?_
    refine lv_iload hx hb dX2_stayingBySome_13 (lv_at hl 4 rfl) ?_
    refine vp_callSi (va_Run.run (va_runS (As := [.int (nI set), .int (nI (c0 + 1))]) (rest := []) ⟨hx, hb, hml, hown, hts⟩ (c_X2_isChosen l dC dI set c0 hs (by omega)) (va_cwS 2 hts gX2_stayingBySome_X2_isChosen rfl rfl rfl (by decide +kernel) ⟨Nat.le_of_ble_eq_true rfl, Nat.le_of_ble_eq_true rfl⟩) ⟨fun a U g mk q => ⟨q.1, trivial⟩, fun U hU hW => ⟨rfl, trivial⟩⟩ rfl rfl hl.1 rfl (lv_room (Nat.le_of_ble_eq_true rfl)) dX2_stayingBySome_15 ⟨Nat.zero_le _, Nat.zero_le _⟩)) (fun r_15 hr_15 => ?_)
    subst hr_15
    refine lv_if_eq (tgt := 31) hx hb dX2_stayingBySome_18 (by decide) (fun c_18 => ?_) (fun c_18 => ?_)
    · have c_18 := zb_0.mp c_18
      rw [show sBS m0 set b c0 = sBS m0 set b (c0 + 1) by simp [sBS, c_18]] at hl
      refine lv_iinc (v := nI (c0 + 1 + 1)) (lv' := [(4, .int (nI (c0 + 1 + 1))), (0, .int (nI m0)), (1, .int (nI set)), (2, .int (nI b)), (3, .int (nI (sBS m0 set b (c0 + 1))))]) hx hb dX2_stayingBySome_31 hl (k := 4) rfl (nI_1 _) (by decide) rfl (fun ls hl => ?_)
      refine lv_goto (tgt := 5) hx hb dX2_stayingBySome_34 (by decide) ?_
      exact ih_5 (c0 + 1) _ (by omega) ⟨lv_sub hl [1, 2, 3, 4, 0] rfl, (by omega)⟩
    · have c_18 := zb_n.mp c_18
      refine lv_iload_n hx hb dX2_stayingBySome_21 rfl (lv_at hl 3 rfl) ?_
      refine lv_iload_n hx hb dX2_stayingBySome_22 rfl (lv_at hl 0 rfl) ?_
      refine lv_iload hx hb dX2_stayingBySome_23 (lv_at hl 4 rfl) ?_
      refine lv_iload_n hx hb dX2_stayingBySome_25 rfl (lv_at hl 2 rfl) ?_
      refine vp_callSi (va_Run.run (va_runS (As := [.int (nI m0), .int (nI (c0 + 1)), .int (nI b)]) (rest := [.int (nI (sBS m0 set b c0))]) ⟨hx, hb, hml, hown, hts⟩ (c_X2_stayingBehind l dC dI m0 (c0 + 1) b hm1 hm (by omega) (by omega)) (va_cwS 3 hts gX2_stayingBySome_X2_stayingBehind rfl rfl rfl (by decide +kernel) ⟨Nat.le_of_ble_eq_true rfl, Nat.le_of_ble_eq_true rfl⟩) ⟨fun a U g mk q => ⟨q.1, trivial⟩, fun U hU hW => ⟨rfl, trivial⟩⟩ rfl rfl hl.1 rfl (lv_room (Nat.le_of_ble_eq_true rfl)) dX2_stayingBySome_26 ⟨Nat.zero_le _, Nat.zero_le _⟩)) (fun r_26 hr_26 => ?_)
      subst hr_26
      refine lv_ior hx hb dX2_stayingBySome_29 ?_
      refine z_i (y := nI (sBS m0 set b (c0 + 1))) (by rw [fa_or]; simp [sBS, c_18]) ?_
      refine lv_istore_n (lv' := [(3, .int (nI (sBS m0 set b (c0 + 1)))), (0, .int (nI m0)), (1, .int (nI set)), (2, .int (nI b)), (4, .int (nI (c0 + 1)))]) hx hb dX2_stayingBySome_30 rfl hl (by decide) rfl (fun ls hl => ?_)
      refine lv_iinc (v := nI (c0 + 1 + 1)) (lv' := [(4, .int (nI (c0 + 1 + 1))), (3, .int (nI (sBS m0 set b (c0 + 1)))), (0, .int (nI m0)), (1, .int (nI set)), (2, .int (nI b))]) hx hb dX2_stayingBySome_31 hl (k := 4) rfl (nI_1 _) (by decide) rfl (fun ls hl => ?_)
      refine lv_goto (tgt := 5) hx hb dX2_stayingBySome_34 (by decide) ?_
      exact ih_5 (c0 + 1) _ (by omega) ⟨lv_sub hl [2, 3, 4, 1, 0] rfl, (by omega)⟩

set_option maxHeartbeats 4000000 in
set_option maxRecDepth 100000 in
theorem c_X2_stayingByAll (l : Launch) (dC : Nat → ClassId) (dI : Nat → Nat → Nat) (m0 set b : Nat) (hm1 : 1 ≤ m0) (hm : m0 ≤ 12) (hs : set < 64) (hbb : b < 2 ^ (m0 - 1)) : Met l yX2_stayingByAll wsX2_stayingByAll ({ frames := 1, cells := 0, slots := 0, locals := 24 }) (va_Pc [.int (nI m0), .int (nI set), .int (nI b)] (fun _ => True)) (vp_Si (fun r => r = nI (sBA m0 set b 6))) 0 0 (fun _ => False) := by
  refine Met.ofW (cc := cX2_stayingByAll) (maxL := 5) (ret := (some .int)) (by decide) rfl ?_
  intro p e s m args below meth c s₁ B hml hv
  obtain ⟨rfl, -⟩ := hv
  have hx := B.exec
  have hb := B.bytes
  have hr := B.returns
  have hts := atoms_spec (ws := wsX2_stayingByAll) B.pre
  have hown : s.vm.findClass RX2 = some m.cls := findClass_of_methodNamed B.named
  have hlocks := B.notSynchronized
  have hl := lv_entry ([.int (nI m0), .int (nI set), .int (nI b)]) (n := 5) (Nat.le_of_ble_eq_true rfl)
  rw [lg_entry_eq]
  generalize (lg_sl ([.int (nI m0), .int (nI set), .int (nI b)]) ++ List.replicate (5 - (lg_sl ([.int (nI m0), .int (nI set), .int (nI b)])).length) Slot.unset).toArray = ls at hl ⊢
  have hl : lv_has ls 5 [(0, .int (nI m0)), (1, .int (nI set)), (2, .int (nI b))] := hl
  have hp12 : (2 : Nat) ^ (m0 - 1) ≤ 2 ^ 11 := Nat.pow_le_pow_right (by decide) (by omega)
  refine lv_iconst (v := 1) hx hb dX2_stayingByAll_0 (by decide) ?_
  refine lv_iload_n hx hb dX2_stayingByAll_1 rfl (lv_at hl 0 rfl) ?_
  refine lv_ishl hx hb dX2_stayingByAll_2 ?_
  refine z_i (y := nI (2 ^ m0)) (sh1 (by omega)) ?_
  refine lv_iconst (v := 1) hx hb dX2_stayingByAll_3 (by decide) ?_
  refine lv_isub hx hb dX2_stayingByAll_4 ?_
  refine z_i (y := nI (2 ^ m0 - 1)) (pow_m1) ?_
  refine lv_istore_n (lv' := [(3, .int (nI (2 ^ m0 - 1))), (0, .int (nI m0)), (1, .int (nI set)), (2, .int (nI b))]) hx hb dX2_stayingByAll_5 rfl hl (by decide) rfl (fun ls hl => ?_)
  refine lv_iconst (v := 1) hx hb dX2_stayingByAll_6 (by decide) ?_
  refine lv_istore (lv' := [(4, .int 1), (3, .int (nI (2 ^ m0 - 1))), (0, .int (nI m0)), (1, .int (nI set)), (2, .int (nI b))]) hx hb dX2_stayingByAll_7 hl (by decide) rfl (fun ls hl => ?_)
  refine W_loopR (σ := Nat) (fun c0 ls => lv_has ls 5 [(0, .int (nI m0)), (1, .int (nI set)), (2, .int (nI b)), (3, .int (nI (sBA m0 set b c0))), (4, .int (nI (c0 + 1)))] ∧ c0 ≤ 6) (fun c0 => 6 - c0) ?_ 0 ⟨lv_sub hl [2, 3, 4, 1, 0] rfl, (by omega)⟩
  rintro c0 ls ⟨hl, hc⟩ ih_9
  refine lv_iload hx hb dX2_stayingByAll_9 (lv_at hl 4 rfl) ?_
  refine lv_bipush (v := 6) hx hb dX2_stayingByAll_11 (by decide) ?_
  refine lv_icmp_gt (tgt := 41) hx hb dX2_stayingByAll_13 (by decide) (fun c_13 => ?_) (fun c_13 => ?_)
  · have c_13 : 6 < c0 + 1 := (nI_ltI (a := 6) (b := c0 + 1) (by omega) (by omega)).mp c_13
    refine lv_iload_n hx hb dX2_stayingByAll_41 rfl (lv_at hl 3 rfl) ?_
    exact W.iret (v := nI (sBA m0 set b c0)) hx hb hr (fun t ht hW => ⟨_, rfl, by rw [show c0 = 6 by omega], ht⟩) (fun _ h => absurd h List.not_mem_nil) dX2_stayingByAll_42
  · have c_13 : c0 + 1 ≤ 6 := Nat.le_of_not_lt (fun h => c_13 ((nI_ltI (a := 6) (b := c0 + 1) (by omega) (by omega)).mpr h))
    refine lv_iload_n hx hb dX2_stayingByAll_16 rfl (lv_at hl 1 rfl) ?_
    refine lv_iload hx hb dX2_stayingByAll_17 (lv_at hl 4 rfl) ?_
    refine vp_callSi (va_Run.run (va_runS (As := [.int (nI set), .int (nI (c0 + 1))]) (rest := []) ⟨hx, hb, hml, hown, hts⟩ (c_X2_isChosen l dC dI set c0 hs (by omega)) (va_cwS 2 hts gX2_stayingByAll_X2_isChosen rfl rfl rfl (by decide +kernel) ⟨Nat.le_of_ble_eq_true rfl, Nat.le_of_ble_eq_true rfl⟩) ⟨fun a U g mk q => ⟨q.1, trivial⟩, fun U hU hW => ⟨rfl, trivial⟩⟩ rfl rfl hl.1 rfl (lv_room (Nat.le_of_ble_eq_true rfl)) dX2_stayingByAll_19 ⟨Nat.zero_le _, Nat.zero_le _⟩)) (fun r_19 hr_19 => ?_)
    subst hr_19
    refine lv_if_eq (tgt := 35) hx hb dX2_stayingByAll_22 (by decide) (fun c_22 => ?_) (fun c_22 => ?_)
    · have c_22 := zb_0.mp c_22
      rw [show sBA m0 set b c0 = sBA m0 set b (c0 + 1) by simp [sBA, c_22]] at hl
      refine lv_iinc (v := nI (c0 + 1 + 1)) (lv' := [(4, .int (nI (c0 + 1 + 1))), (0, .int (nI m0)), (1, .int (nI set)), (2, .int (nI b)), (3, .int (nI (sBA m0 set b (c0 + 1))))]) hx hb dX2_stayingByAll_35 hl (k := 4) rfl (nI_1 _) (by decide) rfl (fun ls hl => ?_)
      refine lv_goto (tgt := 9) hx hb dX2_stayingByAll_38 (by decide) ?_
      exact ih_9 (c0 + 1) _ (by omega) ⟨lv_sub hl [1, 2, 3, 4, 0] rfl, (by omega)⟩
    · have c_22 := zb_n.mp c_22
      refine lv_iload_n hx hb dX2_stayingByAll_25 rfl (lv_at hl 3 rfl) ?_
      refine lv_iload_n hx hb dX2_stayingByAll_26 rfl (lv_at hl 0 rfl) ?_
      refine lv_iload hx hb dX2_stayingByAll_27 (lv_at hl 4 rfl) ?_
      refine lv_iload_n hx hb dX2_stayingByAll_29 rfl (lv_at hl 2 rfl) ?_
      refine vp_callSi (va_Run.run (va_runS (As := [.int (nI m0), .int (nI (c0 + 1)), .int (nI b)]) (rest := [.int (nI (sBA m0 set b c0))]) ⟨hx, hb, hml, hown, hts⟩ (c_X2_stayingBehind l dC dI m0 (c0 + 1) b hm1 hm (by omega) (by omega)) (va_cwS 3 hts gX2_stayingByAll_X2_stayingBehind rfl rfl rfl (by decide +kernel) ⟨Nat.le_of_ble_eq_true rfl, Nat.le_of_ble_eq_true rfl⟩) ⟨fun a U g mk q => ⟨q.1, trivial⟩, fun U hU hW => ⟨rfl, trivial⟩⟩ rfl rfl hl.1 rfl (lv_room (Nat.le_of_ble_eq_true rfl)) dX2_stayingByAll_30 ⟨Nat.zero_le _, Nat.zero_le _⟩)) (fun r_30 hr_30 => ?_)
      subst hr_30
      refine lv_iand hx hb dX2_stayingByAll_33 ?_
      refine z_i (y := nI (sBA m0 set b (c0 + 1))) (by rw [fa_and]; simp [sBA, c_22]) ?_
      refine lv_istore_n (lv' := [(3, .int (nI (sBA m0 set b (c0 + 1)))), (0, .int (nI m0)), (1, .int (nI set)), (2, .int (nI b)), (4, .int (nI (c0 + 1)))]) hx hb dX2_stayingByAll_34 rfl hl (by decide) rfl (fun ls hl => ?_)
      refine lv_iinc (v := nI (c0 + 1 + 1)) (lv' := [(4, .int (nI (c0 + 1 + 1))), (3, .int (nI (sBA m0 set b (c0 + 1)))), (0, .int (nI m0)), (1, .int (nI set)), (2, .int (nI b))]) hx hb dX2_stayingByAll_35 hl (k := 4) rfl (nI_1 _) (by decide) rfl (fun ls hl => ?_)
      refine lv_goto (tgt := 9) hx hb dX2_stayingByAll_38 (by decide) ?_
      exact ih_9 (c0 + 1) _ (by omega) ⟨lv_sub hl [2, 3, 4, 1, 0] rfl, (by omega)⟩

set_option maxHeartbeats 4000000 in
set_option maxRecDepth 100000 in
theorem c_X2_may (l : Launch) (dC : Nat → ClassId) (dI : Nat → Nat → Nat) (h0 : Nat) (n set : Int32) : Met l yX2_may wsX2_may ({ frames := 2, cells := 0, slots := 0, locals := 48 }) (va_Pc [.ref h0, .int n, .int set] (fun _ => True)) (vp_Si (fun r => r = spMay n set)) 0 0 (fun _ => False) := by
  refine Met.ofW (cc := cX2_may) (maxL := 5) (ret := (some .int)) (by decide) rfl ?_
  intro p e s m args below meth c s₁ B hml hv
  obtain ⟨rfl, -⟩ := hv
  have hx := B.exec
  have hb := B.bytes
  have hr := B.returns
  have hts := atoms_spec (ws := wsX2_may) B.pre
  have hown : s.vm.findClass RX2 = some m.cls := findClass_of_methodNamed B.named
  have hlocks := B.notSynchronized
  have hl := lv_entry ([.ref h0, .int n, .int set]) (n := 5) (Nat.le_of_ble_eq_true rfl)
  rw [lg_entry_eq]
  generalize (lg_sl ([.ref h0, .int n, .int set]) ++ List.replicate (5 - (lg_sl ([.ref h0, .int n, .int set])).length) Slot.unset).toArray = ls at hl ⊢
  have hl : lv_has ls 5 [(0, .ref h0), (1, .int n), (2, .int set)] := hl
  refine lv_iload_n hx hb dX2_may_0 rfl (lv_at hl 1 rfl) ?_
  refine lv_i2l (v := n.toInt64) hx hb dX2_may_1 rfl ?_
  refine lv_lconst (v := 1) hx hb dX2_may_2 (by decide) ?_
  refine lv_ldc2 (v := 12) hx hb hown (hts (.constantLong RX2 143 (12)) (by decide +kernel)) dX2_may_3 ?_
  refine vp_callSi (va_Run.run (va_runS (As := [.long n.toInt64, .long 1, .long 12]) (rest := []) ⟨hx, hb, hml, hown, hts⟩ (c_X2_isWithin l dC dI n.toInt64 1 12) (va_cwS 3 hts gX2_may_X2_isWithin rfl rfl rfl (by decide +kernel) ⟨Nat.le_of_ble_eq_true rfl, Nat.le_of_ble_eq_true rfl⟩) ⟨fun a U g mk q => ⟨q.1, trivial⟩, fun U hU hW => ⟨rfl, trivial⟩⟩ rfl rfl hl.1 rfl (lv_room (Nat.le_of_ble_eq_true rfl)) dX2_may_6 ⟨Nat.zero_le _, Nat.zero_le _⟩)) (fun r_6 hr_6 => ?_)
  obtain rfl : r_6 = zb (wi n.toInt 1 12) := hr_6.trans (by rw [i2l_toInt]; rfl)
  refine lv_if_eq (tgt := 19) hx hb dX2_may_9 (by decide) (fun c_9 => ?_) (fun c_9 => ?_)
  · have c_9 := zb_0.mp c_9
    refine lv_iconst (v := (-1)) hx hb dX2_may_19 (by decide) ?_
    exact W.iret (v := (-1)) hx hb hr (fun t ht hW => ⟨_, rfl, by unfold spMay; first | (rw [c_9, Bool.false_and, if_neg (by decide)]) | (rw [c_9, c_16, Bool.true_and, if_neg (by decide)]), ht⟩) (fun _ h => absurd h List.not_mem_nil) dX2_may_20
  · have c_9 := zb_n.mp c_9
    refine lv_iload_n hx hb dX2_may_12 rfl (lv_at hl 2 rfl) ?_
    refine vp_callSi (va_Run.run (va_runS (As := [.int set]) (rest := []) ⟨hx, hb, hml, hown, hts⟩ (c_X2_isChosenSet l dC dI set) (va_cwS 1 hts gX2_may_X2_isChosenSet rfl rfl rfl (by decide +kernel) ⟨Nat.le_of_ble_eq_true rfl, Nat.le_of_ble_eq_true rfl⟩) ⟨fun a U g mk q => ⟨q.1, trivial⟩, fun U hU hW => ⟨rfl, trivial⟩⟩ rfl rfl hl.1 rfl (lv_room (Nat.le_of_ble_eq_true rfl)) dX2_may_13 ⟨Nat.zero_le _, Nat.zero_le _⟩)) (fun r_13 hr_13 => ?_)
    subst hr_13
    refine lv_if_ne (tgt := 21) hx hb dX2_may_16 (by decide) (fun c_16 => ?_) (fun c_16 => ?_)
    · have c_16 := zb_n.mp c_16
      obtain ⟨n1, hn1, hn2, rfl⟩ := nI_wi (a := 1) (b := 12) c_9
      obtain ⟨set1, hset1, hset2, rfl⟩ := nI_wi (a := 1) (b := 63) c_16
      refine lv_iconst (v := 1) hx hb dX2_may_21 (by decide) ?_
      refine lv_istore_n (lv' := [(3, .int 1), (0, .ref h0), (1, .int (nI n1)), (2, .int (nI set1))]) hx hb dX2_may_22 rfl hl (by decide) rfl (fun ls hl => ?_)
      refine lv_iconst (v := 2) hx hb dX2_may_23 (by decide) ?_
      refine lv_istore (lv' := [(4, .int 2), (3, .int 1), (0, .ref h0), (1, .int (nI n1)), (2, .int (nI set1))]) hx hb dX2_may_24 hl (by decide) rfl (fun ls hl => ?_)
      refine W_loopR (σ := Nat) (fun k ls => lv_has ls 5 [(1, .int (nI n1)), (2, .int (nI set1)), (3, .int (nI (mayN set1 k))), (4, .int (nI (k + 2)))] ∧ k + 1 ≤ n1) (fun k => n1 - k) ?_ 0 ⟨lv_sub hl [3, 4, 1, 0] rfl, hn1⟩
      rintro k ls ⟨hl, hk⟩ ih_26
      refine lv_iload hx hb dX2_may_26 (lv_at hl 3 rfl) ?_
      refine lv_iload_n hx hb dX2_may_28 rfl (lv_at hl 0 rfl) ?_
      refine lv_icmp_gt (tgt := 46) hx hb dX2_may_29 (by decide) (fun c_29 => ?_) (fun c_29 => ?_)
      · have c_29 : n1 < k + 2 := (nI_ltI (a := n1) (b := k + 2) (by omega) (by omega)).mp c_29
        refine lv_iload_n hx hb dX2_may_46 rfl (lv_at hl 2 rfl) ?_
        exact W.iret (v := nI (mayN set1 k)) hx hb hr (fun t ht hW => ⟨_, rfl, by rw [← spMay_t hn1 hn2 hset1 hset2, show n1 - 1 = k by omega], ht⟩) (fun _ h => absurd h List.not_mem_nil) dX2_may_47
      · have c_29 : k + 2 ≤ n1 := Nat.le_of_not_lt (fun h => c_29 ((nI_ltI (a := n1) (b := k + 2) (by omega) (by omega)).mpr h))
        refine lv_iload hx hb dX2_may_32 (lv_at hl 3 rfl) ?_
        refine lv_iload_n hx hb dX2_may_34 rfl (lv_at hl 1 rfl) ?_
        refine lv_iload_n hx hb dX2_may_35 rfl (lv_at hl 2 rfl) ?_
        refine vp_callSi (va_Run.run (va_runS (As := [.int (nI (k + 2)), .int (nI set1), .int (nI (mayN set1 k))]) (rest := []) ⟨hx, hb, hml, hown, hts⟩ (c_X2_stayingBySome l dC dI (k + 2) set1 (mayN set1 k) (by omega) (by omega) (by omega) (mayN_lt set1 k)) (va_cwS 3 hts gX2_may_X2_stayingBySome rfl rfl rfl (by decide +kernel) ⟨Nat.le_of_ble_eq_true rfl, Nat.le_of_ble_eq_true rfl⟩) ⟨fun a U g mk q => ⟨q.1, trivial⟩, fun U hU hW => ⟨rfl, trivial⟩⟩ rfl rfl hl.1 rfl (lv_room (Nat.le_of_ble_eq_true rfl)) dX2_may_36 ⟨Nat.zero_le _, Nat.zero_le _⟩)) (fun r_36 hr_36 => ?_)
        obtain rfl : r_36 = nI (mayN set1 (k + 1)) := hr_36
        refine lv_istore_n (lv' := [(3, .int (nI (mayN set1 (k + 1)))), (1, .int (nI n1)), (2, .int (nI set1)), (4, .int (nI (k + 2)))]) hx hb dX2_may_39 rfl hl (by decide) rfl (fun ls hl => ?_)
        refine lv_iinc (v := nI (k + 1 + 2)) (lv' := [(4, .int (nI (k + 1 + 2))), (3, .int (nI (mayN set1 (k + 1)))), (1, .int (nI n1)), (2, .int (nI set1))]) hx hb dX2_may_40 hl (k := 3) rfl (nI_1 (k + 2)) (by decide) rfl (fun ls hl => ?_)
        refine lv_goto (tgt := 26) hx hb dX2_may_43 (by decide) ?_
        exact ih_26 (k + 1) _ (by omega) ⟨lv_sub hl [2, 3, 1, 0] rfl, (by omega)⟩
    · have c_16 := zb_0.mp c_16
      refine lv_iconst (v := (-1)) hx hb dX2_may_19 (by decide) ?_
      exact W.iret (v := (-1)) hx hb hr (fun t ht hW => ⟨_, rfl, by unfold spMay; first | (rw [c_9, Bool.false_and, if_neg (by decide)]) | (rw [c_9, c_16, Bool.true_and, if_neg (by decide)]), ht⟩) (fun _ h => absurd h List.not_mem_nil) dX2_may_20

set_option maxHeartbeats 4000000 in
set_option maxRecDepth 100000 in
theorem c_X2_can (l : Launch) (dC : Nat → ClassId) (dI : Nat → Nat → Nat) (h0 : Nat) (n own foe : Int32) : Met l yX2_can wsX2_can ({ frames := 2, cells := 0, slots := 0, locals := 48 }) (va_Pc [.ref h0, .int n, .int own, .int foe] (fun _ => True)) (vp_Si (fun r => r = spCan n own foe)) 0 0 (fun _ => False) := by
  refine Met.ofW (cc := cX2_can) (maxL := 7) (ret := (some .int)) (by decide) rfl ?_
  intro p e s m args below meth c s₁ B hml hv
  obtain ⟨rfl, -⟩ := hv
  have hx := B.exec
  have hb := B.bytes
  have hr := B.returns
  have hts := atoms_spec (ws := wsX2_can) B.pre
  have hown : s.vm.findClass RX2 = some m.cls := findClass_of_methodNamed B.named
  have hlocks := B.notSynchronized
  have hl := lv_entry ([.ref h0, .int n, .int own, .int foe]) (n := 7) (Nat.le_of_ble_eq_true rfl)
  rw [lg_entry_eq]
  generalize (lg_sl ([.ref h0, .int n, .int own, .int foe]) ++ List.replicate (7 - (lg_sl ([.ref h0, .int n, .int own, .int foe])).length) Slot.unset).toArray = ls at hl ⊢
  have hl : lv_has ls 7 [(0, .ref h0), (1, .int n), (2, .int own), (3, .int foe)] := hl
  refine lv_iload_n hx hb dX2_can_0 rfl (lv_at hl 1 rfl) ?_
  refine lv_i2l (v := n.toInt64) hx hb dX2_can_1 rfl ?_
  refine lv_lconst (v := 1) hx hb dX2_can_2 (by decide) ?_
  refine lv_ldc2 (v := 12) hx hb hown (hts (.constantLong RX2 143 (12)) (by decide +kernel)) dX2_can_3 ?_
  refine vp_callSi (va_Run.run (va_runS (As := [.long n.toInt64, .long 1, .long 12]) (rest := []) ⟨hx, hb, hml, hown, hts⟩ (c_X2_isWithin l dC dI n.toInt64 1 12) (va_cwS 3 hts gX2_can_X2_isWithin rfl rfl rfl (by decide +kernel) ⟨Nat.le_of_ble_eq_true rfl, Nat.le_of_ble_eq_true rfl⟩) ⟨fun a U g mk q => ⟨q.1, trivial⟩, fun U hU hW => ⟨rfl, trivial⟩⟩ rfl rfl hl.1 rfl (lv_room (Nat.le_of_ble_eq_true rfl)) dX2_can_6 ⟨Nat.zero_le _, Nat.zero_le _⟩)) (fun r_6 hr_6 => ?_)
  obtain rfl : r_6 = zb (wi n.toInt 1 12) := hr_6.trans (by rw [i2l_toInt]; rfl)
  refine lv_if_eq (tgt := 26) hx hb dX2_can_9 (by decide) (fun c_9 => ?_) (fun c_9 => ?_)
  · have c_9 := zb_0.mp c_9
    refine lv_iconst (v := (-1)) hx hb dX2_can_26 (by decide) ?_
    exact W.iret (v := (-1)) hx hb hr (fun t ht hW => ⟨_, rfl, by unfold spCan; first | (rw [c_9, Bool.false_and, Bool.false_and, if_neg (by decide)]) | (rw [c_9, c_16, Bool.true_and, Bool.false_and, if_neg (by decide)]) | (rw [c_9, c_16, c_23, Bool.true_and, Bool.true_and, if_neg (by decide)]), ht⟩) (fun _ h => absurd h List.not_mem_nil) dX2_can_27
  · have c_9 := zb_n.mp c_9
    refine lv_iload_n hx hb dX2_can_12 rfl (lv_at hl 2 rfl) ?_
    refine vp_callSi (va_Run.run (va_runS (As := [.int own]) (rest := []) ⟨hx, hb, hml, hown, hts⟩ (c_X2_isChosenSet l dC dI own) (va_cwS 1 hts gX2_can_X2_isChosenSet rfl rfl rfl (by decide +kernel) ⟨Nat.le_of_ble_eq_true rfl, Nat.le_of_ble_eq_true rfl⟩) ⟨fun a U g mk q => ⟨q.1, trivial⟩, fun U hU hW => ⟨rfl, trivial⟩⟩ rfl rfl hl.1 rfl (lv_room (Nat.le_of_ble_eq_true rfl)) dX2_can_13 ⟨Nat.zero_le _, Nat.zero_le _⟩)) (fun r_13 hr_13 => ?_)
    subst hr_13
    refine lv_if_eq (tgt := 26) hx hb dX2_can_16 (by decide) (fun c_16 => ?_) (fun c_16 => ?_)
    · have c_16 := zb_0.mp c_16
      refine lv_iconst (v := (-1)) hx hb dX2_can_26 (by decide) ?_
      exact W.iret (v := (-1)) hx hb hr (fun t ht hW => ⟨_, rfl, by unfold spCan; first | (rw [c_9, Bool.false_and, Bool.false_and, if_neg (by decide)]) | (rw [c_9, c_16, Bool.true_and, Bool.false_and, if_neg (by decide)]) | (rw [c_9, c_16, c_23, Bool.true_and, Bool.true_and, if_neg (by decide)]), ht⟩) (fun _ h => absurd h List.not_mem_nil) dX2_can_27
    · have c_16 := zb_n.mp c_16
      refine lv_iload_n hx hb dX2_can_19 rfl (lv_at hl 3 rfl) ?_
      refine vp_callSi (va_Run.run (va_runS (As := [.int foe]) (rest := []) ⟨hx, hb, hml, hown, hts⟩ (c_X2_isChosenSet l dC dI foe) (va_cwS 1 hts gX2_can_X2_isChosenSet rfl rfl rfl (by decide +kernel) ⟨Nat.le_of_ble_eq_true rfl, Nat.le_of_ble_eq_true rfl⟩) ⟨fun a U g mk q => ⟨q.1, trivial⟩, fun U hU hW => ⟨rfl, trivial⟩⟩ rfl rfl hl.1 rfl (lv_room (Nat.le_of_ble_eq_true rfl)) dX2_can_20 ⟨Nat.zero_le _, Nat.zero_le _⟩)) (fun r_20 hr_20 => ?_)
      subst hr_20
      refine lv_if_ne (tgt := 28) hx hb dX2_can_23 (by decide) (fun c_23 => ?_) (fun c_23 => ?_)
      · have c_23 := zb_n.mp c_23
        obtain ⟨n1, hn1, hn2, rfl⟩ := nI_wi (a := 1) (b := 12) c_9
        obtain ⟨own1, hown1, hown2, rfl⟩ := nI_wi (a := 1) (b := 63) c_16
        obtain ⟨foe1, hfoe1, hfoe2, rfl⟩ := nI_wi (a := 1) (b := 63) c_23
        refine lv_iconst (v := 1) hx hb dX2_can_28 (by decide) ?_
        refine lv_istore (lv' := [(4, .int 1), (0, .ref h0), (1, .int (nI n1)), (2, .int (nI own1)), (3, .int (nI foe1))]) hx hb dX2_can_29 hl (by decide) rfl (fun ls hl => ?_)
        rw [show (1 : Int32) = nI (canK n1 own1 foe1 0) by rw [canK_0]; rfl] at hl
        refine lv_iconst (v := 2) hx hb dX2_can_31 (by decide) ?_
        refine lv_istore (lv' := [(5, .int 2), (4, .int (nI (canK n1 own1 foe1 0))), (0, .ref h0), (1, .int (nI n1)), (2, .int (nI own1)), (3, .int (nI foe1))]) hx hb dX2_can_32 hl (by decide) rfl (fun ls hl => ?_)
        refine W_loopR (σ := Nat) (fun k ls => lv_has ls 7 [(1, .int (nI n1)), (2, .int (nI own1)), (3, .int (nI foe1)), (4, .int (nI (canK n1 own1 foe1 k))), (5, .int (nI (k + 2)))] ∧ k + 1 ≤ n1) (fun k => n1 - k) ?_ 0 ⟨lv_sub hl [3, 4, 5, 1, 0] rfl, hn1⟩
        rintro k ls ⟨hl, hk⟩ ih_34
        refine lv_iload hx hb dX2_can_34 (lv_at hl 4 rfl) ?_
        refine lv_iload_n hx hb dX2_can_36 rfl (lv_at hl 0 rfl) ?_
        refine lv_icmp_gt (tgt := 88) hx hb dX2_can_37 (by decide) (fun c_37 => ?_) (fun c_37 => ?_)
        · have c_37 : n1 < k + 2 := (nI_ltI (a := n1) (b := k + 2) (by omega) (by omega)).mp c_37
          refine lv_iload hx hb dX2_can_88 (lv_at hl 3 rfl) ?_
          exact W.iret (v := nI (canK n1 own1 foe1 k)) hx hb hr (fun t ht hW => ⟨_, rfl, by rw [← spCan_t hn1 hn2 hown1 hown2 hfoe1 hfoe2, show n1 - 1 = k by omega]; unfold canK; rw [show n1 - (k + 1) = 0 by omega]; rfl, ht⟩) (fun _ h => absurd h List.not_mem_nil) dX2_can_90
        · have c_37 : k + 2 ≤ n1 := Nat.le_of_not_lt (fun h => c_37 ((nI_ltI (a := n1) (b := k + 2) (by omega) (by omega)).mpr h))
          refine lv_iload_n hx hb dX2_can_40 rfl (lv_at hl 0 rfl) ?_
          refine lv_iload hx hb dX2_can_41 (lv_at hl 4 rfl) ?_
          refine lv_isub hx hb dX2_can_43 ?_
          refine z_i (y := nI (n1 - (k + 2))) (pk_sub (by omega)) ?_
          refine lv_iconst (v := 2) hx hb dX2_can_44 (by decide) ?_
          refine lv_irem hx hb dX2_can_45 (by decide) ?_
          refine z_i (y := nI ((n1 - (k + 2)) % 2)) (pk_rem (d := 2) (by omega) (by omega) (by omega)) ?_
          refine lv_if_ne (tgt := 53) hx hb dX2_can_46 (by decide) (fun c_46 => ?_) (fun c_46 => ?_)
          · have c_46 : ¬ (n1 - (k + 2)) % 2 = 0 := fun h => c_46 ((nI_eq (b := 0) (by omega) (by omega)).mpr h)
            refine lv_iconst (v := 0) hx hb dX2_can_53 (by decide) ?_
            refine lv_istore (lv' := [(6, .int 0), (1, .int (nI n1)), (2, .int (nI own1)), (3, .int (nI foe1)), (4, .int (nI (canK n1 own1 foe1 k))), (5, .int (nI (k + 2)))]) hx hb dX2_can_54 hl (by decide) rfl (fun ls hl => ?_)
            refine lv_iload hx hb dX2_can_56 (lv_at hl 0 rfl) ?_
            refine lv_if_eq (tgt := 72) hx hb dX2_can_58 (by decide) (fun c_58 => ?_) (fun c_58 => ?_)
            · refine lv_iload hx hb dX2_can_72 (lv_at hl 5 rfl) ?_
              refine lv_iload_n hx hb dX2_can_74 rfl (lv_at hl 3 rfl) ?_
              refine lv_iload hx hb dX2_can_75 (lv_at hl 4 rfl) ?_
              refine vp_callSi (va_Run.run (va_runS (As := [.int (nI (k + 2)), .int (nI foe1), .int (nI (canK n1 own1 foe1 k))]) (rest := []) ⟨hx, hb, hml, hown, hts⟩ (c_X2_stayingByAll l dC dI (k + 2) foe1 (canK n1 own1 foe1 k) (by omega) (by omega) (by omega) (canK_lt n1 own1 foe1 k)) (va_cwS 3 hts gX2_can_X2_stayingByAll rfl rfl rfl (by decide +kernel) ⟨Nat.le_of_ble_eq_true rfl, Nat.le_of_ble_eq_true rfl⟩) ⟨fun a U g mk q => ⟨q.1, trivial⟩, fun U hU hW => ⟨rfl, trivial⟩⟩ rfl rfl hl.1 rfl (lv_room (Nat.le_of_ble_eq_true rfl)) dX2_can_77 ⟨Nat.zero_le _, Nat.zero_le _⟩)) (fun r_77 hr_77 => ?_)
              obtain rfl : r_77 = nI (canK n1 own1 foe1 (k + 1)) := hr_77.trans (congrArg nI (canK_foe c_37 c_46))
              refine lv_istore (lv' := [(4, .int (nI (canK n1 own1 foe1 (k + 1)))), (6, .int 0), (1, .int (nI n1)), (2, .int (nI own1)), (3, .int (nI foe1)), (5, .int (nI (k + 2)))]) hx hb dX2_can_80 hl (by decide) rfl (fun ls hl => ?_)
              refine lv_iinc (v := nI (k + 1 + 2)) (lv' := [(5, .int (nI (k + 1 + 2))), (4, .int (nI (canK n1 own1 foe1 (k + 1)))), (6, .int 0), (1, .int (nI n1)), (2, .int (nI own1)), (3, .int (nI foe1))]) hx hb dX2_can_82 hl (k := 5) rfl (nI_1 (k + 2)) (by decide) rfl (fun ls hl => ?_)
              refine lv_goto (tgt := 34) hx hb dX2_can_85 (by decide) ?_
              exact ih_34 (k + 1) _ (by omega) ⟨lv_sub hl [3, 4, 5, 1, 0] rfl, (by omega)⟩
            · exact absurd rfl c_58
          · have c_46 : (n1 - (k + 2)) % 2 = 0 := (nI_eq (b := 0) (by omega) (by omega)).mp c_46
            refine lv_iconst (v := 1) hx hb dX2_can_49 (by decide) ?_
            refine lv_goto (tgt := 54) hx hb dX2_can_50 (by decide) ?_
            refine lv_istore (lv' := [(6, .int 1), (1, .int (nI n1)), (2, .int (nI own1)), (3, .int (nI foe1)), (4, .int (nI (canK n1 own1 foe1 k))), (5, .int (nI (k + 2)))]) hx hb dX2_can_54 hl (by decide) rfl (fun ls hl => ?_)
            refine lv_iload hx hb dX2_can_56 (lv_at hl 0 rfl) ?_
            refine lv_if_eq (tgt := 72) hx hb dX2_can_58 (by decide) (fun c_58 => ?_) (fun c_58 => ?_)
            · exact absurd c_58 (by decide)
            · refine lv_iload hx hb dX2_can_61 (lv_at hl 5 rfl) ?_
              refine lv_iload_n hx hb dX2_can_63 rfl (lv_at hl 2 rfl) ?_
              refine lv_iload hx hb dX2_can_64 (lv_at hl 4 rfl) ?_
              refine vp_callSi (va_Run.run (va_runS (As := [.int (nI (k + 2)), .int (nI own1), .int (nI (canK n1 own1 foe1 k))]) (rest := []) ⟨hx, hb, hml, hown, hts⟩ (c_X2_stayingBySome l dC dI (k + 2) own1 (canK n1 own1 foe1 k) (by omega) (by omega) (by omega) (canK_lt n1 own1 foe1 k)) (va_cwS 3 hts gX2_can_X2_stayingBySome rfl rfl rfl (by decide +kernel) ⟨Nat.le_of_ble_eq_true rfl, Nat.le_of_ble_eq_true rfl⟩) ⟨fun a U g mk q => ⟨q.1, trivial⟩, fun U hU hW => ⟨rfl, trivial⟩⟩ rfl rfl hl.1 rfl (lv_room (Nat.le_of_ble_eq_true rfl)) dX2_can_66 ⟨Nat.zero_le _, Nat.zero_le _⟩)) (fun r_66 hr_66 => ?_)
              obtain rfl : r_66 = nI (canK n1 own1 foe1 (k + 1)) := hr_66.trans (congrArg nI (canK_own c_37 c_46))
              refine lv_goto (tgt := 80) hx hb dX2_can_69 (by decide) ?_
              refine lv_istore (lv' := [(4, .int (nI (canK n1 own1 foe1 (k + 1)))), (6, .int 1), (1, .int (nI n1)), (2, .int (nI own1)), (3, .int (nI foe1)), (5, .int (nI (k + 2)))]) hx hb dX2_can_80 hl (by decide) rfl (fun ls hl => ?_)
              refine lv_iinc (v := nI (k + 1 + 2)) (lv' := [(5, .int (nI (k + 1 + 2))), (4, .int (nI (canK n1 own1 foe1 (k + 1)))), (6, .int 1), (1, .int (nI n1)), (2, .int (nI own1)), (3, .int (nI foe1))]) hx hb dX2_can_82 hl (k := 5) rfl (nI_1 (k + 2)) (by decide) rfl (fun ls hl => ?_)
              refine lv_goto (tgt := 34) hx hb dX2_can_85 (by decide) ?_
              exact ih_34 (k + 1) _ (by omega) ⟨lv_sub hl [3, 4, 5, 1, 0] rfl, (by omega)⟩
      · have c_23 := zb_0.mp c_23
        refine lv_iconst (v := (-1)) hx hb dX2_can_26 (by decide) ?_
        exact W.iret (v := (-1)) hx hb hr (fun t ht hW => ⟨_, rfl, by unfold spCan; first | (rw [c_9, Bool.false_and, Bool.false_and, if_neg (by decide)]) | (rw [c_9, c_16, Bool.true_and, Bool.false_and, if_neg (by decide)]) | (rw [c_9, c_16, c_23, Bool.true_and, Bool.true_and, if_neg (by decide)]), ht⟩) (fun _ h => absurd h List.not_mem_nil) dX2_can_27

set_option maxHeartbeats 4000000 in
set_option maxRecDepth 100000 in
theorem c_X3_may (l : Launch) (dC : Nat → ClassId) (dI : Nat → Nat → Nat) (sz : Nat) (cA : ClassId) (h0 a3 a4 a5 a9 a11 a12 a14 a15 a16 : Nat) (tr : Int64) (pe st kd wd tn sd : Int32) (n set : Int32) : Met l yX3_may wsX3_may ({ frames := 2, cells := 0, slots := 0, locals := 45 }) (va_Pc [.ref h0, .int n, .int set] (fun U => U.heap.size = sz ∧ va_P (dC, dI) vwCl [(h0, .inr (3, [.int 0, .long tr, .int pe, .ref a3, .ref a4, .ref a5, .int st, .int kd, .int wd, .ref a9, .int tn, .ref a11, .ref a12, .int sd, .ref a14, .ref a15, .ref a16]))] U.heap ∧ va_K (dC, dI) vwCl [(cA, .int)] U ∧ va_D (fun _ => True) [(h0, .inr (3, [.int 0, .long tr, .int pe, .ref a3, .ref a4, .ref a5, .int st, .int kd, .int wd, .ref a9, .int tn, .ref a11, .ref a12, .int sd, .ref a14, .ref a15, .ref a16]))])) (va_Qi (S := Unit) (fun r _ => r = spMay n set) (fun (_ : Unit) (t : State) => va_P (dC, dI) vwCl [(h0, .inr (3, [.int 0, .long tr, .int pe, .ref a3, .ref a4, .ref a5, .int st, .int kd, .int wd, .ref a9, .int tn, .ref a11, .ref a12, .int sd, .ref a14, .ref a15, .ref a16]))] t.heap ∧ va_K (dC, dI) vwCl [(cA, .int)] t ∧ va_D (va_A [(h0, .inr (3, [.int 0, .long tr, .int pe, .ref a3, .ref a4, .ref a5, .int st, .int kd, .int wd, .ref a9, .int tn, .ref a11, .ref a12, .int sd, .ref a14, .ref a15, .ref a16]))] sz) [(h0, .inr (3, [.int 0, .long tr, .int pe, .ref a3, .ref a4, .ref a5, .int st, .int kd, .int wd, .ref a9, .int tn, .ref a11, .ref a12, .int sd, .ref a14, .ref a15, .ref a16]))]) (va_A [(h0, .inr (3, [.int 0, .long tr, .int pe, .ref a3, .ref a4, .ref a5, .int st, .int kd, .int wd, .ref a9, .int tn, .ref a11, .ref a12, .int sd, .ref a14, .ref a15, .ref a16]))] sz)) 0 0 (va_A [(h0, .inr (3, [.int 0, .long tr, .int pe, .ref a3, .ref a4, .ref a5, .int st, .int kd, .int wd, .ref a9, .int tn, .ref a11, .ref a12, .int sd, .ref a14, .ref a15, .ref a16]))] sz) := by
  refine Met.ofW (cc := cX3_may) (maxL := 8) (ret := (some .int)) (by decide) rfl ?_
  intro p e s m args below meth c s₁ B hml hv
  obtain ⟨rfl, hsz, hP, hK, hD0⟩ := hv
  have hx := B.exec
  have hb := B.bytes
  have hr := B.returns
  have hts := atoms_spec (ws := wsX3_may) B.pre
  have hown : s.vm.findClass RX3 = some m.cls := findClass_of_methodNamed B.named
  have hlocks := B.notSynchronized
  subst hsz
  have hD := hD0.self (sz := s.heap.size)
  generalize hAe : va_A [(h0, .inr (3, [.int 0, .long tr, .int pe, .ref a3, .ref a4, .ref a5, .int st, .int kd, .int wd, .ref a9, .int tn, .ref a11, .ref a12, .int sd, .ref a14, .ref a15, .ref a16]))] s.heap.size = A at hD ⊢
  have hA : ∀ q : Nat, s.heap.size ≤ q → A q := fun q h => by rw [← hAe]; exact Or.inr h
  have hS : va_S A s.heap s.heap [] := va_S.rf
  have hP : va_P (dC, dI) vwCl [(h0, .inr (3, [.int 0, .long tr, .int pe, .ref a3, .ref a4, .ref a5, .int st, .int kd, .int wd, .ref a9, .int tn, .ref a11, .ref a12, .int sd, .ref a14, .ref a15, .ref a16]))] s.heap := hP
  have hl := lv_entry ([.ref h0, .int n, .int set]) (n := 8) (Nat.le_of_ble_eq_true rfl)
  rw [lg_entry_eq]
  generalize (lg_sl ([.ref h0, .int n, .int set]) ++ List.replicate (8 - (lg_sl ([.ref h0, .int n, .int set])).length) Slot.unset).toArray = ls at hl ⊢
  have hl : lv_has ls 8 [(0, .ref h0), (1, .int n), (2, .int set)] := hl
  refine lv_aload_n hx hb dX3_may_0 rfl (lv_at hl 0 rfl) ?_
  refine lv_iconst (v := 0) hx hb dX3_may_1 (by decide) ?_
  refine va_put (D := (dC, dI)) (ci := 3) (v := .int 0) (ty := .int) (C := RX3) (T := TX3) (N := 17) hx hb hts (by decide +kernel) tyX3 tyX3_ok nmX3 hown hK hP hD hS 0 rfl rfl 0 (by decide) (hts (.fieldLink RX3 51 "CountedOutModel" "thrown" "I") (by decide +kernel)) (fun _ h9 => h9) rfl (by decide +kernel) rfl rfl (Nat.le_of_ble_eq_true rfl) dX3_may_2 (fun H locs hP hD hS => ?_)
  have hP : va_P (dC, dI) vwCl [(h0, .inr (3, [.int 0, .long tr, .int pe, .ref a3, .ref a4, .ref a5, .int st, .int kd, .int wd, .ref a9, .int tn, .ref a11, .ref a12, .int sd, .ref a14, .ref a15, .ref a16]))] H := hP
  have hD : va_D A [(h0, .inr (3, [.int 0, .long tr, .int pe, .ref a3, .ref a4, .ref a5, .int st, .int kd, .int wd, .ref a9, .int tn, .ref a11, .ref a12, .int sd, .ref a14, .ref a15, .ref a16]))] := hD
  refine lv_iload_n hx hb dX3_may_5 rfl (lv_at hl 1 rfl) ?_
  refine lv_i2l (v := n.toInt64) hx hb dX3_may_6 rfl ?_
  refine lv_lconst (v := 1) hx hb dX3_may_7 (by decide) ?_
  refine lv_ldc2 (v := 12) hx hb hown (hts (.constantLong RX3 139 (12)) (by decide +kernel)) dX3_may_8 ?_
  refine vp_callSi (va_Run.run (va_runS (As := [.long n.toInt64, .long 1, .long 12]) (rest := []) ⟨hx, hb, hml, hown, hts⟩ (c_X3_in l dC dI n.toInt64 1 12) (va_cwS 3 hts gX3_may_X3_in rfl rfl rfl (by decide +kernel) ⟨Nat.le_of_ble_eq_true rfl, Nat.le_of_ble_eq_true rfl⟩) ⟨fun a U g mk q => ⟨q.1, trivial⟩, fun U hU hW => ⟨rfl, trivial⟩⟩ rfl rfl hl.1 rfl (lv_room (Nat.le_of_ble_eq_true rfl)) dX3_may_11 ⟨Nat.zero_le _, Nat.zero_le _⟩)) (fun r_11 hr_11 => ?_)
  obtain rfl : r_11 = zb (wi n.toInt 1 12) := hr_11.trans (by rw [i2l_toInt]; rfl)
  refine lv_if_eq (tgt := 24) hx hb dX3_may_14 (by decide) (fun c_14 => ?_) (fun c_14 => ?_)
  · have c_14 := zb_0.mp c_14
    refine lv_iconst (v := (-1)) hx hb dX3_may_24 (by decide) ?_
    have hP9 := hP.sub (ws' := [(h0, .inr (3, [.int 0, .long tr, .int pe, .ref a3, .ref a4, .ref a5, .int st, .int kd, .int wd, .ref a9, .int tn, .ref a11, .ref a12, .int sd, .ref a14, .ref a15, .ref a16]))]) [0] rfl
    have hD9 := hD.sub (ws' := [(h0, .inr (3, [.int 0, .long tr, .int pe, .ref a3, .ref a4, .ref a5, .int st, .int kd, .int wd, .ref a9, .int tn, .ref a11, .ref a12, .int sd, .ref a14, .ref a15, .ref a16]))]) [0] (by decide) rfl
    exact W.iret (v := (-1)) hx hb hr (fun t ht hW => ⟨⟨_, (), rfl, by unfold spMay; first | (rw [c_14, Bool.false_and, if_neg (by decide)]) | (rw [c_14, c_21, Bool.true_and, if_neg (by decide)]), ⟨by rw [ht]; exact hP9, va_K.moved hW.alike hK, hD9⟩⟩, hS.F ht⟩) hS.2.2 dX3_may_25
  · have c_14 := zb_n.mp c_14
    refine lv_iload_n hx hb dX3_may_17 rfl (lv_at hl 2 rfl) ?_
    refine vp_callSi (va_Run.run (va_runS (As := [.int set]) (rest := []) ⟨hx, hb, hml, hown, hts⟩ (c_X3_isSet l dC dI set) (va_cwS 1 hts gX3_may_X3_isSet rfl rfl rfl (by decide +kernel) ⟨Nat.le_of_ble_eq_true rfl, Nat.le_of_ble_eq_true rfl⟩) ⟨fun a U g mk q => ⟨q.1, trivial⟩, fun U hU hW => ⟨rfl, trivial⟩⟩ rfl rfl hl.1 rfl (lv_room (Nat.le_of_ble_eq_true rfl)) dX3_may_18 ⟨Nat.zero_le _, Nat.zero_le _⟩)) (fun r_18 hr_18 => ?_)
    subst hr_18
    refine lv_if_ne (tgt := 26) hx hb dX3_may_21 (by decide) (fun c_21 => ?_) (fun c_21 => ?_)
    · have c_21 := zb_n.mp c_21
      obtain ⟨n1, hn1, hn2, rfl⟩ := nI_wi (a := 1) (b := 12) c_14
      obtain ⟨set1, hset1, hset2, rfl⟩ := nI_wi (a := 1) (b := 63) c_21
      refine lv_iconst (v := 1) hx hb dX3_may_26 (by decide) ?_
      refine lv_istore_n (lv' := [(3, .int 1), (0, .ref h0), (1, .int (nI n1)), (2, .int (nI set1))]) hx hb dX3_may_27 rfl hl (by decide) rfl (fun ls hl => ?_)
      refine lv_iconst (v := 2) hx hb dX3_may_28 (by decide) ?_
      refine lv_istore (lv' := [(4, .int 2), (3, .int 1), (0, .ref h0), (1, .int (nI n1)), (2, .int (nI set1))]) hx hb dX3_may_29 hl (by decide) rfl (fun ls hl => ?_)
      refine W_loopR (σ := Nat) (fun k ls => lv_has ls 8 [(1, .int (nI n1)), (2, .int (nI set1)), (3, .int (nI (mayN set1 k))), (4, .int (nI (k + 2)))] ∧ k + 1 ≤ n1) (fun k => n1 - k) ?_ 0 ⟨lv_sub hl [3, 4, 1, 0] rfl, hn1⟩
      rintro k ls ⟨hl, hk⟩ ih_31
      have hml9 := mayN_lt set1 k
      have hp12 : (2 : Nat) ^ (k + 1) ≤ 2 ^ 12 := Nat.pow_le_pow_right (by decide) (by omega)
      refine lv_iload hx hb dX3_may_31 (lv_at hl 3 rfl) ?_
      refine lv_iload_n hx hb dX3_may_33 rfl (lv_at hl 0 rfl) ?_
      refine lv_icmp_gt (tgt := 120) hx hb dX3_may_34 (by decide) (fun c_34 => ?_) (fun c_34 => ?_)
      · have c_34 : n1 < k + 2 := (nI_ltI (a := n1) (b := k + 2) (by omega) (by omega)).mp c_34
        refine lv_iload_n hx hb dX3_may_120 rfl (lv_at hl 2 rfl) ?_
        have hP9 := hP.sub (ws' := [(h0, .inr (3, [.int 0, .long tr, .int pe, .ref a3, .ref a4, .ref a5, .int st, .int kd, .int wd, .ref a9, .int tn, .ref a11, .ref a12, .int sd, .ref a14, .ref a15, .ref a16]))]) [0] rfl
        have hD9 := hD.sub (ws' := [(h0, .inr (3, [.int 0, .long tr, .int pe, .ref a3, .ref a4, .ref a5, .int st, .int kd, .int wd, .ref a9, .int tn, .ref a11, .ref a12, .int sd, .ref a14, .ref a15, .ref a16]))]) [0] (by decide) rfl
        exact W.iret (v := nI (mayN set1 k)) hx hb hr (fun t ht hW => ⟨⟨_, (), rfl, by rw [← spMay_t hn1 hn2 hset1 hset2, show n1 - 1 = k by omega], ⟨by rw [ht]; exact hP9, va_K.moved hW.alike hK, hD9⟩⟩, hS.F ht⟩) hS.2.2 dX3_may_121
      · have c_34 : k + 2 ≤ n1 := Nat.le_of_not_lt (fun h => c_34 ((nI_ltI (a := n1) (b := k + 2) (by omega) (by omega)).mpr h))
        refine lv_iconst (v := 0) hx hb dX3_may_37 (by decide) ?_
        refine lv_istore (lv' := [(5, .int 0), (1, .int (nI n1)), (2, .int (nI set1)), (3, .int (nI (mayN set1 k))), (4, .int (nI (k + 2)))]) hx hb dX3_may_38 hl (by decide) rfl (fun ls hl => ?_)
        refine lv_iconst (v := 0) hx hb dX3_may_40 (by decide) ?_
        refine lv_istore (lv' := [(6, .int 0), (5, .int 0), (1, .int (nI n1)), (2, .int (nI set1)), (3, .int (nI (mayN set1 k))), (4, .int (nI (k + 2)))]) hx hb dX3_may_41 hl (by decide) rfl (fun ls hl => ?_)
        refine W_loopR (σ := Nat) (fun x ls => lv_has ls 8 [(1, .int (nI n1)), (2, .int (nI set1)), (3, .int (nI (mayN set1 k))), (4, .int (nI (k + 2))), (5, .int (nI (moO (k + 2) set1 (mayN set1 k) x))), (6, .int (nI x))] ∧ x ≤ k + 1) (fun x => k + 1 - x) ?_ 0 ⟨lv_sub hl [2, 3, 4, 5, 1, 0] rfl, (by omega)⟩
        rintro x ls ⟨hl, hxx⟩ ih_43
        refine lv_iload hx hb dX3_may_43 (lv_at hl 5 rfl) ?_
        refine lv_iload hx hb dX3_may_45 (lv_at hl 3 rfl) ?_
        refine lv_iconst (v := 1) hx hb dX3_may_47 (by decide) ?_
        refine lv_isub hx hb dX3_may_48 ?_
        refine z_i (y := nI (k + 1)) (nI_pred (k + 1)) ?_
        refine lv_icmp_ge (tgt := 111) hx hb dX3_may_49 (by decide) (fun c_49 => ?_) (fun c_49 => ?_)
        · have c_49 : k + 1 ≤ x := (nI_leI (a := k + 1) (b := x) (by omega) (by omega)).mp c_49
          refine lv_iload hx hb dX3_may_111 (lv_at hl 4 rfl) ?_
          refine z_i (y := nI (mayN set1 (k + 1))) (congrArg nI (by rw [show x = k + 2 - 1 by omega]; exact moO_eq (by omega) (by omega) hml9)) ?_
          refine lv_istore_n (lv' := [(3, .int (nI (mayN set1 (k + 1)))), (1, .int (nI n1)), (2, .int (nI set1)), (4, .int (nI (k + 2))), (5, .int (nI (moO (k + 2) set1 (mayN set1 k) x))), (6, .int (nI x))]) hx hb dX3_may_113 rfl hl (by decide) rfl (fun ls hl => ?_)
          refine lv_iinc (v := nI (k + 1 + 2)) (lv' := [(4, .int (nI (k + 1 + 2))), (3, .int (nI (mayN set1 (k + 1)))), (1, .int (nI n1)), (2, .int (nI set1)), (5, .int (nI (moO (k + 2) set1 (mayN set1 k) x))), (6, .int (nI x))]) hx hb dX3_may_114 hl (k := 3) rfl (nI_1 (k + 2)) (by decide) rfl (fun ls hl => ?_)
          refine lv_goto (tgt := 31) hx hb dX3_may_117 (by decide) ?_
          exact ih_31 (k + 1) _ (by omega) ⟨lv_sub hl [2, 3, 1, 0] rfl, (by omega)⟩
        · have c_49 : x < k + 1 := Nat.lt_of_not_le (fun h => c_49 ((nI_leI (a := k + 1) (b := x) (by omega) (by omega)).mpr h))
          refine lv_iconst (v := 1) hx hb dX3_may_52 (by decide) ?_
          refine lv_istore (lv' := [(7, .int 1), (1, .int (nI n1)), (2, .int (nI set1)), (3, .int (nI (mayN set1 k))), (4, .int (nI (k + 2))), (5, .int (nI (moO (k + 2) set1 (mayN set1 k) x))), (6, .int (nI x))]) hx hb dX3_may_53 hl (by decide) rfl (fun ls hl => ?_)
          refine W_loopR (σ := Nat) (fun c0 ls => lv_has ls 8 [(1, .int (nI n1)), (2, .int (nI set1)), (3, .int (nI (mayN set1 k))), (4, .int (nI (k + 2))), (5, .int (nI (moI (k + 2) set1 x (moO (k + 2) set1 (mayN set1 k) x) ((mayN set1 k).testBit x) c0))), (6, .int (nI x)), (7, .int (nI (c0 + 1)))] ∧ c0 ≤ 6) (fun c0 => 6 - c0) ?_ 0 ⟨lv_sub hl [1, 2, 3, 4, 5, 6, 0] rfl, (by omega)⟩
          rintro c0 ls ⟨hl, hc⟩ ih_55
          refine lv_iload hx hb dX3_may_55 (lv_at hl 6 rfl) ?_
          refine lv_bipush (v := 7) hx hb dX3_may_57 (by decide) ?_
          refine lv_icmp_ge (tgt := 105) hx hb dX3_may_59 (by decide) (fun c_59 => ?_) (fun c_59 => ?_)
          · have c_59 : 7 ≤ c0 + 1 := (nI_leI (a := 7) (b := c0 + 1) (by omega) (by omega)).mp c_59
            obtain rfl : c0 = 6 := by omega
            refine lv_iinc (v := nI (x + 1)) (lv' := [(6, .int (nI (x + 1))), (1, .int (nI n1)), (2, .int (nI set1)), (3, .int (nI (mayN set1 k))), (4, .int (nI (k + 2))), (5, .int (nI (moI (k + 2) set1 x (moO (k + 2) set1 (mayN set1 k) x) ((mayN set1 k).testBit x) 6))), (7, .int (nI (6 + 1)))]) hx hb dX3_may_105 hl (k := 5) rfl (nI_1 _) (by decide) rfl (fun ls hl => ?_)
            refine lv_goto (tgt := 43) hx hb dX3_may_108 (by decide) ?_
            exact ih_43 (x + 1) _ (by omega) ⟨lv_sub hl [1, 2, 3, 4, 5, 0] rfl, (by omega)⟩
          · have c_59 : c0 + 1 < 7 := Nat.lt_of_not_le (fun h => c_59 ((nI_leI (a := 7) (b := c0 + 1) (by omega) (by omega)).mpr h))
            refine lv_iload_n hx hb dX3_may_62 rfl (lv_at hl 2 rfl) ?_
            refine lv_iload hx hb dX3_may_63 (lv_at hl 5 rfl) ?_
            refine lv_ishr hx hb dX3_may_65 ?_
            refine z_i (y := nI (mayN set1 k / 2 ^ x)) (shr_nI (by omega) (by omega)) ?_
            refine lv_iconst (v := 1) hx hb dX3_may_66 (by decide) ?_
            refine lv_iand hx hb dX3_may_67 ?_
            refine z_i (y := nI (mayN set1 k / 2 ^ x % 2)) (bit_nI _ _) ?_
            refine lv_iconst (v := 1) hx hb dX3_may_68 (by decide) ?_
            refine lv_icmp_ne (tgt := 99) hx hb dX3_may_69 (by decide) (fun c_69 => ?_) (fun c_69 => ?_)
            · have c_69 := tb_n1 c_69
              rw [show moI (k + 2) set1 x (moO (k + 2) set1 (mayN set1 k) x) ((mayN set1 k).testBit x) c0 = moI (k + 2) set1 x (moO (k + 2) set1 (mayN set1 k) x) ((mayN set1 k).testBit x) (c0 + 1) by simp [moI, c_69]] at hl
              refine lv_iinc (v := nI (c0 + 1 + 1)) (lv' := [(7, .int (nI (c0 + 1 + 1))), (1, .int (nI n1)), (2, .int (nI set1)), (3, .int (nI (mayN set1 k))), (4, .int (nI (k + 2))), (5, .int (nI (moI (k + 2) set1 x (moO (k + 2) set1 (mayN set1 k) x) ((mayN set1 k).testBit x) (c0 + 1)))), (6, .int (nI x))]) hx hb dX3_may_99 hl (k := 6) rfl (nI_1 _) (by decide) rfl (fun ls hl => ?_)
              refine lv_goto (tgt := 55) hx hb dX3_may_102 (by decide) ?_
              exact ih_55 (c0 + 1) _ (by omega) ⟨lv_sub hl [1, 2, 3, 4, 5, 6, 0] rfl, (by omega)⟩
            · have c_69 := bit_1.mp c_69
              refine lv_iload_n hx hb dX3_may_72 rfl (lv_at hl 1 rfl) ?_
              refine lv_iload hx hb dX3_may_73 (lv_at hl 6 rfl) ?_
              refine lv_iconst (v := 1) hx hb dX3_may_75 (by decide) ?_
              refine lv_isub hx hb dX3_may_76 ?_
              refine z_i (y := nI c0) (nI_pred c0) ?_
              refine lv_ishr hx hb dX3_may_77 ?_
              refine z_i (y := nI (set1 / 2 ^ c0)) (shr_nI (by omega) (by omega)) ?_
              refine lv_iconst (v := 1) hx hb dX3_may_78 (by decide) ?_
              refine lv_iand hx hb dX3_may_79 ?_
              refine z_i (y := nI (set1 / 2 ^ c0 % 2)) (bit_nI _ _) ?_
              refine lv_iconst (v := 1) hx hb dX3_may_80 (by decide) ?_
              refine lv_icmp_ne (tgt := 99) hx hb dX3_may_81 (by decide) (fun c_81 => ?_) (fun c_81 => ?_)
              · have c_81 := tb_n1 c_81
                rw [show moI (k + 2) set1 x (moO (k + 2) set1 (mayN set1 k) x) ((mayN set1 k).testBit x) c0 = moI (k + 2) set1 x (moO (k + 2) set1 (mayN set1 k) x) ((mayN set1 k).testBit x) (c0 + 1) by simp [moI, c_69, c_81]] at hl
                refine lv_iinc (v := nI (c0 + 1 + 1)) (lv' := [(7, .int (nI (c0 + 1 + 1))), (1, .int (nI n1)), (2, .int (nI set1)), (3, .int (nI (mayN set1 k))), (4, .int (nI (k + 2))), (5, .int (nI (moI (k + 2) set1 x (moO (k + 2) set1 (mayN set1 k) x) ((mayN set1 k).testBit x) (c0 + 1)))), (6, .int (nI x))]) hx hb dX3_may_99 hl (k := 6) rfl (nI_1 _) (by decide) rfl (fun ls hl => ?_)
                refine lv_goto (tgt := 55) hx hb dX3_may_102 (by decide) ?_
                exact ih_55 (c0 + 1) _ (by omega) ⟨lv_sub hl [1, 2, 3, 4, 5, 6, 0] rfl, (by omega)⟩
              · have c_81 := bit_1.mp c_81
                refine lv_iload hx hb dX3_may_84 (lv_at hl 4 rfl) ?_
                refine lv_iconst (v := 1) hx hb dX3_may_86 (by decide) ?_
                refine lv_iload hx hb dX3_may_87 (lv_at hl 5 rfl) ?_
                refine lv_iload hx hb dX3_may_89 (lv_at hl 6 rfl) ?_
                refine lv_iadd hx hb dX3_may_91 ?_
                refine z_i (y := nI (x + (c0 + 1))) (nI_add _ _) ?_
                refine lv_iload hx hb dX3_may_92 (lv_at hl 3 rfl) ?_
                refine lv_irem hx hb dX3_may_94 (nI_ne0 (by omega) (by omega)) ?_
                refine z_i (y := nI ((x + (c0 + 1)) % (k + 2))) (pk_rem (by omega) (by omega) (by omega)) ?_
                refine lv_ishl hx hb dX3_may_95 ?_
                refine z_i (y := nI (2 ^ ((x + (c0 + 1)) % (k + 2)))) (sh1 (by have := Nat.mod_lt (x + (c0 + 1)) (show 0 < k + 2 by omega); omega)) ?_
                refine lv_ior hx hb dX3_may_96 ?_
                refine z_i (y := nI (moI (k + 2) set1 x (moO (k + 2) set1 (mayN set1 k) x) ((mayN set1 k).testBit x) (c0 + 1))) (by rw [fa_or]; simp [moI, c_69, c_81]) ?_
                refine lv_istore (lv' := [(5, .int (nI (moI (k + 2) set1 x (moO (k + 2) set1 (mayN set1 k) x) ((mayN set1 k).testBit x) (c0 + 1)))), (1, .int (nI n1)), (2, .int (nI set1)), (3, .int (nI (mayN set1 k))), (4, .int (nI (k + 2))), (6, .int (nI x)), (7, .int (nI (c0 + 1)))]) hx hb dX3_may_97 hl (by decide) rfl (fun ls hl => ?_)
                refine lv_iinc (v := nI (c0 + 1 + 1)) (lv' := [(7, .int (nI (c0 + 1 + 1))), (5, .int (nI (moI (k + 2) set1 x (moO (k + 2) set1 (mayN set1 k) x) ((mayN set1 k).testBit x) (c0 + 1)))), (1, .int (nI n1)), (2, .int (nI set1)), (3, .int (nI (mayN set1 k))), (4, .int (nI (k + 2))), (6, .int (nI x))]) hx hb dX3_may_99 hl (k := 6) rfl (nI_1 _) (by decide) rfl (fun ls hl => ?_)
                refine lv_goto (tgt := 55) hx hb dX3_may_102 (by decide) ?_
                exact ih_55 (c0 + 1) _ (by omega) ⟨lv_sub hl [2, 3, 4, 5, 1, 6, 0] rfl, (by omega)⟩
    · have c_21 := zb_0.mp c_21
      refine lv_iconst (v := (-1)) hx hb dX3_may_24 (by decide) ?_
      have hP9 := hP.sub (ws' := [(h0, .inr (3, [.int 0, .long tr, .int pe, .ref a3, .ref a4, .ref a5, .int st, .int kd, .int wd, .ref a9, .int tn, .ref a11, .ref a12, .int sd, .ref a14, .ref a15, .ref a16]))]) [0] rfl
      have hD9 := hD.sub (ws' := [(h0, .inr (3, [.int 0, .long tr, .int pe, .ref a3, .ref a4, .ref a5, .int st, .int kd, .int wd, .ref a9, .int tn, .ref a11, .ref a12, .int sd, .ref a14, .ref a15, .ref a16]))]) [0] (by decide) rfl
      exact W.iret (v := (-1)) hx hb hr (fun t ht hW => ⟨⟨_, (), rfl, by unfold spMay; first | (rw [c_14, Bool.false_and, if_neg (by decide)]) | (rw [c_14, c_21, Bool.true_and, if_neg (by decide)]), ⟨by rw [ht]; exact hP9, va_K.moved hW.alike hK, hD9⟩⟩, hS.F ht⟩) hS.2.2 dX3_may_25

set_option maxHeartbeats 4000000 in
set_option maxRecDepth 100000 in
theorem c_X3_can (l : Launch) (dC : Nat → ClassId) (dI : Nat → Nat → Nat) (sz : Nat) (cA : ClassId) (h0 a3 a4 a5 a9 a11 a12 a14 a15 a16 : Nat) (tr : Int64) (pe st kd wd tn sd : Int32) (n own foe : Int32) (Mi Fo : Nat → Int32) : Met l yX3_can wsX3_can ({ frames := 2, cells := 0, slots := 0, locals := 45 }) (va_Pc [.ref h0, .int n, .int own, .int foe] (fun U => U.heap.size = sz ∧ va_P (dC, dI) vwCl [(h0, .inr (3, [.int 0, .long tr, .int pe, .ref a3, .ref a4, .ref a5, .int st, .int kd, .int wd, .ref a9, .int tn, .ref a11, .ref a12, .int sd, .ref a14, .ref a15, .ref a16])), (a15, .inl (cA, 13, .inl Mi)), (a16, .inl (cA, 13, .inl Fo))] U.heap ∧ va_K (dC, dI) vwCl [(cA, .int)] U ∧ va_D (fun _ => True) [(h0, .inr (3, [.int 0, .long tr, .int pe, .ref a3, .ref a4, .ref a5, .int st, .int kd, .int wd, .ref a9, .int tn, .ref a11, .ref a12, .int sd, .ref a14, .ref a15, .ref a16])), (a15, .inl (cA, 13, .inl Mi)), (a16, .inl (cA, 13, .inl Fo))])) (va_Qi (S := (Nat → Int32) × (Nat → Int32)) (fun r _ => r = spCan n own foe) (fun (u : (Nat → Int32) × (Nat → Int32)) (t : State) => va_P (dC, dI) vwCl [(h0, .inr (3, [.int 0, .long tr, .int pe, .ref a3, .ref a4, .ref a5, .int st, .int kd, .int wd, .ref a9, .int tn, .ref a11, .ref a12, .int sd, .ref a14, .ref a15, .ref a16])), (a15, .inl (cA, 13, .inl u.1)), (a16, .inl (cA, 13, .inl u.2))] t.heap ∧ va_K (dC, dI) vwCl [(cA, .int)] t ∧ va_D (va_A [(h0, .inr (3, [.int 0, .long tr, .int pe, .ref a3, .ref a4, .ref a5, .int st, .int kd, .int wd, .ref a9, .int tn, .ref a11, .ref a12, .int sd, .ref a14, .ref a15, .ref a16])), (a15, .inl (cA, 13, .inl Mi)), (a16, .inl (cA, 13, .inl Fo))] sz) [(h0, .inr (3, [.int 0, .long tr, .int pe, .ref a3, .ref a4, .ref a5, .int st, .int kd, .int wd, .ref a9, .int tn, .ref a11, .ref a12, .int sd, .ref a14, .ref a15, .ref a16])), (a15, .inl (cA, 13, .inl u.1)), (a16, .inl (cA, 13, .inl u.2))]) (va_A [(h0, .inr (3, [.int 0, .long tr, .int pe, .ref a3, .ref a4, .ref a5, .int st, .int kd, .int wd, .ref a9, .int tn, .ref a11, .ref a12, .int sd, .ref a14, .ref a15, .ref a16])), (a15, .inl (cA, 13, .inl Mi)), (a16, .inl (cA, 13, .inl Fo))] sz)) 0 0 (va_A [(h0, .inr (3, [.int 0, .long tr, .int pe, .ref a3, .ref a4, .ref a5, .int st, .int kd, .int wd, .ref a9, .int tn, .ref a11, .ref a12, .int sd, .ref a14, .ref a15, .ref a16])), (a15, .inl (cA, 13, .inl Mi)), (a16, .inl (cA, 13, .inl Fo))] sz) := by
  refine Met.ofW (cc := cX3_can) (maxL := 11) (ret := (some .int)) (by decide) rfl ?_
  intro p e s m args below meth c s₁ B hml hv
  obtain ⟨rfl, hsz, hP, hK, hD0⟩ := hv
  have hx := B.exec
  have hb := B.bytes
  have hr := B.returns
  have hts := atoms_spec (ws := wsX3_can) B.pre
  have hown : s.vm.findClass RX3 = some m.cls := findClass_of_methodNamed B.named
  have hlocks := B.notSynchronized
  subst hsz
  have hD := hD0.self (sz := s.heap.size)
  generalize hAe : va_A [(h0, .inr (3, [.int 0, .long tr, .int pe, .ref a3, .ref a4, .ref a5, .int st, .int kd, .int wd, .ref a9, .int tn, .ref a11, .ref a12, .int sd, .ref a14, .ref a15, .ref a16])), (a15, .inl (cA, 13, .inl Mi)), (a16, .inl (cA, 13, .inl Fo))] s.heap.size = A at hD ⊢
  have hA : ∀ q : Nat, s.heap.size ≤ q → A q := fun q h => by rw [← hAe]; exact Or.inr h
  have hS : va_S A s.heap s.heap [] := va_S.rf
  have hP : va_P (dC, dI) vwCl [(h0, .inr (3, [.int 0, .long tr, .int pe, .ref a3, .ref a4, .ref a5, .int st, .int kd, .int wd, .ref a9, .int tn, .ref a11, .ref a12, .int sd, .ref a14, .ref a15, .ref a16])), (a15, .inl (cA, 13, .inl Mi)), (a16, .inl (cA, 13, .inl Fo))] s.heap := hP
  have hl := lv_entry ([.ref h0, .int n, .int own, .int foe]) (n := 11) (Nat.le_of_ble_eq_true rfl)
  rw [lg_entry_eq]
  generalize (lg_sl ([.ref h0, .int n, .int own, .int foe]) ++ List.replicate (11 - (lg_sl ([.ref h0, .int n, .int own, .int foe])).length) Slot.unset).toArray = ls at hl ⊢
  have hl : lv_has ls 11 [(0, .ref h0), (1, .int n), (2, .int own), (3, .int foe)] := hl
  refine lv_aload_n hx hb dX3_can_0 rfl (lv_at hl 0 rfl) ?_
  refine lv_iconst (v := 0) hx hb dX3_can_1 (by decide) ?_
  refine va_put (D := (dC, dI)) (ci := 3) (v := .int 0) (ty := .int) (C := RX3) (T := TX3) (N := 17) hx hb hts (by decide +kernel) tyX3 tyX3_ok nmX3 hown hK hP hD hS 0 rfl rfl 0 (by decide) (hts (.fieldLink RX3 51 "CountedOutModel" "thrown" "I") (by decide +kernel)) (fun _ h9 => h9) rfl (by decide +kernel) rfl rfl (Nat.le_of_ble_eq_true rfl) dX3_can_2 (fun H locs hP hD hS => ?_)
  have hP : va_P (dC, dI) vwCl [(h0, .inr (3, [.int 0, .long tr, .int pe, .ref a3, .ref a4, .ref a5, .int st, .int kd, .int wd, .ref a9, .int tn, .ref a11, .ref a12, .int sd, .ref a14, .ref a15, .ref a16])), (a15, .inl (cA, 13, .inl Mi)), (a16, .inl (cA, 13, .inl Fo))] H := hP
  have hD : va_D A [(h0, .inr (3, [.int 0, .long tr, .int pe, .ref a3, .ref a4, .ref a5, .int st, .int kd, .int wd, .ref a9, .int tn, .ref a11, .ref a12, .int sd, .ref a14, .ref a15, .ref a16])), (a15, .inl (cA, 13, .inl Mi)), (a16, .inl (cA, 13, .inl Fo))] := hD
  refine lv_iload_n hx hb dX3_can_5 rfl (lv_at hl 1 rfl) ?_
  refine lv_i2l (v := n.toInt64) hx hb dX3_can_6 rfl ?_
  refine lv_lconst (v := 1) hx hb dX3_can_7 (by decide) ?_
  refine lv_ldc2 (v := 12) hx hb hown (hts (.constantLong RX3 139 (12)) (by decide +kernel)) dX3_can_8 ?_
  refine vp_callSi (va_Run.run (va_runS (As := [.long n.toInt64, .long 1, .long 12]) (rest := []) ⟨hx, hb, hml, hown, hts⟩ (c_X3_in l dC dI n.toInt64 1 12) (va_cwS 3 hts gX3_can_X3_in rfl rfl rfl (by decide +kernel) ⟨Nat.le_of_ble_eq_true rfl, Nat.le_of_ble_eq_true rfl⟩) ⟨fun a U g mk q => ⟨q.1, trivial⟩, fun U hU hW => ⟨rfl, trivial⟩⟩ rfl rfl hl.1 rfl (lv_room (Nat.le_of_ble_eq_true rfl)) dX3_can_11 ⟨Nat.zero_le _, Nat.zero_le _⟩)) (fun r_11 hr_11 => ?_)
  obtain rfl : r_11 = zb (wi n.toInt 1 12) := hr_11.trans (by rw [i2l_toInt]; rfl)
  refine lv_if_eq (tgt := 31) hx hb dX3_can_14 (by decide) (fun c_14 => ?_) (fun c_14 => ?_)
  · have c_14 := zb_0.mp c_14
    refine lv_iconst (v := (-1)) hx hb dX3_can_31 (by decide) ?_
    have hP9 := hP.sub (ws' := [(h0, .inr (3, [.int 0, .long tr, .int pe, .ref a3, .ref a4, .ref a5, .int st, .int kd, .int wd, .ref a9, .int tn, .ref a11, .ref a12, .int sd, .ref a14, .ref a15, .ref a16])), (a15, .inl (cA, 13, .inl Mi)), (a16, .inl (cA, 13, .inl Fo))]) [0, 1, 2] rfl
    have hD9 := hD.sub (ws' := [(h0, .inr (3, [.int 0, .long tr, .int pe, .ref a3, .ref a4, .ref a5, .int st, .int kd, .int wd, .ref a9, .int tn, .ref a11, .ref a12, .int sd, .ref a14, .ref a15, .ref a16])), (a15, .inl (cA, 13, .inl Mi)), (a16, .inl (cA, 13, .inl Fo))]) [0, 1, 2] (by decide) rfl
    exact W.iret (v := (-1)) hx hb hr (fun t ht hW => ⟨⟨_, (_, _), rfl, by unfold spCan; first | (rw [c_14, Bool.false_and, Bool.false_and, if_neg (by decide)]) | (rw [c_14, c_21, Bool.true_and, Bool.false_and, if_neg (by decide)]) | (rw [c_14, c_21, c_28, Bool.true_and, Bool.true_and, if_neg (by decide)]), ⟨by rw [ht]; exact hP9, va_K.moved hW.alike hK, hD9⟩⟩, hS.F ht⟩) hS.2.2 dX3_can_32
  · have c_14 := zb_n.mp c_14
    refine lv_iload_n hx hb dX3_can_17 rfl (lv_at hl 2 rfl) ?_
    refine vp_callSi (va_Run.run (va_runS (As := [.int own]) (rest := []) ⟨hx, hb, hml, hown, hts⟩ (c_X3_isSet l dC dI own) (va_cwS 1 hts gX3_can_X3_isSet rfl rfl rfl (by decide +kernel) ⟨Nat.le_of_ble_eq_true rfl, Nat.le_of_ble_eq_true rfl⟩) ⟨fun a U g mk q => ⟨q.1, trivial⟩, fun U hU hW => ⟨rfl, trivial⟩⟩ rfl rfl hl.1 rfl (lv_room (Nat.le_of_ble_eq_true rfl)) dX3_can_18 ⟨Nat.zero_le _, Nat.zero_le _⟩)) (fun r_18 hr_18 => ?_)
    subst hr_18
    refine lv_if_eq (tgt := 31) hx hb dX3_can_21 (by decide) (fun c_21 => ?_) (fun c_21 => ?_)
    · have c_21 := zb_0.mp c_21
      refine lv_iconst (v := (-1)) hx hb dX3_can_31 (by decide) ?_
      have hP9 := hP.sub (ws' := [(h0, .inr (3, [.int 0, .long tr, .int pe, .ref a3, .ref a4, .ref a5, .int st, .int kd, .int wd, .ref a9, .int tn, .ref a11, .ref a12, .int sd, .ref a14, .ref a15, .ref a16])), (a15, .inl (cA, 13, .inl Mi)), (a16, .inl (cA, 13, .inl Fo))]) [0, 1, 2] rfl
      have hD9 := hD.sub (ws' := [(h0, .inr (3, [.int 0, .long tr, .int pe, .ref a3, .ref a4, .ref a5, .int st, .int kd, .int wd, .ref a9, .int tn, .ref a11, .ref a12, .int sd, .ref a14, .ref a15, .ref a16])), (a15, .inl (cA, 13, .inl Mi)), (a16, .inl (cA, 13, .inl Fo))]) [0, 1, 2] (by decide) rfl
      exact W.iret (v := (-1)) hx hb hr (fun t ht hW => ⟨⟨_, (_, _), rfl, by unfold spCan; first | (rw [c_14, Bool.false_and, Bool.false_and, if_neg (by decide)]) | (rw [c_14, c_21, Bool.true_and, Bool.false_and, if_neg (by decide)]) | (rw [c_14, c_21, c_28, Bool.true_and, Bool.true_and, if_neg (by decide)]), ⟨by rw [ht]; exact hP9, va_K.moved hW.alike hK, hD9⟩⟩, hS.F ht⟩) hS.2.2 dX3_can_32
    · have c_21 := zb_n.mp c_21
      refine lv_iload_n hx hb dX3_can_24 rfl (lv_at hl 3 rfl) ?_
      refine vp_callSi (va_Run.run (va_runS (As := [.int foe]) (rest := []) ⟨hx, hb, hml, hown, hts⟩ (c_X3_isSet l dC dI foe) (va_cwS 1 hts gX3_can_X3_isSet rfl rfl rfl (by decide +kernel) ⟨Nat.le_of_ble_eq_true rfl, Nat.le_of_ble_eq_true rfl⟩) ⟨fun a U g mk q => ⟨q.1, trivial⟩, fun U hU hW => ⟨rfl, trivial⟩⟩ rfl rfl hl.1 rfl (lv_room (Nat.le_of_ble_eq_true rfl)) dX3_can_25 ⟨Nat.zero_le _, Nat.zero_le _⟩)) (fun r_25 hr_25 => ?_)
      subst hr_25
      refine lv_if_ne (tgt := 33) hx hb dX3_can_28 (by decide) (fun c_28 => ?_) (fun c_28 => ?_)
      · have c_28 := zb_n.mp c_28
        obtain ⟨n1, hn1, hn2, rfl⟩ := nI_wi (a := 1) (b := 12) c_14
        obtain ⟨own1, hown1, hown2, rfl⟩ := nI_wi (a := 1) (b := 63) c_21
        obtain ⟨foe1, hfoe1, hfoe2, rfl⟩ := nI_wi (a := 1) (b := 63) c_28
        refine lv_aload_n hx hb dX3_can_33 rfl (lv_at hl 0 rfl) ?_
        refine va_get (D := (dC, dI)) (ci := 3) (v := .ref a15) (C := RX3) (T := TX3) (N := 17) hx hb hts (by decide +kernel) hown hK hP 0 rfl rfl 15 (by decide) (hts (.fieldLink RX3 41 "CountedOutModel" "mine" "[I") (by decide +kernel)) (fun _ h9 => h9) rfl dX3_can_34 ?_
        refine lv_iconst (v := 1) hx hb dX3_can_37 (by decide) ?_
        refine lv_iconst (v := 1) hx hb dX3_can_38 (by decide) ?_
        refine z_iast hx hb hK hP hD hS 1 0 rfl rfl (i := 1) (by decide) (by decide) dX3_can_39 (fun H locs hP hD hS => ?_)
        have hP : va_P (dC, dI) vwCl [(h0, .inr (3, [.int 0, .long tr, .int pe, .ref a3, .ref a4, .ref a5, .int st, .int kd, .int wd, .ref a9, .int tn, .ref a11, .ref a12, .int sd, .ref a14, .ref a15, .ref a16])), (a15, .inl (cA, 13, .inl (upd Mi 1 1))), (a16, .inl (cA, 13, .inl Fo))] H := hP
        have hD : va_D A [(h0, .inr (3, [.int 0, .long tr, .int pe, .ref a3, .ref a4, .ref a5, .int st, .int kd, .int wd, .ref a9, .int tn, .ref a11, .ref a12, .int sd, .ref a14, .ref a15, .ref a16])), (a15, .inl (cA, 13, .inl (upd Mi 1 1))), (a16, .inl (cA, 13, .inl Fo))] := hD
        refine lv_aload_n hx hb dX3_can_40 rfl (lv_at hl 0 rfl) ?_
        refine va_get (D := (dC, dI)) (ci := 3) (v := .ref a16) (C := RX3) (T := TX3) (N := 17) hx hb hts (by decide +kernel) hown hK hP 0 rfl rfl 16 (by decide) (hts (.fieldLink RX3 44 "CountedOutModel" "foes" "[I") (by decide +kernel)) (fun _ h9 => h9) rfl dX3_can_41 ?_
        refine lv_iconst (v := 1) hx hb dX3_can_44 (by decide) ?_
        refine lv_iconst (v := 1) hx hb dX3_can_45 (by decide) ?_
        refine z_iast hx hb hK hP hD hS 2 0 rfl rfl (i := 1) (by decide) (by decide) dX3_can_46 (fun H locs hP hD hS => ?_)
        have hP : va_P (dC, dI) vwCl [(h0, .inr (3, [.int 0, .long tr, .int pe, .ref a3, .ref a4, .ref a5, .int st, .int kd, .int wd, .ref a9, .int tn, .ref a11, .ref a12, .int sd, .ref a14, .ref a15, .ref a16])), (a15, .inl (cA, 13, .inl (upd Mi 1 1))), (a16, .inl (cA, 13, .inl (upd Fo 1 1)))] H := hP
        have hD : va_D A [(h0, .inr (3, [.int 0, .long tr, .int pe, .ref a3, .ref a4, .ref a5, .int st, .int kd, .int wd, .ref a9, .int tn, .ref a11, .ref a12, .int sd, .ref a14, .ref a15, .ref a16])), (a15, .inl (cA, 13, .inl (upd Mi 1 1))), (a16, .inl (cA, 13, .inl (upd Fo 1 1)))] := hD
        refine lv_iconst (v := 2) hx hb dX3_can_47 (by decide) ?_
        refine lv_istore (lv' := [(4, .int 2), (0, .ref h0), (1, .int (nI n1)), (2, .int (nI own1)), (3, .int (nI foe1))]) hx hb dX3_can_48 hl (by decide) rfl (fun ls hl => ?_)
        refine W_loop (σ := Nat × (Nat → Int32) × (Nat → Int32)) (fun xx ls H locs => match xx with | (k, Mi, Fo) => lv_has ls 11 [(0, .ref h0), (1, .int (nI n1)), (2, .int (nI own1)), (3, .int (nI foe1)), (4, .int (nI (k + 2)))] ∧ va_P (dC, dI) vwCl [(h0, .inr (3, [.int 0, .long tr, .int pe, .ref a3, .ref a4, .ref a5, .int st, .int kd, .int wd, .ref a9, .int tn, .ref a11, .ref a12, .int sd, .ref a14, .ref a15, .ref a16])), (a15, .inl (cA, 13, .inl Mi)), (a16, .inl (cA, 13, .inl Fo))] H ∧ va_D A [(h0, .inr (3, [.int 0, .long tr, .int pe, .ref a3, .ref a4, .ref a5, .int st, .int kd, .int wd, .ref a9, .int tn, .ref a11, .ref a12, .int sd, .ref a14, .ref a15, .ref a16])), (a15, .inl (cA, 13, .inl Mi)), (a16, .inl (cA, 13, .inl Fo))] ∧ va_S A s.heap H locs ∧ k + 1 ≤ n1 ∧ Mi (k + 1) = nI (mfN own1 foe1 k).1 ∧ Fo (k + 1) = nI (mfN own1 foe1 k).2) (fun xx => match xx with | (k, Mi, Fo) => n1 - k) ?_ (0, upd Mi 1 1, upd Fo 1 1) ⟨lv_sub hl [1, 2, 3, 4, 0] rfl, hP, hD, hS, hn1, pk_us, pk_us⟩
        rintro ⟨k, Mi, Fo⟩ ls H locs ⟨hl, hP, hD, hS, hk, hM, hF⟩ ih_50
        have hml9 := mfN_lt own1 foe1 k
        have hp12 : (2 : Nat) ^ (k + 1) ≤ 2 ^ 12 := Nat.pow_le_pow_right (by decide) (by omega)
        refine lv_iload hx hb dX3_can_50 (lv_at hl 4 rfl) ?_
        refine lv_iload_n hx hb dX3_can_52 rfl (lv_at hl 1 rfl) ?_
        refine lv_icmp_gt (tgt := 286) hx hb dX3_can_53 (by decide) (fun c_53 => ?_) (fun c_53 => ?_)
        · have c_53 : n1 < k + 2 := (nI_ltI (a := n1) (b := k + 2) (by omega) (by omega)).mp c_53
          refine lv_aload_n hx hb dX3_can_286 rfl (lv_at hl 0 rfl) ?_
          refine va_get (D := (dC, dI)) (ci := 3) (v := .ref a15) (C := RX3) (T := TX3) (N := 17) hx hb hts (by decide +kernel) hown hK hP 0 rfl rfl 15 (by decide) (hts (.fieldLink RX3 41 "CountedOutModel" "mine" "[I") (by decide +kernel)) (fun _ h9 => h9) rfl dX3_can_287 ?_
          refine lv_iload_n hx hb dX3_can_290 rfl (lv_at hl 1 rfl) ?_
          refine z_iald hx hb hK hP 1 0 rfl rfl (i := n1) (by omega) (by decide) dX3_can_291 ?_
          refine z_i (y := nI (mfN own1 foe1 k).1) (by rw [show n1 = k + 1 by omega]; exact hM) ?_
          have hP9 := hP.sub (ws' := [(h0, .inr (3, [.int 0, .long tr, .int pe, .ref a3, .ref a4, .ref a5, .int st, .int kd, .int wd, .ref a9, .int tn, .ref a11, .ref a12, .int sd, .ref a14, .ref a15, .ref a16])), (a15, .inl (cA, 13, .inl Mi)), (a16, .inl (cA, 13, .inl Fo))]) [0, 1, 2] rfl
          have hD9 := hD.sub (ws' := [(h0, .inr (3, [.int 0, .long tr, .int pe, .ref a3, .ref a4, .ref a5, .int st, .int kd, .int wd, .ref a9, .int tn, .ref a11, .ref a12, .int sd, .ref a14, .ref a15, .ref a16])), (a15, .inl (cA, 13, .inl Mi)), (a16, .inl (cA, 13, .inl Fo))]) [0, 1, 2] (by decide) rfl
          exact W.iret (v := nI (mfN own1 foe1 k).1) hx hb hr (fun t ht hW => ⟨⟨_, (_, _), rfl, by rw [← spCan_t hn1 hn2 hown1 hown2 hfoe1 hfoe2, show n1 - 1 = k by omega], ⟨by rw [ht]; exact hP9, va_K.moved hW.alike hK, hD9⟩⟩, hS.F ht⟩) hS.2.2 dX3_can_292
        · have c_53 : k + 2 ≤ n1 := Nat.le_of_not_lt (fun h => c_53 ((nI_ltI (a := n1) (b := k + 2) (by omega) (by omega)).mpr h))
          refine lv_aload_n hx hb dX3_can_56 rfl (lv_at hl 0 rfl) ?_
          refine va_get (D := (dC, dI)) (ci := 3) (v := .ref a15) (C := RX3) (T := TX3) (N := 17) hx hb hts (by decide +kernel) hown hK hP 0 rfl rfl 15 (by decide) (hts (.fieldLink RX3 41 "CountedOutModel" "mine" "[I") (by decide +kernel)) (fun _ h9 => h9) rfl dX3_can_57 ?_
          refine lv_iload hx hb dX3_can_60 (lv_at hl 4 rfl) ?_
          refine lv_iconst (v := 0) hx hb dX3_can_62 (by decide) ?_
          refine z_iast hx hb hK hP hD hS 1 0 rfl rfl (i := (k + 2)) (by omega) (by decide) dX3_can_63 (fun H locs hP hD hS => ?_)
          have hP : va_P (dC, dI) vwCl [(h0, .inr (3, [.int 0, .long tr, .int pe, .ref a3, .ref a4, .ref a5, .int st, .int kd, .int wd, .ref a9, .int tn, .ref a11, .ref a12, .int sd, .ref a14, .ref a15, .ref a16])), (a15, .inl (cA, 13, .inl (upd Mi (k + 2) 0))), (a16, .inl (cA, 13, .inl Fo))] H := hP
          have hD : va_D A [(h0, .inr (3, [.int 0, .long tr, .int pe, .ref a3, .ref a4, .ref a5, .int st, .int kd, .int wd, .ref a9, .int tn, .ref a11, .ref a12, .int sd, .ref a14, .ref a15, .ref a16])), (a15, .inl (cA, 13, .inl (upd Mi (k + 2) 0))), (a16, .inl (cA, 13, .inl Fo))] := hD
          refine lv_aload_n hx hb dX3_can_64 rfl (lv_at hl 0 rfl) ?_
          refine va_get (D := (dC, dI)) (ci := 3) (v := .ref a16) (C := RX3) (T := TX3) (N := 17) hx hb hts (by decide +kernel) hown hK hP 0 rfl rfl 16 (by decide) (hts (.fieldLink RX3 44 "CountedOutModel" "foes" "[I") (by decide +kernel)) (fun _ h9 => h9) rfl dX3_can_65 ?_
          refine lv_iload hx hb dX3_can_68 (lv_at hl 4 rfl) ?_
          refine lv_iconst (v := 0) hx hb dX3_can_70 (by decide) ?_
          refine z_iast hx hb hK hP hD hS 2 0 rfl rfl (i := (k + 2)) (by omega) (by decide) dX3_can_71 (fun H locs hP hD hS => ?_)
          have hP : va_P (dC, dI) vwCl [(h0, .inr (3, [.int 0, .long tr, .int pe, .ref a3, .ref a4, .ref a5, .int st, .int kd, .int wd, .ref a9, .int tn, .ref a11, .ref a12, .int sd, .ref a14, .ref a15, .ref a16])), (a15, .inl (cA, 13, .inl (upd Mi (k + 2) 0))), (a16, .inl (cA, 13, .inl (upd Fo (k + 2) 0)))] H := hP
          have hD : va_D A [(h0, .inr (3, [.int 0, .long tr, .int pe, .ref a3, .ref a4, .ref a5, .int st, .int kd, .int wd, .ref a9, .int tn, .ref a11, .ref a12, .int sd, .ref a14, .ref a15, .ref a16])), (a15, .inl (cA, 13, .inl (upd Mi (k + 2) 0))), (a16, .inl (cA, 13, .inl (upd Fo (k + 2) 0)))] := hD
          refine lv_iconst (v := 0) hx hb dX3_can_72 (by decide) ?_
          refine lv_istore (lv' := [(5, .int 0), (0, .ref h0), (1, .int (nI n1)), (2, .int (nI own1)), (3, .int (nI foe1)), (4, .int (nI (k + 2)))]) hx hb dX3_can_73 hl (by decide) rfl (fun ls hl => ?_)
          refine W_loop (σ := Nat × (Nat → Int32) × (Nat → Int32)) (fun xx ls H locs => match xx with | (p0, Mi, Fo) => lv_has ls 11 [(0, .ref h0), (1, .int (nI n1)), (2, .int (nI own1)), (3, .int (nI foe1)), (4, .int (nI (k + 2))), (5, .int (nI p0))] ∧ va_P (dC, dI) vwCl [(h0, .inr (3, [.int 0, .long tr, .int pe, .ref a3, .ref a4, .ref a5, .int st, .int kd, .int wd, .ref a9, .int tn, .ref a11, .ref a12, .int sd, .ref a14, .ref a15, .ref a16])), (a15, .inl (cA, 13, .inl Mi)), (a16, .inl (cA, 13, .inl Fo))] H ∧ va_D A [(h0, .inr (3, [.int 0, .long tr, .int pe, .ref a3, .ref a4, .ref a5, .int st, .int kd, .int wd, .ref a9, .int tn, .ref a11, .ref a12, .int sd, .ref a14, .ref a15, .ref a16])), (a15, .inl (cA, 13, .inl Mi)), (a16, .inl (cA, 13, .inl Fo))] ∧ va_S A s.heap H locs ∧ p0 ≤ k + 2 ∧ Mi (k + 2) = nI (acc (fun p0 => mSm (k + 2) own1 (mfN own1 foe1 k).2 p0 6) p0) ∧ Fo (k + 2) = nI (acc (fun p0 => mAl (k + 2) foe1 (mfN own1 foe1 k).1 p0 6) p0) ∧ Mi (k + 1) = nI (mfN own1 foe1 k).1 ∧ Fo (k + 1) = nI (mfN own1 foe1 k).2) (fun xx => match xx with | (p0, Mi, Fo) => k + 2 - p0) ?_ (0, upd Mi (k + 2) 0, upd Fo (k + 2) 0) ⟨lv_sub hl [1, 2, 3, 4, 5, 0] rfl, hP, hD, hS, (by omega), pk_us, pk_us, (by rw [pk_un (by omega)]; exact hM), (by rw [pk_un (by omega)]; exact hF)⟩
          rintro ⟨p0, Mi, Fo⟩ ls H locs ⟨hl, hP, hD, hS, hp0, hM2, hF2, hM, hF⟩ ih_75
          refine lv_iload hx hb dX3_can_75 (lv_at hl 5 rfl) ?_
          refine lv_iload hx hb dX3_can_77 (lv_at hl 4 rfl) ?_
          refine lv_icmp_ge (tgt := 280) hx hb dX3_can_79 (by decide) (fun c_79 => ?_) (fun c_79 => ?_)
          · have c_79 : k + 2 ≤ p0 := (nI_leI (a := k + 2) (b := p0) (by omega) (by omega)).mp c_79
            refine lv_iinc (v := nI (k + 1 + 2)) (lv' := [(4, .int (nI (k + 1 + 2))), (0, .ref h0), (1, .int (nI n1)), (2, .int (nI own1)), (3, .int (nI foe1)), (5, .int (nI p0))]) hx hb dX3_can_280 hl (k := 4) rfl (nI_1 (k + 2)) (by decide) rfl (fun ls hl => ?_)
            refine lv_goto (tgt := 50) hx hb dX3_can_283 (by decide) ?_
            exact ih_50 (k + 1, Mi, Fo) _ _ _ (by show n1 - (k + 1) < n1 - k; omega) ⟨lv_sub hl [1, 2, 3, 4, 0] rfl, hP, hD, hS, (by omega), hM2.trans (congrArg nI (by rw [show p0 = k + 2 by omega]; exact acc_S (by omega) (by omega) hml9.2)), hF2.trans (congrArg nI (by rw [show p0 = k + 2 by omega]; exact acc_A (by omega) (by omega) hml9.1))⟩
          · have c_79 : p0 < k + 2 := Nat.lt_of_not_le (fun h => c_79 ((nI_leI (a := k + 2) (b := p0) (by omega) (by omega)).mpr h))
            refine lv_iconst (v := 0) hx hb dX3_can_82 (by decide) ?_
            refine lv_istore (lv' := [(6, .int 0), (0, .ref h0), (1, .int (nI n1)), (2, .int (nI own1)), (3, .int (nI foe1)), (4, .int (nI (k + 2))), (5, .int (nI p0))]) hx hb dX3_can_83 hl (by decide) rfl (fun ls hl => ?_)
            refine lv_iconst (v := 1) hx hb dX3_can_85 (by decide) ?_
            refine lv_istore (lv' := [(7, .int 1), (6, .int 0), (0, .ref h0), (1, .int (nI n1)), (2, .int (nI own1)), (3, .int (nI foe1)), (4, .int (nI (k + 2))), (5, .int (nI p0))]) hx hb dX3_can_86 hl (by decide) rfl (fun ls hl => ?_)
            refine lv_iconst (v := 1) hx hb dX3_can_88 (by decide) ?_
            refine lv_istore (lv' := [(8, .int 1), (7, .int 1), (6, .int 0), (0, .ref h0), (1, .int (nI n1)), (2, .int (nI own1)), (3, .int (nI foe1)), (4, .int (nI (k + 2))), (5, .int (nI p0))]) hx hb dX3_can_89 hl (by decide) rfl (fun ls hl => ?_)
            refine W_loopR (σ := Nat) (fun c0 ls => lv_has ls 11 [(0, .ref h0), (1, .int (nI n1)), (2, .int (nI own1)), (3, .int (nI foe1)), (4, .int (nI (k + 2))), (5, .int (nI p0)), (6, .int (zb (mSm (k + 2) own1 (mfN own1 foe1 k).2 p0 c0))), (7, .int (zb (mAl (k + 2) foe1 (mfN own1 foe1 k).1 p0 c0))), (8, .int (nI (c0 + 1)))] ∧ c0 ≤ 6) (fun c0 => 6 - c0) ?_ 0 ⟨lv_sub hl [3, 4, 5, 6, 7, 8, 2, 1, 0] rfl, (by omega)⟩
            rintro c0 ls ⟨hl, hc⟩ ih_91
            refine lv_iload hx hb dX3_can_91 (lv_at hl 8 rfl) ?_
            refine lv_bipush (v := 7) hx hb dX3_can_93 (by decide) ?_
            refine lv_icmp_ge (tgt := 228) hx hb dX3_can_95 (by decide) (fun c_95 => ?_) (fun c_95 => ?_)
            · have c_95 : 7 ≤ c0 + 1 := (nI_leI (a := 7) (b := c0 + 1) (by omega) (by omega)).mp c_95
              obtain rfl : c0 = 6 := by omega
              refine lv_aload_n hx hb dX3_can_228 rfl (lv_at hl 0 rfl) ?_
              refine va_get (D := (dC, dI)) (ci := 3) (v := .ref a15) (C := RX3) (T := TX3) (N := 17) hx hb hts (by decide +kernel) hown hK hP 0 rfl rfl 15 (by decide) (hts (.fieldLink RX3 41 "CountedOutModel" "mine" "[I") (by decide +kernel)) (fun _ h9 => h9) rfl dX3_can_229 ?_
              refine lv_iload hx hb dX3_can_232 (lv_at hl 4 rfl) ?_
              refine lv_dup2_11 hx hb dX3_can_234 rfl rfl ?_
              refine z_iald hx hb hK hP 1 0 rfl rfl (i := (k + 2)) (by omega) (by decide) dX3_can_235 ?_
              refine z_i (y := nI (acc (fun p0 => mSm (k + 2) own1 (mfN own1 foe1 k).2 p0 6) p0)) (hM2) ?_
              refine W_join (α := Int32) (pc' := 249) (ls' := ls) (st' := fun vj => [.int vj, .int (nI (acc (fun p0 => mSm (k + 2) own1 (mfN own1 foe1 k).2 p0 6) p0)), .int (nI (k + 2)), .ref a15]) (Pj := fun vj => vj = nI (if mSm (k + 2) own1 (mfN own1 foe1 k).2 p0 6 = true then 2 ^ p0 else 0)) (fun J_249 => ?_) (fun v_249 hv_249 => ?_)
              · refine lv_iload hx hb dX3_can_236 (lv_at hl 6 rfl) ?_
                refine lv_if_eq (tgt := 248) hx hb dX3_can_238 (by decide) (fun c_238 => ?_) (fun c_238 => ?_)
                · have c_238 := zb_0.mp c_238
                  refine lv_iconst (v := 0) hx hb dX3_can_248 (by decide) ?_
                  exact J_249 _ (by first | (rw [if_pos c_238]) | (rw [if_neg (by rw [c_238]; decide)]; rfl))
                · have c_238 := zb_n.mp c_238
                  refine lv_iconst (v := 1) hx hb dX3_can_241 (by decide) ?_
                  refine lv_iload hx hb dX3_can_242 (lv_at hl 5 rfl) ?_
                  refine lv_ishl hx hb dX3_can_244 ?_
                  refine z_i (y := nI (2 ^ p0)) (sh1 (by omega)) ?_
                  refine lv_goto (tgt := 249) hx hb dX3_can_245 (by decide) ?_
                  exact J_249 _ (by first | (rw [if_pos c_238]) | (rw [if_neg (by rw [c_238]; decide)]; rfl))
              subst hv_249
              refine lv_ior hx hb dX3_can_249 ?_
              refine z_i (y := nI (acc (fun p0 => mSm (k + 2) own1 (mfN own1 foe1 k).2 p0 6) (p0 + 1))) (fa_or _ _) ?_
              refine z_iast hx hb hK hP hD hS 1 0 rfl rfl (i := (k + 2)) (by omega) (by decide) dX3_can_250 (fun H locs hP hD hS => ?_)
              have hP : va_P (dC, dI) vwCl [(h0, .inr (3, [.int 0, .long tr, .int pe, .ref a3, .ref a4, .ref a5, .int st, .int kd, .int wd, .ref a9, .int tn, .ref a11, .ref a12, .int sd, .ref a14, .ref a15, .ref a16])), (a15, .inl (cA, 13, .inl (upd Mi (k + 2) (nI (acc (fun p0 => mSm (k + 2) own1 (mfN own1 foe1 k).2 p0 6) (p0 + 1)))))), (a16, .inl (cA, 13, .inl Fo))] H := hP
              have hD : va_D A [(h0, .inr (3, [.int 0, .long tr, .int pe, .ref a3, .ref a4, .ref a5, .int st, .int kd, .int wd, .ref a9, .int tn, .ref a11, .ref a12, .int sd, .ref a14, .ref a15, .ref a16])), (a15, .inl (cA, 13, .inl (upd Mi (k + 2) (nI (acc (fun p0 => mSm (k + 2) own1 (mfN own1 foe1 k).2 p0 6) (p0 + 1)))))), (a16, .inl (cA, 13, .inl Fo))] := hD
              refine lv_aload_n hx hb dX3_can_251 rfl (lv_at hl 0 rfl) ?_
              refine va_get (D := (dC, dI)) (ci := 3) (v := .ref a16) (C := RX3) (T := TX3) (N := 17) hx hb hts (by decide +kernel) hown hK hP 0 rfl rfl 16 (by decide) (hts (.fieldLink RX3 44 "CountedOutModel" "foes" "[I") (by decide +kernel)) (fun _ h9 => h9) rfl dX3_can_252 ?_
              refine lv_iload hx hb dX3_can_255 (lv_at hl 4 rfl) ?_
              refine lv_dup2_11 hx hb dX3_can_257 rfl rfl ?_
              refine z_iald hx hb hK hP 2 0 rfl rfl (i := (k + 2)) (by omega) (by decide) dX3_can_258 ?_
              refine z_i (y := nI (acc (fun p0 => mAl (k + 2) foe1 (mfN own1 foe1 k).1 p0 6) p0)) (hF2) ?_
              refine W_join (α := Int32) (pc' := 272) (ls' := ls) (st' := fun vj => [.int vj, .int (nI (acc (fun p0 => mAl (k + 2) foe1 (mfN own1 foe1 k).1 p0 6) p0)), .int (nI (k + 2)), .ref a16]) (Pj := fun vj => vj = nI (if mAl (k + 2) foe1 (mfN own1 foe1 k).1 p0 6 = true then 2 ^ p0 else 0)) (fun J_272 => ?_) (fun v_272 hv_272 => ?_)
              · refine lv_iload hx hb dX3_can_259 (lv_at hl 7 rfl) ?_
                refine lv_if_eq (tgt := 271) hx hb dX3_can_261 (by decide) (fun c_261 => ?_) (fun c_261 => ?_)
                · have c_261 := zb_0.mp c_261
                  refine lv_iconst (v := 0) hx hb dX3_can_271 (by decide) ?_
                  exact J_272 _ (by first | (rw [if_pos c_261]) | (rw [if_neg (by rw [c_261]; decide)]; rfl))
                · have c_261 := zb_n.mp c_261
                  refine lv_iconst (v := 1) hx hb dX3_can_264 (by decide) ?_
                  refine lv_iload hx hb dX3_can_265 (lv_at hl 5 rfl) ?_
                  refine lv_ishl hx hb dX3_can_267 ?_
                  refine z_i (y := nI (2 ^ p0)) (sh1 (by omega)) ?_
                  refine lv_goto (tgt := 272) hx hb dX3_can_268 (by decide) ?_
                  exact J_272 _ (by first | (rw [if_pos c_261]) | (rw [if_neg (by rw [c_261]; decide)]; rfl))
              subst hv_272
              refine lv_ior hx hb dX3_can_272 ?_
              refine z_i (y := nI (acc (fun p0 => mAl (k + 2) foe1 (mfN own1 foe1 k).1 p0 6) (p0 + 1))) (fa_or _ _) ?_
              refine z_iast hx hb hK hP hD hS 2 0 rfl rfl (i := (k + 2)) (by omega) (by decide) dX3_can_273 (fun H locs hP hD hS => ?_)
              have hP : va_P (dC, dI) vwCl [(h0, .inr (3, [.int 0, .long tr, .int pe, .ref a3, .ref a4, .ref a5, .int st, .int kd, .int wd, .ref a9, .int tn, .ref a11, .ref a12, .int sd, .ref a14, .ref a15, .ref a16])), (a15, .inl (cA, 13, .inl (upd Mi (k + 2) (nI (acc (fun p0 => mSm (k + 2) own1 (mfN own1 foe1 k).2 p0 6) (p0 + 1)))))), (a16, .inl (cA, 13, .inl (upd Fo (k + 2) (nI (acc (fun p0 => mAl (k + 2) foe1 (mfN own1 foe1 k).1 p0 6) (p0 + 1))))))] H := hP
              have hD : va_D A [(h0, .inr (3, [.int 0, .long tr, .int pe, .ref a3, .ref a4, .ref a5, .int st, .int kd, .int wd, .ref a9, .int tn, .ref a11, .ref a12, .int sd, .ref a14, .ref a15, .ref a16])), (a15, .inl (cA, 13, .inl (upd Mi (k + 2) (nI (acc (fun p0 => mSm (k + 2) own1 (mfN own1 foe1 k).2 p0 6) (p0 + 1)))))), (a16, .inl (cA, 13, .inl (upd Fo (k + 2) (nI (acc (fun p0 => mAl (k + 2) foe1 (mfN own1 foe1 k).1 p0 6) (p0 + 1))))))] := hD
              refine lv_iinc (v := nI (p0 + 1)) (lv' := [(5, .int (nI (p0 + 1))), (0, .ref h0), (1, .int (nI n1)), (2, .int (nI own1)), (3, .int (nI foe1)), (4, .int (nI (k + 2))), (6, .int (zb (mSm (k + 2) own1 (mfN own1 foe1 k).2 p0 6))), (7, .int (zb (mAl (k + 2) foe1 (mfN own1 foe1 k).1 p0 6))), (8, .int (nI (6 + 1)))]) hx hb dX3_can_274 hl (k := 5) rfl (nI_1 _) (by decide) rfl (fun ls hl => ?_)
              refine lv_goto (tgt := 75) hx hb dX3_can_277 (by decide) ?_
              exact ih_75 (p0 + 1, upd Mi (k + 2) (nI (acc (fun p0 => mSm (k + 2) own1 (mfN own1 foe1 k).2 p0 6) (p0 + 1))), upd Fo (k + 2) (nI (acc (fun p0 => mAl (k + 2) foe1 (mfN own1 foe1 k).1 p0 6) (p0 + 1)))) _ _ _ (by show k + 2 - (p0 + 1) < k + 2 - p0; omega) ⟨lv_sub hl [1, 2, 3, 4, 5, 0] rfl, hP, hD, hS, (by omega), pk_us, pk_us, (by rw [pk_un (by omega)]; exact hM), (by rw [pk_un (by omega)]; exact hF)⟩
            · have c_95 : c0 + 1 < 7 := Nat.lt_of_not_le (fun h => c_95 ((nI_leI (a := 7) (b := c0 + 1) (by omega) (by omega)).mpr h))
              have hr1 := Nat.mod_lt c0 (show 0 < k + 2 by omega)
              have hr2 := Nat.mod_lt (c0 + 1) (show 0 < k + 2 by omega)
              refine W_join (α := Int32) (pc' := 115) (ls' := ls) (st' := fun vj => [.int vj]) (Pj := fun vj => vj = zb (decide (c0 % (k + 2) = p0))) (fun J_115 => ?_) (fun v_115 hv_115 => ?_)
              · refine lv_iload hx hb dX3_can_98 (lv_at hl 8 rfl) ?_
                refine lv_iconst (v := 1) hx hb dX3_can_100 (by decide) ?_
                refine lv_isub hx hb dX3_can_101 ?_
                refine z_i (y := nI c0) (nI_pred c0) ?_
                refine lv_iload hx hb dX3_can_102 (lv_at hl 4 rfl) ?_
                refine lv_irem hx hb dX3_can_104 (nI_ne0 (by omega) (by omega)) ?_
                refine z_i (y := nI (c0 % (k + 2))) (pk_rem (by omega) (by omega) (by omega)) ?_
                refine lv_iload hx hb dX3_can_105 (lv_at hl 5 rfl) ?_
                refine lv_icmp_ne (tgt := 114) hx hb dX3_can_107 (by decide) (fun c_107 => ?_) (fun c_107 => ?_)
                · have c_107 : ¬ c0 % (k + 2) = p0 := fun h => c_107 ((nI_eq (a := c0 % (k + 2)) (b := p0) (by omega) (by omega)).mpr h)
                  refine lv_iconst (v := 0) hx hb dX3_can_114 (by decide) ?_
                  exact J_115 _ (by first | (rw [decide_eq_true c_107]; rfl) | (rw [decide_eq_false c_107]; rfl))
                · have c_107 : c0 % (k + 2) = p0 := (nI_eq (a := c0 % (k + 2)) (b := p0) (by omega) (by omega)).mp c_107
                  refine lv_iconst (v := 1) hx hb dX3_can_110 (by decide) ?_
                  refine lv_goto (tgt := 115) hx hb dX3_can_111 (by decide) ?_
                  exact J_115 _ (by first | (rw [decide_eq_true c_107]; rfl) | (rw [decide_eq_false c_107]; rfl))
              subst hv_115
              refine lv_istore (lv' := [(9, .int (zb (decide (c0 % (k + 2) = p0)))), (0, .ref h0), (1, .int (nI n1)), (2, .int (nI own1)), (3, .int (nI foe1)), (4, .int (nI (k + 2))), (5, .int (nI p0)), (6, .int (zb (mSm (k + 2) own1 (mfN own1 foe1 k).2 p0 c0))), (7, .int (zb (mAl (k + 2) foe1 (mfN own1 foe1 k).1 p0 c0))), (8, .int (nI (c0 + 1)))]) hx hb dX3_can_115 hl (by decide) rfl (fun ls hl => ?_)
              refine lv_iload hx hb dX3_can_117 (lv_at hl 6 rfl) ?_
              refine lv_iload hx hb dX3_can_119 (lv_at hl 9 rfl) ?_
              refine lv_iload hx hb dX3_can_121 (lv_at hl 5 rfl) ?_
              refine lv_irem hx hb dX3_can_123 (nI_ne0 (by omega) (by omega)) ?_
              refine z_i (y := nI ((c0 + 1) % (k + 2))) (pk_rem (by omega) (by omega) (by omega)) ?_
              refine lv_isub hx hb dX3_can_124 ?_
              refine lv_iload hx hb dX3_can_125 (lv_at hl 5 rfl) ?_
              refine lv_iadd hx hb dX3_can_127 ?_
              refine z_i (y := nI (p0 + (k + 2) - (c0 + 1) % (k + 2))) (sTo_int (by omega)) ?_
              refine lv_iload hx hb dX3_can_128 (lv_at hl 5 rfl) ?_
              refine lv_irem hx hb dX3_can_130 (nI_ne0 (by omega) (by omega)) ?_
              refine z_i (y := nI (sTo (k + 2) (c0 + 1) p0)) (pk_rem (by omega) (by omega) (by omega)) ?_
              refine lv_istore (lv' := [(10, .int (nI (sTo (k + 2) (c0 + 1) p0))), (9, .int (zb (decide (c0 % (k + 2) = p0)))), (0, .ref h0), (1, .int (nI n1)), (2, .int (nI own1)), (3, .int (nI foe1)), (4, .int (nI (k + 2))), (5, .int (nI p0)), (6, .int (zb (mSm (k + 2) own1 (mfN own1 foe1 k).2 p0 c0))), (7, .int (zb (mAl (k + 2) foe1 (mfN own1 foe1 k).1 p0 c0))), (8, .int (nI (c0 + 1)))]) hx hb dX3_can_131 hl (by decide) rfl (fun ls hl => ?_)
              have hto : (sTo (k + 2) (c0 + 1) p0) < k + 2 := Nat.mod_lt _ (by omega)
              refine lv_iload hx hb dX3_can_133 (lv_at hl 8 rfl) ?_
              refine W_join (α := Int32) (pc' := 175) (ls' := ls) (st' := fun vj => [.int vj, .int (zb (mSm (k + 2) own1 (mfN own1 foe1 k).2 p0 c0))]) (Pj := fun vj => vj = zb (own1.testBit c0 && !decide (c0 % (k + 2) = p0) && (mfN own1 foe1 k).2.testBit (sTo (k + 2) (c0 + 1) p0))) (fun J_175 => ?_) (fun v_175 hv_175 => ?_)
              · refine lv_iload_n hx hb dX3_can_135 rfl (lv_at hl 4 rfl) ?_
                refine lv_iload hx hb dX3_can_136 (lv_at hl 10 rfl) ?_
                refine lv_iconst (v := 1) hx hb dX3_can_138 (by decide) ?_
                refine lv_isub hx hb dX3_can_139 ?_
                refine z_i (y := nI c0) (nI_pred c0) ?_
                refine lv_ishr hx hb dX3_can_140 ?_
                refine z_i (y := nI (own1 / 2 ^ c0)) (shr_nI (by omega) (by omega)) ?_
                refine lv_iconst (v := 1) hx hb dX3_can_141 (by decide) ?_
                refine lv_iand hx hb dX3_can_142 ?_
                refine z_i (y := nI (own1 / 2 ^ c0 % 2)) (bit_nI _ _) ?_
                refine lv_iconst (v := 1) hx hb dX3_can_143 (by decide) ?_
                refine lv_icmp_ne (tgt := 174) hx hb dX3_can_144 (by decide) (fun c_144 => ?_) (fun c_144 => ?_)
                · have c_144 := tb_n1 c_144
                  refine lv_iconst (v := 0) hx hb dX3_can_174 (by decide) ?_
                  exact J_175 _ (by first | (rw [c_144, c_149, c_167]; rfl) | (rw [c_144, c_149]; rfl) | (rw [c_144]; rfl))
                · have c_144 := bit_1.mp c_144
                  refine lv_iload hx hb dX3_can_147 (lv_at hl 1 rfl) ?_
                  refine lv_if_ne (tgt := 174) hx hb dX3_can_149 (by decide) (fun c_149 => ?_) (fun c_149 => ?_)
                  · have c_149 := zb_n.mp c_149
                    refine lv_iconst (v := 0) hx hb dX3_can_174 (by decide) ?_
                    exact J_175 _ (by first | (rw [c_144, c_149, c_167]; rfl) | (rw [c_144, c_149]; rfl) | (rw [c_144]; rfl))
                  · have c_149 := zb_0.mp c_149
                    refine lv_aload_n hx hb dX3_can_152 rfl (lv_at hl 2 rfl) ?_
                    refine va_get (D := (dC, dI)) (ci := 3) (v := .ref a16) (C := RX3) (T := TX3) (N := 17) hx hb hts (by decide +kernel) hown hK hP 0 rfl rfl 16 (by decide) (hts (.fieldLink RX3 44 "CountedOutModel" "foes" "[I") (by decide +kernel)) (fun _ h9 => h9) rfl dX3_can_153 ?_
                    refine lv_iload hx hb dX3_can_156 (lv_at hl 6 rfl) ?_
                    refine lv_iconst (v := 1) hx hb dX3_can_158 (by decide) ?_
                    refine lv_isub hx hb dX3_can_159 ?_
                    refine z_i (y := nI (k + 1)) (nI_pred (k + 1)) ?_
                    refine z_iald hx hb hK hP 2 0 rfl rfl (i := (k + 1)) (by omega) (by decide) dX3_can_160 ?_
                    refine z_i (y := nI (mfN own1 foe1 k).2) (hF) ?_
                    refine lv_iload hx hb dX3_can_161 (lv_at hl 0 rfl) ?_
                    refine lv_ishr hx hb dX3_can_163 ?_
                    refine z_i (y := nI ((mfN own1 foe1 k).2 / 2 ^ (sTo (k + 2) (c0 + 1) p0))) (shr_nI (by omega) (by omega)) ?_
                    refine lv_iconst (v := 1) hx hb dX3_can_164 (by decide) ?_
                    refine lv_iand hx hb dX3_can_165 ?_
                    refine z_i (y := nI ((mfN own1 foe1 k).2 / 2 ^ (sTo (k + 2) (c0 + 1) p0) % 2)) (bit_nI _ _) ?_
                    refine lv_iconst (v := 1) hx hb dX3_can_166 (by decide) ?_
                    refine lv_icmp_ne (tgt := 174) hx hb dX3_can_167 (by decide) (fun c_167 => ?_) (fun c_167 => ?_)
                    · have c_167 := tb_n1 c_167
                      refine lv_iconst (v := 0) hx hb dX3_can_174 (by decide) ?_
                      exact J_175 _ (by first | (rw [c_144, c_149, c_167]; rfl) | (rw [c_144, c_149]; rfl) | (rw [c_144]; rfl))
                    · have c_167 := bit_1.mp c_167
                      refine lv_iconst (v := 1) hx hb dX3_can_170 (by decide) ?_
                      refine lv_goto (tgt := 175) hx hb dX3_can_171 (by decide) ?_
                      exact J_175 _ (by first | (rw [c_144, c_149, c_167]; rfl) | (rw [c_144, c_149]; rfl) | (rw [c_144]; rfl))
              subst hv_175
              refine lv_ior hx hb dX3_can_175 ?_
              refine z_i (y := zb (mSm (k + 2) own1 (mfN own1 foe1 k).2 p0 (c0 + 1))) (by rw [zb_or]; rfl) ?_
              refine lv_istore (lv' := [(6, .int (zb (mSm (k + 2) own1 (mfN own1 foe1 k).2 p0 (c0 + 1)))), (10, .int (nI (sTo (k + 2) (c0 + 1) p0))), (9, .int (zb (decide (c0 % (k + 2) = p0)))), (0, .ref h0), (1, .int (nI n1)), (2, .int (nI own1)), (3, .int (nI foe1)), (4, .int (nI (k + 2))), (5, .int (nI p0)), (7, .int (zb (mAl (k + 2) foe1 (mfN own1 foe1 k).1 p0 c0))), (8, .int (nI (c0 + 1)))]) hx hb dX3_can_176 hl (by decide) rfl (fun ls hl => ?_)
              refine lv_iload hx hb dX3_can_178 (lv_at hl 9 rfl) ?_
              refine W_join (α := Int32) (pc' := 219) (ls' := ls) (st' := fun vj => [.int vj, .int (zb (mAl (k + 2) foe1 (mfN own1 foe1 k).1 p0 c0))]) (Pj := fun vj => vj = zb (!foe1.testBit c0 || (!decide (c0 % (k + 2) = p0) && (mfN own1 foe1 k).1.testBit (sTo (k + 2) (c0 + 1) p0)))) (fun J_219 => ?_) (fun v_219 hv_219 => ?_)
              · refine lv_iload_n hx hb dX3_can_180 rfl (lv_at hl 6 rfl) ?_
                refine lv_iload hx hb dX3_can_181 (lv_at hl 10 rfl) ?_
                refine lv_iconst (v := 1) hx hb dX3_can_183 (by decide) ?_
                refine lv_isub hx hb dX3_can_184 ?_
                refine z_i (y := nI c0) (nI_pred c0) ?_
                refine lv_ishr hx hb dX3_can_185 ?_
                refine z_i (y := nI (foe1 / 2 ^ c0)) (shr_nI (by omega) (by omega)) ?_
                refine lv_iconst (v := 1) hx hb dX3_can_186 (by decide) ?_
                refine lv_iand hx hb dX3_can_187 ?_
                refine z_i (y := nI (foe1 / 2 ^ c0 % 2)) (bit_nI _ _) ?_
                refine lv_if_eq (tgt := 214) hx hb dX3_can_188 (by decide) (fun c_188 => ?_) (fun c_188 => ?_)
                · have c_188 := bit_0.mp c_188
                  refine lv_iconst (v := 1) hx hb dX3_can_214 (by decide) ?_
                  refine lv_goto (tgt := 219) hx hb dX3_can_215 (by decide) ?_
                  exact J_219 _ (by first | (rw [c_188, c_193, c_211]; rfl) | (rw [c_188, c_193]; rfl) | (rw [c_188]; rfl))
                · have c_188 := tb_n0 c_188
                  refine lv_iload hx hb dX3_can_191 (lv_at hl 2 rfl) ?_
                  refine lv_if_ne (tgt := 218) hx hb dX3_can_193 (by decide) (fun c_193 => ?_) (fun c_193 => ?_)
                  · have c_193 := zb_n.mp c_193
                    refine lv_iconst (v := 0) hx hb dX3_can_218 (by decide) ?_
                    exact J_219 _ (by first | (rw [c_188, c_193, c_211]; rfl) | (rw [c_188, c_193]; rfl) | (rw [c_188]; rfl))
                  · have c_193 := zb_0.mp c_193
                    refine lv_aload_n hx hb dX3_can_196 rfl (lv_at hl 3 rfl) ?_
                    refine va_get (D := (dC, dI)) (ci := 3) (v := .ref a15) (C := RX3) (T := TX3) (N := 17) hx hb hts (by decide +kernel) hown hK hP 0 rfl rfl 15 (by decide) (hts (.fieldLink RX3 41 "CountedOutModel" "mine" "[I") (by decide +kernel)) (fun _ h9 => h9) rfl dX3_can_197 ?_
                    refine lv_iload hx hb dX3_can_200 (lv_at hl 7 rfl) ?_
                    refine lv_iconst (v := 1) hx hb dX3_can_202 (by decide) ?_
                    refine lv_isub hx hb dX3_can_203 ?_
                    refine z_i (y := nI (k + 1)) (nI_pred (k + 1)) ?_
                    refine z_iald hx hb hK hP 1 0 rfl rfl (i := (k + 1)) (by omega) (by decide) dX3_can_204 ?_
                    refine z_i (y := nI (mfN own1 foe1 k).1) (hM) ?_
                    refine lv_iload hx hb dX3_can_205 (lv_at hl 1 rfl) ?_
                    refine lv_ishr hx hb dX3_can_207 ?_
                    refine z_i (y := nI ((mfN own1 foe1 k).1 / 2 ^ (sTo (k + 2) (c0 + 1) p0))) (shr_nI (by omega) (by omega)) ?_
                    refine lv_iconst (v := 1) hx hb dX3_can_208 (by decide) ?_
                    refine lv_iand hx hb dX3_can_209 ?_
                    refine z_i (y := nI ((mfN own1 foe1 k).1 / 2 ^ (sTo (k + 2) (c0 + 1) p0) % 2)) (bit_nI _ _) ?_
                    refine lv_iconst (v := 1) hx hb dX3_can_210 (by decide) ?_
                    refine lv_icmp_ne (tgt := 218) hx hb dX3_can_211 (by decide) (fun c_211 => ?_) (fun c_211 => ?_)
                    · have c_211 := tb_n1 c_211
                      refine lv_iconst (v := 0) hx hb dX3_can_218 (by decide) ?_
                      exact J_219 _ (by first | (rw [c_188, c_193, c_211]; rfl) | (rw [c_188, c_193]; rfl) | (rw [c_188]; rfl))
                    · have c_211 := bit_1.mp c_211
                      refine lv_iconst (v := 1) hx hb dX3_can_214 (by decide) ?_
                      refine lv_goto (tgt := 219) hx hb dX3_can_215 (by decide) ?_
                      exact J_219 _ (by first | (rw [c_188, c_193, c_211]; rfl) | (rw [c_188, c_193]; rfl) | (rw [c_188]; rfl))
              subst hv_219
              refine lv_iand hx hb dX3_can_219 ?_
              refine z_i (y := zb (mAl (k + 2) foe1 (mfN own1 foe1 k).1 p0 (c0 + 1))) (by rw [zb_and]; rfl) ?_
              refine lv_istore (lv' := [(7, .int (zb (mAl (k + 2) foe1 (mfN own1 foe1 k).1 p0 (c0 + 1)))), (6, .int (zb (mSm (k + 2) own1 (mfN own1 foe1 k).2 p0 (c0 + 1)))), (10, .int (nI (sTo (k + 2) (c0 + 1) p0))), (9, .int (zb (decide (c0 % (k + 2) = p0)))), (0, .ref h0), (1, .int (nI n1)), (2, .int (nI own1)), (3, .int (nI foe1)), (4, .int (nI (k + 2))), (5, .int (nI p0)), (8, .int (nI (c0 + 1)))]) hx hb dX3_can_220 hl (by decide) rfl (fun ls hl => ?_)
              refine lv_iinc (v := nI (c0 + 1 + 1)) (lv' := [(8, .int (nI (c0 + 1 + 1))), (7, .int (zb (mAl (k + 2) foe1 (mfN own1 foe1 k).1 p0 (c0 + 1)))), (6, .int (zb (mSm (k + 2) own1 (mfN own1 foe1 k).2 p0 (c0 + 1)))), (10, .int (nI (sTo (k + 2) (c0 + 1) p0))), (9, .int (zb (decide (c0 % (k + 2) = p0)))), (0, .ref h0), (1, .int (nI n1)), (2, .int (nI own1)), (3, .int (nI foe1)), (4, .int (nI (k + 2))), (5, .int (nI p0))]) hx hb dX3_can_222 hl (k := 10) rfl (nI_1 _) (by decide) rfl (fun ls hl => ?_)
              refine lv_goto (tgt := 91) hx hb dX3_can_225 (by decide) ?_
              exact ih_91 (c0 + 1) _ (by omega) ⟨lv_sub hl [5, 6, 7, 8, 9, 10, 2, 1, 0] rfl, (by omega)⟩
      · have c_28 := zb_0.mp c_28
        refine lv_iconst (v := (-1)) hx hb dX3_can_31 (by decide) ?_
        have hP9 := hP.sub (ws' := [(h0, .inr (3, [.int 0, .long tr, .int pe, .ref a3, .ref a4, .ref a5, .int st, .int kd, .int wd, .ref a9, .int tn, .ref a11, .ref a12, .int sd, .ref a14, .ref a15, .ref a16])), (a15, .inl (cA, 13, .inl Mi)), (a16, .inl (cA, 13, .inl Fo))]) [0, 1, 2] rfl
        have hD9 := hD.sub (ws' := [(h0, .inr (3, [.int 0, .long tr, .int pe, .ref a3, .ref a4, .ref a5, .int st, .int kd, .int wd, .ref a9, .int tn, .ref a11, .ref a12, .int sd, .ref a14, .ref a15, .ref a16])), (a15, .inl (cA, 13, .inl Mi)), (a16, .inl (cA, 13, .inl Fo))]) [0, 1, 2] (by decide) rfl
        exact W.iret (v := (-1)) hx hb hr (fun t ht hW => ⟨⟨_, (_, _), rfl, by unfold spCan; first | (rw [c_14, Bool.false_and, Bool.false_and, if_neg (by decide)]) | (rw [c_14, c_21, Bool.true_and, Bool.false_and, if_neg (by decide)]) | (rw [c_14, c_21, c_28, Bool.true_and, Bool.true_and, if_neg (by decide)]), ⟨by rw [ht]; exact hP9, va_K.moved hW.alike hK, hD9⟩⟩, hS.F ht⟩) hS.2.2 dX3_can_32
