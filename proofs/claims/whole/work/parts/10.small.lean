theorem gst_pos {n k x : Nat} (hk : 2 ≤ k) (hx : n < x) : 1 ≤ gst n k x := by
  unfold gst
  rw [Nat.le_div_iff_mul_le (by omega)]
  have : k * 1 ≤ k * (x - n) := Nat.mul_le_mul_left _ (by omega)
  omega
set_option maxHeartbeats 4000000 in
set_option maxRecDepth 100000 in
theorem c_X2_isWithin (l : Launch) (dC : Nat → ClassId) (dI : Nat → Nat → Nat) (v a b : Int64) : Met l yX2_isWithin wsX2_isWithin ({ frames := 0, cells := 0, slots := 0, locals := 0 }) (va_Pc [.long v, .long a, .long b] (fun _ => True)) (vp_Si (fun r => r = zb (wi v.toInt a.toInt b.toInt))) 0 0 (fun _ => False) := by
  refine Met.ofW (cc := cX2_isWithin) (maxL := 6) (ret := (some .boolean)) (by decide) rfl ?_
  intro p e s m args below meth c s₁ B hml hv
  obtain ⟨rfl, -⟩ := hv
  have hx := B.exec
  have hb := B.bytes
  have hr := B.returns
  have hts := atoms_spec (ws := wsX2_isWithin) B.pre
  have hown : s.vm.findClass RX2 = some m.cls := findClass_of_methodNamed B.named
  have hlocks := B.notSynchronized
  have hl := lv_entry ([.long v, .long a, .long b]) (n := 6) (Nat.le_of_ble_eq_true rfl)
  rw [lg_entry_eq]
  generalize (lg_sl ([.long v, .long a, .long b]) ++ List.replicate (6 - (lg_sl ([.long v, .long a, .long b])).length) Slot.unset).toArray = ls at hl ⊢
  have hl : lv_has ls 6 [(0, .long v), (2, .long a), (4, .long b)] := hl
  refine lv_lload_n hx hb dX2_isWithin_0 rfl (lv_at hl 0 rfl) ?_
  refine lv_lload_n hx hb dX2_isWithin_1 rfl (lv_at hl 1 rfl) ?_
  refine W.lcmp hx hb dX2_isWithin_2 ?_
  refine lv_if_lt (tgt := 17) hx hb dX2_isWithin_3 (by decide) (fun c_3 => ?_) (fun c_3 => ?_)
  · have c_3 := (lg_cmp_lt _ _).mp c_3
    refine lv_iconst (v := 0) hx hb dX2_isWithin_17 (by decide) ?_
    exact W.zret (v := 0) hx hb hr (rfl) (fun t ht hW => ⟨_, rfl, by rw [lt64] at *; first | (rw [zb_t (wi_t.mpr (by omega))]) | (rw [zb_f (wi_f.mpr (by omega))]), ht⟩) (fun _ h => absurd h List.not_mem_nil) dX2_isWithin_18
  · have c_3 : ¬ v < a := fun h => c_3 ((lg_cmp_lt _ _).mpr h)
    refine lv_lload_n hx hb dX2_isWithin_6 rfl (lv_at hl 0 rfl) ?_
    refine lv_lload hx hb dX2_isWithin_7 (lv_at hl 2 rfl) ?_
    refine W.lcmp hx hb dX2_isWithin_9 ?_
    refine lv_if_gt (tgt := 17) hx hb dX2_isWithin_10 (by decide) (fun c_10 => ?_) (fun c_10 => ?_)
    · have c_10 := (lg_cmp_gt _ _).mp c_10
      refine lv_iconst (v := 0) hx hb dX2_isWithin_17 (by decide) ?_
      exact W.zret (v := 0) hx hb hr (rfl) (fun t ht hW => ⟨_, rfl, by rw [lt64] at *; first | (rw [zb_t (wi_t.mpr (by omega))]) | (rw [zb_f (wi_f.mpr (by omega))]), ht⟩) (fun _ h => absurd h List.not_mem_nil) dX2_isWithin_18
    · have c_10 : ¬ b < v := fun h => c_10 ((lg_cmp_gt _ _).mpr h)
      refine lv_iconst (v := 1) hx hb dX2_isWithin_13 (by decide) ?_
      refine lv_goto (tgt := 18) hx hb dX2_isWithin_14 (by decide) ?_
      exact W.zret (v := 1) hx hb hr (rfl) (fun t ht hW => ⟨_, rfl, by rw [lt64] at *; first | (rw [zb_t (wi_t.mpr (by omega))]) | (rw [zb_f (wi_f.mpr (by omega))]), ht⟩) (fun _ h => absurd h List.not_mem_nil) dX2_isWithin_18

set_option maxHeartbeats 4000000 in
set_option maxRecDepth 100000 in
theorem c_X3_in (l : Launch) (dC : Nat → ClassId) (dI : Nat → Nat → Nat) (v a b : Int64) : Met l yX3_in wsX3_in ({ frames := 0, cells := 0, slots := 0, locals := 0 }) (va_Pc [.long v, .long a, .long b] (fun _ => True)) (vp_Si (fun r => r = zb (wi v.toInt a.toInt b.toInt))) 0 0 (fun _ => False) := by
  refine Met.ofW (cc := cX3_in) (maxL := 6) (ret := (some .boolean)) (by decide) rfl ?_
  intro p e s m args below meth c s₁ B hml hv
  obtain ⟨rfl, -⟩ := hv
  have hx := B.exec
  have hb := B.bytes
  have hr := B.returns
  have hts := atoms_spec (ws := wsX3_in) B.pre
  have hown : s.vm.findClass RX3 = some m.cls := findClass_of_methodNamed B.named
  have hlocks := B.notSynchronized
  have hl := lv_entry ([.long v, .long a, .long b]) (n := 6) (Nat.le_of_ble_eq_true rfl)
  rw [lg_entry_eq]
  generalize (lg_sl ([.long v, .long a, .long b]) ++ List.replicate (6 - (lg_sl ([.long v, .long a, .long b])).length) Slot.unset).toArray = ls at hl ⊢
  have hl : lv_has ls 6 [(0, .long v), (2, .long a), (4, .long b)] := hl
  refine lv_lload_n hx hb dX3_in_0 rfl (lv_at hl 0 rfl) ?_
  refine lv_lload_n hx hb dX3_in_1 rfl (lv_at hl 1 rfl) ?_
  refine W.lcmp hx hb dX3_in_2 ?_
  refine lv_if_lt (tgt := 17) hx hb dX3_in_3 (by decide) (fun c_3 => ?_) (fun c_3 => ?_)
  · have c_3 := (lg_cmp_lt _ _).mp c_3
    refine lv_iconst (v := 0) hx hb dX3_in_17 (by decide) ?_
    exact W.zret (v := 0) hx hb hr (rfl) (fun t ht hW => ⟨_, rfl, by rw [lt64] at *; first | (rw [zb_t (wi_t.mpr (by omega))]) | (rw [zb_f (wi_f.mpr (by omega))]), ht⟩) (fun _ h => absurd h List.not_mem_nil) dX3_in_18
  · have c_3 : ¬ v < a := fun h => c_3 ((lg_cmp_lt _ _).mpr h)
    refine lv_lload_n hx hb dX3_in_6 rfl (lv_at hl 0 rfl) ?_
    refine lv_lload hx hb dX3_in_7 (lv_at hl 2 rfl) ?_
    refine W.lcmp hx hb dX3_in_9 ?_
    refine lv_if_gt (tgt := 17) hx hb dX3_in_10 (by decide) (fun c_10 => ?_) (fun c_10 => ?_)
    · have c_10 := (lg_cmp_gt _ _).mp c_10
      refine lv_iconst (v := 0) hx hb dX3_in_17 (by decide) ?_
      exact W.zret (v := 0) hx hb hr (rfl) (fun t ht hW => ⟨_, rfl, by rw [lt64] at *; first | (rw [zb_t (wi_t.mpr (by omega))]) | (rw [zb_f (wi_f.mpr (by omega))]), ht⟩) (fun _ h => absurd h List.not_mem_nil) dX3_in_18
    · have c_10 : ¬ b < v := fun h => c_10 ((lg_cmp_gt _ _).mpr h)
      refine lv_iconst (v := 1) hx hb dX3_in_13 (by decide) ?_
      refine lv_goto (tgt := 18) hx hb dX3_in_14 (by decide) ?_
      exact W.zret (v := 1) hx hb hr (rfl) (fun t ht hW => ⟨_, rfl, by rw [lt64] at *; first | (rw [zb_t (wi_t.mpr (by omega))]) | (rw [zb_f (wi_f.mpr (by omega))]), ht⟩) (fun _ h => absurd h List.not_mem_nil) dX3_in_18

set_option maxHeartbeats 4000000 in
set_option maxRecDepth 100000 in
theorem c_X2_isGreatRing (l : Launch) (dC : Nat → ClassId) (dI : Nat → Nat → Nat) (n : Int64) (k : Int32) : Met l yX2_isGreatRing wsX2_isGreatRing ({ frames := 1, cells := 0, slots := 0, locals := 25 }) (va_Pc [.long n, .int k] (fun _ => True)) (vp_Si (fun r => r = zb (wi n.toInt 1 1000000000000 && wi k.toInt 1 1000))) 0 0 (fun _ => False) := by
  refine Met.ofW (cc := cX2_isGreatRing) (maxL := 3) (ret := (some .boolean)) (by decide) rfl ?_
  intro p e s m args below meth c s₁ B hml hv
  obtain ⟨rfl, -⟩ := hv
  have hx := B.exec
  have hb := B.bytes
  have hr := B.returns
  have hts := atoms_spec (ws := wsX2_isGreatRing) B.pre
  have hown : s.vm.findClass RX2 = some m.cls := findClass_of_methodNamed B.named
  have hlocks := B.notSynchronized
  have hl := lv_entry ([.long n, .int k]) (n := 3) (Nat.le_of_ble_eq_true rfl)
  rw [lg_entry_eq]
  generalize (lg_sl ([.long n, .int k]) ++ List.replicate (3 - (lg_sl ([.long n, .int k])).length) Slot.unset).toArray = ls at hl ⊢
  have hl : lv_has ls 3 [(0, .long n), (2, .int k)] := hl
  refine lv_lload_n hx hb dX2_isGreatRing_0 rfl (lv_at hl 0 rfl) ?_
  refine lv_lconst (v := 1) hx hb dX2_isGreatRing_1 (by decide) ?_
  refine lv_ldc2 (v := 1000000000000) hx hb hown (hts (.constantLong RX2 155 (1000000000000)) (by decide +kernel)) dX2_isGreatRing_2 ?_
  refine vp_callSi (va_Run.run (va_runS (As := [.long n, .long 1, .long 1000000000000]) (rest := []) ⟨hx, hb, hml, hown, hts⟩ (c_X2_isWithin l dC dI n 1 1000000000000) (va_cwS 3 hts gX2_isGreatRing_X2_isWithin rfl rfl rfl (by decide +kernel) ⟨Nat.le_of_ble_eq_true rfl, Nat.le_of_ble_eq_true rfl⟩) ⟨fun a U g mk q => ⟨q.1, trivial⟩, fun U hU hW => ⟨rfl, trivial⟩⟩ rfl rfl hl.1 rfl (lv_room (Nat.le_of_ble_eq_true rfl)) dX2_isGreatRing_5 ⟨Nat.zero_le _, Nat.zero_le _⟩)) (fun r_5 hr_5 => ?_)
  obtain rfl : r_5 = zb (wi n.toInt 1 1000000000000) := hr_5.trans (by rfl)
  refine lv_if_eq (tgt := 27) hx hb dX2_isGreatRing_8 (by decide) (fun c_8 => ?_) (fun c_8 => ?_)
  · have c_8 := zb_0.mp c_8
    refine lv_iconst (v := 0) hx hb dX2_isGreatRing_27 (by decide) ?_
    exact W.zret (v := 0) hx hb hr (rfl) (fun t ht hW => ⟨_, rfl, by first | (rw [c_8, c_20]; rfl) | (rw [c_8]; rfl), ht⟩) (fun _ h => absurd h List.not_mem_nil) dX2_isGreatRing_28
  · have c_8 := zb_n.mp c_8
    refine lv_iload_n hx hb dX2_isGreatRing_11 rfl (lv_at hl 1 rfl) ?_
    refine lv_i2l (v := k.toInt64) hx hb dX2_isGreatRing_12 rfl ?_
    refine lv_lconst (v := 1) hx hb dX2_isGreatRing_13 (by decide) ?_
    refine lv_ldc2 (v := 1000) hx hb hown (hts (.constantLong RX2 157 (1000)) (by decide +kernel)) dX2_isGreatRing_14 ?_
    refine vp_callSi (va_Run.run (va_runS (As := [.long k.toInt64, .long 1, .long 1000]) (rest := []) ⟨hx, hb, hml, hown, hts⟩ (c_X2_isWithin l dC dI k.toInt64 1 1000) (va_cwS 3 hts gX2_isGreatRing_X2_isWithin rfl rfl rfl (by decide +kernel) ⟨Nat.le_of_ble_eq_true rfl, Nat.le_of_ble_eq_true rfl⟩) ⟨fun a U g mk q => ⟨q.1, trivial⟩, fun U hU hW => ⟨rfl, trivial⟩⟩ rfl rfl hl.1 rfl (lv_room (Nat.le_of_ble_eq_true rfl)) dX2_isGreatRing_17 ⟨Nat.zero_le _, Nat.zero_le _⟩)) (fun r_17 hr_17 => ?_)
    obtain rfl : r_17 = zb (wi k.toInt 1 1000) := hr_17.trans (by rw [i2l_toInt]; rfl)
    refine lv_if_eq (tgt := 27) hx hb dX2_isGreatRing_20 (by decide) (fun c_20 => ?_) (fun c_20 => ?_)
    · have c_20 := zb_0.mp c_20
      refine lv_iconst (v := 0) hx hb dX2_isGreatRing_27 (by decide) ?_
      exact W.zret (v := 0) hx hb hr (rfl) (fun t ht hW => ⟨_, rfl, by first | (rw [c_8, c_20]; rfl) | (rw [c_8]; rfl), ht⟩) (fun _ h => absurd h List.not_mem_nil) dX2_isGreatRing_28
    · have c_20 := zb_n.mp c_20
      refine lv_iconst (v := 1) hx hb dX2_isGreatRing_23 (by decide) ?_
      refine lv_goto (tgt := 28) hx hb dX2_isGreatRing_24 (by decide) ?_
      exact W.zret (v := 1) hx hb hr (rfl) (fun t ht hW => ⟨_, rfl, by first | (rw [c_8, c_20]; rfl) | (rw [c_8]; rfl), ht⟩) (fun _ h => absurd h List.not_mem_nil) dX2_isGreatRing_28

set_option maxHeartbeats 4000000 in
set_option maxRecDepth 100000 in
theorem c_X3_isGreat (l : Launch) (dC : Nat → ClassId) (dI : Nat → Nat → Nat) (n : Int64) (k : Int32) : Met l yX3_isGreat wsX3_isGreat ({ frames := 1, cells := 0, slots := 0, locals := 25 }) (va_Pc [.long n, .int k] (fun _ => True)) (vp_Si (fun r => r = zb (wi n.toInt 1 1000000000000 && wi k.toInt 1 1000))) 0 0 (fun _ => False) := by
  refine Met.ofW (cc := cX3_isGreat) (maxL := 3) (ret := (some .boolean)) (by decide) rfl ?_
  intro p e s m args below meth c s₁ B hml hv
  obtain ⟨rfl, -⟩ := hv
  have hx := B.exec
  have hb := B.bytes
  have hr := B.returns
  have hts := atoms_spec (ws := wsX3_isGreat) B.pre
  have hown : s.vm.findClass RX3 = some m.cls := findClass_of_methodNamed B.named
  have hlocks := B.notSynchronized
  have hl := lv_entry ([.long n, .int k]) (n := 3) (Nat.le_of_ble_eq_true rfl)
  rw [lg_entry_eq]
  generalize (lg_sl ([.long n, .int k]) ++ List.replicate (3 - (lg_sl ([.long n, .int k])).length) Slot.unset).toArray = ls at hl ⊢
  have hl : lv_has ls 3 [(0, .long n), (2, .int k)] := hl
  refine lv_lload_n hx hb dX3_isGreat_0 rfl (lv_at hl 0 rfl) ?_
  refine lv_lconst (v := 1) hx hb dX3_isGreat_1 (by decide) ?_
  refine lv_ldc2 (v := 1000000000000) hx hb hown (hts (.constantLong RX3 54 (1000000000000)) (by decide +kernel)) dX3_isGreat_2 ?_
  refine vp_callSi (va_Run.run (va_runS (As := [.long n, .long 1, .long 1000000000000]) (rest := []) ⟨hx, hb, hml, hown, hts⟩ (c_X3_in l dC dI n 1 1000000000000) (va_cwS 3 hts gX3_isGreat_X3_in rfl rfl rfl (by decide +kernel) ⟨Nat.le_of_ble_eq_true rfl, Nat.le_of_ble_eq_true rfl⟩) ⟨fun a U g mk q => ⟨q.1, trivial⟩, fun U hU hW => ⟨rfl, trivial⟩⟩ rfl rfl hl.1 rfl (lv_room (Nat.le_of_ble_eq_true rfl)) dX3_isGreat_5 ⟨Nat.zero_le _, Nat.zero_le _⟩)) (fun r_5 hr_5 => ?_)
  obtain rfl : r_5 = zb (wi n.toInt 1 1000000000000) := hr_5.trans (by rfl)
  refine lv_if_eq (tgt := 27) hx hb dX3_isGreat_8 (by decide) (fun c_8 => ?_) (fun c_8 => ?_)
  · have c_8 := zb_0.mp c_8
    refine lv_iconst (v := 0) hx hb dX3_isGreat_27 (by decide) ?_
    exact W.zret (v := 0) hx hb hr (rfl) (fun t ht hW => ⟨_, rfl, by first | (rw [c_8, c_20]; rfl) | (rw [c_8]; rfl), ht⟩) (fun _ h => absurd h List.not_mem_nil) dX3_isGreat_28
  · have c_8 := zb_n.mp c_8
    refine lv_iload_n hx hb dX3_isGreat_11 rfl (lv_at hl 1 rfl) ?_
    refine lv_i2l (v := k.toInt64) hx hb dX3_isGreat_12 rfl ?_
    refine lv_lconst (v := 1) hx hb dX3_isGreat_13 (by decide) ?_
    refine lv_ldc2 (v := 1000) hx hb hown (hts (.constantLong RX3 60 (1000)) (by decide +kernel)) dX3_isGreat_14 ?_
    refine vp_callSi (va_Run.run (va_runS (As := [.long k.toInt64, .long 1, .long 1000]) (rest := []) ⟨hx, hb, hml, hown, hts⟩ (c_X3_in l dC dI k.toInt64 1 1000) (va_cwS 3 hts gX3_isGreat_X3_in rfl rfl rfl (by decide +kernel) ⟨Nat.le_of_ble_eq_true rfl, Nat.le_of_ble_eq_true rfl⟩) ⟨fun a U g mk q => ⟨q.1, trivial⟩, fun U hU hW => ⟨rfl, trivial⟩⟩ rfl rfl hl.1 rfl (lv_room (Nat.le_of_ble_eq_true rfl)) dX3_isGreat_17 ⟨Nat.zero_le _, Nat.zero_le _⟩)) (fun r_17 hr_17 => ?_)
    obtain rfl : r_17 = zb (wi k.toInt 1 1000) := hr_17.trans (by rw [i2l_toInt]; rfl)
    refine lv_if_eq (tgt := 27) hx hb dX3_isGreat_20 (by decide) (fun c_20 => ?_) (fun c_20 => ?_)
    · have c_20 := zb_0.mp c_20
      refine lv_iconst (v := 0) hx hb dX3_isGreat_27 (by decide) ?_
      exact W.zret (v := 0) hx hb hr (rfl) (fun t ht hW => ⟨_, rfl, by first | (rw [c_8, c_20]; rfl) | (rw [c_8]; rfl), ht⟩) (fun _ h => absurd h List.not_mem_nil) dX3_isGreat_28
    · have c_20 := zb_n.mp c_20
      refine lv_iconst (v := 1) hx hb dX3_isGreat_23 (by decide) ?_
      refine lv_goto (tgt := 28) hx hb dX3_isGreat_24 (by decide) ?_
      exact W.zret (v := 1) hx hb hr (rfl) (fun t ht hW => ⟨_, rfl, by first | (rw [c_8, c_20]; rfl) | (rw [c_8]; rfl), ht⟩) (fun _ h => absurd h List.not_mem_nil) dX3_isGreat_28

set_option maxHeartbeats 4000000 in
set_option maxRecDepth 100000 in
theorem c_X2_placeOfGoing (l : Launch) (dC : Nat → ClassId) (dI : Nat → Nat → Nat) (n k j : Nat) (hn1 : 1 ≤ n) (hn : n ≤ 1000000000000) (hk1 : 1 ≤ k) (hk : k ≤ 1000) (hj1 : 1 ≤ j) (hj : j ≤ n) : Met l yX2_placeOfGoing wsX2_placeOfGoing ({ frames := 0, cells := 0, slots := 0, locals := 0 }) (va_Pc [.long (lN n), .int (nI k), .long (lN j)] (fun _ => True)) (vp_Sl (fun r => r = lN (goN n k j))) 0 0 (fun _ => False) := by
  refine Met.ofW (cc := cX2_placeOfGoing) (maxL := 8) (ret := (some .long)) (by decide) rfl ?_
  intro p e s m args below meth c s₁ B hml hv
  obtain ⟨rfl, -⟩ := hv
  have hx := B.exec
  have hb := B.bytes
  have hr := B.returns
  have hts := atoms_spec (ws := wsX2_placeOfGoing) B.pre
  have hown : s.vm.findClass RX2 = some m.cls := findClass_of_methodNamed B.named
  have hlocks := B.notSynchronized
  have hl := lv_entry ([.long (lN n), .int (nI k), .long (lN j)]) (n := 8) (Nat.le_of_ble_eq_true rfl)
  rw [lg_entry_eq]
  generalize (lg_sl ([.long (lN n), .int (nI k), .long (lN j)]) ++ List.replicate (8 - (lg_sl ([.long (lN n), .int (nI k), .long (lN j)])).length) Slot.unset).toArray = ls at hl ⊢
  have hl : lv_has ls 8 [(0, .long (lN n)), (2, .int (nI k)), (3, .long (lN j))] := hl
  have hkn : k * n ≤ 1000 * 1000000000000 := Nat.mul_le_mul hk hn
  have hkj : k * j ≤ k * n := Nat.mul_le_mul_left _ hj
  have hkj1 : 1 ≤ k * j := Nat.mul_le_mul hk1 hj1
  refine lv_iload_n hx hb dX2_placeOfGoing_0 rfl (lv_at hl 1 rfl) ?_
  refine lv_iconst (v := 2) hx hb dX2_placeOfGoing_1 (by decide) ?_
  refine lv_icmp_ge (tgt := 9) hx hb dX2_placeOfGoing_2 (by decide) (fun c_2 => ?_) (fun c_2 => ?_)
  · have c_2 : 2 ≤ k := (nI_leI (a := 2) (by omega) (by omega)).mp c_2
    refine lv_iload_n hx hb dX2_placeOfGoing_9 rfl (lv_at hl 1 rfl) ?_
    refine lv_i2l (v := (nI k).toInt64) hx hb dX2_placeOfGoing_10 rfl ?_
    refine lv_lload_n hx hb dX2_placeOfGoing_11 rfl (lv_at hl 2 rfl) ?_
    refine lv_lmul hx hb dX2_placeOfGoing_12 ?_
    refine z_l (y := lN (k * j)) (by rw [nI_l (by omega), lN_mul]) ?_
    refine lv_lstore (lv' := [(5, .long (lN (k * j))), (0, .long (lN n)), (2, .int (nI k)), (3, .long (lN j))]) hx hb dX2_placeOfGoing_13 hl (by decide) rfl (fun ls hl => ?_)
    refine lv_iconst (v := 0) hx hb dX2_placeOfGoing_15 (by decide) ?_
    refine lv_istore (lv' := [(7, .int 0), (5, .long (lN (k * j))), (0, .long (lN n)), (2, .int (nI k)), (3, .long (lN j))]) hx hb dX2_placeOfGoing_16 hl (by decide) rfl (fun ls hl => ?_)
    refine W_loopR (σ := Nat × Nat) (fun xx ls => match xx with | (x, i) => lv_has ls 8 [(0, .long (lN n)), (2, .int (nI k)), (5, .long (lN x)), (7, .int (nI i))] ∧ x ≤ k * n ∧ 1 ≤ x ∧ i ≤ 1000000 ∧ gIt n k (1000000 - i) x = gIt n k 1000000 (k * j)) (fun xx => match xx with | (x, i) => 1000000 - i) ?_ (k * j, 0) ⟨lv_sub hl [2, 3, 1, 0] rfl, hkj, hkj1, (by omega), rfl⟩
    rintro ⟨x, i⟩ ls ⟨hl, hxk, hx1, hi, hg⟩ ih_18
    refine lv_lload hx hb dX2_placeOfGoing_18 (lv_at hl 2 rfl) ?_
    refine lv_lload_n hx hb dX2_placeOfGoing_20 rfl (lv_at hl 0 rfl) ?_
    refine W.lcmp hx hb dX2_placeOfGoing_21 ?_
    refine lv_if_le (tgt := 54) hx hb dX2_placeOfGoing_22 (by decide) (fun c_22 => ?_) (fun c_22 => ?_)
    · have c_22 : x ≤ n := (pk_lLE (by omega) (by omega)).mp ((lg_cmp_le _ _).mp c_22)
      refine lv_lload hx hb dX2_placeOfGoing_54 (lv_at hl 2 rfl) ?_
      refine lv_lconst (v := 1) hx hb dX2_placeOfGoing_56 (by decide) ?_
      refine lv_lsub hx hb dX2_placeOfGoing_57 ?_
      refine z_l (y := lN (x - 1)) (lN_sub (b := 1) (by omega)) ?_
      exact W.lret (v := lN (x - 1)) hx hb hr (fun t ht hW => ⟨_, rfl, by first | (rw [goN, if_neg (by omega), ← hg, gIt_stay (by omega)]) | (rw [goN, if_neg (by omega), ← hg, show 1000000 - i = 0 by omega]; rfl), ht⟩) (fun _ h => absurd h List.not_mem_nil) dX2_placeOfGoing_58
    · have c_22 : n < x := Nat.lt_of_not_le (fun h => c_22 ((lg_cmp_le _ _).mpr ((pk_lLE (by omega) (by omega)).mpr h)))
      refine lv_iload hx hb dX2_placeOfGoing_25 (lv_at hl 3 rfl) ?_
      refine lv_ldc (v := 1000000) hx hb hown (hts (.constant RX2 163 (1000000)) (by decide +kernel)) dX2_placeOfGoing_27 ?_
      refine lv_icmp_ge (tgt := 54) hx hb dX2_placeOfGoing_29 (by decide) (fun c_29 => ?_) (fun c_29 => ?_)
      · have c_29 : 1000000 ≤ i := (nI_leI (a := 1000000) (by omega) (by omega)).mp c_29
        refine lv_lload hx hb dX2_placeOfGoing_54 (lv_at hl 2 rfl) ?_
        refine lv_lconst (v := 1) hx hb dX2_placeOfGoing_56 (by decide) ?_
        refine lv_lsub hx hb dX2_placeOfGoing_57 ?_
        refine z_l (y := lN (x - 1)) (lN_sub (b := 1) (by omega)) ?_
        exact W.lret (v := lN (x - 1)) hx hb hr (fun t ht hW => ⟨_, rfl, by first | (rw [goN, if_neg (by omega), ← hg, gIt_stay (by omega)]) | (rw [goN, if_neg (by omega), ← hg, show 1000000 - i = 0 by omega]; rfl), ht⟩) (fun _ h => absurd h List.not_mem_nil) dX2_placeOfGoing_58
      · have c_29 : i < 1000000 := Nat.lt_of_not_le (fun h => c_29 ((nI_leI (a := 1000000) (by omega) (by omega)).mpr h))
        have hb1 : k * (x - n) ≤ 1000 * (1000 * 1000000000000) := Nat.mul_le_mul hk (by omega)
        have hb2 : k * 1 ≤ k * (x - n) := Nat.mul_le_mul_left _ (by omega)
        refine lv_iload_n hx hb dX2_placeOfGoing_32 rfl (lv_at hl 1 rfl) ?_
        refine lv_i2l (v := (nI k).toInt64) hx hb dX2_placeOfGoing_33 rfl ?_
        refine lv_lload hx hb dX2_placeOfGoing_34 (lv_at hl 2 rfl) ?_
        refine lv_lload_n hx hb dX2_placeOfGoing_36 rfl (lv_at hl 0 rfl) ?_
        refine lv_lsub hx hb dX2_placeOfGoing_37 ?_
        refine z_l (y := lN (x - n)) (lN_sub (by omega)) ?_
        refine lv_lmul hx hb dX2_placeOfGoing_38 ?_
        refine z_l (y := lN (k * (x - n))) (by rw [nI_l (by omega), lN_mul]) ?_
        refine lv_lconst (v := 1) hx hb dX2_placeOfGoing_39 (by decide) ?_
        refine lv_lsub hx hb dX2_placeOfGoing_40 ?_
        refine z_l (y := lN (k * (x - n) - 1)) (lN_sub (b := 1) (by omega)) ?_
        refine lv_iload_n hx hb dX2_placeOfGoing_41 rfl (lv_at hl 1 rfl) ?_
        refine lv_iconst (v := 1) hx hb dX2_placeOfGoing_42 (by decide) ?_
        refine lv_isub hx hb dX2_placeOfGoing_43 ?_
        refine lv_i2l (v := ((nI k) - 1).toInt64) hx hb dX2_placeOfGoing_44 rfl ?_
        refine z_l (y := lN (k - 1)) (by rw [show nI k - 1 = nI (k - 1) from pk_sub (b := 1) (by omega), nI_l (by omega)]) ?_
        refine lv_ldiv hx hb dX2_placeOfGoing_45 (fun h => by have := (pk_lEQ (b := 0) (by omega) (by omega)).mp h; omega) ?_
        refine z_l (y := lN (gst n k x)) (pk_lDiv (by omega) (by omega) (by omega)) ?_
        refine lv_lstore (lv' := [(5, .long (lN (gst n k x))), (0, .long (lN n)), (2, .int (nI k)), (7, .int (nI i))]) hx hb dX2_placeOfGoing_46 hl (by decide) rfl (fun ls hl => ?_)
        refine lv_iinc (v := nI (i + 1)) (lv' := [(7, .int (nI (i + 1))), (5, .long (lN (gst n k x))), (0, .long (lN n)), (2, .int (nI k))]) hx hb dX2_placeOfGoing_48 hl (k := 3) rfl (nI_1 i) (by decide) rfl (fun ls hl => ?_)
        refine lv_goto (tgt := 18) hx hb dX2_placeOfGoing_51 (by decide) ?_
        exact ih_18 (gst n k x, i + 1) _ (by show 1000000 - (i + 1) < 1000000 - i; omega) ⟨lv_sub hl [2, 3, 1, 0] rfl, (by have := gst_lt c_2 c_22 hxk; omega), gst_pos c_2 c_22, (by omega), (by rw [← hg, show 1000000 - i = (1000000 - (i + 1)) + 1 by omega]; simp [gIt, c_22])⟩
  · have c_2 : k < 2 := Nat.lt_of_not_le (fun h => c_2 ((nI_leI (a := 2) (by omega) (by omega)).mpr h))
    refine lv_lload_n hx hb dX2_placeOfGoing_5 rfl (lv_at hl 2 rfl) ?_
    refine lv_lconst (v := 1) hx hb dX2_placeOfGoing_6 (by decide) ?_
    refine lv_lsub hx hb dX2_placeOfGoing_7 ?_
    refine z_l (y := lN (j - 1)) (lN_sub (b := 1) hj1) ?_
    exact W.lret (v := lN (j - 1)) hx hb hr (fun t ht hW => ⟨_, rfl, by rw [goN, if_pos c_2], ht⟩) (fun _ h => absurd h List.not_mem_nil) dX2_placeOfGoing_8

set_option maxHeartbeats 4000000 in
set_option maxRecDepth 100000 in
theorem c_X3_goesOf (l : Launch) (dC : Nat → ClassId) (dI : Nat → Nat → Nat) (n k j : Nat) (hn1 : 1 ≤ n) (hn : n ≤ 1000000000000) (hk1 : 1 ≤ k) (hk : k ≤ 1000) (hj1 : 1 ≤ j) (hj : j ≤ n) : Met l yX3_goesOf wsX3_goesOf ({ frames := 0, cells := 0, slots := 0, locals := 0 }) (va_Pc [.long (lN n), .int (nI k), .long (lN j)] (fun _ => True)) (vp_Sl (fun r => r = lN (goN n k j))) 0 0 (fun _ => False) := by
  refine Met.ofW (cc := cX3_goesOf) (maxL := 7) (ret := (some .long)) (by decide) rfl ?_
  intro p e s m args below meth c s₁ B hml hv
  obtain ⟨rfl, -⟩ := hv
  have hx := B.exec
  have hb := B.bytes
  have hr := B.returns
  have hts := atoms_spec (ws := wsX3_goesOf) B.pre
  have hown : s.vm.findClass RX3 = some m.cls := findClass_of_methodNamed B.named
  have hlocks := B.notSynchronized
  have hl := lv_entry ([.long (lN n), .int (nI k), .long (lN j)]) (n := 7) (Nat.le_of_ble_eq_true rfl)
  rw [lg_entry_eq]
  generalize (lg_sl ([.long (lN n), .int (nI k), .long (lN j)]) ++ List.replicate (7 - (lg_sl ([.long (lN n), .int (nI k), .long (lN j)])).length) Slot.unset).toArray = ls at hl ⊢
  have hl : lv_has ls 7 [(0, .long (lN n)), (2, .int (nI k)), (3, .long (lN j))] := hl
  have hkn : k * n ≤ 1000 * 1000000000000 := Nat.mul_le_mul hk hn
  have hkj : k * j ≤ k * n := Nat.mul_le_mul_left _ hj
  have hkj1 : 1 ≤ k * j := Nat.mul_le_mul hk1 hj1
  refine lv_iload_n hx hb dX3_goesOf_0 rfl (lv_at hl 1 rfl) ?_
  refine lv_iconst (v := 1) hx hb dX3_goesOf_1 (by decide) ?_
  refine lv_icmp_ne (tgt := 9) hx hb dX3_goesOf_2 (by decide) (fun c_2 => ?_) (fun c_2 => ?_)
  · have c_2 : 2 ≤ k := by have h2 : ¬ k = 1 := (fun h => c_2 ((nI_eq (b := 1) (by omega) (by omega)).mpr h)); omega
    refine lv_iload_n hx hb dX3_goesOf_9 rfl (lv_at hl 1 rfl) ?_
    refine lv_i2l (v := (nI k).toInt64) hx hb dX3_goesOf_10 rfl ?_
    refine lv_lload_n hx hb dX3_goesOf_11 rfl (lv_at hl 2 rfl) ?_
    refine lv_lmul hx hb dX3_goesOf_12 ?_
    refine z_l (y := lN (k * j)) (by rw [nI_l (by omega), lN_mul]) ?_
    refine lv_lstore (lv' := [(5, .long (lN (k * j))), (0, .long (lN n)), (2, .int (nI k)), (3, .long (lN j))]) hx hb dX3_goesOf_13 hl (by decide) rfl (fun ls hl => ?_)
    have hend := gIt_end hn c_2 hk hkj
    refine W_loopR (σ := Nat × Nat) (fun xx ls => match xx with | (x, f) => lv_has ls 7 [(0, .long (lN n)), (2, .int (nI k)), (5, .long (lN x))] ∧ x ≤ k * n ∧ 1 ≤ x ∧ gIt n k f x = gIt n k 1000000 (k * j)) (fun xx => match xx with | (x, f) => f) ?_ (k * j, 1000000) ⟨lv_sub hl [1, 2, 0] rfl, hkj, hkj1, rfl⟩
    rintro ⟨x, f⟩ ls ⟨hl, hxk, hx1, hg⟩ ih_15
    refine lv_lload hx hb dX3_goesOf_15 (lv_at hl 2 rfl) ?_
    refine lv_lload_n hx hb dX3_goesOf_17 rfl (lv_at hl 0 rfl) ?_
    refine W.lcmp hx hb dX3_goesOf_18 ?_
    refine lv_if_le (tgt := 41) hx hb dX3_goesOf_19 (by decide) (fun c_19 => ?_) (fun c_19 => ?_)
    · have c_19 : x ≤ n := (pk_lLE (by omega) (by omega)).mp ((lg_cmp_le _ _).mp c_19)
      refine lv_lload hx hb dX3_goesOf_41 (lv_at hl 2 rfl) ?_
      refine lv_lconst (v := 1) hx hb dX3_goesOf_43 (by decide) ?_
      refine lv_lsub hx hb dX3_goesOf_44 ?_
      refine z_l (y := lN (x - 1)) (lN_sub (b := 1) (by omega)) ?_
      exact W.lret (v := lN (x - 1)) hx hb hr (fun t ht hW => ⟨_, rfl, by rw [goN, if_neg (by omega), ← hg, gIt_stay (by omega)], ht⟩) (fun _ h => absurd h List.not_mem_nil) dX3_goesOf_45
    · have c_19 : n < x := Nat.lt_of_not_le (fun h => c_19 ((lg_cmp_le _ _).mpr ((pk_lLE (by omega) (by omega)).mpr h)))
      have hb1 : k * (x - n) ≤ 1000 * (1000 * 1000000000000) := Nat.mul_le_mul hk (by omega)
      have hb2 : k * 1 ≤ k * (x - n) := Nat.mul_le_mul_left _ (by omega)
      obtain ⟨f, rfl⟩ : ∃ f0, f = f0 + 1 := Nat.exists_eq_succ_of_ne_zero (fun h => by subst h; exact absurd hg (by show ¬ x = _; omega))
      refine lv_iload_n hx hb dX3_goesOf_22 rfl (lv_at hl 1 rfl) ?_
      refine lv_i2l (v := (nI k).toInt64) hx hb dX3_goesOf_23 rfl ?_
      refine lv_lload hx hb dX3_goesOf_24 (lv_at hl 2 rfl) ?_
      refine lv_lload_n hx hb dX3_goesOf_26 rfl (lv_at hl 0 rfl) ?_
      refine lv_lsub hx hb dX3_goesOf_27 ?_
      refine z_l (y := lN (x - n)) (lN_sub (by omega)) ?_
      refine lv_lmul hx hb dX3_goesOf_28 ?_
      refine z_l (y := lN (k * (x - n))) (by rw [nI_l (by omega), lN_mul]) ?_
      refine lv_lconst (v := 1) hx hb dX3_goesOf_29 (by decide) ?_
      refine lv_lsub hx hb dX3_goesOf_30 ?_
      refine z_l (y := lN (k * (x - n) - 1)) (lN_sub (b := 1) (by omega)) ?_
      refine lv_iload_n hx hb dX3_goesOf_31 rfl (lv_at hl 1 rfl) ?_
      refine lv_iconst (v := 1) hx hb dX3_goesOf_32 (by decide) ?_
      refine lv_isub hx hb dX3_goesOf_33 ?_
      refine lv_i2l (v := ((nI k) - 1).toInt64) hx hb dX3_goesOf_34 rfl ?_
      refine z_l (y := lN (k - 1)) (by rw [show nI k - 1 = nI (k - 1) from pk_sub (b := 1) (by omega), nI_l (by omega)]) ?_
      refine lv_ldiv hx hb dX3_goesOf_35 (fun h => by have := (pk_lEQ (b := 0) (by omega) (by omega)).mp h; omega) ?_
      refine z_l (y := lN (gst n k x)) (pk_lDiv (by omega) (by omega) (by omega)) ?_
      refine lv_lstore (lv' := [(5, .long (lN (gst n k x))), (0, .long (lN n)), (2, .int (nI k))]) hx hb dX3_goesOf_36 hl (by decide) rfl (fun ls hl => ?_)
      refine lv_goto (tgt := 15) hx hb dX3_goesOf_38 (by decide) ?_
      exact ih_15 (gst n k x, f) _ (by show f < f + 1; omega) ⟨lv_sub hl [1, 2, 0] rfl, (by have := gst_lt c_2 c_19 hxk; omega), gst_pos c_2 c_19, (by rw [← hg]; simp [gIt, c_19])⟩
  · have c_2 : k < 2 := by have h2 := ((nI_eq (b := 1) (by omega) (by omega)).mp c_2); omega
    refine lv_lload_n hx hb dX3_goesOf_5 rfl (lv_at hl 2 rfl) ?_
    refine lv_lconst (v := 1) hx hb dX3_goesOf_6 (by decide) ?_
    refine lv_lsub hx hb dX3_goesOf_7 ?_
    refine z_l (y := lN (j - 1)) (lN_sub (b := 1) hj1) ?_
    exact W.lret (v := lN (j - 1)) hx hb hr (fun t ht hW => ⟨_, rfl, by rw [goN, if_pos c_2], ht⟩) (fun _ h => absurd h List.not_mem_nil) dX3_goesOf_8

set_option maxHeartbeats 4000000 in
set_option maxRecDepth 100000 in
theorem c_X2_goingOfPlace (l : Launch) (dC : Nat → ClassId) (dI : Nat → Nat → Nat) (n k q : Nat) (hn1 : 1 ≤ n) (hn : n ≤ 1000000000000) (hk1 : 1 ≤ k) (hk : k ≤ 1000) (hq : q < n) : Met l yX2_goingOfPlace wsX2_goingOfPlace ({ frames := 0, cells := 0, slots := 0, locals := 0 }) (va_Pc [.long (lN n), .int (nI k), .long (lN q)] (fun _ => True)) (vp_Sl (fun r => r = lN (tuN n k q))) 0 0 (fun _ => False) := by
  refine Met.ofW (cc := cX2_goingOfPlace) (maxL := 8) (ret := (some .long)) (by decide) rfl ?_
  intro p e s m args below meth c s₁ B hml hv
  obtain ⟨rfl, -⟩ := hv
  have hx := B.exec
  have hb := B.bytes
  have hr := B.returns
  have hts := atoms_spec (ws := wsX2_goingOfPlace) B.pre
  have hown : s.vm.findClass RX2 = some m.cls := findClass_of_methodNamed B.named
  have hlocks := B.notSynchronized
  have hl := lv_entry ([.long (lN n), .int (nI k), .long (lN q)]) (n := 8) (Nat.le_of_ble_eq_true rfl)
  rw [lg_entry_eq]
  generalize (lg_sl ([.long (lN n), .int (nI k), .long (lN q)]) ++ List.replicate (8 - (lg_sl ([.long (lN n), .int (nI k), .long (lN q)])).length) Slot.unset).toArray = ls at hl ⊢
  have hl : lv_has ls 8 [(0, .long (lN n)), (2, .int (nI k)), (3, .long (lN q))] := hl
  have hkn : k * n ≤ 1000 * 1000000000000 := Nat.mul_le_mul hk hn
  refine lv_iload_n hx hb dX2_goingOfPlace_0 rfl (lv_at hl 1 rfl) ?_
  refine lv_iconst (v := 2) hx hb dX2_goingOfPlace_1 (by decide) ?_
  refine lv_icmp_ge (tgt := 9) hx hb dX2_goingOfPlace_2 (by decide) (fun c_2 => ?_) (fun c_2 => ?_)
  · have c_2 : 2 ≤ k := (nI_leI (a := 2) (by omega) (by omega)).mp c_2
    have hkn2 : 2 * n ≤ k * n := Nat.mul_le_mul_right _ c_2
    refine lv_lload_n hx hb dX2_goingOfPlace_9 rfl (lv_at hl 2 rfl) ?_
    refine lv_lconst (v := 1) hx hb dX2_goingOfPlace_10 (by decide) ?_
    refine lv_ladd hx hb dX2_goingOfPlace_11 ?_
    refine z_l (y := lN (q + 1)) (lN_add q 1) ?_
    refine lv_lstore (lv' := [(5, .long (lN (q + 1))), (0, .long (lN n)), (2, .int (nI k)), (3, .long (lN q))]) hx hb dX2_goingOfPlace_12 hl (by decide) rfl (fun ls hl => ?_)
    refine lv_iconst (v := 0) hx hb dX2_goingOfPlace_14 (by decide) ?_
    refine lv_istore (lv' := [(7, .int 0), (5, .long (lN (q + 1))), (0, .long (lN n)), (2, .int (nI k)), (3, .long (lN q))]) hx hb dX2_goingOfPlace_15 hl (by decide) rfl (fun ls hl => ?_)
    refine W_loopR (σ := Nat × Nat) (fun xx ls => match xx with | (x, i) => lv_has ls 8 [(0, .long (lN n)), (2, .int (nI k)), (5, .long (lN x)), (7, .int (nI i))] ∧ x ≤ k * n ∧ i ≤ 1000000 ∧ tIt n k (1000000 - i) x = tIt n k 1000000 (q + 1)) (fun xx => match xx with | (x, i) => 1000000 - i) ?_ (q + 1, 0) ⟨lv_sub hl [2, 3, 1, 0] rfl, (by omega), (by omega), rfl⟩
    rintro ⟨x, i⟩ ls ⟨hl, hxk, hi, hg⟩ ih_17
    refine lv_lload hx hb dX2_goingOfPlace_17 (lv_at hl 2 rfl) ?_
    refine lv_iload_n hx hb dX2_goingOfPlace_19 rfl (lv_at hl 1 rfl) ?_
    refine lv_i2l (v := (nI k).toInt64) hx hb dX2_goingOfPlace_20 rfl ?_
    refine z_l (y := lN k) (nI_l (by omega)) ?_
    refine lv_lrem hx hb dX2_goingOfPlace_21 (fun h => by have := (pk_lEQ (b := 0) (by omega) (by omega)).mp h; omega) ?_
    refine z_l (y := lN (x % k)) (pk_lRem (by omega) (by omega) (by omega)) ?_
    have hmod : x % k < k := Nat.mod_lt _ (by omega)
    refine lv_lconst (v := 0) hx hb dX2_goingOfPlace_22 (by decide) ?_
    refine W.lcmp hx hb dX2_goingOfPlace_23 ?_
    refine lv_if_eq (tgt := 52) hx hb dX2_goingOfPlace_24 (by decide) (fun c_24 => ?_) (fun c_24 => ?_)
    · have c_24 : x % k = 0 := (pk_lEQ (b := 0) (by omega) (by omega)).mp ((lg_cmp_eq _ _).mp c_24)
      refine lv_lload hx hb dX2_goingOfPlace_52 (lv_at hl 2 rfl) ?_
      refine lv_iload_n hx hb dX2_goingOfPlace_54 rfl (lv_at hl 1 rfl) ?_
      refine lv_i2l (v := (nI k).toInt64) hx hb dX2_goingOfPlace_55 rfl ?_
      refine z_l (y := lN k) (nI_l (by omega)) ?_
      refine lv_ldiv hx hb dX2_goingOfPlace_56 (fun h => by have := (pk_lEQ (b := 0) (by omega) (by omega)).mp h; omega) ?_
      refine z_l (y := lN (x / k)) (pk_lDiv (by omega) (by omega) (by omega)) ?_
      exact W.lret (v := lN (x / k)) hx hb hr (fun t ht hW => ⟨_, rfl, by first | (rw [tuN, if_neg (by omega), ← hg, tIt_stay c_24]) | (rw [tuN, if_neg (by omega), ← hg, show 1000000 - i = 0 by omega]; rfl), ht⟩) (fun _ h => absurd h List.not_mem_nil) dX2_goingOfPlace_57
    · have c_24 : ¬ x % k = 0 := fun h => c_24 ((lg_cmp_eq _ _).mpr ((pk_lEQ (b := 0) (by omega) (by omega)).mpr h))
      refine lv_iload hx hb dX2_goingOfPlace_27 (lv_at hl 3 rfl) ?_
      refine lv_ldc (v := 1000000) hx hb hown (hts (.constant RX2 163 (1000000)) (by decide +kernel)) dX2_goingOfPlace_29 ?_
      refine lv_icmp_ge (tgt := 52) hx hb dX2_goingOfPlace_31 (by decide) (fun c_31 => ?_) (fun c_31 => ?_)
      · have c_31 : 1000000 ≤ i := (nI_leI (a := 1000000) (by omega) (by omega)).mp c_31
        refine lv_lload hx hb dX2_goingOfPlace_52 (lv_at hl 2 rfl) ?_
        refine lv_iload_n hx hb dX2_goingOfPlace_54 rfl (lv_at hl 1 rfl) ?_
        refine lv_i2l (v := (nI k).toInt64) hx hb dX2_goingOfPlace_55 rfl ?_
        refine z_l (y := lN k) (nI_l (by omega)) ?_
        refine lv_ldiv hx hb dX2_goingOfPlace_56 (fun h => by have := (pk_lEQ (b := 0) (by omega) (by omega)).mp h; omega) ?_
        refine z_l (y := lN (x / k)) (pk_lDiv (by omega) (by omega) (by omega)) ?_
        exact W.lret (v := lN (x / k)) hx hb hr (fun t ht hW => ⟨_, rfl, by first | (rw [tuN, if_neg (by omega), ← hg, tIt_stay c_24]) | (rw [tuN, if_neg (by omega), ← hg, show 1000000 - i = 0 by omega]; rfl), ht⟩) (fun _ h => absurd h List.not_mem_nil) dX2_goingOfPlace_57
      · have c_31 : i < 1000000 := Nat.lt_of_not_le (fun h => c_31 ((nI_leI (a := 1000000) (by omega) (by omega)).mpr h))
        have hdv : x / k ≤ x := Nat.div_le_self _ _
        refine lv_lload_n hx hb dX2_goingOfPlace_34 rfl (lv_at hl 0 rfl) ?_
        refine lv_lload hx hb dX2_goingOfPlace_35 (lv_at hl 2 rfl) ?_
        refine lv_ladd hx hb dX2_goingOfPlace_37 ?_
        refine z_l (y := lN (n + x)) (lN_add n x) ?_
        refine lv_lload hx hb dX2_goingOfPlace_38 (lv_at hl 2 rfl) ?_
        refine lv_iload_n hx hb dX2_goingOfPlace_40 rfl (lv_at hl 1 rfl) ?_
        refine lv_i2l (v := (nI k).toInt64) hx hb dX2_goingOfPlace_41 rfl ?_
        refine z_l (y := lN k) (nI_l (by omega)) ?_
        refine lv_ldiv hx hb dX2_goingOfPlace_42 (fun h => by have := (pk_lEQ (b := 0) (by omega) (by omega)).mp h; omega) ?_
        refine z_l (y := lN (x / k)) (pk_lDiv (by omega) (by omega) (by omega)) ?_
        refine lv_lsub hx hb dX2_goingOfPlace_43 ?_
        refine z_l (y := lN (tst n k x)) (lN_sub (by omega)) ?_
        refine lv_lstore (lv' := [(5, .long (lN (tst n k x))), (0, .long (lN n)), (2, .int (nI k)), (7, .int (nI i))]) hx hb dX2_goingOfPlace_44 hl (by decide) rfl (fun ls hl => ?_)
        refine lv_iinc (v := nI (i + 1)) (lv' := [(7, .int (nI (i + 1))), (5, .long (lN (tst n k x))), (0, .long (lN n)), (2, .int (nI k))]) hx hb dX2_goingOfPlace_46 hl (k := 3) rfl (nI_1 i) (by decide) rfl (fun ls hl => ?_)
        refine lv_goto (tgt := 17) hx hb dX2_goingOfPlace_49 (by decide) ?_
        exact ih_17 (tst n k x, i + 1) _ (by show 1000000 - (i + 1) < 1000000 - i; omega) ⟨lv_sub hl [2, 3, 1, 0] rfl, (tst_le c_2 hxk).1, (by omega), (by rw [← hg, show 1000000 - i = (1000000 - (i + 1)) + 1 by omega]; simp [tIt, c_24])⟩
  · have c_2 : k < 2 := Nat.lt_of_not_le (fun h => c_2 ((nI_leI (a := 2) (by omega) (by omega)).mpr h))
    refine lv_lload_n hx hb dX2_goingOfPlace_5 rfl (lv_at hl 2 rfl) ?_
    refine lv_lconst (v := 1) hx hb dX2_goingOfPlace_6 (by decide) ?_
    refine lv_ladd hx hb dX2_goingOfPlace_7 ?_
    refine z_l (y := lN (q + 1)) (lN_add q 1) ?_
    exact W.lret (v := lN (q + 1)) hx hb hr (fun t ht hW => ⟨_, rfl, by rw [tuN, if_pos c_2], ht⟩) (fun _ h => absurd h List.not_mem_nil) dX2_goingOfPlace_8
