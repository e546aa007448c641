theorem set_w1 {w : Int32} (h : wi w.toInt 0 1 = true) (h0 : ¬ w = 0) : w = 1 := by
  obtain ⟨h1, h2⟩ := wi_t.mp h
  have k0 : ¬ w.toInt = 0 := fun h => h0 ((eq32 w 0).mpr h)
  exact (eq32 w 1).mpr (show w.toInt = 1 by omega)
theorem w4_okm {n1 : Nat} {a b c0 d : Int32} (hn1 : 1 ≤ n1) (hn : n1 ≤ 4) (h : okWs (nI n1) a b c0 d = true) (WR : Nat → Int32) : ∀ i, i < n1 → upd (upd (upd (upd WR 0 a) 1 (if n1 ≤ 1 then 0 else b)) 2 (if n1 ≤ 2 then 0 else c0)) 3 (if n1 ≤ 3 then 0 else d) i = nI (w4 a b c0 d i) := by
  intro i hi
  rw [← (w4_ok hn1 hn h i hi).2 WR]
  rcases (show i = 0 ∨ i = 1 ∨ i = 2 ∨ i = 3 by omega) with rfl | rfl | rfl | rfl
  · rw [pk_un (by decide), pk_un (by decide), pk_un (by decide), pk_us, pk_un (by decide), pk_un (by decide), pk_un (by decide), pk_us]
  · rw [pk_un (by decide), pk_un (by decide), pk_us, pk_un (by decide), pk_un (by decide), pk_us, if_neg (by omega)]
  · rw [pk_un (by decide), pk_us, pk_un (by decide), pk_us, if_neg (by omega)]
  · rw [pk_us, pk_us, if_neg (by omega)]
set_option maxHeartbeats 4000000 in
set_option maxRecDepth 100000 in
theorem c_X3_isPerson (l : Launch) (dC : Nat → ClassId) (dI : Nat → Nat → Nat) (cA : ClassId) (h0 a3 a4 a5 a9 a11 a12 a14 a15 a16 : Nat) (tr : Int64) (N : Nat) (hN1 : 1 ≤ N) (hN : N ≤ 40) (st kd wd tn sd p0 : Int32) : Met l yX3_isPerson wsX3_isPerson ({ frames := 1, cells := 0, slots := 0, locals := 25 }) (va_Pc [.ref h0, .int p0] (fun U => va_P (dC, dI) vwCl [(h0, .inr (3, [.int 0, .long tr, .int (nI N), .ref a3, .ref a4, .ref a5, .int st, .int kd, .int wd, .ref a9, .int tn, .ref a11, .ref a12, .int sd, .ref a14, .ref a15, .ref a16]))] U.heap ∧ va_K (dC, dI) vwCl [(cA, .int)] U)) (vp_Si (fun r => r = zb (wi p0.toInt 0 ((N : Int) - 1)))) 0 0 (fun _ => False) := by
  refine Met.ofW (cc := cX3_isPerson) (maxL := 2) (ret := (some .boolean)) (by decide) rfl ?_
  intro p e s m args below meth c s₁ B hml hv
  obtain ⟨rfl, hP, hK⟩ := hv
  have hx := B.exec
  have hb := B.bytes
  have hr := B.returns
  have hts := atoms_spec (ws := wsX3_isPerson) B.pre
  have hown : s.vm.findClass RX3 = some m.cls := findClass_of_methodNamed B.named
  have hlocks := B.notSynchronized
  have hl := lv_entry ([.ref h0, .int p0]) (n := 2) (Nat.le_of_ble_eq_true rfl)
  rw [lg_entry_eq]
  generalize (lg_sl ([.ref h0, .int p0]) ++ List.replicate (2 - (lg_sl ([.ref h0, .int p0])).length) Slot.unset).toArray = ls at hl ⊢
  have hl : lv_has ls 2 [(0, .ref h0), (1, .int p0)] := hl
  refine lv_iload_n hx hb dX3_isPerson_0 rfl (lv_at hl 1 rfl) ?_
  refine lv_i2l (v := p0.toInt64) hx hb dX3_isPerson_1 rfl ?_
  refine lv_lconst (v := 0) hx hb dX3_isPerson_2 (by decide) ?_
  refine lv_aload_n hx hb dX3_isPerson_3 rfl (lv_at hl 0 rfl) ?_
  refine va_get (D := (dC, dI)) (ci := 3) (v := .int (nI N)) (C := RX3) (T := TX3) (N := 17) hx hb hts (by decide +kernel) hown hK hP 0 rfl rfl 2 (by decide) (hts (.fieldLink RX3 7 "CountedOutModel" "people" "I") (by decide +kernel)) (fun _ h9 => h9) rfl dX3_isPerson_4 ?_
  refine lv_iconst (v := 1) hx hb dX3_isPerson_7 (by decide) ?_
  refine lv_isub hx hb dX3_isPerson_8 ?_
  refine z_i (y := nI (N - 1)) (pk_sub (b := 1) hN1) ?_
  refine lv_i2l (v := (nI (N - 1)).toInt64) hx hb dX3_isPerson_9 rfl ?_
  refine vp_callSi (va_Run.run (va_runS (As := [.long p0.toInt64, .long 0, .long ((nI (N - 1)).toInt64)]) (rest := []) ⟨hx, hb, hml, hown, hts⟩ (c_X3_in l dC dI p0.toInt64 0 ((nI (N - 1)).toInt64)) (va_cwS 3 hts gX3_isPerson_X3_in rfl rfl rfl (by decide +kernel) ⟨Nat.le_of_ble_eq_true rfl, Nat.le_of_ble_eq_true rfl⟩) ⟨fun a U g mk q => ⟨q.1, trivial⟩, fun U hU hW => ⟨rfl, trivial⟩⟩ rfl rfl hl.1 rfl (lv_room (Nat.le_of_ble_eq_true rfl)) dX3_isPerson_10 ⟨Nat.zero_le _, Nat.zero_le _⟩)) (fun r_10 hr_10 => ?_)
  obtain rfl : r_10 = zb (wi p0.toInt 0 ((N : Int) - 1)) := hr_10.trans (by rw [i2l_toInt, i2l_toInt, nI_toInt (by omega), Int.ofNat_sub hN1]; rfl)
  exact W.zret (v := zb (wi p0.toInt 0 ((N : Int) - 1))) hx hb hr (narrow_zb _) (fun t ht hW => ⟨_, rfl, rfl, ht⟩) (fun _ h => absurd h List.not_mem_nil) dX3_isPerson_13

set_option maxHeartbeats 4000000 in
set_option maxRecDepth 100000 in
theorem c_X3_begins (l : Launch) (dC : Nat → ClassId) (dI : Nat → Nat → Nat) (sz : Nat) (cA : ClassId) (h0 a3 a4 a5 a9 a11 a12 a14 a15 a16 : Nat) (tr : Int64) (pe st kd wd tn sd : Int32) (n : Nat) (LV LA WA : Nat → Int32) : Met l yX3_begins wsX3_begins ({ frames := 0, cells := 0, slots := 0, locals := 0 }) (va_Pc [.ref h0, .int (nI n)] (fun U => U.heap.size = sz ∧ va_P (dC, dI) vwCl [(h0, .inr (3, [.int 0, .long tr, .int pe, .ref a3, .ref a4, .ref a5, .int st, .int kd, .int wd, .ref a9, .int tn, .ref a11, .ref a12, .int sd, .ref a14, .ref a15, .ref a16])), (a3, .inl (cA, 40, .inl LV)), (a4, .inl (cA, 40, .inl LA)), (a5, .inl (cA, 40, .inl WA))] U.heap ∧ va_K (dC, dI) vwCl [(cA, .int)] U ∧ va_D (fun _ => True) [(h0, .inr (3, [.int 0, .long tr, .int pe, .ref a3, .ref a4, .ref a5, .int st, .int kd, .int wd, .ref a9, .int tn, .ref a11, .ref a12, .int sd, .ref a14, .ref a15, .ref a16])), (a3, .inl (cA, 40, .inl LV)), (a4, .inl (cA, 40, .inl LA)), (a5, .inl (cA, 40, .inl WA))])) (va_Qv (S := (Nat → Int32) × (Nat → Int32) × (Nat → Int32)) (fun u => ∀ q, q < 40 → u.1 q = 1 ∧ u.2.1 q = 1 ∧ u.2.2 q = -9) (fun (u : (Nat → Int32) × (Nat → Int32) × (Nat → Int32)) (t : State) => va_P (dC, dI) vwCl [(h0, .inr (3, [.int 0, .long tr, .int (nI n), .ref a3, .ref a4, .ref a5, .int st, .int kd, .int wd, .ref a9, .int 0, .ref a11, .ref a12, .int 0, .ref a14, .ref a15, .ref a16])), (a3, .inl (cA, 40, .inl u.1)), (a4, .inl (cA, 40, .inl u.2.1)), (a5, .inl (cA, 40, .inl u.2.2))] t.heap ∧ va_K (dC, dI) vwCl [(cA, .int)] t ∧ va_D (va_A [(h0, .inr (3, [.int 0, .long tr, .int pe, .ref a3, .ref a4, .ref a5, .int st, .int kd, .int wd, .ref a9, .int tn, .ref a11, .ref a12, .int sd, .ref a14, .ref a15, .ref a16])), (a3, .inl (cA, 40, .inl LV)), (a4, .inl (cA, 40, .inl LA)), (a5, .inl (cA, 40, .inl WA))] sz) [(h0, .inr (3, [.int 0, .long tr, .int (nI n), .ref a3, .ref a4, .ref a5, .int st, .int kd, .int wd, .ref a9, .int 0, .ref a11, .ref a12, .int 0, .ref a14, .ref a15, .ref a16])), (a3, .inl (cA, 40, .inl u.1)), (a4, .inl (cA, 40, .inl u.2.1)), (a5, .inl (cA, 40, .inl u.2.2))]) (va_A [(h0, .inr (3, [.int 0, .long tr, .int pe, .ref a3, .ref a4, .ref a5, .int st, .int kd, .int wd, .ref a9, .int tn, .ref a11, .ref a12, .int sd, .ref a14, .ref a15, .ref a16])), (a3, .inl (cA, 40, .inl LV)), (a4, .inl (cA, 40, .inl LA)), (a5, .inl (cA, 40, .inl WA))] sz)) 0 0 (va_A [(h0, .inr (3, [.int 0, .long tr, .int pe, .ref a3, .ref a4, .ref a5, .int st, .int kd, .int wd, .ref a9, .int tn, .ref a11, .ref a12, .int sd, .ref a14, .ref a15, .ref a16])), (a3, .inl (cA, 40, .inl LV)), (a4, .inl (cA, 40, .inl LA)), (a5, .inl (cA, 40, .inl WA))] sz) := by
  refine Met.ofW (cc := cX3_begins) (maxL := 3) (ret := none) (by decide) rfl ?_
  intro p e s m args below meth c s₁ B hml hv
  obtain ⟨rfl, hsz, hP, hK, hD0⟩ := hv
  have hx := B.exec
  have hb := B.bytes
  have hr := B.returns
  have hts := atoms_spec (ws := wsX3_begins) B.pre
  have hown : s.vm.findClass RX3 = some m.cls := findClass_of_methodNamed B.named
  have hlocks := B.notSynchronized
  subst hsz
  have hD := hD0.self (sz := s.heap.size)
  generalize hAe : va_A [(h0, .inr (3, [.int 0, .long tr, .int pe, .ref a3, .ref a4, .ref a5, .int st, .int kd, .int wd, .ref a9, .int tn, .ref a11, .ref a12, .int sd, .ref a14, .ref a15, .ref a16])), (a3, .inl (cA, 40, .inl LV)), (a4, .inl (cA, 40, .inl LA)), (a5, .inl (cA, 40, .inl WA))] s.heap.size = A at hD ⊢
  have hA : ∀ q : Nat, s.heap.size ≤ q → A q := fun q h => by rw [← hAe]; exact Or.inr h
  have hS : va_S A s.heap s.heap [] := va_S.rf
  have hP : va_P (dC, dI) vwCl [(h0, .inr (3, [.int 0, .long tr, .int pe, .ref a3, .ref a4, .ref a5, .int st, .int kd, .int wd, .ref a9, .int tn, .ref a11, .ref a12, .int sd, .ref a14, .ref a15, .ref a16])), (a3, .inl (cA, 40, .inl LV)), (a4, .inl (cA, 40, .inl LA)), (a5, .inl (cA, 40, .inl WA))] s.heap := hP
  have hl := lv_entry ([.ref h0, .int (nI n)]) (n := 3) (Nat.le_of_ble_eq_true rfl)
  rw [lg_entry_eq]
  generalize (lg_sl ([.ref h0, .int (nI n)]) ++ List.replicate (3 - (lg_sl ([.ref h0, .int (nI n)])).length) Slot.unset).toArray = ls at hl ⊢
  have hl : lv_has ls 3 [(0, .ref h0), (1, .int (nI n))] := hl
  refine lv_aload_n hx hb dX3_begins_0 rfl (lv_at hl 0 rfl) ?_
  refine lv_iload_n hx hb dX3_begins_1 rfl (lv_at hl 1 rfl) ?_
  refine va_put (D := (dC, dI)) (ci := 3) (v := .int (nI n)) (ty := .int) (C := RX3) (T := TX3) (N := 17) hx hb hts (by decide +kernel) tyX3 tyX3_ok nmX3 hown hK hP hD hS 0 rfl rfl 2 (by decide) (hts (.fieldLink RX3 7 "CountedOutModel" "people" "I") (by decide +kernel)) (fun _ h9 => h9) rfl (by decide +kernel) rfl rfl (Nat.le_of_ble_eq_true rfl) dX3_begins_2 (fun H locs hP hD hS => ?_)
  have hP : va_P (dC, dI) vwCl [(h0, .inr (3, [.int 0, .long tr, .int (nI n), .ref a3, .ref a4, .ref a5, .int st, .int kd, .int wd, .ref a9, .int tn, .ref a11, .ref a12, .int sd, .ref a14, .ref a15, .ref a16])), (a3, .inl (cA, 40, .inl LV)), (a4, .inl (cA, 40, .inl LA)), (a5, .inl (cA, 40, .inl WA))] H := hP
  have hD : va_D A [(h0, .inr (3, [.int 0, .long tr, .int (nI n), .ref a3, .ref a4, .ref a5, .int st, .int kd, .int wd, .ref a9, .int tn, .ref a11, .ref a12, .int sd, .ref a14, .ref a15, .ref a16])), (a3, .inl (cA, 40, .inl LV)), (a4, .inl (cA, 40, .inl LA)), (a5, .inl (cA, 40, .inl WA))] := hD
  refine lv_aload_n hx hb dX3_begins_5 rfl (lv_at hl 0 rfl) ?_
  refine lv_iconst (v := 0) hx hb dX3_begins_6 (by decide) ?_
  refine va_put (D := (dC, dI)) (ci := 3) (v := .int 0) (ty := .int) (C := RX3) (T := TX3) (N := 17) hx hb hts (by decide +kernel) tyX3 tyX3_ok nmX3 hown hK hP hD hS 0 rfl rfl 10 (by decide) (hts (.fieldLink RX3 86 "CountedOutModel" "turns" "I") (by decide +kernel)) (fun _ h9 => h9) rfl (by decide +kernel) rfl rfl (Nat.le_of_ble_eq_true rfl) dX3_begins_7 (fun H locs hP hD hS => ?_)
  have hP : va_P (dC, dI) vwCl [(h0, .inr (3, [.int 0, .long tr, .int (nI n), .ref a3, .ref a4, .ref a5, .int st, .int kd, .int wd, .ref a9, .int 0, .ref a11, .ref a12, .int sd, .ref a14, .ref a15, .ref a16])), (a3, .inl (cA, 40, .inl LV)), (a4, .inl (cA, 40, .inl LA)), (a5, .inl (cA, 40, .inl WA))] H := hP
  have hD : va_D A [(h0, .inr (3, [.int 0, .long tr, .int (nI n), .ref a3, .ref a4, .ref a5, .int st, .int kd, .int wd, .ref a9, .int 0, .ref a11, .ref a12, .int sd, .ref a14, .ref a15, .ref a16])), (a3, .inl (cA, 40, .inl LV)), (a4, .inl (cA, 40, .inl LA)), (a5, .inl (cA, 40, .inl WA))] := hD
  refine lv_aload_n hx hb dX3_begins_10 rfl (lv_at hl 0 rfl) ?_
  refine lv_iconst (v := 0) hx hb dX3_begins_11 (by decide) ?_
  refine va_put (D := (dC, dI)) (ci := 3) (v := .int 0) (ty := .int) (C := RX3) (T := TX3) (N := 17) hx hb hts (by decide +kernel) tyX3 tyX3_ok nmX3 hown hK hP hD hS 0 rfl rfl 13 (by decide) (hts (.fieldLink RX3 89 "CountedOutModel" "stands" "I") (by decide +kernel)) (fun _ h9 => h9) rfl (by decide +kernel) rfl rfl (Nat.le_of_ble_eq_true rfl) dX3_begins_12 (fun H locs hP hD hS => ?_)
  have hP : va_P (dC, dI) vwCl [(h0, .inr (3, [.int 0, .long tr, .int (nI n), .ref a3, .ref a4, .ref a5, .int st, .int kd, .int wd, .ref a9, .int 0, .ref a11, .ref a12, .int 0, .ref a14, .ref a15, .ref a16])), (a3, .inl (cA, 40, .inl LV)), (a4, .inl (cA, 40, .inl LA)), (a5, .inl (cA, 40, .inl WA))] H := hP
  have hD : va_D A [(h0, .inr (3, [.int 0, .long tr, .int (nI n), .ref a3, .ref a4, .ref a5, .int st, .int kd, .int wd, .ref a9, .int 0, .ref a11, .ref a12, .int 0, .ref a14, .ref a15, .ref a16])), (a3, .inl (cA, 40, .inl LV)), (a4, .inl (cA, 40, .inl LA)), (a5, .inl (cA, 40, .inl WA))] := hD
  refine lv_iconst (v := 0) hx hb dX3_begins_15 (by decide) ?_
  refine lv_istore_n (lv' := [(2, .int 0), (0, .ref h0), (1, .int (nI n))]) hx hb dX3_begins_16 rfl hl (by decide) rfl (fun ls hl => ?_)
  refine W_loop (σ := Nat × (Nat → Int32) × (Nat → Int32) × (Nat → Int32)) (fun xx ls H locs => match xx with | (p0, V, U, X) => lv_has ls 3 [(0, .ref h0), (2, .int (nI p0))] ∧ va_P (dC, dI) vwCl [(h0, .inr (3, [.int 0, .long tr, .int (nI n), .ref a3, .ref a4, .ref a5, .int st, .int kd, .int wd, .ref a9, .int 0, .ref a11, .ref a12, .int 0, .ref a14, .ref a15, .ref a16])), (a3, .inl (cA, 40, .inl V)), (a4, .inl (cA, 40, .inl U)), (a5, .inl (cA, 40, .inl X))] H ∧ va_D A [(h0, .inr (3, [.int 0, .long tr, .int (nI n), .ref a3, .ref a4, .ref a5, .int st, .int kd, .int wd, .ref a9, .int 0, .ref a11, .ref a12, .int 0, .ref a14, .ref a15, .ref a16])), (a3, .inl (cA, 40, .inl V)), (a4, .inl (cA, 40, .inl U)), (a5, .inl (cA, 40, .inl X))] ∧ va_S A s.heap H locs ∧ p0 ≤ 40 ∧ (∀ q, q < p0 → V q = 1 ∧ U q = 1 ∧ X q = -9)) (fun xx => match xx with | (p0, V, U, X) => 40 - p0) ?_ (0, LV, LA, WA) ⟨lv_sub hl [1, 0] rfl, hP, hD, hS, (by omega), (fun q hq => absurd hq (Nat.not_lt_zero _))⟩
  rintro ⟨p0, V, U, X⟩ ls H locs ⟨hl, hP, hD, hS, hp, hV⟩ ih_17
  refine lv_iload_n hx hb dX3_begins_17 rfl (lv_at hl 1 rfl) ?_
  refine lv_bipush (v := 40) hx hb dX3_begins_18 (by decide) ?_
  refine lv_icmp_ge (tgt := 51) hx hb dX3_begins_20 (by decide) (fun c_20 => ?_) (fun c_20 => ?_)
  · have c_20 : 40 ≤ p0 := (nI_leI (a := 40) (b := p0) (by omega) (by omega)).mp c_20
    have hP9 := hP.sub (ws' := [(h0, .inr (3, [.int 0, .long tr, .int (nI n), .ref a3, .ref a4, .ref a5, .int st, .int kd, .int wd, .ref a9, .int 0, .ref a11, .ref a12, .int 0, .ref a14, .ref a15, .ref a16])), (a3, .inl (cA, 40, .inl V)), (a4, .inl (cA, 40, .inl U)), (a5, .inl (cA, 40, .inl X))]) [0, 1, 2, 3] rfl
    have hD9 := hD.sub (ws' := [(h0, .inr (3, [.int 0, .long tr, .int (nI n), .ref a3, .ref a4, .ref a5, .int st, .int kd, .int wd, .ref a9, .int 0, .ref a11, .ref a12, .int 0, .ref a14, .ref a15, .ref a16])), (a3, .inl (cA, 40, .inl V)), (a4, .inl (cA, 40, .inl U)), (a5, .inl (cA, 40, .inl X))]) [0, 1, 2, 3] (by decide) rfl
    exact W.vret hx hb hr (fun t ht hW => ⟨⟨(_, _, _), rfl, fun q hq => hV q (by omega), ⟨by rw [ht]; exact hP9, va_K.moved hW.alike hK, hD9⟩⟩, hS.F ht⟩) hS.2.2 dX3_begins_51
  · have c_20 : p0 < 40 := Nat.lt_of_not_le (fun h => c_20 ((nI_leI (a := 40) (b := p0) (by omega) (by omega)).mpr h))
    refine lv_aload_n hx hb dX3_begins_23 rfl (lv_at hl 0 rfl) ?_
    refine va_get (D := (dC, dI)) (ci := 3) (v := .ref a3) (C := RX3) (T := TX3) (N := 17) hx hb hts (by decide +kernel) hown hK hP 0 rfl rfl 3 (by decide) (hts (.fieldLink RX3 13 "CountedOutModel" "lives" "[I") (by decide +kernel)) (fun _ h9 => h9) rfl dX3_begins_24 ?_
    refine lv_iload_n hx hb dX3_begins_27 rfl (lv_at hl 1 rfl) ?_
    refine lv_iconst (v := 1) hx hb dX3_begins_28 (by decide) ?_
    refine z_iast hx hb hK hP hD hS 1 0 rfl rfl (i := p0) (by omega) (by decide) dX3_begins_29 (fun H locs hP hD hS => ?_)
    have hP : va_P (dC, dI) vwCl [(h0, .inr (3, [.int 0, .long tr, .int (nI n), .ref a3, .ref a4, .ref a5, .int st, .int kd, .int wd, .ref a9, .int 0, .ref a11, .ref a12, .int 0, .ref a14, .ref a15, .ref a16])), (a3, .inl (cA, 40, .inl (upd V p0 1))), (a4, .inl (cA, 40, .inl U)), (a5, .inl (cA, 40, .inl X))] H := hP
    have hD : va_D A [(h0, .inr (3, [.int 0, .long tr, .int (nI n), .ref a3, .ref a4, .ref a5, .int st, .int kd, .int wd, .ref a9, .int 0, .ref a11, .ref a12, .int 0, .ref a14, .ref a15, .ref a16])), (a3, .inl (cA, 40, .inl (upd V p0 1))), (a4, .inl (cA, 40, .inl U)), (a5, .inl (cA, 40, .inl X))] := hD
    refine lv_aload_n hx hb dX3_begins_30 rfl (lv_at hl 0 rfl) ?_
    refine va_get (D := (dC, dI)) (ci := 3) (v := .ref a4) (C := RX3) (T := TX3) (N := 17) hx hb hts (by decide +kernel) hown hK hP 0 rfl rfl 4 (by decide) (hts (.fieldLink RX3 17 "CountedOutModel" "left" "[I") (by decide +kernel)) (fun _ h9 => h9) rfl dX3_begins_31 ?_
    refine lv_iload_n hx hb dX3_begins_34 rfl (lv_at hl 1 rfl) ?_
    refine lv_iconst (v := 1) hx hb dX3_begins_35 (by decide) ?_
    refine z_iast hx hb hK hP hD hS 2 0 rfl rfl (i := p0) (by omega) (by decide) dX3_begins_36 (fun H locs hP hD hS => ?_)
    have hP : va_P (dC, dI) vwCl [(h0, .inr (3, [.int 0, .long tr, .int (nI n), .ref a3, .ref a4, .ref a5, .int st, .int kd, .int wd, .ref a9, .int 0, .ref a11, .ref a12, .int 0, .ref a14, .ref a15, .ref a16])), (a3, .inl (cA, 40, .inl (upd V p0 1))), (a4, .inl (cA, 40, .inl (upd U p0 1))), (a5, .inl (cA, 40, .inl X))] H := hP
    have hD : va_D A [(h0, .inr (3, [.int 0, .long tr, .int (nI n), .ref a3, .ref a4, .ref a5, .int st, .int kd, .int wd, .ref a9, .int 0, .ref a11, .ref a12, .int 0, .ref a14, .ref a15, .ref a16])), (a3, .inl (cA, 40, .inl (upd V p0 1))), (a4, .inl (cA, 40, .inl (upd U p0 1))), (a5, .inl (cA, 40, .inl X))] := hD
    refine lv_aload_n hx hb dX3_begins_37 rfl (lv_at hl 0 rfl) ?_
    refine va_get (D := (dC, dI)) (ci := 3) (v := .ref a5) (C := RX3) (T := TX3) (N := 17) hx hb hts (by decide +kernel) hown hK hP 0 rfl rfl 5 (by decide) (hts (.fieldLink RX3 20 "CountedOutModel" "wentAs" "[I") (by decide +kernel)) (fun _ h9 => h9) rfl dX3_begins_38 ?_
    refine lv_iload_n hx hb dX3_begins_41 rfl (lv_at hl 1 rfl) ?_
    refine lv_bipush (v := (-9)) hx hb dX3_begins_42 (by decide) ?_
    refine z_iast hx hb hK hP hD hS 3 0 rfl rfl (i := p0) (by omega) (by decide) dX3_begins_44 (fun H locs hP hD hS => ?_)
    have hP : va_P (dC, dI) vwCl [(h0, .inr (3, [.int 0, .long tr, .int (nI n), .ref a3, .ref a4, .ref a5, .int st, .int kd, .int wd, .ref a9, .int 0, .ref a11, .ref a12, .int 0, .ref a14, .ref a15, .ref a16])), (a3, .inl (cA, 40, .inl (upd V p0 1))), (a4, .inl (cA, 40, .inl (upd U p0 1))), (a5, .inl (cA, 40, .inl (upd X p0 (-9))))] H := hP
    have hD : va_D A [(h0, .inr (3, [.int 0, .long tr, .int (nI n), .ref a3, .ref a4, .ref a5, .int st, .int kd, .int wd, .ref a9, .int 0, .ref a11, .ref a12, .int 0, .ref a14, .ref a15, .ref a16])), (a3, .inl (cA, 40, .inl (upd V p0 1))), (a4, .inl (cA, 40, .inl (upd U p0 1))), (a5, .inl (cA, 40, .inl (upd X p0 (-9))))] := hD
    refine lv_iinc (v := nI (p0 + 1)) (lv' := [(2, .int (nI (p0 + 1))), (0, .ref h0)]) hx hb dX3_begins_45 hl (k := 1) rfl (nI_1 p0) (by decide) rfl (fun ls hl => ?_)
    refine lv_goto (tgt := 17) hx hb dX3_begins_48 (by decide) ?_
    exact ih_17 (p0 + 1, upd V p0 1, upd U p0 1, upd X p0 (-9)) _ _ _ (by show 40 - (p0 + 1) < 40 - p0; omega) ⟨lv_sub hl [1, 0] rfl, hP, hD, hS, (by omega), begs_step hV⟩

set_option maxHeartbeats 4000000 in
set_option maxRecDepth 100000 in
theorem c_X3_ring (l : Launch) (dC : Nat → ClassId) (dI : Nat → Nat → Nat) (sz : Nat) (cA : ClassId) (h0 a3 a4 a5 a9 a11 a12 a14 a15 a16 : Nat) (tr : Int64) (Bl : Nat → Nat) (N : Nat) (Z : AS) (LA WA CA AA : Nat → Int32) (hG : GA Bl N Z) (hR : RA N Z LA WA CA AA) (LV : Nat → Int32) (hB : ∀ p, p < N → LV p = nI (Bl p)) (st kd wd n : Int32) : Met l yX3_ring wsX3_ring ({ frames := 1, cells := 0, slots := 0, locals := 25 }) (va_Pc [.ref h0, .int n] (fun U => U.heap.size = sz ∧ va_P (dC, dI) vwCl [(h0, .inr (3, [.int 0, .long tr, .int (nI N), .ref a3, .ref a4, .ref a5, .int st, .int kd, .int wd, .ref a9, .int (nI Z.1.length), .ref a11, .ref a12, .int (nI Z.2.2.2), .ref a14, .ref a15, .ref a16])), (a3, .inl (cA, 40, .inl LV)), (a4, .inl (cA, 40, .inl LA)), (a5, .inl (cA, 40, .inl WA)), (a11, .inl (cA, 200, .inl CA)), (a12, .inl (cA, 200, .inl AA))] U.heap ∧ va_K (dC, dI) vwCl [(cA, .int)] U ∧ va_D (fun _ => True) [(h0, .inr (3, [.int 0, .long tr, .int (nI N), .ref a3, .ref a4, .ref a5, .int st, .int kd, .int wd, .ref a9, .int (nI Z.1.length), .ref a11, .ref a12, .int (nI Z.2.2.2), .ref a14, .ref a15, .ref a16])), (a3, .inl (cA, 40, .inl LV)), (a4, .inl (cA, 40, .inl LA)), (a5, .inl (cA, 40, .inl WA)), (a11, .inl (cA, 200, .inl CA)), (a12, .inl (cA, 200, .inl AA))])) (va_Qi (S := Nat × (Nat → Nat) × AS × (Nat → Int32) × (Nat → Int32) × (Nat → Int32) × (Nat → Int32) × (Nat → Int32)) (fun r u => (r, u.1, u.2.1, u.2.2.1) = spRing n N Bl Z ∧ RA u.1 u.2.2.1 u.2.2.2.2.1 u.2.2.2.2.2.1 u.2.2.2.2.2.2.1 u.2.2.2.2.2.2.2 ∧ ∀ p, p < u.1 → u.2.2.2.1 p = nI (u.2.1 p)) (fun (u : Nat × (Nat → Nat) × AS × (Nat → Int32) × (Nat → Int32) × (Nat → Int32) × (Nat → Int32) × (Nat → Int32)) (t : State) => va_P (dC, dI) vwCl [(h0, .inr (3, [.int 0, .long tr, .int (nI u.1), .ref a3, .ref a4, .ref a5, .int st, .int kd, .int wd, .ref a9, .int (nI u.2.2.1.1.length), .ref a11, .ref a12, .int (nI u.2.2.1.2.2.2), .ref a14, .ref a15, .ref a16])), (a3, .inl (cA, 40, .inl u.2.2.2.1)), (a4, .inl (cA, 40, .inl u.2.2.2.2.1)), (a5, .inl (cA, 40, .inl u.2.2.2.2.2.1)), (a11, .inl (cA, 200, .inl u.2.2.2.2.2.2.1)), (a12, .inl (cA, 200, .inl u.2.2.2.2.2.2.2))] t.heap ∧ va_K (dC, dI) vwCl [(cA, .int)] t ∧ va_D (va_A [(h0, .inr (3, [.int 0, .long tr, .int (nI N), .ref a3, .ref a4, .ref a5, .int st, .int kd, .int wd, .ref a9, .int (nI Z.1.length), .ref a11, .ref a12, .int (nI Z.2.2.2), .ref a14, .ref a15, .ref a16])), (a3, .inl (cA, 40, .inl LV)), (a4, .inl (cA, 40, .inl LA)), (a5, .inl (cA, 40, .inl WA)), (a11, .inl (cA, 200, .inl CA)), (a12, .inl (cA, 200, .inl AA))] sz) [(h0, .inr (3, [.int 0, .long tr, .int (nI u.1), .ref a3, .ref a4, .ref a5, .int st, .int kd, .int wd, .ref a9, .int (nI u.2.2.1.1.length), .ref a11, .ref a12, .int (nI u.2.2.1.2.2.2), .ref a14, .ref a15, .ref a16])), (a3, .inl (cA, 40, .inl u.2.2.2.1)), (a4, .inl (cA, 40, .inl u.2.2.2.2.1)), (a5, .inl (cA, 40, .inl u.2.2.2.2.2.1)), (a11, .inl (cA, 200, .inl u.2.2.2.2.2.2.1)), (a12, .inl (cA, 200, .inl u.2.2.2.2.2.2.2))]) (va_A [(h0, .inr (3, [.int 0, .long tr, .int (nI N), .ref a3, .ref a4, .ref a5, .int st, .int kd, .int wd, .ref a9, .int (nI Z.1.length), .ref a11, .ref a12, .int (nI Z.2.2.2), .ref a14, .ref a15, .ref a16])), (a3, .inl (cA, 40, .inl LV)), (a4, .inl (cA, 40, .inl LA)), (a5, .inl (cA, 40, .inl WA)), (a11, .inl (cA, 200, .inl CA)), (a12, .inl (cA, 200, .inl AA))] sz)) 0 0 (va_A [(h0, .inr (3, [.int 0, .long tr, .int (nI N), .ref a3, .ref a4, .ref a5, .int st, .int kd, .int wd, .ref a9, .int (nI Z.1.length), .ref a11, .ref a12, .int (nI Z.2.2.2), .ref a14, .ref a15, .ref a16])), (a3, .inl (cA, 40, .inl LV)), (a4, .inl (cA, 40, .inl LA)), (a5, .inl (cA, 40, .inl WA)), (a11, .inl (cA, 200, .inl CA)), (a12, .inl (cA, 200, .inl AA))] sz) := by
  refine Met.ofW (cc := cX3_ring) (maxL := 3) (ret := (some .int)) (by decide) rfl ?_
  intro p e s m args below meth c s₁ B hml hv
  obtain ⟨rfl, hsz, hP, hK, hD0⟩ := hv
  have hx := B.exec
  have hb := B.bytes
  have hr := B.returns
  have hts := atoms_spec (ws := wsX3_ring) B.pre
  have hown : s.vm.findClass RX3 = some m.cls := findClass_of_methodNamed B.named
  have hlocks := B.notSynchronized
  subst hsz
  have hD := hD0.self (sz := s.heap.size)
  generalize hAe : va_A [(h0, .inr (3, [.int 0, .long tr, .int (nI N), .ref a3, .ref a4, .ref a5, .int st, .int kd, .int wd, .ref a9, .int (nI Z.1.length), .ref a11, .ref a12, .int (nI Z.2.2.2), .ref a14, .ref a15, .ref a16])), (a3, .inl (cA, 40, .inl LV)), (a4, .inl (cA, 40, .inl LA)), (a5, .inl (cA, 40, .inl WA)), (a11, .inl (cA, 200, .inl CA)), (a12, .inl (cA, 200, .inl AA))] s.heap.size = A at hD ⊢
  have hA : ∀ q : Nat, s.heap.size ≤ q → A q := fun q h => by rw [← hAe]; exact Or.inr h
  have hS : va_S A s.heap s.heap [] := va_S.rf
  have hP : va_P (dC, dI) vwCl [(h0, .inr (3, [.int 0, .long tr, .int (nI N), .ref a3, .ref a4, .ref a5, .int st, .int kd, .int wd, .ref a9, .int (nI Z.1.length), .ref a11, .ref a12, .int (nI Z.2.2.2), .ref a14, .ref a15, .ref a16])), (a3, .inl (cA, 40, .inl LV)), (a4, .inl (cA, 40, .inl LA)), (a5, .inl (cA, 40, .inl WA)), (a11, .inl (cA, 200, .inl CA)), (a12, .inl (cA, 200, .inl AA))] s.heap := hP
  have hl := lv_entry ([.ref h0, .int n]) (n := 3) (Nat.le_of_ble_eq_true rfl)
  rw [lg_entry_eq]
  generalize (lg_sl ([.ref h0, .int n]) ++ List.replicate (3 - (lg_sl ([.ref h0, .int n])).length) Slot.unset).toArray = ls at hl ⊢
  have hl : lv_has ls 3 [(0, .ref h0), (1, .int n)] := hl
  obtain ⟨hN1, hN, hah, hal, hL5, hWL, hWc, hWi, hWe⟩ := hG.rb
  have hlen := hG.len
  have hcl := bc_le (alv Z.2.1) N
  refine lv_aload_n hx hb dX3_ring_0 rfl (lv_at hl 0 rfl) ?_
  refine lv_iconst (v := 0) hx hb dX3_ring_1 (by decide) ?_
  refine va_put (D := (dC, dI)) (ci := 3) (v := .int 0) (ty := .int) (C := RX3) (T := TX3) (N := 17) hx hb hts (by decide +kernel) tyX3 tyX3_ok nmX3 hown hK hP hD hS 0 rfl rfl 0 (by decide) (hts (.fieldLink RX3 51 "CountedOutModel" "thrown" "I") (by decide +kernel)) (fun _ h9 => h9) rfl (by decide +kernel) rfl rfl (Nat.le_of_ble_eq_true rfl) dX3_ring_2 (fun H locs hP hD hS => ?_)
  have hP : va_P (dC, dI) vwCl [(h0, .inr (3, [.int 0, .long tr, .int (nI N), .ref a3, .ref a4, .ref a5, .int st, .int kd, .int wd, .ref a9, .int (nI Z.1.length), .ref a11, .ref a12, .int (nI Z.2.2.2), .ref a14, .ref a15, .ref a16])), (a3, .inl (cA, 40, .inl LV)), (a4, .inl (cA, 40, .inl LA)), (a5, .inl (cA, 40, .inl WA)), (a11, .inl (cA, 200, .inl CA)), (a12, .inl (cA, 200, .inl AA))] H := hP
  have hD : va_D A [(h0, .inr (3, [.int 0, .long tr, .int (nI N), .ref a3, .ref a4, .ref a5, .int st, .int kd, .int wd, .ref a9, .int (nI Z.1.length), .ref a11, .ref a12, .int (nI Z.2.2.2), .ref a14, .ref a15, .ref a16])), (a3, .inl (cA, 40, .inl LV)), (a4, .inl (cA, 40, .inl LA)), (a5, .inl (cA, 40, .inl WA)), (a11, .inl (cA, 200, .inl CA)), (a12, .inl (cA, 200, .inl AA))] := hD
  refine lv_iload_n hx hb dX3_ring_5 rfl (lv_at hl 1 rfl) ?_
  refine lv_i2l (v := n.toInt64) hx hb dX3_ring_6 rfl ?_
  refine lv_lconst (v := 1) hx hb dX3_ring_7 (by decide) ?_
  refine lv_ldc2 (v := 40) hx hb hown (hts (.constantLong RX3 92 (40)) (by decide +kernel)) dX3_ring_8 ?_
  refine vp_callSi (va_Run.run (va_runS (As := [.long n.toInt64, .long 1, .long 40]) (rest := []) ⟨hx, hb, hml, hown, hts⟩ (c_X3_in l dC dI n.toInt64 1 40) (va_cwS 3 hts gX3_ring_X3_in rfl rfl rfl (by decide +kernel) ⟨Nat.le_of_ble_eq_true rfl, Nat.le_of_ble_eq_true rfl⟩) ⟨fun a U g mk q => ⟨q.1, trivial⟩, fun U hU hW => ⟨rfl, trivial⟩⟩ rfl rfl hl.1 rfl (lv_room (Nat.le_of_ble_eq_true rfl)) dX3_ring_11 ⟨Nat.zero_le _, Nat.zero_le _⟩)) (fun r_11 hr_11 => ?_)
  obtain rfl : r_11 = zb (wi n.toInt 1 40) := hr_11.trans (by rw [i2l_toInt]; rfl)
  refine lv_if_ne (tgt := 19) hx hb dX3_ring_14 (by decide) (fun c_14 => ?_) (fun c_14 => ?_)
  · have c_14 := zb_n.mp c_14
    obtain ⟨n1, hn1, hn2, rfl⟩ := nI_wi (a := 1) (b := 40) c_14
    refine lv_aload_n hx hb dX3_ring_19 rfl (lv_at hl 0 rfl) ?_
    refine va_get (D := (dC, dI)) (ci := 3) (v := .int (nI N)) (C := RX3) (T := TX3) (N := 17) hx hb hts (by decide +kernel) hown hK hP 0 rfl rfl 2 (by decide) (hts (.fieldLink RX3 7 "CountedOutModel" "people" "I") (by decide +kernel)) (fun _ h9 => h9) rfl dX3_ring_20 ?_
    refine lv_istore_n (lv' := [(2, .int (nI N)), (0, .ref h0), (1, .int (nI n1))]) hx hb dX3_ring_23 rfl hl (by decide) rfl (fun ls hl => ?_)
    refine lv_aload_n hx hb dX3_ring_24 rfl (lv_at hl 1 rfl) ?_
    refine lv_iload_n hx hb dX3_ring_25 rfl (lv_at hl 2 rfl) ?_
    have hPc := hP.sub (ws' := [(h0, .inr (3, [.int 0, .long tr, .int (nI N), .ref a3, .ref a4, .ref a5, .int st, .int kd, .int wd, .ref a9, .int (nI Z.1.length), .ref a11, .ref a12, .int (nI Z.2.2.2), .ref a14, .ref a15, .ref a16])), (a3, .inl (cA, 40, .inl LV)), (a4, .inl (cA, 40, .inl LA)), (a5, .inl (cA, 40, .inl WA))]) [0, 1, 2, 3] rfl
    have hDc := hD.sub (ws' := [(h0, .inr (3, [.int 0, .long tr, .int (nI N), .ref a3, .ref a4, .ref a5, .int st, .int kd, .int wd, .ref a9, .int (nI Z.1.length), .ref a11, .ref a12, .int (nI Z.2.2.2), .ref a14, .ref a15, .ref a16])), (a3, .inl (cA, 40, .inl LV)), (a4, .inl (cA, 40, .inl LA)), (a5, .inl (cA, 40, .inl WA))]) [0, 1, 2, 3] (by decide) rfl
    have hFc := va_free (wc := [(h0, .inr (3, [.int 0, .long tr, .int (nI N), .ref a3, .ref a4, .ref a5, .int st, .int kd, .int wd, .ref a9, .int (nI Z.1.length), .ref a11, .ref a12, .int (nI Z.2.2.2), .ref a14, .ref a15, .ref a16])), (a3, .inl (cA, 40, .inl LV)), (a4, .inl (cA, 40, .inl LA)), (a5, .inl (cA, 40, .inl WA))]) hD hS hA [0, 1, 2, 3] rfl
    refine va_callv (va_runV (As := [.int (nI n1)]) (rest := []) ⟨hx, hb, hml, hown, hts⟩ (c_X3_begins l dC dI H.size cA h0 a3 a4 a5 a9 a11 a12 a14 a15 a16 tr (nI N) st kd wd (nI Z.1.length) (nI Z.2.2.2) n1 LV LA WA) (cwV 1 hts gX3_ring_X3_begins rfl rfl rfl (by decide +kernel) ⟨Nat.le_of_ble_eq_true rfl, Nat.le_of_ble_eq_true rfl⟩) ⟨fun a U g mk q => by obtain ⟨q0, q1, qP, qK, qD⟩ := q; exact ⟨q0, q1, qP, va_K.moved (u := U) (U := U.calling g mk a) (Vm.Alike.refl U.vm) qK, qD⟩, va_recv hK hP (ci := 3) (q0 := 0) rfl rfl, fun U hU hW => ⟨rfl, by rw [hU], by rw [hU]; exact hPc, va_K.moved hW.alike hK, hDc.weaken (fun _ _ _ _ => trivial)⟩⟩ rfl rfl hl.1 rfl (lv_room (Nat.le_of_ble_eq_true rfl)) dX3_ring_26 ⟨Nat.zero_le _, Nat.zero_le _⟩) hS (fun q _ h => hFc q h) hFc (fun u_26 t_26 H1 locs ht_26 hvm_26 hw_26 hB_26 hz1 hk1 hS => ?_)
    obtain ⟨V, U, X⟩ := u_26
    obtain ⟨hP1, hK1, hD1⟩ := hB_26
    rw [ht_26] at hP1
    obtain ⟨hP, hD⟩ := va_join (wr := [(a11, .inl (cA, 200, .inl CA)), (a12, .inl (cA, 200, .inl AA))]) (w1 := [(h0, .inr (3, [.int 0, .long tr, .int (nI n1), .ref a3, .ref a4, .ref a5, .int st, .int kd, .int wd, .ref a9, .int (nI ([] : List (Nat × Nat)).length), .ref a11, .ref a12, .int (nI 0), .ref a14, .ref a15, .ref a16])), (a3, .inl (cA, 40, .inl V)), (a4, .inl (cA, 40, .inl U)), (a5, .inl (cA, 40, .inl X))]) hP hD [0, 1, 2, 3] [4, 5] rfl rfl (by decide) (by decide) hk1 hFc hP1 hD1
    generalize H1 = H at hP hS ⊢
    have hP := hP.sub (ws' := [(h0, .inr (3, [.int 0, .long tr, .int (nI n1), .ref a3, .ref a4, .ref a5, .int st, .int kd, .int wd, .ref a9, .int (nI ([] : List (Nat × Nat)).length), .ref a11, .ref a12, .int (nI 0), .ref a14, .ref a15, .ref a16])), (a3, .inl (cA, 40, .inl V)), (a4, .inl (cA, 40, .inl U)), (a5, .inl (cA, 40, .inl X)), (a11, .inl (cA, 200, .inl CA)), (a12, .inl (cA, 200, .inl AA))]) [2, 3, 4, 5, 0, 1] rfl
    have hD := hD.sub (ws' := [(h0, .inr (3, [.int 0, .long tr, .int (nI n1), .ref a3, .ref a4, .ref a5, .int st, .int kd, .int wd, .ref a9, .int (nI ([] : List (Nat × Nat)).length), .ref a11, .ref a12, .int (nI 0), .ref a14, .ref a15, .ref a16])), (a3, .inl (cA, 40, .inl V)), (a4, .inl (cA, 40, .inl U)), (a5, .inl (cA, 40, .inl X)), (a11, .inl (cA, 200, .inl CA)), (a12, .inl (cA, 200, .inl AA))]) [2, 3, 4, 5, 0, 1] (by decide) rfl
    refine lv_iload_n hx hb dX3_ring_29 rfl (lv_at hl 0 rfl) ?_
    have hP9 := hP.sub (ws' := [(h0, .inr (3, [.int 0, .long tr, .int (nI n1), .ref a3, .ref a4, .ref a5, .int st, .int kd, .int wd, .ref a9, .int (nI ([] : List (Nat × Nat)).length), .ref a11, .ref a12, .int (nI 0), .ref a14, .ref a15, .ref a16])), (a3, .inl (cA, 40, .inl V)), (a4, .inl (cA, 40, .inl U)), (a5, .inl (cA, 40, .inl X)), (a11, .inl (cA, 200, .inl CA)), (a12, .inl (cA, 200, .inl AA))]) [0, 1, 2, 3, 4, 5] rfl
    have hD9 := hD.sub (ws' := [(h0, .inr (3, [.int 0, .long tr, .int (nI n1), .ref a3, .ref a4, .ref a5, .int st, .int kd, .int wd, .ref a9, .int (nI ([] : List (Nat × Nat)).length), .ref a11, .ref a12, .int (nI 0), .ref a14, .ref a15, .ref a16])), (a3, .inl (cA, 40, .inl V)), (a4, .inl (cA, 40, .inl U)), (a5, .inl (cA, 40, .inl X)), (a11, .inl (cA, 200, .inl CA)), (a12, .inl (cA, 200, .inl AA))]) [0, 1, 2, 3, 4, 5] (by decide) rfl
    exact W.iret (v := nI N) hx hb hr (fun t ht hW => ⟨⟨_, (n1, (fun _ => 1), ([], (fun _ => 1), (fun _ => 0), 0), V, U, X, CA, AA), rfl, ⟨by unfold spRing; rw [if_pos c_14, nI_toInt (by omega)]; rfl, RA_new (fun q hq => (hw_26 q (by omega)).2), fun q hq => (hw_26 q (by omega)).1⟩, ⟨by rw [ht]; exact hP9, va_K.moved hW.alike hK, hD9⟩⟩, hS.F ht⟩) hS.2.2 dX3_ring_30
  · have c_14 := zb_0.mp c_14
    refine lv_iconst (v := (-1)) hx hb dX3_ring_17 (by decide) ?_
    have hP9 := hP.sub (ws' := [(h0, .inr (3, [.int 0, .long tr, .int (nI N), .ref a3, .ref a4, .ref a5, .int st, .int kd, .int wd, .ref a9, .int (nI Z.1.length), .ref a11, .ref a12, .int (nI Z.2.2.2), .ref a14, .ref a15, .ref a16])), (a3, .inl (cA, 40, .inl LV)), (a4, .inl (cA, 40, .inl LA)), (a5, .inl (cA, 40, .inl WA)), (a11, .inl (cA, 200, .inl CA)), (a12, .inl (cA, 200, .inl AA))]) [0, 1, 2, 3, 4, 5] rfl
    have hD9 := hD.sub (ws' := [(h0, .inr (3, [.int 0, .long tr, .int (nI N), .ref a3, .ref a4, .ref a5, .int st, .int kd, .int wd, .ref a9, .int (nI Z.1.length), .ref a11, .ref a12, .int (nI Z.2.2.2), .ref a14, .ref a15, .ref a16])), (a3, .inl (cA, 40, .inl LV)), (a4, .inl (cA, 40, .inl LA)), (a5, .inl (cA, 40, .inl WA)), (a11, .inl (cA, 200, .inl CA)), (a12, .inl (cA, 200, .inl AA))]) [0, 1, 2, 3, 4, 5] (by decide) rfl
    exact W.iret (v := (-1)) hx hb hr (fun t ht hW => ⟨⟨_, (N, Bl, Z, LV, LA, WA, CA, AA), rfl, ⟨by unfold spRing; rw [if_neg (by rw [c_14]; decide)], hR, hB⟩, ⟨by rw [ht]; exact hP9, va_K.moved hW.alike hK, hD9⟩⟩, hS.F ht⟩) hS.2.2 dX3_ring_18

set_option maxHeartbeats 4000000 in
set_option maxRecDepth 100000 in
theorem c_X3_lives (l : Launch) (dC : Nat → ClassId) (dI : Nat → Nat → Nat) (sz : Nat) (cA : ClassId) (h0 a3 a4 a5 a9 a11 a12 a14 a15 a16 : Nat) (tr : Int64) (Bl : Nat → Nat) (N : Nat) (lg : List (Nat × Nat)) (L Wn : Nat → Nat) (ah : Nat) (LA WA CA AA : Nat → Int32) (hG : Rg Bl N lg L Wn ah) (hR : RX N lg L Wn LA WA CA AA) (LV : Nat → Int32) (hB : ∀ p, p < N → LV p = nI (Bl p)) (st kd wd p0 v : Int32) : Met l yX3_lives wsX3_lives ({ frames := 2, cells := 0, slots := 0, locals := 46 }) (va_Pc [.ref h0, .int p0, .int v] (fun U => U.heap.size = sz ∧ va_P (dC, dI) vwCl [(h0, .inr (3, [.int 0, .long tr, .int (nI N), .ref a3, .ref a4, .ref a5, .int st, .int kd, .int wd, .ref a9, .int (nI lg.length), .ref a11, .ref a12, .int (nI ah), .ref a14, .ref a15, .ref a16])), (a3, .inl (cA, 40, .inl LV)), (a4, .inl (cA, 40, .inl LA))] U.heap ∧ va_K (dC, dI) vwCl [(cA, .int)] U ∧ va_D (fun _ => True) [(h0, .inr (3, [.int 0, .long tr, .int (nI N), .ref a3, .ref a4, .ref a5, .int st, .int kd, .int wd, .ref a9, .int (nI lg.length), .ref a11, .ref a12, .int (nI ah), .ref a14, .ref a15, .ref a16])), (a3, .inl (cA, 40, .inl LV)), (a4, .inl (cA, 40, .inl LA))])) (va_Qi (S := (Nat → Nat) × AS × (Nat → Int32) × (Nat → Int32)) (fun r u => (r, u.1, u.2.1) = spLives p0 v N Bl (lg, L, Wn, ah) ∧ RA N u.2.1 u.2.2.2 WA CA AA ∧ ∀ p, p < N → u.2.2.1 p = nI (u.1 p)) (fun (u : (Nat → Nat) × AS × (Nat → Int32) × (Nat → Int32)) (t : State) => va_P (dC, dI) vwCl [(h0, .inr (3, [.int 0, .long tr, .int (nI N), .ref a3, .ref a4, .ref a5, .int st, .int kd, .int wd, .ref a9, .int (nI u.2.1.1.length), .ref a11, .ref a12, .int (nI u.2.1.2.2.2), .ref a14, .ref a15, .ref a16])), (a3, .inl (cA, 40, .inl u.2.2.1)), (a4, .inl (cA, 40, .inl u.2.2.2))] t.heap ∧ va_K (dC, dI) vwCl [(cA, .int)] t ∧ va_D (va_A [(h0, .inr (3, [.int 0, .long tr, .int (nI N), .ref a3, .ref a4, .ref a5, .int st, .int kd, .int wd, .ref a9, .int (nI lg.length), .ref a11, .ref a12, .int (nI ah), .ref a14, .ref a15, .ref a16])), (a3, .inl (cA, 40, .inl LV)), (a4, .inl (cA, 40, .inl LA))] sz) [(h0, .inr (3, [.int 0, .long tr, .int (nI N), .ref a3, .ref a4, .ref a5, .int st, .int kd, .int wd, .ref a9, .int (nI u.2.1.1.length), .ref a11, .ref a12, .int (nI u.2.1.2.2.2), .ref a14, .ref a15, .ref a16])), (a3, .inl (cA, 40, .inl u.2.2.1)), (a4, .inl (cA, 40, .inl u.2.2.2))]) (va_A [(h0, .inr (3, [.int 0, .long tr, .int (nI N), .ref a3, .ref a4, .ref a5, .int st, .int kd, .int wd, .ref a9, .int (nI lg.length), .ref a11, .ref a12, .int (nI ah), .ref a14, .ref a15, .ref a16])), (a3, .inl (cA, 40, .inl LV)), (a4, .inl (cA, 40, .inl LA))] sz)) 0 0 (va_A [(h0, .inr (3, [.int 0, .long tr, .int (nI N), .ref a3, .ref a4, .ref a5, .int st, .int kd, .int wd, .ref a9, .int (nI lg.length), .ref a11, .ref a12, .int (nI ah), .ref a14, .ref a15, .ref a16])), (a3, .inl (cA, 40, .inl LV)), (a4, .inl (cA, 40, .inl LA))] sz) := by
  refine Met.ofW (cc := cX3_lives) (maxL := 4) (ret := (some .int)) (by decide) rfl ?_
  intro p e s m args below meth c s₁ B hml hv
  obtain ⟨rfl, hsz, hP, hK, hD0⟩ := hv
  have hx := B.exec
  have hb := B.bytes
  have hr := B.returns
  have hts := atoms_spec (ws := wsX3_lives) B.pre
  have hown : s.vm.findClass RX3 = some m.cls := findClass_of_methodNamed B.named
  have hlocks := B.notSynchronized
  subst hsz
  have hD := hD0.self (sz := s.heap.size)
  generalize hAe : va_A [(h0, .inr (3, [.int 0, .long tr, .int (nI N), .ref a3, .ref a4, .ref a5, .int st, .int kd, .int wd, .ref a9, .int (nI lg.length), .ref a11, .ref a12, .int (nI ah), .ref a14, .ref a15, .ref a16])), (a3, .inl (cA, 40, .inl LV)), (a4, .inl (cA, 40, .inl LA))] s.heap.size = A at hD ⊢
  have hA : ∀ q : Nat, s.heap.size ≤ q → A q := fun q h => by rw [← hAe]; exact Or.inr h
  have hS : va_S A s.heap s.heap [] := va_S.rf
  have hP : va_P (dC, dI) vwCl [(h0, .inr (3, [.int 0, .long tr, .int (nI N), .ref a3, .ref a4, .ref a5, .int st, .int kd, .int wd, .ref a9, .int (nI lg.length), .ref a11, .ref a12, .int (nI ah), .ref a14, .ref a15, .ref a16])), (a3, .inl (cA, 40, .inl LV)), (a4, .inl (cA, 40, .inl LA))] s.heap := hP
  have hl := lv_entry ([.ref h0, .int p0, .int v]) (n := 4) (Nat.le_of_ble_eq_true rfl)
  rw [lg_entry_eq]
  generalize (lg_sl ([.ref h0, .int p0, .int v]) ++ List.replicate (4 - (lg_sl ([.ref h0, .int p0, .int v])).length) Slot.unset).toArray = ls at hl ⊢
  have hl : lv_has ls 4 [(0, .ref h0), (1, .int p0), (2, .int v)] := hl
  obtain ⟨hN1, hN, hah, hal, hL5, hWL, hWc, hWi, hWe⟩ := hG.rb
  have hlen := hG.len
  have hcl := bc_le (alv L) N
  refine lv_aload_n hx hb dX3_lives_0 rfl (lv_at hl 0 rfl) ?_
  refine lv_iconst (v := 0) hx hb dX3_lives_1 (by decide) ?_
  refine va_put (D := (dC, dI)) (ci := 3) (v := .int 0) (ty := .int) (C := RX3) (T := TX3) (N := 17) hx hb hts (by decide +kernel) tyX3 tyX3_ok nmX3 hown hK hP hD hS 0 rfl rfl 0 (by decide) (hts (.fieldLink RX3 51 "CountedOutModel" "thrown" "I") (by decide +kernel)) (fun _ h9 => h9) rfl (by decide +kernel) rfl rfl (Nat.le_of_ble_eq_true rfl) dX3_lives_2 (fun H locs hP hD hS => ?_)
  have hP : va_P (dC, dI) vwCl [(h0, .inr (3, [.int 0, .long tr, .int (nI N), .ref a3, .ref a4, .ref a5, .int st, .int kd, .int wd, .ref a9, .int (nI lg.length), .ref a11, .ref a12, .int (nI ah), .ref a14, .ref a15, .ref a16])), (a3, .inl (cA, 40, .inl LV)), (a4, .inl (cA, 40, .inl LA))] H := hP
  have hD : va_D A [(h0, .inr (3, [.int 0, .long tr, .int (nI N), .ref a3, .ref a4, .ref a5, .int st, .int kd, .int wd, .ref a9, .int (nI lg.length), .ref a11, .ref a12, .int (nI ah), .ref a14, .ref a15, .ref a16])), (a3, .inl (cA, 40, .inl LV)), (a4, .inl (cA, 40, .inl LA))] := hD
  refine lv_aload_n hx hb dX3_lives_5 rfl (lv_at hl 0 rfl) ?_
  refine lv_iload_n hx hb dX3_lives_6 rfl (lv_at hl 1 rfl) ?_
  have hPc := hP.sub (ws' := [(h0, .inr (3, [.int 0, .long tr, .int (nI N), .ref a3, .ref a4, .ref a5, .int st, .int kd, .int wd, .ref a9, .int (nI lg.length), .ref a11, .ref a12, .int (nI ah), .ref a14, .ref a15, .ref a16]))]) [0] rfl
  refine vp_callSi (va_Run.run (va_runV (As := [.int p0]) (rest := []) ⟨hx, hb, hml, hown, hts⟩ (c_X3_isPerson l dC dI cA h0 a3 a4 a5 a9 a11 a12 a14 a15 a16 tr N hN1 hN st kd wd (nI lg.length) (nI ah) p0) (cwV 1 hts gX3_lives_X3_isPerson rfl rfl rfl (by decide +kernel) ⟨Nat.le_of_ble_eq_true rfl, Nat.le_of_ble_eq_true rfl⟩) ⟨fun a U g mk q => by obtain ⟨q0, qP, qK⟩ := q; exact ⟨q0, qP, va_K.moved (u := U) (U := U.calling g mk a) (Vm.Alike.refl U.vm) qK⟩, va_recv hK hP (ci := 3) (q0 := 0) rfl rfl, fun U hU hW => ⟨rfl, by rw [hU]; exact hPc, va_K.moved hW.alike hK⟩⟩ rfl rfl hl.1 rfl (lv_room (Nat.le_of_ble_eq_true rfl)) dX3_lives_7 ⟨Nat.zero_le _, Nat.zero_le _⟩)) (fun r_7 hr_7 => ?_)
  subst hr_7
  refine lv_if_eq (tgt := 25) hx hb dX3_lives_10 (by decide) (fun c_10 => ?_) (fun c_10 => ?_)
  · have c_10 := zb_0.mp c_10
    refine lv_iconst (v := (-1)) hx hb dX3_lives_25 (by decide) ?_
    have hP9 := hP.sub (ws' := [(h0, .inr (3, [.int 0, .long tr, .int (nI N), .ref a3, .ref a4, .ref a5, .int st, .int kd, .int wd, .ref a9, .int (nI lg.length), .ref a11, .ref a12, .int (nI ah), .ref a14, .ref a15, .ref a16])), (a3, .inl (cA, 40, .inl LV)), (a4, .inl (cA, 40, .inl LA))]) [0, 1, 2] rfl
    have hD9 := hD.sub (ws' := [(h0, .inr (3, [.int 0, .long tr, .int (nI N), .ref a3, .ref a4, .ref a5, .int st, .int kd, .int wd, .ref a9, .int (nI lg.length), .ref a11, .ref a12, .int (nI ah), .ref a14, .ref a15, .ref a16])), (a3, .inl (cA, 40, .inl LV)), (a4, .inl (cA, 40, .inl LA))]) [0, 1, 2] (by decide) rfl
    exact W.iret (v := (-1)) hx hb hr (fun t ht hW => ⟨⟨_, (Bl, (lg, L, Wn, ah), LV, LA), rfl, ⟨by unfold spLives; first | (rw [c_10, Bool.false_and, if_neg (by decide)]) | (rw [c_10, c_22, Bool.true_and, if_neg (by decide)]), hR, hB⟩, ⟨by rw [ht]; exact hP9, va_K.moved hW.alike hK, hD9⟩⟩, hS.F ht⟩) hS.2.2 dX3_lives_26
  · have c_10 := zb_n.mp c_10
    refine lv_iload_n hx hb dX3_lives_13 rfl (lv_at hl 2 rfl) ?_
    refine lv_i2l (v := v.toInt64) hx hb dX3_lives_14 rfl ?_
    refine lv_lconst (v := 1) hx hb dX3_lives_15 (by decide) ?_
    refine lv_ldc2 (v := 5) hx hb hown (hts (.constantLong RX3 98 (5)) (by decide +kernel)) dX3_lives_16 ?_
    refine vp_callSi (va_Run.run (va_runS (As := [.long v.toInt64, .long 1, .long 5]) (rest := []) ⟨hx, hb, hml, hown, hts⟩ (c_X3_in l dC dI v.toInt64 1 5) (va_cwS 3 hts gX3_lives_X3_in rfl rfl rfl (by decide +kernel) ⟨Nat.le_of_ble_eq_true rfl, Nat.le_of_ble_eq_true rfl⟩) ⟨fun a U g mk q => ⟨q.1, trivial⟩, fun U hU hW => ⟨rfl, trivial⟩⟩ rfl rfl hl.1 rfl (lv_room (Nat.le_of_ble_eq_true rfl)) dX3_lives_19 ⟨Nat.zero_le _, Nat.zero_le _⟩)) (fun r_19 hr_19 => ?_)
    obtain rfl : r_19 = zb (wi v.toInt 1 5) := hr_19.trans (by rw [i2l_toInt]; rfl)
    refine lv_if_ne (tgt := 27) hx hb dX3_lives_22 (by decide) (fun c_22 => ?_) (fun c_22 => ?_)
    · have c_22 := zb_n.mp c_22
      obtain ⟨p1, hp1, rfl⟩ := person_of hN1 hN c_10
      obtain ⟨v1, hv1, hv5, rfl⟩ := nI_wi (a := 1) (b := 5) c_22
      refine lv_aload_n hx hb dX3_lives_27 rfl (lv_at hl 0 rfl) ?_
      refine va_get (D := (dC, dI)) (ci := 3) (v := .int (nI lg.length)) (C := RX3) (T := TX3) (N := 17) hx hb hts (by decide +kernel) hown hK hP 0 rfl rfl 10 (by decide) (hts (.fieldLink RX3 86 "CountedOutModel" "turns" "I") (by decide +kernel)) (fun _ h9 => h9) rfl dX3_lives_28 ?_
      refine lv_if_le (tgt := 37) hx hb dX3_lives_31 (by decide) (fun c_31 => ?_) (fun c_31 => ?_)
      · have c_31 : lg.length ≤ 0 := (nI_leI (a := lg.length) (b := 0) (by omega) (by omega)).mp c_31
        obtain rfl : lg = [] := by cases lg with | nil => rfl | cons x tl => exact absurd c_31 (by show ¬ tl.length + 1 ≤ 0; omega)
        refine lv_aload_n hx hb dX3_lives_37 rfl (lv_at hl 0 rfl) ?_
        refine va_get (D := (dC, dI)) (ci := 3) (v := .ref a3) (C := RX3) (T := TX3) (N := 17) hx hb hts (by decide +kernel) hown hK hP 0 rfl rfl 3 (by decide) (hts (.fieldLink RX3 13 "CountedOutModel" "lives" "[I") (by decide +kernel)) (fun _ h9 => h9) rfl dX3_lives_38 ?_
        refine lv_iload_n hx hb dX3_lives_41 rfl (lv_at hl 1 rfl) ?_
        refine z_iald hx hb hK hP 1 0 rfl rfl (i := p1) (by omega) (by decide) dX3_lives_42 ?_
        refine z_i (y := nI (L p1)) (by rw [hB _ hp1, (hG.2.2.2 _ hp1).1]) ?_
        refine lv_istore_n (lv' := [(3, .int (nI (L p1))), (0, .ref h0), (1, .int (nI p1)), (2, .int (nI v1))]) hx hb dX3_lives_43 rfl hl (by decide) rfl (fun ls hl => ?_)
        refine lv_aload_n hx hb dX3_lives_44 rfl (lv_at hl 1 rfl) ?_
        refine va_get (D := (dC, dI)) (ci := 3) (v := .ref a3) (C := RX3) (T := TX3) (N := 17) hx hb hts (by decide +kernel) hown hK hP 0 rfl rfl 3 (by decide) (hts (.fieldLink RX3 13 "CountedOutModel" "lives" "[I") (by decide +kernel)) (fun _ h9 => h9) rfl dX3_lives_45 ?_
        refine lv_iload_n hx hb dX3_lives_48 rfl (lv_at hl 2 rfl) ?_
        refine lv_iload_n hx hb dX3_lives_49 rfl (lv_at hl 3 rfl) ?_
        refine z_iast hx hb hK hP hD hS 1 0 rfl rfl (i := p1) (by omega) (by decide) dX3_lives_50 (fun H locs hP hD hS => ?_)
        have hP : va_P (dC, dI) vwCl [(h0, .inr (3, [.int 0, .long tr, .int (nI N), .ref a3, .ref a4, .ref a5, .int st, .int kd, .int wd, .ref a9, .int (nI ([] : List (Nat × Nat)).length), .ref a11, .ref a12, .int (nI ah), .ref a14, .ref a15, .ref a16])), (a3, .inl (cA, 40, .inl (upd LV p1 (nI v1)))), (a4, .inl (cA, 40, .inl LA))] H := hP
        have hD : va_D A [(h0, .inr (3, [.int 0, .long tr, .int (nI N), .ref a3, .ref a4, .ref a5, .int st, .int kd, .int wd, .ref a9, .int (nI ([] : List (Nat × Nat)).length), .ref a11, .ref a12, .int (nI ah), .ref a14, .ref a15, .ref a16])), (a3, .inl (cA, 40, .inl (upd LV p1 (nI v1)))), (a4, .inl (cA, 40, .inl LA))] := hD
        refine lv_aload_n hx hb dX3_lives_51 rfl (lv_at hl 1 rfl) ?_
        refine va_get (D := (dC, dI)) (ci := 3) (v := .ref a4) (C := RX3) (T := TX3) (N := 17) hx hb hts (by decide +kernel) hown hK hP 0 rfl rfl 4 (by decide) (hts (.fieldLink RX3 17 "CountedOutModel" "left" "[I") (by decide +kernel)) (fun _ h9 => h9) rfl dX3_lives_52 ?_
        refine lv_iload_n hx hb dX3_lives_55 rfl (lv_at hl 2 rfl) ?_
        refine lv_iload_n hx hb dX3_lives_56 rfl (lv_at hl 3 rfl) ?_
        refine z_iast hx hb hK hP hD hS 2 0 rfl rfl (i := p1) (by omega) (by decide) dX3_lives_57 (fun H locs hP hD hS => ?_)
        have hP : va_P (dC, dI) vwCl [(h0, .inr (3, [.int 0, .long tr, .int (nI N), .ref a3, .ref a4, .ref a5, .int st, .int kd, .int wd, .ref a9, .int (nI ([] : List (Nat × Nat)).length), .ref a11, .ref a12, .int (nI ah), .ref a14, .ref a15, .ref a16])), (a3, .inl (cA, 40, .inl (upd LV p1 (nI v1)))), (a4, .inl (cA, 40, .inl (upd LA p1 (nI v1))))] H := hP
        have hD : va_D A [(h0, .inr (3, [.int 0, .long tr, .int (nI N), .ref a3, .ref a4, .ref a5, .int st, .int kd, .int wd, .ref a9, .int (nI ([] : List (Nat × Nat)).length), .ref a11, .ref a12, .int (nI ah), .ref a14, .ref a15, .ref a16])), (a3, .inl (cA, 40, .inl (upd LV p1 (nI v1)))), (a4, .inl (cA, 40, .inl (upd LA p1 (nI v1))))] := hD
        refine lv_iload_n hx hb dX3_lives_58 rfl (lv_at hl 0 rfl) ?_
        have hP9 := hP.sub (ws' := [(h0, .inr (3, [.int 0, .long tr, .int (nI N), .ref a3, .ref a4, .ref a5, .int st, .int kd, .int wd, .ref a9, .int (nI ([] : List (Nat × Nat)).length), .ref a11, .ref a12, .int (nI ah), .ref a14, .ref a15, .ref a16])), (a3, .inl (cA, 40, .inl (upd LV p1 (nI v1)))), (a4, .inl (cA, 40, .inl (upd LA p1 (nI v1))))]) [0, 1, 2] rfl
        have hD9 := hD.sub (ws' := [(h0, .inr (3, [.int 0, .long tr, .int (nI N), .ref a3, .ref a4, .ref a5, .int st, .int kd, .int wd, .ref a9, .int (nI ([] : List (Nat × Nat)).length), .ref a11, .ref a12, .int (nI ah), .ref a14, .ref a15, .ref a16])), (a3, .inl (cA, 40, .inl (upd LV p1 (nI v1)))), (a4, .inl (cA, 40, .inl (upd LA p1 (nI v1))))]) [0, 1, 2] (by decide) rfl
        exact W.iret (v := nI (L p1)) hx hb hr (fun t ht hW => ⟨⟨_, (upN Bl p1 v1, ([], upN L p1 v1, Wn, ah), _, _), rfl, ⟨(spLives_t hN hp1 hv1 hv5).symm, RX_lives hR, LV_lives hB⟩, ⟨by rw [ht]; exact hP9, va_K.moved hW.alike hK, hD9⟩⟩, hS.F ht⟩) hS.2.2 dX3_lives_59
      · have c_31 : 0 < lg.length := Nat.lt_of_not_le (fun h => c_31 ((nI_leI (a := lg.length) (b := 0) (by omega) (by omega)).mpr h))
        refine lv_bipush (v := (-2)) hx hb dX3_lives_34 (by decide) ?_
        have hP9 := hP.sub (ws' := [(h0, .inr (3, [.int 0, .long tr, .int (nI N), .ref a3, .ref a4, .ref a5, .int st, .int kd, .int wd, .ref a9, .int (nI lg.length), .ref a11, .ref a12, .int (nI ah), .ref a14, .ref a15, .ref a16])), (a3, .inl (cA, 40, .inl LV)), (a4, .inl (cA, 40, .inl LA))]) [0, 1, 2] rfl
        have hD9 := hD.sub (ws' := [(h0, .inr (3, [.int 0, .long tr, .int (nI N), .ref a3, .ref a4, .ref a5, .int st, .int kd, .int wd, .ref a9, .int (nI lg.length), .ref a11, .ref a12, .int (nI ah), .ref a14, .ref a15, .ref a16])), (a3, .inl (cA, 40, .inl LV)), (a4, .inl (cA, 40, .inl LA))]) [0, 1, 2] (by decide) rfl
        exact W.iret (v := (-2)) hx hb hr (fun t ht hW => ⟨⟨_, (Bl, (lg, L, Wn, ah), LV, LA), rfl, ⟨by unfold spLives; rw [c_10, c_22, Bool.true_and, if_pos rfl, if_pos c_31], hR, hB⟩, ⟨by rw [ht]; exact hP9, va_K.moved hW.alike hK, hD9⟩⟩, hS.F ht⟩) hS.2.2 dX3_lives_36
    · have c_22 := zb_0.mp c_22
      refine lv_iconst (v := (-1)) hx hb dX3_lives_25 (by decide) ?_
      have hP9 := hP.sub (ws' := [(h0, .inr (3, [.int 0, .long tr, .int (nI N), .ref a3, .ref a4, .ref a5, .int st, .int kd, .int wd, .ref a9, .int (nI lg.length), .ref a11, .ref a12, .int (nI ah), .ref a14, .ref a15, .ref a16])), (a3, .inl (cA, 40, .inl LV)), (a4, .inl (cA, 40, .inl LA))]) [0, 1, 2] rfl
      have hD9 := hD.sub (ws' := [(h0, .inr (3, [.int 0, .long tr, .int (nI N), .ref a3, .ref a4, .ref a5, .int st, .int kd, .int wd, .ref a9, .int (nI lg.length), .ref a11, .ref a12, .int (nI ah), .ref a14, .ref a15, .ref a16])), (a3, .inl (cA, 40, .inl LV)), (a4, .inl (cA, 40, .inl LA))]) [0, 1, 2] (by decide) rfl
      exact W.iret (v := (-1)) hx hb hr (fun t ht hW => ⟨⟨_, (Bl, (lg, L, Wn, ah), LV, LA), rfl, ⟨by unfold spLives; first | (rw [c_10, Bool.false_and, if_neg (by decide)]) | (rw [c_10, c_22, Bool.true_and, if_neg (by decide)]), hR, hB⟩, ⟨by rw [ht]; exact hP9, va_K.moved hW.alike hK, hD9⟩⟩, hS.F ht⟩) hS.2.2 dX3_lives_26

set_option maxHeartbeats 4000000 in
set_option maxRecDepth 100000 in
theorem c_X3_set (l : Launch) (dC : Nat → ClassId) (dI : Nat → Nat → Nat) (sz : Nat) (cA : ClassId) (h0 a3 a4 a5 a9 a11 a12 a14 a15 a16 : Nat) (tr : Int64) (st kd nw : Nat) (wd : Nat → Nat) (hCS : CS st kd nw wd) (d : Nat) (hd : d < 200) (pe wv sd w v : Int32) : Met l yX3_set wsX3_set ({ frames := 1, cells := 0, slots := 0, locals := 25 }) (va_Pc [.ref h0, .int w, .int v] (fun U => U.heap.size = sz ∧ va_P (dC, dI) vwCl [(h0, .inr (3, [.int 0, .long tr, .int pe, .ref a3, .ref a4, .ref a5, .int (nI st), .int (nI kd), .int wv, .ref a9, .int (nI d), .ref a11, .ref a12, .int sd, .ref a14, .ref a15, .ref a16]))] U.heap ∧ va_K (dC, dI) vwCl [(cA, .int)] U ∧ va_D (fun _ => True) [(h0, .inr (3, [.int 0, .long tr, .int pe, .ref a3, .ref a4, .ref a5, .int (nI st), .int (nI kd), .int wv, .ref a9, .int (nI d), .ref a11, .ref a12, .int sd, .ref a14, .ref a15, .ref a16]))])) (va_Qi (S := Nat × Nat) (fun r u => (r, u.1, u.2) = spSet w v d st kd ∧ CS u.1 u.2 nw wd) (fun (u : Nat × Nat) (t : State) => va_P (dC, dI) vwCl [(h0, .inr (3, [.int 0, .long tr, .int pe, .ref a3, .ref a4, .ref a5, .int (nI u.1), .int (nI u.2), .int wv, .ref a9, .int (nI d), .ref a11, .ref a12, .int sd, .ref a14, .ref a15, .ref a16]))] t.heap ∧ va_K (dC, dI) vwCl [(cA, .int)] t ∧ va_D (va_A [(h0, .inr (3, [.int 0, .long tr, .int pe, .ref a3, .ref a4, .ref a5, .int (nI st), .int (nI kd), .int wv, .ref a9, .int (nI d), .ref a11, .ref a12, .int sd, .ref a14, .ref a15, .ref a16]))] sz) [(h0, .inr (3, [.int 0, .long tr, .int pe, .ref a3, .ref a4, .ref a5, .int (nI u.1), .int (nI u.2), .int wv, .ref a9, .int (nI d), .ref a11, .ref a12, .int sd, .ref a14, .ref a15, .ref a16]))]) (va_A [(h0, .inr (3, [.int 0, .long tr, .int pe, .ref a3, .ref a4, .ref a5, .int (nI st), .int (nI kd), .int wv, .ref a9, .int (nI d), .ref a11, .ref a12, .int sd, .ref a14, .ref a15, .ref a16]))] sz)) 0 0 (va_A [(h0, .inr (3, [.int 0, .long tr, .int pe, .ref a3, .ref a4, .ref a5, .int (nI st), .int (nI kd), .int wv, .ref a9, .int (nI d), .ref a11, .ref a12, .int sd, .ref a14, .ref a15, .ref a16]))] sz) := by
  refine Met.ofW (cc := cX3_set) (maxL := 4) (ret := (some .int)) (by decide) rfl ?_
  intro p e s m args below meth c s₁ B hml hv
  obtain ⟨rfl, hsz, hP, hK, hD0⟩ := hv
  have hx := B.exec
  have hb := B.bytes
  have hr := B.returns
  have hts := atoms_spec (ws := wsX3_set) B.pre
  have hown : s.vm.findClass RX3 = some m.cls := findClass_of_methodNamed B.named
  have hlocks := B.notSynchronized
  subst hsz
  have hD := hD0.self (sz := s.heap.size)
  generalize hAe : va_A [(h0, .inr (3, [.int 0, .long tr, .int pe, .ref a3, .ref a4, .ref a5, .int (nI st), .int (nI kd), .int wv, .ref a9, .int (nI d), .ref a11, .ref a12, .int sd, .ref a14, .ref a15, .ref a16]))] s.heap.size = A at hD ⊢
  have hA : ∀ q : Nat, s.heap.size ≤ q → A q := fun q h => by rw [← hAe]; exact Or.inr h
  have hS : va_S A s.heap s.heap [] := va_S.rf
  have hP : va_P (dC, dI) vwCl [(h0, .inr (3, [.int 0, .long tr, .int pe, .ref a3, .ref a4, .ref a5, .int (nI st), .int (nI kd), .int wv, .ref a9, .int (nI d), .ref a11, .ref a12, .int sd, .ref a14, .ref a15, .ref a16]))] s.heap := hP
  have hl := lv_entry ([.ref h0, .int w, .int v]) (n := 4) (Nat.le_of_ble_eq_true rfl)
  rw [lg_entry_eq]
  generalize (lg_sl ([.ref h0, .int w, .int v]) ++ List.replicate (4 - (lg_sl ([.ref h0, .int w, .int v])).length) Slot.unset).toArray = ls at hl ⊢
  have hl : lv_has ls 4 [(0, .ref h0), (1, .int w), (2, .int v)] := hl
  obtain ⟨hs1, hs2, hk2, -⟩ := id hCS
  refine lv_aload_n hx hb dX3_set_0 rfl (lv_at hl 0 rfl) ?_
  refine lv_iconst (v := 0) hx hb dX3_set_1 (by decide) ?_
  refine va_put (D := (dC, dI)) (ci := 3) (v := .int 0) (ty := .int) (C := RX3) (T := TX3) (N := 17) hx hb hts (by decide +kernel) tyX3 tyX3_ok nmX3 hown hK hP hD hS 0 rfl rfl 0 (by decide) (hts (.fieldLink RX3 51 "CountedOutModel" "thrown" "I") (by decide +kernel)) (fun _ h9 => h9) rfl (by decide +kernel) rfl rfl (Nat.le_of_ble_eq_true rfl) dX3_set_2 (fun H locs hP hD hS => ?_)
  have hP : va_P (dC, dI) vwCl [(h0, .inr (3, [.int 0, .long tr, .int pe, .ref a3, .ref a4, .ref a5, .int (nI st), .int (nI kd), .int wv, .ref a9, .int (nI d), .ref a11, .ref a12, .int sd, .ref a14, .ref a15, .ref a16]))] H := hP
  have hD : va_D A [(h0, .inr (3, [.int 0, .long tr, .int pe, .ref a3, .ref a4, .ref a5, .int (nI st), .int (nI kd), .int wv, .ref a9, .int (nI d), .ref a11, .ref a12, .int sd, .ref a14, .ref a15, .ref a16]))] := hD
  refine lv_iload_n hx hb dX3_set_5 rfl (lv_at hl 1 rfl) ?_
  refine lv_i2l (v := w.toInt64) hx hb dX3_set_6 rfl ?_
  refine lv_lconst (v := 0) hx hb dX3_set_7 (by decide) ?_
  refine lv_lconst (v := 1) hx hb dX3_set_8 (by decide) ?_
  refine vp_callSi (va_Run.run (va_runS (As := [.long w.toInt64, .long 0, .long 1]) (rest := []) ⟨hx, hb, hml, hown, hts⟩ (c_X3_in l dC dI w.toInt64 0 1) (va_cwS 3 hts gX3_set_X3_in rfl rfl rfl (by decide +kernel) ⟨Nat.le_of_ble_eq_true rfl, Nat.le_of_ble_eq_true rfl⟩) ⟨fun a U g mk q => ⟨q.1, trivial⟩, fun U hU hW => ⟨rfl, trivial⟩⟩ rfl rfl hl.1 rfl (lv_room (Nat.le_of_ble_eq_true rfl)) dX3_set_9 ⟨Nat.zero_le _, Nat.zero_le _⟩)) (fun r_9 hr_9 => ?_)
  obtain rfl : r_9 = zb (wi w.toInt 0 1) := hr_9.trans (by rw [i2l_toInt]; rfl)
  refine lv_if_eq (tgt := 45) hx hb dX3_set_12 (by decide) (fun c_12 => ?_) (fun c_12 => ?_)
  · have c_12 := zb_0.mp c_12
    refine lv_iconst (v := (-1)) hx hb dX3_set_45 (by decide) ?_
    have hP9 := hP.sub (ws' := [(h0, .inr (3, [.int 0, .long tr, .int pe, .ref a3, .ref a4, .ref a5, .int (nI st), .int (nI kd), .int wv, .ref a9, .int (nI d), .ref a11, .ref a12, .int sd, .ref a14, .ref a15, .ref a16]))]) [0] rfl
    have hD9 := hD.sub (ws' := [(h0, .inr (3, [.int 0, .long tr, .int pe, .ref a3, .ref a4, .ref a5, .int (nI st), .int (nI kd), .int wv, .ref a9, .int (nI d), .ref a11, .ref a12, .int sd, .ref a14, .ref a15, .ref a16]))]) [0] (by decide) rfl
    exact W.iret (v := (-1)) hx hb hr (fun t ht hW => ⟨⟨_, (st, kd), rfl, ⟨by unfold spSet; first | (rw [c_12, Bool.false_and, if_neg (by decide)]) | (rw [if_neg c_18, if_neg c_18, c_12, c_42, Bool.true_and, if_neg (by decide)]), hCS⟩, ⟨by rw [ht]; exact hP9, va_K.moved hW.alike hK, hD9⟩⟩, hS.F ht⟩) hS.2.2 dX3_set_46
  · have c_12 := zb_n.mp c_12
    refine lv_iload_n hx hb dX3_set_15 rfl (lv_at hl 2 rfl) ?_
    refine lv_i2l (v := v.toInt64) hx hb dX3_set_16 rfl ?_
    refine lv_iload_n hx hb dX3_set_17 rfl (lv_at hl 1 rfl) ?_
    refine lv_if_ne (tgt := 25) hx hb dX3_set_18 (by decide) (fun c_18 => ?_) (fun c_18 => ?_)
    · have hw1 : w = 1 := set_w1 c_12 c_18
      refine lv_lconst (v := 0) hx hb dX3_set_25 (by decide) ?_
      refine lv_iload_n hx hb dX3_set_26 rfl (lv_at hl 1 rfl) ?_
      refine lv_if_ne (tgt := 36) hx hb dX3_set_27 (by decide) (fun c_27 => ?_) (fun c_27 => ?_)
      · refine lv_ldc2 (v := 2) hx hb hown (hts (.constantLong RX3 72 (2)) (by decide +kernel)) dX3_set_36 ?_
        refine vp_callSi (va_Run.run (va_runS (As := [.long v.toInt64, .long 0, .long 2]) (rest := []) ⟨hx, hb, hml, hown, hts⟩ (c_X3_in l dC dI v.toInt64 0 2) (va_cwS 3 hts gX3_set_X3_in rfl rfl rfl (by decide +kernel) ⟨Nat.le_of_ble_eq_true rfl, Nat.le_of_ble_eq_true rfl⟩) ⟨fun a U g mk q => ⟨q.1, trivial⟩, fun U hU hW => ⟨rfl, trivial⟩⟩ rfl rfl hl.1 rfl (lv_room (Nat.le_of_ble_eq_true rfl)) dX3_set_39 ⟨Nat.zero_le _, Nat.zero_le _⟩)) (fun r_39 hr_39 => ?_)
        obtain rfl : r_39 = zb (wi v.toInt 0 2) := hr_39.trans (by rw [i2l_toInt]; rfl)
        refine lv_if_ne (tgt := 47) hx hb dX3_set_42 (by decide) (fun c_42 => ?_) (fun c_42 => ?_)
        · have c_42 := zb_n.mp c_42
          obtain ⟨v1, hv1, hv2, rfl⟩ := nI_wi (a := 0) (b := 2) c_42
          refine lv_aload_n hx hb dX3_set_47 rfl (lv_at hl 0 rfl) ?_
          refine va_get (D := (dC, dI)) (ci := 3) (v := .int (nI d)) (C := RX3) (T := TX3) (N := 17) hx hb hts (by decide +kernel) hown hK hP 0 rfl rfl 10 (by decide) (hts (.fieldLink RX3 86 "CountedOutModel" "turns" "I") (by decide +kernel)) (fun _ h9 => h9) rfl dX3_set_48 ?_
          refine lv_if_le (tgt := 57) hx hb dX3_set_51 (by decide) (fun c_51 => ?_) (fun c_51 => ?_)
          · have c_51 : d ≤ 0 := (nI_leI (a := d) (b := 0) (by omega) (by omega)).mp c_51
            refine lv_iload_n hx hb dX3_set_57 rfl (lv_at hl 1 rfl) ?_
            refine lv_if_ne (tgt := 68) hx hb dX3_set_58 (by decide) (fun c_58 => ?_) (fun c_58 => ?_)
            · refine lv_aload_n hx hb dX3_set_68 rfl (lv_at hl 0 rfl) ?_
              refine va_get (D := (dC, dI)) (ci := 3) (v := .int (nI kd)) (C := RX3) (T := TX3) (N := 17) hx hb hts (by decide +kernel) hown hK hP 0 rfl rfl 7 (by decide) (hts (.fieldLink RX3 100 "CountedOutModel" "kind" "I") (by decide +kernel)) (fun _ h9 => h9) rfl dX3_set_69 ?_
              refine lv_istore_n (lv' := [(3, .int (nI kd)), (0, .ref h0), (1, .int w), (2, .int (nI v1))]) hx hb dX3_set_72 rfl hl (by decide) rfl (fun ls hl => ?_)
              refine lv_aload_n hx hb dX3_set_73 rfl (lv_at hl 1 rfl) ?_
              refine lv_iload_n hx hb dX3_set_74 rfl (lv_at hl 2 rfl) ?_
              refine lv_if_ne (tgt := 82) hx hb dX3_set_75 (by decide) (fun c_75 => ?_) (fun c_75 => ?_)
              · refine lv_aload_n hx hb dX3_set_82 rfl (lv_at hl 1 rfl) ?_
                refine va_get (D := (dC, dI)) (ci := 3) (v := .int (nI st)) (C := RX3) (T := TX3) (N := 17) hx hb hts (by decide +kernel) hown hK hP 0 rfl rfl 6 (by decide) (hts (.fieldLink RX3 23 "CountedOutModel" "step" "I") (by decide +kernel)) (fun _ h9 => h9) rfl dX3_set_83 ?_
                refine va_put (D := (dC, dI)) (ci := 3) (v := .int (nI st)) (ty := .int) (C := RX3) (T := TX3) (N := 17) hx hb hts (by decide +kernel) tyX3 tyX3_ok nmX3 hown hK hP hD hS 0 rfl rfl 6 (by decide) (hts (.fieldLink RX3 23 "CountedOutModel" "step" "I") (by decide +kernel)) (fun _ h9 => h9) rfl (by decide +kernel) rfl rfl (Nat.le_of_ble_eq_true rfl) dX3_set_86 (fun H locs hP hD hS => ?_)
                have hP : va_P (dC, dI) vwCl [(h0, .inr (3, [.int 0, .long tr, .int pe, .ref a3, .ref a4, .ref a5, .int (nI st), .int (nI kd), .int wv, .ref a9, .int (nI d), .ref a11, .ref a12, .int sd, .ref a14, .ref a15, .ref a16]))] H := hP
                have hD : va_D A [(h0, .inr (3, [.int 0, .long tr, .int pe, .ref a3, .ref a4, .ref a5, .int (nI st), .int (nI kd), .int wv, .ref a9, .int (nI d), .ref a11, .ref a12, .int sd, .ref a14, .ref a15, .ref a16]))] := hD
                refine lv_aload_n hx hb dX3_set_89 rfl (lv_at hl 1 rfl) ?_
                refine lv_iload_n hx hb dX3_set_90 rfl (lv_at hl 2 rfl) ?_
                refine lv_iconst (v := 1) hx hb dX3_set_91 (by decide) ?_
                refine lv_icmp_ne (tgt := 99) hx hb dX3_set_92 (by decide) (fun c_92 => ?_) (fun c_92 => ?_)
                · exact absurd hw1 c_92
                · refine lv_iload_n hx hb dX3_set_95 rfl (lv_at hl 3 rfl) ?_
                  refine lv_goto (tgt := 103) hx hb dX3_set_96 (by decide) ?_
                  refine va_put (D := (dC, dI)) (ci := 3) (v := .int (nI v1)) (ty := .int) (C := RX3) (T := TX3) (N := 17) hx hb hts (by decide +kernel) tyX3 tyX3_ok nmX3 hown hK hP hD hS 0 rfl rfl 7 (by decide) (hts (.fieldLink RX3 100 "CountedOutModel" "kind" "I") (by decide +kernel)) (fun _ h9 => h9) rfl (by decide +kernel) rfl rfl (Nat.le_of_ble_eq_true rfl) dX3_set_103 (fun H locs hP hD hS => ?_)
                  have hP : va_P (dC, dI) vwCl [(h0, .inr (3, [.int 0, .long tr, .int pe, .ref a3, .ref a4, .ref a5, .int (nI st), .int (nI v1), .int wv, .ref a9, .int (nI d), .ref a11, .ref a12, .int sd, .ref a14, .ref a15, .ref a16]))] H := hP
                  have hD : va_D A [(h0, .inr (3, [.int 0, .long tr, .int pe, .ref a3, .ref a4, .ref a5, .int (nI st), .int (nI v1), .int wv, .ref a9, .int (nI d), .ref a11, .ref a12, .int sd, .ref a14, .ref a15, .ref a16]))] := hD
                  refine lv_iload_n hx hb dX3_set_106 rfl (lv_at hl 0 rfl) ?_
                  have hP9 := hP.sub (ws' := [(h0, .inr (3, [.int 0, .long tr, .int pe, .ref a3, .ref a4, .ref a5, .int (nI st), .int (nI v1), .int wv, .ref a9, .int (nI d), .ref a11, .ref a12, .int sd, .ref a14, .ref a15, .ref a16]))]) [0] rfl
                  have hD9 := hD.sub (ws' := [(h0, .inr (3, [.int 0, .long tr, .int pe, .ref a3, .ref a4, .ref a5, .int (nI st), .int (nI v1), .int wv, .ref a9, .int (nI d), .ref a11, .ref a12, .int sd, .ref a14, .ref a15, .ref a16]))]) [0] (by decide) rfl
                  exact W.iret (v := nI kd) hx hb hr (fun t ht hW => ⟨⟨_, (st, v1), rfl, ⟨by unfold spSet; rw [if_neg c_18, if_neg c_18, c_12, c_42, Bool.true_and, if_pos rfl, if_neg (by omega), if_neg c_18, nI_toInt (by omega)]; rfl, CS_kd hCS hv2⟩, ⟨by rw [ht]; exact hP9, va_K.moved hW.alike hK, hD9⟩⟩, hS.F ht⟩) hS.2.2 dX3_set_107
              · exact absurd c_75 c_18
            · exact absurd c_58 c_18
          · have c_51 : 0 < d := Nat.lt_of_not_le (fun h => c_51 ((nI_leI (a := d) (b := 0) (by omega) (by omega)).mpr h))
            refine lv_bipush (v := (-2)) hx hb dX3_set_54 (by decide) ?_
            have hP9 := hP.sub (ws' := [(h0, .inr (3, [.int 0, .long tr, .int pe, .ref a3, .ref a4, .ref a5, .int (nI st), .int (nI kd), .int wv, .ref a9, .int (nI d), .ref a11, .ref a12, .int sd, .ref a14, .ref a15, .ref a16]))]) [0] rfl
            have hD9 := hD.sub (ws' := [(h0, .inr (3, [.int 0, .long tr, .int pe, .ref a3, .ref a4, .ref a5, .int (nI st), .int (nI kd), .int wv, .ref a9, .int (nI d), .ref a11, .ref a12, .int sd, .ref a14, .ref a15, .ref a16]))]) [0] (by decide) rfl
            exact W.iret (v := (-2)) hx hb hr (fun t ht hW => ⟨⟨_, (st, kd), rfl, ⟨by unfold spSet; rw [if_neg c_18, if_neg c_18, c_12, c_42, Bool.true_and, if_pos rfl, if_pos c_51], hCS⟩, ⟨by rw [ht]; exact hP9, va_K.moved hW.alike hK, hD9⟩⟩, hS.F ht⟩) hS.2.2 dX3_set_56
        · have c_42 := zb_0.mp c_42
          refine lv_iconst (v := (-1)) hx hb dX3_set_45 (by decide) ?_
          have hP9 := hP.sub (ws' := [(h0, .inr (3, [.int 0, .long tr, .int pe, .ref a3, .ref a4, .ref a5, .int (nI st), .int (nI kd), .int wv, .ref a9, .int (nI d), .ref a11, .ref a12, .int sd, .ref a14, .ref a15, .ref a16]))]) [0] rfl
          have hD9 := hD.sub (ws' := [(h0, .inr (3, [.int 0, .long tr, .int pe, .ref a3, .ref a4, .ref a5, .int (nI st), .int (nI kd), .int wv, .ref a9, .int (nI d), .ref a11, .ref a12, .int sd, .ref a14, .ref a15, .ref a16]))]) [0] (by decide) rfl
          exact W.iret (v := (-1)) hx hb hr (fun t ht hW => ⟨⟨_, (st, kd), rfl, ⟨by unfold spSet; first | (rw [c_12, Bool.false_and, if_neg (by decide)]) | (rw [if_neg c_18, if_neg c_18, c_12, c_42, Bool.true_and, if_neg (by decide)]), hCS⟩, ⟨by rw [ht]; exact hP9, va_K.moved hW.alike hK, hD9⟩⟩, hS.F ht⟩) hS.2.2 dX3_set_46
      · exact absurd c_27 c_18
    · have hw0 := c_18
      refine lv_lconst (v := 1) hx hb dX3_set_21 (by decide) ?_
      refine lv_goto (tgt := 26) hx hb dX3_set_22 (by decide) ?_
      refine lv_iload_n hx hb dX3_set_26 rfl (lv_at hl 1 rfl) ?_
      refine lv_if_ne (tgt := 36) hx hb dX3_set_27 (by decide) (fun c_27 => ?_) (fun c_27 => ?_)
      · exact absurd c_18 c_27
      · refine lv_ldc2 (v := 20) hx hb hown (hts (.constantLong RX3 74 (20)) (by decide +kernel)) dX3_set_30 ?_
        refine lv_goto (tgt := 39) hx hb dX3_set_33 (by decide) ?_
        refine vp_callSi (va_Run.run (va_runS (As := [.long v.toInt64, .long 1, .long 20]) (rest := []) ⟨hx, hb, hml, hown, hts⟩ (c_X3_in l dC dI v.toInt64 1 20) (va_cwS 3 hts gX3_set_X3_in rfl rfl rfl (by decide +kernel) ⟨Nat.le_of_ble_eq_true rfl, Nat.le_of_ble_eq_true rfl⟩) ⟨fun a U g mk q => ⟨q.1, trivial⟩, fun U hU hW => ⟨rfl, trivial⟩⟩ rfl rfl hl.1 rfl (lv_room (Nat.le_of_ble_eq_true rfl)) dX3_set_39 ⟨Nat.zero_le _, Nat.zero_le _⟩)) (fun r_39 hr_39 => ?_)
        obtain rfl : r_39 = zb (wi v.toInt 1 20) := hr_39.trans (by rw [i2l_toInt]; rfl)
        refine lv_if_ne (tgt := 47) hx hb dX3_set_42 (by decide) (fun c_42 => ?_) (fun c_42 => ?_)
        · have c_42 := zb_n.mp c_42
          obtain ⟨v1, hv1, hv2, rfl⟩ := nI_wi (a := 1) (b := 20) c_42
          refine lv_aload_n hx hb dX3_set_47 rfl (lv_at hl 0 rfl) ?_
          refine va_get (D := (dC, dI)) (ci := 3) (v := .int (nI d)) (C := RX3) (T := TX3) (N := 17) hx hb hts (by decide +kernel) hown hK hP 0 rfl rfl 10 (by decide) (hts (.fieldLink RX3 86 "CountedOutModel" "turns" "I") (by decide +kernel)) (fun _ h9 => h9) rfl dX3_set_48 ?_
          refine lv_if_le (tgt := 57) hx hb dX3_set_51 (by decide) (fun c_51 => ?_) (fun c_51 => ?_)
          · have c_51 : d ≤ 0 := (nI_leI (a := d) (b := 0) (by omega) (by omega)).mp c_51
            refine lv_iload_n hx hb dX3_set_57 rfl (lv_at hl 1 rfl) ?_
            refine lv_if_ne (tgt := 68) hx hb dX3_set_58 (by decide) (fun c_58 => ?_) (fun c_58 => ?_)
            · exact absurd c_18 c_58
            · refine lv_aload_n hx hb dX3_set_61 rfl (lv_at hl 0 rfl) ?_
              refine va_get (D := (dC, dI)) (ci := 3) (v := .int (nI st)) (C := RX3) (T := TX3) (N := 17) hx hb hts (by decide +kernel) hown hK hP 0 rfl rfl 6 (by decide) (hts (.fieldLink RX3 23 "CountedOutModel" "step" "I") (by decide +kernel)) (fun _ h9 => h9) rfl dX3_set_62 ?_
              refine lv_goto (tgt := 72) hx hb dX3_set_65 (by decide) ?_
              refine lv_istore_n (lv' := [(3, .int (nI st)), (0, .ref h0), (1, .int w), (2, .int (nI v1))]) hx hb dX3_set_72 rfl hl (by decide) rfl (fun ls hl => ?_)
              refine lv_aload_n hx hb dX3_set_73 rfl (lv_at hl 1 rfl) ?_
              refine lv_iload_n hx hb dX3_set_74 rfl (lv_at hl 2 rfl) ?_
              refine lv_if_ne (tgt := 82) hx hb dX3_set_75 (by decide) (fun c_75 => ?_) (fun c_75 => ?_)
              · exact absurd c_18 c_75
              · refine lv_iload_n hx hb dX3_set_78 rfl (lv_at hl 3 rfl) ?_
                refine lv_goto (tgt := 86) hx hb dX3_set_79 (by decide) ?_
                refine va_put (D := (dC, dI)) (ci := 3) (v := .int (nI v1)) (ty := .int) (C := RX3) (T := TX3) (N := 17) hx hb hts (by decide +kernel) tyX3 tyX3_ok nmX3 hown hK hP hD hS 0 rfl rfl 6 (by decide) (hts (.fieldLink RX3 23 "CountedOutModel" "step" "I") (by decide +kernel)) (fun _ h9 => h9) rfl (by decide +kernel) rfl rfl (Nat.le_of_ble_eq_true rfl) dX3_set_86 (fun H locs hP hD hS => ?_)
                have hP : va_P (dC, dI) vwCl [(h0, .inr (3, [.int 0, .long tr, .int pe, .ref a3, .ref a4, .ref a5, .int (nI v1), .int (nI kd), .int wv, .ref a9, .int (nI d), .ref a11, .ref a12, .int sd, .ref a14, .ref a15, .ref a16]))] H := hP
                have hD : va_D A [(h0, .inr (3, [.int 0, .long tr, .int pe, .ref a3, .ref a4, .ref a5, .int (nI v1), .int (nI kd), .int wv, .ref a9, .int (nI d), .ref a11, .ref a12, .int sd, .ref a14, .ref a15, .ref a16]))] := hD
                refine lv_aload_n hx hb dX3_set_89 rfl (lv_at hl 1 rfl) ?_
                refine lv_iload_n hx hb dX3_set_90 rfl (lv_at hl 2 rfl) ?_
                refine lv_iconst (v := 1) hx hb dX3_set_91 (by decide) ?_
                refine lv_icmp_ne (tgt := 99) hx hb dX3_set_92 (by decide) (fun c_92 => ?_) (fun c_92 => ?_)
                · refine lv_aload_n hx hb dX3_set_99 rfl (lv_at hl 1 rfl) ?_
                  refine va_get (D := (dC, dI)) (ci := 3) (v := .int (nI kd)) (C := RX3) (T := TX3) (N := 17) hx hb hts (by decide +kernel) hown hK hP 0 rfl rfl 7 (by decide) (hts (.fieldLink RX3 100 "CountedOutModel" "kind" "I") (by decide +kernel)) (fun _ h9 => h9) rfl dX3_set_100 ?_
                  refine va_put (D := (dC, dI)) (ci := 3) (v := .int (nI kd)) (ty := .int) (C := RX3) (T := TX3) (N := 17) hx hb hts (by decide +kernel) tyX3 tyX3_ok nmX3 hown hK hP hD hS 0 rfl rfl 7 (by decide) (hts (.fieldLink RX3 100 "CountedOutModel" "kind" "I") (by decide +kernel)) (fun _ h9 => h9) rfl (by decide +kernel) rfl rfl (Nat.le_of_ble_eq_true rfl) dX3_set_103 (fun H locs hP hD hS => ?_)
                  have hP : va_P (dC, dI) vwCl [(h0, .inr (3, [.int 0, .long tr, .int pe, .ref a3, .ref a4, .ref a5, .int (nI v1), .int (nI kd), .int wv, .ref a9, .int (nI d), .ref a11, .ref a12, .int sd, .ref a14, .ref a15, .ref a16]))] H := hP
                  have hD : va_D A [(h0, .inr (3, [.int 0, .long tr, .int pe, .ref a3, .ref a4, .ref a5, .int (nI v1), .int (nI kd), .int wv, .ref a9, .int (nI d), .ref a11, .ref a12, .int sd, .ref a14, .ref a15, .ref a16]))] := hD
                  refine lv_iload_n hx hb dX3_set_106 rfl (lv_at hl 0 rfl) ?_
                  have hP9 := hP.sub (ws' := [(h0, .inr (3, [.int 0, .long tr, .int pe, .ref a3, .ref a4, .ref a5, .int (nI v1), .int (nI kd), .int wv, .ref a9, .int (nI d), .ref a11, .ref a12, .int sd, .ref a14, .ref a15, .ref a16]))]) [0] rfl
                  have hD9 := hD.sub (ws' := [(h0, .inr (3, [.int 0, .long tr, .int pe, .ref a3, .ref a4, .ref a5, .int (nI v1), .int (nI kd), .int wv, .ref a9, .int (nI d), .ref a11, .ref a12, .int sd, .ref a14, .ref a15, .ref a16]))]) [0] (by decide) rfl
                  exact W.iret (v := nI st) hx hb hr (fun t ht hW => ⟨⟨_, (v1, kd), rfl, ⟨by unfold spSet; rw [if_pos c_18, if_pos c_18, c_12, c_42, Bool.true_and, if_pos rfl, if_neg (by omega), if_pos c_18, nI_toInt (by omega)]; rfl, CS_st hCS hv1 hv2⟩, ⟨by rw [ht]; exact hP9, va_K.moved hW.alike hK, hD9⟩⟩, hS.F ht⟩) hS.2.2 dX3_set_107
                · exact absurd (c_18.symm.trans c_92) (by decide)
          · have c_51 : 0 < d := Nat.lt_of_not_le (fun h => c_51 ((nI_leI (a := d) (b := 0) (by omega) (by omega)).mpr h))
            refine lv_bipush (v := (-2)) hx hb dX3_set_54 (by decide) ?_
            have hP9 := hP.sub (ws' := [(h0, .inr (3, [.int 0, .long tr, .int pe, .ref a3, .ref a4, .ref a5, .int (nI st), .int (nI kd), .int wv, .ref a9, .int (nI d), .ref a11, .ref a12, .int sd, .ref a14, .ref a15, .ref a16]))]) [0] rfl
            have hD9 := hD.sub (ws' := [(h0, .inr (3, [.int 0, .long tr, .int pe, .ref a3, .ref a4, .ref a5, .int (nI st), .int (nI kd), .int wv, .ref a9, .int (nI d), .ref a11, .ref a12, .int sd, .ref a14, .ref a15, .ref a16]))]) [0] (by decide) rfl
            exact W.iret (v := (-2)) hx hb hr (fun t ht hW => ⟨⟨_, (st, kd), rfl, ⟨by unfold spSet; rw [if_pos c_18, if_pos c_18, c_12, c_42, Bool.true_and, if_pos rfl, if_pos c_51], hCS⟩, ⟨by rw [ht]; exact hP9, va_K.moved hW.alike hK, hD9⟩⟩, hS.F ht⟩) hS.2.2 dX3_set_56
        · have c_42 := zb_0.mp c_42
          refine lv_iconst (v := (-1)) hx hb dX3_set_45 (by decide) ?_
          have hP9 := hP.sub (ws' := [(h0, .inr (3, [.int 0, .long tr, .int pe, .ref a3, .ref a4, .ref a5, .int (nI st), .int (nI kd), .int wv, .ref a9, .int (nI d), .ref a11, .ref a12, .int sd, .ref a14, .ref a15, .ref a16]))]) [0] rfl
          have hD9 := hD.sub (ws' := [(h0, .inr (3, [.int 0, .long tr, .int pe, .ref a3, .ref a4, .ref a5, .int (nI st), .int (nI kd), .int wv, .ref a9, .int (nI d), .ref a11, .ref a12, .int sd, .ref a14, .ref a15, .ref a16]))]) [0] (by decide) rfl
          exact W.iret (v := (-1)) hx hb hr (fun t ht hW => ⟨⟨_, (st, kd), rfl, ⟨by unfold spSet; first | (rw [c_12, Bool.false_and, if_neg (by decide)]) | (rw [if_pos c_18, if_pos c_18, c_12, c_42, Bool.true_and, if_neg (by decide)]), hCS⟩, ⟨by rw [ht]; exact hP9, va_K.moved hW.alike hK, hD9⟩⟩, hS.F ht⟩) hS.2.2 dX3_set_46

set_option maxHeartbeats 4000000 in
set_option maxRecDepth 100000 in
theorem c_X3_isWord (l : Launch) (dC : Nat → ClassId) (dI : Nat → Nat → Nat) (v : Int32) : Met l yX3_isWord wsX3_isWord ({ frames := 1, cells := 0, slots := 0, locals := 25 }) (va_Pc [.int v] (fun _ => True)) (vp_Si (fun r => r = zb (okW v))) 0 0 (fun _ => False) := by
  refine Met.ofW (cc := cX3_isWord) (maxL := 1) (ret := (some .boolean)) (by decide) rfl ?_
  intro p e s m args below meth c s₁ B hml hv
  obtain ⟨rfl, -⟩ := hv
  have hx := B.exec
  have hb := B.bytes
  have hr := B.returns
  have hts := atoms_spec (ws := wsX3_isWord) B.pre
  have hown : s.vm.findClass RX3 = some m.cls := findClass_of_methodNamed B.named
  have hlocks := B.notSynchronized
  have hl := lv_entry ([.int v]) (n := 1) (Nat.le_of_ble_eq_true rfl)
  rw [lg_entry_eq]
  generalize (lg_sl ([.int v]) ++ List.replicate (1 - (lg_sl ([.int v])).length) Slot.unset).toArray = ls at hl ⊢
  have hl : lv_has ls 1 [(0, .int v)] := hl
  refine lv_iload_n hx hb dX3_isWord_0 rfl (lv_at hl 0 rfl) ?_
  refine lv_i2l (v := v.toInt64) hx hb dX3_isWord_1 rfl ?_
  refine lv_lconst (v := 1) hx hb dX3_isWord_2 (by decide) ?_
  refine lv_ldc2 (v := 99) hx hb hown (hts (.constantLong RX3 103 (99)) (by decide +kernel)) dX3_isWord_3 ?_
  refine vp_callSi (va_Run.run (va_runS (As := [.long v.toInt64, .long 1, .long 99]) (rest := []) ⟨hx, hb, hml, hown, hts⟩ (c_X3_in l dC dI v.toInt64 1 99) (va_cwS 3 hts gX3_isWord_X3_in rfl rfl rfl (by decide +kernel) ⟨Nat.le_of_ble_eq_true rfl, Nat.le_of_ble_eq_true rfl⟩) ⟨fun a U g mk q => ⟨q.1, trivial⟩, fun U hU hW => ⟨rfl, trivial⟩⟩ rfl rfl hl.1 rfl (lv_room (Nat.le_of_ble_eq_true rfl)) dX3_isWord_6 ⟨Nat.zero_le _, Nat.zero_le _⟩)) (fun r_6 hr_6 => ?_)
  obtain rfl : r_6 = zb (wi v.toInt 1 99) := hr_6.trans (by rw [i2l_toInt]; rfl)
  exact W.zret (v := zb (wi v.toInt 1 99)) hx hb hr (narrow_zb _) (fun t ht hW => ⟨_, rfl, rfl, ht⟩) (fun _ h => absurd h List.not_mem_nil) dX3_isWord_9

set_option maxHeartbeats 4000000 in
set_option maxRecDepth 100000 in
theorem c_X3_words (l : Launch) (dC : Nat → ClassId) (dI : Nat → Nat → Nat) (sz : Nat) (cA : ClassId) (h0 a3 a4 a5 a9 a11 a12 a14 a15 a16 : Nat) (tr : Int64) (st kd nw : Nat) (wd : Nat → Nat) (hCS : CS st kd nw wd) (WR : Nat → Int32) (hCR : CR nw wd WR) (dn : Nat) (hd : dn < 200) (pe sd : Int32) (n a b c0 d : Int32) (tw : Bool) : Met l yX3_words wsX3_words ({ frames := 2, cells := 0, slots := 0, locals := 45 }) (va_Pc [.ref h0, .int n, .int a, .int b, .int c0, .int d, .int (zb tw)] (fun U => U.heap.size = sz ∧ va_P (dC, dI) vwCl [(h0, .inr (3, [.int 0, .long tr, .int pe, .ref a3, .ref a4, .ref a5, .int (nI st), .int (nI kd), .int (nI nw), .ref a9, .int (nI dn), .ref a11, .ref a12, .int sd, .ref a14, .ref a15, .ref a16])), (a9, .inl (cA, 8, .inl WR))] U.heap ∧ va_K (dC, dI) vwCl [(cA, .int)] U ∧ va_D (fun _ => True) [(h0, .inr (3, [.int 0, .long tr, .int pe, .ref a3, .ref a4, .ref a5, .int (nI st), .int (nI kd), .int (nI nw), .ref a9, .int (nI dn), .ref a11, .ref a12, .int sd, .ref a14, .ref a15, .ref a16])), (a9, .inl (cA, 8, .inl WR))])) (va_Qi (S := Nat × (Nat → Nat) × (Nat → Int32)) (fun r u => (r, u.1, u.2.1) = spWords n a b c0 d tw dn nw wd ∧ CR u.1 u.2.1 u.2.2) (fun (u : Nat × (Nat → Nat) × (Nat → Int32)) (t : State) => va_P (dC, dI) vwCl [(h0, .inr (3, [.int 0, .long tr, .int pe, .ref a3, .ref a4, .ref a5, .int (nI st), .int (nI kd), .int (nI u.1), .ref a9, .int (nI dn), .ref a11, .ref a12, .int sd, .ref a14, .ref a15, .ref a16])), (a9, .inl (cA, 8, .inl u.2.2))] t.heap ∧ va_K (dC, dI) vwCl [(cA, .int)] t ∧ va_D (va_A [(h0, .inr (3, [.int 0, .long tr, .int pe, .ref a3, .ref a4, .ref a5, .int (nI st), .int (nI kd), .int (nI nw), .ref a9, .int (nI dn), .ref a11, .ref a12, .int sd, .ref a14, .ref a15, .ref a16])), (a9, .inl (cA, 8, .inl WR))] sz) [(h0, .inr (3, [.int 0, .long tr, .int pe, .ref a3, .ref a4, .ref a5, .int (nI st), .int (nI kd), .int (nI u.1), .ref a9, .int (nI dn), .ref a11, .ref a12, .int sd, .ref a14, .ref a15, .ref a16])), (a9, .inl (cA, 8, .inl u.2.2))]) (va_A [(h0, .inr (3, [.int 0, .long tr, .int pe, .ref a3, .ref a4, .ref a5, .int (nI st), .int (nI kd), .int (nI nw), .ref a9, .int (nI dn), .ref a11, .ref a12, .int sd, .ref a14, .ref a15, .ref a16])), (a9, .inl (cA, 8, .inl WR))] sz)) 0 0 (va_A [(h0, .inr (3, [.int 0, .long tr, .int pe, .ref a3, .ref a4, .ref a5, .int (nI st), .int (nI kd), .int (nI nw), .ref a9, .int (nI dn), .ref a11, .ref a12, .int sd, .ref a14, .ref a15, .ref a16])), (a9, .inl (cA, 8, .inl WR))] sz) := by
  refine Met.ofW (cc := cX3_words) (maxL := 8) (ret := (some .int)) (by decide) rfl ?_
  intro p e s m args below meth c s₁ B hml hv
  obtain ⟨rfl, hsz, hP, hK, hD0⟩ := hv
  have hx := B.exec
  have hb := B.bytes
  have hr := B.returns
  have hts := atoms_spec (ws := wsX3_words) B.pre
  have hown : s.vm.findClass RX3 = some m.cls := findClass_of_methodNamed B.named
  have hlocks := B.notSynchronized
  subst hsz
  have hD := hD0.self (sz := s.heap.size)
  generalize hAe : va_A [(h0, .inr (3, [.int 0, .long tr, .int pe, .ref a3, .ref a4, .ref a5, .int (nI st), .int (nI kd), .int (nI nw), .ref a9, .int (nI dn), .ref a11, .ref a12, .int sd, .ref a14, .ref a15, .ref a16])), (a9, .inl (cA, 8, .inl WR))] s.heap.size = A at hD ⊢
  have hA : ∀ q : Nat, s.heap.size ≤ q → A q := fun q h => by rw [← hAe]; exact Or.inr h
  have hS : va_S A s.heap s.heap [] := va_S.rf
  have hP : va_P (dC, dI) vwCl [(h0, .inr (3, [.int 0, .long tr, .int pe, .ref a3, .ref a4, .ref a5, .int (nI st), .int (nI kd), .int (nI nw), .ref a9, .int (nI dn), .ref a11, .ref a12, .int sd, .ref a14, .ref a15, .ref a16])), (a9, .inl (cA, 8, .inl WR))] s.heap := hP
  have hl := lv_entry ([.ref h0, .int n, .int a, .int b, .int c0, .int d, .int (zb tw)]) (n := 8) (Nat.le_of_ble_eq_true rfl)
  rw [lg_entry_eq]
  generalize (lg_sl ([.ref h0, .int n, .int a, .int b, .int c0, .int d, .int (zb tw)]) ++ List.replicate (8 - (lg_sl ([.ref h0, .int n, .int a, .int b, .int c0, .int d, .int (zb tw)])).length) Slot.unset).toArray = ls at hl ⊢
  have hl : lv_has ls 8 [(0, .ref h0), (1, .int n), (2, .int a), (3, .int b), (4, .int c0), (5, .int d), (6, .int (zb tw))] := hl
  refine lv_aload_n hx hb dX3_words_0 rfl (lv_at hl 0 rfl) ?_
  refine lv_iconst (v := 0) hx hb dX3_words_1 (by decide) ?_
  refine va_put (D := (dC, dI)) (ci := 3) (v := .int 0) (ty := .int) (C := RX3) (T := TX3) (N := 17) hx hb hts (by decide +kernel) tyX3 tyX3_ok nmX3 hown hK hP hD hS 0 rfl rfl 0 (by decide) (hts (.fieldLink RX3 51 "CountedOutModel" "thrown" "I") (by decide +kernel)) (fun _ h9 => h9) rfl (by decide +kernel) rfl rfl (Nat.le_of_ble_eq_true rfl) dX3_words_2 (fun H locs hP hD hS => ?_)
  have hP : va_P (dC, dI) vwCl [(h0, .inr (3, [.int 0, .long tr, .int pe, .ref a3, .ref a4, .ref a5, .int (nI st), .int (nI kd), .int (nI nw), .ref a9, .int (nI dn), .ref a11, .ref a12, .int sd, .ref a14, .ref a15, .ref a16])), (a9, .inl (cA, 8, .inl WR))] H := hP
  have hD : va_D A [(h0, .inr (3, [.int 0, .long tr, .int pe, .ref a3, .ref a4, .ref a5, .int (nI st), .int (nI kd), .int (nI nw), .ref a9, .int (nI dn), .ref a11, .ref a12, .int sd, .ref a14, .ref a15, .ref a16])), (a9, .inl (cA, 8, .inl WR))] := hD
  refine lv_iload_n hx hb dX3_words_5 rfl (lv_at hl 1 rfl) ?_
  refine lv_i2l (v := n.toInt64) hx hb dX3_words_6 rfl ?_
  refine lv_lconst (v := 1) hx hb dX3_words_7 (by decide) ?_
  refine lv_ldc2 (v := 4) hx hb hown (hts (.constantLong RX3 105 (4)) (by decide +kernel)) dX3_words_8 ?_
  refine vp_callSi (va_Run.run (va_runS (As := [.long n.toInt64, .long 1, .long 4]) (rest := []) ⟨hx, hb, hml, hown, hts⟩ (c_X3_in l dC dI n.toInt64 1 4) (va_cwS 3 hts gX3_words_X3_in rfl rfl rfl (by decide +kernel) ⟨Nat.le_of_ble_eq_true rfl, Nat.le_of_ble_eq_true rfl⟩) ⟨fun a U g mk q => ⟨q.1, trivial⟩, fun U hU hW => ⟨rfl, trivial⟩⟩ rfl rfl hl.1 rfl (lv_room (Nat.le_of_ble_eq_true rfl)) dX3_words_11 ⟨Nat.zero_le _, Nat.zero_le _⟩)) (fun r_11 hr_11 => ?_)
  obtain rfl : r_11 = zb (wi n.toInt 1 4) := hr_11.trans (by rw [i2l_toInt]; rfl)
  refine lv_if_eq (tgt := 62) hx hb dX3_words_14 (by decide) (fun c_14 => ?_) (fun c_14 => ?_)
  · have c_14 := zb_0.mp c_14
    refine lv_iconst (v := (-1)) hx hb dX3_words_62 (by decide) ?_
    have hP9 := hP.sub (ws' := [(h0, .inr (3, [.int 0, .long tr, .int pe, .ref a3, .ref a4, .ref a5, .int (nI st), .int (nI kd), .int (nI nw), .ref a9, .int (nI dn), .ref a11, .ref a12, .int sd, .ref a14, .ref a15, .ref a16])), (a9, .inl (cA, 8, .inl WR))]) [0, 1] rfl
    have hD9 := hD.sub (ws' := [(h0, .inr (3, [.int 0, .long tr, .int pe, .ref a3, .ref a4, .ref a5, .int (nI st), .int (nI kd), .int (nI nw), .ref a9, .int (nI dn), .ref a11, .ref a12, .int sd, .ref a14, .ref a15, .ref a16])), (a9, .inl (cA, 8, .inl WR))]) [0, 1] (by decide) rfl
    exact W.iret (v := (-1)) hx hb hr (fun t ht hW => ⟨⟨_, (nw, wd, WR), rfl, ⟨Eq.symm (spWords_bad (by unfold okWs; first | (rw [c_14, c_21, hv_36, hv_49, decide_eq_false c_51, c_59]; rfl) | (rw [c_14, c_21, hv_36, decide_eq_false c_38, c_46]; rfl) | (rw [c_14, c_21, decide_eq_false c_26, c_33]; rfl) | (rw [c_14, c_21]; rfl) | (rw [c_14]; rfl))), hCR⟩, ⟨by rw [ht]; exact hP9, va_K.moved hW.alike hK, hD9⟩⟩, hS.F ht⟩) hS.2.2 dX3_words_63
  · have c_14 := zb_n.mp c_14
    refine lv_iload_n hx hb dX3_words_17 rfl (lv_at hl 2 rfl) ?_
    refine vp_callSi (va_Run.run (va_runS (As := [.int a]) (rest := []) ⟨hx, hb, hml, hown, hts⟩ (c_X3_isWord l dC dI a) (va_cwS 1 hts gX3_words_X3_isWord rfl rfl rfl (by decide +kernel) ⟨Nat.le_of_ble_eq_true rfl, Nat.le_of_ble_eq_true rfl⟩) ⟨fun a U g mk q => ⟨q.1, trivial⟩, fun U hU hW => ⟨rfl, trivial⟩⟩ rfl rfl hl.1 rfl (lv_room (Nat.le_of_ble_eq_true rfl)) dX3_words_18 ⟨Nat.zero_le _, Nat.zero_le _⟩)) (fun r_18 hr_18 => ?_)
    subst hr_18
    refine lv_if_eq (tgt := 62) hx hb dX3_words_21 (by decide) (fun c_21 => ?_) (fun c_21 => ?_)
    · have c_21 := zb_0.mp c_21
      refine lv_iconst (v := (-1)) hx hb dX3_words_62 (by decide) ?_
      have hP9 := hP.sub (ws' := [(h0, .inr (3, [.int 0, .long tr, .int pe, .ref a3, .ref a4, .ref a5, .int (nI st), .int (nI kd), .int (nI nw), .ref a9, .int (nI dn), .ref a11, .ref a12, .int sd, .ref a14, .ref a15, .ref a16])), (a9, .inl (cA, 8, .inl WR))]) [0, 1] rfl
      have hD9 := hD.sub (ws' := [(h0, .inr (3, [.int 0, .long tr, .int pe, .ref a3, .ref a4, .ref a5, .int (nI st), .int (nI kd), .int (nI nw), .ref a9, .int (nI dn), .ref a11, .ref a12, .int sd, .ref a14, .ref a15, .ref a16])), (a9, .inl (cA, 8, .inl WR))]) [0, 1] (by decide) rfl
      exact W.iret (v := (-1)) hx hb hr (fun t ht hW => ⟨⟨_, (nw, wd, WR), rfl, ⟨Eq.symm (spWords_bad (by unfold okWs; first | (rw [c_14, c_21, hv_36, hv_49, decide_eq_false c_51, c_59]; rfl) | (rw [c_14, c_21, hv_36, decide_eq_false c_38, c_46]; rfl) | (rw [c_14, c_21, decide_eq_false c_26, c_33]; rfl) | (rw [c_14, c_21]; rfl) | (rw [c_14]; rfl))), hCR⟩, ⟨by rw [ht]; exact hP9, va_K.moved hW.alike hK, hD9⟩⟩, hS.F ht⟩) hS.2.2 dX3_words_63
    · have c_21 := zb_n.mp c_21
      refine W_join (α := Unit) (pc' := 36) (ls' := ls) (st' := fun _ => []) (Pj := fun _ => (decide (n.toInt ≤ 1) || okW b) = true) (fun J_36 => ?_) (fun _ hv_36 => ?_)
      · refine lv_iload_n hx hb dX3_words_24 rfl (lv_at hl 1 rfl) ?_
        refine lv_iconst (v := 1) hx hb dX3_words_25 (by decide) ?_
        refine lv_icmp_le (tgt := 36) hx hb dX3_words_26 (by decide) (fun c_26 => ?_) (fun c_26 => ?_)
        · have c_26 : n.toInt ≤ 1 := (le32 _ _).mp c_26
          exact J_36 () (by first | (rw [decide_eq_true c_26]; rfl) | (rw [c_33, Bool.or_true]))
        · have c_26 : ¬ n.toInt ≤ 1 := fun h => c_26 ((le32 n 1).mpr h)
          refine lv_iload_n hx hb dX3_words_29 rfl (lv_at hl 3 rfl) ?_
          refine vp_callSi (va_Run.run (va_runS (As := [.int b]) (rest := []) ⟨hx, hb, hml, hown, hts⟩ (c_X3_isWord l dC dI b) (va_cwS 1 hts gX3_words_X3_isWord rfl rfl rfl (by decide +kernel) ⟨Nat.le_of_ble_eq_true rfl, Nat.le_of_ble_eq_true rfl⟩) ⟨fun a U g mk q => ⟨q.1, trivial⟩, fun U hU hW => ⟨rfl, trivial⟩⟩ rfl rfl hl.1 rfl (lv_room (Nat.le_of_ble_eq_true rfl)) dX3_words_30 ⟨Nat.zero_le _, Nat.zero_le _⟩)) (fun r_30 hr_30 => ?_)
          subst hr_30
          refine lv_if_eq (tgt := 62) hx hb dX3_words_33 (by decide) (fun c_33 => ?_) (fun c_33 => ?_)
          · have c_33 := zb_0.mp c_33
            refine lv_iconst (v := (-1)) hx hb dX3_words_62 (by decide) ?_
            have hP9 := hP.sub (ws' := [(h0, .inr (3, [.int 0, .long tr, .int pe, .ref a3, .ref a4, .ref a5, .int (nI st), .int (nI kd), .int (nI nw), .ref a9, .int (nI dn), .ref a11, .ref a12, .int sd, .ref a14, .ref a15, .ref a16])), (a9, .inl (cA, 8, .inl WR))]) [0, 1] rfl
            have hD9 := hD.sub (ws' := [(h0, .inr (3, [.int 0, .long tr, .int pe, .ref a3, .ref a4, .ref a5, .int (nI st), .int (nI kd), .int (nI nw), .ref a9, .int (nI dn), .ref a11, .ref a12, .int sd, .ref a14, .ref a15, .ref a16])), (a9, .inl (cA, 8, .inl WR))]) [0, 1] (by decide) rfl
            exact W.iret (v := (-1)) hx hb hr (fun t ht hW => ⟨⟨_, (nw, wd, WR), rfl, ⟨Eq.symm (spWords_bad (by unfold okWs; first | (rw [c_14, c_21, hv_36, hv_49, decide_eq_false c_51, c_59]; rfl) | (rw [c_14, c_21, hv_36, decide_eq_false c_38, c_46]; rfl) | (rw [c_14, c_21, decide_eq_false c_26, c_33]; rfl) | (rw [c_14, c_21]; rfl) | (rw [c_14]; rfl))), hCR⟩, ⟨by rw [ht]; exact hP9, va_K.moved hW.alike hK, hD9⟩⟩, hS.F ht⟩) hS.2.2 dX3_words_63
          · have c_33 := zb_n.mp c_33
            exact J_36 () (by first | (rw [decide_eq_true c_26]; rfl) | (rw [c_33, Bool.or_true]))
      refine W_join (α := Unit) (pc' := 49) (ls' := ls) (st' := fun _ => []) (Pj := fun _ => (decide (n.toInt ≤ 2) || okW c0) = true) (fun J_49 => ?_) (fun _ hv_49 => ?_)
      · refine lv_iload_n hx hb dX3_words_36 rfl (lv_at hl 1 rfl) ?_
        refine lv_iconst (v := 2) hx hb dX3_words_37 (by decide) ?_
        refine lv_icmp_le (tgt := 49) hx hb dX3_words_38 (by decide) (fun c_38 => ?_) (fun c_38 => ?_)
        · have c_38 : n.toInt ≤ 2 := (le32 _ _).mp c_38
          exact J_49 () (by first | (rw [decide_eq_true c_38]; rfl) | (rw [c_46, Bool.or_true]))
        · have c_38 : ¬ n.toInt ≤ 2 := fun h => c_38 ((le32 n 2).mpr h)
          refine lv_iload hx hb dX3_words_41 (lv_at hl 4 rfl) ?_
          refine vp_callSi (va_Run.run (va_runS (As := [.int c0]) (rest := []) ⟨hx, hb, hml, hown, hts⟩ (c_X3_isWord l dC dI c0) (va_cwS 1 hts gX3_words_X3_isWord rfl rfl rfl (by decide +kernel) ⟨Nat.le_of_ble_eq_true rfl, Nat.le_of_ble_eq_true rfl⟩) ⟨fun a U g mk q => ⟨q.1, trivial⟩, fun U hU hW => ⟨rfl, trivial⟩⟩ rfl rfl hl.1 rfl (lv_room (Nat.le_of_ble_eq_true rfl)) dX3_words_43 ⟨Nat.zero_le _, Nat.zero_le _⟩)) (fun r_43 hr_43 => ?_)
          subst hr_43
          refine lv_if_eq (tgt := 62) hx hb dX3_words_46 (by decide) (fun c_46 => ?_) (fun c_46 => ?_)
          · have c_46 := zb_0.mp c_46
            refine lv_iconst (v := (-1)) hx hb dX3_words_62 (by decide) ?_
            have hP9 := hP.sub (ws' := [(h0, .inr (3, [.int 0, .long tr, .int pe, .ref a3, .ref a4, .ref a5, .int (nI st), .int (nI kd), .int (nI nw), .ref a9, .int (nI dn), .ref a11, .ref a12, .int sd, .ref a14, .ref a15, .ref a16])), (a9, .inl (cA, 8, .inl WR))]) [0, 1] rfl
            have hD9 := hD.sub (ws' := [(h0, .inr (3, [.int 0, .long tr, .int pe, .ref a3, .ref a4, .ref a5, .int (nI st), .int (nI kd), .int (nI nw), .ref a9, .int (nI dn), .ref a11, .ref a12, .int sd, .ref a14, .ref a15, .ref a16])), (a9, .inl (cA, 8, .inl WR))]) [0, 1] (by decide) rfl
            exact W.iret (v := (-1)) hx hb hr (fun t ht hW => ⟨⟨_, (nw, wd, WR), rfl, ⟨Eq.symm (spWords_bad (by unfold okWs; first | (rw [c_14, c_21, hv_36, hv_49, decide_eq_false c_51, c_59]; rfl) | (rw [c_14, c_21, hv_36, decide_eq_false c_38, c_46]; rfl) | (rw [c_14, c_21, decide_eq_false c_26, c_33]; rfl) | (rw [c_14, c_21]; rfl) | (rw [c_14]; rfl))), hCR⟩, ⟨by rw [ht]; exact hP9, va_K.moved hW.alike hK, hD9⟩⟩, hS.F ht⟩) hS.2.2 dX3_words_63
          · have c_46 := zb_n.mp c_46
            exact J_49 () (by first | (rw [decide_eq_true c_38]; rfl) | (rw [c_46, Bool.or_true]))
      refine W_join (α := Unit) (pc' := 64) (ls' := ls) (st' := fun _ => []) (Pj := fun _ => (decide (n.toInt ≤ 3) || okW d) = true) (fun J_64 => ?_) (fun _ hv_64 => ?_)
      · refine lv_iload_n hx hb dX3_words_49 rfl (lv_at hl 1 rfl) ?_
        refine lv_iconst (v := 3) hx hb dX3_words_50 (by decide) ?_
        refine lv_icmp_le (tgt := 64) hx hb dX3_words_51 (by decide) (fun c_51 => ?_) (fun c_51 => ?_)
        · have c_51 : n.toInt ≤ 3 := (le32 _ _).mp c_51
          exact J_64 () (by first | (rw [decide_eq_true c_51]; rfl) | (rw [c_59, Bool.or_true]))
        · have c_51 : ¬ n.toInt ≤ 3 := fun h => c_51 ((le32 n 3).mpr h)
          refine lv_iload hx hb dX3_words_54 (lv_at hl 5 rfl) ?_
          refine vp_callSi (va_Run.run (va_runS (As := [.int d]) (rest := []) ⟨hx, hb, hml, hown, hts⟩ (c_X3_isWord l dC dI d) (va_cwS 1 hts gX3_words_X3_isWord rfl rfl rfl (by decide +kernel) ⟨Nat.le_of_ble_eq_true rfl, Nat.le_of_ble_eq_true rfl⟩) ⟨fun a U g mk q => ⟨q.1, trivial⟩, fun U hU hW => ⟨rfl, trivial⟩⟩ rfl rfl hl.1 rfl (lv_room (Nat.le_of_ble_eq_true rfl)) dX3_words_56 ⟨Nat.zero_le _, Nat.zero_le _⟩)) (fun r_56 hr_56 => ?_)
          subst hr_56
          refine lv_if_ne (tgt := 64) hx hb dX3_words_59 (by decide) (fun c_59 => ?_) (fun c_59 => ?_)
          · have c_59 := zb_n.mp c_59
            exact J_64 () (by first | (rw [decide_eq_true c_51]; rfl) | (rw [c_59, Bool.or_true]))
          · have c_59 := zb_0.mp c_59
            refine lv_iconst (v := (-1)) hx hb dX3_words_62 (by decide) ?_
            have hP9 := hP.sub (ws' := [(h0, .inr (3, [.int 0, .long tr, .int pe, .ref a3, .ref a4, .ref a5, .int (nI st), .int (nI kd), .int (nI nw), .ref a9, .int (nI dn), .ref a11, .ref a12, .int sd, .ref a14, .ref a15, .ref a16])), (a9, .inl (cA, 8, .inl WR))]) [0, 1] rfl
            have hD9 := hD.sub (ws' := [(h0, .inr (3, [.int 0, .long tr, .int pe, .ref a3, .ref a4, .ref a5, .int (nI st), .int (nI kd), .int (nI nw), .ref a9, .int (nI dn), .ref a11, .ref a12, .int sd, .ref a14, .ref a15, .ref a16])), (a9, .inl (cA, 8, .inl WR))]) [0, 1] (by decide) rfl
            exact W.iret (v := (-1)) hx hb hr (fun t ht hW => ⟨⟨_, (nw, wd, WR), rfl, ⟨Eq.symm (spWords_bad (by unfold okWs; first | (rw [c_14, c_21, hv_36, hv_49, decide_eq_false c_51, c_59]; rfl) | (rw [c_14, c_21, hv_36, decide_eq_false c_38, c_46]; rfl) | (rw [c_14, c_21, decide_eq_false c_26, c_33]; rfl) | (rw [c_14, c_21]; rfl) | (rw [c_14]; rfl))), hCR⟩, ⟨by rw [ht]; exact hP9, va_K.moved hW.alike hK, hD9⟩⟩, hS.F ht⟩) hS.2.2 dX3_words_63
      have hok : okWs n a b c0 d = true := by unfold okWs; rw [c_14, c_21, hv_36, hv_49, hv_64]; rfl
      refine lv_aload_n hx hb dX3_words_64 rfl (lv_at hl 0 rfl) ?_
      refine va_get (D := (dC, dI)) (ci := 3) (v := .int (nI dn)) (C := RX3) (T := TX3) (N := 17) hx hb hts (by decide +kernel) hown hK hP 0 rfl rfl 10 (by decide) (hts (.fieldLink RX3 86 "CountedOutModel" "turns" "I") (by decide +kernel)) (fun _ h9 => h9) rfl dX3_words_65 ?_
      refine lv_if_le (tgt := 74) hx hb dX3_words_68 (by decide) (fun c_68 => ?_) (fun c_68 => ?_)
      · have c_68 : dn ≤ 0 := (nI_leI (a := dn) (b := 0) (by omega) (by omega)).mp c_68
        obtain rfl : dn = 0 := by omega
        obtain ⟨n1, hn1, hn4, rfl⟩ := nI_wi (a := 1) (b := 4) c_14
        refine lv_aload_n hx hb dX3_words_74 rfl (lv_at hl 0 rfl) ?_
        refine va_get (D := (dC, dI)) (ci := 3) (v := .ref a9) (C := RX3) (T := TX3) (N := 17) hx hb hts (by decide +kernel) hown hK hP 0 rfl rfl 9 (by decide) (hts (.fieldLink RX3 29 "CountedOutModel" "word" "[I") (by decide +kernel)) (fun _ h9 => h9) rfl dX3_words_75 ?_
        refine lv_iconst (v := 0) hx hb dX3_words_78 (by decide) ?_
        refine lv_iload_n hx hb dX3_words_79 rfl (lv_at hl 2 rfl) ?_
        refine z_iast hx hb hK hP hD hS 1 0 rfl rfl (i := 0) (by decide) (by decide) dX3_words_80 (fun H locs hP hD hS => ?_)
        have hP : va_P (dC, dI) vwCl [(h0, .inr (3, [.int 0, .long tr, .int pe, .ref a3, .ref a4, .ref a5, .int (nI st), .int (nI kd), .int (nI nw), .ref a9, .int (nI 0), .ref a11, .ref a12, .int sd, .ref a14, .ref a15, .ref a16])), (a9, .inl (cA, 8, .inl (upd WR 0 a)))] H := hP
        have hD : va_D A [(h0, .inr (3, [.int 0, .long tr, .int pe, .ref a3, .ref a4, .ref a5, .int (nI st), .int (nI kd), .int (nI nw), .ref a9, .int (nI 0), .ref a11, .ref a12, .int sd, .ref a14, .ref a15, .ref a16])), (a9, .inl (cA, 8, .inl (upd WR 0 a)))] := hD
        refine lv_aload_n hx hb dX3_words_81 rfl (lv_at hl 0 rfl) ?_
        refine va_get (D := (dC, dI)) (ci := 3) (v := .ref a9) (C := RX3) (T := TX3) (N := 17) hx hb hts (by decide +kernel) hown hK hP 0 rfl rfl 9 (by decide) (hts (.fieldLink RX3 29 "CountedOutModel" "word" "[I") (by decide +kernel)) (fun _ h9 => h9) rfl dX3_words_82 ?_
        refine lv_iconst (v := 1) hx hb dX3_words_85 (by decide) ?_
        refine W_join (α := Int32) (pc' := 96) (ls' := ls) (st' := fun vj => [.int vj, .int 1, .ref a9]) (Pj := fun vj => vj = (if n1 ≤ 1 then 0 else b)) (fun J_96 => ?_) (fun v_96 hv_96 => ?_)
        · refine lv_iload_n hx hb dX3_words_86 rfl (lv_at hl 1 rfl) ?_
          refine lv_iconst (v := 1) hx hb dX3_words_87 (by decide) ?_
          refine lv_icmp_le (tgt := 95) hx hb dX3_words_88 (by decide) (fun c_88 => ?_) (fun c_88 => ?_)
          · have c_88 : n1 ≤ 1 := (nI_leI (b := 1) (by omega) (by omega)).mp c_88
            refine lv_iconst (v := 0) hx hb dX3_words_95 (by decide) ?_
            exact J_96 _ (by first | (rw [if_pos c_88]) | (rw [if_neg c_88]))
          · have c_88 : ¬ n1 ≤ 1 := fun h => c_88 ((nI_leI (b := 1) (by omega) (by omega)).mpr h)
            refine lv_iload_n hx hb dX3_words_91 rfl (lv_at hl 3 rfl) ?_
            refine lv_goto (tgt := 96) hx hb dX3_words_92 (by decide) ?_
            exact J_96 _ (by first | (rw [if_pos c_88]) | (rw [if_neg c_88]))
        subst hv_96
        refine z_iast hx hb hK hP hD hS 1 0 rfl rfl (i := 1) (by decide) (by decide) dX3_words_96 (fun H locs hP hD hS => ?_)
        have hP : va_P (dC, dI) vwCl [(h0, .inr (3, [.int 0, .long tr, .int pe, .ref a3, .ref a4, .ref a5, .int (nI st), .int (nI kd), .int (nI nw), .ref a9, .int (nI 0), .ref a11, .ref a12, .int sd, .ref a14, .ref a15, .ref a16])), (a9, .inl (cA, 8, .inl (upd (upd WR 0 a) 1 (if n1 ≤ 1 then 0 else b))))] H := hP
        have hD : va_D A [(h0, .inr (3, [.int 0, .long tr, .int pe, .ref a3, .ref a4, .ref a5, .int (nI st), .int (nI kd), .int (nI nw), .ref a9, .int (nI 0), .ref a11, .ref a12, .int sd, .ref a14, .ref a15, .ref a16])), (a9, .inl (cA, 8, .inl (upd (upd WR 0 a) 1 (if n1 ≤ 1 then 0 else b))))] := hD
        refine lv_aload_n hx hb dX3_words_97 rfl (lv_at hl 0 rfl) ?_
        refine va_get (D := (dC, dI)) (ci := 3) (v := .ref a9) (C := RX3) (T := TX3) (N := 17) hx hb hts (by decide +kernel) hown hK hP 0 rfl rfl 9 (by decide) (hts (.fieldLink RX3 29 "CountedOutModel" "word" "[I") (by decide +kernel)) (fun _ h9 => h9) rfl dX3_words_98 ?_
        refine lv_iconst (v := 2) hx hb dX3_words_101 (by decide) ?_
        refine W_join (α := Int32) (pc' := 113) (ls' := ls) (st' := fun vj => [.int vj, .int 2, .ref a9]) (Pj := fun vj => vj = (if n1 ≤ 2 then 0 else c0)) (fun J_113 => ?_) (fun v_113 hv_113 => ?_)
        · refine lv_iload_n hx hb dX3_words_102 rfl (lv_at hl 1 rfl) ?_
          refine lv_iconst (v := 2) hx hb dX3_words_103 (by decide) ?_
          refine lv_icmp_le (tgt := 112) hx hb dX3_words_104 (by decide) (fun c_104 => ?_) (fun c_104 => ?_)
          · have c_104 : n1 ≤ 2 := (nI_leI (b := 2) (by omega) (by omega)).mp c_104
            refine lv_iconst (v := 0) hx hb dX3_words_112 (by decide) ?_
            exact J_113 _ (by first | (rw [if_pos c_104]) | (rw [if_neg c_104]))
          · have c_104 : ¬ n1 ≤ 2 := fun h => c_104 ((nI_leI (b := 2) (by omega) (by omega)).mpr h)
            refine lv_iload hx hb dX3_words_107 (lv_at hl 4 rfl) ?_
            refine lv_goto (tgt := 113) hx hb dX3_words_109 (by decide) ?_
            exact J_113 _ (by first | (rw [if_pos c_104]) | (rw [if_neg c_104]))
        subst hv_113
        refine z_iast hx hb hK hP hD hS 1 0 rfl rfl (i := 2) (by decide) (by decide) dX3_words_113 (fun H locs hP hD hS => ?_)
        have hP : va_P (dC, dI) vwCl [(h0, .inr (3, [.int 0, .long tr, .int pe, .ref a3, .ref a4, .ref a5, .int (nI st), .int (nI kd), .int (nI nw), .ref a9, .int (nI 0), .ref a11, .ref a12, .int sd, .ref a14, .ref a15, .ref a16])), (a9, .inl (cA, 8, .inl (upd (upd (upd WR 0 a) 1 (if n1 ≤ 1 then 0 else b)) 2 (if n1 ≤ 2 then 0 else c0))))] H := hP
        have hD : va_D A [(h0, .inr (3, [.int 0, .long tr, .int pe, .ref a3, .ref a4, .ref a5, .int (nI st), .int (nI kd), .int (nI nw), .ref a9, .int (nI 0), .ref a11, .ref a12, .int sd, .ref a14, .ref a15, .ref a16])), (a9, .inl (cA, 8, .inl (upd (upd (upd WR 0 a) 1 (if n1 ≤ 1 then 0 else b)) 2 (if n1 ≤ 2 then 0 else c0))))] := hD
        refine lv_aload_n hx hb dX3_words_114 rfl (lv_at hl 0 rfl) ?_
        refine va_get (D := (dC, dI)) (ci := 3) (v := .ref a9) (C := RX3) (T := TX3) (N := 17) hx hb hts (by decide +kernel) hown hK hP 0 rfl rfl 9 (by decide) (hts (.fieldLink RX3 29 "CountedOutModel" "word" "[I") (by decide +kernel)) (fun _ h9 => h9) rfl dX3_words_115 ?_
        refine lv_iconst (v := 3) hx hb dX3_words_118 (by decide) ?_
        refine W_join (α := Int32) (pc' := 130) (ls' := ls) (st' := fun vj => [.int vj, .int 3, .ref a9]) (Pj := fun vj => vj = (if n1 ≤ 3 then 0 else d)) (fun J_130 => ?_) (fun v_130 hv_130 => ?_)
        · refine lv_iload_n hx hb dX3_words_119 rfl (lv_at hl 1 rfl) ?_
          refine lv_iconst (v := 3) hx hb dX3_words_120 (by decide) ?_
          refine lv_icmp_le (tgt := 129) hx hb dX3_words_121 (by decide) (fun c_121 => ?_) (fun c_121 => ?_)
          · have c_121 : n1 ≤ 3 := (nI_leI (b := 3) (by omega) (by omega)).mp c_121
            refine lv_iconst (v := 0) hx hb dX3_words_129 (by decide) ?_
            exact J_130 _ (by first | (rw [if_pos c_121]) | (rw [if_neg c_121]))
          · have c_121 : ¬ n1 ≤ 3 := fun h => c_121 ((nI_leI (b := 3) (by omega) (by omega)).mpr h)
            refine lv_iload hx hb dX3_words_124 (lv_at hl 5 rfl) ?_
            refine lv_goto (tgt := 130) hx hb dX3_words_126 (by decide) ?_
            exact J_130 _ (by first | (rw [if_pos c_121]) | (rw [if_neg c_121]))
        subst hv_130
        refine z_iast hx hb hK hP hD hS 1 0 rfl rfl (i := 3) (by decide) (by decide) dX3_words_130 (fun H locs hP hD hS => ?_)
        have hP : va_P (dC, dI) vwCl [(h0, .inr (3, [.int 0, .long tr, .int pe, .ref a3, .ref a4, .ref a5, .int (nI st), .int (nI kd), .int (nI nw), .ref a9, .int (nI 0), .ref a11, .ref a12, .int sd, .ref a14, .ref a15, .ref a16])), (a9, .inl (cA, 8, .inl (upd (upd (upd (upd WR 0 a) 1 (if n1 ≤ 1 then 0 else b)) 2 (if n1 ≤ 2 then 0 else c0)) 3 (if n1 ≤ 3 then 0 else d))))] H := hP
        have hD : va_D A [(h0, .inr (3, [.int 0, .long tr, .int pe, .ref a3, .ref a4, .ref a5, .int (nI st), .int (nI kd), .int (nI nw), .ref a9, .int (nI 0), .ref a11, .ref a12, .int sd, .ref a14, .ref a15, .ref a16])), (a9, .inl (cA, 8, .inl (upd (upd (upd (upd WR 0 a) 1 (if n1 ≤ 1 then 0 else b)) 2 (if n1 ≤ 2 then 0 else c0)) 3 (if n1 ≤ 3 then 0 else d))))] := hD
        refine lv_aload_n hx hb dX3_words_131 rfl (lv_at hl 0 rfl) ?_
        refine lv_iload_n hx hb dX3_words_132 rfl (lv_at hl 1 rfl) ?_
        refine va_put (D := (dC, dI)) (ci := 3) (v := .int (nI n1)) (ty := .int) (C := RX3) (T := TX3) (N := 17) hx hb hts (by decide +kernel) tyX3 tyX3_ok nmX3 hown hK hP hD hS 0 rfl rfl 8 (by decide) (hts (.fieldLink RX3 26 "CountedOutModel" "words" "I") (by decide +kernel)) (fun _ h9 => h9) rfl (by decide +kernel) rfl rfl (Nat.le_of_ble_eq_true rfl) dX3_words_133 (fun H locs hP hD hS => ?_)
        have hP : va_P (dC, dI) vwCl [(h0, .inr (3, [.int 0, .long tr, .int pe, .ref a3, .ref a4, .ref a5, .int (nI st), .int (nI kd), .int (nI n1), .ref a9, .int (nI 0), .ref a11, .ref a12, .int sd, .ref a14, .ref a15, .ref a16])), (a9, .inl (cA, 8, .inl (upd (upd (upd (upd WR 0 a) 1 (if n1 ≤ 1 then 0 else b)) 2 (if n1 ≤ 2 then 0 else c0)) 3 (if n1 ≤ 3 then 0 else d))))] H := hP
        have hD : va_D A [(h0, .inr (3, [.int 0, .long tr, .int pe, .ref a3, .ref a4, .ref a5, .int (nI st), .int (nI kd), .int (nI n1), .ref a9, .int (nI 0), .ref a11, .ref a12, .int sd, .ref a14, .ref a15, .ref a16])), (a9, .inl (cA, 8, .inl (upd (upd (upd (upd WR 0 a) 1 (if n1 ≤ 1 then 0 else b)) 2 (if n1 ≤ 2 then 0 else c0)) 3 (if n1 ≤ 3 then 0 else d))))] := hD
        refine lv_iload_n hx hb dX3_words_136 rfl (lv_at hl 1 rfl) ?_
        refine lv_iconst (v := 1) hx hb dX3_words_137 (by decide) ?_
        refine lv_isub hx hb dX3_words_138 ?_
        refine lv_istore (lv' := [(7, .int ((nI n1) - 1)), (0, .ref h0), (1, .int (nI n1)), (2, .int a), (3, .int b), (4, .int c0), (5, .int d), (6, .int (zb tw))]) hx hb dX3_words_139 hl (by decide) rfl (fun ls hl => ?_)
        refine W_loop (σ := Nat × Nat × (Nat → Int32)) (fun xx ls H locs => match xx with | (r, k, V) => lv_has ls 8 [(0, .ref h0), (6, .int (zb tw)), (7, .int (nI r - 1))] ∧ va_P (dC, dI) vwCl [(h0, .inr (3, [.int 0, .long tr, .int pe, .ref a3, .ref a4, .ref a5, .int (nI st), .int (nI kd), .int (nI k), .ref a9, .int (nI 0), .ref a11, .ref a12, .int sd, .ref a14, .ref a15, .ref a16])), (a9, .inl (cA, 8, .inl V))] H ∧ va_D A [(h0, .inr (3, [.int 0, .long tr, .int pe, .ref a3, .ref a4, .ref a5, .int (nI st), .int (nI kd), .int (nI k), .ref a9, .int (nI 0), .ref a11, .ref a12, .int sd, .ref a14, .ref a15, .ref a16])), (a9, .inl (cA, 8, .inl V))] ∧ va_S A s.heap H locs ∧ r ≤ n1 ∧ k + r = 2 * n1 ∧ (tw = false → r = n1) ∧ (∀ i, i < k → V i = if i < n1 then (upd (upd (upd (upd WR 0 a) 1 (if n1 ≤ 1 then 0 else b)) 2 (if n1 ≤ 2 then 0 else c0)) 3 (if n1 ≤ 3 then 0 else d)) i else (upd (upd (upd (upd WR 0 a) 1 (if n1 ≤ 1 then 0 else b)) 2 (if n1 ≤ 2 then 0 else c0)) 3 (if n1 ≤ 3 then 0 else d)) (2 * n1 - 1 - i))) (fun xx => match xx with | (r, k, V) => r) ?_ (n1, n1, upd (upd (upd (upd WR 0 a) 1 (if n1 ≤ 1 then 0 else b)) 2 (if n1 ≤ 2 then 0 else c0)) 3 (if n1 ≤ 3 then 0 else d)) ⟨lv_sub hl [1, 7, 0] rfl, hP, hD, hS, Nat.le_refl _, (by omega), (fun _ => rfl), (fun i hi => by rw [if_pos hi])⟩
        rintro ⟨r, k, V⟩ ls H locs ⟨hl, hP, hD, hS, hr0, hk, htw, hV⟩ ih_141
        refine lv_iload hx hb dX3_words_141 (lv_at hl 2 rfl) ?_
        refine lv_if_lt (tgt := 183) hx hb dX3_words_143 (by decide) (fun c_143 => ?_) (fun c_143 => ?_)
        · have c_143 : r = 0 := by rcases Nat.eq_zero_or_pos r with h | h <;> first | exact h | exact absurd (by rw [show r = (r - 1) + 1 by omega, nI_pred] at c_143; exact c_143) (nI_pos (by omega))
          have htw1 : tw = true := by cases tw with | true => rfl | false => exact absurd (htw rfl) (by omega)
          subst htw1
          refine lv_aload_n hx hb dX3_words_183 rfl (lv_at hl 0 rfl) ?_
          refine va_get (D := (dC, dI)) (ci := 3) (v := .int (nI k)) (C := RX3) (T := TX3) (N := 17) hx hb hts (by decide +kernel) hown hK hP 0 rfl rfl 8 (by decide) (hts (.fieldLink RX3 26 "CountedOutModel" "words" "I") (by decide +kernel)) (fun _ h9 => h9) rfl dX3_words_184 ?_
          have hP9 := hP.sub (ws' := [(h0, .inr (3, [.int 0, .long tr, .int pe, .ref a3, .ref a4, .ref a5, .int (nI st), .int (nI kd), .int (nI k), .ref a9, .int (nI 0), .ref a11, .ref a12, .int sd, .ref a14, .ref a15, .ref a16])), (a9, .inl (cA, 8, .inl V))]) [0, 1] rfl
          have hD9 := hD.sub (ws' := [(h0, .inr (3, [.int 0, .long tr, .int pe, .ref a3, .ref a4, .ref a5, .int (nI st), .int (nI kd), .int (nI k), .ref a9, .int (nI 0), .ref a11, .ref a12, .int sd, .ref a14, .ref a15, .ref a16])), (a9, .inl (cA, 8, .inl V))]) [0, 1] (by decide) rfl
          exact W.iret (v := nI k) hx hb hr (fun t ht hW => ⟨⟨_, (k, m4 n1 a b c0 d, V), rfl, ⟨by rw [spWords_t hn4 hok, show k = 2 * n1 by omega], by rw [show k = 2 * n1 by omega] at hV ⊢; exact CR_m4 hV (w4_okm hn1 hn4 hok WR)⟩, ⟨by rw [ht]; exact hP9, va_K.moved hW.alike hK, hD9⟩⟩, hS.F ht⟩) hS.2.2 dX3_words_187
        · obtain ⟨r0, rfl⟩ : ∃ r0, r = r0 + 1 := Nat.exists_eq_succ_of_ne_zero (fun h => c_143 (by rw [h]; decide))
          rw [nI_pred] at hl
          refine lv_iload hx hb dX3_words_146 (lv_at hl 1 rfl) ?_
          refine lv_if_eq (tgt := 183) hx hb dX3_words_148 (by decide) (fun c_148 => ?_) (fun c_148 => ?_)
          · have c_148 := zb_0.mp c_148
            refine lv_aload_n hx hb dX3_words_183 rfl (lv_at hl 0 rfl) ?_
            refine va_get (D := (dC, dI)) (ci := 3) (v := .int (nI k)) (C := RX3) (T := TX3) (N := 17) hx hb hts (by decide +kernel) hown hK hP 0 rfl rfl 8 (by decide) (hts (.fieldLink RX3 26 "CountedOutModel" "words" "I") (by decide +kernel)) (fun _ h9 => h9) rfl dX3_words_184 ?_
            have hP9 := hP.sub (ws' := [(h0, .inr (3, [.int 0, .long tr, .int pe, .ref a3, .ref a4, .ref a5, .int (nI st), .int (nI kd), .int (nI k), .ref a9, .int (nI 0), .ref a11, .ref a12, .int sd, .ref a14, .ref a15, .ref a16])), (a9, .inl (cA, 8, .inl V))]) [0, 1] rfl
            have hD9 := hD.sub (ws' := [(h0, .inr (3, [.int 0, .long tr, .int pe, .ref a3, .ref a4, .ref a5, .int (nI st), .int (nI kd), .int (nI k), .ref a9, .int (nI 0), .ref a11, .ref a12, .int sd, .ref a14, .ref a15, .ref a16])), (a9, .inl (cA, 8, .inl V))]) [0, 1] (by decide) rfl
            exact W.iret (v := nI k) hx hb hr (fun t ht hW => ⟨⟨_, (k, w4 a b c0 d, V), rfl, ⟨by rw [c_148, spWords_f hn4 hok, show k = n1 by have := htw c_148; omega], fun i hi => by have h9 : k = n1 := (by have := htw c_148; omega); have hi : i < k := hi; show V i = nI (w4 a b c0 d i); rw [hV i hi, if_pos (by omega)]; exact w4_okm hn1 hn4 hok WR i (by omega)⟩, ⟨by rw [ht]; exact hP9, va_K.moved hW.alike hK, hD9⟩⟩, hS.F ht⟩) hS.2.2 dX3_words_187
          · have c_148 := zb_n.mp c_148
            refine lv_aload_n hx hb dX3_words_151 rfl (lv_at hl 0 rfl) ?_
            refine va_get (D := (dC, dI)) (ci := 3) (v := .ref a9) (C := RX3) (T := TX3) (N := 17) hx hb hts (by decide +kernel) hown hK hP 0 rfl rfl 9 (by decide) (hts (.fieldLink RX3 29 "CountedOutModel" "word" "[I") (by decide +kernel)) (fun _ h9 => h9) rfl dX3_words_152 ?_
            refine lv_aload_n hx hb dX3_words_155 rfl (lv_at hl 0 rfl) ?_
            refine va_get (D := (dC, dI)) (ci := 3) (v := .int (nI k)) (C := RX3) (T := TX3) (N := 17) hx hb hts (by decide +kernel) hown hK hP 0 rfl rfl 8 (by decide) (hts (.fieldLink RX3 26 "CountedOutModel" "words" "I") (by decide +kernel)) (fun _ h9 => h9) rfl dX3_words_156 ?_
            refine lv_aload_n hx hb dX3_words_159 rfl (lv_at hl 0 rfl) ?_
            refine va_get (D := (dC, dI)) (ci := 3) (v := .ref a9) (C := RX3) (T := TX3) (N := 17) hx hb hts (by decide +kernel) hown hK hP 0 rfl rfl 9 (by decide) (hts (.fieldLink RX3 29 "CountedOutModel" "word" "[I") (by decide +kernel)) (fun _ h9 => h9) rfl dX3_words_160 ?_
            refine lv_iload hx hb dX3_words_163 (lv_at hl 2 rfl) ?_
            refine z_iald hx hb hK hP 1 0 rfl rfl (i := r0) (by omega) (by decide) dX3_words_165 ?_
            refine z_iast hx hb hK hP hD hS 1 0 rfl rfl (i := k) (by omega) (by decide) dX3_words_166 (fun H locs hP hD hS => ?_)
            have hP : va_P (dC, dI) vwCl [(h0, .inr (3, [.int 0, .long tr, .int pe, .ref a3, .ref a4, .ref a5, .int (nI st), .int (nI kd), .int (nI k), .ref a9, .int (nI 0), .ref a11, .ref a12, .int sd, .ref a14, .ref a15, .ref a16])), (a9, .inl (cA, 8, .inl (upd V k (V r0))))] H := hP
            have hD : va_D A [(h0, .inr (3, [.int 0, .long tr, .int pe, .ref a3, .ref a4, .ref a5, .int (nI st), .int (nI kd), .int (nI k), .ref a9, .int (nI 0), .ref a11, .ref a12, .int sd, .ref a14, .ref a15, .ref a16])), (a9, .inl (cA, 8, .inl (upd V k (V r0))))] := hD
            refine lv_aload_n hx hb dX3_words_167 rfl (lv_at hl 0 rfl) ?_
            refine lv_dup hx hb dX3_words_168 rfl ?_
            refine va_get (D := (dC, dI)) (ci := 3) (v := .int (nI k)) (C := RX3) (T := TX3) (N := 17) hx hb hts (by decide +kernel) hown hK hP 0 rfl rfl 8 (by decide) (hts (.fieldLink RX3 26 "CountedOutModel" "words" "I") (by decide +kernel)) (fun _ h9 => h9) rfl dX3_words_169 ?_
            refine lv_iconst (v := 1) hx hb dX3_words_172 (by decide) ?_
            refine lv_iadd hx hb dX3_words_173 ?_
            refine z_i (y := nI (k + 1)) (nI_1 k) ?_
            refine va_put (D := (dC, dI)) (ci := 3) (v := .int (nI (k + 1))) (ty := .int) (C := RX3) (T := TX3) (N := 17) hx hb hts (by decide +kernel) tyX3 tyX3_ok nmX3 hown hK hP hD hS 0 rfl rfl 8 (by decide) (hts (.fieldLink RX3 26 "CountedOutModel" "words" "I") (by decide +kernel)) (fun _ h9 => h9) rfl (by decide +kernel) rfl rfl (Nat.le_of_ble_eq_true rfl) dX3_words_174 (fun H locs hP hD hS => ?_)
            have hP : va_P (dC, dI) vwCl [(h0, .inr (3, [.int 0, .long tr, .int pe, .ref a3, .ref a4, .ref a5, .int (nI st), .int (nI kd), .int (nI (k + 1)), .ref a9, .int (nI 0), .ref a11, .ref a12, .int sd, .ref a14, .ref a15, .ref a16])), (a9, .inl (cA, 8, .inl (upd V k (V r0))))] H := hP
            have hD : va_D A [(h0, .inr (3, [.int 0, .long tr, .int pe, .ref a3, .ref a4, .ref a5, .int (nI st), .int (nI kd), .int (nI (k + 1)), .ref a9, .int (nI 0), .ref a11, .ref a12, .int sd, .ref a14, .ref a15, .ref a16])), (a9, .inl (cA, 8, .inl (upd V k (V r0))))] := hD
            refine lv_iinc (v := nI r0 - 1) (lv' := [(7, .int (nI r0 - 1)), (0, .ref h0), (6, .int (zb tw))]) hx hb dX3_words_177 hl (k := 2) rfl (by rw [Int32.sub_eq_add_neg]; rfl) (by decide) rfl (fun ls hl => ?_)
            refine lv_goto (tgt := 141) hx hb dX3_words_180 (by decide) ?_
            exact ih_141 (r0, k + 1, upd V k (V r0)) _ _ _ (by show r0 < r0 + 1; omega) ⟨lv_sub hl [1, 2, 0] rfl, hP, hD, hS, (by omega), (by omega), (fun h => by rw [h] at c_148; cases c_148), mir_step hk hr0 hV⟩
      · have c_68 : 0 < dn := Nat.lt_of_not_le (fun h => c_68 ((nI_leI (a := dn) (b := 0) (by omega) (by omega)).mpr h))
        refine lv_bipush (v := (-2)) hx hb dX3_words_71 (by decide) ?_
        have hP9 := hP.sub (ws' := [(h0, .inr (3, [.int 0, .long tr, .int pe, .ref a3, .ref a4, .ref a5, .int (nI st), .int (nI kd), .int (nI nw), .ref a9, .int (nI dn), .ref a11, .ref a12, .int sd, .ref a14, .ref a15, .ref a16])), (a9, .inl (cA, 8, .inl WR))]) [0, 1] rfl
        have hD9 := hD.sub (ws' := [(h0, .inr (3, [.int 0, .long tr, .int pe, .ref a3, .ref a4, .ref a5, .int (nI st), .int (nI kd), .int (nI nw), .ref a9, .int (nI dn), .ref a11, .ref a12, .int sd, .ref a14, .ref a15, .ref a16])), (a9, .inl (cA, 8, .inl WR))]) [0, 1] (by decide) rfl
        exact W.iret (v := (-2)) hx hb hr (fun t ht hW => ⟨⟨_, (nw, wd, WR), rfl, ⟨(spWords_state hok c_68).symm, hCR⟩, ⟨by rw [ht]; exact hP9, va_K.moved hW.alike hK, hD9⟩⟩, hS.F ht⟩) hS.2.2 dX3_words_73

set_option maxHeartbeats 4000000 in
set_option maxRecDepth 100000 in
theorem c_X3_countOf (l : Launch) (dC : Nat → ClassId) (dI : Nat → Nat → Nat) (cA : ClassId) (h0 a3 a4 a5 a9 a11 a12 a14 a15 a16 : Nat) (tr : Int64) (st kd nw : Nat) (wd : Nat → Nat) (WR : Nat → Int32) (hCS : CS st kd nw wd) (hCR : CR nw wd WR) (t : Nat) (ht : t < 2 ^ 31) (pe tn sd : Int32) : Met l yX3_countOf wsX3_countOf ({ frames := 0, cells := 0, slots := 0, locals := 0 }) (va_Pc [.ref h0, .int (nI t)] (fun U => va_P (dC, dI) vwCl [(h0, .inr (3, [.int 0, .long tr, .int pe, .ref a3, .ref a4, .ref a5, .int (nI st), .int (nI kd), .int (nI nw), .ref a9, .int tn, .ref a11, .ref a12, .int sd, .ref a14, .ref a15, .ref a16])), (a9, .inl (cA, 8, .inl WR))] U.heap ∧ va_K (dC, dI) vwCl [(cA, .int)] U)) (vp_Si (fun r => r = cI (cNeg kd t) (cK st kd nw wd t))) 0 0 (fun _ => False) := by
  refine Met.ofW (cc := cX3_countOf) (maxL := 3) (ret := (some .int)) (by decide) rfl ?_
  intro p e s m args below meth c s₁ B hml hv
  obtain ⟨rfl, hP, hK⟩ := hv
  have hx := B.exec
  have hb := B.bytes
  have hr := B.returns
  have hts := atoms_spec (ws := wsX3_countOf) B.pre
  have hown : s.vm.findClass RX3 = some m.cls := findClass_of_methodNamed B.named
  have hlocks := B.notSynchronized
  have hl := lv_entry ([.ref h0, .int (nI t)]) (n := 3) (Nat.le_of_ble_eq_true rfl)
  rw [lg_entry_eq]
  generalize (lg_sl ([.ref h0, .int (nI t)]) ++ List.replicate (3 - (lg_sl ([.ref h0, .int (nI t)])).length) Slot.unset).toArray = ls at hl ⊢
  have hl : lv_has ls 3 [(0, .ref h0), (1, .int (nI t))] := hl
  obtain ⟨hs1, hs2, hk2, hw1, hw2, hwd⟩ := id hCS
  have htm := Nat.mod_lt t (show 0 < nw by omega)
  have hwt := hwd _ htm
  have ht2 := Nat.mod_lt t (show 0 < 2 by decide)
  refine lv_aload_n hx hb dX3_countOf_0 rfl (lv_at hl 0 rfl) ?_
  refine va_get (D := (dC, dI)) (ci := 3) (v := .int (nI st)) (C := RX3) (T := TX3) (N := 17) hx hb hts (by decide +kernel) hown hK hP 0 rfl rfl 6 (by decide) (hts (.fieldLink RX3 23 "CountedOutModel" "step" "I") (by decide +kernel)) (fun _ h9 => h9) rfl dX3_countOf_1 ?_
  refine lv_istore_n (lv' := [(2, .int (nI st)), (0, .ref h0), (1, .int (nI t))]) hx hb dX3_countOf_4 rfl hl (by decide) rfl (fun ls hl => ?_)
  refine lv_aload_n hx hb dX3_countOf_5 rfl (lv_at hl 1 rfl) ?_
  refine va_get (D := (dC, dI)) (ci := 3) (v := .int (nI kd)) (C := RX3) (T := TX3) (N := 17) hx hb hts (by decide +kernel) hown hK hP 0 rfl rfl 7 (by decide) (hts (.fieldLink RX3 100 "CountedOutModel" "kind" "I") (by decide +kernel)) (fun _ h9 => h9) rfl dX3_countOf_6 ?_
  refine lv_if_le (tgt := 26) hx hb dX3_countOf_9 (by decide) (fun c_9 => ?_) (fun c_9 => ?_)
  · have c_9 : kd ≤ 0 := (nI_leI (a := kd) (b := 0) (by omega) (by omega)).mp c_9
    refine lv_aload_n hx hb dX3_countOf_26 rfl (lv_at hl 1 rfl) ?_
    refine va_get (D := (dC, dI)) (ci := 3) (v := .int (nI kd)) (C := RX3) (T := TX3) (N := 17) hx hb hts (by decide +kernel) hown hK hP 0 rfl rfl 7 (by decide) (hts (.fieldLink RX3 100 "CountedOutModel" "kind" "I") (by decide +kernel)) (fun _ h9 => h9) rfl dX3_countOf_27 ?_
    refine lv_iconst (v := 2) hx hb dX3_countOf_30 (by decide) ?_
    refine lv_icmp_ne (tgt := 46) hx hb dX3_countOf_31 (by decide) (fun c_31 => ?_) (fun c_31 => ?_)
    · have c_31 : ¬ kd = 2 := fun h => c_31 ((nI_eq (a := kd) (b := 2) (by omega) (by omega)).mpr h)
      refine lv_iload_n hx hb dX3_countOf_46 rfl (lv_at hl 0 rfl) ?_
      exact W.iret (v := nI st) hx hb hr (fun t ht hW => ⟨_, rfl, by unfold cNeg cK; first | (rw [decide_eq_false c_31, if_pos (by omega)]; rfl) | (rw [decide_eq_false c_31, if_neg (by omega)]; rfl) | (rw [decide_eq_true c_31, decide_eq_true c_38, if_neg (by omega)]; rfl) | (rw [decide_eq_true c_31, decide_eq_false c_38, if_neg (by omega)]; rfl), ht⟩) (fun _ h => absurd h List.not_mem_nil) dX3_countOf_47
    · exact absurd ((nI_eq (a := kd) (b := 2) (by omega) (by omega)).mp c_31) (by omega)
  · have c_9 : 0 < kd := Nat.lt_of_not_le (fun h => c_9 ((nI_leI (a := kd) (b := 0) (by omega) (by omega)).mpr h))
    refine lv_iload_n hx hb dX3_countOf_12 rfl (lv_at hl 0 rfl) ?_
    refine lv_aload_n hx hb dX3_countOf_13 rfl (lv_at hl 1 rfl) ?_
    refine va_get (D := (dC, dI)) (ci := 3) (v := .ref a9) (C := RX3) (T := TX3) (N := 17) hx hb hts (by decide +kernel) hown hK hP 0 rfl rfl 9 (by decide) (hts (.fieldLink RX3 29 "CountedOutModel" "word" "[I") (by decide +kernel)) (fun _ h9 => h9) rfl dX3_countOf_14 ?_
    refine lv_iload_n hx hb dX3_countOf_17 rfl (lv_at hl 2 rfl) ?_
    refine lv_aload_n hx hb dX3_countOf_18 rfl (lv_at hl 1 rfl) ?_
    refine va_get (D := (dC, dI)) (ci := 3) (v := .int (nI nw)) (C := RX3) (T := TX3) (N := 17) hx hb hts (by decide +kernel) hown hK hP 0 rfl rfl 8 (by decide) (hts (.fieldLink RX3 26 "CountedOutModel" "words" "I") (by decide +kernel)) (fun _ h9 => h9) rfl dX3_countOf_19 ?_
    refine lv_irem hx hb dX3_countOf_22 (nI_ne0 (by omega) (by omega)) ?_
    refine z_i (y := nI (t % nw)) (pk_rem ht (by omega) (by omega)) ?_
    refine z_iald hx hb hK hP 1 0 rfl rfl (i := (t % nw)) (by omega) (by decide) dX3_countOf_23 ?_
    refine z_i (y := nI (wd (t % nw))) (hCR _ htm) ?_
    refine lv_iadd hx hb dX3_countOf_24 ?_
    refine z_i (y := nI (st + wd (t % nw))) (nI_add _ _) ?_
    refine lv_istore_n (lv' := [(2, .int (nI (st + wd (t % nw)))), (0, .ref h0), (1, .int (nI t))]) hx hb dX3_countOf_25 rfl hl (by decide) rfl (fun ls hl => ?_)
    refine lv_aload_n hx hb dX3_countOf_26 rfl (lv_at hl 1 rfl) ?_
    refine va_get (D := (dC, dI)) (ci := 3) (v := .int (nI kd)) (C := RX3) (T := TX3) (N := 17) hx hb hts (by decide +kernel) hown hK hP 0 rfl rfl 7 (by decide) (hts (.fieldLink RX3 100 "CountedOutModel" "kind" "I") (by decide +kernel)) (fun _ h9 => h9) rfl dX3_countOf_27 ?_
    refine lv_iconst (v := 2) hx hb dX3_countOf_30 (by decide) ?_
    refine lv_icmp_ne (tgt := 46) hx hb dX3_countOf_31 (by decide) (fun c_31 => ?_) (fun c_31 => ?_)
    · have c_31 : ¬ kd = 2 := fun h => c_31 ((nI_eq (a := kd) (b := 2) (by omega) (by omega)).mpr h)
      refine lv_iload_n hx hb dX3_countOf_46 rfl (lv_at hl 0 rfl) ?_
      exact W.iret (v := nI (st + wd (t % nw))) hx hb hr (fun t ht hW => ⟨_, rfl, by unfold cNeg cK; first | (rw [decide_eq_false c_31, if_pos (by omega)]; rfl) | (rw [decide_eq_false c_31, if_neg (by omega)]; rfl) | (rw [decide_eq_true c_31, decide_eq_true c_38, if_neg (by omega)]; rfl) | (rw [decide_eq_true c_31, decide_eq_false c_38, if_neg (by omega)]; rfl), ht⟩) (fun _ h => absurd h List.not_mem_nil) dX3_countOf_47
    · have c_31 : kd = 2 := (nI_eq (a := kd) (b := 2) (by omega) (by omega)).mp c_31
      refine lv_iload_n hx hb dX3_countOf_34 rfl (lv_at hl 2 rfl) ?_
      refine lv_iconst (v := 2) hx hb dX3_countOf_35 (by decide) ?_
      refine lv_irem hx hb dX3_countOf_36 (by decide) ?_
      refine z_i (y := nI (t % 2)) (pk_rem (d := 2) ht (by omega) (by omega)) ?_
      refine lv_iconst (v := 1) hx hb dX3_countOf_37 (by decide) ?_
      refine lv_icmp_ne (tgt := 46) hx hb dX3_countOf_38 (by decide) (fun c_38 => ?_) (fun c_38 => ?_)
      · have c_38 : ¬ t % 2 = 1 := fun h => c_38 ((nI_eq (a := t % 2) (b := 1) (by omega) (by omega)).mpr h)
        refine lv_iload_n hx hb dX3_countOf_46 rfl (lv_at hl 0 rfl) ?_
        exact W.iret (v := nI (st + wd (t % nw))) hx hb hr (fun t ht hW => ⟨_, rfl, by unfold cNeg cK; first | (rw [decide_eq_false c_31, if_pos (by omega)]; rfl) | (rw [decide_eq_false c_31, if_neg (by omega)]; rfl) | (rw [decide_eq_true c_31, decide_eq_true c_38, if_neg (by omega)]; rfl) | (rw [decide_eq_true c_31, decide_eq_false c_38, if_neg (by omega)]; rfl), ht⟩) (fun _ h => absurd h List.not_mem_nil) dX3_countOf_47
      · have c_38 : t % 2 = 1 := (nI_eq (a := t % 2) (b := 1) (by omega) (by omega)).mp c_38
        refine lv_iload_n hx hb dX3_countOf_41 rfl (lv_at hl 0 rfl) ?_
        refine lv_ineg hx hb dX3_countOf_42 ?_
        refine lv_goto (tgt := 47) hx hb dX3_countOf_43 (by decide) ?_
        exact W.iret (v := -(nI (st + wd (t % nw)))) hx hb hr (fun t ht hW => ⟨_, rfl, by unfold cNeg cK; first | (rw [decide_eq_false c_31, if_pos (by omega)]; rfl) | (rw [decide_eq_false c_31, if_neg (by omega)]; rfl) | (rw [decide_eq_true c_31, decide_eq_true c_38, if_neg (by omega)]; rfl) | (rw [decide_eq_true c_31, decide_eq_false c_38, if_neg (by omega)]; rfl), ht⟩) (fun _ h => absurd h List.not_mem_nil) dX3_countOf_47

set_option maxHeartbeats 4000000 in
set_option maxRecDepth 100000 in
theorem c_X3_count (l : Launch) (dC : Nat → ClassId) (dI : Nat → Nat → Nat) (sz : Nat) (cA : ClassId) (h0 a3 a4 a5 a9 a11 a12 a14 a15 a16 : Nat) (tr : Int64) (st kd nw : Nat) (wd : Nat → Nat) (hCS : CS st kd nw wd) (WR : Nat → Int32) (hCR : CR nw wd WR) (pe tn sd t : Int32) : Met l yX3_count wsX3_count ({ frames := 1, cells := 0, slots := 0, locals := 25 }) (va_Pc [.ref h0, .int t] (fun U => U.heap.size = sz ∧ va_P (dC, dI) vwCl [(h0, .inr (3, [.int 0, .long tr, .int pe, .ref a3, .ref a4, .ref a5, .int (nI st), .int (nI kd), .int (nI nw), .ref a9, .int tn, .ref a11, .ref a12, .int sd, .ref a14, .ref a15, .ref a16])), (a9, .inl (cA, 8, .inl WR))] U.heap ∧ va_K (dC, dI) vwCl [(cA, .int)] U ∧ va_D (fun _ => True) [(h0, .inr (3, [.int 0, .long tr, .int pe, .ref a3, .ref a4, .ref a5, .int (nI st), .int (nI kd), .int (nI nw), .ref a9, .int tn, .ref a11, .ref a12, .int sd, .ref a14, .ref a15, .ref a16])), (a9, .inl (cA, 8, .inl WR))])) (va_Qi (S := Int64) (fun r u => (r, u) = spCount t st kd nw wd tr) (fun (u : Int64) (t : State) => va_P (dC, dI) vwCl [(h0, .inr (3, [.int 0, .long u, .int pe, .ref a3, .ref a4, .ref a5, .int (nI st), .int (nI kd), .int (nI nw), .ref a9, .int tn, .ref a11, .ref a12, .int sd, .ref a14, .ref a15, .ref a16])), (a9, .inl (cA, 8, .inl WR))] t.heap ∧ va_K (dC, dI) vwCl [(cA, .int)] t ∧ va_D (va_A [(h0, .inr (3, [.int 0, .long tr, .int pe, .ref a3, .ref a4, .ref a5, .int (nI st), .int (nI kd), .int (nI nw), .ref a9, .int tn, .ref a11, .ref a12, .int sd, .ref a14, .ref a15, .ref a16])), (a9, .inl (cA, 8, .inl WR))] sz) [(h0, .inr (3, [.int 0, .long u, .int pe, .ref a3, .ref a4, .ref a5, .int (nI st), .int (nI kd), .int (nI nw), .ref a9, .int tn, .ref a11, .ref a12, .int sd, .ref a14, .ref a15, .ref a16])), (a9, .inl (cA, 8, .inl WR))]) (va_A [(h0, .inr (3, [.int 0, .long tr, .int pe, .ref a3, .ref a4, .ref a5, .int (nI st), .int (nI kd), .int (nI nw), .ref a9, .int tn, .ref a11, .ref a12, .int sd, .ref a14, .ref a15, .ref a16])), (a9, .inl (cA, 8, .inl WR))] sz)) 0 0 (va_A [(h0, .inr (3, [.int 0, .long tr, .int pe, .ref a3, .ref a4, .ref a5, .int (nI st), .int (nI kd), .int (nI nw), .ref a9, .int tn, .ref a11, .ref a12, .int sd, .ref a14, .ref a15, .ref a16])), (a9, .inl (cA, 8, .inl WR))] sz) := by
  refine Met.ofW (cc := cX3_count) (maxL := 2) (ret := (some .int)) (by decide) rfl ?_
  intro p e s m args below meth c s₁ B hml hv
  obtain ⟨rfl, hsz, hP, hK, hD0⟩ := hv
  have hx := B.exec
  have hb := B.bytes
  have hr := B.returns
  have hts := atoms_spec (ws := wsX3_count) B.pre
  have hown : s.vm.findClass RX3 = some m.cls := findClass_of_methodNamed B.named
  have hlocks := B.notSynchronized
  subst hsz
  have hD := hD0.self (sz := s.heap.size)
  generalize hAe : va_A [(h0, .inr (3, [.int 0, .long tr, .int pe, .ref a3, .ref a4, .ref a5, .int (nI st), .int (nI kd), .int (nI nw), .ref a9, .int tn, .ref a11, .ref a12, .int sd, .ref a14, .ref a15, .ref a16])), (a9, .inl (cA, 8, .inl WR))] s.heap.size = A at hD ⊢
  have hA : ∀ q : Nat, s.heap.size ≤ q → A q := fun q h => by rw [← hAe]; exact Or.inr h
  have hS : va_S A s.heap s.heap [] := va_S.rf
  have hP : va_P (dC, dI) vwCl [(h0, .inr (3, [.int 0, .long tr, .int pe, .ref a3, .ref a4, .ref a5, .int (nI st), .int (nI kd), .int (nI nw), .ref a9, .int tn, .ref a11, .ref a12, .int sd, .ref a14, .ref a15, .ref a16])), (a9, .inl (cA, 8, .inl WR))] s.heap := hP
  have hl := lv_entry ([.ref h0, .int t]) (n := 2) (Nat.le_of_ble_eq_true rfl)
  rw [lg_entry_eq]
  generalize (lg_sl ([.ref h0, .int t]) ++ List.replicate (2 - (lg_sl ([.ref h0, .int t])).length) Slot.unset).toArray = ls at hl ⊢
  have hl : lv_has ls 2 [(0, .ref h0), (1, .int t)] := hl
  obtain ⟨hs1, hs2, hk2, hw1, hw2, hwd⟩ := id hCS
  refine lv_aload_n hx hb dX3_count_0 rfl (lv_at hl 0 rfl) ?_
  refine lv_iconst (v := 0) hx hb dX3_count_1 (by decide) ?_
  refine va_put (D := (dC, dI)) (ci := 3) (v := .int 0) (ty := .int) (C := RX3) (T := TX3) (N := 17) hx hb hts (by decide +kernel) tyX3 tyX3_ok nmX3 hown hK hP hD hS 0 rfl rfl 0 (by decide) (hts (.fieldLink RX3 51 "CountedOutModel" "thrown" "I") (by decide +kernel)) (fun _ h9 => h9) rfl (by decide +kernel) rfl rfl (Nat.le_of_ble_eq_true rfl) dX3_count_2 (fun H locs hP hD hS => ?_)
  have hP : va_P (dC, dI) vwCl [(h0, .inr (3, [.int 0, .long tr, .int pe, .ref a3, .ref a4, .ref a5, .int (nI st), .int (nI kd), .int (nI nw), .ref a9, .int tn, .ref a11, .ref a12, .int sd, .ref a14, .ref a15, .ref a16])), (a9, .inl (cA, 8, .inl WR))] H := hP
  have hD : va_D A [(h0, .inr (3, [.int 0, .long tr, .int pe, .ref a3, .ref a4, .ref a5, .int (nI st), .int (nI kd), .int (nI nw), .ref a9, .int tn, .ref a11, .ref a12, .int sd, .ref a14, .ref a15, .ref a16])), (a9, .inl (cA, 8, .inl WR))] := hD
  refine lv_iload_n hx hb dX3_count_5 rfl (lv_at hl 1 rfl) ?_
  refine lv_i2l (v := t.toInt64) hx hb dX3_count_6 rfl ?_
  refine lv_lconst (v := 0) hx hb dX3_count_7 (by decide) ?_
  refine lv_ldc2 (v := 100000) hx hb hown (hts (.constantLong RX3 110 (100000)) (by decide +kernel)) dX3_count_8 ?_
  refine vp_callSi (va_Run.run (va_runS (As := [.long t.toInt64, .long 0, .long 100000]) (rest := []) ⟨hx, hb, hml, hown, hts⟩ (c_X3_in l dC dI t.toInt64 0 100000) (va_cwS 3 hts gX3_count_X3_in rfl rfl rfl (by decide +kernel) ⟨Nat.le_of_ble_eq_true rfl, Nat.le_of_ble_eq_true rfl⟩) ⟨fun a U g mk q => ⟨q.1, trivial⟩, fun U hU hW => ⟨rfl, trivial⟩⟩ rfl rfl hl.1 rfl (lv_room (Nat.le_of_ble_eq_true rfl)) dX3_count_11 ⟨Nat.zero_le _, Nat.zero_le _⟩)) (fun r_11 hr_11 => ?_)
  obtain rfl : r_11 = zb (wi t.toInt 0 100000) := hr_11.trans (by rw [i2l_toInt]; rfl)
  refine lv_if_ne (tgt := 21) hx hb dX3_count_14 (by decide) (fun c_14 => ?_) (fun c_14 => ?_)
  · have c_14 := zb_n.mp c_14
    obtain ⟨t1, ht1, ht2, rfl⟩ := nI_wi (a := 0) (b := 100000) c_14
    refine lv_aload_n hx hb dX3_count_21 rfl (lv_at hl 0 rfl) ?_
    refine lv_dup hx hb dX3_count_22 rfl ?_
    refine va_get (D := (dC, dI)) (ci := 3) (v := .long tr) (C := RX3) (T := TX3) (N := 17) hx hb hts (by decide +kernel) hown hK hP 0 rfl rfl 1 (by decide) (hts (.fieldLink RX3 112 "CountedOutModel" "trace" "J") (by decide +kernel)) (fun _ h9 => h9) rfl dX3_count_23 ?_
    refine W_join (α := Int64) (pc' := 54) (ls' := ls) (st' := fun vj => [.long vj, .long tr, .ref h0]) (Pj := fun vj => vj = tollI kd) (fun J_54 => ?_) (fun v_54 hv_54 => ?_)
    · refine lv_aload_n hx hb dX3_count_26 rfl (lv_at hl 0 rfl) ?_
      refine va_get (D := (dC, dI)) (ci := 3) (v := .int (nI kd)) (C := RX3) (T := TX3) (N := 17) hx hb hts (by decide +kernel) hown hK hP 0 rfl rfl 7 (by decide) (hts (.fieldLink RX3 100 "CountedOutModel" "kind" "I") (by decide +kernel)) (fun _ h9 => h9) rfl dX3_count_27 ?_
      refine lv_if_ne (tgt := 37) hx hb dX3_count_30 (by decide) (fun c_30 => ?_) (fun c_30 => ?_)
      · have c_30 : ¬ kd = 0 := fun h => c_30 ((nI_eq (a := kd) (b := 0) (by omega) (by omega)).mpr h)
        refine lv_aload_n hx hb dX3_count_37 rfl (lv_at hl 0 rfl) ?_
        refine va_get (D := (dC, dI)) (ci := 3) (v := .int (nI kd)) (C := RX3) (T := TX3) (N := 17) hx hb hts (by decide +kernel) hown hK hP 0 rfl rfl 7 (by decide) (hts (.fieldLink RX3 100 "CountedOutModel" "kind" "I") (by decide +kernel)) (fun _ h9 => h9) rfl dX3_count_38 ?_
        refine lv_iconst (v := 1) hx hb dX3_count_41 (by decide) ?_
        refine lv_icmp_ne (tgt := 51) hx hb dX3_count_42 (by decide) (fun c_42 => ?_) (fun c_42 => ?_)
        · have c_42 : ¬ kd = 1 := fun h => c_42 ((nI_eq (a := kd) (b := 1) (by omega) (by omega)).mpr h)
          refine lv_ldc2 (v := 111) hx hb hown (hts (.constantLong RX3 118 (111)) (by decide +kernel)) dX3_count_51 ?_
          exact J_54 _ (by unfold tollI; first | (rw [if_pos c_30]) | (rw [if_neg c_30, if_pos c_42]) | (rw [if_neg c_30, if_neg c_42]))
        · have c_42 : kd = 1 := (nI_eq (a := kd) (b := 1) (by omega) (by omega)).mp c_42
          refine lv_ldc2 (v := 11) hx hb hown (hts (.constantLong RX3 116 (11)) (by decide +kernel)) dX3_count_45 ?_
          refine lv_goto (tgt := 54) hx hb dX3_count_48 (by decide) ?_
          exact J_54 _ (by unfold tollI; first | (rw [if_pos c_30]) | (rw [if_neg c_30, if_pos c_42]) | (rw [if_neg c_30, if_neg c_42]))
      · have c_30 : kd = 0 := (nI_eq (a := kd) (b := 0) (by omega) (by omega)).mp c_30
        refine lv_lconst (v := 1) hx hb dX3_count_33 (by decide) ?_
        refine lv_goto (tgt := 54) hx hb dX3_count_34 (by decide) ?_
        exact J_54 _ (by unfold tollI; first | (rw [if_pos c_30]) | (rw [if_neg c_30, if_pos c_42]) | (rw [if_neg c_30, if_neg c_42]))
    subst hv_54
    refine lv_ladd hx hb dX3_count_54 ?_
    refine va_put (D := (dC, dI)) (ci := 3) (v := .long (tr + (tollI kd))) (ty := .long) (C := RX3) (T := TX3) (N := 17) hx hb hts (by decide +kernel) tyX3 tyX3_ok nmX3 hown hK hP hD hS 0 rfl rfl 1 (by decide) (hts (.fieldLink RX3 112 "CountedOutModel" "trace" "J") (by decide +kernel)) (fun _ h9 => h9) rfl (by decide +kernel) rfl rfl (Nat.le_of_ble_eq_true rfl) dX3_count_55 (fun H locs hP hD hS => ?_)
    have hP : va_P (dC, dI) vwCl [(h0, .inr (3, [.int 0, .long (tr + (tollI kd)), .int pe, .ref a3, .ref a4, .ref a5, .int (nI st), .int (nI kd), .int (nI nw), .ref a9, .int tn, .ref a11, .ref a12, .int sd, .ref a14, .ref a15, .ref a16])), (a9, .inl (cA, 8, .inl WR))] H := hP
    have hD : va_D A [(h0, .inr (3, [.int 0, .long (tr + (tollI kd)), .int pe, .ref a3, .ref a4, .ref a5, .int (nI st), .int (nI kd), .int (nI nw), .ref a9, .int tn, .ref a11, .ref a12, .int sd, .ref a14, .ref a15, .ref a16])), (a9, .inl (cA, 8, .inl WR))] := hD
    refine lv_aload_n hx hb dX3_count_58 rfl (lv_at hl 0 rfl) ?_
    refine lv_iload_n hx hb dX3_count_59 rfl (lv_at hl 1 rfl) ?_
    have hPc := hP.sub (ws' := [(h0, .inr (3, [.int 0, .long (tr + (tollI kd)), .int pe, .ref a3, .ref a4, .ref a5, .int (nI st), .int (nI kd), .int (nI nw), .ref a9, .int tn, .ref a11, .ref a12, .int sd, .ref a14, .ref a15, .ref a16])), (a9, .inl (cA, 8, .inl WR))]) [0, 1] rfl
    refine vp_callSi (va_Run.run (va_runV (As := [.int (nI t1)]) (rest := []) ⟨hx, hb, hml, hown, hts⟩ (c_X3_countOf l dC dI cA h0 a3 a4 a5 a9 a11 a12 a14 a15 a16 (tr + tollI kd) st kd nw wd WR hCS hCR t1 (by omega) pe tn sd) (cwV 1 hts gX3_count_X3_countOf rfl rfl rfl (by decide +kernel) ⟨Nat.le_of_ble_eq_true rfl, Nat.le_of_ble_eq_true rfl⟩) ⟨fun a U g mk q => by obtain ⟨q0, qP, qK⟩ := q; exact ⟨q0, qP, va_K.moved (u := U) (U := U.calling g mk a) (Vm.Alike.refl U.vm) qK⟩, va_recv hK hP (ci := 3) (q0 := 0) rfl rfl, fun U hU hW => ⟨rfl, by rw [hU]; exact hPc, va_K.moved hW.alike hK⟩⟩ rfl rfl hl.1 rfl (lv_room (Nat.le_of_ble_eq_true rfl)) dX3_count_60 ⟨Nat.zero_le _, Nat.zero_le _⟩)) (fun r_60 hr_60 => ?_)
    subst hr_60
    have hP9 := hP.sub (ws' := [(h0, .inr (3, [.int 0, .long (tr + (tollI kd)), .int pe, .ref a3, .ref a4, .ref a5, .int (nI st), .int (nI kd), .int (nI nw), .ref a9, .int tn, .ref a11, .ref a12, .int sd, .ref a14, .ref a15, .ref a16])), (a9, .inl (cA, 8, .inl WR))]) [0, 1] rfl
    have hD9 := hD.sub (ws' := [(h0, .inr (3, [.int 0, .long (tr + (tollI kd)), .int pe, .ref a3, .ref a4, .ref a5, .int (nI st), .int (nI kd), .int (nI nw), .ref a9, .int tn, .ref a11, .ref a12, .int sd, .ref a14, .ref a15, .ref a16])), (a9, .inl (cA, 8, .inl WR))]) [0, 1] (by decide) rfl
    exact W.iret (v := cI (cNeg kd t1) (cK st kd nw wd t1)) hx hb hr (fun t ht hW => ⟨⟨_, _, rfl, by unfold spCount; rw [if_pos c_14, nI_toInt (by omega)]; rfl, ⟨by rw [ht]; exact hP9, va_K.moved hW.alike hK, hD9⟩⟩, hS.F ht⟩) hS.2.2 dX3_count_63
  · have c_14 := zb_0.mp c_14
    refine lv_sipush (v := (-1000)) hx hb dX3_count_17 (by decide) ?_
    have hP9 := hP.sub (ws' := [(h0, .inr (3, [.int 0, .long tr, .int pe, .ref a3, .ref a4, .ref a5, .int (nI st), .int (nI kd), .int (nI nw), .ref a9, .int tn, .ref a11, .ref a12, .int sd, .ref a14, .ref a15, .ref a16])), (a9, .inl (cA, 8, .inl WR))]) [0, 1] rfl
    have hD9 := hD.sub (ws' := [(h0, .inr (3, [.int 0, .long tr, .int pe, .ref a3, .ref a4, .ref a5, .int (nI st), .int (nI kd), .int (nI nw), .ref a9, .int tn, .ref a11, .ref a12, .int sd, .ref a14, .ref a15, .ref a16])), (a9, .inl (cA, 8, .inl WR))]) [0, 1] (by decide) rfl
    exact W.iret (v := (-1000)) hx hb hr (fun t ht hW => ⟨⟨_, tr, rfl, by unfold spCount; rw [if_neg (by rw [c_14]; decide)], ⟨by rw [ht]; exact hP9, va_K.moved hW.alike hK, hD9⟩⟩, hS.F ht⟩) hS.2.2 dX3_count_20

set_option maxHeartbeats 4000000 in
set_option maxRecDepth 100000 in
theorem c_X3_there (l : Launch) (dC : Nat → ClassId) (dI : Nat → Nat → Nat) (cA : ClassId) (h0 a3 a4 a5 a9 a11 a12 a14 a15 a16 : Nat) (tr : Int64) (N : Nat) (hN1 : 1 ≤ N) (hN : N ≤ 40) (L : Nat → Nat) (LA : Nat → Int32) (hLA : ∀ q, q < N → LA q = nI (L q)) (hL5 : ∀ q, q < N → L q ≤ 5) (st kd wd tn sd : Int32) : Met l yX3_there wsX3_there ({ frames := 0, cells := 0, slots := 0, locals := 0 }) (va_Pc [.ref h0] (fun U => va_P (dC, dI) vwCl [(h0, .inr (3, [.int 0, .long tr, .int (nI N), .ref a3, .ref a4, .ref a5, .int st, .int kd, .int wd, .ref a9, .int tn, .ref a11, .ref a12, .int sd, .ref a14, .ref a15, .ref a16])), (a4, .inl (cA, 40, .inl LA))] U.heap ∧ va_K (dC, dI) vwCl [(cA, .int)] U)) (vp_Si (fun r => r = nI (bc (alv L) N))) 0 0 (fun _ => False) := by
  refine Met.ofW (cc := cX3_there) (maxL := 3) (ret := (some .int)) (by decide) rfl ?_
  intro p e s m args below meth c s₁ B hml hv
  obtain ⟨rfl, hP, hK⟩ := hv
  have hx := B.exec
  have hb := B.bytes
  have hr := B.returns
  have hts := atoms_spec (ws := wsX3_there) B.pre
  have hown : s.vm.findClass RX3 = some m.cls := findClass_of_methodNamed B.named
  have hlocks := B.notSynchronized
  have hl := lv_entry ([.ref h0]) (n := 3) (Nat.le_of_ble_eq_true rfl)
  rw [lg_entry_eq]
  generalize (lg_sl ([.ref h0]) ++ List.replicate (3 - (lg_sl ([.ref h0])).length) Slot.unset).toArray = ls at hl ⊢
  have hl : lv_has ls 3 [(0, .ref h0)] := hl
  refine lv_iconst (v := 0) hx hb dX3_there_0 (by decide) ?_
  refine lv_istore_n (lv' := [(1, .int 0), (0, .ref h0)]) hx hb dX3_there_1 rfl hl (by decide) rfl (fun ls hl => ?_)
  refine lv_iconst (v := 0) hx hb dX3_there_2 (by decide) ?_
  refine lv_istore_n (lv' := [(2, .int 0), (1, .int 0), (0, .ref h0)]) hx hb dX3_there_3 rfl hl (by decide) rfl (fun ls hl => ?_)
  refine W_loopR (σ := Nat) (fun p0 ls => lv_has ls 3 [(0, .ref h0), (1, .int (nI (bc (alv L) p0))), (2, .int (nI p0))] ∧ p0 ≤ N) (fun p0 => N - p0) ?_ 0 ⟨lv_sub hl [2, 1, 0] rfl, (by omega)⟩
  rintro p0 ls ⟨hl, hp⟩ ih_4
  refine lv_iload_n hx hb dX3_there_4 rfl (lv_at hl 2 rfl) ?_
  refine lv_aload_n hx hb dX3_there_5 rfl (lv_at hl 0 rfl) ?_
  refine va_get (D := (dC, dI)) (ci := 3) (v := .int (nI N)) (C := RX3) (T := TX3) (N := 17) hx hb hts (by decide +kernel) hown hK hP 0 rfl rfl 2 (by decide) (hts (.fieldLink RX3 7 "CountedOutModel" "people" "I") (by decide +kernel)) (fun _ h9 => h9) rfl dX3_there_6 ?_
  refine lv_icmp_ge (tgt := 35) hx hb dX3_there_9 (by decide) (fun c_9 => ?_) (fun c_9 => ?_)
  · have c_9 : N ≤ p0 := (nI_leI (a := N) (b := p0) (by omega) (by omega)).mp c_9
    refine lv_iload_n hx hb dX3_there_35 rfl (lv_at hl 1 rfl) ?_
    exact W.iret (v := nI (bc (alv L) p0)) hx hb hr (fun t ht hW => ⟨_, rfl, by rw [show p0 = N by omega], ht⟩) (fun _ h => absurd h List.not_mem_nil) dX3_there_36
  · have c_9 : p0 < N := Nat.lt_of_not_le (fun h => c_9 ((nI_leI (a := N) (b := p0) (by omega) (by omega)).mpr h))
    refine lv_iload_n hx hb dX3_there_12 rfl (lv_at hl 1 rfl) ?_
    have h5 := hL5 _ c_9
    refine W_join (α := Int32) (pc' := 27) (ls' := ls) (st' := fun vj => [.int vj, .int (nI (bc (alv L) p0))]) (Pj := fun vj => vj = nI (if alv L p0 = true then 1 else 0)) (fun J_27 => ?_) (fun v_27 hv_27 => ?_)
    · refine lv_aload_n hx hb dX3_there_13 rfl (lv_at hl 0 rfl) ?_
      refine va_get (D := (dC, dI)) (ci := 3) (v := .ref a4) (C := RX3) (T := TX3) (N := 17) hx hb hts (by decide +kernel) hown hK hP 0 rfl rfl 4 (by decide) (hts (.fieldLink RX3 17 "CountedOutModel" "left" "[I") (by decide +kernel)) (fun _ h9 => h9) rfl dX3_there_14 ?_
      refine lv_iload_n hx hb dX3_there_17 rfl (lv_at hl 2 rfl) ?_
      refine z_iald hx hb hK hP 1 0 rfl rfl (i := p0) (by omega) (by decide) dX3_there_18 ?_
      refine z_i (y := nI (L p0)) (hLA _ c_9) ?_
      refine lv_if_le (tgt := 26) hx hb dX3_there_19 (by decide) (fun c_19 => ?_) (fun c_19 => ?_)
      · have c_19 : alv L p0 = false := by have h := (nI_leI (b := 0) (by omega) (by omega)).mp c_19; simp only [alv, decide_eq_false_iff_not]; omega
        refine lv_iconst (v := 0) hx hb dX3_there_26 (by decide) ?_
        exact J_27 _ (by rw [c_19]; rfl)
      · have c_19 : alv L p0 = true := by simp only [alv, decide_eq_true_eq]; exact Nat.pos_of_ne_zero (fun h => c_19 (by rw [h]; decide))
        refine lv_iconst (v := 1) hx hb dX3_there_22 (by decide) ?_
        refine lv_goto (tgt := 27) hx hb dX3_there_23 (by decide) ?_
        exact J_27 _ (by rw [c_19]; rfl)
    subst hv_27
    refine lv_iadd hx hb dX3_there_27 ?_
    refine z_i (y := nI (bc (alv L) (p0 + 1))) (nI_add _ _) ?_
    refine lv_istore_n (lv' := [(1, .int (nI (bc (alv L) (p0 + 1)))), (0, .ref h0), (2, .int (nI p0))]) hx hb dX3_there_28 rfl hl (by decide) rfl (fun ls hl => ?_)
    refine lv_iinc (v := nI (p0 + 1)) (lv' := [(2, .int (nI (p0 + 1))), (1, .int (nI (bc (alv L) (p0 + 1)))), (0, .ref h0)]) hx hb dX3_there_29 hl (k := 2) rfl (nI_1 p0) (by decide) rfl (fun ls hl => ?_)
    refine lv_goto (tgt := 4) hx hb dX3_there_32 (by decide) ?_
    exact ih_4 (p0 + 1) _ (by omega) ⟨lv_sub hl [2, 1, 0] rfl, (by omega)⟩

set_option maxHeartbeats 4000000 in
set_option maxRecDepth 100000 in
theorem c_X3_next (l : Launch) (dC : Nat → ClassId) (dI : Nat → Nat → Nat) (cA : ClassId) (h0 a3 a4 a5 a9 a11 a12 a14 a15 a16 : Nat) (tr : Int64) (N : Nat) (hN1 : 1 ≤ N) (hN : N ≤ 40) (L : Nat → Nat) (LA : Nat → Int32) (hLA : ∀ q, q < N → LA q = nI (L q)) (hL5 : ∀ q, q < N → L q ≤ 5) (st kd wd tn sd : Int32) (p0 : Nat) (hp : p0 < N) (w : Nat) (wy : Int32) (hw : (w = 1 ∧ wy = 1) ∨ (w = N - 1 ∧ wy = -1)) (hex : ∃ i, 1 ≤ i ∧ i ≤ N ∧ alv L ((p0 + i * w) % N) = true) : Met l yX3_next wsX3_next ({ frames := 0, cells := 0, slots := 0, locals := 0 }) (va_Pc [.ref h0, .int (nI p0), .int wy] (fun U => va_P (dC, dI) vwCl [(h0, .inr (3, [.int 0, .long tr, .int (nI N), .ref a3, .ref a4, .ref a5, .int st, .int kd, .int wd, .ref a9, .int tn, .ref a11, .ref a12, .int sd, .ref a14, .ref a15, .ref a16])), (a4, .inl (cA, 40, .inl LA))] U.heap ∧ va_K (dC, dI) vwCl [(cA, .int)] U)) (vp_Si (fun r => r = nI (sr (alv L) N w N p0 p0))) 0 0 (fun _ => False) := by
  refine Met.ofW (cc := cX3_next) (maxL := 4) (ret := (some .int)) (by decide) rfl ?_
  intro p e s m args below meth c s₁ B hml hv
  obtain ⟨rfl, hP, hK⟩ := hv
  have hx := B.exec
  have hb := B.bytes
  have hr := B.returns
  have hts := atoms_spec (ws := wsX3_next) B.pre
  have hown : s.vm.findClass RX3 = some m.cls := findClass_of_methodNamed B.named
  have hlocks := B.notSynchronized
  have hl := lv_entry ([.ref h0, .int (nI p0), .int wy]) (n := 4) (Nat.le_of_ble_eq_true rfl)
  rw [lg_entry_eq]
  generalize (lg_sl ([.ref h0, .int (nI p0), .int wy]) ++ List.replicate (4 - (lg_sl ([.ref h0, .int (nI p0), .int wy])).length) Slot.unset).toArray = ls at hl ⊢
  have hl : lv_has ls 4 [(0, .ref h0), (1, .int (nI p0)), (2, .int wy)] := hl
  obtain ⟨j, hj1, hj2, hj3, hj4, hj5⟩ := sr_spec (alv L) N w N p0 p0 hex
  rw [hj3]
  refine lv_iload_n hx hb dX3_next_0 rfl (lv_at hl 1 rfl) ?_
  refine lv_istore_n (lv' := [(3, .int (nI p0)), (0, .ref h0), (1, .int (nI p0)), (2, .int wy)]) hx hb dX3_next_1 rfl hl (by decide) rfl (fun ls hl => ?_)
  rw [show p0 = (p0 + 0 * w) % N by rw [Nat.zero_mul, Nat.add_zero, Nat.mod_eq_of_lt hp]] at hl
  refine W_loopR (σ := Nat) (fun i ls => lv_has ls 4 [(0, .ref h0), (2, .int wy), (3, .int (nI ((p0 + i * w) % N)))] ∧ i < j) (fun i => j - i) ?_ 0 ⟨lv_sub hl [1, 3, 0] rfl, hj1⟩
  rintro i ls ⟨hl, hi⟩ ih_2
  have hm := Nat.mod_lt (p0 + i * w) (show 0 < N by omega)
  have hm1 := Nat.mod_lt (p0 + (i + 1) * w) (show 0 < N by omega)
  have h5 := hL5 _ hm1
  refine lv_iload_n hx hb dX3_next_2 rfl (lv_at hl 2 rfl) ?_
  refine lv_iload_n hx hb dX3_next_3 rfl (lv_at hl 1 rfl) ?_
  refine lv_iadd hx hb dX3_next_4 ?_
  refine lv_aload_n hx hb dX3_next_5 rfl (lv_at hl 0 rfl) ?_
  refine va_get (D := (dC, dI)) (ci := 3) (v := .int (nI N)) (C := RX3) (T := TX3) (N := 17) hx hb hts (by decide +kernel) hown hK hP 0 rfl rfl 2 (by decide) (hts (.fieldLink RX3 7 "CountedOutModel" "people" "I") (by decide +kernel)) (fun _ h9 => h9) rfl dX3_next_6 ?_
  refine lv_iadd hx hb dX3_next_9 ?_
  refine lv_aload_n hx hb dX3_next_10 rfl (lv_at hl 0 rfl) ?_
  refine va_get (D := (dC, dI)) (ci := 3) (v := .int (nI N)) (C := RX3) (T := TX3) (N := 17) hx hb hts (by decide +kernel) hown hK hP 0 rfl rfl 2 (by decide) (hts (.fieldLink RX3 7 "CountedOutModel" "people" "I") (by decide +kernel)) (fun _ h9 => h9) rfl dX3_next_11 ?_
  refine lv_irem hx hb dX3_next_14 (nI_ne0 (by omega) (by omega)) ?_
  refine z_i (y := nI ((p0 + (i + 1) * w) % N)) (by rw [next_rem hN1 hN hm hw, sr_step]) ?_
  refine lv_istore_n (lv' := [(3, .int (nI ((p0 + (i + 1) * w) % N))), (0, .ref h0), (2, .int wy)]) hx hb dX3_next_15 rfl hl (by decide) rfl (fun ls hl => ?_)
  refine lv_aload_n hx hb dX3_next_16 rfl (lv_at hl 1 rfl) ?_
  refine va_get (D := (dC, dI)) (ci := 3) (v := .ref a4) (C := RX3) (T := TX3) (N := 17) hx hb hts (by decide +kernel) hown hK hP 0 rfl rfl 4 (by decide) (hts (.fieldLink RX3 17 "CountedOutModel" "left" "[I") (by decide +kernel)) (fun _ h9 => h9) rfl dX3_next_17 ?_
  refine lv_iload_n hx hb dX3_next_20 rfl (lv_at hl 0 rfl) ?_
  refine z_iald hx hb hK hP 1 0 rfl rfl (i := ((p0 + (i + 1) * w) % N)) (by omega) (by decide) dX3_next_21 ?_
  refine z_i (y := nI (L ((p0 + (i + 1) * w) % N))) (hLA _ hm1) ?_
  refine lv_if_eq (tgt := 2) hx hb dX3_next_22 (by decide) (fun c_22 => ?_) (fun c_22 => ?_)
  · have c_22 : alv L ((p0 + (i + 1) * w) % N) = false := by have h := (nI_eq (b := 0) (by omega) (by omega)).mp c_22; simp only [alv, decide_eq_false_iff_not]; omega
    exact ih_2 (i + 1) _ (by omega) ⟨lv_sub hl [1, 2, 0] rfl, (by rcases Nat.lt_or_ge (i + 1) j with h | h <;> first | exact h | (rw [show i + 1 = j by omega, hj4] at c_22; cases c_22))⟩
  · have c_22 : alv L ((p0 + (i + 1) * w) % N) = true := by simp only [alv, decide_eq_true_eq]; exact Nat.pos_of_ne_zero (fun h => c_22 (by rw [h]; decide))
    refine lv_iload_n hx hb dX3_next_25 rfl (lv_at hl 0 rfl) ?_
    exact W.iret (v := nI ((p0 + (i + 1) * w) % N)) hx hb hr (fun t ht hW => ⟨_, rfl, by rw [show i + 1 = j by rcases Nat.lt_or_ge (i + 1) j with h | h <;> first | (rw [hj5 (i + 1) (by omega) h] at c_22; cases c_22) | omega], ht⟩) (fun _ h => absurd h List.not_mem_nil) dX3_next_26
