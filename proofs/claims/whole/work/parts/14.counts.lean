/-- a contract of a method of a class of the JDK's that no entry runs instead -/
theorem Met_ofWF {l : Launch} {y : MethodName} {ws ws' : List Cond} {rm : Room} {Pc : Array Value → State → Prop} {Qc : Array Value → State → Outcome → State → Prop} {mc ms : Nat} {free : Addr → Prop} {cc : ByteArray} {maxL : Nat} {ret : Option FieldType}
    (hy : plainFor y = true) (hw : ws = Cond.code y cc maxL ret :: ws')
    (body : ∀ p e s m args below meth c s₁, BodyLoose p l y (headSpec ws rm) cc maxL ret e s m args below meth c s₁ → c.maxLocals = maxL → Pc args s →
      W p l e (headSpec ws rm).room s m args below meth c s.heap [] 0 0 (MQ below Qc args s mc ms free) (entryFrame m args maxL)) : Met l y ws rm Pc Qc mc ms free := by
  refine MetFree.of_bodySF (code := cc) (maxLocals := maxL) (ret := ret) hy ?_ ?_
  · intro args s m h hn
    obtain ⟨meth, c, h1, h2, h3, h4, h5, h6, -, -⟩ := Cond.code_spec hn (atoms_spec (ws := ws) h _ (by rw [hw]; exact List.mem_cons_self))
    exact ⟨meth, c, h1, h2, h3, h4, h5, h6⟩
  · intro p e s m args below meth c s₁ B hml hP _
    have hh0 : s₁.heap = s.heap := by rw [B.state]; rfl
    obtain ⟨t, a1, o, b1, b2, b3⟩ := body p e s m args below meth c s₁ B hml hP s₁ hh0 (Stand.of_body B)
    exact ⟨t, o, a1, b1, b2, ⟨b3.1, b3.2⟩⟩
theorem mir_step {n k r0 : Nat} {V WR : Nat → Int32} (hk : k + (r0 + 1) = 2 * n) (hr : r0 + 1 ≤ n) (hV : ∀ i, i < k → V i = if i < n then WR i else WR (2 * n - 1 - i)) : ∀ i, i < k + 1 → upd V k (V r0) i = if i < n then WR i else WR (2 * n - 1 - i) := by
  intro i hi
  by_cases h : i = k
  · subst h
    rw [pk_us, hV r0 (by omega), if_pos (by omega), if_neg (by omega)]
    congr 1
    omega
  · rw [pk_un h]; exact hV i (by omega)
def tollN (k : Nat) : Int32 := if k = 0 then 1 else if k = 1 then 11 else 111
set_option maxHeartbeats 4000000 in
set_option maxRecDepth 100000 in
theorem c_J9_floorMod_7cf53 (l : Launch) (dC : Nat → ClassId) (dI : Nat → Nat → Nat) (x y : Int32) (hy : ¬ y = 0) : Met l yJ9_floorMod_7cf53 wsJ9_floorMod_7cf53 ({ frames := 0, cells := 0, slots := 0, locals := 0 }) (va_Pc [.int x, .int y] (fun _ => True)) (vp_Si (fun r => r = fmI x y)) 0 0 (fun _ => False) := by
  refine Met_ofWF (cc := cJ9_floorMod_7cf53) (maxL := 3) (ret := (some .int)) (by decide +kernel) rfl ?_
  intro p e s m args below meth c s₁ B hml hv
  obtain ⟨rfl, -⟩ := hv
  have hx := B.exec
  have hb := B.bytes
  have hr := B.returns
  have hts := atoms_spec (ws := wsJ9_floorMod_7cf53) B.pre
  have hown : s.vm.findClass RJ9 = some m.cls := findClass_of_methodNamed B.named
  have hlocks := B.notSynchronized
  have hl := lv_entry ([.int x, .int y]) (n := 3) (Nat.le_of_ble_eq_true rfl)
  rw [lg_entry_eq]
  generalize (lg_sl ([.int x, .int y]) ++ List.replicate (3 - (lg_sl ([.int x, .int y])).length) Slot.unset).toArray = ls at hl ⊢
  have hl : lv_has ls 3 [(0, .int x), (1, .int y)] := hl
  refine lv_iload_n hx hb dJ9_floorMod_7cf53_0 rfl (lv_at hl 0 rfl) ?_
  refine lv_iload_n hx hb dJ9_floorMod_7cf53_1 rfl (lv_at hl 1 rfl) ?_
  refine lv_irem hx hb dJ9_floorMod_7cf53_2 (hy) ?_
  refine lv_istore_n (lv' := [(2, .int (x - x / y * y)), (0, .int x), (1, .int y)]) hx hb dJ9_floorMod_7cf53_3 rfl hl (by decide) rfl (fun ls hl => ?_)
  refine lv_iload_n hx hb dJ9_floorMod_7cf53_4 rfl (lv_at hl 1 rfl) ?_
  refine lv_iload_n hx hb dJ9_floorMod_7cf53_5 rfl (lv_at hl 2 rfl) ?_
  refine lv_ixor hx hb dJ9_floorMod_7cf53_6 ?_
  refine lv_if_ge (tgt := 18) hx hb dJ9_floorMod_7cf53_7 (by decide) (fun c_7 => ?_) (fun c_7 => ?_)
  · have c_7 : ¬ x ^^^ y < 0 := fun h => by rw [lt32] at h; rw [le32] at c_7; omega
    refine lv_iload_n hx hb dJ9_floorMod_7cf53_18 rfl (lv_at hl 0 rfl) ?_
    exact W.iret (v := x - x / y * y) hx hb hr (fun t ht hW => ⟨_, rfl, by unfold fmI; first | (rw [if_neg (fun h => c_7 h.1)]) | (rw [if_neg (fun h => h.2 c_11)]), ht⟩) (fun _ h => absurd h List.not_mem_nil) dJ9_floorMod_7cf53_19
  · have c_7 : x ^^^ y < 0 := by rw [lt32]; rw [le32] at c_7; omega
    refine lv_iload_n hx hb dJ9_floorMod_7cf53_10 rfl (lv_at hl 0 rfl) ?_
    refine lv_if_eq (tgt := 18) hx hb dJ9_floorMod_7cf53_11 (by decide) (fun c_11 => ?_) (fun c_11 => ?_)
    · refine lv_iload_n hx hb dJ9_floorMod_7cf53_18 rfl (lv_at hl 0 rfl) ?_
      exact W.iret (v := x - x / y * y) hx hb hr (fun t ht hW => ⟨_, rfl, by unfold fmI; first | (rw [if_neg (fun h => c_7 h.1)]) | (rw [if_neg (fun h => h.2 c_11)]), ht⟩) (fun _ h => absurd h List.not_mem_nil) dJ9_floorMod_7cf53_19
    · refine lv_iload_n hx hb dJ9_floorMod_7cf53_14 rfl (lv_at hl 0 rfl) ?_
      refine lv_iload_n hx hb dJ9_floorMod_7cf53_15 rfl (lv_at hl 2 rfl) ?_
      refine lv_iadd hx hb dJ9_floorMod_7cf53_16 ?_
      exact W.iret (v := (x - x / y * y) + y) hx hb hr (fun t ht hW => ⟨_, rfl, by unfold fmI; rw [if_pos ⟨c_7, c_11⟩], ht⟩) (fun _ h => absurd h List.not_mem_nil) dJ9_floorMod_7cf53_17

set_option maxHeartbeats 4000000 in
set_option maxRecDepth 100000 in
theorem c_X0_changeStep (l : Launch) (dC : Nat → ClassId) (dI : Nat → Nat → Nat) (sz : Nat) (cA : ClassId) (h1 b0 : Nat) (wc sv kv v : Int32) : Met l yX0_changeStep wsX0_changeStep ({ frames := 0, cells := 0, slots := 0, locals := 0 }) (va_Pc [.ref h1, .int v] (fun U => U.heap.size = sz ∧ va_P (dC, dI) vwCl [(h1, .inr (0, [.ref b0, .int wc, .int sv, .int kv]))] U.heap ∧ va_K (dC, dI) vwCl [(cA, .int)] U ∧ va_D (fun _ => True) [(h1, .inr (0, [.ref b0, .int wc, .int sv, .int kv]))])) (va_Qi (S := Unit) (fun r _ => r = sv) (fun (_ : Unit) (t : State) => va_P (dC, dI) vwCl [(h1, .inr (0, [.ref b0, .int wc, .int v, .int kv]))] t.heap ∧ va_K (dC, dI) vwCl [(cA, .int)] t ∧ va_D (va_A [(h1, .inr (0, [.ref b0, .int wc, .int sv, .int kv]))] sz) [(h1, .inr (0, [.ref b0, .int wc, .int v, .int kv]))]) (va_A [(h1, .inr (0, [.ref b0, .int wc, .int sv, .int kv]))] sz)) 0 0 (va_A [(h1, .inr (0, [.ref b0, .int wc, .int sv, .int kv]))] sz) := by
  refine Met.ofW (cc := cX0_changeStep) (maxL := 3) (ret := (some .int)) (by decide) rfl ?_
  intro p e s m args below meth c s₁ B hml hv
  obtain ⟨rfl, hsz, hP, hK, hD0⟩ := hv
  have hx := B.exec
  have hb := B.bytes
  have hr := B.returns
  have hts := atoms_spec (ws := wsX0_changeStep) B.pre
  have hown : s.vm.findClass RX0 = some m.cls := findClass_of_methodNamed B.named
  have hlocks := B.notSynchronized
  subst hsz
  have hD := hD0.self (sz := s.heap.size)
  generalize hAe : va_A [(h1, .inr (0, [.ref b0, .int wc, .int sv, .int kv]))] s.heap.size = A at hD ⊢
  have hA : ∀ q : Nat, s.heap.size ≤ q → A q := fun q h => by rw [← hAe]; exact Or.inr h
  have hS : va_S A s.heap s.heap [] := va_S.rf
  have hP : va_P (dC, dI) vwCl [(h1, .inr (0, [.ref b0, .int wc, .int sv, .int kv]))] s.heap := hP
  have hl := lv_entry ([.ref h1, .int v]) (n := 3) (Nat.le_of_ble_eq_true rfl)
  rw [lg_entry_eq]
  generalize (lg_sl ([.ref h1, .int v]) ++ List.replicate (3 - (lg_sl ([.ref h1, .int v])).length) Slot.unset).toArray = ls at hl ⊢
  have hl : lv_has ls 3 [(0, .ref h1), (1, .int v)] := hl
  refine lv_aload_n hx hb dX0_changeStep_0 rfl (lv_at hl 0 rfl) ?_
  refine va_get (D := (dC, dI)) (ci := 0) (v := .int sv) (C := RX0) (T := TX0) (N := 4) hx hb hts (by decide +kernel) hown hK hP 0 rfl rfl 2 (by decide) (hts (.fieldLink RX0 19 "CountedOut$Counts" "step" "I") (by decide +kernel)) (fun _ h9 => h9) rfl dX0_changeStep_1 ?_
  refine lv_istore_n (lv' := [(2, .int sv), (0, .ref h1), (1, .int v)]) hx hb dX0_changeStep_4 rfl hl (by decide) rfl (fun ls hl => ?_)
  refine lv_aload_n hx hb dX0_changeStep_5 rfl (lv_at hl 1 rfl) ?_
  refine lv_iload_n hx hb dX0_changeStep_6 rfl (lv_at hl 2 rfl) ?_
  refine va_put (D := (dC, dI)) (ci := 0) (v := .int v) (ty := .int) (C := RX0) (T := TX0) (N := 4) hx hb hts (by decide +kernel) tyX0 tyX0_ok nmX0 hown hK hP hD hS 0 rfl rfl 2 (by decide) (hts (.fieldLink RX0 19 "CountedOut$Counts" "step" "I") (by decide +kernel)) (fun _ h9 => h9) rfl (by decide +kernel) rfl rfl (Nat.le_of_ble_eq_true rfl) dX0_changeStep_7 (fun H locs hP hD hS => ?_)
  have hP : va_P (dC, dI) vwCl [(h1, .inr (0, [.ref b0, .int wc, .int v, .int kv]))] H := hP
  have hD : va_D A [(h1, .inr (0, [.ref b0, .int wc, .int v, .int kv]))] := hD
  refine lv_iload_n hx hb dX0_changeStep_10 rfl (lv_at hl 0 rfl) ?_
  have hP9 := hP.sub (ws' := [(h1, .inr (0, [.ref b0, .int wc, .int v, .int kv]))]) [0] rfl
  have hD9 := hD.sub (ws' := [(h1, .inr (0, [.ref b0, .int wc, .int v, .int kv]))]) [0] (by decide) rfl
  exact W.iret (v := sv) hx hb hr (fun t ht hW => ⟨⟨_, (), rfl, rfl, ⟨by rw [ht]; exact hP9, va_K.moved hW.alike hK, hD9⟩⟩, hS.F ht⟩) hS.2.2 dX0_changeStep_11

set_option maxHeartbeats 4000000 in
set_option maxRecDepth 100000 in
theorem c_X0_changeKind (l : Launch) (dC : Nat → ClassId) (dI : Nat → Nat → Nat) (sz : Nat) (cA : ClassId) (h1 b0 : Nat) (wc sv kv v : Int32) : Met l yX0_changeKind wsX0_changeKind ({ frames := 0, cells := 0, slots := 0, locals := 0 }) (va_Pc [.ref h1, .int v] (fun U => U.heap.size = sz ∧ va_P (dC, dI) vwCl [(h1, .inr (0, [.ref b0, .int wc, .int sv, .int kv]))] U.heap ∧ va_K (dC, dI) vwCl [(cA, .int)] U ∧ va_D (fun _ => True) [(h1, .inr (0, [.ref b0, .int wc, .int sv, .int kv]))])) (va_Qi (S := Unit) (fun r _ => r = kv) (fun (_ : Unit) (t : State) => va_P (dC, dI) vwCl [(h1, .inr (0, [.ref b0, .int wc, .int sv, .int v]))] t.heap ∧ va_K (dC, dI) vwCl [(cA, .int)] t ∧ va_D (va_A [(h1, .inr (0, [.ref b0, .int wc, .int sv, .int kv]))] sz) [(h1, .inr (0, [.ref b0, .int wc, .int sv, .int v]))]) (va_A [(h1, .inr (0, [.ref b0, .int wc, .int sv, .int kv]))] sz)) 0 0 (va_A [(h1, .inr (0, [.ref b0, .int wc, .int sv, .int kv]))] sz) := by
  refine Met.ofW (cc := cX0_changeKind) (maxL := 3) (ret := (some .int)) (by decide) rfl ?_
  intro p e s m args below meth c s₁ B hml hv
  obtain ⟨rfl, hsz, hP, hK, hD0⟩ := hv
  have hx := B.exec
  have hb := B.bytes
  have hr := B.returns
  have hts := atoms_spec (ws := wsX0_changeKind) B.pre
  have hown : s.vm.findClass RX0 = some m.cls := findClass_of_methodNamed B.named
  have hlocks := B.notSynchronized
  subst hsz
  have hD := hD0.self (sz := s.heap.size)
  generalize hAe : va_A [(h1, .inr (0, [.ref b0, .int wc, .int sv, .int kv]))] s.heap.size = A at hD ⊢
  have hA : ∀ q : Nat, s.heap.size ≤ q → A q := fun q h => by rw [← hAe]; exact Or.inr h
  have hS : va_S A s.heap s.heap [] := va_S.rf
  have hP : va_P (dC, dI) vwCl [(h1, .inr (0, [.ref b0, .int wc, .int sv, .int kv]))] s.heap := hP
  have hl := lv_entry ([.ref h1, .int v]) (n := 3) (Nat.le_of_ble_eq_true rfl)
  rw [lg_entry_eq]
  generalize (lg_sl ([.ref h1, .int v]) ++ List.replicate (3 - (lg_sl ([.ref h1, .int v])).length) Slot.unset).toArray = ls at hl ⊢
  have hl : lv_has ls 3 [(0, .ref h1), (1, .int v)] := hl
  refine lv_aload_n hx hb dX0_changeKind_0 rfl (lv_at hl 0 rfl) ?_
  refine va_get (D := (dC, dI)) (ci := 0) (v := .int kv) (C := RX0) (T := TX0) (N := 4) hx hb hts (by decide +kernel) hown hK hP 0 rfl rfl 3 (by decide) (hts (.fieldLink RX0 22 "CountedOut$Counts" "kind" "I") (by decide +kernel)) (fun _ h9 => h9) rfl dX0_changeKind_1 ?_
  refine lv_istore_n (lv' := [(2, .int kv), (0, .ref h1), (1, .int v)]) hx hb dX0_changeKind_4 rfl hl (by decide) rfl (fun ls hl => ?_)
  refine lv_aload_n hx hb dX0_changeKind_5 rfl (lv_at hl 1 rfl) ?_
  refine lv_iload_n hx hb dX0_changeKind_6 rfl (lv_at hl 2 rfl) ?_
  refine va_put (D := (dC, dI)) (ci := 0) (v := .int v) (ty := .int) (C := RX0) (T := TX0) (N := 4) hx hb hts (by decide +kernel) tyX0 tyX0_ok nmX0 hown hK hP hD hS 0 rfl rfl 3 (by decide) (hts (.fieldLink RX0 22 "CountedOut$Counts" "kind" "I") (by decide +kernel)) (fun _ h9 => h9) rfl (by decide +kernel) rfl rfl (Nat.le_of_ble_eq_true rfl) dX0_changeKind_7 (fun H locs hP hD hS => ?_)
  have hP : va_P (dC, dI) vwCl [(h1, .inr (0, [.ref b0, .int wc, .int sv, .int v]))] H := hP
  have hD : va_D A [(h1, .inr (0, [.ref b0, .int wc, .int sv, .int v]))] := hD
  refine lv_iload_n hx hb dX0_changeKind_10 rfl (lv_at hl 0 rfl) ?_
  have hP9 := hP.sub (ws' := [(h1, .inr (0, [.ref b0, .int wc, .int sv, .int v]))]) [0] rfl
  have hD9 := hD.sub (ws' := [(h1, .inr (0, [.ref b0, .int wc, .int sv, .int v]))]) [0] (by decide) rfl
  exact W.iret (v := kv) hx hb hr (fun t ht hW => ⟨⟨_, (), rfl, rfl, ⟨by rw [ht]; exact hP9, va_K.moved hW.alike hK, hD9⟩⟩, hS.F ht⟩) hS.2.2 dX0_changeKind_11

set_option maxHeartbeats 4000000 in
set_option maxRecDepth 100000 in
theorem c_X0_takeWords (l : Launch) (dC : Nat → ClassId) (dI : Nat → Nat → Nat) (sz : Nat) (cA : ClassId) (h1 b0 : Nat) (wc sv kv n a b c0 d : Int32) (WR : Nat → Int32) : Met l yX0_takeWords wsX0_takeWords ({ frames := 0, cells := 0, slots := 0, locals := 0 }) (va_Pc [.ref h1, .int n, .int a, .int b, .int c0, .int d] (fun U => U.heap.size = sz ∧ va_P (dC, dI) vwCl [(h1, .inr (0, [.ref b0, .int wc, .int sv, .int kv])), (b0, .inl (cA, 8, .inl WR))] U.heap ∧ va_K (dC, dI) vwCl [(cA, .int)] U ∧ va_D (fun _ => True) [(h1, .inr (0, [.ref b0, .int wc, .int sv, .int kv])), (b0, .inl (cA, 8, .inl WR))])) (va_Qv (S := Unit) (fun _ => True) (fun (_ : Unit) (t : State) => va_P (dC, dI) vwCl [(h1, .inr (0, [.ref b0, .int n, .int sv, .int kv])), (b0, .inl (cA, 8, .inl (upd (upd (upd (upd WR 0 a) 1 b) 2 c0) 3 d)))] t.heap ∧ va_K (dC, dI) vwCl [(cA, .int)] t ∧ va_D (va_A [(h1, .inr (0, [.ref b0, .int wc, .int sv, .int kv])), (b0, .inl (cA, 8, .inl WR))] sz) [(h1, .inr (0, [.ref b0, .int n, .int sv, .int kv])), (b0, .inl (cA, 8, .inl (upd (upd (upd (upd WR 0 a) 1 b) 2 c0) 3 d)))]) (va_A [(h1, .inr (0, [.ref b0, .int wc, .int sv, .int kv])), (b0, .inl (cA, 8, .inl WR))] sz)) 0 0 (va_A [(h1, .inr (0, [.ref b0, .int wc, .int sv, .int kv])), (b0, .inl (cA, 8, .inl WR))] sz) := by
  refine Met.ofW (cc := cX0_takeWords) (maxL := 6) (ret := none) (by decide) rfl ?_
  intro p e s m args below meth c s₁ B hml hv
  obtain ⟨rfl, hsz, hP, hK, hD0⟩ := hv
  have hx := B.exec
  have hb := B.bytes
  have hr := B.returns
  have hts := atoms_spec (ws := wsX0_takeWords) B.pre
  have hown : s.vm.findClass RX0 = some m.cls := findClass_of_methodNamed B.named
  have hlocks := B.notSynchronized
  subst hsz
  have hD := hD0.self (sz := s.heap.size)
  generalize hAe : va_A [(h1, .inr (0, [.ref b0, .int wc, .int sv, .int kv])), (b0, .inl (cA, 8, .inl WR))] s.heap.size = A at hD ⊢
  have hA : ∀ q : Nat, s.heap.size ≤ q → A q := fun q h => by rw [← hAe]; exact Or.inr h
  have hS : va_S A s.heap s.heap [] := va_S.rf
  have hP : va_P (dC, dI) vwCl [(h1, .inr (0, [.ref b0, .int wc, .int sv, .int kv])), (b0, .inl (cA, 8, .inl WR))] s.heap := hP
  have hl := lv_entry ([.ref h1, .int n, .int a, .int b, .int c0, .int d]) (n := 6) (Nat.le_of_ble_eq_true rfl)
  rw [lg_entry_eq]
  generalize (lg_sl ([.ref h1, .int n, .int a, .int b, .int c0, .int d]) ++ List.replicate (6 - (lg_sl ([.ref h1, .int n, .int a, .int b, .int c0, .int d])).length) Slot.unset).toArray = ls at hl ⊢
  have hl : lv_has ls 6 [(0, .ref h1), (1, .int n), (2, .int a), (3, .int b), (4, .int c0), (5, .int d)] := hl
  refine lv_aload_n hx hb dX0_takeWords_0 rfl (lv_at hl 0 rfl) ?_
  refine va_get (D := (dC, dI)) (ci := 0) (v := .ref b0) (C := RX0) (T := TX0) (N := 4) hx hb hts (by decide +kernel) hown hK hP 0 rfl rfl 0 (by decide) (hts (.fieldLink RX0 9 "CountedOut$Counts" "wordRow" "[I") (by decide +kernel)) (fun _ h9 => h9) rfl dX0_takeWords_1 ?_
  refine lv_iconst (v := 0) hx hb dX0_takeWords_4 (by decide) ?_
  refine lv_iload_n hx hb dX0_takeWords_5 rfl (lv_at hl 2 rfl) ?_
  refine z_iast hx hb hK hP hD hS 1 0 rfl rfl (i := 0) (by decide) (by decide) dX0_takeWords_6 (fun H locs hP hD hS => ?_)
  have hP : va_P (dC, dI) vwCl [(h1, .inr (0, [.ref b0, .int wc, .int sv, .int kv])), (b0, .inl (cA, 8, .inl (upd WR 0 a)))] H := hP
  have hD : va_D A [(h1, .inr (0, [.ref b0, .int wc, .int sv, .int kv])), (b0, .inl (cA, 8, .inl (upd WR 0 a)))] := hD
  refine lv_aload_n hx hb dX0_takeWords_7 rfl (lv_at hl 0 rfl) ?_
  refine va_get (D := (dC, dI)) (ci := 0) (v := .ref b0) (C := RX0) (T := TX0) (N := 4) hx hb hts (by decide +kernel) hown hK hP 0 rfl rfl 0 (by decide) (hts (.fieldLink RX0 9 "CountedOut$Counts" "wordRow" "[I") (by decide +kernel)) (fun _ h9 => h9) rfl dX0_takeWords_8 ?_
  refine lv_iconst (v := 1) hx hb dX0_takeWords_11 (by decide) ?_
  refine lv_iload_n hx hb dX0_takeWords_12 rfl (lv_at hl 3 rfl) ?_
  refine z_iast hx hb hK hP hD hS 1 0 rfl rfl (i := 1) (by decide) (by decide) dX0_takeWords_13 (fun H locs hP hD hS => ?_)
  have hP : va_P (dC, dI) vwCl [(h1, .inr (0, [.ref b0, .int wc, .int sv, .int kv])), (b0, .inl (cA, 8, .inl (upd (upd WR 0 a) 1 b)))] H := hP
  have hD : va_D A [(h1, .inr (0, [.ref b0, .int wc, .int sv, .int kv])), (b0, .inl (cA, 8, .inl (upd (upd WR 0 a) 1 b)))] := hD
  refine lv_aload_n hx hb dX0_takeWords_14 rfl (lv_at hl 0 rfl) ?_
  refine va_get (D := (dC, dI)) (ci := 0) (v := .ref b0) (C := RX0) (T := TX0) (N := 4) hx hb hts (by decide +kernel) hown hK hP 0 rfl rfl 0 (by decide) (hts (.fieldLink RX0 9 "CountedOut$Counts" "wordRow" "[I") (by decide +kernel)) (fun _ h9 => h9) rfl dX0_takeWords_15 ?_
  refine lv_iconst (v := 2) hx hb dX0_takeWords_18 (by decide) ?_
  refine lv_iload hx hb dX0_takeWords_19 (lv_at hl 4 rfl) ?_
  refine z_iast hx hb hK hP hD hS 1 0 rfl rfl (i := 2) (by decide) (by decide) dX0_takeWords_21 (fun H locs hP hD hS => ?_)
  have hP : va_P (dC, dI) vwCl [(h1, .inr (0, [.ref b0, .int wc, .int sv, .int kv])), (b0, .inl (cA, 8, .inl (upd (upd (upd WR 0 a) 1 b) 2 c0)))] H := hP
  have hD : va_D A [(h1, .inr (0, [.ref b0, .int wc, .int sv, .int kv])), (b0, .inl (cA, 8, .inl (upd (upd (upd WR 0 a) 1 b) 2 c0)))] := hD
  refine lv_aload_n hx hb dX0_takeWords_22 rfl (lv_at hl 0 rfl) ?_
  refine va_get (D := (dC, dI)) (ci := 0) (v := .ref b0) (C := RX0) (T := TX0) (N := 4) hx hb hts (by decide +kernel) hown hK hP 0 rfl rfl 0 (by decide) (hts (.fieldLink RX0 9 "CountedOut$Counts" "wordRow" "[I") (by decide +kernel)) (fun _ h9 => h9) rfl dX0_takeWords_23 ?_
  refine lv_iconst (v := 3) hx hb dX0_takeWords_26 (by decide) ?_
  refine lv_iload hx hb dX0_takeWords_27 (lv_at hl 5 rfl) ?_
  refine z_iast hx hb hK hP hD hS 1 0 rfl rfl (i := 3) (by decide) (by decide) dX0_takeWords_29 (fun H locs hP hD hS => ?_)
  have hP : va_P (dC, dI) vwCl [(h1, .inr (0, [.ref b0, .int wc, .int sv, .int kv])), (b0, .inl (cA, 8, .inl (upd (upd (upd (upd WR 0 a) 1 b) 2 c0) 3 d)))] H := hP
  have hD : va_D A [(h1, .inr (0, [.ref b0, .int wc, .int sv, .int kv])), (b0, .inl (cA, 8, .inl (upd (upd (upd (upd WR 0 a) 1 b) 2 c0) 3 d)))] := hD
  refine lv_aload_n hx hb dX0_takeWords_30 rfl (lv_at hl 0 rfl) ?_
  refine lv_iload_n hx hb dX0_takeWords_31 rfl (lv_at hl 1 rfl) ?_
  refine va_put (D := (dC, dI)) (ci := 0) (v := .int n) (ty := .int) (C := RX0) (T := TX0) (N := 4) hx hb hts (by decide +kernel) tyX0 tyX0_ok nmX0 hown hK hP hD hS 0 rfl rfl 1 (by decide) (hts (.fieldLink RX0 15 "CountedOut$Counts" "wordCount" "I") (by decide +kernel)) (fun _ h9 => h9) rfl (by decide +kernel) rfl rfl (Nat.le_of_ble_eq_true rfl) dX0_takeWords_32 (fun H locs hP hD hS => ?_)
  have hP : va_P (dC, dI) vwCl [(h1, .inr (0, [.ref b0, .int n, .int sv, .int kv])), (b0, .inl (cA, 8, .inl (upd (upd (upd (upd WR 0 a) 1 b) 2 c0) 3 d)))] H := hP
  have hD : va_D A [(h1, .inr (0, [.ref b0, .int n, .int sv, .int kv])), (b0, .inl (cA, 8, .inl (upd (upd (upd (upd WR 0 a) 1 b) 2 c0) 3 d)))] := hD
  have hP9 := hP.sub (ws' := [(h1, .inr (0, [.ref b0, .int n, .int sv, .int kv])), (b0, .inl (cA, 8, .inl (upd (upd (upd (upd WR 0 a) 1 b) 2 c0) 3 d)))]) [0, 1] rfl
  have hD9 := hD.sub (ws' := [(h1, .inr (0, [.ref b0, .int n, .int sv, .int kv])), (b0, .inl (cA, 8, .inl (upd (upd (upd (upd WR 0 a) 1 b) 2 c0) 3 d)))]) [0, 1] (by decide) rfl
  exact W.vret hx hb hr (fun t ht hW => ⟨⟨(), rfl, trivial, ⟨by rw [ht]; exact hP9, va_K.moved hW.alike hK, hD9⟩⟩, hS.F ht⟩) hS.2.2 dX0_takeWords_35

set_option maxHeartbeats 4000000 in
set_option maxRecDepth 100000 in
theorem c_X0_mirrorWords (l : Launch) (dC : Nat → ClassId) (dI : Nat → Nat → Nat) (sz : Nat) (cA : ClassId) (h1 b0 : Nat) (n : Nat) (hn1 : 1 ≤ n) (hn : n ≤ 4) (sv kv : Int32) (WR : Nat → Int32) : Met l yX0_mirrorWords wsX0_mirrorWords ({ frames := 0, cells := 0, slots := 0, locals := 0 }) (va_Pc [.ref h1] (fun U => U.heap.size = sz ∧ va_P (dC, dI) vwCl [(h1, .inr (0, [.ref b0, .int (nI n), .int sv, .int kv])), (b0, .inl (cA, 8, .inl WR))] U.heap ∧ va_K (dC, dI) vwCl [(cA, .int)] U ∧ va_D (fun _ => True) [(h1, .inr (0, [.ref b0, .int (nI n), .int sv, .int kv])), (b0, .inl (cA, 8, .inl WR))])) (va_Qv (S := Nat → Int32) (fun u => ∀ i, i < 2 * n → u i = if i < n then WR i else WR (2 * n - 1 - i)) (fun (u : Nat → Int32) (t : State) => va_P (dC, dI) vwCl [(h1, .inr (0, [.ref b0, .int (nI (2 * n)), .int sv, .int kv])), (b0, .inl (cA, 8, .inl u))] t.heap ∧ va_K (dC, dI) vwCl [(cA, .int)] t ∧ va_D (va_A [(h1, .inr (0, [.ref b0, .int (nI n), .int sv, .int kv])), (b0, .inl (cA, 8, .inl WR))] sz) [(h1, .inr (0, [.ref b0, .int (nI (2 * n)), .int sv, .int kv])), (b0, .inl (cA, 8, .inl u))]) (va_A [(h1, .inr (0, [.ref b0, .int (nI n), .int sv, .int kv])), (b0, .inl (cA, 8, .inl WR))] sz)) 0 0 (va_A [(h1, .inr (0, [.ref b0, .int (nI n), .int sv, .int kv])), (b0, .inl (cA, 8, .inl WR))] sz) := by
  refine Met.ofW (cc := cX0_mirrorWords) (maxL := 2) (ret := none) (by decide) rfl ?_
  intro p e s m args below meth c s₁ B hml hv
  obtain ⟨rfl, hsz, hP, hK, hD0⟩ := hv
  have hx := B.exec
  have hb := B.bytes
  have hr := B.returns
  have hts := atoms_spec (ws := wsX0_mirrorWords) B.pre
  have hown : s.vm.findClass RX0 = some m.cls := findClass_of_methodNamed B.named
  have hlocks := B.notSynchronized
  subst hsz
  have hD := hD0.self (sz := s.heap.size)
  generalize hAe : va_A [(h1, .inr (0, [.ref b0, .int (nI n), .int sv, .int kv])), (b0, .inl (cA, 8, .inl WR))] s.heap.size = A at hD ⊢
  have hA : ∀ q : Nat, s.heap.size ≤ q → A q := fun q h => by rw [← hAe]; exact Or.inr h
  have hS : va_S A s.heap s.heap [] := va_S.rf
  have hP : va_P (dC, dI) vwCl [(h1, .inr (0, [.ref b0, .int (nI n), .int sv, .int kv])), (b0, .inl (cA, 8, .inl WR))] s.heap := hP
  have hl := lv_entry ([.ref h1]) (n := 2) (Nat.le_of_ble_eq_true rfl)
  rw [lg_entry_eq]
  generalize (lg_sl ([.ref h1]) ++ List.replicate (2 - (lg_sl ([.ref h1])).length) Slot.unset).toArray = ls at hl ⊢
  have hl : lv_has ls 2 [(0, .ref h1)] := hl
  refine lv_aload_n hx hb dX0_mirrorWords_0 rfl (lv_at hl 0 rfl) ?_
  refine va_get (D := (dC, dI)) (ci := 0) (v := .int (nI n)) (C := RX0) (T := TX0) (N := 4) hx hb hts (by decide +kernel) hown hK hP 0 rfl rfl 1 (by decide) (hts (.fieldLink RX0 15 "CountedOut$Counts" "wordCount" "I") (by decide +kernel)) (fun _ h9 => h9) rfl dX0_mirrorWords_1 ?_
  refine lv_iconst (v := 1) hx hb dX0_mirrorWords_4 (by decide) ?_
  refine lv_isub hx hb dX0_mirrorWords_5 ?_
  refine lv_istore_n (lv' := [(1, .int ((nI n) - 1)), (0, .ref h1)]) hx hb dX0_mirrorWords_6 rfl hl (by decide) rfl (fun ls hl => ?_)
  refine W_loop (σ := Nat × Nat × (Nat → Int32)) (fun xx ls H locs => match xx with | (r, k, V) => lv_has ls 2 [(0, .ref h1), (1, .int (nI r - 1))] ∧ va_P (dC, dI) vwCl [(h1, .inr (0, [.ref b0, .int (nI k), .int sv, .int kv])), (b0, .inl (cA, 8, .inl V))] H ∧ va_D A [(h1, .inr (0, [.ref b0, .int (nI k), .int sv, .int kv])), (b0, .inl (cA, 8, .inl V))] ∧ va_S A s.heap H locs ∧ r ≤ n ∧ k + r = 2 * n ∧ (∀ i, i < k → V i = if i < n then WR i else WR (2 * n - 1 - i))) (fun xx => match xx with | (r, k, V) => r) ?_ (n, n, WR) ⟨lv_sub hl [1, 0] rfl, hP, hD, hS, Nat.le_refl _, (by omega), (fun i hi => by rw [if_pos hi])⟩
  rintro ⟨r, k, V⟩ ls H locs ⟨hl, hP, hD, hS, hr0, hk, hV⟩ ih_7
  refine lv_iload_n hx hb dX0_mirrorWords_7 rfl (lv_at hl 1 rfl) ?_
  refine lv_if_lt (tgt := 51) hx hb dX0_mirrorWords_8 (by decide) (fun c_8 => ?_) (fun c_8 => ?_)
  · have c_8 : r = 0 := by rcases Nat.eq_zero_or_pos r with h | h <;> first | exact h | exact absurd (by rw [show r = (r - 1) + 1 by omega, nI_pred] at c_8; exact c_8) (nI_pos (by omega))
    obtain rfl : k = 2 * n := by omega
    have hP9 := hP.sub (ws' := [(h1, .inr (0, [.ref b0, .int (nI (2 * n)), .int sv, .int kv])), (b0, .inl (cA, 8, .inl V))]) [0, 1] rfl
    have hD9 := hD.sub (ws' := [(h1, .inr (0, [.ref b0, .int (nI (2 * n)), .int sv, .int kv])), (b0, .inl (cA, 8, .inl V))]) [0, 1] (by decide) rfl
    exact W.vret hx hb hr (fun t ht hW => ⟨⟨_, rfl, hV, ⟨by rw [ht]; exact hP9, va_K.moved hW.alike hK, hD9⟩⟩, hS.F ht⟩) hS.2.2 dX0_mirrorWords_51
  · obtain ⟨r0, rfl⟩ : ∃ r0, r = r0 + 1 := Nat.exists_eq_succ_of_ne_zero (fun h => c_8 (by rw [h]; decide))
    rw [nI_pred] at hl
    refine lv_aload_n hx hb dX0_mirrorWords_11 rfl (lv_at hl 0 rfl) ?_
    refine va_get (D := (dC, dI)) (ci := 0) (v := .int (nI k)) (C := RX0) (T := TX0) (N := 4) hx hb hts (by decide +kernel) hown hK hP 0 rfl rfl 1 (by decide) (hts (.fieldLink RX0 15 "CountedOut$Counts" "wordCount" "I") (by decide +kernel)) (fun _ h9 => h9) rfl dX0_mirrorWords_12 ?_
    refine lv_bipush (v := 8) hx hb dX0_mirrorWords_15 (by decide) ?_
    refine lv_icmp_ge (tgt := 51) hx hb dX0_mirrorWords_17 (by decide) (fun c_17 => ?_) (fun c_17 => ?_)
    · exact absurd ((nI_leI (a := 8) (b := k) (by omega) (by omega)).mp c_17) (by omega)
    · refine lv_aload_n hx hb dX0_mirrorWords_20 rfl (lv_at hl 0 rfl) ?_
      refine va_get (D := (dC, dI)) (ci := 0) (v := .ref b0) (C := RX0) (T := TX0) (N := 4) hx hb hts (by decide +kernel) hown hK hP 0 rfl rfl 0 (by decide) (hts (.fieldLink RX0 9 "CountedOut$Counts" "wordRow" "[I") (by decide +kernel)) (fun _ h9 => h9) rfl dX0_mirrorWords_21 ?_
      refine lv_aload_n hx hb dX0_mirrorWords_24 rfl (lv_at hl 0 rfl) ?_
      refine va_get (D := (dC, dI)) (ci := 0) (v := .int (nI k)) (C := RX0) (T := TX0) (N := 4) hx hb hts (by decide +kernel) hown hK hP 0 rfl rfl 1 (by decide) (hts (.fieldLink RX0 15 "CountedOut$Counts" "wordCount" "I") (by decide +kernel)) (fun _ h9 => h9) rfl dX0_mirrorWords_25 ?_
      refine lv_aload_n hx hb dX0_mirrorWords_28 rfl (lv_at hl 0 rfl) ?_
      refine va_get (D := (dC, dI)) (ci := 0) (v := .ref b0) (C := RX0) (T := TX0) (N := 4) hx hb hts (by decide +kernel) hown hK hP 0 rfl rfl 0 (by decide) (hts (.fieldLink RX0 9 "CountedOut$Counts" "wordRow" "[I") (by decide +kernel)) (fun _ h9 => h9) rfl dX0_mirrorWords_29 ?_
      refine lv_iload_n hx hb dX0_mirrorWords_32 rfl (lv_at hl 1 rfl) ?_
      refine z_iald hx hb hK hP 1 0 rfl rfl (i := r0) (by omega) (by decide) dX0_mirrorWords_33 ?_
      refine z_iast hx hb hK hP hD hS 1 0 rfl rfl (i := k) (by omega) (by decide) dX0_mirrorWords_34 (fun H locs hP hD hS => ?_)
      have hP : va_P (dC, dI) vwCl [(h1, .inr (0, [.ref b0, .int (nI k), .int sv, .int kv])), (b0, .inl (cA, 8, .inl (upd V k (V r0))))] H := hP
      have hD : va_D A [(h1, .inr (0, [.ref b0, .int (nI k), .int sv, .int kv])), (b0, .inl (cA, 8, .inl (upd V k (V r0))))] := hD
      refine lv_aload_n hx hb dX0_mirrorWords_35 rfl (lv_at hl 0 rfl) ?_
      refine lv_dup hx hb dX0_mirrorWords_36 rfl ?_
      refine va_get (D := (dC, dI)) (ci := 0) (v := .int (nI k)) (C := RX0) (T := TX0) (N := 4) hx hb hts (by decide +kernel) hown hK hP 0 rfl rfl 1 (by decide) (hts (.fieldLink RX0 15 "CountedOut$Counts" "wordCount" "I") (by decide +kernel)) (fun _ h9 => h9) rfl dX0_mirrorWords_37 ?_
      refine lv_iconst (v := 1) hx hb dX0_mirrorWords_40 (by decide) ?_
      refine lv_iadd hx hb dX0_mirrorWords_41 ?_
      refine z_i (y := nI (k + 1)) (nI_1 k) ?_
      refine va_put (D := (dC, dI)) (ci := 0) (v := .int (nI (k + 1))) (ty := .int) (C := RX0) (T := TX0) (N := 4) hx hb hts (by decide +kernel) tyX0 tyX0_ok nmX0 hown hK hP hD hS 0 rfl rfl 1 (by decide) (hts (.fieldLink RX0 15 "CountedOut$Counts" "wordCount" "I") (by decide +kernel)) (fun _ h9 => h9) rfl (by decide +kernel) rfl rfl (Nat.le_of_ble_eq_true rfl) dX0_mirrorWords_42 (fun H locs hP hD hS => ?_)
      have hP : va_P (dC, dI) vwCl [(h1, .inr (0, [.ref b0, .int (nI (k + 1)), .int sv, .int kv])), (b0, .inl (cA, 8, .inl (upd V k (V r0))))] H := hP
      have hD : va_D A [(h1, .inr (0, [.ref b0, .int (nI (k + 1)), .int sv, .int kv])), (b0, .inl (cA, 8, .inl (upd V k (V r0))))] := hD
      refine lv_iinc (v := nI r0 - 1) (lv' := [(1, .int (nI r0 - 1)), (0, .ref h1)]) hx hb dX0_mirrorWords_45 hl (k := 1) rfl (by rw [Int32.sub_eq_add_neg]; rfl) (by decide) rfl (fun ls hl => ?_)
      refine lv_goto (tgt := 7) hx hb dX0_mirrorWords_48 (by decide) ?_
      exact ih_7 (r0, k + 1, upd V k (V r0)) _ _ _ (by show r0 < r0 + 1; omega) ⟨lv_sub hl [1, 0] rfl, hP, hD, hS, (by omega), (by omega), mir_step hk hr0 hV⟩

set_option maxHeartbeats 4000000 in
set_option maxRecDepth 100000 in
theorem c_X0_wordOf (l : Launch) (dC : Nat → ClassId) (dI : Nat → Nat → Nat) (cA : ClassId) (h1 b0 : Nat) (st kd nw : Nat) (wd : Nat → Nat) (WR : Nat → Int32) (hCS : CS st kd nw wd) (hCR : CR nw wd WR) (t : Nat) (ht : t < 2 ^ 31) : Met l yX0_wordOf wsX0_wordOf ({ frames := 0, cells := 0, slots := 0, locals := 0 }) (va_Pc [.ref h1, .int (nI t)] (fun U => va_P (dC, dI) vwCl [(h1, .inr (0, [.ref b0, .int (nI nw), .int (nI st), .int (nI kd)])), (b0, .inl (cA, 8, .inl WR))] U.heap ∧ va_K (dC, dI) vwCl [(cA, .int)] U)) (vp_Si (fun r => r = nI (wd (t % nw)))) 0 0 (fun _ => False) := by
  refine Met.ofW (cc := cX0_wordOf) (maxL := 2) (ret := (some .int)) (by decide) rfl ?_
  intro p e s m args below meth c s₁ B hml hv
  obtain ⟨rfl, hP, hK⟩ := hv
  have hx := B.exec
  have hb := B.bytes
  have hr := B.returns
  have hts := atoms_spec (ws := wsX0_wordOf) B.pre
  have hown : s.vm.findClass RX0 = some m.cls := findClass_of_methodNamed B.named
  have hlocks := B.notSynchronized
  have hl := lv_entry ([.ref h1, .int (nI t)]) (n := 2) (Nat.le_of_ble_eq_true rfl)
  rw [lg_entry_eq]
  generalize (lg_sl ([.ref h1, .int (nI t)]) ++ List.replicate (2 - (lg_sl ([.ref h1, .int (nI t)])).length) Slot.unset).toArray = ls at hl ⊢
  have hl : lv_has ls 2 [(0, .ref h1), (1, .int (nI t))] := hl
  obtain ⟨hs1, hs2, hk2, hw1, hw2, hwd⟩ := id hCS
  have htm := Nat.mod_lt t (show 0 < nw by omega)
  have hwt := hwd _ htm
  refine lv_iload_n hx hb dX0_wordOf_0 rfl (lv_at hl 1 rfl) ?_
  refine lv_if_lt (tgt := 12) hx hb dX0_wordOf_1 (by decide) (fun c_1 => ?_) (fun c_1 => ?_)
  · exact absurd c_1 (nI_pos ht)
  · refine lv_aload_n hx hb dX0_wordOf_4 rfl (lv_at hl 0 rfl) ?_
    refine va_get (D := (dC, dI)) (ci := 0) (v := .int (nI nw)) (C := RX0) (T := TX0) (N := 4) hx hb hts (by decide +kernel) hown hK hP 0 rfl rfl 1 (by decide) (hts (.fieldLink RX0 15 "CountedOut$Counts" "wordCount" "I") (by decide +kernel)) (fun _ h9 => h9) rfl dX0_wordOf_5 ?_
    refine lv_iconst (v := 1) hx hb dX0_wordOf_8 (by decide) ?_
    refine lv_icmp_ge (tgt := 16) hx hb dX0_wordOf_9 (by decide) (fun c_9 => ?_) (fun c_9 => ?_)
    · refine lv_aload_n hx hb dX0_wordOf_16 rfl (lv_at hl 0 rfl) ?_
      refine va_get (D := (dC, dI)) (ci := 0) (v := .ref b0) (C := RX0) (T := TX0) (N := 4) hx hb hts (by decide +kernel) hown hK hP 0 rfl rfl 0 (by decide) (hts (.fieldLink RX0 9 "CountedOut$Counts" "wordRow" "[I") (by decide +kernel)) (fun _ h9 => h9) rfl dX0_wordOf_17 ?_
      refine lv_iload_n hx hb dX0_wordOf_20 rfl (lv_at hl 1 rfl) ?_
      refine lv_aload_n hx hb dX0_wordOf_21 rfl (lv_at hl 0 rfl) ?_
      refine va_get (D := (dC, dI)) (ci := 0) (v := .int (nI nw)) (C := RX0) (T := TX0) (N := 4) hx hb hts (by decide +kernel) hown hK hP 0 rfl rfl 1 (by decide) (hts (.fieldLink RX0 15 "CountedOut$Counts" "wordCount" "I") (by decide +kernel)) (fun _ h9 => h9) rfl dX0_wordOf_22 ?_
      refine lv_irem hx hb dX0_wordOf_25 (nI_ne0 (by omega) (by omega)) ?_
      refine z_i (y := nI (t % nw)) (pk_rem ht (by omega) (by omega)) ?_
      refine z_iald hx hb hK hP 1 0 rfl rfl (i := (t % nw)) (by omega) (by decide) dX0_wordOf_26 ?_
      refine z_i (y := nI (wd (t % nw))) (hCR _ htm) ?_
      exact W.iret (v := nI (wd (t % nw))) hx hb hr (fun t ht hW => ⟨_, rfl, rfl, ht⟩) (fun _ h => absurd h List.not_mem_nil) dX0_wordOf_27
    · exact absurd ((nI_leI (a := 1) (b := nw) (by omega) (by omega)).mpr hw1) c_9

set_option maxHeartbeats 4000000 in
set_option maxRecDepth 100000 in
theorem c_X0_wordy (l : Launch) (dC : Nat → ClassId) (dI : Nat → Nat → Nat) (cA : ClassId) (h1 b0 : Nat) (st kd nw : Nat) (wd : Nat → Nat) (WR : Nat → Int32) (hCS : CS st kd nw wd) (hCR : CR nw wd WR) (t : Nat) (ht : t < 2 ^ 31) : Met l yX0_wordy wsX0_wordy ({ frames := 1, cells := 0, slots := 0, locals := 21 }) (va_Pc [.ref h1, .int (nI t)] (fun U => va_P (dC, dI) vwCl [(h1, .inr (0, [.ref b0, .int (nI nw), .int (nI st), .int (nI kd)])), (b0, .inl (cA, 8, .inl WR))] U.heap ∧ va_K (dC, dI) vwCl [(cA, .int)] U)) (vp_Si (fun r => r = nI (st + wd (t % nw)))) 0 0 (fun _ => False) := by
  refine Met.ofW (cc := cX0_wordy) (maxL := 2) (ret := (some .int)) (by decide) rfl ?_
  intro p e s m args below meth c s₁ B hml hv
  obtain ⟨rfl, hP, hK⟩ := hv
  have hx := B.exec
  have hb := B.bytes
  have hr := B.returns
  have hts := atoms_spec (ws := wsX0_wordy) B.pre
  have hown : s.vm.findClass RX0 = some m.cls := findClass_of_methodNamed B.named
  have hlocks := B.notSynchronized
  have hl := lv_entry ([.ref h1, .int (nI t)]) (n := 2) (Nat.le_of_ble_eq_true rfl)
  rw [lg_entry_eq]
  generalize (lg_sl ([.ref h1, .int (nI t)]) ++ List.replicate (2 - (lg_sl ([.ref h1, .int (nI t)])).length) Slot.unset).toArray = ls at hl ⊢
  have hl : lv_has ls 2 [(0, .ref h1), (1, .int (nI t))] := hl
  obtain ⟨hs1, hs2, hk2, hw1, hw2, hwd⟩ := id hCS
  have htm := Nat.mod_lt t (show 0 < nw by omega)
  have hwt := hwd _ htm
  refine lv_aload_n hx hb dX0_wordy_0 rfl (lv_at hl 0 rfl) ?_
  refine va_get (D := (dC, dI)) (ci := 0) (v := .int (nI st)) (C := RX0) (T := TX0) (N := 4) hx hb hts (by decide +kernel) hown hK hP 0 rfl rfl 2 (by decide) (hts (.fieldLink RX0 19 "CountedOut$Counts" "step" "I") (by decide +kernel)) (fun _ h9 => h9) rfl dX0_wordy_1 ?_
  refine lv_aload_n hx hb dX0_wordy_4 rfl (lv_at hl 0 rfl) ?_
  refine lv_iload_n hx hb dX0_wordy_5 rfl (lv_at hl 1 rfl) ?_
  have hPc := hP.sub (ws' := [(h1, .inr (0, [.ref b0, .int (nI nw), .int (nI st), .int (nI kd)])), (b0, .inl (cA, 8, .inl WR))]) [0, 1] rfl
  refine vp_callSi (va_Run.run (va_runV (As := [.int (nI t)]) (rest := [.int (nI st)]) ⟨hx, hb, hml, hown, hts⟩ (c_X0_wordOf l dC dI cA h1 b0 st kd nw wd WR hCS hCR t ht) (cwV 1 hts gX0_wordy_X0_wordOf rfl rfl rfl (by decide +kernel) ⟨Nat.le_of_ble_eq_true rfl, Nat.le_of_ble_eq_true rfl⟩) ⟨fun a U g mk q => by obtain ⟨q0, qP, qK⟩ := q; exact ⟨q0, qP, va_K.moved (u := U) (U := U.calling g mk a) (Vm.Alike.refl U.vm) qK⟩, va_recv hK hP (ci := 0) (q0 := 0) rfl rfl, fun U hU hW => ⟨rfl, by rw [hU]; exact hPc, va_K.moved hW.alike hK⟩⟩ rfl rfl hl.1 rfl (lv_room (Nat.le_of_ble_eq_true rfl)) dX0_wordy_6 ⟨Nat.zero_le _, Nat.zero_le _⟩)) (fun r_6 hr_6 => ?_)
  subst hr_6
  refine lv_iadd hx hb dX0_wordy_9 ?_
  refine z_i (y := nI (st + wd (t % nw))) (nI_add _ _) ?_
  exact W.iret (v := nI (st + wd (t % nw))) hx hb hr (fun t ht hW => ⟨_, rfl, rfl, ht⟩) (fun _ h => absurd h List.not_mem_nil) dX0_wordy_10

set_option maxHeartbeats 4000000 in
set_option maxRecDepth 100000 in
theorem c_X0_turning (l : Launch) (dC : Nat → ClassId) (dI : Nat → Nat → Nat) (cA : ClassId) (h1 b0 : Nat) (st kd nw : Nat) (wd : Nat → Nat) (WR : Nat → Int32) (hCS : CS st kd nw wd) (hCR : CR nw wd WR) (t : Nat) (ht : t < 2 ^ 31) : Met l yX0_turning wsX0_turning ({ frames := 2, cells := 0, slots := 0, locals := 42 }) (va_Pc [.ref h1, .int (nI t)] (fun U => va_P (dC, dI) vwCl [(h1, .inr (0, [.ref b0, .int (nI nw), .int (nI st), .int (nI kd)])), (b0, .inl (cA, 8, .inl WR))] U.heap ∧ va_K (dC, dI) vwCl [(cA, .int)] U)) (vp_Si (fun r => r = cI (decide (t % 2 = 1)) (st + wd (t % nw)))) 0 0 (fun _ => False) := by
  refine Met.ofW (cc := cX0_turning) (maxL := 2) (ret := (some .int)) (by decide) rfl ?_
  intro p e s m args below meth c s₁ B hml hv
  obtain ⟨rfl, hP, hK⟩ := hv
  have hx := B.exec
  have hb := B.bytes
  have hr := B.returns
  have hts := atoms_spec (ws := wsX0_turning) B.pre
  have hown : s.vm.findClass RX0 = some m.cls := findClass_of_methodNamed B.named
  have hlocks := B.notSynchronized
  have hl := lv_entry ([.ref h1, .int (nI t)]) (n := 2) (Nat.le_of_ble_eq_true rfl)
  rw [lg_entry_eq]
  generalize (lg_sl ([.ref h1, .int (nI t)]) ++ List.replicate (2 - (lg_sl ([.ref h1, .int (nI t)])).length) Slot.unset).toArray = ls at hl ⊢
  have hl : lv_has ls 2 [(0, .ref h1), (1, .int (nI t))] := hl
  obtain ⟨hs1, hs2, hk2, hw1, hw2, hwd⟩ := id hCS
  have htm := Nat.mod_lt t (show 0 < nw by omega)
  have hwt := hwd _ htm
  have ht2 := Nat.mod_lt t (show 0 < 2 by decide)
  refine lv_iload_n hx hb dX0_turning_0 rfl (lv_at hl 1 rfl) ?_
  refine lv_iconst (v := 2) hx hb dX0_turning_1 (by decide) ?_
  refine lv_irem hx hb dX0_turning_2 (by decide) ?_
  refine z_i (y := nI (t % 2)) (pk_rem (d := 2) ht (by omega) (by omega)) ?_
  refine lv_if_ne (tgt := 14) hx hb dX0_turning_3 (by decide) (fun c_3 => ?_) (fun c_3 => ?_)
  · have c_3 : ¬ t % 2 = 0 := fun h => c_3 ((nI_eq (a := t % 2) (b := 0) (by omega) (by omega)).mpr h)
    refine lv_aload_n hx hb dX0_turning_14 rfl (lv_at hl 0 rfl) ?_
    refine lv_iload_n hx hb dX0_turning_15 rfl (lv_at hl 1 rfl) ?_
    have hPc := hP.sub (ws' := [(h1, .inr (0, [.ref b0, .int (nI nw), .int (nI st), .int (nI kd)])), (b0, .inl (cA, 8, .inl WR))]) [0, 1] rfl
    refine vp_callSi (va_Run.run (va_runV (As := [.int (nI t)]) (rest := []) ⟨hx, hb, hml, hown, hts⟩ (c_X0_wordy l dC dI cA h1 b0 st kd nw wd WR hCS hCR t ht) (cwV 1 hts gX0_turning_X0_wordy rfl rfl rfl (by decide +kernel) ⟨Nat.le_of_ble_eq_true rfl, Nat.le_of_ble_eq_true rfl⟩) ⟨fun a U g mk q => by obtain ⟨q0, qP, qK⟩ := q; exact ⟨q0, qP, va_K.moved (u := U) (U := U.calling g mk a) (Vm.Alike.refl U.vm) qK⟩, va_recv hK hP (ci := 0) (q0 := 0) rfl rfl, fun U hU hW => ⟨rfl, by rw [hU]; exact hPc, va_K.moved hW.alike hK⟩⟩ rfl rfl hl.1 rfl (lv_room (Nat.le_of_ble_eq_true rfl)) dX0_turning_16 ⟨Nat.zero_le _, Nat.zero_le _⟩)) (fun r_16 hr_16 => ?_)
    subst hr_16
    refine lv_ineg hx hb dX0_turning_19 ?_
    exact W.iret (v := -(nI (st + wd (t % nw)))) hx hb hr (fun t ht hW => ⟨_, rfl, by first | (rw [decide_eq_false (by omega)]; rfl) | (rw [decide_eq_true (by omega)]; rfl), ht⟩) (fun _ h => absurd h List.not_mem_nil) dX0_turning_20
  · have c_3 : t % 2 = 0 := (nI_eq (a := t % 2) (b := 0) (by omega) (by omega)).mp c_3
    refine lv_aload_n hx hb dX0_turning_6 rfl (lv_at hl 0 rfl) ?_
    refine lv_iload_n hx hb dX0_turning_7 rfl (lv_at hl 1 rfl) ?_
    have hPc := hP.sub (ws' := [(h1, .inr (0, [.ref b0, .int (nI nw), .int (nI st), .int (nI kd)])), (b0, .inl (cA, 8, .inl WR))]) [0, 1] rfl
    refine vp_callSi (va_Run.run (va_runV (As := [.int (nI t)]) (rest := []) ⟨hx, hb, hml, hown, hts⟩ (c_X0_wordy l dC dI cA h1 b0 st kd nw wd WR hCS hCR t ht) (cwV 1 hts gX0_turning_X0_wordy rfl rfl rfl (by decide +kernel) ⟨Nat.le_of_ble_eq_true rfl, Nat.le_of_ble_eq_true rfl⟩) ⟨fun a U g mk q => by obtain ⟨q0, qP, qK⟩ := q; exact ⟨q0, qP, va_K.moved (u := U) (U := U.calling g mk a) (Vm.Alike.refl U.vm) qK⟩, va_recv hK hP (ci := 0) (q0 := 0) rfl rfl, fun U hU hW => ⟨rfl, by rw [hU]; exact hPc, va_K.moved hW.alike hK⟩⟩ rfl rfl hl.1 rfl (lv_room (Nat.le_of_ble_eq_true rfl)) dX0_turning_8 ⟨Nat.zero_le _, Nat.zero_le _⟩)) (fun r_8 hr_8 => ?_)
    subst hr_8
    refine lv_goto (tgt := 20) hx hb dX0_turning_11 (by decide) ?_
    exact W.iret (v := nI (st + wd (t % nw))) hx hb hr (fun t ht hW => ⟨_, rfl, by first | (rw [decide_eq_false (by omega)]; rfl) | (rw [decide_eq_true (by omega)]; rfl), ht⟩) (fun _ h => absurd h List.not_mem_nil) dX0_turning_20

set_option maxHeartbeats 4000000 in
set_option maxRecDepth 100000 in
theorem c_X0_ofTurn (l : Launch) (dC : Nat → ClassId) (dI : Nat → Nat → Nat) (cA : ClassId) (h1 b0 : Nat) (st kd nw : Nat) (wd : Nat → Nat) (WR : Nat → Int32) (hCS : CS st kd nw wd) (hCR : CR nw wd WR) (t : Nat) (ht : t < 2 ^ 31) : Met l yX0_ofTurn wsX0_ofTurn ({ frames := 3, cells := 0, slots := 0, locals := 63 }) (va_Pc [.ref h1, .int (nI t)] (fun U => va_P (dC, dI) vwCl [(h1, .inr (0, [.ref b0, .int (nI nw), .int (nI st), .int (nI kd)])), (b0, .inl (cA, 8, .inl WR))] U.heap ∧ va_K (dC, dI) vwCl [(cA, .int)] U)) (vp_Si (fun r => r = cI (cNeg kd t) (cK st kd nw wd t))) 0 0 (fun _ => False) := by
  refine Met.ofW (cc := cX0_ofTurn) (maxL := 2) (ret := (some .int)) (by decide) rfl ?_
  intro p e s m args below meth c s₁ B hml hv
  obtain ⟨rfl, hP, hK⟩ := hv
  have hx := B.exec
  have hb := B.bytes
  have hr := B.returns
  have hts := atoms_spec (ws := wsX0_ofTurn) B.pre
  have hown : s.vm.findClass RX0 = some m.cls := findClass_of_methodNamed B.named
  have hlocks := B.notSynchronized
  have hl := lv_entry ([.ref h1, .int (nI t)]) (n := 2) (Nat.le_of_ble_eq_true rfl)
  rw [lg_entry_eq]
  generalize (lg_sl ([.ref h1, .int (nI t)]) ++ List.replicate (2 - (lg_sl ([.ref h1, .int (nI t)])).length) Slot.unset).toArray = ls at hl ⊢
  have hl : lv_has ls 2 [(0, .ref h1), (1, .int (nI t))] := hl
  obtain ⟨hs1, hs2, hk2, hw1, hw2, hwd⟩ := id hCS
  have htm := Nat.mod_lt t (show 0 < nw by omega)
  have hwt := hwd _ htm
  refine lv_aload_n hx hb dX0_ofTurn_0 rfl (lv_at hl 0 rfl) ?_
  refine va_get (D := (dC, dI)) (ci := 0) (v := .int (nI kd)) (C := RX0) (T := TX0) (N := 4) hx hb hts (by decide +kernel) hown hK hP 0 rfl rfl 3 (by decide) (hts (.fieldLink RX0 22 "CountedOut$Counts" "kind" "I") (by decide +kernel)) (fun _ h9 => h9) rfl dX0_ofTurn_1 ?_
  rcases (show kd = 0 ∨ kd = 1 ∨ kd = 2 by omega) with e9 | e9 | e9
  · refine lv_lookup (off := 40) (tgt := 44) hx hb dX0_ofTurn_4 (by decide) (by rw [e9]; decide) (by decide) ?_
    refine lv_aload_n hx hb dX0_ofTurn_44 rfl (lv_at hl 0 rfl) ?_
    refine va_get (D := (dC, dI)) (ci := 0) (v := .int (nI st)) (C := RX0) (T := TX0) (N := 4) hx hb hts (by decide +kernel) hown hK hP 0 rfl rfl 2 (by decide) (hts (.fieldLink RX0 19 "CountedOut$Counts" "step" "I") (by decide +kernel)) (fun _ h9 => h9) rfl dX0_ofTurn_45 ?_
    exact W.iret (v := nI st) hx hb hr (fun t ht hW => ⟨_, rfl, by rw [cNeg, cK, e9]; rfl, ht⟩) (fun _ h => absurd h List.not_mem_nil) dX0_ofTurn_48
  · refine lv_lookup (off := 28) (tgt := 32) hx hb dX0_ofTurn_4 (by decide) (by rw [e9]; decide) (by decide) ?_
    refine lv_aload_n hx hb dX0_ofTurn_32 rfl (lv_at hl 0 rfl) ?_
    refine lv_iload_n hx hb dX0_ofTurn_33 rfl (lv_at hl 1 rfl) ?_
    have hPc := hP.sub (ws' := [(h1, .inr (0, [.ref b0, .int (nI nw), .int (nI st), .int (nI kd)])), (b0, .inl (cA, 8, .inl WR))]) [0, 1] rfl
    refine vp_callSi (va_Run.run (va_runV (As := [.int (nI t)]) (rest := []) ⟨hx, hb, hml, hown, hts⟩ (c_X0_wordy l dC dI cA h1 b0 st kd nw wd WR hCS hCR t ht) (cwV 1 hts gX0_ofTurn_X0_wordy rfl rfl rfl (by decide +kernel) ⟨Nat.le_of_ble_eq_true rfl, Nat.le_of_ble_eq_true rfl⟩) ⟨fun a U g mk q => by obtain ⟨q0, qP, qK⟩ := q; exact ⟨q0, qP, va_K.moved (u := U) (U := U.calling g mk a) (Vm.Alike.refl U.vm) qK⟩, va_recv hK hP (ci := 0) (q0 := 0) rfl rfl, fun U hU hW => ⟨rfl, by rw [hU]; exact hPc, va_K.moved hW.alike hK⟩⟩ rfl rfl hl.1 rfl (lv_room (Nat.le_of_ble_eq_true rfl)) dX0_ofTurn_34 ⟨Nat.zero_le _, Nat.zero_le _⟩)) (fun r_34 hr_34 => ?_)
    subst hr_34
    exact W.iret (v := nI (st + wd (t % nw))) hx hb hr (fun t ht hW => ⟨_, rfl, by rw [cNeg, cK, e9]; rfl, ht⟩) (fun _ h => absurd h List.not_mem_nil) dX0_ofTurn_37
  · refine lv_lookup (off := 34) (tgt := 38) hx hb dX0_ofTurn_4 (by decide) (by rw [e9]; decide) (by decide) ?_
    refine lv_aload_n hx hb dX0_ofTurn_38 rfl (lv_at hl 0 rfl) ?_
    refine lv_iload_n hx hb dX0_ofTurn_39 rfl (lv_at hl 1 rfl) ?_
    have hPc := hP.sub (ws' := [(h1, .inr (0, [.ref b0, .int (nI nw), .int (nI st), .int (nI kd)])), (b0, .inl (cA, 8, .inl WR))]) [0, 1] rfl
    refine vp_callSi (va_Run.run (va_runV (As := [.int (nI t)]) (rest := []) ⟨hx, hb, hml, hown, hts⟩ (c_X0_turning l dC dI cA h1 b0 st kd nw wd WR hCS hCR t ht) (cwV 1 hts gX0_ofTurn_X0_turning rfl rfl rfl (by decide +kernel) ⟨Nat.le_of_ble_eq_true rfl, Nat.le_of_ble_eq_true rfl⟩) ⟨fun a U g mk q => by obtain ⟨q0, qP, qK⟩ := q; exact ⟨q0, qP, va_K.moved (u := U) (U := U.calling g mk a) (Vm.Alike.refl U.vm) qK⟩, va_recv hK hP (ci := 0) (q0 := 0) rfl rfl, fun U hU hW => ⟨rfl, by rw [hU]; exact hPc, va_K.moved hW.alike hK⟩⟩ rfl rfl hl.1 rfl (lv_room (Nat.le_of_ble_eq_true rfl)) dX0_ofTurn_40 ⟨Nat.zero_le _, Nat.zero_le _⟩)) (fun r_40 hr_40 => ?_)
    subst hr_40
    exact W.iret (v := cI (decide (t % 2 = 1)) (st + wd (t % nw))) hx hb hr (fun t ht hW => ⟨_, rfl, by rw [cNeg, cK, e9]; rfl, ht⟩) (fun _ h => absurd h List.not_mem_nil) dX0_ofTurn_43

set_option maxHeartbeats 4000000 in
set_option maxRecDepth 100000 in
theorem c_X0_toll (l : Launch) (dC : Nat → ClassId) (dI : Nat → Nat → Nat) (cA : ClassId) (h1 b0 : Nat) (tt : Nat) (kd : Nat) (hkd : kd ≤ 2) (wc sv : Int32) : Met l yX0_toll wsX0_toll ({ frames := 0, cells := 0, slots := 0, locals := 0 }) (va_Pc [.ref h1] (fun U => va_P (dC, dI) vwCl [(h1, .inr (0, [.ref b0, .int wc, .int sv, .int (nI kd)]))] U.heap ∧ va_K (dC, dI) vwCl [(cA, .int)] U ∧ va_Z "CountedOut$Counts" "TOLLS" "[I" (.ref tt) (fun _ => False) U U.heap ∧ va_T .int tt 3 (fun j => .int (tollN j)) (fun _ => False) U U.heap)) (vp_Si (fun r => r = tollN kd)) 0 0 (fun _ => False) := by
  refine Met.ofW (cc := cX0_toll) (maxL := 1) (ret := (some .int)) (by decide) rfl ?_
  intro p e s m args below meth c s₁ B hml hv
  obtain ⟨rfl, hP, hK, hX⟩ := hv
  have hx := B.exec
  have hb := B.bytes
  have hr := B.returns
  have hts := atoms_spec (ws := wsX0_toll) B.pre
  have hown : s.vm.findClass RX0 = some m.cls := findClass_of_methodNamed B.named
  have hlocks := B.notSynchronized
  have hl := lv_entry ([.ref h1]) (n := 1) (Nat.le_of_ble_eq_true rfl)
  rw [lg_entry_eq]
  generalize (lg_sl ([.ref h1]) ++ List.replicate (1 - (lg_sl ([.ref h1])).length) Slot.unset).toArray = ls at hl ⊢
  have hl : lv_has ls 1 [(0, .ref h1)] := hl
  refine lv_aload_n hx hb dX0_toll_0 rfl (lv_at hl 0 rfl) ?_
  refine va_get (D := (dC, dI)) (ci := 0) (v := .int (nI kd)) (C := RX0) (T := TX0) (N := 4) hx hb hts (by decide +kernel) hown hK hP 0 rfl rfl 3 (by decide) (hts (.fieldLink RX0 22 "CountedOut$Counts" "kind" "I") (by decide +kernel)) (fun _ h9 => h9) rfl dX0_toll_1 ?_
  refine lv_if_lt (tgt := 18) hx hb dX0_toll_4 (by decide) (fun c_4 => ?_) (fun c_4 => ?_)
  · exact absurd c_4 (nI_pos (by omega))
  · refine lv_aload_n hx hb dX0_toll_7 rfl (lv_at hl 0 rfl) ?_
    refine va_get (D := (dC, dI)) (ci := 0) (v := .int (nI kd)) (C := RX0) (T := TX0) (N := 4) hx hb hts (by decide +kernel) hown hK hP 0 rfl rfl 3 (by decide) (hts (.fieldLink RX0 22 "CountedOut$Counts" "kind" "I") (by decide +kernel)) (fun _ h9 => h9) rfl dX0_toll_8 ?_
    refine va_gets (C := "CountedOut$Counts") (n := "TOLLS") (d := "[I") (v := .ref tt) hx hb hX.1 va_S.rf hown (hts (.fieldLink RX0 35 "CountedOut$Counts" "TOLLS" "[I") (by decide +kernel)) (fun _ h9 => h9) dX0_toll_11 ?_
    refine va_tlen hx hb hX.2 va_S.rf (v := 3) rfl dX0_toll_14 ?_
    refine lv_icmp_lt (tgt := 22) hx hb dX0_toll_15 (by decide) (fun c_15 => ?_) (fun c_15 => ?_)
    · refine va_gets (C := "CountedOut$Counts") (n := "TOLLS") (d := "[I") (v := .ref tt) hx hb hX.1 va_S.rf hown (hts (.fieldLink RX0 35 "CountedOut$Counts" "TOLLS" "[I") (by decide +kernel)) (fun _ h9 => h9) dX0_toll_22 ?_
      refine lv_aload_n hx hb dX0_toll_25 rfl (lv_at hl 0 rfl) ?_
      refine va_get (D := (dC, dI)) (ci := 0) (v := .int (nI kd)) (C := RX0) (T := TX0) (N := 4) hx hb hts (by decide +kernel) hown hK hP 0 rfl rfl 3 (by decide) (hts (.fieldLink RX0 22 "CountedOut$Counts" "kind" "I") (by decide +kernel)) (fun _ h9 => h9) rfl dX0_toll_26 ?_
      refine va_ti (v := .int (tollN kd)) hx hb hX.2 va_S.rf (vp_in_nI (show kd < 3 by omega) (by decide)) (by rw [nI_clamp (by omega)]) dX0_toll_29 ?_
      exact W.iret (v := tollN kd) hx hb hr (fun t ht hW => ⟨_, rfl, rfl, ht⟩) (fun _ h => absurd h List.not_mem_nil) dX0_toll_30
    · exact absurd ((nI_ltI (a := kd) (b := 3) (by omega) (by omega)).mpr (by omega)) c_15
