theorem lose_W {N p0 M w : Nat} {WA : Nat → Int32} (h : w = 1) : ∀ q, q < N → upd WA p0 (nI M) q = if q = p0 ∧ w = 1 then nI M else WA q := by
  intro q hq
  by_cases e : q = p0
  · subst e; rw [pk_us, if_pos ⟨rfl, h⟩]
  · rw [pk_un e, if_neg (fun h => e h.1)]
theorem back_W1 {N q : Nat} {WA : Nat → Int32} (h : WA q = -9) : ∀ p, p < N → WA p = if p = q then -9 else WA p := by
  intro p hp
  by_cases e : p = q
  · subst e; rw [if_pos rfl]; exact h
  · rw [if_neg e]
theorem back_W2 {N q : Nat} {WA : Nat → Int32} : ∀ p, p < N → upd WA q (-9) p = if p = q then -9 else WA p := by
  intro p hp
  by_cases e : p = q
  · subst e; rw [if_pos rfl, pk_us]
  · rw [if_neg e, pk_un e]
theorem beg_step {p0 : Nat} {V U : Nat → Int32} (h : ∀ q, q < p0 → V q = 1 ∧ U q = -9) : ∀ q, q < p0 + 1 → upd V p0 1 q = 1 ∧ upd U p0 (-9) q = -9 := by
  intro q hq
  by_cases e : q = p0
  · subst e; exact ⟨pk_us, pk_us⟩
  · rw [pk_un e, pk_un e]; exact h q (by omega)
def bk1 (Z : AS) : AS := match Z.1 with
  | [] => Z
  | (q, a) :: t => bS q a t Z
theorem nI_n9 {m : Nat} (h : m ≤ 40) : ¬ (-9 : Int32) = nI m := (by decide +kernel : ∀ m, m ≤ 40 → ¬ (-9 : Int32) = nI m) m h
theorem wI_eq {w m : Nat} (hw : w ≤ 40) (hm : m ≤ 40) : wI w = nI m ↔ (w = m ∧ 0 < m) := by
  unfold wI
  by_cases h : w = 0
  · rw [if_pos h]
    exact ⟨fun e => absurd e (nI_n9 hm), fun e => by omega⟩
  · rw [if_neg h, nI_eq (by omega) (by omega)]
    exact ⟨fun e => by omega, fun e => e.1⟩
set_option maxHeartbeats 4000000 in
set_option maxRecDepth 100000 in
theorem c_X1_has (l : Launch) (dC : Nat → ClassId) (dI : Nat → Nat → Nat) (cA : ClassId) (h2 a0 a1 a2 a3 : Nat) (N : Nat) (hN : N ≤ 40) (lf av dv p0 : Int32) : Met l yX1_has wsX1_has ({ frames := 0, cells := 0, slots := 0, locals := 0 }) (va_Pc [.ref h2, .int p0] (fun U => va_P (dC, dI) vwCl [(h2, .inr (1, [.ref a0, .ref a1, .ref a2, .ref a3, .int (nI N), .int lf, .int av, .int dv]))] U.heap ∧ va_K (dC, dI) vwCl [(cA, .int)] U)) (vp_Si (fun r => r = zb (wi p0.toInt 0 ((N : Int) - 1)))) 0 0 (fun _ => False) := by
  refine Met.ofW (cc := cX1_has) (maxL := 2) (ret := (some .boolean)) (by decide) rfl ?_
  intro p e s m args below meth c s₁ B hml hv
  obtain ⟨rfl, hP, hK⟩ := hv
  have hx := B.exec
  have hb := B.bytes
  have hr := B.returns
  have hts := atoms_spec (ws := wsX1_has) B.pre
  have hown : s.vm.findClass RX1 = some m.cls := findClass_of_methodNamed B.named
  have hlocks := B.notSynchronized
  have hl := lv_entry ([.ref h2, .int p0]) (n := 2) (Nat.le_of_ble_eq_true rfl)
  rw [lg_entry_eq]
  generalize (lg_sl ([.ref h2, .int p0]) ++ List.replicate (2 - (lg_sl ([.ref h2, .int p0])).length) Slot.unset).toArray = ls at hl ⊢
  have hl : lv_has ls 2 [(0, .ref h2), (1, .int p0)] := hl
  have e0 : (0 : Int32).toInt = 0 := rfl
  refine lv_iload_n hx hb dX1_has_0 rfl (lv_at hl 1 rfl) ?_
  refine lv_if_lt (tgt := 16) hx hb dX1_has_1 (by decide) (fun c_1 => ?_) (fun c_1 => ?_)
  · have c_1 : p0.toInt < 0 := by have h := (lt32 _ _).mp c_1; omega
    refine lv_iconst (v := 0) hx hb dX1_has_16 (by decide) ?_
    exact W.zret (v := 0) hx hb hr (rfl) (fun t ht hW => ⟨_, rfl, by first | (rw [zb_t (wi_t.mpr (by omega))]) | (rw [zb_f (wi_f.mpr (by omega))]), ht⟩) (fun _ h => absurd h List.not_mem_nil) dX1_has_17
  · have c_1 : 0 ≤ p0.toInt := by have h := mt (lt32 p0 0).mpr c_1; omega
    refine lv_iload_n hx hb dX1_has_4 rfl (lv_at hl 1 rfl) ?_
    refine lv_aload_n hx hb dX1_has_5 rfl (lv_at hl 0 rfl) ?_
    refine va_get (D := (dC, dI)) (ci := 1) (v := .int (nI N)) (C := RX1) (T := TX1) (N := 8) hx hb hts (by decide +kernel) hown hK hP 0 rfl rfl 4 (by decide) (hts (.fieldLink RX1 34 "CountedOut$Ring" "size" "I") (by decide +kernel)) (fun _ h9 => h9) rfl dX1_has_6 ?_
    refine lv_icmp_ge (tgt := 16) hx hb dX1_has_9 (by decide) (fun c_9 => ?_) (fun c_9 => ?_)
    · have c_9 : (N : Int) ≤ p0.toInt := by have h := (le32 _ _).mp c_9; rw [nI_toInt (by omega)] at h; exact h
      refine lv_iconst (v := 0) hx hb dX1_has_16 (by decide) ?_
      exact W.zret (v := 0) hx hb hr (rfl) (fun t ht hW => ⟨_, rfl, by first | (rw [zb_t (wi_t.mpr (by omega))]) | (rw [zb_f (wi_f.mpr (by omega))]), ht⟩) (fun _ h => absurd h List.not_mem_nil) dX1_has_17
    · have c_9 : p0.toInt < N := by have h := mt (le32 (nI N) p0).mpr c_9; rw [nI_toInt (by omega)] at h; omega
      refine lv_iconst (v := 1) hx hb dX1_has_12 (by decide) ?_
      refine lv_goto (tgt := 17) hx hb dX1_has_13 (by decide) ?_
      exact W.zret (v := 1) hx hb hr (rfl) (fun t ht hW => ⟨_, rfl, by first | (rw [zb_t (wi_t.mpr (by omega))]) | (rw [zb_f (wi_f.mpr (by omega))]), ht⟩) (fun _ h => absurd h List.not_mem_nil) dX1_has_17

set_option maxHeartbeats 4000000 in
set_option maxRecDepth 100000 in
theorem c_X1_hasBegun (l : Launch) (dC : Nat → ClassId) (dI : Nat → Nat → Nat) (cA : ClassId) (h2 a0 a1 a2 a3 : Nat) (d : Nat) (hd : d < 2 ^ 31) (sz0 lf av : Int32) : Met l yX1_hasBegun wsX1_hasBegun ({ frames := 0, cells := 0, slots := 0, locals := 0 }) (va_Pc [.ref h2] (fun U => va_P (dC, dI) vwCl [(h2, .inr (1, [.ref a0, .ref a1, .ref a2, .ref a3, .int sz0, .int lf, .int av, .int (nI d)]))] U.heap ∧ va_K (dC, dI) vwCl [(cA, .int)] U)) (vp_Si (fun r => r = zb (decide (0 < d)))) 0 0 (fun _ => False) := by
  refine Met.ofW (cc := cX1_hasBegun) (maxL := 1) (ret := (some .boolean)) (by decide) rfl ?_
  intro p e s m args below meth c s₁ B hml hv
  obtain ⟨rfl, hP, hK⟩ := hv
  have hx := B.exec
  have hb := B.bytes
  have hr := B.returns
  have hts := atoms_spec (ws := wsX1_hasBegun) B.pre
  have hown : s.vm.findClass RX1 = some m.cls := findClass_of_methodNamed B.named
  have hlocks := B.notSynchronized
  have hl := lv_entry ([.ref h2]) (n := 1) (Nat.le_of_ble_eq_true rfl)
  rw [lg_entry_eq]
  generalize (lg_sl ([.ref h2]) ++ List.replicate (1 - (lg_sl ([.ref h2])).length) Slot.unset).toArray = ls at hl ⊢
  have hl : lv_has ls 1 [(0, .ref h2)] := hl
  refine lv_aload_n hx hb dX1_hasBegun_0 rfl (lv_at hl 0 rfl) ?_
  refine va_get (D := (dC, dI)) (ci := 1) (v := .int (nI d)) (C := RX1) (T := TX1) (N := 8) hx hb hts (by decide +kernel) hown hK hP 0 rfl rfl 7 (by decide) (hts (.fieldLink RX1 44 "CountedOut$Ring" "done" "I") (by decide +kernel)) (fun _ h9 => h9) rfl dX1_hasBegun_1 ?_
  refine lv_if_le (tgt := 11) hx hb dX1_hasBegun_4 (by decide) (fun c_4 => ?_) (fun c_4 => ?_)
  · have c_4 : d ≤ 0 := (nI_leI (a := d) (b := 0) (by omega) (by omega)).mp c_4
    refine lv_iconst (v := 0) hx hb dX1_hasBegun_11 (by decide) ?_
    exact W.zret (v := 0) hx hb hr (rfl) (fun t ht hW => ⟨_, rfl, by first | (rw [decide_eq_true (by omega)]; rfl) | (rw [decide_eq_false (by omega)]; rfl), ht⟩) (fun _ h => absurd h List.not_mem_nil) dX1_hasBegun_12
  · have c_4 : 0 < d := Nat.lt_of_not_le (fun h => c_4 ((nI_leI (a := d) (b := 0) (by omega) (by omega)).mpr h))
    refine lv_iconst (v := 1) hx hb dX1_hasBegun_7 (by decide) ?_
    refine lv_goto (tgt := 12) hx hb dX1_hasBegun_8 (by decide) ?_
    exact W.zret (v := 1) hx hb hr (rfl) (fun t ht hW => ⟨_, rfl, by first | (rw [decide_eq_true (by omega)]; rfl) | (rw [decide_eq_false (by omega)]; rfl), ht⟩) (fun _ h => absurd h List.not_mem_nil) dX1_hasBegun_12

set_option maxHeartbeats 4000000 in
set_option maxRecDepth 100000 in
theorem c_X1_giveLives (l : Launch) (dC : Nat → ClassId) (dI : Nat → Nat → Nat) (sz : Nat) (cA : ClassId) (h2 a0 a1 a2 a3 : Nat) (sz0 lf av dv v : Int32) (p0 : Nat) (hp : p0 < 40) (LA : Nat → Int32) : Met l yX1_giveLives wsX1_giveLives ({ frames := 0, cells := 0, slots := 0, locals := 0 }) (va_Pc [.ref h2, .int (nI p0), .int v] (fun U => U.heap.size = sz ∧ va_P (dC, dI) vwCl [(h2, .inr (1, [.ref a0, .ref a1, .ref a2, .ref a3, .int sz0, .int lf, .int av, .int dv])), (a0, .inl (cA, 40, .inl LA))] U.heap ∧ va_K (dC, dI) vwCl [(cA, .int)] U ∧ va_D (fun _ => True) [(h2, .inr (1, [.ref a0, .ref a1, .ref a2, .ref a3, .int sz0, .int lf, .int av, .int dv])), (a0, .inl (cA, 40, .inl LA))])) (va_Qi (S := Unit) (fun r _ => r = LA p0) (fun (_ : Unit) (t : State) => va_P (dC, dI) vwCl [(h2, .inr (1, [.ref a0, .ref a1, .ref a2, .ref a3, .int sz0, .int lf, .int av, .int dv])), (a0, .inl (cA, 40, .inl (upd LA p0 v)))] t.heap ∧ va_K (dC, dI) vwCl [(cA, .int)] t ∧ va_D (va_A [(h2, .inr (1, [.ref a0, .ref a1, .ref a2, .ref a3, .int sz0, .int lf, .int av, .int dv])), (a0, .inl (cA, 40, .inl LA))] sz) [(h2, .inr (1, [.ref a0, .ref a1, .ref a2, .ref a3, .int sz0, .int lf, .int av, .int dv])), (a0, .inl (cA, 40, .inl (upd LA p0 v)))]) (va_A [(h2, .inr (1, [.ref a0, .ref a1, .ref a2, .ref a3, .int sz0, .int lf, .int av, .int dv])), (a0, .inl (cA, 40, .inl LA))] sz)) 0 0 (va_A [(h2, .inr (1, [.ref a0, .ref a1, .ref a2, .ref a3, .int sz0, .int lf, .int av, .int dv])), (a0, .inl (cA, 40, .inl LA))] sz) := by
  refine Met.ofW (cc := cX1_giveLives) (maxL := 4) (ret := (some .int)) (by decide) rfl ?_
  intro p e s m args below meth c s₁ B hml hv
  obtain ⟨rfl, hsz, hP, hK, hD0⟩ := hv
  have hx := B.exec
  have hb := B.bytes
  have hr := B.returns
  have hts := atoms_spec (ws := wsX1_giveLives) B.pre
  have hown : s.vm.findClass RX1 = some m.cls := findClass_of_methodNamed B.named
  have hlocks := B.notSynchronized
  subst hsz
  have hD := hD0.self (sz := s.heap.size)
  generalize hAe : va_A [(h2, .inr (1, [.ref a0, .ref a1, .ref a2, .ref a3, .int sz0, .int lf, .int av, .int dv])), (a0, .inl (cA, 40, .inl LA))] s.heap.size = A at hD ⊢
  have hA : ∀ q : Nat, s.heap.size ≤ q → A q := fun q h => by rw [← hAe]; exact Or.inr h
  have hS : va_S A s.heap s.heap [] := va_S.rf
  have hP : va_P (dC, dI) vwCl [(h2, .inr (1, [.ref a0, .ref a1, .ref a2, .ref a3, .int sz0, .int lf, .int av, .int dv])), (a0, .inl (cA, 40, .inl LA))] s.heap := hP
  have hl := lv_entry ([.ref h2, .int (nI p0), .int v]) (n := 4) (Nat.le_of_ble_eq_true rfl)
  rw [lg_entry_eq]
  generalize (lg_sl ([.ref h2, .int (nI p0), .int v]) ++ List.replicate (4 - (lg_sl ([.ref h2, .int (nI p0), .int v])).length) Slot.unset).toArray = ls at hl ⊢
  have hl : lv_has ls 4 [(0, .ref h2), (1, .int (nI p0)), (2, .int v)] := hl
  refine lv_aload_n hx hb dX1_giveLives_0 rfl (lv_at hl 0 rfl) ?_
  refine va_get (D := (dC, dI)) (ci := 1) (v := .ref a0) (C := RX1) (T := TX1) (N := 8) hx hb hts (by decide +kernel) hown hK hP 0 rfl rfl 0 (by decide) (hts (.fieldLink RX1 9 "CountedOut$Ring" "livesLeft" "[I") (by decide +kernel)) (fun _ h9 => h9) rfl dX1_giveLives_1 ?_
  refine lv_iload_n hx hb dX1_giveLives_4 rfl (lv_at hl 1 rfl) ?_
  refine z_iald hx hb hK hP 1 0 rfl rfl (i := p0) (hp) (by decide) dX1_giveLives_5 ?_
  refine lv_istore_n (lv' := [(3, .int (LA p0)), (0, .ref h2), (1, .int (nI p0)), (2, .int v)]) hx hb dX1_giveLives_6 rfl hl (by decide) rfl (fun ls hl => ?_)
  refine lv_aload_n hx hb dX1_giveLives_7 rfl (lv_at hl 1 rfl) ?_
  refine va_get (D := (dC, dI)) (ci := 1) (v := .ref a0) (C := RX1) (T := TX1) (N := 8) hx hb hts (by decide +kernel) hown hK hP 0 rfl rfl 0 (by decide) (hts (.fieldLink RX1 9 "CountedOut$Ring" "livesLeft" "[I") (by decide +kernel)) (fun _ h9 => h9) rfl dX1_giveLives_8 ?_
  refine lv_iload_n hx hb dX1_giveLives_11 rfl (lv_at hl 2 rfl) ?_
  refine lv_iload_n hx hb dX1_giveLives_12 rfl (lv_at hl 3 rfl) ?_
  refine z_iast hx hb hK hP hD hS 1 0 rfl rfl (i := p0) (hp) (by decide) dX1_giveLives_13 (fun H locs hP hD hS => ?_)
  have hP : va_P (dC, dI) vwCl [(h2, .inr (1, [.ref a0, .ref a1, .ref a2, .ref a3, .int sz0, .int lf, .int av, .int dv])), (a0, .inl (cA, 40, .inl (upd LA p0 v)))] H := hP
  have hD : va_D A [(h2, .inr (1, [.ref a0, .ref a1, .ref a2, .ref a3, .int sz0, .int lf, .int av, .int dv])), (a0, .inl (cA, 40, .inl (upd LA p0 v)))] := hD
  refine lv_iload_n hx hb dX1_giveLives_14 rfl (lv_at hl 0 rfl) ?_
  have hP9 := hP.sub (ws' := [(h2, .inr (1, [.ref a0, .ref a1, .ref a2, .ref a3, .int sz0, .int lf, .int av, .int dv])), (a0, .inl (cA, 40, .inl (upd LA p0 v)))]) [0, 1] rfl
  have hD9 := hD.sub (ws' := [(h2, .inr (1, [.ref a0, .ref a1, .ref a2, .ref a3, .int sz0, .int lf, .int av, .int dv])), (a0, .inl (cA, 40, .inl (upd LA p0 v)))]) [0, 1] (by decide) rfl
  exact W.iret (v := LA p0) hx hb hr (fun t ht hW => ⟨⟨_, (), rfl, rfl, ⟨by rw [ht]; exact hP9, va_K.moved hW.alike hK, hD9⟩⟩, hS.F ht⟩) hS.2.2 dX1_giveLives_15

set_option maxHeartbeats 4000000 in
set_option maxRecDepth 100000 in
theorem c_X1_begin (l : Launch) (dC : Nat → ClassId) (dI : Nat → Nat → Nat) (sz : Nat) (cA : ClassId) (h2 a0 a1 a2 a3 : Nat) (n : Nat) (hn1 : 1 ≤ n) (hn : n ≤ 40) (sz0 lf av dv : Int32) (LA WA : Nat → Int32) : Met l yX1_begin wsX1_begin ({ frames := 1, cells := 0, slots := 0, locals := 15 }) (va_Pc [.ref h2, .int (nI n)] (fun U => U.heap.size = sz ∧ va_P (dC, dI) vwCl [(h2, .inr (1, [.ref a0, .ref a1, .ref a2, .ref a3, .int sz0, .int lf, .int av, .int dv])), (a0, .inl (cA, 40, .inl LA)), (a1, .inl (cA, 40, .inl WA))] U.heap ∧ va_K (dC, dI) vwCl [(cA, .int)] U ∧ va_D (fun _ => True) [(h2, .inr (1, [.ref a0, .ref a1, .ref a2, .ref a3, .int sz0, .int lf, .int av, .int dv])), (a0, .inl (cA, 40, .inl LA)), (a1, .inl (cA, 40, .inl WA))])) (va_Qv (S := (Nat → Int32) × (Nat → Int32)) (fun u => ∀ q, q < n → u.1 q = 1 ∧ u.2 q = -9) (fun (u : (Nat → Int32) × (Nat → Int32)) (t : State) => va_P (dC, dI) vwCl [(h2, .inr (1, [.ref a0, .ref a1, .ref a2, .ref a3, .int (nI n), .int (nI n), .int 0, .int 0])), (a0, .inl (cA, 40, .inl u.1)), (a1, .inl (cA, 40, .inl u.2))] t.heap ∧ va_K (dC, dI) vwCl [(cA, .int)] t ∧ va_D (va_A [(h2, .inr (1, [.ref a0, .ref a1, .ref a2, .ref a3, .int sz0, .int lf, .int av, .int dv])), (a0, .inl (cA, 40, .inl LA)), (a1, .inl (cA, 40, .inl WA))] sz) [(h2, .inr (1, [.ref a0, .ref a1, .ref a2, .ref a3, .int (nI n), .int (nI n), .int 0, .int 0])), (a0, .inl (cA, 40, .inl u.1)), (a1, .inl (cA, 40, .inl u.2))]) (va_A [(h2, .inr (1, [.ref a0, .ref a1, .ref a2, .ref a3, .int sz0, .int lf, .int av, .int dv])), (a0, .inl (cA, 40, .inl LA)), (a1, .inl (cA, 40, .inl WA))] sz)) 0 0 (va_A [(h2, .inr (1, [.ref a0, .ref a1, .ref a2, .ref a3, .int sz0, .int lf, .int av, .int dv])), (a0, .inl (cA, 40, .inl LA)), (a1, .inl (cA, 40, .inl WA))] sz) := by
  refine Met.ofW (cc := cX1_begin) (maxL := 3) (ret := none) (by decide) rfl ?_
  intro p e s m args below meth c s₁ B hml hv
  obtain ⟨rfl, hsz, hP, hK, hD0⟩ := hv
  have hx := B.exec
  have hb := B.bytes
  have hr := B.returns
  have hts := atoms_spec (ws := wsX1_begin) B.pre
  have hown : s.vm.findClass RX1 = some m.cls := findClass_of_methodNamed B.named
  have hlocks := B.notSynchronized
  subst hsz
  have hD := hD0.self (sz := s.heap.size)
  generalize hAe : va_A [(h2, .inr (1, [.ref a0, .ref a1, .ref a2, .ref a3, .int sz0, .int lf, .int av, .int dv])), (a0, .inl (cA, 40, .inl LA)), (a1, .inl (cA, 40, .inl WA))] s.heap.size = A at hD ⊢
  have hA : ∀ q : Nat, s.heap.size ≤ q → A q := fun q h => by rw [← hAe]; exact Or.inr h
  have hS : va_S A s.heap s.heap [] := va_S.rf
  have hP : va_P (dC, dI) vwCl [(h2, .inr (1, [.ref a0, .ref a1, .ref a2, .ref a3, .int sz0, .int lf, .int av, .int dv])), (a0, .inl (cA, 40, .inl LA)), (a1, .inl (cA, 40, .inl WA))] s.heap := hP
  have hl := lv_entry ([.ref h2, .int (nI n)]) (n := 3) (Nat.le_of_ble_eq_true rfl)
  rw [lg_entry_eq]
  generalize (lg_sl ([.ref h2, .int (nI n)]) ++ List.replicate (3 - (lg_sl ([.ref h2, .int (nI n)])).length) Slot.unset).toArray = ls at hl ⊢
  have hl : lv_has ls 3 [(0, .ref h2), (1, .int (nI n))] := hl
  refine lv_aload_n hx hb dX1_begin_0 rfl (lv_at hl 0 rfl) ?_
  refine lv_iload_n hx hb dX1_begin_1 rfl (lv_at hl 1 rfl) ?_
  refine lv_bipush (v := 40) hx hb dX1_begin_2 (by decide) ?_
  refine va_mmin hx hb (hml.trans hl.1.symm) hown (hts (.methodLink RX1 28 Lib.Math.min.name) (by decide +kernel)) (hts (.static Lib.Math.min.name) (by decide +kernel)) (hts (.initialized "java/lang/Math") (by decide +kernel)) (hts _ (List.mem_cons_of_mem _ (List.mem_append_left _ (List.mem_of_getElem? (i := 3) rfl)))) (Nat.le_of_ble_eq_true rfl) (Nat.le_of_ble_eq_true rfl) (Nat.zero_le _) (Nat.zero_le _) dX1_begin_4 ?_
  refine z_i (y := nI n) (if_neg (fun h => by have := (nI_ltI (a := 40) (b := n) (by omega) (by omega)).mp h; omega)) ?_
  refine va_put (D := (dC, dI)) (ci := 1) (v := .int (nI n)) (ty := .int) (C := RX1) (T := TX1) (N := 8) hx hb hts (by decide +kernel) tyX1 tyX1_ok nmX1 hown hK hP hD hS 0 rfl rfl 4 (by decide) (hts (.fieldLink RX1 34 "CountedOut$Ring" "size" "I") (by decide +kernel)) (fun _ h9 => h9) rfl (by decide +kernel) rfl rfl (Nat.le_of_ble_eq_true rfl) dX1_begin_7 (fun H locs hP hD hS => ?_)
  have hP : va_P (dC, dI) vwCl [(h2, .inr (1, [.ref a0, .ref a1, .ref a2, .ref a3, .int (nI n), .int lf, .int av, .int dv])), (a0, .inl (cA, 40, .inl LA)), (a1, .inl (cA, 40, .inl WA))] H := hP
  have hD : va_D A [(h2, .inr (1, [.ref a0, .ref a1, .ref a2, .ref a3, .int (nI n), .int lf, .int av, .int dv])), (a0, .inl (cA, 40, .inl LA)), (a1, .inl (cA, 40, .inl WA))] := hD
  refine lv_aload_n hx hb dX1_begin_10 rfl (lv_at hl 0 rfl) ?_
  refine lv_aload_n hx hb dX1_begin_11 rfl (lv_at hl 0 rfl) ?_
  refine va_get (D := (dC, dI)) (ci := 1) (v := .int (nI n)) (C := RX1) (T := TX1) (N := 8) hx hb hts (by decide +kernel) hown hK hP 0 rfl rfl 4 (by decide) (hts (.fieldLink RX1 34 "CountedOut$Ring" "size" "I") (by decide +kernel)) (fun _ h9 => h9) rfl dX1_begin_12 ?_
  refine va_put (D := (dC, dI)) (ci := 1) (v := .int (nI n)) (ty := .int) (C := RX1) (T := TX1) (N := 8) hx hb hts (by decide +kernel) tyX1 tyX1_ok nmX1 hown hK hP hD hS 0 rfl rfl 5 (by decide) (hts (.fieldLink RX1 38 "CountedOut$Ring" "left" "I") (by decide +kernel)) (fun _ h9 => h9) rfl (by decide +kernel) rfl rfl (Nat.le_of_ble_eq_true rfl) dX1_begin_15 (fun H locs hP hD hS => ?_)
  have hP : va_P (dC, dI) vwCl [(h2, .inr (1, [.ref a0, .ref a1, .ref a2, .ref a3, .int (nI n), .int (nI n), .int av, .int dv])), (a0, .inl (cA, 40, .inl LA)), (a1, .inl (cA, 40, .inl WA))] H := hP
  have hD : va_D A [(h2, .inr (1, [.ref a0, .ref a1, .ref a2, .ref a3, .int (nI n), .int (nI n), .int av, .int dv])), (a0, .inl (cA, 40, .inl LA)), (a1, .inl (cA, 40, .inl WA))] := hD
  refine lv_aload_n hx hb dX1_begin_18 rfl (lv_at hl 0 rfl) ?_
  refine lv_iconst (v := 0) hx hb dX1_begin_19 (by decide) ?_
  refine va_put (D := (dC, dI)) (ci := 1) (v := .int 0) (ty := .int) (C := RX1) (T := TX1) (N := 8) hx hb hts (by decide +kernel) tyX1 tyX1_ok nmX1 hown hK hP hD hS 0 rfl rfl 6 (by decide) (hts (.fieldLink RX1 41 "CountedOut$Ring" "ahead" "I") (by decide +kernel)) (fun _ h9 => h9) rfl (by decide +kernel) rfl rfl (Nat.le_of_ble_eq_true rfl) dX1_begin_20 (fun H locs hP hD hS => ?_)
  have hP : va_P (dC, dI) vwCl [(h2, .inr (1, [.ref a0, .ref a1, .ref a2, .ref a3, .int (nI n), .int (nI n), .int 0, .int dv])), (a0, .inl (cA, 40, .inl LA)), (a1, .inl (cA, 40, .inl WA))] H := hP
  have hD : va_D A [(h2, .inr (1, [.ref a0, .ref a1, .ref a2, .ref a3, .int (nI n), .int (nI n), .int 0, .int dv])), (a0, .inl (cA, 40, .inl LA)), (a1, .inl (cA, 40, .inl WA))] := hD
  refine lv_aload_n hx hb dX1_begin_23 rfl (lv_at hl 0 rfl) ?_
  refine lv_iconst (v := 0) hx hb dX1_begin_24 (by decide) ?_
  refine va_put (D := (dC, dI)) (ci := 1) (v := .int 0) (ty := .int) (C := RX1) (T := TX1) (N := 8) hx hb hts (by decide +kernel) tyX1 tyX1_ok nmX1 hown hK hP hD hS 0 rfl rfl 7 (by decide) (hts (.fieldLink RX1 44 "CountedOut$Ring" "done" "I") (by decide +kernel)) (fun _ h9 => h9) rfl (by decide +kernel) rfl rfl (Nat.le_of_ble_eq_true rfl) dX1_begin_25 (fun H locs hP hD hS => ?_)
  have hP : va_P (dC, dI) vwCl [(h2, .inr (1, [.ref a0, .ref a1, .ref a2, .ref a3, .int (nI n), .int (nI n), .int 0, .int 0])), (a0, .inl (cA, 40, .inl LA)), (a1, .inl (cA, 40, .inl WA))] H := hP
  have hD : va_D A [(h2, .inr (1, [.ref a0, .ref a1, .ref a2, .ref a3, .int (nI n), .int (nI n), .int 0, .int 0])), (a0, .inl (cA, 40, .inl LA)), (a1, .inl (cA, 40, .inl WA))] := hD
  refine lv_iconst (v := 0) hx hb dX1_begin_28 (by decide) ?_
  refine lv_istore_n (lv' := [(2, .int 0), (0, .ref h2), (1, .int (nI n))]) hx hb dX1_begin_29 rfl hl (by decide) rfl (fun ls hl => ?_)
  refine W_loop (σ := Nat × (Nat → Int32) × (Nat → Int32)) (fun xx ls H locs => match xx with | (p0, V, U) => lv_has ls 3 [(0, .ref h2), (2, .int (nI p0))] ∧ va_P (dC, dI) vwCl [(h2, .inr (1, [.ref a0, .ref a1, .ref a2, .ref a3, .int (nI n), .int (nI n), .int 0, .int 0])), (a0, .inl (cA, 40, .inl V)), (a1, .inl (cA, 40, .inl U))] H ∧ va_D A [(h2, .inr (1, [.ref a0, .ref a1, .ref a2, .ref a3, .int (nI n), .int (nI n), .int 0, .int 0])), (a0, .inl (cA, 40, .inl V)), (a1, .inl (cA, 40, .inl U))] ∧ va_S A s.heap H locs ∧ p0 ≤ n ∧ (∀ q, q < p0 → V q = 1 ∧ U q = -9)) (fun xx => match xx with | (p0, V, U) => n - p0) ?_ (0, LA, WA) ⟨lv_sub hl [1, 0] rfl, hP, hD, hS, (by omega), (fun q hq => absurd hq (Nat.not_lt_zero _))⟩
  rintro ⟨p0, V, U⟩ ls H locs ⟨hl, hP, hD, hS, hp, hV⟩ ih_30
  refine lv_iload_n hx hb dX1_begin_30 rfl (lv_at hl 1 rfl) ?_
  refine lv_aload_n hx hb dX1_begin_31 rfl (lv_at hl 0 rfl) ?_
  refine va_get (D := (dC, dI)) (ci := 1) (v := .int (nI n)) (C := RX1) (T := TX1) (N := 8) hx hb hts (by decide +kernel) hown hK hP 0 rfl rfl 4 (by decide) (hts (.fieldLink RX1 34 "CountedOut$Ring" "size" "I") (by decide +kernel)) (fun _ h9 => h9) rfl dX1_begin_32 ?_
  refine lv_icmp_ge (tgt := 59) hx hb dX1_begin_35 (by decide) (fun c_35 => ?_) (fun c_35 => ?_)
  · have c_35 : n ≤ p0 := (nI_leI (a := n) (b := p0) (by omega) (by omega)).mp c_35
    have hP9 := hP.sub (ws' := [(h2, .inr (1, [.ref a0, .ref a1, .ref a2, .ref a3, .int (nI n), .int (nI n), .int 0, .int 0])), (a0, .inl (cA, 40, .inl V)), (a1, .inl (cA, 40, .inl U))]) [0, 1, 2] rfl
    have hD9 := hD.sub (ws' := [(h2, .inr (1, [.ref a0, .ref a1, .ref a2, .ref a3, .int (nI n), .int (nI n), .int 0, .int 0])), (a0, .inl (cA, 40, .inl V)), (a1, .inl (cA, 40, .inl U))]) [0, 1, 2] (by decide) rfl
    exact W.vret hx hb hr (fun t ht hW => ⟨⟨(_, _), rfl, fun q hq => hV q (by omega), ⟨by rw [ht]; exact hP9, va_K.moved hW.alike hK, hD9⟩⟩, hS.F ht⟩) hS.2.2 dX1_begin_59
  · have c_35 : p0 < n := Nat.lt_of_not_le (fun h => c_35 ((nI_leI (a := n) (b := p0) (by omega) (by omega)).mpr h))
    refine lv_aload_n hx hb dX1_begin_38 rfl (lv_at hl 0 rfl) ?_
    refine va_get (D := (dC, dI)) (ci := 1) (v := .ref a0) (C := RX1) (T := TX1) (N := 8) hx hb hts (by decide +kernel) hown hK hP 0 rfl rfl 0 (by decide) (hts (.fieldLink RX1 9 "CountedOut$Ring" "livesLeft" "[I") (by decide +kernel)) (fun _ h9 => h9) rfl dX1_begin_39 ?_
    refine lv_iload_n hx hb dX1_begin_42 rfl (lv_at hl 1 rfl) ?_
    refine lv_iconst (v := 1) hx hb dX1_begin_43 (by decide) ?_
    refine z_iast hx hb hK hP hD hS 1 0 rfl rfl (i := p0) (by omega) (by decide) dX1_begin_44 (fun H locs hP hD hS => ?_)
    have hP : va_P (dC, dI) vwCl [(h2, .inr (1, [.ref a0, .ref a1, .ref a2, .ref a3, .int (nI n), .int (nI n), .int 0, .int 0])), (a0, .inl (cA, 40, .inl (upd V p0 1))), (a1, .inl (cA, 40, .inl U))] H := hP
    have hD : va_D A [(h2, .inr (1, [.ref a0, .ref a1, .ref a2, .ref a3, .int (nI n), .int (nI n), .int 0, .int 0])), (a0, .inl (cA, 40, .inl (upd V p0 1))), (a1, .inl (cA, 40, .inl U))] := hD
    refine lv_aload_n hx hb dX1_begin_45 rfl (lv_at hl 0 rfl) ?_
    refine va_get (D := (dC, dI)) (ci := 1) (v := .ref a1) (C := RX1) (T := TX1) (N := 8) hx hb hts (by decide +kernel) hown hK hP 0 rfl rfl 1 (by decide) (hts (.fieldLink RX1 15 "CountedOut$Ring" "wentAs" "[I") (by decide +kernel)) (fun _ h9 => h9) rfl dX1_begin_46 ?_
    refine lv_iload_n hx hb dX1_begin_49 rfl (lv_at hl 1 rfl) ?_
    refine lv_bipush (v := (-9)) hx hb dX1_begin_50 (by decide) ?_
    refine z_iast hx hb hK hP hD hS 2 0 rfl rfl (i := p0) (by omega) (by decide) dX1_begin_52 (fun H locs hP hD hS => ?_)
    have hP : va_P (dC, dI) vwCl [(h2, .inr (1, [.ref a0, .ref a1, .ref a2, .ref a3, .int (nI n), .int (nI n), .int 0, .int 0])), (a0, .inl (cA, 40, .inl (upd V p0 1))), (a1, .inl (cA, 40, .inl (upd U p0 (-9))))] H := hP
    have hD : va_D A [(h2, .inr (1, [.ref a0, .ref a1, .ref a2, .ref a3, .int (nI n), .int (nI n), .int 0, .int 0])), (a0, .inl (cA, 40, .inl (upd V p0 1))), (a1, .inl (cA, 40, .inl (upd U p0 (-9))))] := hD
    refine lv_iinc (v := nI (p0 + 1)) (lv' := [(2, .int (nI (p0 + 1))), (0, .ref h2)]) hx hb dX1_begin_53 hl (k := 1) rfl (nI_1 p0) (by decide) rfl (fun ls hl => ?_)
    refine lv_goto (tgt := 30) hx hb dX1_begin_56 (by decide) ?_
    exact ih_30 (p0 + 1, upd V p0 1, upd U p0 (-9)) _ _ _ (by show n - (p0 + 1) < n - p0; omega) ⟨lv_sub hl [1, 0] rfl, hP, hD, hS, (by omega), beg_step hV⟩

set_option maxHeartbeats 4000000 in
set_option maxRecDepth 100000 in
theorem c_X1_nextLeft (l : Launch) (dC : Nat → ClassId) (dI : Nat → Nat → Nat) (cA : ClassId) (h2 a0 a1 a2 a3 : Nat) (N : Nat) (hN1 : 1 ≤ N) (hN : N ≤ 40) (L : Nat → Nat) (LA : Nat → Int32) (hLA : ∀ q, q < N → LA q = nI (L q)) (hL5 : ∀ q, q < N → L q ≤ 5) (lf av dv : Int32) (p0 : Nat) (hp : p0 < N) : Met l yX1_nextLeft wsX1_nextLeft ({ frames := 0, cells := 0, slots := 0, locals := 0 }) (va_Pc [.ref h2, .int (nI p0)] (fun U => va_P (dC, dI) vwCl [(h2, .inr (1, [.ref a0, .ref a1, .ref a2, .ref a3, .int (nI N), .int lf, .int av, .int dv])), (a0, .inl (cA, 40, .inl LA))] U.heap ∧ va_K (dC, dI) vwCl [(cA, .int)] U)) (vp_Si (fun r => r = nI (nextP (alv L) N p0))) 0 0 (fun _ => False) := by
  refine Met.ofW (cc := cX1_nextLeft) (maxL := 4) (ret := (some .int)) (by decide) rfl ?_
  intro p e s m args below meth c s₁ B hml hv
  obtain ⟨rfl, hP, hK⟩ := hv
  have hx := B.exec
  have hb := B.bytes
  have hr := B.returns
  have hts := atoms_spec (ws := wsX1_nextLeft) B.pre
  have hown : s.vm.findClass RX1 = some m.cls := findClass_of_methodNamed B.named
  have hlocks := B.notSynchronized
  have hl := lv_entry ([.ref h2, .int (nI p0)]) (n := 4) (Nat.le_of_ble_eq_true rfl)
  rw [lg_entry_eq]
  generalize (lg_sl ([.ref h2, .int (nI p0)]) ++ List.replicate (4 - (lg_sl ([.ref h2, .int (nI p0)])).length) Slot.unset).toArray = ls at hl ⊢
  have hl : lv_has ls 4 [(0, .ref h2), (1, .int (nI p0))] := hl
  refine lv_iload_n hx hb dX1_nextLeft_0 rfl (lv_at hl 1 rfl) ?_
  refine lv_istore_n (lv' := [(2, .int (nI p0)), (0, .ref h2), (1, .int (nI p0))]) hx hb dX1_nextLeft_1 rfl hl (by decide) rfl (fun ls hl => ?_)
  refine lv_iconst (v := 0) hx hb dX1_nextLeft_2 (by decide) ?_
  refine lv_istore_n (lv' := [(3, .int 0), (2, .int (nI p0)), (0, .ref h2), (1, .int (nI p0))]) hx hb dX1_nextLeft_3 rfl hl (by decide) rfl (fun ls hl => ?_)
  refine W_loopR (σ := Nat × Nat) (fun xx ls => match xx with | (i, b) => lv_has ls 4 [(0, .ref h2), (1, .int (nI p0)), (2, .int (nI b)), (3, .int (nI i))] ∧ i ≤ N ∧ b < N ∧ sr (alv L) N 1 (N - i) b p0 = nextP (alv L) N p0) (fun xx => match xx with | (i, b) => N - i) ?_ (0, p0) ⟨lv_sub hl [2, 3, 1, 0] rfl, (by omega), hp, rfl⟩
  rintro ⟨i, b⟩ ls ⟨hl, hi, hb1, hg⟩ ih_4
  refine lv_iload_n hx hb dX1_nextLeft_4 rfl (lv_at hl 3 rfl) ?_
  refine lv_aload_n hx hb dX1_nextLeft_5 rfl (lv_at hl 0 rfl) ?_
  refine va_get (D := (dC, dI)) (ci := 1) (v := .int (nI N)) (C := RX1) (T := TX1) (N := 8) hx hb hts (by decide +kernel) hown hK hP 0 rfl rfl 4 (by decide) (hts (.fieldLink RX1 34 "CountedOut$Ring" "size" "I") (by decide +kernel)) (fun _ h9 => h9) rfl dX1_nextLeft_6 ?_
  refine lv_icmp_ge (tgt := 47) hx hb dX1_nextLeft_9 (by decide) (fun c_9 => ?_) (fun c_9 => ?_)
  · have c_9 : N ≤ i := (nI_leI (a := N) (b := i) (by omega) (by omega)).mp c_9
    refine lv_iload_n hx hb dX1_nextLeft_47 rfl (lv_at hl 1 rfl) ?_
    exact W.iret (v := nI p0) hx hb hr (fun t ht hW => ⟨_, rfl, by rw [← hg, show N - i = 0 by omega]; rfl, ht⟩) (fun _ h => absurd h List.not_mem_nil) dX1_nextLeft_48
  · have c_9 : i < N := Nat.lt_of_not_le (fun h => c_9 ((nI_leI (a := N) (b := i) (by omega) (by omega)).mpr h))
    have hm := Nat.mod_lt (b + 1) (show 0 < N by omega)
    refine W_join (α := Int32) (pc' := 29) (ls' := ls) (st' := fun vj => [.int vj]) (Pj := fun vj => vj = nI ((b + 1) % N)) (fun J_29 => ?_) (fun v_29 hv_29 => ?_)
    · refine lv_iload_n hx hb dX1_nextLeft_12 rfl (lv_at hl 2 rfl) ?_
      refine lv_iconst (v := 1) hx hb dX1_nextLeft_13 (by decide) ?_
      refine lv_iadd hx hb dX1_nextLeft_14 ?_
      refine z_i (y := nI (b + 1)) (nI_1 b) ?_
      refine lv_aload_n hx hb dX1_nextLeft_15 rfl (lv_at hl 0 rfl) ?_
      refine va_get (D := (dC, dI)) (ci := 1) (v := .int (nI N)) (C := RX1) (T := TX1) (N := 8) hx hb hts (by decide +kernel) hown hK hP 0 rfl rfl 4 (by decide) (hts (.fieldLink RX1 34 "CountedOut$Ring" "size" "I") (by decide +kernel)) (fun _ h9 => h9) rfl dX1_nextLeft_16 ?_
      refine lv_icmp_ge (tgt := 28) hx hb dX1_nextLeft_19 (by decide) (fun c_19 => ?_) (fun c_19 => ?_)
      · have c_19 : N ≤ b + 1 := (nI_leI (a := N) (b := b + 1) (by omega) (by omega)).mp c_19
        refine lv_iconst (v := 0) hx hb dX1_nextLeft_28 (by decide) ?_
        exact J_29 _ (by first | (rw [Nat.mod_eq_of_lt c_19]) | (rw [show b + 1 = N by omega, Nat.mod_self]; rfl))
      · have c_19 : b + 1 < N := Nat.lt_of_not_le (fun h => c_19 ((nI_leI (a := N) (b := b + 1) (by omega) (by omega)).mpr h))
        refine lv_iload_n hx hb dX1_nextLeft_22 rfl (lv_at hl 2 rfl) ?_
        refine lv_iconst (v := 1) hx hb dX1_nextLeft_23 (by decide) ?_
        refine lv_iadd hx hb dX1_nextLeft_24 ?_
        refine z_i (y := nI (b + 1)) (nI_1 b) ?_
        refine lv_goto (tgt := 29) hx hb dX1_nextLeft_25 (by decide) ?_
        exact J_29 _ (by first | (rw [Nat.mod_eq_of_lt c_19]) | (rw [show b + 1 = N by omega, Nat.mod_self]; rfl))
    subst hv_29
    refine lv_istore_n (lv' := [(2, .int (nI ((b + 1) % N))), (0, .ref h2), (1, .int (nI p0)), (3, .int (nI i))]) hx hb dX1_nextLeft_29 rfl hl (by decide) rfl (fun ls hl => ?_)
    refine lv_aload_n hx hb dX1_nextLeft_30 rfl (lv_at hl 1 rfl) ?_
    refine va_get (D := (dC, dI)) (ci := 1) (v := .ref a0) (C := RX1) (T := TX1) (N := 8) hx hb hts (by decide +kernel) hown hK hP 0 rfl rfl 0 (by decide) (hts (.fieldLink RX1 9 "CountedOut$Ring" "livesLeft" "[I") (by decide +kernel)) (fun _ h9 => h9) rfl dX1_nextLeft_31 ?_
    refine lv_iload_n hx hb dX1_nextLeft_34 rfl (lv_at hl 0 rfl) ?_
    refine z_iald hx hb hK hP 1 0 rfl rfl (i := ((b + 1) % N)) (by omega) (by decide) dX1_nextLeft_35 ?_
    refine z_i (y := nI (L ((b + 1) % N))) (hLA _ hm) ?_
    have h5 := hL5 _ hm
    refine lv_if_le (tgt := 41) hx hb dX1_nextLeft_36 (by decide) (fun c_36 => ?_) (fun c_36 => ?_)
    · have c_36 : alv L ((b + 1) % N) = false := by have h := (nI_leI (b := 0) (by omega) (by omega)).mp c_36; simp only [alv, decide_eq_false_iff_not]; omega
      refine lv_iinc (v := nI (i + 1)) (lv' := [(3, .int (nI (i + 1))), (2, .int (nI ((b + 1) % N))), (0, .ref h2), (1, .int (nI p0))]) hx hb dX1_nextLeft_41 hl (k := 3) rfl (nI_1 i) (by decide) rfl (fun ls hl => ?_)
      refine lv_goto (tgt := 4) hx hb dX1_nextLeft_44 (by decide) ?_
      exact ih_4 (i + 1, (b + 1) % N) _ (by show N - (i + 1) < N - i; omega) ⟨lv_sub hl [2, 3, 1, 0] rfl, (by omega), hm, (by rw [← hg, show N - i = (N - (i + 1)) + 1 by omega, sr, if_neg (by rw [c_36]; decide)])⟩
    · have c_36 : alv L ((b + 1) % N) = true := by simp only [alv, decide_eq_true_eq]; exact Nat.pos_of_ne_zero (fun h => c_36 (by rw [h]; decide))
      refine lv_iload_n hx hb dX1_nextLeft_39 rfl (lv_at hl 0 rfl) ?_
      exact W.iret (v := nI ((b + 1) % N)) hx hb hr (fun t ht hW => ⟨_, rfl, by rw [← hg, show N - i = (N - (i + 1)) + 1 by omega, sr, if_pos c_36], ht⟩) (fun _ h => absurd h List.not_mem_nil) dX1_nextLeft_40

set_option maxHeartbeats 4000000 in
set_option maxRecDepth 100000 in
theorem c_X1_countedBy (l : Launch) (dC : Nat → ClassId) (dI : Nat → Nat → Nat) (cA : ClassId) (h2 a0 a1 a2 a3 : Nat) (N : Nat) (hN1 : 1 ≤ N) (hN : N ≤ 40) (L : Nat → Nat) (LA : Nat → Int32) (hLA : ∀ q, q < N → LA q = nI (L q)) (hL5 : ∀ q, q < N → L q ≤ 5) (ah : Nat) (hah : ah < N) (hal : 0 < L ah) (dv : Int32) (neg : Bool) (k : Nat) (hk1 : 1 ≤ k) (hk : k < 120) : Met l yX1_countedBy wsX1_countedBy ({ frames := 1, cells := 0, slots := 0, locals := 23 }) (va_Pc [.ref h2, .int (cI neg k)] (fun U => va_P (dC, dI) vwCl [(h2, .inr (1, [.ref a0, .ref a1, .ref a2, .ref a3, .int (nI N), .int (nI (bc (alv L) N)), .int (nI ah), .int dv])), (a0, .inl (cA, 40, .inl LA))] U.heap ∧ va_K (dC, dI) vwCl [(cA, .int)] U)) (vp_Si (fun r => r = nI (pick (alv L) N neg k ah))) 0 0 (fun _ => False) := by
  refine Met.ofW (cc := cX1_countedBy) (maxL := 5) (ret := (some .int)) (by decide) rfl ?_
  intro p e s m args below meth c s₁ B hml hv
  obtain ⟨rfl, hP, hK⟩ := hv
  have hx := B.exec
  have hb := B.bytes
  have hr := B.returns
  have hts := atoms_spec (ws := wsX1_countedBy) B.pre
  have hown : s.vm.findClass RX1 = some m.cls := findClass_of_methodNamed B.named
  have hlocks := B.notSynchronized
  have hl := lv_entry ([.ref h2, .int (cI neg k)]) (n := 5) (Nat.le_of_ble_eq_true rfl)
  rw [lg_entry_eq]
  generalize (lg_sl ([.ref h2, .int (cI neg k)]) ++ List.replicate (5 - (lg_sl ([.ref h2, .int (cI neg k)])).length) Slot.unset).toArray = ls at hl ⊢
  have hl : lv_has ls 5 [(0, .ref h2), (1, .int (cI neg k))] := hl
  have hcl := bc_le (alv L) N
  have hf : alv L ah = true := by simp only [alv, decide_eq_true_eq]; exact hal
  have hc1 := rk_lt hah hf
  refine lv_aload_n hx hb dX1_countedBy_0 rfl (lv_at hl 0 rfl) ?_
  refine va_get (D := (dC, dI)) (ci := 1) (v := .int (nI (bc (alv L) N))) (C := RX1) (T := TX1) (N := 8) hx hb hts (by decide +kernel) hown hK hP 0 rfl rfl 5 (by decide) (hts (.fieldLink RX1 38 "CountedOut$Ring" "left" "I") (by decide +kernel)) (fun _ h9 => h9) rfl dX1_countedBy_1 ?_
  refine lv_iconst (v := 1) hx hb dX1_countedBy_4 (by decide) ?_
  refine lv_icmp_ge (tgt := 13) hx hb dX1_countedBy_5 (by decide) (fun c_5 => ?_) (fun c_5 => ?_)
  · refine W_join (α := Int32) (pc' := 24) (ls' := ls) (st' := fun vj => [.int vj]) (Pj := fun vj => vj = (if neg = true then -nI k else nI (k - 1))) (fun J_24 => ?_) (fun v_24 hv_24 => ?_)
    · refine lv_iload_n hx hb dX1_countedBy_13 rfl (lv_at hl 1 rfl) ?_
      refine lv_if_le (tgt := 23) hx hb dX1_countedBy_14 (by decide) (fun c_14 => ?_) (fun c_14 => ?_)
      · refine lv_iload_n hx hb dX1_countedBy_23 rfl (lv_at hl 1 rfl) ?_
        exact J_24 _ (by cases neg with | true => (first | exact absurd (neg_le k hk) c_14 | rfl) | false => (first | exact pk_sub (b := 1) hk1 | exact absurd c_14 (nI_nle (by omega) (by omega))))
      · refine lv_iload_n hx hb dX1_countedBy_17 rfl (lv_at hl 1 rfl) ?_
        refine lv_iconst (v := 1) hx hb dX1_countedBy_18 (by decide) ?_
        refine lv_isub hx hb dX1_countedBy_19 ?_
        refine lv_goto (tgt := 24) hx hb dX1_countedBy_20 (by decide) ?_
        exact J_24 _ (by cases neg with | true => (first | exact absurd (neg_le k hk) c_14 | rfl) | false => (first | exact pk_sub (b := 1) hk1 | exact absurd c_14 (nI_nle (by omega) (by omega))))
    subst hv_24
    refine lv_aload_n hx hb dX1_countedBy_24 rfl (lv_at hl 0 rfl) ?_
    refine va_get (D := (dC, dI)) (ci := 1) (v := .int (nI (bc (alv L) N))) (C := RX1) (T := TX1) (N := 8) hx hb hts (by decide +kernel) hown hK hP 0 rfl rfl 5 (by decide) (hts (.fieldLink RX1 38 "CountedOut$Ring" "left" "I") (by decide +kernel)) (fun _ h9 => h9) rfl dX1_countedBy_25 ?_
    refine vp_callSi (va_Run.run (va_runS (As := [.int (if neg = true then -nI k else nI (k - 1)), .int (nI (bc (alv L) N))]) (rest := []) ⟨hx, hb, hml, hown, hts⟩ (c_J9_floorMod_7cf53 l dC dI (if neg = true then -nI k else nI (k - 1)) (nI (bc (alv L) N)) (nI_ne0 (by omega) (by omega))) (va_cwS 2 hts gX1_countedBy_J9_floorMod_7cf53 rfl rfl rfl (by decide +kernel) ⟨Nat.le_of_ble_eq_true rfl, Nat.le_of_ble_eq_true rfl⟩) ⟨fun a U g mk q => ⟨q.1, trivial⟩, fun U hU hW => ⟨rfl, trivial⟩⟩ rfl rfl hl.1 rfl (lv_room (Nat.le_of_ble_eq_true rfl)) dX1_countedBy_28 ⟨Nat.zero_le _, Nat.zero_le _⟩)) (fun r_28 hr_28 => ?_)
    obtain rfl : r_28 = nI (if neg = true then (bc (alv L) N - k % bc (alv L) N) % bc (alv L) N else (k - 1) % bc (alv L) N) := hr_28.trans (by cases neg with | true => exact fmI_neg k hk _ (by omega) (by omega) | false => exact fmI_pos (k - 1) (by omega) _ (by omega) (by omega))
    refine lv_istore_n (lv' := [(2, .int (nI (if neg = true then (bc (alv L) N - k % bc (alv L) N) % bc (alv L) N else (k - 1) % bc (alv L) N))), (0, .ref h2), (1, .int (cI neg k))]) hx hb dX1_countedBy_31 rfl hl (by decide) rfl (fun ls hl => ?_)
    have hsl : (if neg = true then (bc (alv L) N - k % bc (alv L) N) % bc (alv L) N else (k - 1) % bc (alv L) N) < 41 := by split <;> exact Nat.lt_of_lt_of_le (Nat.mod_lt _ (by omega)) (by omega)
    refine lv_aload_n hx hb dX1_countedBy_32 rfl (lv_at hl 1 rfl) ?_
    refine va_get (D := (dC, dI)) (ci := 1) (v := .int (nI ah)) (C := RX1) (T := TX1) (N := 8) hx hb hts (by decide +kernel) hown hK hP 0 rfl rfl 6 (by decide) (hts (.fieldLink RX1 41 "CountedOut$Ring" "ahead" "I") (by decide +kernel)) (fun _ h9 => h9) rfl dX1_countedBy_33 ?_
    refine lv_istore_n (lv' := [(3, .int (nI ah)), (2, .int (nI (if neg = true then (bc (alv L) N - k % bc (alv L) N) % bc (alv L) N else (k - 1) % bc (alv L) N))), (0, .ref h2), (1, .int (cI neg k))]) hx hb dX1_countedBy_36 rfl hl (by decide) rfl (fun ls hl => ?_)
    refine lv_iconst (v := 0) hx hb dX1_countedBy_37 (by decide) ?_
    refine lv_istore (lv' := [(4, .int 0), (3, .int (nI ah)), (2, .int (nI (if neg = true then (bc (alv L) N - k % bc (alv L) N) % bc (alv L) N else (k - 1) % bc (alv L) N))), (0, .ref h2), (1, .int (cI neg k))]) hx hb dX1_countedBy_38 hl (by decide) rfl (fun ls hl => ?_)
    refine W_loopR (σ := Nat × Nat) (fun xx ls => match xx with | (i, b) => lv_has ls 5 [(0, .ref h2), (2, .int (nI (if neg = true then (bc (alv L) N - k % bc (alv L) N) % bc (alv L) N else (k - 1) % bc (alv L) N))), (3, .int (nI b)), (4, .int (nI i))] ∧ i ≤ (if neg = true then (bc (alv L) N - k % bc (alv L) N) % bc (alv L) N else (k - 1) % bc (alv L) N) ∧ b < N ∧ alv L b = true ∧ itF (alv L) N ((if neg = true then (bc (alv L) N - k % bc (alv L) N) % bc (alv L) N else (k - 1) % bc (alv L) N) - i) b = itF (alv L) N (if neg = true then (bc (alv L) N - k % bc (alv L) N) % bc (alv L) N else (k - 1) % bc (alv L) N) ah) (fun xx => match xx with | (i, b) => (if neg = true then (bc (alv L) N - k % bc (alv L) N) % bc (alv L) N else (k - 1) % bc (alv L) N) - i) ?_ (0, ah) ⟨lv_sub hl [3, 2, 1, 0] rfl, Nat.zero_le _, hah, hf, rfl⟩
    rintro ⟨i, b⟩ ls ⟨hl, hi, hb1, hb2, hg⟩ ih_40
    refine lv_iload hx hb dX1_countedBy_40 (lv_at hl 3 rfl) ?_
    refine lv_iload_n hx hb dX1_countedBy_42 rfl (lv_at hl 1 rfl) ?_
    refine lv_icmp_ge (tgt := 58) hx hb dX1_countedBy_43 (by decide) (fun c_43 => ?_) (fun c_43 => ?_)
    · have c_43 : (if neg = true then (bc (alv L) N - k % bc (alv L) N) % bc (alv L) N else (k - 1) % bc (alv L) N) ≤ i := (nI_leI (a := (if neg = true then (bc (alv L) N - k % bc (alv L) N) % bc (alv L) N else (k - 1) % bc (alv L) N)) (b := i) (by omega) (by omega)).mp c_43
      refine lv_iload_n hx hb dX1_countedBy_58 rfl (lv_at hl 2 rfl) ?_
      exact W.iret (v := nI b) hx hb hr (fun t ht hW => ⟨_, rfl, congrArg nI (by rw [show (if neg = true then (bc (alv L) N - k % bc (alv L) N) % bc (alv L) N else (k - 1) % bc (alv L) N) - i = 0 by omega] at hg; rw [show b = itF (alv L) N (if neg = true then (bc (alv L) N - k % bc (alv L) N) % bc (alv L) N else (k - 1) % bc (alv L) N) ah from hg]; unfold pick; cases neg with | true => exact itB_mod hah hf k | false => exact itF_mod hah hf (k - 1)), ht⟩) (fun _ h => absurd h List.not_mem_nil) dX1_countedBy_59
    · have c_43 : i < (if neg = true then (bc (alv L) N - k % bc (alv L) N) % bc (alv L) N else (k - 1) % bc (alv L) N) := Nat.lt_of_not_le (fun h => c_43 ((nI_leI (a := (if neg = true then (bc (alv L) N - k % bc (alv L) N) % bc (alv L) N else (k - 1) % bc (alv L) N)) (b := i) (by omega) (by omega)).mpr h))
      refine lv_aload_n hx hb dX1_countedBy_46 rfl (lv_at hl 0 rfl) ?_
      refine lv_iload_n hx hb dX1_countedBy_47 rfl (lv_at hl 2 rfl) ?_
      have hPc := hP.sub (ws' := [(h2, .inr (1, [.ref a0, .ref a1, .ref a2, .ref a3, .int (nI N), .int (nI (bc (alv L) N)), .int (nI ah), .int dv])), (a0, .inl (cA, 40, .inl LA))]) [0, 1] rfl
      refine vp_callSi (va_Run.run (va_runV (As := [.int (nI b)]) (rest := []) ⟨hx, hb, hml, hown, hts⟩ (c_X1_nextLeft l dC dI cA h2 a0 a1 a2 a3 N hN1 hN L LA hLA hL5 (nI (bc (alv L) N)) (nI ah) dv b hb1) (cwV 1 hts gX1_countedBy_X1_nextLeft rfl rfl rfl (by decide +kernel) ⟨Nat.le_of_ble_eq_true rfl, Nat.le_of_ble_eq_true rfl⟩) ⟨fun a U g mk q => by obtain ⟨q0, qP, qK⟩ := q; exact ⟨q0, qP, va_K.moved (u := U) (U := U.calling g mk a) (Vm.Alike.refl U.vm) qK⟩, va_recv hK hP (ci := 1) (q0 := 0) rfl rfl, fun U hU hW => ⟨rfl, by rw [hU]; exact hPc, va_K.moved hW.alike hK⟩⟩ rfl rfl hl.1 rfl (lv_room (Nat.le_of_ble_eq_true rfl)) dX1_countedBy_48 ⟨Nat.zero_le _, Nat.zero_le _⟩)) (fun r_48 hr_48 => ?_)
      subst hr_48
      refine lv_istore_n (lv' := [(3, .int (nI (nextP (alv L) N b))), (0, .ref h2), (2, .int (nI (if neg = true then (bc (alv L) N - k % bc (alv L) N) % bc (alv L) N else (k - 1) % bc (alv L) N))), (4, .int (nI i))]) hx hb dX1_countedBy_51 rfl hl (by decide) rfl (fun ls hl => ?_)
      refine lv_iinc (v := nI (i + 1)) (lv' := [(4, .int (nI (i + 1))), (3, .int (nI (nextP (alv L) N b))), (0, .ref h2), (2, .int (nI (if neg = true then (bc (alv L) N - k % bc (alv L) N) % bc (alv L) N else (k - 1) % bc (alv L) N)))]) hx hb dX1_countedBy_52 hl (k := 3) rfl (nI_1 i) (by decide) rfl (fun ls hl => ?_)
      refine lv_goto (tgt := 40) hx hb dX1_countedBy_55 (by decide) ?_
      exact ih_40 (i + 1, nextP (alv L) N b) _ (by show (if neg = true then (bc (alv L) N - k % bc (alv L) N) % bc (alv L) N else (k - 1) % bc (alv L) N) - (i + 1) < (if neg = true then (bc (alv L) N - k % bc (alv L) N) % bc (alv L) N else (k - 1) % bc (alv L) N) - i; omega) ⟨lv_sub hl [2, 3, 1, 0] rfl, (by omega), (next_rk hb1 hb2).2.1, (next_rk hb1 hb2).2.2, (by rw [← hg, show (if neg = true then (bc (alv L) N - k % bc (alv L) N) % bc (alv L) N else (k - 1) % bc (alv L) N) - i = ((if neg = true then (bc (alv L) N - k % bc (alv L) N) % bc (alv L) N else (k - 1) % bc (alv L) N) - (i + 1)) + 1 by omega]; rfl)⟩
  · exact absurd ((nI_leI (a := 1) (b := bc (alv L) N) (by omega) (by omega)).mpr (by omega)) c_5

set_option maxHeartbeats 4000000 in
set_option maxRecDepth 100000 in
theorem c_X1_loseLife (l : Launch) (dC : Nat → ClassId) (dI : Nat → Nat → Nat) (sz : Nat) (cA : ClassId) (h2 a0 a1 a2 a3 : Nat) (N : Nat) (hN1 : 1 ≤ N) (hN : N ≤ 40) (L : Nat → Nat) (LA : Nat → Int32) (hLA : ∀ q, q < N → LA q = nI (L q)) (hL5 : ∀ q, q < N → L q ≤ 5) (av dv : Int32) (WA : Nat → Int32) (p0 : Nat) (hp : p0 < N) (hl1 : 0 < L p0) : Met l yX1_loseLife wsX1_loseLife ({ frames := 0, cells := 0, slots := 0, locals := 0 }) (va_Pc [.ref h2, .int (nI p0)] (fun U => U.heap.size = sz ∧ va_P (dC, dI) vwCl [(h2, .inr (1, [.ref a0, .ref a1, .ref a2, .ref a3, .int (nI N), .int (nI (bc (alv L) N)), .int av, .int dv])), (a0, .inl (cA, 40, .inl LA)), (a1, .inl (cA, 40, .inl WA))] U.heap ∧ va_K (dC, dI) vwCl [(cA, .int)] U ∧ va_D (fun _ => True) [(h2, .inr (1, [.ref a0, .ref a1, .ref a2, .ref a3, .int (nI N), .int (nI (bc (alv L) N)), .int av, .int dv])), (a0, .inl (cA, 40, .inl LA)), (a1, .inl (cA, 40, .inl WA))])) (va_Qv (S := Nat → Int32) (fun u => ∀ q, q < N → u q = if q = p0 ∧ L p0 = 1 then nI (N - bc (alv (tL L p0)) N) else WA q) (fun (u : Nat → Int32) (t : State) => va_P (dC, dI) vwCl [(h2, .inr (1, [.ref a0, .ref a1, .ref a2, .ref a3, .int (nI N), .int (nI (bc (alv (tL L p0)) N)), .int av, .int dv])), (a0, .inl (cA, 40, .inl (upd LA p0 (nI (L p0 - 1))))), (a1, .inl (cA, 40, .inl u))] t.heap ∧ va_K (dC, dI) vwCl [(cA, .int)] t ∧ va_D (va_A [(h2, .inr (1, [.ref a0, .ref a1, .ref a2, .ref a3, .int (nI N), .int (nI (bc (alv L) N)), .int av, .int dv])), (a0, .inl (cA, 40, .inl LA)), (a1, .inl (cA, 40, .inl WA))] sz) [(h2, .inr (1, [.ref a0, .ref a1, .ref a2, .ref a3, .int (nI N), .int (nI (bc (alv (tL L p0)) N)), .int av, .int dv])), (a0, .inl (cA, 40, .inl (upd LA p0 (nI (L p0 - 1))))), (a1, .inl (cA, 40, .inl u))]) (va_A [(h2, .inr (1, [.ref a0, .ref a1, .ref a2, .ref a3, .int (nI N), .int (nI (bc (alv L) N)), .int av, .int dv])), (a0, .inl (cA, 40, .inl LA)), (a1, .inl (cA, 40, .inl WA))] sz)) 0 0 (va_A [(h2, .inr (1, [.ref a0, .ref a1, .ref a2, .ref a3, .int (nI N), .int (nI (bc (alv L) N)), .int av, .int dv])), (a0, .inl (cA, 40, .inl LA)), (a1, .inl (cA, 40, .inl WA))] sz) := by
  refine Met.ofW (cc := cX1_loseLife) (maxL := 2) (ret := none) (by decide) rfl ?_
  intro p e s m args below meth c s₁ B hml hv
  obtain ⟨rfl, hsz, hP, hK, hD0⟩ := hv
  have hx := B.exec
  have hb := B.bytes
  have hr := B.returns
  have hts := atoms_spec (ws := wsX1_loseLife) B.pre
  have hown : s.vm.findClass RX1 = some m.cls := findClass_of_methodNamed B.named
  have hlocks := B.notSynchronized
  subst hsz
  have hD := hD0.self (sz := s.heap.size)
  generalize hAe : va_A [(h2, .inr (1, [.ref a0, .ref a1, .ref a2, .ref a3, .int (nI N), .int (nI (bc (alv L) N)), .int av, .int dv])), (a0, .inl (cA, 40, .inl LA)), (a1, .inl (cA, 40, .inl WA))] s.heap.size = A at hD ⊢
  have hA : ∀ q : Nat, s.heap.size ≤ q → A q := fun q h => by rw [← hAe]; exact Or.inr h
  have hS : va_S A s.heap s.heap [] := va_S.rf
  have hP : va_P (dC, dI) vwCl [(h2, .inr (1, [.ref a0, .ref a1, .ref a2, .ref a3, .int (nI N), .int (nI (bc (alv L) N)), .int av, .int dv])), (a0, .inl (cA, 40, .inl LA)), (a1, .inl (cA, 40, .inl WA))] s.heap := hP
  have hl := lv_entry ([.ref h2, .int (nI p0)]) (n := 2) (Nat.le_of_ble_eq_true rfl)
  rw [lg_entry_eq]
  generalize (lg_sl ([.ref h2, .int (nI p0)]) ++ List.replicate (2 - (lg_sl ([.ref h2, .int (nI p0)])).length) Slot.unset).toArray = ls at hl ⊢
  have hl : lv_has ls 2 [(0, .ref h2), (1, .int (nI p0))] := hl
  have hcl := bc_le (alv L) N
  have h5 := hL5 _ hp
  have hct := tL_cnt hp hl1
  refine lv_aload_n hx hb dX1_loseLife_0 rfl (lv_at hl 0 rfl) ?_
  refine va_get (D := (dC, dI)) (ci := 1) (v := .ref a0) (C := RX1) (T := TX1) (N := 8) hx hb hts (by decide +kernel) hown hK hP 0 rfl rfl 0 (by decide) (hts (.fieldLink RX1 9 "CountedOut$Ring" "livesLeft" "[I") (by decide +kernel)) (fun _ h9 => h9) rfl dX1_loseLife_1 ?_
  refine lv_iload_n hx hb dX1_loseLife_4 rfl (lv_at hl 1 rfl) ?_
  refine lv_dup2_11 hx hb dX1_loseLife_5 rfl rfl ?_
  refine z_iald hx hb hK hP 1 0 rfl rfl (i := p0) (by omega) (by decide) dX1_loseLife_6 ?_
  refine z_i (y := nI (L p0)) (hLA _ hp) ?_
  refine lv_iconst (v := 1) hx hb dX1_loseLife_7 (by decide) ?_
  refine lv_isub hx hb dX1_loseLife_8 ?_
  refine z_i (y := nI (L p0 - 1)) (pk_sub (b := 1) hl1) ?_
  refine z_iast hx hb hK hP hD hS 1 0 rfl rfl (i := p0) (by omega) (by decide) dX1_loseLife_9 (fun H locs hP hD hS => ?_)
  have hP : va_P (dC, dI) vwCl [(h2, .inr (1, [.ref a0, .ref a1, .ref a2, .ref a3, .int (nI N), .int (nI (bc (alv L) N)), .int av, .int dv])), (a0, .inl (cA, 40, .inl (upd LA p0 (nI (L p0 - 1))))), (a1, .inl (cA, 40, .inl WA))] H := hP
  have hD : va_D A [(h2, .inr (1, [.ref a0, .ref a1, .ref a2, .ref a3, .int (nI N), .int (nI (bc (alv L) N)), .int av, .int dv])), (a0, .inl (cA, 40, .inl (upd LA p0 (nI (L p0 - 1))))), (a1, .inl (cA, 40, .inl WA))] := hD
  refine lv_aload_n hx hb dX1_loseLife_10 rfl (lv_at hl 0 rfl) ?_
  refine va_get (D := (dC, dI)) (ci := 1) (v := .ref a0) (C := RX1) (T := TX1) (N := 8) hx hb hts (by decide +kernel) hown hK hP 0 rfl rfl 0 (by decide) (hts (.fieldLink RX1 9 "CountedOut$Ring" "livesLeft" "[I") (by decide +kernel)) (fun _ h9 => h9) rfl dX1_loseLife_11 ?_
  refine lv_iload_n hx hb dX1_loseLife_14 rfl (lv_at hl 1 rfl) ?_
  refine z_iald hx hb hK hP 1 0 rfl rfl (i := p0) (by omega) (by decide) dX1_loseLife_15 ?_
  refine z_i (y := nI (L p0 - 1)) (pk_us) ?_
  refine lv_if_ne (tgt := 44) hx hb dX1_loseLife_16 (by decide) (fun c_16 => ?_) (fun c_16 => ?_)
  · have c_16 : ¬ L p0 - 1 = 0 := fun h => c_16 ((nI_eq (a := L p0 - 1) (b := 0) (by omega) (by omega)).mpr h)
    rw [if_neg (by omega), Nat.add_zero] at hct
    rw [← hct] at hP hD
    have hP9 := hP.sub (ws' := [(h2, .inr (1, [.ref a0, .ref a1, .ref a2, .ref a3, .int (nI N), .int (nI (bc (alv (tL L p0)) N)), .int av, .int dv])), (a0, .inl (cA, 40, .inl (upd LA p0 (nI (L p0 - 1))))), (a1, .inl (cA, 40, .inl WA))]) [0, 1, 2] rfl
    have hD9 := hD.sub (ws' := [(h2, .inr (1, [.ref a0, .ref a1, .ref a2, .ref a3, .int (nI N), .int (nI (bc (alv (tL L p0)) N)), .int av, .int dv])), (a0, .inl (cA, 40, .inl (upd LA p0 (nI (L p0 - 1))))), (a1, .inl (cA, 40, .inl WA))]) [0, 1, 2] (by decide) rfl
    exact W.vret hx hb hr (fun t ht hW => ⟨⟨_, rfl, fun q hq => by rw [if_neg (by omega)], ⟨by rw [ht]; exact hP9, va_K.moved hW.alike hK, hD9⟩⟩, hS.F ht⟩) hS.2.2 dX1_loseLife_44
  · have c_16 : L p0 - 1 = 0 := (nI_eq (a := L p0 - 1) (b := 0) (by omega) (by omega)).mp c_16
    rw [if_pos (by omega)] at hct
    refine lv_aload_n hx hb dX1_loseLife_19 rfl (lv_at hl 0 rfl) ?_
    refine lv_dup hx hb dX1_loseLife_20 rfl ?_
    refine va_get (D := (dC, dI)) (ci := 1) (v := .int (nI (bc (alv L) N))) (C := RX1) (T := TX1) (N := 8) hx hb hts (by decide +kernel) hown hK hP 0 rfl rfl 5 (by decide) (hts (.fieldLink RX1 38 "CountedOut$Ring" "left" "I") (by decide +kernel)) (fun _ h9 => h9) rfl dX1_loseLife_21 ?_
    refine lv_iconst (v := 1) hx hb dX1_loseLife_24 (by decide) ?_
    refine lv_isub hx hb dX1_loseLife_25 ?_
    refine z_i (y := nI (bc (alv (tL L p0)) N)) (by rw [← hct]; exact nI_pred _) ?_
    refine va_put (D := (dC, dI)) (ci := 1) (v := .int (nI (bc (alv (tL L p0)) N))) (ty := .int) (C := RX1) (T := TX1) (N := 8) hx hb hts (by decide +kernel) tyX1 tyX1_ok nmX1 hown hK hP hD hS 0 rfl rfl 5 (by decide) (hts (.fieldLink RX1 38 "CountedOut$Ring" "left" "I") (by decide +kernel)) (fun _ h9 => h9) rfl (by decide +kernel) rfl rfl (Nat.le_of_ble_eq_true rfl) dX1_loseLife_26 (fun H locs hP hD hS => ?_)
    have hP : va_P (dC, dI) vwCl [(h2, .inr (1, [.ref a0, .ref a1, .ref a2, .ref a3, .int (nI N), .int (nI (bc (alv (tL L p0)) N)), .int av, .int dv])), (a0, .inl (cA, 40, .inl (upd LA p0 (nI (L p0 - 1))))), (a1, .inl (cA, 40, .inl WA))] H := hP
    have hD : va_D A [(h2, .inr (1, [.ref a0, .ref a1, .ref a2, .ref a3, .int (nI N), .int (nI (bc (alv (tL L p0)) N)), .int av, .int dv])), (a0, .inl (cA, 40, .inl (upd LA p0 (nI (L p0 - 1))))), (a1, .inl (cA, 40, .inl WA))] := hD
    refine lv_aload_n hx hb dX1_loseLife_29 rfl (lv_at hl 0 rfl) ?_
    refine va_get (D := (dC, dI)) (ci := 1) (v := .ref a1) (C := RX1) (T := TX1) (N := 8) hx hb hts (by decide +kernel) hown hK hP 0 rfl rfl 1 (by decide) (hts (.fieldLink RX1 15 "CountedOut$Ring" "wentAs" "[I") (by decide +kernel)) (fun _ h9 => h9) rfl dX1_loseLife_30 ?_
    refine lv_iload_n hx hb dX1_loseLife_33 rfl (lv_at hl 1 rfl) ?_
    refine lv_aload_n hx hb dX1_loseLife_34 rfl (lv_at hl 0 rfl) ?_
    refine va_get (D := (dC, dI)) (ci := 1) (v := .int (nI N)) (C := RX1) (T := TX1) (N := 8) hx hb hts (by decide +kernel) hown hK hP 0 rfl rfl 4 (by decide) (hts (.fieldLink RX1 34 "CountedOut$Ring" "size" "I") (by decide +kernel)) (fun _ h9 => h9) rfl dX1_loseLife_35 ?_
    refine lv_aload_n hx hb dX1_loseLife_38 rfl (lv_at hl 0 rfl) ?_
    refine va_get (D := (dC, dI)) (ci := 1) (v := .int (nI (bc (alv (tL L p0)) N))) (C := RX1) (T := TX1) (N := 8) hx hb hts (by decide +kernel) hown hK hP 0 rfl rfl 5 (by decide) (hts (.fieldLink RX1 38 "CountedOut$Ring" "left" "I") (by decide +kernel)) (fun _ h9 => h9) rfl dX1_loseLife_39 ?_
    refine lv_isub hx hb dX1_loseLife_42 ?_
    refine z_i (y := nI (N - bc (alv (tL L p0)) N)) (pk_sub (by omega)) ?_
    refine z_iast hx hb hK hP hD hS 2 0 rfl rfl (i := p0) (by omega) (by decide) dX1_loseLife_43 (fun H locs hP hD hS => ?_)
    have hP : va_P (dC, dI) vwCl [(h2, .inr (1, [.ref a0, .ref a1, .ref a2, .ref a3, .int (nI N), .int (nI (bc (alv (tL L p0)) N)), .int av, .int dv])), (a0, .inl (cA, 40, .inl (upd LA p0 (nI (L p0 - 1))))), (a1, .inl (cA, 40, .inl (upd WA p0 (nI (N - bc (alv (tL L p0)) N)))))] H := hP
    have hD : va_D A [(h2, .inr (1, [.ref a0, .ref a1, .ref a2, .ref a3, .int (nI N), .int (nI (bc (alv (tL L p0)) N)), .int av, .int dv])), (a0, .inl (cA, 40, .inl (upd LA p0 (nI (L p0 - 1))))), (a1, .inl (cA, 40, .inl (upd WA p0 (nI (N - bc (alv (tL L p0)) N)))))] := hD
    have hP9 := hP.sub (ws' := [(h2, .inr (1, [.ref a0, .ref a1, .ref a2, .ref a3, .int (nI N), .int (nI (bc (alv (tL L p0)) N)), .int av, .int dv])), (a0, .inl (cA, 40, .inl (upd LA p0 (nI (L p0 - 1))))), (a1, .inl (cA, 40, .inl (upd WA p0 (nI (N - bc (alv (tL L p0)) N)))))]) [0, 1, 2] rfl
    have hD9 := hD.sub (ws' := [(h2, .inr (1, [.ref a0, .ref a1, .ref a2, .ref a3, .int (nI N), .int (nI (bc (alv (tL L p0)) N)), .int av, .int dv])), (a0, .inl (cA, 40, .inl (upd LA p0 (nI (L p0 - 1))))), (a1, .inl (cA, 40, .inl (upd WA p0 (nI (N - bc (alv (tL L p0)) N)))))]) [0, 1, 2] (by decide) rfl
    exact W.vret hx hb hr (fun t ht hW => ⟨⟨_, rfl, lose_W (by omega), ⟨by rw [ht]; exact hP9, va_K.moved hW.alike hK, hD9⟩⟩, hS.F ht⟩) hS.2.2 dX1_loseLife_44

set_option maxHeartbeats 4000000 in
set_option maxRecDepth 100000 in
theorem c_X1_takeTurn (l : Launch) (dC : Nat → ClassId) (dI : Nat → Nat → Nat) (sz : Nat) (cA : ClassId) (h2 a0 a1 a2 a3 : Nat) (Bl : Nat → Nat) (N : Nat) (Z : AS) (LA WA CA AA : Nat → Int32) (hG : GA Bl N Z) (hR : RA N Z LA WA CA AA) (neg : Bool) (k : Nat) (hk1 : 1 ≤ k) (hk : k < 120) : Met l yX1_takeTurn wsX1_takeTurn ({ frames := 2, cells := 0, slots := 0, locals := 47 }) (va_Pc [.ref h2, .int (cI neg k)] (fun U => U.heap.size = sz ∧ va_P (dC, dI) vwCl [(h2, .inr (1, [.ref a0, .ref a1, .ref a2, .ref a3, .int (nI N), .int (nI (bc (alv Z.2.1) N)), .int (nI Z.2.2.2), .int (nI Z.1.length)])), (a0, .inl (cA, 40, .inl LA)), (a1, .inl (cA, 40, .inl WA)), (a2, .inl (cA, 200, .inl CA)), (a3, .inl (cA, 200, .inl AA))] U.heap ∧ va_K (dC, dI) vwCl [(cA, .int)] U ∧ va_D (fun _ => True) [(h2, .inr (1, [.ref a0, .ref a1, .ref a2, .ref a3, .int (nI N), .int (nI (bc (alv Z.2.1) N)), .int (nI Z.2.2.2), .int (nI Z.1.length)])), (a0, .inl (cA, 40, .inl LA)), (a1, .inl (cA, 40, .inl WA)), (a2, .inl (cA, 200, .inl CA)), (a3, .inl (cA, 200, .inl AA))])) (va_Qi (S := AS × (Nat → Int32) × (Nat → Int32) × (Nat → Int32) × (Nat → Int32)) (fun r u => r = zb (decide (2 ≤ bc (alv Z.2.1) N)) ∧ u.1 = (if bc (alv Z.2.1) N < 2 then Z else tS N neg k Z) ∧ RA N u.1 u.2.1 u.2.2.1 u.2.2.2.1 u.2.2.2.2) (fun (u : AS × (Nat → Int32) × (Nat → Int32) × (Nat → Int32) × (Nat → Int32)) (t : State) => va_P (dC, dI) vwCl [(h2, .inr (1, [.ref a0, .ref a1, .ref a2, .ref a3, .int (nI N), .int (nI (bc (alv u.1.2.1) N)), .int (nI u.1.2.2.2), .int (nI u.1.1.length)])), (a0, .inl (cA, 40, .inl u.2.1)), (a1, .inl (cA, 40, .inl u.2.2.1)), (a2, .inl (cA, 200, .inl u.2.2.2.1)), (a3, .inl (cA, 200, .inl u.2.2.2.2))] t.heap ∧ va_K (dC, dI) vwCl [(cA, .int)] t ∧ va_D (va_A [(h2, .inr (1, [.ref a0, .ref a1, .ref a2, .ref a3, .int (nI N), .int (nI (bc (alv Z.2.1) N)), .int (nI Z.2.2.2), .int (nI Z.1.length)])), (a0, .inl (cA, 40, .inl LA)), (a1, .inl (cA, 40, .inl WA)), (a2, .inl (cA, 200, .inl CA)), (a3, .inl (cA, 200, .inl AA))] sz) [(h2, .inr (1, [.ref a0, .ref a1, .ref a2, .ref a3, .int (nI N), .int (nI (bc (alv u.1.2.1) N)), .int (nI u.1.2.2.2), .int (nI u.1.1.length)])), (a0, .inl (cA, 40, .inl u.2.1)), (a1, .inl (cA, 40, .inl u.2.2.1)), (a2, .inl (cA, 200, .inl u.2.2.2.1)), (a3, .inl (cA, 200, .inl u.2.2.2.2))]) (va_A [(h2, .inr (1, [.ref a0, .ref a1, .ref a2, .ref a3, .int (nI N), .int (nI (bc (alv Z.2.1) N)), .int (nI Z.2.2.2), .int (nI Z.1.length)])), (a0, .inl (cA, 40, .inl LA)), (a1, .inl (cA, 40, .inl WA)), (a2, .inl (cA, 200, .inl CA)), (a3, .inl (cA, 200, .inl AA))] sz)) 0 0 (va_A [(h2, .inr (1, [.ref a0, .ref a1, .ref a2, .ref a3, .int (nI N), .int (nI (bc (alv Z.2.1) N)), .int (nI Z.2.2.2), .int (nI Z.1.length)])), (a0, .inl (cA, 40, .inl LA)), (a1, .inl (cA, 40, .inl WA)), (a2, .inl (cA, 200, .inl CA)), (a3, .inl (cA, 200, .inl AA))] sz) := by
  refine Met.ofW (cc := cX1_takeTurn) (maxL := 3) (ret := (some .boolean)) (by decide) rfl ?_
  intro p e s m args below meth c s₁ B hml hv
  obtain ⟨rfl, hsz, hP, hK, hD0⟩ := hv
  have hx := B.exec
  have hb := B.bytes
  have hr := B.returns
  have hts := atoms_spec (ws := wsX1_takeTurn) B.pre
  have hown : s.vm.findClass RX1 = some m.cls := findClass_of_methodNamed B.named
  have hlocks := B.notSynchronized
  subst hsz
  have hD := hD0.self (sz := s.heap.size)
  generalize hAe : va_A [(h2, .inr (1, [.ref a0, .ref a1, .ref a2, .ref a3, .int (nI N), .int (nI (bc (alv Z.2.1) N)), .int (nI Z.2.2.2), .int (nI Z.1.length)])), (a0, .inl (cA, 40, .inl LA)), (a1, .inl (cA, 40, .inl WA)), (a2, .inl (cA, 200, .inl CA)), (a3, .inl (cA, 200, .inl AA))] s.heap.size = A at hD ⊢
  have hA : ∀ q : Nat, s.heap.size ≤ q → A q := fun q h => by rw [← hAe]; exact Or.inr h
  have hS : va_S A s.heap s.heap [] := va_S.rf
  have hP : va_P (dC, dI) vwCl [(h2, .inr (1, [.ref a0, .ref a1, .ref a2, .ref a3, .int (nI N), .int (nI (bc (alv Z.2.1) N)), .int (nI Z.2.2.2), .int (nI Z.1.length)])), (a0, .inl (cA, 40, .inl LA)), (a1, .inl (cA, 40, .inl WA)), (a2, .inl (cA, 200, .inl CA)), (a3, .inl (cA, 200, .inl AA))] s.heap := hP
  have hl := lv_entry ([.ref h2, .int (cI neg k)]) (n := 3) (Nat.le_of_ble_eq_true rfl)
  rw [lg_entry_eq]
  generalize (lg_sl ([.ref h2, .int (cI neg k)]) ++ List.replicate (3 - (lg_sl ([.ref h2, .int (cI neg k)])).length) Slot.unset).toArray = ls at hl ⊢
  have hl : lv_has ls 3 [(0, .ref h2), (1, .int (cI neg k))] := hl
  obtain ⟨hN1, hN, hah, hal, hL5, hWL, hWc, hWi, hWe⟩ := hG.rb
  have hlen := hG.len
  have hcl := bc_le (alv Z.2.1) N
  refine lv_aload_n hx hb dX1_takeTurn_0 rfl (lv_at hl 0 rfl) ?_
  refine va_get (D := (dC, dI)) (ci := 1) (v := .int (nI (bc (alv Z.2.1) N))) (C := RX1) (T := TX1) (N := 8) hx hb hts (by decide +kernel) hown hK hP 0 rfl rfl 5 (by decide) (hts (.fieldLink RX1 38 "CountedOut$Ring" "left" "I") (by decide +kernel)) (fun _ h9 => h9) rfl dX1_takeTurn_1 ?_
  refine lv_iconst (v := 2) hx hb dX1_takeTurn_4 (by decide) ?_
  refine lv_icmp_lt (tgt := 18) hx hb dX1_takeTurn_5 (by decide) (fun c_5 => ?_) (fun c_5 => ?_)
  · have c_5 : bc (alv Z.2.1) N < 2 := (nI_ltI (a := bc (alv Z.2.1) N) (b := 2) (by omega) (by omega)).mp c_5
    refine lv_iconst (v := 0) hx hb dX1_takeTurn_18 (by decide) ?_
    have hP9 := hP.sub (ws' := [(h2, .inr (1, [.ref a0, .ref a1, .ref a2, .ref a3, .int (nI N), .int (nI (bc (alv Z.2.1) N)), .int (nI Z.2.2.2), .int (nI Z.1.length)])), (a0, .inl (cA, 40, .inl LA)), (a1, .inl (cA, 40, .inl WA)), (a2, .inl (cA, 200, .inl CA)), (a3, .inl (cA, 200, .inl AA))]) [0, 1, 2, 3, 4] rfl
    have hD9 := hD.sub (ws' := [(h2, .inr (1, [.ref a0, .ref a1, .ref a2, .ref a3, .int (nI N), .int (nI (bc (alv Z.2.1) N)), .int (nI Z.2.2.2), .int (nI Z.1.length)])), (a0, .inl (cA, 40, .inl LA)), (a1, .inl (cA, 40, .inl WA)), (a2, .inl (cA, 200, .inl CA)), (a3, .inl (cA, 200, .inl AA))]) [0, 1, 2, 3, 4] (by decide) rfl
    exact W.zret (v := 0) hx hb hr (rfl) (fun t ht hW => ⟨⟨_, (Z, LA, WA, CA, AA), rfl, ⟨by rw [decide_eq_false (by omega)]; rfl, by rw [if_pos c_5], hR⟩, ⟨by rw [ht]; exact hP9, va_K.moved hW.alike hK, hD9⟩⟩, hS.F ht⟩) hS.2.2 dX1_takeTurn_19
  · have c_5 : 2 ≤ bc (alv Z.2.1) N := Nat.le_of_not_lt (fun h => c_5 ((nI_ltI (a := bc (alv Z.2.1) N) (b := 2) (by omega) (by omega)).mpr h))
    refine lv_aload_n hx hb dX1_takeTurn_8 rfl (lv_at hl 0 rfl) ?_
    refine va_get (D := (dC, dI)) (ci := 1) (v := .int (nI Z.1.length)) (C := RX1) (T := TX1) (N := 8) hx hb hts (by decide +kernel) hown hK hP 0 rfl rfl 7 (by decide) (hts (.fieldLink RX1 44 "CountedOut$Ring" "done" "I") (by decide +kernel)) (fun _ h9 => h9) rfl dX1_takeTurn_9 ?_
    refine lv_sipush (v := 200) hx hb dX1_takeTurn_12 (by decide) ?_
    refine lv_icmp_lt (tgt := 20) hx hb dX1_takeTurn_15 (by decide) (fun c_15 => ?_) (fun c_15 => ?_)
    · obtain ⟨hq1, hq2⟩ := tQ_ok hG neg k
      have hq5 := hL5 _ hq1
      have hct := tL_cnt hq1 hq2
      refine lv_aload_n hx hb dX1_takeTurn_20 rfl (lv_at hl 0 rfl) ?_
      refine lv_iload_n hx hb dX1_takeTurn_21 rfl (lv_at hl 1 rfl) ?_
      have hPc := hP.sub (ws' := [(h2, .inr (1, [.ref a0, .ref a1, .ref a2, .ref a3, .int (nI N), .int (nI (bc (alv Z.2.1) N)), .int (nI Z.2.2.2), .int (nI Z.1.length)])), (a0, .inl (cA, 40, .inl LA))]) [0, 1] rfl
      refine vp_callSi (va_Run.run (va_runV (As := [.int (cI neg k)]) (rest := []) ⟨hx, hb, hml, hown, hts⟩ (c_X1_countedBy l dC dI cA h2 a0 a1 a2 a3 N hN1 hN Z.2.1 LA hR.1 hL5 Z.2.2.2 hah hal (nI Z.1.length) neg k hk1 hk) (cwV 1 hts gX1_takeTurn_X1_countedBy rfl rfl rfl (by decide +kernel) ⟨Nat.le_of_ble_eq_true rfl, Nat.le_of_ble_eq_true rfl⟩) ⟨fun a U g mk q => by obtain ⟨q0, qP, qK⟩ := q; exact ⟨q0, qP, va_K.moved (u := U) (U := U.calling g mk a) (Vm.Alike.refl U.vm) qK⟩, va_recv hK hP (ci := 1) (q0 := 0) rfl rfl, fun U hU hW => ⟨rfl, by rw [hU]; exact hPc, va_K.moved hW.alike hK⟩⟩ rfl rfl hl.1 rfl (lv_room (Nat.le_of_ble_eq_true rfl)) dX1_takeTurn_22 ⟨Nat.zero_le _, Nat.zero_le _⟩)) (fun r_22 hr_22 => ?_)
      subst hr_22
      refine lv_istore_n (lv' := [(2, .int (nI (tQ N neg k Z))), (0, .ref h2), (1, .int (cI neg k))]) hx hb dX1_takeTurn_25 rfl hl (by decide) rfl (fun ls hl => ?_)
      refine lv_aload_n hx hb dX1_takeTurn_26 rfl (lv_at hl 1 rfl) ?_
      refine va_get (D := (dC, dI)) (ci := 1) (v := .ref a2) (C := RX1) (T := TX1) (N := 8) hx hb hts (by decide +kernel) hown hK hP 0 rfl rfl 2 (by decide) (hts (.fieldLink RX1 18 "CountedOut$Ring" "loggedCounted" "[I") (by decide +kernel)) (fun _ h9 => h9) rfl dX1_takeTurn_27 ?_
      refine lv_aload_n hx hb dX1_takeTurn_30 rfl (lv_at hl 1 rfl) ?_
      refine va_get (D := (dC, dI)) (ci := 1) (v := .int (nI Z.1.length)) (C := RX1) (T := TX1) (N := 8) hx hb hts (by decide +kernel) hown hK hP 0 rfl rfl 7 (by decide) (hts (.fieldLink RX1 44 "CountedOut$Ring" "done" "I") (by decide +kernel)) (fun _ h9 => h9) rfl dX1_takeTurn_31 ?_
      refine lv_iload_n hx hb dX1_takeTurn_34 rfl (lv_at hl 0 rfl) ?_
      refine z_iast hx hb hK hP hD hS 3 0 rfl rfl (i := Z.1.length) (hlen) (by decide) dX1_takeTurn_35 (fun H locs hP hD hS => ?_)
      have hP : va_P (dC, dI) vwCl [(h2, .inr (1, [.ref a0, .ref a1, .ref a2, .ref a3, .int (nI N), .int (nI (bc (alv Z.2.1) N)), .int (nI Z.2.2.2), .int (nI Z.1.length)])), (a0, .inl (cA, 40, .inl LA)), (a1, .inl (cA, 40, .inl WA)), (a2, .inl (cA, 200, .inl (upd CA Z.1.length (nI (tQ N neg k Z))))), (a3, .inl (cA, 200, .inl AA))] H := hP
      have hD : va_D A [(h2, .inr (1, [.ref a0, .ref a1, .ref a2, .ref a3, .int (nI N), .int (nI (bc (alv Z.2.1) N)), .int (nI Z.2.2.2), .int (nI Z.1.length)])), (a0, .inl (cA, 40, .inl LA)), (a1, .inl (cA, 40, .inl WA)), (a2, .inl (cA, 200, .inl (upd CA Z.1.length (nI (tQ N neg k Z))))), (a3, .inl (cA, 200, .inl AA))] := hD
      refine lv_aload_n hx hb dX1_takeTurn_36 rfl (lv_at hl 1 rfl) ?_
      refine va_get (D := (dC, dI)) (ci := 1) (v := .ref a3) (C := RX1) (T := TX1) (N := 8) hx hb hts (by decide +kernel) hown hK hP 0 rfl rfl 3 (by decide) (hts (.fieldLink RX1 21 "CountedOut$Ring" "loggedAhead" "[I") (by decide +kernel)) (fun _ h9 => h9) rfl dX1_takeTurn_37 ?_
      refine lv_aload_n hx hb dX1_takeTurn_40 rfl (lv_at hl 1 rfl) ?_
      refine va_get (D := (dC, dI)) (ci := 1) (v := .int (nI Z.1.length)) (C := RX1) (T := TX1) (N := 8) hx hb hts (by decide +kernel) hown hK hP 0 rfl rfl 7 (by decide) (hts (.fieldLink RX1 44 "CountedOut$Ring" "done" "I") (by decide +kernel)) (fun _ h9 => h9) rfl dX1_takeTurn_41 ?_
      refine lv_aload_n hx hb dX1_takeTurn_44 rfl (lv_at hl 1 rfl) ?_
      refine va_get (D := (dC, dI)) (ci := 1) (v := .int (nI Z.2.2.2)) (C := RX1) (T := TX1) (N := 8) hx hb hts (by decide +kernel) hown hK hP 0 rfl rfl 6 (by decide) (hts (.fieldLink RX1 41 "CountedOut$Ring" "ahead" "I") (by decide +kernel)) (fun _ h9 => h9) rfl dX1_takeTurn_45 ?_
      refine z_iast hx hb hK hP hD hS 4 0 rfl rfl (i := Z.1.length) (hlen) (by decide) dX1_takeTurn_48 (fun H locs hP hD hS => ?_)
      have hP : va_P (dC, dI) vwCl [(h2, .inr (1, [.ref a0, .ref a1, .ref a2, .ref a3, .int (nI N), .int (nI (bc (alv Z.2.1) N)), .int (nI Z.2.2.2), .int (nI Z.1.length)])), (a0, .inl (cA, 40, .inl LA)), (a1, .inl (cA, 40, .inl WA)), (a2, .inl (cA, 200, .inl (upd CA Z.1.length (nI (tQ N neg k Z))))), (a3, .inl (cA, 200, .inl (upd AA Z.1.length (nI Z.2.2.2))))] H := hP
      have hD : va_D A [(h2, .inr (1, [.ref a0, .ref a1, .ref a2, .ref a3, .int (nI N), .int (nI (bc (alv Z.2.1) N)), .int (nI Z.2.2.2), .int (nI Z.1.length)])), (a0, .inl (cA, 40, .inl LA)), (a1, .inl (cA, 40, .inl WA)), (a2, .inl (cA, 200, .inl (upd CA Z.1.length (nI (tQ N neg k Z))))), (a3, .inl (cA, 200, .inl (upd AA Z.1.length (nI Z.2.2.2))))] := hD
      refine lv_aload_n hx hb dX1_takeTurn_49 rfl (lv_at hl 1 rfl) ?_
      refine lv_dup hx hb dX1_takeTurn_50 rfl ?_
      refine va_get (D := (dC, dI)) (ci := 1) (v := .int (nI Z.1.length)) (C := RX1) (T := TX1) (N := 8) hx hb hts (by decide +kernel) hown hK hP 0 rfl rfl 7 (by decide) (hts (.fieldLink RX1 44 "CountedOut$Ring" "done" "I") (by decide +kernel)) (fun _ h9 => h9) rfl dX1_takeTurn_51 ?_
      refine lv_iconst (v := 1) hx hb dX1_takeTurn_54 (by decide) ?_
      refine lv_iadd hx hb dX1_takeTurn_55 ?_
      refine z_i (y := nI (Z.1.length + 1)) (nI_1 _) ?_
      refine va_put (D := (dC, dI)) (ci := 1) (v := .int (nI (Z.1.length + 1))) (ty := .int) (C := RX1) (T := TX1) (N := 8) hx hb hts (by decide +kernel) tyX1 tyX1_ok nmX1 hown hK hP hD hS 0 rfl rfl 7 (by decide) (hts (.fieldLink RX1 44 "CountedOut$Ring" "done" "I") (by decide +kernel)) (fun _ h9 => h9) rfl (by decide +kernel) rfl rfl (Nat.le_of_ble_eq_true rfl) dX1_takeTurn_56 (fun H locs hP hD hS => ?_)
      have hP : va_P (dC, dI) vwCl [(h2, .inr (1, [.ref a0, .ref a1, .ref a2, .ref a3, .int (nI N), .int (nI (bc (alv Z.2.1) N)), .int (nI Z.2.2.2), .int (nI (Z.1.length + 1))])), (a0, .inl (cA, 40, .inl LA)), (a1, .inl (cA, 40, .inl WA)), (a2, .inl (cA, 200, .inl (upd CA Z.1.length (nI (tQ N neg k Z))))), (a3, .inl (cA, 200, .inl (upd AA Z.1.length (nI Z.2.2.2))))] H := hP
      have hD : va_D A [(h2, .inr (1, [.ref a0, .ref a1, .ref a2, .ref a3, .int (nI N), .int (nI (bc (alv Z.2.1) N)), .int (nI Z.2.2.2), .int (nI (Z.1.length + 1))])), (a0, .inl (cA, 40, .inl LA)), (a1, .inl (cA, 40, .inl WA)), (a2, .inl (cA, 200, .inl (upd CA Z.1.length (nI (tQ N neg k Z))))), (a3, .inl (cA, 200, .inl (upd AA Z.1.length (nI Z.2.2.2))))] := hD
      refine lv_aload_n hx hb dX1_takeTurn_59 rfl (lv_at hl 1 rfl) ?_
      refine lv_iload_n hx hb dX1_takeTurn_60 rfl (lv_at hl 0 rfl) ?_
      have hPc := hP.sub (ws' := [(h2, .inr (1, [.ref a0, .ref a1, .ref a2, .ref a3, .int (nI N), .int (nI (bc (alv Z.2.1) N)), .int (nI Z.2.2.2), .int (nI (Z.1.length + 1))])), (a0, .inl (cA, 40, .inl LA)), (a1, .inl (cA, 40, .inl WA))]) [0, 1, 2] rfl
      have hDc := hD.sub (ws' := [(h2, .inr (1, [.ref a0, .ref a1, .ref a2, .ref a3, .int (nI N), .int (nI (bc (alv Z.2.1) N)), .int (nI Z.2.2.2), .int (nI (Z.1.length + 1))])), (a0, .inl (cA, 40, .inl LA)), (a1, .inl (cA, 40, .inl WA))]) [0, 1, 2] (by decide) rfl
      have hFc := va_free (wc := [(h2, .inr (1, [.ref a0, .ref a1, .ref a2, .ref a3, .int (nI N), .int (nI (bc (alv Z.2.1) N)), .int (nI Z.2.2.2), .int (nI (Z.1.length + 1))])), (a0, .inl (cA, 40, .inl LA)), (a1, .inl (cA, 40, .inl WA))]) hD hS hA [0, 1, 2] rfl
      refine va_callv (va_runV (As := [.int (nI (tQ N neg k Z))]) (rest := []) ⟨hx, hb, hml, hown, hts⟩ (c_X1_loseLife l dC dI H.size cA h2 a0 a1 a2 a3 N hN1 hN Z.2.1 LA hR.1 hL5 (nI Z.2.2.2) (nI (Z.1.length + 1)) WA (tQ N neg k Z) hq1 hq2) (cwV 1 hts gX1_takeTurn_X1_loseLife rfl rfl rfl (by decide +kernel) ⟨Nat.le_of_ble_eq_true rfl, Nat.le_of_ble_eq_true rfl⟩) ⟨fun a U g mk q => by obtain ⟨q0, q1, qP, qK, qD⟩ := q; exact ⟨q0, q1, qP, va_K.moved (u := U) (U := U.calling g mk a) (Vm.Alike.refl U.vm) qK, qD⟩, va_recv hK hP (ci := 1) (q0 := 0) rfl rfl, fun U hU hW => ⟨rfl, by rw [hU], by rw [hU]; exact hPc, va_K.moved hW.alike hK, hDc.weaken (fun _ _ _ _ => trivial)⟩⟩ rfl rfl hl.1 rfl (lv_room (Nat.le_of_ble_eq_true rfl)) dX1_takeTurn_61 ⟨Nat.zero_le _, Nat.zero_le _⟩) hS (fun q _ h => hFc q h) hFc (fun u_61 t_61 H1 locs ht_61 hvm_61 hw_61 hB_61 hz1 hk1 hS => ?_)
      obtain ⟨W1, rfl⟩ : ∃ z, z = u_61 := ⟨_, rfl⟩
      obtain ⟨hP1, hK1, hD1⟩ := hB_61
      rw [ht_61] at hP1
      obtain ⟨hP, hD⟩ := va_join (wr := [(a2, .inl (cA, 200, .inl (upd CA Z.1.length (nI (tQ N neg k Z))))), (a3, .inl (cA, 200, .inl (upd AA Z.1.length (nI Z.2.2.2))))]) (w1 := [(h2, .inr (1, [.ref a0, .ref a1, .ref a2, .ref a3, .int (nI N), .int (nI (bc (alv (tL Z.2.1 (tQ N neg k Z))) N)), .int (nI Z.2.2.2), .int (nI (Z.1.length + 1))])), (a0, .inl (cA, 40, .inl (upd LA (tQ N neg k Z) (nI (Z.2.1 (tQ N neg k Z) - 1))))), (a1, .inl (cA, 40, .inl W1))]) hP hD [0, 1, 2] [3, 4] rfl rfl (by decide) (by decide) hk1 hFc hP1 hD1
      generalize H1 = H at hP hS ⊢
      have hP := hP.sub (ws' := [(h2, .inr (1, [.ref a0, .ref a1, .ref a2, .ref a3, .int (nI N), .int (nI (bc (alv (tL Z.2.1 (tQ N neg k Z))) N)), .int (nI Z.2.2.2), .int (nI (Z.1.length + 1))])), (a0, .inl (cA, 40, .inl (upd LA (tQ N neg k Z) (nI (Z.2.1 (tQ N neg k Z) - 1))))), (a1, .inl (cA, 40, .inl W1)), (a2, .inl (cA, 200, .inl (upd CA Z.1.length (nI (tQ N neg k Z))))), (a3, .inl (cA, 200, .inl (upd AA Z.1.length (nI Z.2.2.2))))]) [2, 3, 4, 0, 1] rfl
      have hD := hD.sub (ws' := [(h2, .inr (1, [.ref a0, .ref a1, .ref a2, .ref a3, .int (nI N), .int (nI (bc (alv (tL Z.2.1 (tQ N neg k Z))) N)), .int (nI Z.2.2.2), .int (nI (Z.1.length + 1))])), (a0, .inl (cA, 40, .inl (upd LA (tQ N neg k Z) (nI (Z.2.1 (tQ N neg k Z) - 1))))), (a1, .inl (cA, 40, .inl W1)), (a2, .inl (cA, 200, .inl (upd CA Z.1.length (nI (tQ N neg k Z))))), (a3, .inl (cA, 200, .inl (upd AA Z.1.length (nI Z.2.2.2))))]) [2, 3, 4, 0, 1] (by decide) rfl
      have hR1 := RX_turn (ah := Z.2.2.2) hR hq1 (by split at hct <;> omega) hw_61
      refine lv_aload_n hx hb dX1_takeTurn_64 rfl (lv_at hl 1 rfl) ?_
      refine lv_aload_n hx hb dX1_takeTurn_65 rfl (lv_at hl 1 rfl) ?_
      refine lv_iload_n hx hb dX1_takeTurn_66 rfl (lv_at hl 0 rfl) ?_
      have hPc := hP.sub (ws' := [(h2, .inr (1, [.ref a0, .ref a1, .ref a2, .ref a3, .int (nI N), .int (nI (bc (alv (tL Z.2.1 (tQ N neg k Z))) N)), .int (nI Z.2.2.2), .int (nI (Z.1.length + 1))])), (a0, .inl (cA, 40, .inl (upd LA (tQ N neg k Z) (nI (Z.2.1 (tQ N neg k Z) - 1)))))]) [0, 1] rfl
      refine vp_callSi (va_Run.run (va_runV (As := [.int (nI (tQ N neg k Z))]) (rest := [.ref h2]) ⟨hx, hb, hml, hown, hts⟩ (c_X1_nextLeft l dC dI cA h2 a0 a1 a2 a3 N hN1 hN (tL Z.2.1 (tQ N neg k Z)) (upd LA (tQ N neg k Z) (nI (Z.2.1 (tQ N neg k Z) - 1))) hR1.1 (GA_tS hG neg k c_5).rb.2.2.2.2.1 (nI (bc (alv (tL Z.2.1 (tQ N neg k Z))) N)) (nI Z.2.2.2) (nI (Z.1.length + 1)) (tQ N neg k Z) hq1) (cwV 1 hts gX1_takeTurn_X1_nextLeft rfl rfl rfl (by decide +kernel) ⟨Nat.le_of_ble_eq_true rfl, Nat.le_of_ble_eq_true rfl⟩) ⟨fun a U g mk q => by obtain ⟨q0, qP, qK⟩ := q; exact ⟨q0, qP, va_K.moved (u := U) (U := U.calling g mk a) (Vm.Alike.refl U.vm) qK⟩, va_recv hK hP (ci := 1) (q0 := 0) rfl rfl, fun U hU hW => ⟨rfl, by rw [hU]; exact hPc, va_K.moved hW.alike hK⟩⟩ rfl rfl hl.1 rfl (lv_room (Nat.le_of_ble_eq_true rfl)) dX1_takeTurn_67 ⟨Nat.zero_le _, Nat.zero_le _⟩)) (fun r_67 hr_67 => ?_)
      subst hr_67
      refine va_put (D := (dC, dI)) (ci := 1) (v := .int (nI (nextP (alv (tL Z.2.1 (tQ N neg k Z))) N (tQ N neg k Z)))) (ty := .int) (C := RX1) (T := TX1) (N := 8) hx hb hts (by decide +kernel) tyX1 tyX1_ok nmX1 hown hK hP hD hS 0 rfl rfl 6 (by decide) (hts (.fieldLink RX1 41 "CountedOut$Ring" "ahead" "I") (by decide +kernel)) (fun _ h9 => h9) rfl (by decide +kernel) rfl rfl (Nat.le_of_ble_eq_true rfl) dX1_takeTurn_70 (fun H locs hP hD hS => ?_)
      have hP : va_P (dC, dI) vwCl [(h2, .inr (1, [.ref a0, .ref a1, .ref a2, .ref a3, .int (nI N), .int (nI (bc (alv (tL Z.2.1 (tQ N neg k Z))) N)), .int (nI (nextP (alv (tL Z.2.1 (tQ N neg k Z))) N (tQ N neg k Z))), .int (nI (Z.1.length + 1))])), (a0, .inl (cA, 40, .inl (upd LA (tQ N neg k Z) (nI (Z.2.1 (tQ N neg k Z) - 1))))), (a1, .inl (cA, 40, .inl W1)), (a2, .inl (cA, 200, .inl (upd CA Z.1.length (nI (tQ N neg k Z))))), (a3, .inl (cA, 200, .inl (upd AA Z.1.length (nI Z.2.2.2))))] H := hP
      have hD : va_D A [(h2, .inr (1, [.ref a0, .ref a1, .ref a2, .ref a3, .int (nI N), .int (nI (bc (alv (tL Z.2.1 (tQ N neg k Z))) N)), .int (nI (nextP (alv (tL Z.2.1 (tQ N neg k Z))) N (tQ N neg k Z))), .int (nI (Z.1.length + 1))])), (a0, .inl (cA, 40, .inl (upd LA (tQ N neg k Z) (nI (Z.2.1 (tQ N neg k Z) - 1))))), (a1, .inl (cA, 40, .inl W1)), (a2, .inl (cA, 200, .inl (upd CA Z.1.length (nI (tQ N neg k Z))))), (a3, .inl (cA, 200, .inl (upd AA Z.1.length (nI Z.2.2.2))))] := hD
      refine lv_iconst (v := 1) hx hb dX1_takeTurn_73 (by decide) ?_
      have hP9 := hP.sub (ws' := [(h2, .inr (1, [.ref a0, .ref a1, .ref a2, .ref a3, .int (nI N), .int (nI (bc (alv (tL Z.2.1 (tQ N neg k Z))) N)), .int (nI (nextP (alv (tL Z.2.1 (tQ N neg k Z))) N (tQ N neg k Z))), .int (nI (Z.1.length + 1))])), (a0, .inl (cA, 40, .inl (upd LA (tQ N neg k Z) (nI (Z.2.1 (tQ N neg k Z) - 1))))), (a1, .inl (cA, 40, .inl W1)), (a2, .inl (cA, 200, .inl (upd CA Z.1.length (nI (tQ N neg k Z))))), (a3, .inl (cA, 200, .inl (upd AA Z.1.length (nI Z.2.2.2))))]) [0, 1, 2, 3, 4] rfl
      have hD9 := hD.sub (ws' := [(h2, .inr (1, [.ref a0, .ref a1, .ref a2, .ref a3, .int (nI N), .int (nI (bc (alv (tL Z.2.1 (tQ N neg k Z))) N)), .int (nI (nextP (alv (tL Z.2.1 (tQ N neg k Z))) N (tQ N neg k Z))), .int (nI (Z.1.length + 1))])), (a0, .inl (cA, 40, .inl (upd LA (tQ N neg k Z) (nI (Z.2.1 (tQ N neg k Z) - 1))))), (a1, .inl (cA, 40, .inl W1)), (a2, .inl (cA, 200, .inl (upd CA Z.1.length (nI (tQ N neg k Z))))), (a3, .inl (cA, 200, .inl (upd AA Z.1.length (nI Z.2.2.2))))]) [0, 1, 2, 3, 4] (by decide) rfl
      exact W.zret (v := 1) hx hb hr (rfl) (fun t ht hW => ⟨⟨_, (tS N neg k Z, _, _, _, _), rfl, ⟨by rw [decide_eq_true c_5]; rfl, by rw [if_neg (by omega)], hR1⟩, ⟨by rw [ht]; exact hP9, va_K.moved hW.alike hK, hD9⟩⟩, hS.F ht⟩) hS.2.2 dX1_takeTurn_74
    · exact absurd ((nI_ltI (a := Z.1.length) (b := 200) (by omega) (by omega)).mpr hlen) c_15

set_option maxHeartbeats 4000000 in
set_option maxRecDepth 100000 in
theorem c_X1_takeBack (l : Launch) (dC : Nat → ClassId) (dI : Nat → Nat → Nat) (sz : Nat) (cA : ClassId) (h2 a0 a1 a2 a3 : Nat) (Bl : Nat → Nat) (N : Nat) (lg : List (Nat × Nat)) (L Wn : Nat → Nat) (ah : Nat) (LA WA CA AA : Nat → Int32) (hG : Rg Bl N lg L Wn ah) (hR : RX N lg L Wn LA WA CA AA) : Met l yX1_takeBack wsX1_takeBack ({ frames := 0, cells := 0, slots := 0, locals := 0 }) (va_Pc [.ref h2] (fun U => U.heap.size = sz ∧ va_P (dC, dI) vwCl [(h2, .inr (1, [.ref a0, .ref a1, .ref a2, .ref a3, .int (nI N), .int (nI (bc (alv L) N)), .int (nI ah), .int (nI lg.length)])), (a0, .inl (cA, 40, .inl LA)), (a1, .inl (cA, 40, .inl WA)), (a2, .inl (cA, 200, .inl CA)), (a3, .inl (cA, 200, .inl AA))] U.heap ∧ va_K (dC, dI) vwCl [(cA, .int)] U ∧ va_D (fun _ => True) [(h2, .inr (1, [.ref a0, .ref a1, .ref a2, .ref a3, .int (nI N), .int (nI (bc (alv L) N)), .int (nI ah), .int (nI lg.length)])), (a0, .inl (cA, 40, .inl LA)), (a1, .inl (cA, 40, .inl WA)), (a2, .inl (cA, 200, .inl CA)), (a3, .inl (cA, 200, .inl AA))])) (va_Qi (S := AS × (Nat → Int32) × (Nat → Int32) × (Nat → Int32) × (Nat → Int32)) (fun r u => r = zb (decide (0 < lg.length)) ∧ u.1 = bk1 (lg, L, Wn, ah) ∧ RA N u.1 u.2.1 u.2.2.1 u.2.2.2.1 u.2.2.2.2) (fun (u : AS × (Nat → Int32) × (Nat → Int32) × (Nat → Int32) × (Nat → Int32)) (t : State) => va_P (dC, dI) vwCl [(h2, .inr (1, [.ref a0, .ref a1, .ref a2, .ref a3, .int (nI N), .int (nI (bc (alv u.1.2.1) N)), .int (nI u.1.2.2.2), .int (nI u.1.1.length)])), (a0, .inl (cA, 40, .inl u.2.1)), (a1, .inl (cA, 40, .inl u.2.2.1)), (a2, .inl (cA, 200, .inl u.2.2.2.1)), (a3, .inl (cA, 200, .inl u.2.2.2.2))] t.heap ∧ va_K (dC, dI) vwCl [(cA, .int)] t ∧ va_D (va_A [(h2, .inr (1, [.ref a0, .ref a1, .ref a2, .ref a3, .int (nI N), .int (nI (bc (alv L) N)), .int (nI ah), .int (nI lg.length)])), (a0, .inl (cA, 40, .inl LA)), (a1, .inl (cA, 40, .inl WA)), (a2, .inl (cA, 200, .inl CA)), (a3, .inl (cA, 200, .inl AA))] sz) [(h2, .inr (1, [.ref a0, .ref a1, .ref a2, .ref a3, .int (nI N), .int (nI (bc (alv u.1.2.1) N)), .int (nI u.1.2.2.2), .int (nI u.1.1.length)])), (a0, .inl (cA, 40, .inl u.2.1)), (a1, .inl (cA, 40, .inl u.2.2.1)), (a2, .inl (cA, 200, .inl u.2.2.2.1)), (a3, .inl (cA, 200, .inl u.2.2.2.2))]) (va_A [(h2, .inr (1, [.ref a0, .ref a1, .ref a2, .ref a3, .int (nI N), .int (nI (bc (alv L) N)), .int (nI ah), .int (nI lg.length)])), (a0, .inl (cA, 40, .inl LA)), (a1, .inl (cA, 40, .inl WA)), (a2, .inl (cA, 200, .inl CA)), (a3, .inl (cA, 200, .inl AA))] sz)) 0 0 (va_A [(h2, .inr (1, [.ref a0, .ref a1, .ref a2, .ref a3, .int (nI N), .int (nI (bc (alv L) N)), .int (nI ah), .int (nI lg.length)])), (a0, .inl (cA, 40, .inl LA)), (a1, .inl (cA, 40, .inl WA)), (a2, .inl (cA, 200, .inl CA)), (a3, .inl (cA, 200, .inl AA))] sz) := by
  refine Met.ofW (cc := cX1_takeBack) (maxL := 2) (ret := (some .boolean)) (by decide) rfl ?_
  intro p e s m args below meth c s₁ B hml hv
  obtain ⟨rfl, hsz, hP, hK, hD0⟩ := hv
  have hx := B.exec
  have hb := B.bytes
  have hr := B.returns
  have hts := atoms_spec (ws := wsX1_takeBack) B.pre
  have hown : s.vm.findClass RX1 = some m.cls := findClass_of_methodNamed B.named
  have hlocks := B.notSynchronized
  subst hsz
  have hD := hD0.self (sz := s.heap.size)
  generalize hAe : va_A [(h2, .inr (1, [.ref a0, .ref a1, .ref a2, .ref a3, .int (nI N), .int (nI (bc (alv L) N)), .int (nI ah), .int (nI lg.length)])), (a0, .inl (cA, 40, .inl LA)), (a1, .inl (cA, 40, .inl WA)), (a2, .inl (cA, 200, .inl CA)), (a3, .inl (cA, 200, .inl AA))] s.heap.size = A at hD ⊢
  have hA : ∀ q : Nat, s.heap.size ≤ q → A q := fun q h => by rw [← hAe]; exact Or.inr h
  have hS : va_S A s.heap s.heap [] := va_S.rf
  have hP : va_P (dC, dI) vwCl [(h2, .inr (1, [.ref a0, .ref a1, .ref a2, .ref a3, .int (nI N), .int (nI (bc (alv L) N)), .int (nI ah), .int (nI lg.length)])), (a0, .inl (cA, 40, .inl LA)), (a1, .inl (cA, 40, .inl WA)), (a2, .inl (cA, 200, .inl CA)), (a3, .inl (cA, 200, .inl AA))] s.heap := hP
  have hl := lv_entry ([.ref h2]) (n := 2) (Nat.le_of_ble_eq_true rfl)
  rw [lg_entry_eq]
  generalize (lg_sl ([.ref h2]) ++ List.replicate (2 - (lg_sl ([.ref h2])).length) Slot.unset).toArray = ls at hl ⊢
  have hl : lv_has ls 2 [(0, .ref h2)] := hl
  obtain ⟨hN1, hN, hah, hal, hL5, hWL, hWc, hWi, hWe⟩ := hG.rb
  have hlen := hG.len
  have hcl := bc_le (alv L) N
  refine lv_aload_n hx hb dX1_takeBack_0 rfl (lv_at hl 0 rfl) ?_
  refine va_get (D := (dC, dI)) (ci := 1) (v := .int (nI lg.length)) (C := RX1) (T := TX1) (N := 8) hx hb hts (by decide +kernel) hown hK hP 0 rfl rfl 7 (by decide) (hts (.fieldLink RX1 44 "CountedOut$Ring" "done" "I") (by decide +kernel)) (fun _ h9 => h9) rfl dX1_takeBack_1 ?_
  refine lv_iconst (v := 1) hx hb dX1_takeBack_4 (by decide) ?_
  refine lv_icmp_ge (tgt := 10) hx hb dX1_takeBack_5 (by decide) (fun c_5 => ?_) (fun c_5 => ?_)
  · obtain ⟨q0, b0, tl, rfl⟩ : ∃ q0 b0 tl, lg = (q0, b0) :: tl := by cases lg with | nil => exact absurd c_5 (by decide) | cons x tl => exact ⟨x.1, x.2, tl, rfl⟩
    obtain ⟨hq1, ha1, hq4, hG0, hcb, hWq⟩ := GA_back hG
    have hlen2 : tl.length + 1 < 200 := hlen
    refine lv_aload_n hx hb dX1_takeBack_10 rfl (lv_at hl 0 rfl) ?_
    refine lv_dup hx hb dX1_takeBack_11 rfl ?_
    refine va_get (D := (dC, dI)) (ci := 1) (v := .int (nI ((q0, b0) :: tl).length)) (C := RX1) (T := TX1) (N := 8) hx hb hts (by decide +kernel) hown hK hP 0 rfl rfl 7 (by decide) (hts (.fieldLink RX1 44 "CountedOut$Ring" "done" "I") (by decide +kernel)) (fun _ h9 => h9) rfl dX1_takeBack_12 ?_
    refine lv_iconst (v := 1) hx hb dX1_takeBack_15 (by decide) ?_
    refine lv_isub hx hb dX1_takeBack_16 ?_
    refine z_i (y := nI tl.length) (nI_pred tl.length) ?_
    refine va_put (D := (dC, dI)) (ci := 1) (v := .int (nI tl.length)) (ty := .int) (C := RX1) (T := TX1) (N := 8) hx hb hts (by decide +kernel) tyX1 tyX1_ok nmX1 hown hK hP hD hS 0 rfl rfl 7 (by decide) (hts (.fieldLink RX1 44 "CountedOut$Ring" "done" "I") (by decide +kernel)) (fun _ h9 => h9) rfl (by decide +kernel) rfl rfl (Nat.le_of_ble_eq_true rfl) dX1_takeBack_17 (fun H locs hP hD hS => ?_)
    have hP : va_P (dC, dI) vwCl [(h2, .inr (1, [.ref a0, .ref a1, .ref a2, .ref a3, .int (nI N), .int (nI (bc (alv L) N)), .int (nI ah), .int (nI tl.length)])), (a0, .inl (cA, 40, .inl LA)), (a1, .inl (cA, 40, .inl WA)), (a2, .inl (cA, 200, .inl CA)), (a3, .inl (cA, 200, .inl AA))] H := hP
    have hD : va_D A [(h2, .inr (1, [.ref a0, .ref a1, .ref a2, .ref a3, .int (nI N), .int (nI (bc (alv L) N)), .int (nI ah), .int (nI tl.length)])), (a0, .inl (cA, 40, .inl LA)), (a1, .inl (cA, 40, .inl WA)), (a2, .inl (cA, 200, .inl CA)), (a3, .inl (cA, 200, .inl AA))] := hD
    refine lv_aload_n hx hb dX1_takeBack_20 rfl (lv_at hl 0 rfl) ?_
    refine va_get (D := (dC, dI)) (ci := 1) (v := .ref a2) (C := RX1) (T := TX1) (N := 8) hx hb hts (by decide +kernel) hown hK hP 0 rfl rfl 2 (by decide) (hts (.fieldLink RX1 18 "CountedOut$Ring" "loggedCounted" "[I") (by decide +kernel)) (fun _ h9 => h9) rfl dX1_takeBack_21 ?_
    refine lv_aload_n hx hb dX1_takeBack_24 rfl (lv_at hl 0 rfl) ?_
    refine va_get (D := (dC, dI)) (ci := 1) (v := .int (nI tl.length)) (C := RX1) (T := TX1) (N := 8) hx hb hts (by decide +kernel) hown hK hP 0 rfl rfl 7 (by decide) (hts (.fieldLink RX1 44 "CountedOut$Ring" "done" "I") (by decide +kernel)) (fun _ h9 => h9) rfl dX1_takeBack_25 ?_
    refine z_iald hx hb hK hP 3 0 rfl rfl (i := tl.length) (by omega) (by decide) dX1_takeBack_28 ?_
    refine z_i (y := nI q0) (hR.2.2.1) ?_
    refine lv_istore_n (lv' := [(1, .int (nI q0)), (0, .ref h2)]) hx hb dX1_takeBack_29 rfl hl (by decide) rfl (fun ls hl => ?_)
    refine lv_aload_n hx hb dX1_takeBack_30 rfl (lv_at hl 1 rfl) ?_
    refine va_get (D := (dC, dI)) (ci := 1) (v := .ref a0) (C := RX1) (T := TX1) (N := 8) hx hb hts (by decide +kernel) hown hK hP 0 rfl rfl 0 (by decide) (hts (.fieldLink RX1 9 "CountedOut$Ring" "livesLeft" "[I") (by decide +kernel)) (fun _ h9 => h9) rfl dX1_takeBack_31 ?_
    refine lv_iload_n hx hb dX1_takeBack_34 rfl (lv_at hl 0 rfl) ?_
    refine z_iald hx hb hK hP 1 0 rfl rfl (i := q0) (by omega) (by decide) dX1_takeBack_35 ?_
    refine z_i (y := nI (L q0)) (hR.1 _ hq1) ?_
    refine lv_if_ne (tgt := 57) hx hb dX1_takeBack_36 (by decide) (fun c_36 => ?_) (fun c_36 => ?_)
    · have c_36 : ¬ L q0 = 0 := fun h => c_36 ((nI_eq (a := L q0) (b := 0) (by omega) (by omega)).mpr h)
      rw [if_neg c_36, Nat.add_zero] at hcb
      rw [← hcb] at hP hD
      refine lv_aload_n hx hb dX1_takeBack_57 rfl (lv_at hl 1 rfl) ?_
      refine va_get (D := (dC, dI)) (ci := 1) (v := .ref a0) (C := RX1) (T := TX1) (N := 8) hx hb hts (by decide +kernel) hown hK hP 0 rfl rfl 0 (by decide) (hts (.fieldLink RX1 9 "CountedOut$Ring" "livesLeft" "[I") (by decide +kernel)) (fun _ h9 => h9) rfl dX1_takeBack_58 ?_
      refine lv_iload_n hx hb dX1_takeBack_61 rfl (lv_at hl 0 rfl) ?_
      refine lv_dup2_11 hx hb dX1_takeBack_62 rfl rfl ?_
      refine z_iald hx hb hK hP 1 0 rfl rfl (i := q0) (by omega) (by decide) dX1_takeBack_63 ?_
      refine z_i (y := nI (L q0)) (hR.1 _ hq1) ?_
      refine lv_iconst (v := 1) hx hb dX1_takeBack_64 (by decide) ?_
      refine lv_iadd hx hb dX1_takeBack_65 ?_
      refine z_i (y := nI (L q0 + 1)) (nI_1 _) ?_
      refine z_iast hx hb hK hP hD hS 1 0 rfl rfl (i := q0) (by omega) (by decide) dX1_takeBack_66 (fun H locs hP hD hS => ?_)
      have hP : va_P (dC, dI) vwCl [(h2, .inr (1, [.ref a0, .ref a1, .ref a2, .ref a3, .int (nI N), .int (nI (bc (alv (bL L q0)) N)), .int (nI ah), .int (nI tl.length)])), (a0, .inl (cA, 40, .inl (upd LA q0 (nI (L q0 + 1))))), (a1, .inl (cA, 40, .inl WA)), (a2, .inl (cA, 200, .inl CA)), (a3, .inl (cA, 200, .inl AA))] H := hP
      have hD : va_D A [(h2, .inr (1, [.ref a0, .ref a1, .ref a2, .ref a3, .int (nI N), .int (nI (bc (alv (bL L q0)) N)), .int (nI ah), .int (nI tl.length)])), (a0, .inl (cA, 40, .inl (upd LA q0 (nI (L q0 + 1))))), (a1, .inl (cA, 40, .inl WA)), (a2, .inl (cA, 200, .inl CA)), (a3, .inl (cA, 200, .inl AA))] := hD
      refine lv_aload_n hx hb dX1_takeBack_67 rfl (lv_at hl 1 rfl) ?_
      refine lv_aload_n hx hb dX1_takeBack_68 rfl (lv_at hl 1 rfl) ?_
      refine va_get (D := (dC, dI)) (ci := 1) (v := .ref a3) (C := RX1) (T := TX1) (N := 8) hx hb hts (by decide +kernel) hown hK hP 0 rfl rfl 3 (by decide) (hts (.fieldLink RX1 21 "CountedOut$Ring" "loggedAhead" "[I") (by decide +kernel)) (fun _ h9 => h9) rfl dX1_takeBack_69 ?_
      refine lv_aload_n hx hb dX1_takeBack_72 rfl (lv_at hl 1 rfl) ?_
      refine va_get (D := (dC, dI)) (ci := 1) (v := .int (nI tl.length)) (C := RX1) (T := TX1) (N := 8) hx hb hts (by decide +kernel) hown hK hP 0 rfl rfl 7 (by decide) (hts (.fieldLink RX1 44 "CountedOut$Ring" "done" "I") (by decide +kernel)) (fun _ h9 => h9) rfl dX1_takeBack_73 ?_
      refine z_iald hx hb hK hP 4 0 rfl rfl (i := tl.length) (by omega) (by decide) dX1_takeBack_76 ?_
      refine z_i (y := nI b0) (hR.2.2.2.1) ?_
      refine va_put (D := (dC, dI)) (ci := 1) (v := .int (nI b0)) (ty := .int) (C := RX1) (T := TX1) (N := 8) hx hb hts (by decide +kernel) tyX1 tyX1_ok nmX1 hown hK hP hD hS 0 rfl rfl 6 (by decide) (hts (.fieldLink RX1 41 "CountedOut$Ring" "ahead" "I") (by decide +kernel)) (fun _ h9 => h9) rfl (by decide +kernel) rfl rfl (Nat.le_of_ble_eq_true rfl) dX1_takeBack_77 (fun H locs hP hD hS => ?_)
      have hP : va_P (dC, dI) vwCl [(h2, .inr (1, [.ref a0, .ref a1, .ref a2, .ref a3, .int (nI N), .int (nI (bc (alv (bL L q0)) N)), .int (nI b0), .int (nI tl.length)])), (a0, .inl (cA, 40, .inl (upd LA q0 (nI (L q0 + 1))))), (a1, .inl (cA, 40, .inl WA)), (a2, .inl (cA, 200, .inl CA)), (a3, .inl (cA, 200, .inl AA))] H := hP
      have hD : va_D A [(h2, .inr (1, [.ref a0, .ref a1, .ref a2, .ref a3, .int (nI N), .int (nI (bc (alv (bL L q0)) N)), .int (nI b0), .int (nI tl.length)])), (a0, .inl (cA, 40, .inl (upd LA q0 (nI (L q0 + 1))))), (a1, .inl (cA, 40, .inl WA)), (a2, .inl (cA, 200, .inl CA)), (a3, .inl (cA, 200, .inl AA))] := hD
      refine lv_iconst (v := 1) hx hb dX1_takeBack_80 (by decide) ?_
      have hP9 := hP.sub (ws' := [(h2, .inr (1, [.ref a0, .ref a1, .ref a2, .ref a3, .int (nI N), .int (nI (bc (alv (bL L q0)) N)), .int (nI b0), .int (nI tl.length)])), (a0, .inl (cA, 40, .inl (upd LA q0 (nI (L q0 + 1))))), (a1, .inl (cA, 40, .inl WA)), (a2, .inl (cA, 200, .inl CA)), (a3, .inl (cA, 200, .inl AA))]) [0, 1, 2, 3, 4] rfl
      have hD9 := hD.sub (ws' := [(h2, .inr (1, [.ref a0, .ref a1, .ref a2, .ref a3, .int (nI N), .int (nI (bc (alv (bL L q0)) N)), .int (nI b0), .int (nI tl.length)])), (a0, .inl (cA, 40, .inl (upd LA q0 (nI (L q0 + 1))))), (a1, .inl (cA, 40, .inl WA)), (a2, .inl (cA, 200, .inl CA)), (a3, .inl (cA, 200, .inl AA))]) [0, 1, 2, 3, 4] (by decide) rfl
      exact W.zret (v := 1) hx hb hr (rfl) (fun t ht hW => ⟨⟨_, ((tl, bL L q0, bW Wn q0, b0), _, _, _, _), rfl, ⟨rfl, rfl, RX_back hR (back_W1 (show WA q0 = -9 by rw [hR.2.1 _ hq1, hWq (by omega)]; rfl))⟩, ⟨by rw [ht]; exact hP9, va_K.moved hW.alike hK, hD9⟩⟩, hS.F ht⟩) hS.2.2 dX1_takeBack_81
    · have c_36 : L q0 = 0 := (nI_eq (a := L q0) (b := 0) (by omega) (by omega)).mp c_36
      rw [if_pos c_36] at hcb
      refine lv_aload_n hx hb dX1_takeBack_39 rfl (lv_at hl 1 rfl) ?_
      refine lv_dup hx hb dX1_takeBack_40 rfl ?_
      refine va_get (D := (dC, dI)) (ci := 1) (v := .int (nI (bc (alv L) N))) (C := RX1) (T := TX1) (N := 8) hx hb hts (by decide +kernel) hown hK hP 0 rfl rfl 5 (by decide) (hts (.fieldLink RX1 38 "CountedOut$Ring" "left" "I") (by decide +kernel)) (fun _ h9 => h9) rfl dX1_takeBack_41 ?_
      refine lv_iconst (v := 1) hx hb dX1_takeBack_44 (by decide) ?_
      refine lv_iadd hx hb dX1_takeBack_45 ?_
      refine z_i (y := nI (bc (alv (bL L q0)) N)) (by rw [hcb]; exact nI_1 _) ?_
      refine va_put (D := (dC, dI)) (ci := 1) (v := .int (nI (bc (alv (bL L q0)) N))) (ty := .int) (C := RX1) (T := TX1) (N := 8) hx hb hts (by decide +kernel) tyX1 tyX1_ok nmX1 hown hK hP hD hS 0 rfl rfl 5 (by decide) (hts (.fieldLink RX1 38 "CountedOut$Ring" "left" "I") (by decide +kernel)) (fun _ h9 => h9) rfl (by decide +kernel) rfl rfl (Nat.le_of_ble_eq_true rfl) dX1_takeBack_46 (fun H locs hP hD hS => ?_)
      have hP : va_P (dC, dI) vwCl [(h2, .inr (1, [.ref a0, .ref a1, .ref a2, .ref a3, .int (nI N), .int (nI (bc (alv (bL L q0)) N)), .int (nI ah), .int (nI tl.length)])), (a0, .inl (cA, 40, .inl LA)), (a1, .inl (cA, 40, .inl WA)), (a2, .inl (cA, 200, .inl CA)), (a3, .inl (cA, 200, .inl AA))] H := hP
      have hD : va_D A [(h2, .inr (1, [.ref a0, .ref a1, .ref a2, .ref a3, .int (nI N), .int (nI (bc (alv (bL L q0)) N)), .int (nI ah), .int (nI tl.length)])), (a0, .inl (cA, 40, .inl LA)), (a1, .inl (cA, 40, .inl WA)), (a2, .inl (cA, 200, .inl CA)), (a3, .inl (cA, 200, .inl AA))] := hD
      refine lv_aload_n hx hb dX1_takeBack_49 rfl (lv_at hl 1 rfl) ?_
      refine va_get (D := (dC, dI)) (ci := 1) (v := .ref a1) (C := RX1) (T := TX1) (N := 8) hx hb hts (by decide +kernel) hown hK hP 0 rfl rfl 1 (by decide) (hts (.fieldLink RX1 15 "CountedOut$Ring" "wentAs" "[I") (by decide +kernel)) (fun _ h9 => h9) rfl dX1_takeBack_50 ?_
      refine lv_iload_n hx hb dX1_takeBack_53 rfl (lv_at hl 0 rfl) ?_
      refine lv_bipush (v := (-9)) hx hb dX1_takeBack_54 (by decide) ?_
      refine z_iast hx hb hK hP hD hS 2 0 rfl rfl (i := q0) (by omega) (by decide) dX1_takeBack_56 (fun H locs hP hD hS => ?_)
      have hP : va_P (dC, dI) vwCl [(h2, .inr (1, [.ref a0, .ref a1, .ref a2, .ref a3, .int (nI N), .int (nI (bc (alv (bL L q0)) N)), .int (nI ah), .int (nI tl.length)])), (a0, .inl (cA, 40, .inl LA)), (a1, .inl (cA, 40, .inl (upd WA q0 (-9)))), (a2, .inl (cA, 200, .inl CA)), (a3, .inl (cA, 200, .inl AA))] H := hP
      have hD : va_D A [(h2, .inr (1, [.ref a0, .ref a1, .ref a2, .ref a3, .int (nI N), .int (nI (bc (alv (bL L q0)) N)), .int (nI ah), .int (nI tl.length)])), (a0, .inl (cA, 40, .inl LA)), (a1, .inl (cA, 40, .inl (upd WA q0 (-9)))), (a2, .inl (cA, 200, .inl CA)), (a3, .inl (cA, 200, .inl AA))] := hD
      refine lv_aload_n hx hb dX1_takeBack_57 rfl (lv_at hl 1 rfl) ?_
      refine va_get (D := (dC, dI)) (ci := 1) (v := .ref a0) (C := RX1) (T := TX1) (N := 8) hx hb hts (by decide +kernel) hown hK hP 0 rfl rfl 0 (by decide) (hts (.fieldLink RX1 9 "CountedOut$Ring" "livesLeft" "[I") (by decide +kernel)) (fun _ h9 => h9) rfl dX1_takeBack_58 ?_
      refine lv_iload_n hx hb dX1_takeBack_61 rfl (lv_at hl 0 rfl) ?_
      refine lv_dup2_11 hx hb dX1_takeBack_62 rfl rfl ?_
      refine z_iald hx hb hK hP 1 0 rfl rfl (i := q0) (by omega) (by decide) dX1_takeBack_63 ?_
      refine z_i (y := nI (L q0)) (hR.1 _ hq1) ?_
      refine lv_iconst (v := 1) hx hb dX1_takeBack_64 (by decide) ?_
      refine lv_iadd hx hb dX1_takeBack_65 ?_
      refine z_i (y := nI (L q0 + 1)) (nI_1 _) ?_
      refine z_iast hx hb hK hP hD hS 1 0 rfl rfl (i := q0) (by omega) (by decide) dX1_takeBack_66 (fun H locs hP hD hS => ?_)
      have hP : va_P (dC, dI) vwCl [(h2, .inr (1, [.ref a0, .ref a1, .ref a2, .ref a3, .int (nI N), .int (nI (bc (alv (bL L q0)) N)), .int (nI ah), .int (nI tl.length)])), (a0, .inl (cA, 40, .inl (upd LA q0 (nI (L q0 + 1))))), (a1, .inl (cA, 40, .inl (upd WA q0 (-9)))), (a2, .inl (cA, 200, .inl CA)), (a3, .inl (cA, 200, .inl AA))] H := hP
      have hD : va_D A [(h2, .inr (1, [.ref a0, .ref a1, .ref a2, .ref a3, .int (nI N), .int (nI (bc (alv (bL L q0)) N)), .int (nI ah), .int (nI tl.length)])), (a0, .inl (cA, 40, .inl (upd LA q0 (nI (L q0 + 1))))), (a1, .inl (cA, 40, .inl (upd WA q0 (-9)))), (a2, .inl (cA, 200, .inl CA)), (a3, .inl (cA, 200, .inl AA))] := hD
      refine lv_aload_n hx hb dX1_takeBack_67 rfl (lv_at hl 1 rfl) ?_
      refine lv_aload_n hx hb dX1_takeBack_68 rfl (lv_at hl 1 rfl) ?_
      refine va_get (D := (dC, dI)) (ci := 1) (v := .ref a3) (C := RX1) (T := TX1) (N := 8) hx hb hts (by decide +kernel) hown hK hP 0 rfl rfl 3 (by decide) (hts (.fieldLink RX1 21 "CountedOut$Ring" "loggedAhead" "[I") (by decide +kernel)) (fun _ h9 => h9) rfl dX1_takeBack_69 ?_
      refine lv_aload_n hx hb dX1_takeBack_72 rfl (lv_at hl 1 rfl) ?_
      refine va_get (D := (dC, dI)) (ci := 1) (v := .int (nI tl.length)) (C := RX1) (T := TX1) (N := 8) hx hb hts (by decide +kernel) hown hK hP 0 rfl rfl 7 (by decide) (hts (.fieldLink RX1 44 "CountedOut$Ring" "done" "I") (by decide +kernel)) (fun _ h9 => h9) rfl dX1_takeBack_73 ?_
      refine z_iald hx hb hK hP 4 0 rfl rfl (i := tl.length) (by omega) (by decide) dX1_takeBack_76 ?_
      refine z_i (y := nI b0) (hR.2.2.2.1) ?_
      refine va_put (D := (dC, dI)) (ci := 1) (v := .int (nI b0)) (ty := .int) (C := RX1) (T := TX1) (N := 8) hx hb hts (by decide +kernel) tyX1 tyX1_ok nmX1 hown hK hP hD hS 0 rfl rfl 6 (by decide) (hts (.fieldLink RX1 41 "CountedOut$Ring" "ahead" "I") (by decide +kernel)) (fun _ h9 => h9) rfl (by decide +kernel) rfl rfl (Nat.le_of_ble_eq_true rfl) dX1_takeBack_77 (fun H locs hP hD hS => ?_)
      have hP : va_P (dC, dI) vwCl [(h2, .inr (1, [.ref a0, .ref a1, .ref a2, .ref a3, .int (nI N), .int (nI (bc (alv (bL L q0)) N)), .int (nI b0), .int (nI tl.length)])), (a0, .inl (cA, 40, .inl (upd LA q0 (nI (L q0 + 1))))), (a1, .inl (cA, 40, .inl (upd WA q0 (-9)))), (a2, .inl (cA, 200, .inl CA)), (a3, .inl (cA, 200, .inl AA))] H := hP
      have hD : va_D A [(h2, .inr (1, [.ref a0, .ref a1, .ref a2, .ref a3, .int (nI N), .int (nI (bc (alv (bL L q0)) N)), .int (nI b0), .int (nI tl.length)])), (a0, .inl (cA, 40, .inl (upd LA q0 (nI (L q0 + 1))))), (a1, .inl (cA, 40, .inl (upd WA q0 (-9)))), (a2, .inl (cA, 200, .inl CA)), (a3, .inl (cA, 200, .inl AA))] := hD
      refine lv_iconst (v := 1) hx hb dX1_takeBack_80 (by decide) ?_
      have hP9 := hP.sub (ws' := [(h2, .inr (1, [.ref a0, .ref a1, .ref a2, .ref a3, .int (nI N), .int (nI (bc (alv (bL L q0)) N)), .int (nI b0), .int (nI tl.length)])), (a0, .inl (cA, 40, .inl (upd LA q0 (nI (L q0 + 1))))), (a1, .inl (cA, 40, .inl (upd WA q0 (-9)))), (a2, .inl (cA, 200, .inl CA)), (a3, .inl (cA, 200, .inl AA))]) [0, 1, 2, 3, 4] rfl
      have hD9 := hD.sub (ws' := [(h2, .inr (1, [.ref a0, .ref a1, .ref a2, .ref a3, .int (nI N), .int (nI (bc (alv (bL L q0)) N)), .int (nI b0), .int (nI tl.length)])), (a0, .inl (cA, 40, .inl (upd LA q0 (nI (L q0 + 1))))), (a1, .inl (cA, 40, .inl (upd WA q0 (-9)))), (a2, .inl (cA, 200, .inl CA)), (a3, .inl (cA, 200, .inl AA))]) [0, 1, 2, 3, 4] (by decide) rfl
      exact W.zret (v := 1) hx hb hr (rfl) (fun t ht hW => ⟨⟨_, ((tl, bL L q0, bW Wn q0, b0), _, _, _, _), rfl, ⟨rfl, rfl, RX_back hR (back_W2)⟩, ⟨by rw [ht]; exact hP9, va_K.moved hW.alike hK, hD9⟩⟩, hS.F ht⟩) hS.2.2 dX1_takeBack_81
  · obtain rfl : lg = [] := by cases lg with | nil => rfl | cons x tl => exact absurd ((nI_leI (a := 1) (by omega) (by omega)).mpr (by show 1 ≤ tl.length + 1; omega)) c_5
    refine lv_iconst (v := 0) hx hb dX1_takeBack_8 (by decide) ?_
    have hP9 := hP.sub (ws' := [(h2, .inr (1, [.ref a0, .ref a1, .ref a2, .ref a3, .int (nI N), .int (nI (bc (alv L) N)), .int (nI ah), .int (nI ([] : List (Nat × Nat)).length)])), (a0, .inl (cA, 40, .inl LA)), (a1, .inl (cA, 40, .inl WA)), (a2, .inl (cA, 200, .inl CA)), (a3, .inl (cA, 200, .inl AA))]) [0, 1, 2, 3, 4] rfl
    have hD9 := hD.sub (ws' := [(h2, .inr (1, [.ref a0, .ref a1, .ref a2, .ref a3, .int (nI N), .int (nI (bc (alv L) N)), .int (nI ah), .int (nI ([] : List (Nat × Nat)).length)])), (a0, .inl (cA, 40, .inl LA)), (a1, .inl (cA, 40, .inl WA)), (a2, .inl (cA, 200, .inl CA)), (a3, .inl (cA, 200, .inl AA))]) [0, 1, 2, 3, 4] (by decide) rfl
    exact W.zret (v := 0) hx hb hr (rfl) (fun t ht hW => ⟨⟨_, (([], L, Wn, ah), LA, WA, CA, AA), rfl, ⟨rfl, rfl, hR⟩, ⟨by rw [ht]; exact hP9, va_K.moved hW.alike hK, hD9⟩⟩, hS.F ht⟩) hS.2.2 dX1_takeBack_9

set_option maxHeartbeats 4000000 in
set_option maxRecDepth 100000 in
theorem c_X1_latestCounted (l : Launch) (dC : Nat → ClassId) (dI : Nat → Nat → Nat) (cA : ClassId) (h2 a0 a1 a2 a3 : Nat) (lg : List (Nat × Nat)) (hlen : lg.length < 200) (sz0 lf av : Int32) (CA AA : Nat → Int32) (hR : LR lg CA AA) (L Wn : Nat → Nat) (ah : Nat) : Met l yX1_latestCounted wsX1_latestCounted ({ frames := 0, cells := 0, slots := 0, locals := 0 }) (va_Pc [.ref h2] (fun U => va_P (dC, dI) vwCl [(h2, .inr (1, [.ref a0, .ref a1, .ref a2, .ref a3, .int sz0, .int lf, .int av, .int (nI lg.length)])), (a2, .inl (cA, 200, .inl CA))] U.heap ∧ va_K (dC, dI) vwCl [(cA, .int)] U)) (vp_Si (fun r => r = lcI (lg, L, Wn, ah))) 0 0 (fun _ => False) := by
  refine Met.ofW (cc := cX1_latestCounted) (maxL := 1) (ret := (some .int)) (by decide) rfl ?_
  intro p e s m args below meth c s₁ B hml hv
  obtain ⟨rfl, hP, hK⟩ := hv
  have hx := B.exec
  have hb := B.bytes
  have hr := B.returns
  have hts := atoms_spec (ws := wsX1_latestCounted) B.pre
  have hown : s.vm.findClass RX1 = some m.cls := findClass_of_methodNamed B.named
  have hlocks := B.notSynchronized
  have hl := lv_entry ([.ref h2]) (n := 1) (Nat.le_of_ble_eq_true rfl)
  rw [lg_entry_eq]
  generalize (lg_sl ([.ref h2]) ++ List.replicate (1 - (lg_sl ([.ref h2])).length) Slot.unset).toArray = ls at hl ⊢
  have hl : lv_has ls 1 [(0, .ref h2)] := hl
  refine lv_aload_n hx hb dX1_latestCounted_0 rfl (lv_at hl 0 rfl) ?_
  refine va_get (D := (dC, dI)) (ci := 1) (v := .int (nI lg.length)) (C := RX1) (T := TX1) (N := 8) hx hb hts (by decide +kernel) hown hK hP 0 rfl rfl 7 (by decide) (hts (.fieldLink RX1 44 "CountedOut$Ring" "done" "I") (by decide +kernel)) (fun _ h9 => h9) rfl dX1_latestCounted_1 ?_
  refine lv_iconst (v := 1) hx hb dX1_latestCounted_4 (by decide) ?_
  refine lv_icmp_ge (tgt := 13) hx hb dX1_latestCounted_5 (by decide) (fun c_5 => ?_) (fun c_5 => ?_)
  · obtain ⟨q0, b0, tl, rfl⟩ : ∃ q0 b0 tl, lg = (q0, b0) :: tl := by cases lg with | nil => exact absurd c_5 (by decide) | cons x tl => exact ⟨x.1, x.2, tl, rfl⟩
    refine lv_aload_n hx hb dX1_latestCounted_13 rfl (lv_at hl 0 rfl) ?_
    refine va_get (D := (dC, dI)) (ci := 1) (v := .ref a2) (C := RX1) (T := TX1) (N := 8) hx hb hts (by decide +kernel) hown hK hP 0 rfl rfl 2 (by decide) (hts (.fieldLink RX1 18 "CountedOut$Ring" "loggedCounted" "[I") (by decide +kernel)) (fun _ h9 => h9) rfl dX1_latestCounted_14 ?_
    refine lv_aload_n hx hb dX1_latestCounted_17 rfl (lv_at hl 0 rfl) ?_
    refine va_get (D := (dC, dI)) (ci := 1) (v := .int (nI ((q0, b0) :: tl).length)) (C := RX1) (T := TX1) (N := 8) hx hb hts (by decide +kernel) hown hK hP 0 rfl rfl 7 (by decide) (hts (.fieldLink RX1 44 "CountedOut$Ring" "done" "I") (by decide +kernel)) (fun _ h9 => h9) rfl dX1_latestCounted_18 ?_
    refine lv_iconst (v := 1) hx hb dX1_latestCounted_21 (by decide) ?_
    refine lv_isub hx hb dX1_latestCounted_22 ?_
    refine z_i (y := nI tl.length) (nI_pred tl.length) ?_
    refine z_iald hx hb hK hP 1 0 rfl rfl (i := tl.length) (by have : tl.length + 1 < 200 := hlen; omega) (by decide) dX1_latestCounted_23 ?_
    refine z_i (y := nI q0) (hR.1) ?_
    exact W.iret (v := nI q0) hx hb hr (fun t ht hW => ⟨_, rfl, rfl, ht⟩) (fun _ h => absurd h List.not_mem_nil) dX1_latestCounted_24
  · obtain rfl : lg = [] := by cases lg with | nil => rfl | cons x tl => exact absurd ((nI_leI (a := 1) (by omega) (by omega)).mpr (by show 1 ≤ tl.length + 1; omega)) c_5
    refine lv_bipush (v := (-9)) hx hb dX1_latestCounted_8 (by decide) ?_
    refine lv_goto (tgt := 24) hx hb dX1_latestCounted_10 (by decide) ?_
    exact W.iret (v := (-9)) hx hb hr (fun t ht hW => ⟨_, rfl, rfl, ht⟩) (fun _ h => absurd h List.not_mem_nil) dX1_latestCounted_24

set_option maxHeartbeats 4000000 in
set_option maxRecDepth 100000 in
theorem c_X1_latestOut (l : Launch) (dC : Nat → ClassId) (dI : Nat → Nat → Nat) (cA : ClassId) (h2 a0 a1 a2 a3 : Nat) (N : Nat) (hN : N ≤ 40) (Wn : Nat → Nat) (WA : Nat → Int32) (hWA : ∀ p, p < N → WA p = wI (Wn p)) (hW40 : ∀ p, p < N → Wn p ≤ 40) (cn : Nat) (hcn : cn ≤ N) (av dv : Int32) : Met l yX1_latestOut wsX1_latestOut ({ frames := 0, cells := 0, slots := 0, locals := 0 }) (va_Pc [.ref h2] (fun U => va_P (dC, dI) vwCl [(h2, .inr (1, [.ref a0, .ref a1, .ref a2, .ref a3, .int (nI N), .int (nI cn), .int av, .int dv])), (a1, .inl (cA, 40, .inl WA))] U.heap ∧ va_K (dC, dI) vwCl [(cA, .int)] U)) (vp_Si (fun r => r = lo N Wn (N - cn) N 0)) 0 0 (fun _ => False) := by
  refine Met.ofW (cc := cX1_latestOut) (maxL := 2) (ret := (some .int)) (by decide) rfl ?_
  intro p e s m args below meth c s₁ B hml hv
  obtain ⟨rfl, hP, hK⟩ := hv
  have hx := B.exec
  have hb := B.bytes
  have hr := B.returns
  have hts := atoms_spec (ws := wsX1_latestOut) B.pre
  have hown : s.vm.findClass RX1 = some m.cls := findClass_of_methodNamed B.named
  have hlocks := B.notSynchronized
  have hl := lv_entry ([.ref h2]) (n := 2) (Nat.le_of_ble_eq_true rfl)
  rw [lg_entry_eq]
  generalize (lg_sl ([.ref h2]) ++ List.replicate (2 - (lg_sl ([.ref h2])).length) Slot.unset).toArray = ls at hl ⊢
  have hl : lv_has ls 2 [(0, .ref h2)] := hl
  refine lv_iconst (v := 0) hx hb dX1_latestOut_0 (by decide) ?_
  refine lv_istore_n (lv' := [(1, .int 0), (0, .ref h2)]) hx hb dX1_latestOut_1 rfl hl (by decide) rfl (fun ls hl => ?_)
  refine W_loopR (σ := Nat) (fun p0 ls => lv_has ls 2 [(0, .ref h2), (1, .int (nI p0))] ∧ p0 ≤ N ∧ lo N Wn (N - cn) (N - p0) p0 = lo N Wn (N - cn) N 0) (fun p0 => N - p0) ?_ 0 ⟨lv_sub hl [1, 0] rfl, (by omega), rfl⟩
  rintro p0 ls ⟨hl, hp, hg⟩ ih_2
  refine lv_iload_n hx hb dX1_latestOut_2 rfl (lv_at hl 1 rfl) ?_
  refine lv_aload_n hx hb dX1_latestOut_3 rfl (lv_at hl 0 rfl) ?_
  refine va_get (D := (dC, dI)) (ci := 1) (v := .int (nI N)) (C := RX1) (T := TX1) (N := 8) hx hb hts (by decide +kernel) hown hK hP 0 rfl rfl 4 (by decide) (hts (.fieldLink RX1 34 "CountedOut$Ring" "size" "I") (by decide +kernel)) (fun _ h9 => h9) rfl dX1_latestOut_4 ?_
  refine lv_icmp_ge (tgt := 36) hx hb dX1_latestOut_7 (by decide) (fun c_7 => ?_) (fun c_7 => ?_)
  · have c_7 : N ≤ p0 := (nI_leI (a := N) (b := p0) (by omega) (by omega)).mp c_7
    refine lv_bipush (v := (-9)) hx hb dX1_latestOut_36 (by decide) ?_
    exact W.iret (v := (-9)) hx hb hr (fun t ht hW => ⟨_, rfl, by rw [← hg, show N - p0 = 0 by omega]; rfl, ht⟩) (fun _ h => absurd h List.not_mem_nil) dX1_latestOut_38
  · have c_7 : p0 < N := Nat.lt_of_not_le (fun h => c_7 ((nI_leI (a := N) (b := p0) (by omega) (by omega)).mpr h))
    refine lv_aload_n hx hb dX1_latestOut_10 rfl (lv_at hl 0 rfl) ?_
    refine va_get (D := (dC, dI)) (ci := 1) (v := .ref a1) (C := RX1) (T := TX1) (N := 8) hx hb hts (by decide +kernel) hown hK hP 0 rfl rfl 1 (by decide) (hts (.fieldLink RX1 15 "CountedOut$Ring" "wentAs" "[I") (by decide +kernel)) (fun _ h9 => h9) rfl dX1_latestOut_11 ?_
    refine lv_iload_n hx hb dX1_latestOut_14 rfl (lv_at hl 1 rfl) ?_
    refine z_iald hx hb hK hP 1 0 rfl rfl (i := p0) (by omega) (by decide) dX1_latestOut_15 ?_
    refine z_i (y := wI (Wn p0)) (hWA _ c_7) ?_
    refine lv_aload_n hx hb dX1_latestOut_16 rfl (lv_at hl 0 rfl) ?_
    refine va_get (D := (dC, dI)) (ci := 1) (v := .int (nI N)) (C := RX1) (T := TX1) (N := 8) hx hb hts (by decide +kernel) hown hK hP 0 rfl rfl 4 (by decide) (hts (.fieldLink RX1 34 "CountedOut$Ring" "size" "I") (by decide +kernel)) (fun _ h9 => h9) rfl dX1_latestOut_17 ?_
    refine lv_aload_n hx hb dX1_latestOut_20 rfl (lv_at hl 0 rfl) ?_
    refine va_get (D := (dC, dI)) (ci := 1) (v := .int (nI cn)) (C := RX1) (T := TX1) (N := 8) hx hb hts (by decide +kernel) hown hK hP 0 rfl rfl 5 (by decide) (hts (.fieldLink RX1 38 "CountedOut$Ring" "left" "I") (by decide +kernel)) (fun _ h9 => h9) rfl dX1_latestOut_21 ?_
    refine lv_isub hx hb dX1_latestOut_24 ?_
    refine z_i (y := nI (N - cn)) (pk_sub hcn) ?_
    refine lv_icmp_ne (tgt := 30) hx hb dX1_latestOut_25 (by decide) (fun c_25 => ?_) (fun c_25 => ?_)
    · have c_25 : ¬ (Wn p0 = N - cn ∧ 0 < N - cn) := fun h => c_25 ((wI_eq (hW40 _ c_7) (by omega)).mpr h)
      refine lv_iinc (v := nI (p0 + 1)) (lv' := [(1, .int (nI (p0 + 1))), (0, .ref h2)]) hx hb dX1_latestOut_30 hl (k := 1) rfl (nI_1 p0) (by decide) rfl (fun ls hl => ?_)
      refine lv_goto (tgt := 2) hx hb dX1_latestOut_33 (by decide) ?_
      exact ih_2 (p0 + 1) _ (by omega) ⟨lv_sub hl [1, 0] rfl, (by omega), (by rw [← hg, show N - p0 = (N - (p0 + 1)) + 1 by omega, lo, if_neg c_25])⟩
    · have c_25 : Wn p0 = N - cn ∧ 0 < N - cn := (wI_eq (hW40 _ c_7) (by omega)).mp c_25
      refine lv_iload_n hx hb dX1_latestOut_28 rfl (lv_at hl 1 rfl) ?_
      exact W.iret (v := nI p0) hx hb hr (fun t ht hW => ⟨_, rfl, by rw [← hg, show N - p0 = (N - (p0 + 1)) + 1 by omega, lo, if_pos c_25], ht⟩) (fun _ h => absurd h List.not_mem_nil) dX1_latestOut_29
