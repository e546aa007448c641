/-! base: loops, joins, arrays by Nat places, booleans -/
section ZB
variable {p : Program} {l : Launch} {e : Env} {R : Room} {s : State} {m : MethodId} {args : Array Value} {below : List Frame} {meth : Method} {c : Code} {cells slots : Nat} {Q : State → Prop} {pc : Nat}
theorem W_loop {σ : Type} (I : σ → Array Slot → Heap → List Loc → Prop) (μ : σ → Nat)
    (step : ∀ (x : σ) (ls : Array Slot) (H : Heap) (locs : List Loc), I x ls H locs → (∀ (x' : σ) (ls' : Array Slot) (H' : Heap) (locs' : List Loc), μ x' < μ x → I x' ls' H' locs' → W p l e R s m args below meth c H' locs' cells slots Q (F0 m pc ls' [])) → W p l e R s m args below meth c H locs cells slots Q (F0 m pc ls []))
    (x : σ) {ls : Array Slot} {H : Heap} {locs : List Loc} (h : I x ls H locs) : W p l e R s m args below meth c H locs cells slots Q (F0 m pc ls []) := by
  have K : ∀ (n : Nat) (x : σ) (ls : Array Slot) (H : Heap) (locs : List Loc), μ x < n → I x ls H locs → W p l e R s m args below meth c H locs cells slots Q (F0 m pc ls []) := by
    intro n
    induction n with
    | zero => intro x ls H locs h; exact absurd h (Nat.not_lt_zero _)
    | succ n ih => intro x ls H locs hn hi; exact step x ls H locs hi (fun x' ls' H' locs' hlt hi' => ih x' ls' H' locs' (by omega) hi')
  exact K (μ x + 1) x ls H locs (Nat.lt_succ_self _) h
theorem W_loopR {σ : Type} {H : Heap} {locs : List Loc} (I : σ → Array Slot → Prop) (μ : σ → Nat)
    (step : ∀ (x : σ) (ls : Array Slot), I x ls → (∀ (x' : σ) (ls' : Array Slot), μ x' < μ x → I x' ls' → W p l e R s m args below meth c H locs cells slots Q (F0 m pc ls' [])) → W p l e R s m args below meth c H locs cells slots Q (F0 m pc ls []))
    (x : σ) {ls : Array Slot} (h : I x ls) : W p l e R s m args below meth c H locs cells slots Q (F0 m pc ls []) := by
  have K : ∀ (n : Nat) (x : σ) (ls : Array Slot), μ x < n → I x ls → W p l e R s m args below meth c H locs cells slots Q (F0 m pc ls []) := by
    intro n
    induction n with
    | zero => intro x ls h; exact absurd h (Nat.not_lt_zero _)
    | succ n ih => intro x ls hn hi; exact step x ls hi (fun x' ls' hlt hi' => ih x' ls' (by omega) hi')
  exact K (μ x + 1) x ls (Nat.lt_succ_self _) h
theorem W_join {α : Type} {g : JFrame} {H : Heap} {locs : List Loc} (pc' : Nat) (ls' : Array Slot) (st' : α → List Value) (Pj : α → Prop) (k1 : (∀ v, Pj v → W p l e R s m args below meth c H locs cells slots Q (F0 m pc' ls' (st' v))) → W p l e R s m args below meth c H locs cells slots Q g)
    (k2 : ∀ v, Pj v → W p l e R s m args below meth c H locs cells slots Q (F0 m pc' ls' (st' v))) : W p l e R s m args below meth c H locs cells slots Q g := k1 k2
theorem z_i {H : Heap} {locs : List Loc} {ls : Array Slot} {rest : List Value} {x y : Int32} (h : x = y) (k : W p l e R s m args below meth c H locs cells slots Q (F0 m pc ls (.int y :: rest))) : W p l e R s m args below meth c H locs cells slots Q (F0 m pc ls (.int x :: rest)) := h ▸ k
theorem z_l {H : Heap} {locs : List Loc} {ls : Array Slot} {rest : List Value} {x y : Int64} (h : x = y) (k : W p l e R s m args below meth c H locs cells slots Q (F0 m pc ls (.long y :: rest))) : W p l e R s m args below meth c H locs cells slots Q (F0 m pc ls (.long x :: rest)) := h ▸ k
variable {D : va_G} {cl : List vw_C} {tys : List (ClassId × FieldType)} {ws : va_W} {H : Heap} {locs : List Loc} {cc : ByteArray} {a : Nat} {ls : Array Slot} {rest : List Value} {A : Nat → Prop} {H0 : Heap}
theorem z_iald (hexec : p.tables.exec = Jvm.exec) (hb : c.code = cc) (hK : va_K D cl tys s) (hP : va_P D cl ws H) (q0 t0 : Nat) {cA : ClassId} {n : Nat} {f : Nat → Int32} (ha : ws[q0]? = some (a, .inl (cA, n, .inl f))) (ht : tys[t0]? = some (cA, .int)) {i : Nat} (hi : i < n) (hn : n < 2 ^ 31) (hdg : decode cc pc = .ok (.iaload, 1))
    (kk : W p l e R s m args below meth c H locs cells slots Q (F0 m (pc + 1) ls (.int (f i) :: rest))) : W p l e R s m args below meth c H locs cells slots Q (F0 m pc ls (.int (nI i) :: .ref a :: rest)) := by
  refine va_iald hexec hb hK hP q0 t0 ha ht (vp_in_nI hi hn) hdg ?_
  rw [nI_clamp (Nat.lt_trans hi hn)]
  exact kk
theorem z_iast (hexec : p.tables.exec = Jvm.exec) (hb : c.code = cc) (hK : va_K D cl tys s) (hP : va_P D cl ws H) (hD : va_D A ws) (hS : va_S A H0 H locs) (q0 t0 : Nat) {cA : ClassId} {n : Nat} {f : Nat → Int32} (ha : ws[q0]? = some (a, .inl (cA, n, .inl f))) (ht : tys[t0]? = some (cA, .int)) {i : Nat} {x : Int32} (hi : i < n) (hn : n < 2 ^ 31) (hdg : decode cc pc = .ok (.iastore, 1))
    (kk : ∀ (H1 : Heap) (locs1 : List Loc), va_P D cl (ws.set q0 (a, .inl (cA, n, .inl (upd f i x)))) H1 → va_D A (ws.set q0 (a, .inl (cA, n, .inl (upd f i x)))) → va_S A H0 H1 locs1 → W p l e R s m args below meth c H1 locs1 cells slots Q (F0 m (pc + 1) ls rest)) : W p l e R s m args below meth c H locs cells slots Q (F0 m pc ls (.int x :: .int (nI i) :: .ref a :: rest)) := by
  refine va_iast hexec hb hK hP hD hS q0 t0 ha ht (vp_in_nI hi hn) hdg ?_
  rw [nI_clamp (Nat.lt_trans hi hn)]
  exact kk
end ZB
theorem z_sameA {D : va_G} {cl : List vw_C} {U : State} {a b : ClassId} (h : va_K D cl [(a, .int), (b, .int)] U) : a = b := by
  have h1 : U.vm.findClass ("[" ++ FieldType.int.toString) = some a := (h.2 0 _ rfl).2
  have h2 : U.vm.findClass ("[" ++ FieldType.int.toString) = some b := (h.2 1 _ rfl).2
  rw [h1] at h2
  exact Option.some.inj h2
/-- a truth as an int -/
def zb (b : Bool) : Int32 := if b then 1 else 0
theorem zb_0 {b : Bool} : zb b = 0 ↔ b = false := by cases b <;> decide
theorem zb_n {b : Bool} : ¬ zb b = 0 ↔ b = true := by cases b <;> decide
theorem narrow_zb (b : Bool) : narrow .boolean (.int (zb b)) = .int (zb b) := by cases b <;> rfl
theorem zb_t {b : Bool} (h : b = true) : zb b = 1 := by rw [h]; rfl
theorem zb_f {b : Bool} (h : b = false) : zb b = 0 := by rw [h]; rfl
/-- v within a .. b -/
def wi (v a b : Int) : Bool := decide (a ≤ v) && decide (v ≤ b)
theorem wi_t {v a b : Int} : wi v a b = true ↔ a ≤ v ∧ v ≤ b := by simp [wi]
theorem wi_f {v a b : Int} : wi v a b = false ↔ v < a ∨ b < v := by
  rw [← Bool.not_eq_true, wi_t]; omega
theorem i2l_toInt (x : Int32) : x.toInt64.toInt = x.toInt := Int32.toInt_toInt64 x
theorem le64 (a b : Int64) : a ≤ b ↔ a.toInt ≤ b.toInt := Int64.le_iff_toInt_le
theorem lt64 (a b : Int64) : a < b ↔ a.toInt < b.toInt := Int64.lt_iff_toInt_lt
theorem le32 (a b : Int32) : a ≤ b ↔ a.toInt ≤ b.toInt := Int32.le_iff_toInt_le
theorem lt32 (a b : Int32) : a < b ↔ a.toInt < b.toInt := Int32.lt_iff_toInt_lt
theorem eq32 (a b : Int32) : a = b ↔ a.toInt = b.toInt := ⟨fun h => by rw [h], fun h => Int32.toInt_inj.mp h⟩
theorem eq64 (a b : Int64) : a = b ↔ a.toInt = b.toInt := ⟨fun h => by rw [h], fun h => Int64.toInt_inj.mp h⟩
/-- an int within is the number of a natural one -/
theorem nI_wi {x : Int32} {a b : Nat} (h : wi x.toInt a b = true) : ∃ k : Nat, a ≤ k ∧ k ≤ b ∧ x = nI k := by
  obtain ⟨h1, h2⟩ := wi_t.mp h
  have h3 := x.toInt_lt
  refine ⟨x.toInt.toNat, by omega, by omega, ?_⟩
  rw [eq32, nI_toInt (by omega)]
  omega
theorem nI_i (k : Nat) (h : k < 2 ^ 31) : (nI k).toInt = (k : Int) := nI_toInt h
