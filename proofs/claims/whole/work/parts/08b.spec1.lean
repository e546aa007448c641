/-! what great rings answer -/
theorem lN_wi {x : Int64} {a b : Nat} (h : wi x.toInt a b = true) (hb : b < 2 ^ 63) : ∃ k : Nat, a ≤ k ∧ k ≤ b ∧ x = lN k := by
  obtain ⟨h1, h2⟩ := wi_t.mp h
  refine ⟨x.toInt.toNat, by omega, by omega, ?_⟩
  rw [eq64, pk_lT (by omega)]
  omega
def spGoes (n : Int64) (k : Int32) (j : Int64) : Int64 := if (wi n.toInt 1 1000000000000 && wi k.toInt 1 1000 && wi j.toInt 1 n.toInt) = true then lN (goN n.toInt.toNat k.toInt.toNat j.toInt.toNat) else -1
def spTurn (n : Int64) (k : Int32) (q : Int64) : Int64 := if (wi n.toInt 1 1000000000000 && wi k.toInt 1 1000 && wi q.toInt 0 (n.toInt - 1)) = true then lN (tuN n.toInt.toNat k.toInt.toNat q.toInt.toNat) else -1
def spLast (n : Int64) (k : Int32) : Int64 := if (wi n.toInt 1 1000000000000 && wi k.toInt 1 1000) = true then lN (goN n.toInt.toNat k.toInt.toNat n.toInt.toNat) else -1
theorem spGoes_t {n k j : Nat} (h1 : 1 ≤ n) (h2 : n ≤ 1000000000000) (h3 : 1 ≤ k) (h4 : k ≤ 1000) (h5 : 1 ≤ j) (h6 : j ≤ n) : lN (goN n k j) = spGoes (lN n) (nI k) (lN j) := by
  have e1 : (lN n).toInt = n := pk_lT (by omega)
  have e2 : (nI k).toInt = k := nI_toInt (by omega)
  have e3 : (lN j).toInt = j := pk_lT (by omega)
  unfold spGoes
  rw [e1, e2, e3, wi_t.mpr (by omega), wi_t.mpr (by omega), wi_t.mpr (by omega)]
  rfl
theorem spTurn_t {n k q : Nat} (h1 : 1 ≤ n) (h2 : n ≤ 1000000000000) (h3 : 1 ≤ k) (h4 : k ≤ 1000) (h5 : q < n) : lN (tuN n k q) = spTurn (lN n) (nI k) (lN q) := by
  have e1 : (lN n).toInt = n := pk_lT (by omega)
  have e2 : (nI k).toInt = k := nI_toInt (by omega)
  have e3 : (lN q).toInt = q := pk_lT (by omega)
  unfold spTurn
  rw [e1, e2, e3, wi_t.mpr (by omega), wi_t.mpr (by omega), wi_t.mpr (by omega)]
  rfl
theorem spLast_t {n k : Nat} (h1 : 1 ≤ n) (h2 : n ≤ 1000000000000) (h3 : 1 ≤ k) (h4 : k ≤ 1000) : lN (goN n k n) = spLast (lN n) (nI k) := by
  have e1 : (lN n).toInt = n := pk_lT (by omega)
  have e2 : (nI k).toInt = k := nI_toInt (by omega)
  unfold spLast
  rw [e1, e2, wi_t.mpr (by omega), wi_t.mpr (by omega)]
  rfl
