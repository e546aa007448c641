/-! great rings: numbers alone -/
def gst (n k x : Nat) : Nat := (k * (x - n) - 1) / (k - 1)
def gIt (n k : Nat) : Nat → Nat → Nat
  | 0, x => x
  | f + 1, x => if n < x then gIt n k f (gst n k x) else x
theorem gIt_stay {n k x : Nat} (h : ¬ n < x) (f : Nat) : gIt n k f x = x := by
  cases f with
  | zero => rfl
  | succ f => simp [gIt, h]
theorem gIt_add (n k : Nat) : ∀ (a b x : Nat), gIt n k (a + b) x = gIt n k b (gIt n k a x) := by
  intro a
  induction a with
  | zero => intro b x; rw [Nat.zero_add]; rfl
  | succ a ih =>
    intro b x
    rw [Nat.succ_add]
    by_cases h : n < x
    · simp only [gIt, h, if_true]
      exact ih b _
    · rw [gIt_stay h, gIt_stay h, gIt_stay h]
/-- one step: below x, and the way from k * n grows by a thousandth -/
theorem gst_lt {n k x : Nat} (hk : 2 ≤ k) (hx : n < x) (hxk : x ≤ k * n) : gst n k x < x := by
  unfold gst
  obtain ⟨j, rfl⟩ : ∃ j, k = j + 2 := ⟨k - 2, by omega⟩
  rw [Nat.div_lt_iff_lt_mul (by omega)]
  have e1 : (j + 2) * (x - n) = (j + 2) * x - (j + 2) * n := Nat.mul_sub _ _ _
  have e2 : x * (j + 2 - 1) = (j + 2) * x - x := by
    have : j + 2 - 1 = j + 1 := by omega
    rw [this, Nat.mul_comm, Nat.add_mul, Nat.add_mul]; omega
  have h3 : (j + 2) * n ≤ (j + 2) * x := Nat.mul_le_mul_left _ (by omega)
  rw [e1, e2]
  have h4 : x ≤ (j + 2) * x := Nat.le_mul_of_pos_left _ (by omega)
  have h5 : (j + 2) * n < (j + 2) * x := Nat.mul_lt_mul_of_pos_left hx (by omega)
  omega
theorem gst_grow {n k x : Nat} (hk : 2 ≤ k) (hK : k ≤ 1000) (hx : n < x) (hxk : x ≤ k * n) : 1000 * (k * n + 1 - x) ≤ 999 * (k * n + 1 - gst n k x) := by
  have hlt := gst_lt hk hx hxk
  have hm : (k - 1) * gst n k x ≤ k * (x - n) - 1 := by unfold gst; exact Nat.mul_div_le _ _
  generalize gst n k x = y at hlt hm ⊢
  have e1 : k * (x - n) = k * x - k * n := Nat.mul_sub _ _ _
  have h5 : k * n + k ≤ k * x := by
    have : k * (n + 1) ≤ k * x := Nat.mul_le_mul_left _ hx
    rw [Nat.mul_add, Nat.mul_one] at this; exact this
  have e2 : (k - 1) * y = k * y - y := by rw [Nat.sub_mul, Nat.one_mul]
  have h6 : y ≤ k * y := Nat.le_mul_of_pos_left _ (by omega)
  rw [e1, e2] at hm
  have h7 : k * y + k * n + 1 ≤ k * x + y := by omega
  have h8 : k * (x - y) ≤ 1000 * (x - y) := Nat.mul_le_mul_right _ hK
  have e3 : k * (x - y) = k * x - k * y := Nat.mul_sub _ _ _
  have h9 : k * y ≤ k * x := Nat.mul_le_mul_left _ (by omega)
  omega
theorem gIt_le {n k : Nat} (hk : 2 ≤ k) : ∀ (i x : Nat), x ≤ k * n → gIt n k i x ≤ k * n := by
  intro i
  induction i with
  | zero => intro x h; exact h
  | succ i ih =>
    intro x h
    by_cases hx : n < x
    · simp only [gIt, hx, if_true]
      exact ih _ (by have := gst_lt hk hx h; omega)
    · rw [gIt_stay hx]; exact h
theorem gIt_grow {n k x : Nat} (hk : 2 ≤ k) (hK : k ≤ 1000) (hxk : x ≤ k * n) : ∀ i : Nat, n < gIt n k i x → 999 * (k * n + 1 - x) + i * (k * n + 1 - x) ≤ 999 * (k * n + 1 - gIt n k i x) ∧ k * n + 1 - x ≤ k * n + 1 - gIt n k i x := by
  intro i
  induction i with
  | zero => intro h; simp [gIt]
  | succ i ih =>
    intro h
    rw [gIt_add n k i 1 x] at h ⊢
    have hle := gIt_le hk i x hxk
    by_cases hx : n < gIt n k i x
    · obtain ⟨h1, h2⟩ := ih hx
      have e : gIt n k 1 (gIt n k i x) = gst n k (gIt n k i x) := by simp [gIt, hx]
      rw [e] at h ⊢
      have h3 := gst_grow hk hK hx hle
      have h4 := gst_lt hk hx hle
      rw [Nat.add_mul, Nat.one_mul]
      omega
    · rw [gIt_stay hx] at h
      exact absurd h hx
theorem gIt_dbl {n k : Nat} (hk : 2 ≤ k) (hK : k ≤ 1000) : ∀ (r x : Nat), x ≤ k * n → n < gIt n k (999 * r) x → 2 ^ r * (k * n + 1 - x) ≤ k * n + 1 - gIt n k (999 * r) x := by
  intro r
  induction r with
  | zero => intro x h1 h2; simp [gIt]
  | succ r ih =>
    intro x h1 h2
    rw [Nat.mul_succ, gIt_add] at h2 ⊢
    have hle := gIt_le hk (999 * r) x h1
    have h3 : n < gIt n k (999 * r) x := by
      rcases Nat.lt_or_ge n (gIt n k (999 * r) x) with h | h
      · exact h
      · rw [gIt_stay (by omega)] at h2; omega
    have h4 := ih x h1 h3
    have h5 := gIt_grow hk hK hle 999 h2
    rw [Nat.pow_succ, Nat.mul_comm (2 ^ r) 2, Nat.mul_assoc]
    omega
theorem gIt_end {n k x : Nat} (hn : n ≤ 1000000000000) (hk : 2 ≤ k) (hK : k ≤ 1000) (hxk : x ≤ k * n) : gIt n k 1000000 x ≤ n := by
  rcases Nat.lt_or_ge n (gIt n k 1000000 x) with h | h
  · exfalso
    have e : (1000000 : Nat) = 999 * 50 + 950050 := by decide
    rw [e, gIt_add] at h
    have h3 : n < gIt n k (999 * 50) x := by
      rcases Nat.lt_or_ge n (gIt n k (999 * 50) x) with h | h'
      · exact h
      · rw [gIt_stay (by omega)] at h; omega
    have h4 := gIt_dbl hk hK 50 x hxk h3
    have h5 : k * n ≤ 1000 * 1000000000000 := Nat.mul_le_mul hK hn
    have h6 : 2 ^ 50 * 1 ≤ 2 ^ 50 * (k * n + 1 - x) := Nat.mul_le_mul_left _ (by omega)
    have h7 : (2 : Nat) ^ 50 = 1125899906842624 := by decide
    rw [h7] at h6 h4
    omega
  · exact h
/-! as which one a place goes -/
def tst (n k x : Nat) : Nat := n + x - x / k
def tIt (n k : Nat) : Nat → Nat → Nat
  | 0, x => x
  | f + 1, x => if x % k = 0 then x else tIt n k f (tst n k x)
theorem tIt_stay {n k x : Nat} (h : x % k = 0) (f : Nat) : tIt n k f x = x := by
  cases f with
  | zero => rfl
  | succ f => simp [tIt, h]
theorem tIt_add (n k : Nat) : ∀ (a b x : Nat), tIt n k (a + b) x = tIt n k b (tIt n k a x) := by
  intro a
  induction a with
  | zero => intro b x; rw [Nat.zero_add]; rfl
  | succ a ih =>
    intro b x
    rw [Nat.succ_add]
    by_cases h : x % k = 0
    · rw [tIt_stay h, tIt_stay h, tIt_stay h]
    · simp only [tIt, h, if_false]
      exact ih b _
theorem tst_le {n k x : Nat} (hk : 2 ≤ k) (hx : x ≤ k * n) : tst n k x ≤ k * n ∧ x ≤ tst n k x := by
  unfold tst
  have h1 : x / k ≤ n := by
    have := Nat.div_le_div_right (c := k) hx
    rwa [Nat.mul_div_cancel_left _ (by omega)] at this
  have h2 : x / k ≤ x := Nat.div_le_self _ _
  refine ⟨?_, by omega⟩
  have h3 : k * (x / k) + x % k = x := Nat.div_add_mod x k
  have h4 : x % k < k := Nat.mod_lt _ (by omega)
  rcases Nat.lt_or_ge (x / k) n with h | h
  · obtain ⟨j, rfl⟩ : ∃ j, k = j + 2 := ⟨k - 2, by omega⟩
    generalize x / (j + 2) = q at *
    have h5 : (j + 2) * (q + 1) ≤ (j + 2) * n := Nat.mul_le_mul_left _ h
    have e1 : (j + 2) * (q + 1) = (j + 1) * q + q + (j + 2) := by rw [Nat.mul_add, Nat.mul_one, Nat.add_mul, Nat.add_mul]; omega
    have e2 : (j + 2) * q = (j + 1) * q + q := by rw [Nat.add_mul, Nat.add_mul]; omega
    have e3 : (j + 1) * (q + 1) ≤ (j + 1) * n := Nat.mul_le_mul_left _ h
    have e4 : (j + 2) * n = (j + 1) * n + n := by rw [Nat.add_mul, Nat.add_mul]; omega
    have e5 : (j + 1) * (q + 1) = (j + 1) * q + (j + 1) := by rw [Nat.mul_add, Nat.mul_one]
    omega
  · omega
theorem tst_fall {n k x : Nat} (hk : 2 ≤ k) (hK : k ≤ 1000) (hx : x ≤ k * n) : 1000 * (k * n - tst n k x) ≤ 999 * (k * n - x) := by
  obtain ⟨h1, h2⟩ := tst_le hk hx
  have h3 : k * (x / k) ≤ x := Nat.mul_div_le x k
  have h4 : x / k ≤ n := by
    have := Nat.div_le_div_right (c := k) hx
    rwa [Nat.mul_div_cancel_left _ (by omega)] at this
  have e : tst n k x = n + x - x / k := rfl
  generalize tst n k x = y at *
  generalize x / k = q at *
  have h5 : k * (n - q) ≤ 1000 * (n - q) := Nat.mul_le_mul_right _ hK
  have e3 : k * (n - q) = k * n - k * q := Nat.mul_sub _ _ _
  omega
theorem tIt_le {n k : Nat} (hk : 2 ≤ k) : ∀ (i x : Nat), x ≤ k * n → tIt n k i x ≤ k * n := by
  intro i
  induction i with
  | zero => intro x h; exact h
  | succ i ih =>
    intro x h
    by_cases hx : x % k = 0
    · rw [tIt_stay hx]; exact h
    · simp only [tIt, hx, if_false]
      exact ih _ (tst_le hk h).1
theorem tIt_fall {n k x : Nat} (hk : 2 ≤ k) (hK : k ≤ 1000) (hxk : x ≤ k * n) : ∀ i : Nat, tIt n k i x % k = 0 ∨ 2 * (k * n - tIt n k i x) ≤ k * n - x ∨ 2000 * (k * n - tIt n k i x) + i * (k * n - x) ≤ 2000 * (k * n - x) := by
  intro i
  induction i with
  | zero => simp [tIt]
  | succ i ih =>
    rw [tIt_add n k i 1 x]
    have hle := tIt_le hk i x hxk
    by_cases h0 : tIt n k i x % k = 0
    · left; rw [tIt_stay h0]; exact h0
    · have e : tIt n k 1 (tIt n k i x) = tst n k (tIt n k i x) := by simp [tIt, h0]
      rw [e]
      have h3 := tst_fall hk hK hle
      have h4 := tst_le hk hle
      right
      rcases ih with h | h | h
      · exact absurd h h0
      · left; omega
      · rcases Nat.lt_or_ge (k * n - x) (2 * (k * n - tIt n k i x)) with h9 | h9
        · right; rw [Nat.add_mul, Nat.one_mul]; omega
        · left; omega
theorem tIt_half {n k : Nat} (hk : 2 ≤ k) (hK : k ≤ 1000) : ∀ (r x : Nat), x ≤ k * n → tIt n k (1000 * r) x % k = 0 ∨ 2 ^ r * (k * n - tIt n k (1000 * r) x) ≤ k * n - x := by
  intro r
  induction r with
  | zero => intro x h1; right; simp [tIt]
  | succ r ih =>
    intro x h1
    rw [Nat.mul_succ, tIt_add]
    have hle := tIt_le hk (1000 * r) x h1
    rcases ih x h1 with h | h
    · left; rw [tIt_stay h]; exact h
    · rcases tIt_fall hk hK hle 1000 with h5 | h5
      · exact Or.inl h5
      · right
        have h6 : 2 * (k * n - tIt n k 1000 (tIt n k (1000 * r) x)) ≤ k * n - tIt n k (1000 * r) x := by omega
        rw [Nat.pow_succ, Nat.mul_assoc]
        exact Nat.le_trans (Nat.mul_le_mul_left _ h6) h
theorem tIt_end {n k x : Nat} (hn : n ≤ 1000000000000) (hk : 2 ≤ k) (hK : k ≤ 1000) (hxk : x ≤ k * n) : tIt n k 1000000 x % k = 0 := by
  have e : (1000000 : Nat) = 1000 * 50 + 950000 := by decide
  rw [e, tIt_add]
  have hle := tIt_le hk (1000 * 50) x hxk
  rcases tIt_half hk hK 50 x hxk with h | h
  · rw [tIt_stay h]; exact h
  · have h5 : k * n ≤ 1000 * 1000000000000 := Nat.mul_le_mul hK hn
    have h7 : (2 : Nat) ^ 50 = 1125899906842624 := by decide
    rw [h7] at h
    have h8 : tIt n k (1000 * 50) x = k * n := by omega
    have h9 : tIt n k (1000 * 50) x % k = 0 := by rw [h8]; exact Nat.mul_mod_right _ _
    rw [tIt_stay h9]; exact h9
/-- the answers -/
def goN (n k j : Nat) : Nat := if k < 2 then j - 1 else gIt n k 1000000 (k * j) - 1
def tuN (n k q : Nat) : Nat := if k < 2 then q + 1 else tIt n k 1000000 (q + 1) / k
