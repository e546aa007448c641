/-! chosen counts: numbers alone -/
theorem tb_mulp (b k j : Nat) : (b * 2 ^ k).testBit j = if j < k then false else b.testBit (j - k) := by
  have h := Nat.testBit_two_pow_mul_add b (b := 0) (i := k) (pow_pos k) j
  rw [Nat.add_zero, Nat.mul_comm, Nat.zero_testBit] at h
  exact h
theorem tb_big {b k j : Nat} (hb : b < 2 ^ k) (h : k ≤ j) : b.testBit j = false := Nat.testBit_lt_two_pow (Nat.lt_of_lt_of_le hb (Nat.pow_le_pow_right (by decide) h))
/-- from which place one has come -/
def sTo (m c p : Nat) : Nat := (p + m - c % m) % m
theorem sTo_le {m c p : Nat} (hm : 0 < m) (hp : p < m) (h : c % m ≤ p) : sTo m c p = p - c % m := by
  unfold sTo
  rw [show p + m - c % m = (p - c % m) + m by omega, Nat.add_mod_right, Nat.mod_eq_of_lt (by omega)]
theorem sTo_gt {m c p : Nat} (hm : 0 < m) (hp : p < m) (h : p < c % m) : sTo m c p = p + m - c % m := by
  unfold sTo
  have := Nat.mod_lt c hm
  rw [Nat.mod_eq_of_lt (by omega)]
def sBh (m c b : Nat) : Nat := (b * 2 ^ (c % m) ||| b * 2 ^ (c % m) / 2 ^ m) % 2 ^ m
theorem sBh_tb {m c b p : Nat} (hm : 0 < m) (hb : b < 2 ^ (m - 1)) : (sBh m c b).testBit p = (decide (p < m) && b.testBit (sTo m c p)) := by
  unfold sBh
  rw [Nat.testBit_mod_two_pow]
  by_cases hp : p < m
  · have hlt := Nat.mod_lt c hm
    rw [Nat.testBit_or, Nat.testBit_div_two_pow, tb_mulp, tb_mulp]
    rcases Nat.lt_or_ge p (c % m) with h | h
    · rw [if_pos h, if_neg (by omega), sTo_gt hm hp h, Bool.false_or]
    · rw [if_neg (by omega), if_neg (by omega), sTo_le hm hp h, tb_big hb (show m - 1 ≤ p + m - c % m by omega), Bool.or_false]
  · simp [hp]
def sSm (m set b p : Nat) : Nat → Bool
  | 0 => false
  | c + 1 => sSm m set b p c || (set.testBit c && b.testBit (sTo m (c + 1) p))
def sAl (m set b p : Nat) : Nat → Bool
  | 0 => true
  | c + 1 => sAl m set b p c && (!set.testBit c || b.testBit (sTo m (c + 1) p))
def sBS (m set b : Nat) : Nat → Nat
  | 0 => 0
  | c + 1 => if set.testBit c = true then sBS m set b c ||| sBh m (c + 1) b else sBS m set b c
def sBA (m set b : Nat) : Nat → Nat
  | 0 => 2 ^ m - 1
  | c + 1 => if set.testBit c = true then sBA m set b c &&& sBh m (c + 1) b else sBA m set b c
theorem sBS_tb {m set b p : Nat} (hm : 0 < m) (hb : b < 2 ^ (m - 1)) : ∀ c, (sBS m set b c).testBit p = (decide (p < m) && sSm m set b p c) := by
  intro c
  induction c with
  | zero => simp [sBS, sSm]
  | succ c ih =>
    unfold sBS sSm
    cases h : set.testBit c with
    | true => rw [if_pos rfl, Nat.testBit_or, ih, sBh_tb hm hb]; cases decide (p < m) <;> simp
    | false => rw [if_neg (by decide), ih]; simp
theorem sBA_tb {m set b p : Nat} (hm : 0 < m) (hb : b < 2 ^ (m - 1)) : ∀ c, (sBA m set b c).testBit p = (decide (p < m) && sAl m set b p c) := by
  intro c
  induction c with
  | zero => simp [sBA, sAl, Nat.testBit_two_pow_sub_one]
  | succ c ih =>
    unfold sBA sAl
    cases h : set.testBit c with
    | true => rw [if_pos rfl, Nat.testBit_and, ih, sBh_tb hm hb]; cases decide (p < m) <;> simp
    | false => rw [if_neg (by decide), ih]; simp
theorem sBS_lt {m set b c : Nat} (hm : 0 < m) (hb : b < 2 ^ (m - 1)) : sBS m set b c < 2 ^ m := by
  apply Nat.lt_pow_two_of_testBit
  intro i hi
  rw [sBS_tb hm hb, decide_eq_false (by omega), Bool.false_and]
theorem sBA_lt {m set b c : Nat} (hm : 0 < m) (hb : b < 2 ^ (m - 1)) : sBA m set b c < 2 ^ m := by
  apply Nat.lt_pow_two_of_testBit
  intro i hi
  rw [sBA_tb hm hb, decide_eq_false (by omega), Bool.false_and]
theorem sBh_lt (m c b : Nat) : sBh m c b < 2 ^ m := Nat.mod_lt _ (pow_pos m)
/-- the bits of those that hold -/
def acc (f : Nat → Bool) : Nat → Nat
  | 0 => 0
  | p + 1 => acc f p ||| (if f p = true then 2 ^ p else 0)
theorem acc_tb (f : Nat → Bool) (q : Nat) : ∀ p, (acc f p).testBit q = (decide (q < p) && f q) := by
  intro p
  induction p with
  | zero => simp [acc]
  | succ p ih =>
    unfold acc
    rw [Nat.testBit_or, ih]
    by_cases h : q = p
    · subst h
      cases hf : f q with
      | true => simp
      | false => simp
    · have e : (if f p = true then 2 ^ p else 0).testBit q = false := by
        split
        · rw [Nat.testBit_two_pow]; exact decide_eq_false (fun h2 => h h2.symm)
        · exact Nat.zero_testBit q
      rw [e, Bool.or_false]
      congr 1
      rw [decide_eq_decide]
      omega
theorem acc_lt (f : Nat → Bool) (p : Nat) : acc f p < 2 ^ p := by
  apply Nat.lt_pow_two_of_testBit
  intro i hi
  rw [acc_tb, decide_eq_false (by omega), Bool.false_and]
/-- as the reference asks: who is out is left out -/
def mSm (m set b p : Nat) : Nat → Bool
  | 0 => false
  | c + 1 => mSm m set b p c || (set.testBit c && !decide (c % m = p) && b.testBit (sTo m (c + 1) p))
def mAl (m set b p : Nat) : Nat → Bool
  | 0 => true
  | c + 1 => mAl m set b p c && (!set.testBit c || (!decide (c % m = p) && b.testBit (sTo m (c + 1) p)))
theorem sTo_out : ∀ m, m < 13 → ∀ c, c < 6 → ∀ p, p < m → c % m = p → sTo m (c + 1) p = m - 1 := by decide +kernel
theorem mSm_eq {m set b p : Nat} (hm : m < 13) (hp : p < m) (hb : b < 2 ^ (m - 1)) : ∀ c, c ≤ 6 → mSm m set b p c = sSm m set b p c := by
  intro c
  induction c with
  | zero => intro _; rfl
  | succ c ih =>
    intro hc
    unfold mSm sSm
    rw [ih (by omega)]
    by_cases h : c % m = p
    · rw [sTo_out m hm c (by omega) p hp h, tb_big hb (Nat.le_refl _)]; simp
    · simp [h]
theorem mAl_eq {m set b p : Nat} (hm : m < 13) (hp : p < m) (hb : b < 2 ^ (m - 1)) : ∀ c, c ≤ 6 → mAl m set b p c = sAl m set b p c := by
  intro c
  induction c with
  | zero => intro _; rfl
  | succ c ih =>
    intro hc
    unfold mAl sAl
    rw [ih (by omega)]
    by_cases h : c % m = p
    · rw [sTo_out m hm c (by omega) p hp h, tb_big hb (Nat.le_refl _)]; simp
    · simp [h]
theorem acc_S {m set b : Nat} (hm0 : 0 < m) (hm : m < 13) (hb : b < 2 ^ (m - 1)) : acc (fun p => mSm m set b p 6) m = sBS m set b 6 := by
  apply Nat.eq_of_testBit_eq
  intro i
  rw [acc_tb, sBS_tb hm0 hb]
  by_cases h : i < m
  · rw [mSm_eq hm h hb 6 (by omega)]
  · simp [h]
theorem acc_A {m set b : Nat} (hm0 : 0 < m) (hm : m < 13) (hb : b < 2 ^ (m - 1)) : acc (fun p => mAl m set b p 6) m = sBA m set b 6 := by
  apply Nat.eq_of_testBit_eq
  intro i
  rw [acc_tb, sBA_tb hm0 hb]
  by_cases h : i < m
  · rw [mAl_eq hm h hb 6 (by omega)]
  · simp [h]
/-- the reference's MAY: a level's fold -/
def moI (m set x v : Nat) (bx : Bool) : Nat → Nat
  | 0 => v
  | c + 1 => if (bx && set.testBit c) = true then moI m set x v bx c ||| 2 ^ ((x + (c + 1)) % m) else moI m set x v bx c
def moO (m set b : Nat) : Nat → Nat
  | 0 => 0
  | x + 1 => moI m set x (moO m set b x) (b.testBit x) 6
def sI (m set x q : Nat) : Nat → Bool
  | 0 => false
  | c + 1 => sI m set x q c || (set.testBit c && decide ((x + (c + 1)) % m = q))
def sO (m set b q : Nat) : Nat → Bool
  | 0 => false
  | x + 1 => sO m set b q x || (b.testBit x && sI m set x q 6)
theorem moI_tb (m set x v q : Nat) (bx : Bool) : ∀ c, (moI m set x v bx c).testBit q = (v.testBit q || (bx && sI m set x q c)) := by
  intro c
  induction c with
  | zero => simp [moI, sI]
  | succ c ih =>
    unfold moI sI
    cases bx with
    | false => rw [Bool.false_and, if_neg (by decide), ih]; simp
    | true =>
      cases h : set.testBit c with
      | true => rw [Bool.and_self, if_pos rfl, Nat.testBit_or, ih, Nat.testBit_two_pow]; simp [Bool.or_assoc]
      | false => rw [Bool.and_false, if_neg (by decide), ih]; simp
theorem moO_tb (m set b q : Nat) : ∀ x, (moO m set b x).testBit q = sO m set b q x := by
  intro x
  induction x with
  | zero => simp [moO, sO]
  | succ x ih => unfold moO sO; rw [moI_tb, ih]
theorem sI_iff (m set x q : Nat) : ∀ c, sI m set x q c = true ↔ ∃ j, j < c ∧ set.testBit j = true ∧ (x + (j + 1)) % m = q := by
  intro c
  induction c with
  | zero => simp [sI]
  | succ c ih =>
    unfold sI
    rw [Bool.or_eq_true, ih, Bool.and_eq_true, decide_eq_true_iff]
    constructor
    · rintro (⟨j, h1, h2⟩ | h)
      · exact ⟨j, by omega, h2⟩
      · exact ⟨c, by omega, h⟩
    · rintro ⟨j, h1, h2⟩
      rcases Nat.lt_or_ge j c with h | h
      · exact Or.inl ⟨j, h, h2⟩
      · have : j = c := by omega
        subst this
        exact Or.inr h2
theorem sO_iff (m set b q : Nat) : ∀ x, sO m set b q x = true ↔ ∃ j, j < x ∧ b.testBit j = true ∧ sI m set j q 6 = true := by
  intro x
  induction x with
  | zero => simp [sO]
  | succ c ih =>
    unfold sO
    rw [Bool.or_eq_true, ih, Bool.and_eq_true]
    constructor
    · rintro (⟨j, h1, h2⟩ | h)
      · exact ⟨j, by omega, h2⟩
      · exact ⟨c, by omega, h⟩
    · rintro ⟨j, h1, h2⟩
      rcases Nat.lt_or_ge j c with h | h
      · exact Or.inl ⟨j, h, h2⟩
      · have : j = c := by omega
        subst this
        exact Or.inr h2
theorem sSm_iff (m set b p : Nat) : ∀ c, sSm m set b p c = true ↔ ∃ j, j < c ∧ set.testBit j = true ∧ b.testBit (sTo m (j + 1) p) = true := by
  intro c
  induction c with
  | zero => simp [sSm]
  | succ c ih =>
    unfold sSm
    rw [Bool.or_eq_true, ih, Bool.and_eq_true]
    constructor
    · rintro (⟨j, h1, h2⟩ | h)
      · exact ⟨j, by omega, h2⟩
      · exact ⟨c, by omega, h⟩
    · rintro ⟨j, h1, h2⟩
      rcases Nat.lt_or_ge j c with h | h
      · exact Or.inl ⟨j, h, h2⟩
      · have : j = c := by omega
        subst this
        exact Or.inr h2
theorem sTo_in : ∀ m, m < 13 → ∀ c, c < 6 → ∀ x, x < m → sTo m (c + 1) ((x + (c + 1)) % m) = x := by decide +kernel
theorem sTo_back : ∀ m, m < 13 → ∀ c, c < 6 → ∀ q, q < m → (sTo m (c + 1) q + (c + 1)) % m = q := by decide +kernel
theorem moO_eq {m set b : Nat} (hm0 : 0 < m) (hm : m < 13) (hb : b < 2 ^ (m - 1)) : moO m set b (m - 1) = sBS m set b 6 := by
  apply Nat.eq_of_testBit_eq
  intro q
  rw [moO_tb, sBS_tb hm0 hb]
  by_cases h : q < m
  · rw [decide_eq_true h, Bool.true_and, Bool.eq_iff_iff, sO_iff, sSm_iff]
    constructor
    · rintro ⟨x, h1, h2, h3⟩
      obtain ⟨c, h4, h5, rfl⟩ := (sI_iff _ _ _ _ _).mp h3
      exact ⟨c, h4, h5, by rw [sTo_in m hm c h4 x (by omega)]; exact h2⟩
    · rintro ⟨c, h4, h5, h6⟩
      refine ⟨sTo m (c + 1) q, ?_, h6, (sI_iff _ _ _ _ _).mpr ⟨c, h4, h5, sTo_back m hm c h4 q h⟩⟩
      rcases Nat.lt_or_ge (sTo m (c + 1) q) (m - 1) with h7 | h7
      · exact h7
      · rw [tb_big hb h7] at h6; cases h6
  · rw [decide_eq_false h, Bool.false_and]
    cases h2 : sO m set b q (m - 1) with
    | false => rfl
    | true =>
      obtain ⟨x, -, -, h3⟩ := (sO_iff _ _ _ _ _).mp h2
      obtain ⟨c, -, -, h5⟩ := (sI_iff _ _ _ _ _).mp h3
      exact absurd (h5 ▸ Nat.mod_lt _ hm0) h
/-- MAY of the ring of k + 1 -/
def mayN (set : Nat) : Nat → Nat
  | 0 => 1
  | k + 1 => sBS (k + 2) set (mayN set k) 6
theorem mayN_lt (set : Nat) : ∀ k, mayN set k < 2 ^ (k + 1) := by
  intro k
  induction k with
  | zero => show (1 : Nat) < 2 ^ 1; decide
  | succ k ih => exact sBS_lt (by omega) ih
/-- CAN of the ring of k + 1: one's own turn, the foe's turn -/
def mfN (own foe : Nat) : Nat → Nat × Nat
  | 0 => (1, 1)
  | k + 1 => (sBS (k + 2) own (mfN own foe k).2 6, sBA (k + 2) foe (mfN own foe k).1 6)
theorem mfN_lt (own foe : Nat) : ∀ k, (mfN own foe k).1 < 2 ^ (k + 1) ∧ (mfN own foe k).2 < 2 ^ (k + 1) := by
  intro k
  induction k with
  | zero => exact ⟨show (1 : Nat) < 2 ^ 1 by decide, show (1 : Nat) < 2 ^ 1 by decide⟩
  | succ k ih => exact ⟨sBS_lt (by omega) ih.2, sBA_lt (by omega) ih.1⟩
/-- the class goes up with one row: whose turn it is in the ring of k + 1, if n are at first -/
def canK (n own foe k : Nat) : Nat := if (n - (k + 1)) % 2 = 0 then (mfN own foe k).1 else (mfN own foe k).2
theorem canK_lt (n own foe k : Nat) : canK n own foe k < 2 ^ (k + 1) := by
  unfold canK; split
  · exact (mfN_lt own foe k).1
  · exact (mfN_lt own foe k).2
theorem canK_own {n own foe k : Nat} (h : k + 2 ≤ n) (h2 : (n - (k + 2)) % 2 = 0) : sBS (k + 2) own (canK n own foe k) 6 = canK n own foe (k + 1) := by
  unfold canK
  rw [if_neg (by omega), if_pos (by omega)]
  rfl
theorem canK_foe {n own foe k : Nat} (h : k + 2 ≤ n) (h2 : ¬ (n - (k + 2)) % 2 = 0) : sBA (k + 2) foe (canK n own foe k) 6 = canK n own foe (k + 1) := by
  unfold canK
  rw [if_pos (by omega), if_neg (by omega)]
  rfl
def spMay (n set : Int32) : Int32 := if (wi n.toInt 1 12 && wi set.toInt 1 63) = true then nI (mayN set.toInt.toNat (n.toInt.toNat - 1)) else -1
def spCan (n own foe : Int32) : Int32 := if (wi n.toInt 1 12 && wi own.toInt 1 63 && wi foe.toInt 1 63) = true then nI (mfN own.toInt.toNat foe.toInt.toNat (n.toInt.toNat - 1)).1 else -1
theorem spMay_t {n set : Nat} (h1 : 1 ≤ n) (h2 : n ≤ 12) (h3 : 1 ≤ set) (h4 : set ≤ 63) : nI (mayN set (n - 1)) = spMay (nI n) (nI set) := by
  have e1 : (nI n).toInt = n := nI_toInt (by omega)
  have e2 : (nI set).toInt = set := nI_toInt (by omega)
  unfold spMay
  rw [e1, e2, wi_t.mpr (by omega), wi_t.mpr (by omega)]
  rfl
theorem spCan_t {n own foe : Nat} (h1 : 1 ≤ n) (h2 : n ≤ 12) (h3 : 1 ≤ own) (h4 : own ≤ 63) (h5 : 1 ≤ foe) (h6 : foe ≤ 63) : nI (mfN own foe (n - 1)).1 = spCan (nI n) (nI own) (nI foe) := by
  have e1 : (nI n).toInt = n := nI_toInt (by omega)
  have e2 : (nI own).toInt = own := nI_toInt (by omega)
  have e3 : (nI foe).toInt = foe := nI_toInt (by omega)
  unfold spCan
  rw [e1, e2, e3, wi_t.mpr (by omega), wi_t.mpr (by omega), wi_t.mpr (by omega)]
  rfl
