/-! heaps: bits; the families of bits and masks are pasted from kit/laws -/
def bt (x : Int32) (i : Nat) : Bool := x.toBitVec.getLsbD i
theorem b_ext {x y : Int32} (h : ∀ i, i < 32 → bt x i = bt y i) : x = y := Int32.toBitVec_inj.mp (BitVec.eq_of_getLsbD_eq (fun i hi => h i hi))
theorem b_or (x y : Int32) (i : Nat) : bt (x ||| y) i = (bt x i || bt y i) := by unfold bt; rw [Int32.toBitVec_or, BitVec.getLsbD_or]
theorem b_and (x y : Int32) (i : Nat) : bt (x &&& y) i = (bt x i && bt y i) := by unfold bt; rw [Int32.toBitVec_and, BitVec.getLsbD_and]
theorem b_xor (x y : Int32) (i : Nat) : bt (x ^^^ y) i = (bt x i ^^ bt y i) := by unfold bt; rw [Int32.toBitVec_xor, BitVec.getLsbD_xor]
theorem b_big {x : Int32} {i : Nat} (h : 32 ≤ i) : bt x i = false := BitVec.getLsbD_of_ge _ _ h
theorem b_255 (i : Nat) : bt 255 i = decide (i < 8) := by
  rcases Nat.lt_or_ge i 32 with h | h
  · exact (by decide +kernel : ∀ i, i < 32 → bt 255 i = decide (i < 8)) i h
  · rw [b_big h, decide_eq_false (by omega)]
theorem b_65535 (i : Nat) : bt 65535 i = decide (i < 16) := by
  rcases Nat.lt_or_ge i 32 with h | h
  · exact (by decide +kernel : ∀ i, i < 32 → bt 65535 i = decide (i < 16)) i h
  · rw [b_big h, decide_eq_false (by omega)]
theorem b_m1 : ∀ i, i < 32 → bt (-1) i = true := by decide +kernel
theorem b_0 (i : Nat) : bt 0 i = false := BitVec.getLsbD_zero
theorem s_l : ∀ n, n < 32 → ((nI n &&& 31).toBitVec.smod 32).toNat = n := by decide +kernel
theorem s_u : ∀ n, n < 32 → (((nI n).toUInt32 &&& Int32.toUInt32 31).toBitVec % 32).toNat = n := by decide +kernel
theorem b_shl (n : Nat) (hn : n < 32) (x : Int32) {i : Nat} (hi : i < 32) : bt (x <<< (nI n &&& 31)) i = (decide (n ≤ i) && bt x (i - n)) := by
  unfold bt
  rw [Int32.toBitVec_shiftLeft]
  show (x.toBitVec <<< ((nI n &&& 31).toBitVec.smod 32).toNat).getLsbD i = _
  rw [s_l n hn, BitVec.getLsbD_shiftLeft]
  rcases Nat.lt_or_ge i n with h | h
  · simp [h, Nat.not_le.mpr h]
  · simp [hi, h, Nat.not_lt.mpr h]
theorem b_ushr (n : Nat) (hn : n < 32) (x : Int32) (i : Nat) : bt ((x.toUInt32 >>> ((nI n).toUInt32 &&& Int32.toUInt32 31)).toInt32) i = bt x (n + i) := by
  show (x.toUInt32 >>> ((nI n).toUInt32 &&& Int32.toUInt32 31)).toBitVec.getLsbD i = x.toUInt32.toBitVec.getLsbD (n + i)
  rw [UInt32.toBitVec_shiftRight]
  show (x.toUInt32.toBitVec >>> (((nI n).toUInt32 &&& Int32.toUInt32 31).toBitVec % 32).toNat).getLsbD i = _
  rw [s_u n hn, BitVec.getLsbD_ushiftRight]
theorem b_sshr (n : Nat) (hn : n < 32) (x : Int32) {i : Nat} (hi : i < 32) : bt (x >>> (nI n &&& 31)) i = if n + i < 32 then bt x (n + i) else bt x 31 := by
  unfold bt
  rw [Int32.toBitVec_shiftRight]
  show (x.toBitVec.sshiftRight ((nI n &&& 31).toBitVec.smod 32).toNat).getLsbD i = _
  rw [s_l n hn, BitVec.getLsbD_sshiftRight, BitVec.msb_eq_getLsbD_last]
  simp [hi]
theorem fa_and (a b : Nat) : nI a &&& nI b = nI (a &&& b) := by
  apply Int32.toBitVec_inj.1
  show BitVec.ofNat 32 a &&& BitVec.ofNat 32 b = BitVec.ofNat 32 (a &&& b)
  apply BitVec.eq_of_getLsbD_eq
  intro i hi
  simp [hi]
theorem fa_or (a b : Nat) : nI a ||| nI b = nI (a ||| b) := by
  apply Int32.toBitVec_inj.1
  show BitVec.ofNat 32 a ||| BitVec.ofNat 32 b = BitVec.ofNat 32 (a ||| b)
  apply BitVec.eq_of_getLsbD_eq
  intro i hi
  simp [hi]
/-- a remainder by a power of two, as a mask -/
theorem fa_mask (n k : Nat) : nI n &&& nI (2 ^ k - 1) = nI (n % 2 ^ k) := by rw [fa_and, Nat.and_two_pow_sub_one_eq_mod]
theorem bt_nI (n i : Nat) : bt (nI n) i = (decide (i < 32) && n.testBit i) := by
  unfold bt
  show (BitVec.ofNat 32 n).getLsbD i = _
  rw [BitVec.getLsbD_ofNat]
theorem sh1 {a : Nat} (h : a < 31) : (1 : Int32) <<< (nI a &&& 31) = nI (2 ^ a) := by
  have h2 : (2 : Nat) ^ a < 2 ^ 31 := Nat.pow_lt_pow_right (by decide) h
  have := pk_shlN (n := 1) (nI a &&& 31) a (s_l a (by omega)) (by omega)
  rw [Nat.one_mul] at this
  exact this
theorem shl_nI {b a : Nat} (ha : a < 32) (h : b * 2 ^ a < 2 ^ 32) : nI b <<< (nI a &&& 31) = nI (b * 2 ^ a) := pk_shlN (nI a &&& 31) a (s_l a ha) h
theorem shr_nI {b a : Nat} (hb : b < 2 ^ 31) (h : a < 32) : nI b >>> (nI a &&& 31) = nI (b / 2 ^ a) := pk_shrN hb (nI a &&& 31) a (s_l a h)
theorem pow_lt31 {a : Nat} (h : a < 31) : (2 : Nat) ^ a < 2 ^ 31 := Nat.pow_lt_pow_right (by decide) h
theorem pow_pos (a : Nat) : 0 < (2 : Nat) ^ a := Nat.pow_pos (by decide)
theorem bit_nI (b a : Nat) : nI (b / 2 ^ a) &&& 1 = nI (b / 2 ^ a % 2) := by
  show nI (b / 2 ^ a) &&& nI 1 = _
  rw [fa_and, Nat.and_one_is_mod]
theorem bit_0 {b a : Nat} : nI (b / 2 ^ a % 2) = 0 ↔ b.testBit a = false := by
  have h : b / 2 ^ a % 2 < 2 := Nat.mod_lt _ (by decide)
  rw [← nI_0, nI_eq (by omega) (by omega), Nat.testBit_eq_decide_div_mod_eq, decide_eq_false_iff_not]
  omega
theorem bit_1 {b a : Nat} : nI (b / 2 ^ a % 2) = 1 ↔ b.testBit a = true := by
  have h : b / 2 ^ a % 2 < 2 := Nat.mod_lt _ (by decide)
  show nI (b / 2 ^ a % 2) = nI 1 ↔ _
  rw [nI_eq (by omega) (by omega), Nat.testBit_eq_decide_div_mod_eq, decide_eq_true_iff]
theorem pow_m1 {a : Nat} : nI (2 ^ a) - 1 = nI (2 ^ a - 1) := pk_sub (b := 1) (pow_pos a)
/-- the bits with one taken out, those above moved down -/
def wob (b a : Nat) : Nat := 2 ^ a * (b / 2 ^ (a + 1)) + b % 2 ^ a
theorem wob_tb (b a i : Nat) : (wob b a).testBit i = if i < a then b.testBit i else b.testBit (i + 1) := by
  unfold wob
  rw [Nat.testBit_two_pow_mul_add _ (Nat.mod_lt _ (pow_pos a))]
  by_cases h : i < a
  · simp [h]
  · simp only [h, if_false]
    rw [Nat.testBit_div_two_pow]
    congr 1
    omega
theorem wob_lt {b a m : Nat} (hb : b < 2 ^ (m + 1)) (ha : a < m + 1) : wob b a < 2 ^ m := by
  apply Nat.lt_pow_two_of_testBit
  intro i hi
  rw [wob_tb, if_neg (by omega)]
  exact Nat.testBit_lt_two_pow (Nat.lt_of_lt_of_le hb (Nat.pow_le_pow_right (by decide) (by omega)))
theorem wob_int {b a : Nat} (hb : b < 2 ^ 31) (ha : a < 31) : (nI b &&& nI (2 ^ a - 1)) ||| ((nI b >>> ((1 : Int32) &&& 31)) &&& (nI (2 ^ a - 1) ^^^ (-1))) = nI (wob b a) := by
  have e : nI b >>> ((1 : Int32) &&& 31) = nI (b / 2 ^ 1) := shr_nI (a := 1) hb (by omega)
  rw [e]
  apply b_ext
  intro i hi
  rw [b_or, b_and, b_and, b_xor, bt_nI, bt_nI, bt_nI, bt_nI, b_m1 i hi, Nat.testBit_two_pow_sub_one, wob_tb, Nat.testBit_div_two_pow]
  by_cases h : i < a
  · simp [h, hi]
  · simp [h, hi, Nat.add_comm 1 i]
/-- how many of the first n hold -/
def bc (f : Nat → Bool) : Nat → Nat
  | 0 => 0
  | n + 1 => bc f n + (if f n then 1 else 0)
theorem bc_le (f : Nat → Bool) : ∀ n, bc f n ≤ n := by
  intro n
  induction n with
  | zero => exact Nat.le_refl _
  | succ n ih => unfold bc; split <;> omega
theorem bc_0 {f : Nat → Bool} : ∀ {n : Nat}, bc f n = 0 → ∀ i, i < n → f i = false := by
  intro n
  induction n with
  | zero => intro _ i hi; omega
  | succ n ih =>
    intro h i hi
    unfold bc at h
    by_cases hf : f n = true
    · rw [if_pos hf] at h; omega
    · rw [if_neg hf] at h
      rcases Nat.lt_or_ge i n with h2 | h2
      · exact ih (by omega) i h2
      · have : i = n := by omega
        subst this
        simpa using hf
theorem bc_congr {f g : Nat → Bool} : ∀ {n : Nat}, (∀ i, i < n → f i = g i) → bc f n = bc g n := by
  intro n
  induction n with
  | zero => intro _; rfl
  | succ n ih => intro h; unfold bc; rw [ih (fun i hi => h i (by omega)), h n (by omega)]
theorem bc_out (f : Nat → Bool) (a : Nat) : ∀ m : Nat, a < m + 1 → bc f (m + 1) = bc (fun q => if q < a then f q else f (q + 1)) m + (if f a then 1 else 0) := by
  intro m
  induction m with
  | zero => intro h; have : a = 0 := by omega
            subst this; rfl
  | succ m ih =>
    intro h
    rcases Nat.lt_or_ge a (m + 1) with h2 | h2
    · rw [bc, ih h2, bc, if_neg (show ¬ m < a by omega)]
      omega
    · have : a = m + 1 := by omega
      subst this
      rw [bc]
      congr 1
      exact bc_congr (fun i hi => by simp [hi])
theorem bc_wob {b a m : Nat} (ha : a < m + 1) (h : b.testBit a = true) : bc (wob b a).testBit m + 1 = bc b.testBit (m + 1) := by
  rw [bc_out b.testBit a m ha, if_pos h]
  congr 1
  exact bc_congr (fun i hi => wob_tb b a i)
theorem tb_zero {b m : Nat} (hb : b < 2 ^ m) (h : bc b.testBit m = 0) : b = 0 := by
  apply Nat.eq_of_testBit_eq
  intro i
  rw [Nat.zero_testBit]
  rcases Nat.lt_or_ge i m with h2 | h2
  · exact bc_0 h i h2
  · exact Nat.testBit_lt_two_pow (Nat.lt_of_lt_of_le hb (Nat.pow_le_pow_right (by decide) h2))
theorem bc_zero (m : Nat) : bc (Nat.testBit 0) m = 0 := by
  induction m with
  | zero => rfl
  | succ m ih => rw [bc, ih, Nat.zero_testBit]; rfl
/-- whether a heap goes first -/
def gF (k : Nat) : Nat → Nat → Nat → Bool
  | 0, _, _ => true
  | m + 1, at_, b => if b = 0 then true else if b.testBit ((at_ + k - 1) % (m + 1)) then gF k m ((at_ + k - 1) % (m + 1)) (wob b ((at_ + k - 1) % (m + 1))) else false
theorem gF_z (k m a : Nat) : gF k m a 0 = true := by
  cases m with
  | zero => rfl
  | succ m => simp [gF]
theorem gF_s {k m a b : Nat} (hb : ¬ b = 0) (h : b.testBit ((a + k - 1) % (m + 1)) = true) : gF k (m + 1) a b = gF k m ((a + k - 1) % (m + 1)) (wob b ((a + k - 1) % (m + 1))) := by simp [gF, hb, h]
theorem gF_n {k m a b : Nat} (hb : ¬ b = 0) (h : b.testBit ((a + k - 1) % (m + 1)) = false) : gF k (m + 1) a b = false := by simp [gF, hb, h]
def isHp (n h : Int32) : Bool := wi n.toInt 2 20 && wi h.toInt 1 ((2 : Int) ^ n.toInt.toNat - 2)
theorem isHp_t {n h : Int32} (hh : isHp n h = true) : ∃ a b : Nat, n = nI a ∧ h = nI b ∧ 2 ≤ a ∧ a ≤ 20 ∧ 1 ≤ b ∧ b + 2 ≤ 2 ^ a := by
  unfold isHp at hh
  rw [Bool.and_eq_true] at hh
  obtain ⟨a, h1, h2, rfl⟩ := nI_wi (a := 2) (b := 20) hh.1
  have h3 := hh.2
  rw [nI_toInt (by omega)] at h3
  have h4 : (2 : Nat) ^ 2 ≤ 2 ^ a := Nat.pow_le_pow_right (by decide) h1
  have h5 : wi h.toInt (1 : Nat) ((2 ^ a - 2 : Nat) : Int) = true := by
    rw [Int.ofNat_sub (by omega)]
    simpa using h3
  obtain ⟨b, h6, h7, rfl⟩ := nI_wi h5
  exact ⟨a, b, rfl, rfl, h1, h2, h6, by omega⟩
def spFirst (n h k : Int32) : Int32 := if (isHp n h && wi k.toInt 1 10000) = true then zb (gF k.toInt.toNat n.toInt.toNat 0 h.toInt.toNat) else -1
/-- the least count of c .. c + f - 1 -/
def lstN (n h : Nat) : Nat → Nat → Int32
  | 0, _ => -9
  | f + 1, c => if gF c n 0 h = true then nI c else lstN n h f (c + 1)
def spLeast (n h : Int32) : Int32 := if isHp n h = true then lstN n.toInt.toNat h.toInt.toNat 10000 1 else -1
