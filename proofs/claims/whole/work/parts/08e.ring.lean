/-! the ring: numbers alone -/
def alv (L : Nat → Nat) (p : Nat) : Bool := decide (0 < L p)
/-- the first that holds, by steps of w -/
def sr (f : Nat → Bool) (N w : Nat) : Nat → Nat → Nat → Nat
  | 0, _, d => d
  | k + 1, a, d => if f ((a + w) % N) = true then (a + w) % N else sr f N w k ((a + w) % N) d
theorem sr_pos (N w a i : Nat) : ((a + w) % N + i * w) % N = (a + (i + 1) * w) % N := by
  rw [Nat.mod_add_mod, Nat.succ_mul, Nat.add_assoc, Nat.add_comm w]
theorem sr_spec (f : Nat → Bool) (N w : Nat) : ∀ (k a d : Nat), (∃ i, 1 ≤ i ∧ i ≤ k ∧ f ((a + i * w) % N) = true) → ∃ i, 1 ≤ i ∧ i ≤ k ∧ sr f N w k a d = (a + i * w) % N ∧ f ((a + i * w) % N) = true ∧ ∀ j, 1 ≤ j → j < i → f ((a + j * w) % N) = false := by
  intro k
  induction k with
  | zero => rintro a d ⟨i, h1, h2, -⟩; omega
  | succ k ih =>
    rintro a d ⟨i, h1, h2, h3⟩
    cases hf : f ((a + w) % N) with
    | true =>
      refine ⟨1, by omega, by omega, ?_, by rw [Nat.one_mul]; exact hf, fun j h4 h5 => by omega⟩
      rw [sr, if_pos hf, Nat.one_mul]
    | false =>
      have hi : i ≠ 1 := by rintro rfl; rw [Nat.one_mul, hf] at h3; cases h3
      obtain ⟨i', g1, g2, g3, g4, g5⟩ := ih ((a + w) % N) d ⟨i - 1, by omega, by omega, by rw [sr_pos, show i - 1 + 1 = i by omega]; exact h3⟩
      rw [sr_pos] at g3 g4
      refine ⟨i' + 1, by omega, by omega, ?_, g4, ?_⟩
      · rw [sr, if_neg (by rw [hf]; decide)]; exact g3
      · intro j h4 h5
        rcases Nat.lt_or_ge 1 j with h6 | h6
        · have := g5 (j - 1) (by omega) (by omega)
          rwa [sr_pos, show j - 1 + 1 = j by omega] at this
        · rw [show j = 1 by omega, Nat.one_mul]; exact hf
theorem sr_is {f : Nat → Bool} {N w k a d i : Nat} (h1 : 1 ≤ i) (h2 : i ≤ k) (h3 : f ((a + i * w) % N) = true) (h4 : ∀ j, 1 ≤ j → j < i → f ((a + j * w) % N) = false) : sr f N w k a d = (a + i * w) % N := by
  obtain ⟨i', g1, g2, g3, g4, g5⟩ := sr_spec f N w k a d ⟨i, h1, h2, h3⟩
  rcases Nat.lt_trichotomy i i' with h | h | h
  · rw [g5 i h1 h] at h3; cases h3
  · rw [h]; exact g3
  · rw [h4 i' g1 h] at g4; cases g4
def nextP (f : Nat → Bool) (N a : Nat) : Nat := sr f N 1 N a a
def prevP (f : Nat → Bool) (N a : Nat) : Nat := sr f N (N - 1) N a a
theorem bc_mono (f : Nat → Bool) {a b : Nat} (h : a ≤ b) : bc f a ≤ bc f b := by
  induction b with
  | zero => rw [Nat.le_zero.mp h]; exact Nat.le_refl _
  | succ b ih =>
    rcases Nat.lt_or_ge a (b + 1) with h2 | h2
    · exact Nat.le_trans (ih (by omega)) (by rw [bc]; omega)
    · rw [show a = b + 1 by omega]; exact Nat.le_refl _
theorem bc_none {f : Nat → Bool} {a b : Nat} (h : a ≤ b) (hn : ∀ j, a ≤ j → j < b → f j = false) : bc f b = bc f a := by
  induction b with
  | zero => rw [Nat.le_zero.mp h]
  | succ b ih =>
    rcases Nat.lt_or_ge a (b + 1) with h2 | h2
    · rw [bc, hn b (by omega) (by omega), ih (by omega) (fun j h3 h4 => hn j h3 (by omega))]; rfl
    · rw [show a = b + 1 by omega]
theorem bc_s {f : Nat → Bool} {a : Nat} (h : f a = true) : bc f (a + 1) = bc f a + 1 := by rw [bc, h]; rfl
theorem rk_lt {f : Nat → Bool} {a N : Nat} (ha : a < N) (h : f a = true) : bc f a < bc f N := by
  have := bc_mono f (show a + 1 ≤ N by omega)
  rw [bc_s h] at this; omega
theorem rk_inj {f : Nat → Bool} {a b : Nat} (ha : f a = true) (hb : f b = true) (h : bc f a = bc f b) : a = b := by
  rcases Nat.lt_trichotomy a b with h2 | h2 | h2
  · have := rk_lt h2 ha; omega
  · exact h2
  · have := rk_lt h2 hb; omega
theorem bc_ex {f : Nat → Bool} : ∀ {N : Nat}, 0 < bc f N → ∃ p, p < N ∧ f p = true := by
  intro N
  induction N with
  | zero => intro h; exact absurd h (Nat.lt_irrefl 0)
  | succ N ih =>
    intro h
    cases hf : f N with
    | true => exact ⟨N, by omega, hf⟩
    | false =>
      rw [bc, hf] at h
      obtain ⟨p, h1, h2⟩ := ih (by simpa using h)
      exact ⟨p, by omega, h2⟩
theorem next_rk {f : Nat → Bool} {N a : Nat} (ha : a < N) (hf : f a = true) : bc f (nextP f N a) = (bc f a + 1) % bc f N ∧ nextP f N a < N ∧ f (nextP f N a) = true := by
  obtain ⟨i, h1, h2, h3, h4, h5⟩ := sr_spec f N 1 N a a ⟨N, by omega, Nat.le_refl _, by rw [Nat.mul_one, Nat.add_mod_right, Nat.mod_eq_of_lt ha]; exact hf⟩
  rw [Nat.mul_one] at h3 h4
  have h3 : nextP f N a = (a + i) % N := h3
  rw [h3]
  refine ⟨?_, Nat.mod_lt _ (by omega), h4⟩
  rcases Nat.lt_or_ge (a + i) N with h | h
  · rw [Nat.mod_eq_of_lt h] at h4 ⊢
    have e : bc f (a + i) = bc f (a + 1) := bc_none (by omega) (fun j h6 h7 => by
      have := h5 (j - a) (by omega) (by omega)
      rwa [Nat.mul_one, show a + (j - a) = j by omega, Nat.mod_eq_of_lt (by omega)] at this)
    rw [e, bc_s hf, Nat.mod_eq_of_lt]
    have := rk_lt h h4
    rw [e, bc_s hf] at this
    exact this
  · have e0 : (a + i) % N = a + i - N := by
      rw [Nat.mod_eq_sub_mod h, Nat.mod_eq_of_lt (by omega)]
    rw [e0] at h4 ⊢
    have e1 : bc f (a + i - N) = bc f 0 := bc_none (by omega) (fun j h6 h7 => by
      have := h5 (j + N - a) (by omega) (by omega)
      rwa [Nat.mul_one, show a + (j + N - a) = j + N by omega, Nat.add_mod_right, Nat.mod_eq_of_lt (by omega)] at this)
    have e2 : bc f N = bc f (a + 1) := bc_none (by omega) (fun j h6 h7 => by
      have := h5 (j - a) (by omega) (by omega)
      rwa [Nat.mul_one, show a + (j - a) = j by omega, Nat.mod_eq_of_lt (by omega)] at this)
    rw [e1, e2, bc_s hf, Nat.mod_self]; rfl
/-- the way on, and back, so many times -/
def itF (f : Nat → Bool) (N : Nat) : Nat → Nat → Nat
  | 0, a => a
  | k + 1, a => itF f N k (nextP f N a)
def itB (f : Nat → Bool) (N : Nat) : Nat → Nat → Nat
  | 0, a => a
  | k + 1, a => itB f N k (prevP f N a)
theorem itF_add (f : Nat → Bool) (N : Nat) : ∀ (i j a : Nat), itF f N (i + j) a = itF f N j (itF f N i a) := by
  intro i
  induction i with
  | zero => intro j a; rw [Nat.zero_add]; rfl
  | succ i ih => intro j a; rw [Nat.succ_add]; exact ih j _
theorem itF_rk {f : Nat → Bool} {N : Nat} : ∀ (k : Nat) {a : Nat}, a < N → f a = true → bc f (itF f N k a) = (bc f a + k) % bc f N ∧ itF f N k a < N ∧ f (itF f N k a) = true := by
  intro k
  induction k with
  | zero => intro a ha hf; exact ⟨(Nat.mod_eq_of_lt (rk_lt ha hf)).symm, ha, hf⟩
  | succ k ih =>
    intro a ha hf
    obtain ⟨h1, h2, h3⟩ := next_rk ha hf
    obtain ⟨g1, g2, g3⟩ := ih h2 h3
    refine ⟨?_, g2, g3⟩
    show bc f (itF f N k (nextP f N a)) = _
    rw [g1, h1, Nat.mod_add_mod, Nat.add_assoc, Nat.add_comm 1 k]
theorem itF_per {f : Nat → Bool} {N a : Nat} (ha : a < N) (hf : f a = true) : itF f N (bc f N) a = a := by
  obtain ⟨h1, h2, h3⟩ := itF_rk (bc f N) ha hf
  rw [Nat.add_mod_right, Nat.mod_eq_of_lt (rk_lt ha hf)] at h1
  exact rk_inj h3 hf h1
theorem itF_mul {f : Nat → Bool} {N a : Nat} (ha : a < N) (hf : f a = true) : ∀ j : Nat, itF f N (bc f N * j) a = a := by
  intro j
  induction j with
  | zero => rfl
  | succ j ih => rw [Nat.mul_succ, itF_add, ih, itF_per ha hf]
theorem itF_mod {f : Nat → Bool} {N a : Nat} (ha : a < N) (hf : f a = true) (k : Nat) : itF f N (k % bc f N) a = itF f N k a := by
  have h := Nat.div_add_mod k (bc f N)
  have h2 : itF f N (bc f N * (k / bc f N) + k % bc f N) a = itF f N (k % bc f N) a := by rw [itF_add, itF_mul ha hf]
  rw [h] at h2
  exact h2.symm
theorem itF_end (f : Nat → Bool) (N : Nat) : ∀ (k a : Nat), itF f N (k + 1) a = nextP f N (itF f N k a) := by
  intro k a
  rw [itF_add f N k 1 a]; rfl
theorem back_pos {N a i j : Nat} (ha : a < N) (hi : i ≤ N) (hj : j ≤ i) : ((a + i * (N - 1)) % N + j) % N = (a + (i - j) * (N - 1)) % N := by
  have h1 : i * (N - 1) = (i - j) * (N - 1) + j * (N - 1) := by rw [← Nat.add_mul, show i - j + j = i by omega]
  have h2 : j * (N - 1) + j = j * N := by
    obtain ⟨M, rfl⟩ : ∃ M, N = M + 1 := ⟨N - 1, by omega⟩
    rw [Nat.mul_succ]; rfl
  rw [Nat.mod_add_mod, h1, show a + ((i - j) * (N - 1) + j * (N - 1)) + j = a + (i - j) * (N - 1) + j * N by omega, Nat.add_mul_mod_self_right]
theorem prev_next {f : Nat → Bool} {N a : Nat} (ha : a < N) (hf : f a = true) : nextP f N (prevP f N a) = a ∧ prevP f N a < N ∧ f (prevP f N a) = true := by
  obtain ⟨i, h1, h2, h3, h4, h5⟩ := sr_spec f N (N - 1) N a a ⟨N, by omega, Nat.le_refl _, by rw [Nat.mul_comm, Nat.add_mul_mod_self_right, Nat.mod_eq_of_lt ha]; exact hf⟩
  have h3 : prevP f N a = (a + i * (N - 1)) % N := h3
  rw [h3]
  refine ⟨?_, Nat.mod_lt _ (by omega), h4⟩
  have e := back_pos (j := i) ha h2 (Nat.le_refl _)
  rw [Nat.sub_self, Nat.zero_mul, Nat.add_zero, Nat.mod_eq_of_lt ha] at e
  have := sr_is (f := f) (N := N) (w := 1) (k := N) (a := (a + i * (N - 1)) % N) (d := (a + i * (N - 1)) % N) h1 h2 (by rw [Nat.mul_one, e]; exact hf) (fun j h6 h7 => by
    rw [Nat.mul_one, back_pos ha h2 (by omega)]
    exact h5 (i - j) (by omega) (by omega))
  rw [Nat.mul_one, e] at this
  exact this
theorem itB_ok {f : Nat → Bool} {N : Nat} : ∀ (k : Nat) {a : Nat}, a < N → f a = true → itF f N k (itB f N k a) = a ∧ itB f N k a < N ∧ f (itB f N k a) = true := by
  intro k
  induction k with
  | zero => intro a ha hf; exact ⟨rfl, ha, hf⟩
  | succ k ih =>
    intro a ha hf
    obtain ⟨h1, h2, h3⟩ := prev_next ha hf
    obtain ⟨g1, g2, g3⟩ := ih h2 h3
    refine ⟨?_, g2, g3⟩
    show itF f N (k + 1) (itB f N k (prevP f N a)) = a
    rw [itF_end, g1, h1]
/-- so many back are so many on -/
theorem itB_mod {f : Nat → Bool} {N a : Nat} (ha : a < N) (hf : f a = true) (k : Nat) : itF f N ((bc f N - k % bc f N) % bc f N) a = itB f N k a := by
  obtain ⟨h1, h2, h3⟩ := itB_ok k ha hf
  have hc : 0 < bc f N := Nat.lt_of_le_of_lt (Nat.zero_le _) (rk_lt ha hf)
  have hm : ∃ j, k + (bc f N - k % bc f N) % bc f N = bc f N * j := by
    have h4 := Nat.div_add_mod k (bc f N)
    have h5 := Nat.mod_lt k hc
    rcases Nat.eq_zero_or_pos (k % bc f N) with h6 | h6
    · exact ⟨k / bc f N, by rw [h6, Nat.sub_zero, Nat.mod_self]; omega⟩
    · exact ⟨k / bc f N + 1, by rw [Nat.mod_eq_of_lt (by omega), Nat.mul_succ]; omega⟩
  obtain ⟨j, hj⟩ := hm
  have e : itF f N (k + (bc f N - k % bc f N) % bc f N) (itB f N k a) = itF f N ((bc f N - k % bc f N) % bc f N) a := by rw [itF_add, h1]
  rw [hj, itF_mul h2 h3] at e
  exact e.symm
/-- who is counted: forward k - 1 on, backward k back -/
def pick (f : Nat → Bool) (N : Nat) (neg : Bool) (k a : Nat) : Nat := if neg = true then itB f N k a else itF f N (k - 1) a
theorem pick_ok {f : Nat → Bool} {N a : Nat} (neg : Bool) (k : Nat) (ha : a < N) (hf : f a = true) : pick f N neg k a < N ∧ f (pick f N neg k a) = true := by
  unfold pick
  split
  · exact (itB_ok k ha hf).2
  · exact (itF_rk (k - 1) ha hf).2
/-- the next one of one who may be out -/
theorem next_any {f : Nat → Bool} {N a q : Nat} (ha : a < N) (hq : q < N) (hf : f q = true) : ∃ i, 1 ≤ i ∧ i ≤ N ∧ nextP f N a = (a + i) % N ∧ f ((a + i) % N) = true ∧ ∀ j, 1 ≤ j → j < i → f ((a + j) % N) = false := by
  have h : ∃ i, 1 ≤ i ∧ i ≤ N ∧ f ((a + i * 1) % N) = true := by
    rcases Nat.lt_or_ge a q with h | h
    · exact ⟨q - a, by omega, by omega, by rw [Nat.mul_one, show a + (q - a) = q by omega, Nat.mod_eq_of_lt hq]; exact hf⟩
    · exact ⟨q + N - a, by omega, by omega, by rw [Nat.mul_one, show a + (q + N - a) = q + N by omega, Nat.add_mod_right, Nat.mod_eq_of_lt hq]; exact hf⟩
  obtain ⟨i, h1, h2, h3, h4, h5⟩ := sr_spec f N 1 N a a h
  rw [Nat.mul_one] at h3 h4
  exact ⟨i, h1, h2, h3, h4, fun j h6 h7 => by have := h5 j h6 h7; rwa [Nat.mul_one] at this⟩
theorem bc_set {f g : Nat → Bool} {q N : Nat} (hq : q < N) (h : ∀ p, p < N → p ≠ q → f p = g p) : bc f N + (if g q = true then 1 else 0) = bc g N + (if f q = true then 1 else 0) := by
  induction N with
  | zero => omega
  | succ N ih =>
    rcases Nat.lt_or_ge q N with h2 | h2
    · have := ih h2 (fun p hp hn => h p (by omega) hn)
      rw [bc, bc, h N (by omega) (by omega)]
      omega
    · have e : q = N := by omega
      subst e
      rw [bc, bc, bc_congr (fun p hp => h p (by omega) (by omega))]
      omega
def smN (L : Nat → Nat) : Nat → Nat
  | 0 => 0
  | n + 1 => smN L n + L n
theorem smN_congr {L M : Nat → Nat} : ∀ {n : Nat}, (∀ p, p < n → L p = M p) → smN L n = smN M n := by
  intro n
  induction n with
  | zero => intro _; rfl
  | succ n ih => intro h; rw [smN, smN, ih (fun p hp => h p (by omega)), h n (by omega)]
theorem smN_set {L M : Nat → Nat} {q N : Nat} (hq : q < N) (h : ∀ p, p < N → p ≠ q → L p = M p) : smN L N + M q = smN M N + L q := by
  induction N with
  | zero => omega
  | succ N ih =>
    rcases Nat.lt_or_ge q N with h2 | h2
    · have := ih h2 (fun p hp hn => h p (by omega) hn)
      rw [smN, smN, h N (by omega) (by omega)]
      omega
    · have e : q = N := by omega
      subst e
      rw [smN, smN, smN_congr (fun p hp => h p (by omega) (by omega))]
      omega
theorem smN_le {L : Nat → Nat} {m : Nat} : ∀ {n : Nat}, (∀ p, p < n → L p ≤ m) → smN L n ≤ m * n := by
  intro n
  induction n with
  | zero => intro _; exact Nat.zero_le _
  | succ n ih =>
    intro h
    have h1 := ih (fun p hp => h p (by omega))
    have h2 := h n (by omega)
    rw [smN, Nat.mul_succ]; omega
theorem smN_ge {L : Nat → Nat} : ∀ {n p : Nat}, p < n → L p ≤ smN L n := by
  intro n
  induction n with
  | zero => intro p h; omega
  | succ n ih =>
    intro p h
    rw [smN]
    rcases Nat.lt_or_ge p n with h2 | h2
    · have := ih h2; omega
    · rw [show p = n by omega]; omega
/-! a ring's state: size, lives, as which one out (0: not), ahead of whom -/
def Rb (N : Nat) (L Wn : Nat → Nat) (ah : Nat) : Prop := 1 ≤ N ∧ N ≤ 40 ∧ ah < N ∧ 0 < L ah ∧ (∀ p, p < N → L p ≤ 5) ∧ (∀ p, p < N → (Wn p = 0 ↔ 0 < L p)) ∧ (∀ p, p < N → Wn p + bc (alv L) N ≤ N) ∧ (∀ p q, p < N → q < N → 0 < Wn p → Wn p = Wn q → p = q) ∧ (bc (alv L) N < N → ∃ p, p < N ∧ Wn p + bc (alv L) N = N)
def tL (L : Nat → Nat) (q : Nat) : Nat → Nat := fun p => if p = q then L p - 1 else L p
def tW (N : Nat) (L Wn : Nat → Nat) (q : Nat) : Nat → Nat := fun p => if p = q ∧ L q = 1 then N - bc (alv (tL L q)) N else Wn p
def Rg (B : Nat → Nat) (N : Nat) : List (Nat × Nat) → (Nat → Nat) → (Nat → Nat) → Nat → Prop
  | [], L, Wn, ah => Rb N L Wn ah ∧ smN L N ≤ 5 * N ∧ ah = 0 ∧ ∀ p, p < N → L p = B p ∧ 0 < L p
  | (q, a) :: t, L, Wn, ah => Rb N L Wn ah ∧ t.length + 1 + smN L N ≤ 5 * N ∧ ∃ L0 Wn0 : Nat → Nat, Rg B N t L0 Wn0 a ∧ q < N ∧ 0 < L0 q ∧ (∀ p, p < N → L p = tL L0 q p) ∧ ∀ p, p < N → Wn p = tW N L0 Wn0 q p
theorem Rg.rb {B : Nat → Nat} {N : Nat} {lg : List (Nat × Nat)} {L Wn : Nat → Nat} {ah : Nat} (h : Rg B N lg L Wn ah) : Rb N L Wn ah := by
  cases lg with
  | nil => exact h.1
  | cons x t => obtain ⟨q, a⟩ := x; exact h.1
theorem Rg.sm {B : Nat → Nat} {N : Nat} {lg : List (Nat × Nat)} {L Wn : Nat → Nat} {ah : Nat} (h : Rg B N lg L Wn ah) : lg.length + smN L N ≤ 5 * N := by
  cases lg with
  | nil => have := h.2.1; simpa using this
  | cons x t => obtain ⟨q, a⟩ := x; have := h.2.1; simpa using this
theorem Rg.len {B : Nat → Nat} {N : Nat} {lg : List (Nat × Nat)} {L Wn : Nat → Nat} {ah : Nat} (h : Rg B N lg L Wn ah) : lg.length < 200 := by
  have h1 := h.sm
  obtain ⟨h2, h3, h4, h5, -⟩ := h.rb
  have h6 := smN_ge (L := L) h4
  omega
theorem tL_cnt {N q : Nat} {L : Nat → Nat} (hq : q < N) (hl : 0 < L q) : bc (alv (tL L q)) N + (if L q = 1 then 1 else 0) = bc (alv L) N := by
  have h := bc_set (f := alv (tL L q)) (g := alv L) hq (fun p hp hn => by simp [alv, tL, hn])
  have e1 : alv L q = true := by simp [alv, hl]
  have e2 : alv (tL L q) q = decide (0 < L q - 1) := by simp [alv, tL]
  rw [e1, e2] at h
  by_cases h1 : L q = 1
  · rw [if_pos h1]; simp [h1] at h; omega
  · rw [if_neg h1, if_pos rfl, if_pos (by simp; omega)] at *; omega
theorem tL_sm {N q : Nat} {L : Nat → Nat} (hq : q < N) (hl : 0 < L q) : smN (tL L q) N + 1 = smN L N := by
  have h := smN_set (L := tL L q) (M := L) hq (fun p hp hn => by simp [tL, hn])
  have e : tL L q q = L q - 1 := by simp [tL]
  rw [e] at h; omega
theorem Rb_turn {N ah q : Nat} {L Wn : Nat → Nat} (h : Rb N L Wn ah) (hq : q < N) (hl : 0 < L q) (hc : 2 ≤ bc (alv L) N) : Rb N (tL L q) (tW N L Wn q) (nextP (alv (tL L q)) N q) := by
  obtain ⟨h1, h2, h3, h4, h5, h6, h7, h8, h9⟩ := h
  have hcn := tL_cnt hq hl
  have hpos : 0 < bc (alv (tL L q)) N := by split at hcn <;> omega
  obtain ⟨r, hr1, hr2⟩ := bc_ex hpos
  obtain ⟨i, g1, g2, g3, g4, g5⟩ := next_any hq hr1 hr2
  have hle := bc_le (alv L) N
  refine ⟨h1, h2, ?_, ?_, ?_, ?_, ?_, ?_, ?_⟩
  · rw [g3]; exact Nat.mod_lt _ (by omega)
  · rw [g3]; simpa [alv] using g4
  · intro p hp; have := h5 p hp; simp only [tL]; split <;> omega
  · intro p hp
    simp only [tW, tL]
    by_cases e : p = q
    · subst e
      by_cases e1 : L p = 1
      · simp only [e1, and_self, if_true]
        rw [if_pos e1] at hcn
        constructor
        · intro z; omega
        · intro z; omega
      · have := h6 p hp
        simp only [e1, and_false, if_false, if_true]
        constructor
        · intro z; omega
        · intro z; exact this.mpr hl
    · simp only [e, false_and, if_false]; exact h6 p hp
  · intro p hp
    have := h7 p hp
    simp only [tW]
    by_cases e : p = q ∧ L q = 1
    · rw [if_pos e]; split at hcn <;> omega
    · rw [if_neg e]; split at hcn <;> omega
  · intro p p' hp hp' z1 z2
    simp only [tW] at z1 z2
    have k1 := h7 p hp
    have k2 := h7 p' hp'
    by_cases e1 : L q = 1
    · rw [if_pos e1] at hcn
      simp only [e1, and_true] at z1 z2
      by_cases e2 : p = q
      · by_cases e3 : p' = q
        · rw [e2, e3]
        · simp only [e2, e3, if_true, if_false] at z2; omega
      · by_cases e3 : p' = q
        · simp only [e2, e3, if_true, if_false] at z2; omega
        · simp only [e2, e3, if_false] at z1 z2; exact h8 p p' hp hp' z1 z2
    · simp only [e1, and_false, if_false] at z1 z2
      exact h8 p p' hp hp' z1 z2
  · intro hlt
    by_cases e1 : L q = 1
    · refine ⟨q, hq, ?_⟩
      simp only [tW, e1, and_self, if_true]
      rw [if_pos e1] at hcn
      omega
    · rw [if_neg e1, Nat.add_zero] at hcn
      rw [hcn] at hlt ⊢
      obtain ⟨p, hp, hpe⟩ := h9 hlt
      refine ⟨p, hp, ?_⟩
      simp only [tW, e1, and_false, if_false]
      exact hpe
theorem Rg_turn {B : Nat → Nat} {N ah q : Nat} {lg : List (Nat × Nat)} {L Wn : Nat → Nat} (h : Rg B N lg L Wn ah) (hq : q < N) (hl : 0 < L q) (hc : 2 ≤ bc (alv L) N) : Rg B N ((q, ah) :: lg) (tL L q) (tW N L Wn q) (nextP (alv (tL L q)) N q) := by
  refine ⟨Rb_turn h.rb hq hl hc, ?_, L, Wn, h, hq, hl, fun _ _ => rfl, fun _ _ => rfl⟩
  have h1 := h.sm
  have h2 := tL_sm hq hl
  omega
/-- back: what was -/
theorem Rg_back {B : Nat → Nat} {N ah q a : Nat} {t : List (Nat × Nat)} {L Wn : Nat → Nat} (h : Rg B N ((q, a) :: t) L Wn ah) : q < N ∧ L q ≤ 4 ∧ ∃ L0 Wn0 : Nat → Nat, Rg B N t L0 Wn0 a ∧ (∀ p, p < N → L0 p = if p = q then L p + 1 else L p) ∧ (∀ p, p < N → Wn0 p = if p = q then 0 else Wn p) ∧ bc (alv L0) N = bc (alv L) N + (if L q = 0 then 1 else 0) := by
  obtain ⟨hb, -, L0, Wn0, h0, hq, hl, hL, hW⟩ := h
  obtain ⟨k1, k2, k3, k4, k5, k6, -⟩ := h0.rb
  have hLq : L q = L0 q - 1 := by rw [hL q hq]; simp [tL]
  refine ⟨hq, by have := k5 q hq; omega, L0, Wn0, h0, ?_, ?_, ?_⟩
  · intro p hp
    by_cases e : p = q
    · subst e; rw [if_pos rfl, hLq]; omega
    · rw [if_neg e, hL p hp]; simp [tL, e]
  · intro p hp
    by_cases e : p = q
    · subst e; rw [if_pos rfl]; exact (k6 p hp).mpr hl
    · rw [if_neg e, hW p hp]; simp [tW, e]
  · have h1 := tL_cnt hq hl
    have h2 : bc (alv L) N = bc (alv (tL L0 q)) N := bc_congr (fun p hp => by simp only [alv]; rw [hL p hp])
    rw [h2, ← h1]
    congr 1
    by_cases e : L0 q = 1
    · rw [if_pos e, if_pos (by omega)]
    · rw [if_neg e, if_neg (by omega)]
/-- the ring anew -/
theorem Rg_new {N : Nat} (h1 : 1 ≤ N) (h2 : N ≤ 40) {B : Nat → Nat} (hB : ∀ p, p < N → 1 ≤ B p ∧ B p ≤ 5) : Rg B N [] B (fun _ => 0) 0 := by
  have hall : bc (alv B) N = N := by
    have : ∀ n, n ≤ N → bc (alv B) n = n := by
      intro n
      induction n with
      | zero => intro _; rfl
      | succ n ih =>
        intro hn
        rw [bc_s (by simp only [alv, decide_eq_true_eq]; have := hB n (by omega); omega), ih (by omega)]
    exact this N (Nat.le_refl _)
  refine ⟨⟨h1, h2, by omega, by have := hB 0 (by omega); omega, fun p hp => (hB p hp).2, fun p hp => ⟨fun _ => by have := hB p hp; omega, fun _ => rfl⟩, fun p hp => by show 0 + bc (alv B) N ≤ N; omega, fun p q _ _ h _ => absurd h (Nat.lt_irrefl 0), fun h => by omega⟩, smN_le (fun p hp => (hB p hp).2), rfl, fun p hp => ⟨rfl, by have := hB p hp; omega⟩⟩
/-- what the two hold of it -/
def wI (w : Nat) : Int32 := if w = 0 then -9 else nI w
def LR : List (Nat × Nat) → (Nat → Int32) → (Nat → Int32) → Prop
  | [], _, _ => True
  | (q, a) :: t, C, D => C t.length = nI q ∧ D t.length = nI a ∧ LR t C D
theorem LR_upd {C D : Nat → Int32} {i j : Nat} {x y : Int32} : ∀ {t : List (Nat × Nat)}, t.length ≤ i → t.length ≤ j → LR t C D → LR t (upd C i x) (upd D j y) := by
  intro t
  induction t with
  | nil => intro _ _ _; trivial
  | cons z t ih =>
    obtain ⟨q, a⟩ := z
    intro h1 h2 h
    simp only [List.length_cons] at h1 h2
    exact ⟨by rw [pk_un (by omega)]; exact h.1, by rw [pk_un (by omega)]; exact h.2.1, ih (by omega) (by omega) h.2.2⟩
def RX (N : Nat) (lg : List (Nat × Nat)) (L Wn : Nat → Nat) (LA WA CA AA : Nat → Int32) : Prop := (∀ p, p < N → LA p = nI (L p)) ∧ (∀ p, p < N → WA p = wI (Wn p)) ∧ LR lg CA AA
