/-! numbers that the reference's walk wants -/
theorem wI_le {w m : Nat} (hw : w ≤ 40) (hm : m ≤ 40) : wI w ≤ nI m ↔ w ≤ m := by
  unfold wI
  by_cases h : w = 0
  · rw [if_pos h]
    exact ⟨fun _ => by omega, fun _ => (by decide +kernel : ∀ m, m ≤ 40 → (-9 : Int32) ≤ nI m) m hm⟩
  · rw [if_neg h, nI_leI (by omega) (by omega)]
theorem lo_none {N m : Nat} {Wn : Nat → Nat} : ∀ (k p : Nat), (∀ q, p ≤ q → q < p + k → ¬ (Wn q = m ∧ 0 < m)) → lo N Wn m k p = -9 := by
  intro k
  induction k with
  | zero => intro p _; rfl
  | succ k ih =>
    intro p h
    rw [lo, if_neg (h p (Nat.le_refl _) (by omega))]
    exact ih (p + 1) (fun q h1 h2 => h q (by omega) (by omega))
theorem lo_is {N m o : Nat} {Wn : Nat → Nat} (ho : Wn o = m) (hm : 0 < m) : ∀ (k p : Nat), p ≤ o → o < p + k → (∀ q, q < p + k → Wn q = m → q = o) → lo N Wn m k p = nI o := by
  intro k
  induction k with
  | zero => intro p h1 h2; omega
  | succ k ih =>
    intro p h1 h2 h3
    rw [lo]
    by_cases e : p = o
    · subst e; rw [if_pos ⟨ho, hm⟩]
    · rw [if_neg (fun h => e (h3 p (by omega) h.1))]
      exact ih (p + 1) (by omega) (by omega) (fun q hq => h3 q (by omega))
/-- the greatest of the first p, and who bears it -/
def mxI (Wn : Nat → Nat) (p m : Nat) (out : Int32) : Prop := (∀ q, q < p → Wn q ≤ m) ∧ ((m = 0 ∧ out = -9) ∨ (0 < m ∧ ∃ o, o < p ∧ Wn o = m ∧ out = nI o))
theorem mxI_0 (Wn : Nat → Nat) : mxI Wn 0 0 (-9) := ⟨fun q hq => absurd hq (Nat.not_lt_zero _), Or.inl ⟨rfl, rfl⟩⟩
theorem mxI_keep {Wn : Nat → Nat} {p m : Nat} {out : Int32} (h : mxI Wn p m out) (hle : Wn p ≤ m) : mxI Wn (p + 1) m out := by
  refine ⟨fun q hq => ?_, ?_⟩
  · rcases Nat.lt_or_ge q p with h2 | h2
    · exact h.1 q h2
    · rw [show q = p by omega]; exact hle
  · rcases h.2 with h2 | ⟨h2, o, h3, h4⟩
    · exact Or.inl h2
    · exact Or.inr ⟨h2, o, by omega, h4⟩
theorem mxI_new {Wn : Nat → Nat} {p m : Nat} {out : Int32} (h : mxI Wn p m out) (hlt : m < Wn p) : mxI Wn (p + 1) (Wn p) (nI p) := by
  refine ⟨fun q hq => ?_, Or.inr ⟨by omega, p, by omega, rfl, rfl⟩⟩
  rcases Nat.lt_or_ge q p with h2 | h2
  · have := h.1 q h2; omega
  · rw [show q = p by omega]; exact Nat.le_refl _
theorem mxI_end {N m c : Nat} {Wn : Nat → Nat} {out : Int32} (h : mxI Wn N m out) (hc : c ≤ N) (hWc : ∀ p, p < N → Wn p + c ≤ N) (hWi : ∀ p q, p < N → q < N → 0 < Wn p → Wn p = Wn q → p = q) (hWe : c < N → ∃ p, p < N ∧ Wn p + c = N) : out = lo N Wn (N - c) N 0 := by
  obtain ⟨h1, h2⟩ := h
  rcases Nat.lt_or_ge c N with hlt | hge
  · obtain ⟨p, hp, hpe⟩ := hWe hlt
    have hm : m = N - c := by
      have k1 := h1 p hp
      rcases h2 with ⟨h3, -⟩ | ⟨h3, o, h4, h5, -⟩
      · omega
      · have := hWc o h4; omega
    rcases h2 with ⟨h3, -⟩ | ⟨h3, o, h4, h5, h6⟩
    · omega
    · rw [h6]
      exact (lo_is (o := o) (by omega) (by omega) N 0 (Nat.zero_le _) (by omega) (fun q hq hqe => hWi q o (by omega) h4 (by omega) (by omega))).symm
  · rw [lo_none N 0 (fun q _ hq hh => by omega)]
    rcases h2 with ⟨-, h4⟩ | ⟨h3, o, h4, h5, -⟩
    · exact h4
    · have := hWc o h4; omega
theorem next_rem {N b w : Nat} {wy : Int32} (hN1 : 1 ≤ N) (hN : N ≤ 40) (hb : b < N) (hw : (w = 1 ∧ wy = 1) ∨ (w = N - 1 ∧ wy = -1)) : (nI b + wy + nI N) - (nI b + wy + nI N) / nI N * nI N = nI ((b + w) % N) := by
  rcases hw with ⟨rfl, rfl⟩ | ⟨rfl, rfl⟩
  · rw [nI_1, nI_add, pk_rem (by omega) (by omega) (by omega), Nat.add_mod_right]
  · have e : nI b + -1 + nI N = nI (b + (N - 1)) := by
      rw [Int32.add_assoc, Int32.add_comm (-1), ← Int32.sub_eq_add_neg, show nI N - 1 = nI (N - 1) from pk_sub (b := 1) hN1, nI_add]
    rw [e, pk_rem (by omega) (by omega) (by omega)]
theorem sr_step {N w p i : Nat} : ((p + i * w) % N + w) % N = (p + (i + 1) * w) % N := by
  rw [Nat.mod_add_mod, Nat.succ_mul, Nat.add_assoc]
theorem ex_prev {f : Nat → Bool} {N a : Nat} (ha : a < N) (hf : f a = true) : ∃ i, 1 ≤ i ∧ i ≤ N ∧ f ((a + i * (N - 1)) % N) = true := ⟨N, by omega, Nat.le_refl _, by rw [Nat.mul_comm, Nat.add_mul_mod_self_right, Nat.mod_eq_of_lt ha]; exact hf⟩
theorem ex_next {f : Nat → Bool} {N a q : Nat} (ha : a < N) (hq : q < N) (hf : f q = true) : ∃ i, 1 ≤ i ∧ i ≤ N ∧ f ((a + i * 1) % N) = true := by
  obtain ⟨i, h1, h2, -, h4, -⟩ := next_any ha hq hf
  exact ⟨i, h1, h2, by rw [Nat.mul_one]; exact h4⟩
theorem ci_pos {neg : Bool} {k : Nat} (hk1 : 1 ≤ k) (hk : k < 120) (h : ¬ cI neg k ≤ 0) : neg = false := by
  cases neg with
  | false => rfl
  | true => exact absurd (neg_le k hk) h
theorem ci_neg {neg : Bool} {k : Nat} (hk1 : 1 ≤ k) (hk : k < 120) (h : cI neg k ≤ 0) : neg = true := by
  cases neg with
  | true => rfl
  | false => exact absurd h (nI_nle (by omega) (by omega))
theorem GA_ex {B : Nat → Nat} {N : Nat} {Z : AS} (h : GA B N Z) (neg : Bool) (k : Nat) (hc : 2 ≤ bc (alv Z.2.1) N) : ∃ q, q < N ∧ alv (tL Z.2.1 (tQ N neg k Z)) q = true := by
  obtain ⟨h1, h2⟩ := tQ_ok h neg k
  have := tL_cnt h1 h2
  exact bc_ex (by split at this <;> omega)
theorem begs_step {p0 : Nat} {V U X : Nat → Int32} (h : ∀ q, q < p0 → V q = 1 ∧ U q = 1 ∧ X q = -9) : ∀ q, q < p0 + 1 → upd V p0 1 q = 1 ∧ upd U p0 1 q = 1 ∧ upd X p0 (-9) q = -9 := by
  intro q hq
  by_cases e : q = p0
  · subst e; exact ⟨pk_us, pk_us, pk_us⟩
  · rw [pk_un e, pk_un e, pk_un e]; exact h q (by omega)
theorem LV_lives {N p v : Nat} {B : Nat → Nat} {LV : Nat → Int32} (h : ∀ q, q < N → LV q = nI (B q)) : ∀ q, q < N → upd LV p (nI v) q = nI (upN B p v q) := by
  intro q hq
  unfold upN
  by_cases e : q = p
  · subst e; rw [pk_us, if_pos rfl]
  · rw [pk_un e, if_neg e]; exact h q hq
