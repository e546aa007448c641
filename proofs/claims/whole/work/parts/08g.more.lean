/-! more of the state: what lives, set, words want -/
theorem all1 (n : Nat) : bc (alv (fun _ => 1)) n = n := by
  induction n with
  | zero => rfl
  | succ n ih => rw [bc_s (show alv (fun _ => 1) n = true from rfl), ih]
theorem GA_new {n : Nat} (h1 : 1 ≤ n) (h2 : n ≤ 40) : GA (fun _ => 1) n ([], fun _ => 1, fun _ => 0, 0) := Rg_new h1 h2 (fun _ _ => ⟨Nat.le_refl _, by decide⟩)
theorem RA_new {n : Nat} {V U C D : Nat → Int32} (h : ∀ q, q < n → V q = 1 ∧ U q = -9) : RA n ([], fun _ => 1, fun _ => 0, 0) V U C D := ⟨fun p hp => (h p hp).1, fun p hp => (h p hp).2, trivial⟩
theorem Rg_lives {B : Nat → Nat} {N ah p v : Nat} {L Wn : Nat → Nat} (h : Rg B N [] L Wn ah) (hp : p < N) (hv1 : 1 ≤ v) (hv : v ≤ 5) : Rg (upN B p v) N [] (upN L p v) Wn ah := by
  obtain ⟨hb, -, h0, hL⟩ := h
  obtain ⟨h1, h2, h3, h4, h5, h6, -⟩ := hb
  subst h0
  have hB : ∀ q, q < N → 1 ≤ upN B p v q ∧ upN B p v q ≤ 5 := by
    intro q hq
    unfold upN
    by_cases e : q = p
    · rw [if_pos e]; exact ⟨hv1, hv⟩
    · rw [if_neg e, ← (hL q hq).1]; exact ⟨(hL q hq).2, h5 q hq⟩
  refine Rg_congr (fun q hq => ?_) (fun q hq => ?_) (Rg_new h1 h2 hB)
  · unfold upN
    by_cases e : q = p
    · rw [if_pos e, if_pos e]
    · rw [if_neg e, if_neg e]; exact (hL q hq).1.symm
  · exact ((h6 q hq).mpr (hL q hq).2).symm
theorem upN_cnt {N p v : Nat} {L : Nat → Nat} (hl : 0 < L p) (hv : 0 < v) : bc (alv (upN L p v)) N = bc (alv L) N := by
  refine bc_congr (fun q hq => ?_)
  unfold alv
  rw [decide_eq_decide]
  unfold upN
  by_cases e : q = p
  · rw [if_pos e, e]; exact ⟨fun _ => hl, fun _ => hv⟩
  · rw [if_neg e]
theorem RX_lives {N p v : Nat} {lg : List (Nat × Nat)} {L Wn : Nat → Nat} {LA WA CA AA : Nat → Int32} (h : RX N lg L Wn LA WA CA AA) : RX N lg (upN L p v) Wn (upd LA p (nI v)) WA CA AA := by
  refine ⟨fun q hq => ?_, h.2.1, h.2.2⟩
  unfold upN
  by_cases e : q = p
  · subst e; rw [pk_us, if_pos rfl]
  · rw [pk_un e, if_neg e]; exact h.1 q hq
theorem spLives_t {B : Nat → Nat} {N p v : Nat} {L Wn : Nat → Nat} {ah : Nat} (hN : N ≤ 40) (hp : p < N) (hv1 : 1 ≤ v) (hv : v ≤ 5) : spLives (nI p) (nI v) N B ([], L, Wn, ah) = (nI (L p), upN B p v, ([], upN L p v, Wn, ah)) := by
  unfold spLives
  rw [nI_toInt (by omega), nI_toInt (by omega), wi_t.mpr (by omega), wi_t.mpr (by omega)]
  rfl
theorem person_of {x : Int32} {N : Nat} (hN1 : 1 ≤ N) (hN : N ≤ 40) (h : wi x.toInt 0 ((N : Int) - 1) = true) : ∃ p : Nat, p < N ∧ x = nI p := by
  obtain ⟨h1, h2⟩ := wi_t.mp h
  refine ⟨x.toInt.toNat, by omega, ?_⟩
  rw [eq32, nI_toInt (by omega)]
  omega
/-- set -/
theorem spSet_eq (w v : Int32) (d st kd : Nat) : spSet w v d st kd = if (decide (w = 0) && wi v.toInt 1 20) = true then (if 0 < d then (-2, st, kd) else (nI st, v.toInt.toNat, kd)) else if (decide (w = 1) && wi v.toInt 0 2) = true then (if 0 < d then (-2, st, kd) else (nI kd, st, v.toInt.toNat)) else (-1, st, kd) := by
  unfold spSet
  by_cases h0 : w = 0
  · subst h0
    have e : wi (0 : Int32).toInt 0 1 = true := by decide
    have e2 : ¬ (0 : Int32) = 1 := by decide
    rw [e, if_pos rfl, if_pos rfl, Bool.true_and, decide_eq_true (rfl : (0 : Int32) = 0), Bool.true_and, decide_eq_false e2, Bool.false_and]
    simp
  · by_cases h1 : w = 1
    · subst h1
      have e : wi (1 : Int32).toInt 0 1 = true := by decide
      rw [e, if_neg h0, if_neg h0, Bool.true_and, decide_eq_true (rfl : (1 : Int32) = 1), Bool.true_and, decide_eq_false h0, Bool.false_and]
      simp [h0]
    · have e : wi w.toInt 0 1 = false := by
        rw [wi_f]
        have k0 : ¬ w.toInt = 0 := fun h => h0 ((eq32 w 0).mpr h)
        have k1 : ¬ w.toInt = 1 := fun h => h1 ((eq32 w 1).mpr h)
        omega
      rw [e, decide_eq_false h0, decide_eq_false h1]
      rfl
theorem CS_st {st kd nw v : Nat} {wd : Nat → Nat} (h : CS st kd nw wd) (h1 : 1 ≤ v) (h2 : v ≤ 20) : CS v kd nw wd := ⟨h1, h2, h.2.2⟩
theorem CS_kd {st kd nw v : Nat} {wd : Nat → Nat} (h : CS st kd nw wd) (h2 : v ≤ 2) : CS st v nw wd := ⟨h.1, h.2.1, h2, h.2.2.2⟩
/-- words -/
theorem okW_of {x : Int32} (h : okW x = true) : 1 ≤ x.toInt.toNat ∧ x.toInt.toNat ≤ 99 ∧ x = nI x.toInt.toNat := by
  obtain ⟨h1, h2⟩ := wi_t.mp h
  refine ⟨by omega, by omega, ?_⟩
  rw [eq32, nI_toInt (by omega)]
  omega
theorem w4_ok {n : Nat} {a b c d : Int32} (hn1 : 1 ≤ n) (hn : n ≤ 4) (h : okWs (nI n) a b c d = true) : ∀ i, i < n → (1 ≤ w4 a b c d i ∧ w4 a b c d i ≤ 99) ∧ ∀ W : Nat → Int32, upd (upd (upd (upd W 0 a) 1 b) 2 c) 3 d i = nI (w4 a b c d i) := by
  unfold okWs at h
  rw [nI_toInt (by omega)] at h
  simp only [Bool.and_eq_true, Bool.or_eq_true, decide_eq_true_eq] at h
  obtain ⟨⟨⟨⟨-, ha⟩, hb⟩, hc⟩, hd⟩ := h
  intro i hi
  rcases (show i = 0 ∨ i = 1 ∨ i = 2 ∨ i = 3 by omega) with rfl | rfl | rfl | rfl
  · obtain ⟨k1, k2, k3⟩ := okW_of ha
    exact ⟨⟨k1, k2⟩, fun W => by rw [pk_un (by decide), pk_un (by decide), pk_un (by decide), pk_us]; exact k3⟩
  · obtain ⟨k1, k2, k3⟩ := okW_of (hb.resolve_left (by omega))
    exact ⟨⟨k1, k2⟩, fun W => by rw [pk_un (by decide), pk_un (by decide), pk_us]; exact k3⟩
  · obtain ⟨k1, k2, k3⟩ := okW_of (hc.resolve_left (by omega))
    exact ⟨⟨k1, k2⟩, fun W => by rw [pk_un (by decide), pk_us]; exact k3⟩
  · obtain ⟨k1, k2, k3⟩ := okW_of (hd.resolve_left (by omega))
    exact ⟨⟨k1, k2⟩, fun W => by rw [pk_us]; exact k3⟩
def m4 (n : Nat) (a b c d : Int32) : Nat → Nat := fun i => if i < n then w4 a b c d i else w4 a b c d (2 * n - 1 - i)
theorem CS_w4 {st kd nw n : Nat} {wd : Nat → Nat} {a b c d : Int32} (h : CS st kd nw wd) (hn1 : 1 ≤ n) (hn : n ≤ 4) (ho : okWs (nI n) a b c d = true) : CS st kd n (w4 a b c d) := ⟨h.1, h.2.1, h.2.2.1, hn1, by omega, fun i hi => (w4_ok hn1 hn ho i hi).1⟩
theorem CS_m4 {st kd nw n : Nat} {wd : Nat → Nat} {a b c d : Int32} (h : CS st kd nw wd) (hn1 : 1 ≤ n) (hn : n ≤ 4) (ho : okWs (nI n) a b c d = true) : CS st kd (2 * n) (m4 n a b c d) := by
  refine ⟨h.1, h.2.1, h.2.2.1, by omega, by omega, fun i hi => ?_⟩
  unfold m4
  by_cases e : i < n
  · rw [if_pos e]; exact (w4_ok hn1 hn ho i e).1
  · rw [if_neg e]; exact (w4_ok hn1 hn ho _ (by omega)).1
theorem CR_m4 {n : Nat} {a b c d : Int32} {V T : Nat → Int32} (hV : ∀ i, i < 2 * n → V i = if i < n then T i else T (2 * n - 1 - i)) (hT : ∀ i, i < n → T i = nI (w4 a b c d i)) : CR (2 * n) (m4 n a b c d) V := by
  intro i hi
  rw [hV i hi]
  unfold m4
  by_cases e : i < n
  · rw [if_pos e, if_pos e]; exact hT i e
  · rw [if_neg e, if_neg e]; exact hT _ (by omega)
theorem spWords_bad {n a b c d : Int32} {tw : Bool} {dn nw : Nat} {wd : Nat → Nat} (h : okWs n a b c d = false) : spWords n a b c d tw dn nw wd = (-1, nw, wd) := by unfold spWords; rw [h]; rfl
theorem spWords_state {n a b c d : Int32} {tw : Bool} {dn nw : Nat} {wd : Nat → Nat} (h : okWs n a b c d = true) (hd : 0 < dn) : spWords n a b c d tw dn nw wd = (-2, nw, wd) := by unfold spWords; rw [if_pos h, if_pos hd]
theorem spWords_t {n : Nat} {a b c d : Int32} {nw : Nat} {wd : Nat → Nat} (hn : n ≤ 4) (h : okWs (nI n) a b c d = true) : spWords (nI n) a b c d true 0 nw wd = (nI (2 * n), 2 * n, m4 n a b c d) := by
  unfold spWords
  rw [if_pos h, if_neg (by omega), if_pos rfl, nI_toInt (by omega)]
  rfl
theorem spWords_f {n : Nat} {a b c d : Int32} {nw : Nat} {wd : Nat → Nat} (hn : n ≤ 4) (h : okWs (nI n) a b c d = true) : spWords (nI n) a b c d false 0 nw wd = (nI n, n, w4 a b c d) := by
  unfold spWords
  rw [if_pos h, if_neg (by omega), if_neg (by decide), nI_toInt (by omega)]
  rfl
/-- told -/
theorem tsw (w : Int32) : w = 0 ∨ w = 1 ∨ w = 2 ∨ w = 3 ∨ w = 4 ∨ (w.toInt < 0 ∨ 4 < w.toInt) := by
  rcases Int.lt_or_le w.toInt 0 with h | h
  · exact Or.inr (Or.inr (Or.inr (Or.inr (Or.inr (Or.inl h)))))
  · rcases Int.lt_or_le 4 w.toInt with h2 | h2
    · exact Or.inr (Or.inr (Or.inr (Or.inr (Or.inr (Or.inr h2)))))
    · rcases (show w.toInt = 0 ∨ w.toInt = 1 ∨ w.toInt = 2 ∨ w.toInt = 3 ∨ w.toInt = 4 by omega) with e | e | e | e | e
      · exact Or.inl ((eq32 w 0).mpr e)
      · exact Or.inr (Or.inl ((eq32 w 1).mpr e))
      · exact Or.inr (Or.inr (Or.inl ((eq32 w 2).mpr e)))
      · exact Or.inr (Or.inr (Or.inr (Or.inl ((eq32 w 3).mpr e))))
      · exact Or.inr (Or.inr (Or.inr (Or.inr (Or.inl ((eq32 w 4).mpr e)))))
theorem spTold_out {w : Int32} (h : w.toInt < 0 ∨ 4 < w.toInt) (N : Nat) (Z : AS) : -1 = spTold w N Z := by
  unfold spTold
  have k : ∀ x : Int32, 0 ≤ x.toInt → x.toInt ≤ 4 → ¬ w = x := fun x h1 h2 e => by rw [e] at h; omega
  rw [if_neg (k 0 (by decide) (by decide)), if_neg (k 1 (by decide) (by decide)), if_neg (k 2 (by decide) (by decide)), if_neg (k 3 (by decide) (by decide)), if_neg (k 4 (by decide) (by decide))]
/-- turns and back, step by step -/
theorem tnS_0 {N st kd nw n : Nat} {wd : Nat → Nat} {Z : AS} (h : bc (alv Z.2.1) N < 2) : tnS N st kd nw wd n Z = (0, Z) := by
  cases n with
  | zero => rfl
  | succ n => rw [tnS, if_pos h]
theorem tnS_s {N st kd nw n : Nat} {wd : Nat → Nat} {Z : AS} (h : ¬ bc (alv Z.2.1) N < 2) : tnS N st kd nw wd (n + 1) Z = ((tnS N st kd nw wd n (tS N (cNeg kd Z.1.length) (cK st kd nw wd Z.1.length) Z)).1 + 1, (tnS N st kd nw wd n (tS N (cNeg kd Z.1.length) (cK st kd nw wd Z.1.length) Z)).2) := by rw [tnS, if_neg h]
theorem tnS_le {N st kd nw : Nat} {wd : Nat → Nat} : ∀ (n : Nat) (Z : AS), (tnS N st kd nw wd n Z).1 ≤ n := by
  intro n
  induction n with
  | zero => intro Z; exact Nat.le_refl _
  | succ n ih =>
    intro Z
    rw [tnS]
    split
    · exact Nat.zero_le _
    · exact Nat.succ_le_succ (ih _)
theorem toll_eq {k : Nat} (h : k ≤ 2) : tollI k = if k = 0 then 1 else if k = 1 then 11 else 111 := rfl
