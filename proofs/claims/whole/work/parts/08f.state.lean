/-! the state of a ring gone through, and of its counts; what the calls make of it -/
abbrev AS : Type := List (Nat × Nat) × (Nat → Nat) × (Nat → Nat) × Nat
abbrev GA (B : Nat → Nat) (N : Nat) (Z : AS) : Prop := Rg B N Z.1 Z.2.1 Z.2.2.1 Z.2.2.2
abbrev RA (N : Nat) (Z : AS) (LA WA CA AA : Nat → Int32) : Prop := RX N Z.1 Z.2.1 Z.2.2.1 LA WA CA AA
theorem Rb_congr {N ah : Nat} {L L' Wn Wn' : Nat → Nat} (hL : ∀ p, p < N → L p = L' p) (hW : ∀ p, p < N → Wn p = Wn' p) (h : Rb N L Wn ah) : Rb N L' Wn' ah := by
  obtain ⟨h1, h2, h3, h4, h5, h6, h7, h8, h9⟩ := h
  have e : bc (alv L') N = bc (alv L) N := bc_congr (fun p hp => by simp only [alv]; rw [hL p hp])
  refine ⟨h1, h2, h3, by rw [← hL ah h3]; exact h4, fun p hp => by rw [← hL p hp]; exact h5 p hp, fun p hp => by rw [← hL p hp, ← hW p hp]; exact h6 p hp, fun p hp => by rw [← hW p hp, e]; exact h7 p hp, fun p q hp hq => by rw [← hW p hp, ← hW q hq]; exact h8 p q hp hq, fun h => ?_⟩
  rw [e] at h
  obtain ⟨p, hp, hpe⟩ := h9 h
  exact ⟨p, hp, by rw [← hW p hp, e]; exact hpe⟩
theorem Rg_congr {B : Nat → Nat} {N ah : Nat} {lg : List (Nat × Nat)} {L L' Wn Wn' : Nat → Nat} (hL : ∀ p, p < N → L p = L' p) (hW : ∀ p, p < N → Wn p = Wn' p) (h : Rg B N lg L Wn ah) : Rg B N lg L' Wn' ah := by
  have hb := Rb_congr hL hW h.rb
  have hs : smN L' N = smN L N := smN_congr (fun p hp => (hL p hp).symm)
  cases lg with
  | nil =>
    obtain ⟨-, h2, h3, h4⟩ := h
    exact ⟨hb, by rw [hs]; exact h2, h3, fun p hp => by rw [← hL p hp]; exact h4 p hp⟩
  | cons x t =>
    obtain ⟨q, a⟩ := x
    obtain ⟨-, h2, L0, W0, h3, h4, h5, h6, h7⟩ := h
    exact ⟨hb, by rw [hs]; exact h2, L0, W0, h3, h4, h5, fun p hp => by rw [← hL p hp]; exact h6 p hp, fun p hp => by rw [← hW p hp]; exact h7 p hp⟩
/-- a turn: who is counted, what is then -/
def tQ (N : Nat) (neg : Bool) (k : Nat) (Z : AS) : Nat := pick (alv Z.2.1) N neg k Z.2.2.2
def tS (N : Nat) (neg : Bool) (k : Nat) (Z : AS) : AS := ((tQ N neg k Z, Z.2.2.2) :: Z.1, tL Z.2.1 (tQ N neg k Z), tW N Z.2.1 Z.2.2.1 (tQ N neg k Z), nextP (alv (tL Z.2.1 (tQ N neg k Z))) N (tQ N neg k Z))
theorem tQ_ok {B : Nat → Nat} {N : Nat} {Z : AS} (h : GA B N Z) (neg : Bool) (k : Nat) : tQ N neg k Z < N ∧ 0 < Z.2.1 (tQ N neg k Z) := by
  obtain ⟨-, -, h3, h4, -⟩ := h.rb
  have := pick_ok (f := alv Z.2.1) neg k h3 (by simp only [alv, decide_eq_true_eq]; exact h4)
  exact ⟨this.1, by simpa [alv, tQ] using this.2⟩
theorem GA_tS {B : Nat → Nat} {N : Nat} {Z : AS} (h : GA B N Z) (neg : Bool) (k : Nat) (hc : 2 ≤ bc (alv Z.2.1) N) : GA B N (tS N neg k Z) := Rg_turn h (tQ_ok h neg k).1 (tQ_ok h neg k).2 hc
theorem RX_turn {N q ah : Nat} {lg : List (Nat × Nat)} {L Wn : Nat → Nat} {LA WA CA AA WA' : Nat → Int32} (h : RX N lg L Wn LA WA CA AA) (hq : q < N) (hc : bc (alv (tL L q)) N < N ∨ ¬ L q = 1) (hW : ∀ p, p < N → WA' p = if p = q ∧ L q = 1 then nI (N - bc (alv (tL L q)) N) else WA p) :
    RX N ((q, ah) :: lg) (tL L q) (tW N L Wn q) (upd LA q (nI (L q - 1))) WA' (upd CA lg.length (nI q)) (upd AA lg.length (nI ah)) := by
  obtain ⟨h1, h2, h3⟩ := h
  refine ⟨fun p hp => ?_, fun p hp => ?_, pk_us, pk_us, LR_upd (Nat.le_refl _) (Nat.le_refl _) h3⟩
  · by_cases e : p = q
    · subst e; rw [pk_us]; simp [tL]
    · rw [pk_un e, h1 p hp]; simp [tL, e]
  · rw [hW p hp]
    unfold tW
    by_cases e : p = q ∧ L q = 1
    · rw [if_pos e, if_pos e, wI, if_neg (by have := e.2; omega)]
    · rw [if_neg e, if_neg e]; exact h2 p hp
/-- back -/
def bL (L : Nat → Nat) (q : Nat) : Nat → Nat := fun p => if p = q then L p + 1 else L p
def bW (Wn : Nat → Nat) (q : Nat) : Nat → Nat := fun p => if p = q then 0 else Wn p
theorem GA_back {B : Nat → Nat} {N q a ah : Nat} {t : List (Nat × Nat)} {L Wn : Nat → Nat} (h : Rg B N ((q, a) :: t) L Wn ah) : q < N ∧ a < N ∧ L q ≤ 4 ∧ Rg B N t (bL L q) (bW Wn q) a ∧ bc (alv (bL L q)) N = bc (alv L) N + (if L q = 0 then 1 else 0) ∧ (0 < L q → Wn q = 0) := by
  have hb := h.rb
  obtain ⟨hq, h4, L0, W0, h0, hL, hW, hc⟩ := Rg_back h
  have e : bc (alv (bL L q)) N = bc (alv L0) N := bc_congr (fun p hp => by simp only [alv]; rw [hL p hp]; rfl)
  exact ⟨hq, h0.rb.2.2.1, h4, Rg_congr (fun p hp => by rw [hL p hp]; rfl) (fun p hp => by rw [hW p hp]; rfl) h0, by rw [e]; exact hc, fun hp => (hb.2.2.2.2.2.1 q hq).mpr hp⟩
theorem RX_back {N q a : Nat} {t : List (Nat × Nat)} {L Wn : Nat → Nat} {LA WA CA AA WA' : Nat → Int32} (h : RX N ((q, a) :: t) L Wn LA WA CA AA) (hW : ∀ p, p < N → WA' p = if p = q then -9 else WA p) :
    RX N t (bL L q) (bW Wn q) (upd LA q (nI (L q + 1))) WA' CA AA := by
  obtain ⟨h1, h2, h3⟩ := h
  refine ⟨fun p hp => ?_, fun p hp => ?_, h3.2.2⟩
  · by_cases e : p = q
    · subst e; rw [pk_us]; simp [bL]
    · rw [pk_un e, h1 p hp]; simp [bL, e]
  · rw [hW p hp]
    unfold bW
    by_cases e : p = q
    · rw [if_pos e, if_pos e]; rfl
    · rw [if_neg e, if_neg e]; exact h2 p hp
def bS (q a : Nat) (t : List (Nat × Nat)) (Z : AS) : AS := (t, bL Z.2.1 q, bW Z.2.2.1 q, a)
/-- counts -/
def cNeg (kd t : Nat) : Bool := decide (kd = 2) && decide (t % 2 = 1)
def cK (st kd nw : Nat) (wd : Nat → Nat) (t : Nat) : Nat := if kd = 0 then st else st + wd (t % nw)
def cI (neg : Bool) (k : Nat) : Int32 := if neg = true then -nI k else nI k
def CS (st kd nw : Nat) (wd : Nat → Nat) : Prop := 1 ≤ st ∧ st ≤ 20 ∧ kd ≤ 2 ∧ 1 ≤ nw ∧ nw ≤ 8 ∧ ∀ i, i < nw → 1 ≤ wd i ∧ wd i ≤ 99
def CR (nw : Nat) (wd : Nat → Nat) (WR : Nat → Int32) : Prop := ∀ i, i < nw → WR i = nI (wd i)
theorem cK_in {st kd nw t : Nat} {wd : Nat → Nat} (h : CS st kd nw wd) : 1 ≤ cK st kd nw wd t ∧ cK st kd nw wd t < 120 := by
  obtain ⟨h1, h2, h3, h4, h5, h6⟩ := h
  unfold cK
  split
  · omega
  · have := h6 (t % nw) (Nat.mod_lt _ (by omega))
    omega
/-- n turns, as many as there are -/
def tnS (N st kd nw : Nat) (wd : Nat → Nat) : Nat → AS → Nat × AS
  | 0, Z => (0, Z)
  | n + 1, Z => if bc (alv Z.2.1) N < 2 then (0, Z) else ((tnS N st kd nw wd n (tS N (cNeg kd Z.1.length) (cK st kd nw wd Z.1.length) Z)).1 + 1, (tnS N st kd nw wd n (tS N (cNeg kd Z.1.length) (cK st kd nw wd Z.1.length) Z)).2)
def bkS : Nat → AS → Nat × AS
  | 0, Z => (0, Z)
  | n + 1, Z => match Z.1 with
    | [] => (0, Z)
    | (q, a) :: t => ((bkS n (bS q a t Z)).1 + 1, (bkS n (bS q a t Z)).2)
/-- floorMod as Math has it -/
def fmI (x y : Int32) : Int32 := if x ^^^ y < 0 ∧ ¬ x - x / y * y = 0 then (x - x / y * y) + y else x - x / y * y
theorem fmI_pos : ∀ a, a < 120 → ∀ c, c < 41 → 0 < c → fmI (nI a) (nI c) = nI (a % c) := by decide +kernel
theorem fmI_neg : ∀ a, a < 120 → ∀ c, c < 41 → 0 < c → fmI (-nI a) (nI c) = nI ((c - a % c) % c) := by decide +kernel
theorem neg_le : ∀ a, a < 120 → -nI a ≤ 0 := by decide +kernel
theorem tS_len (N : Nat) (neg : Bool) (k : Nat) (Z : AS) : (tS N neg k Z).1.length = Z.1.length + 1 := rfl
/-- who went out latest -/
def lo (N : Nat) (Wn : Nat → Nat) (m : Nat) : Nat → Nat → Int32
  | 0, _ => -9
  | k + 1, p => if Wn p = m ∧ 0 < m then nI p else lo N Wn m k (p + 1)
/-- spec of ring, lives, set, words, count, about, told -/
def spRing (n : Int32) (N : Nat) (B : Nat → Nat) (Z : AS) : Int32 × Nat × (Nat → Nat) × AS := if wi n.toInt 1 40 = true then (nI N, n.toInt.toNat, fun _ => 1, ([], fun _ => 1, fun _ => 0, 0)) else (-1, N, B, Z)
def upN (L : Nat → Nat) (p v : Nat) : Nat → Nat := fun q => if q = p then v else L q
def spLives (p v : Int32) (N : Nat) (B : Nat → Nat) (Z : AS) : Int32 × (Nat → Nat) × AS := if (wi p.toInt 0 ((N : Int) - 1) && wi v.toInt 1 5) = true then (if 0 < Z.1.length then (-2, B, Z) else (nI (Z.2.1 p.toInt.toNat), upN B p.toInt.toNat v.toInt.toNat, (Z.1, upN Z.2.1 p.toInt.toNat v.toInt.toNat, Z.2.2.1, Z.2.2.2))) else (-1, B, Z)
def spSet (w v : Int32) (d st kd : Nat) : Int32 × Nat × Nat := if (wi w.toInt 0 1 && wi v.toInt (if w = 0 then 1 else 0) (if w = 0 then 20 else 2)) = true then (if 0 < d then (-2, st, kd) else if w = 0 then (nI st, v.toInt.toNat, kd) else (nI kd, st, v.toInt.toNat)) else (-1, st, kd)
def okW (v : Int32) : Bool := wi v.toInt 1 99
def okWs (n a b c d : Int32) : Bool := wi n.toInt 1 4 && okW a && (decide (n.toInt ≤ 1) || okW b) && (decide (n.toInt ≤ 2) || okW c) && (decide (n.toInt ≤ 3) || okW d)
def w4 (a b c d : Int32) (i : Nat) : Nat := if i = 0 then a.toInt.toNat else if i = 1 then b.toInt.toNat else if i = 2 then c.toInt.toNat else d.toInt.toNat
def spWords (n a b c d : Int32) (tw : Bool) (dn nw : Nat) (wd : Nat → Nat) : Int32 × Nat × (Nat → Nat) := if okWs n a b c d = true then (if 0 < dn then (-2, nw, wd) else if tw = true then (nI (2 * n.toInt.toNat), 2 * n.toInt.toNat, fun i => if i < n.toInt.toNat then w4 a b c d i else w4 a b c d (2 * n.toInt.toNat - 1 - i)) else (nI n.toInt.toNat, n.toInt.toNat, w4 a b c d)) else (-1, nw, wd)
def tollI (kd : Nat) : Int64 := if kd = 0 then 1 else if kd = 1 then 11 else 111
def spCount (t : Int32) (st kd nw : Nat) (wd : Nat → Nat) (tr : Int64) : Int32 × Int64 := if wi t.toInt 0 100000 = true then (cI (cNeg kd t.toInt.toNat) (cK st kd nw wd t.toInt.toNat), tr + tollI kd) else (-1000, tr)
def spTurns (n : Int32) (N st kd nw : Nat) (wd : Nat → Nat) (Z : AS) : Int32 × AS := if wi n.toInt 1 200 = true then (nI (tnS N st kd nw wd n.toInt.toNat Z).1, (tnS N st kd nw wd n.toInt.toNat Z).2) else (-1, Z)
def spBack (n : Int32) (Z : AS) : Int32 × AS := if wi n.toInt 1 200 = true then (nI (bkS n.toInt.toNat Z).1, (bkS n.toInt.toNat Z).2) else (-1, Z)
def spAbout (p w : Int32) (N : Nat) (Z : AS) : Int32 := if (wi p.toInt 0 ((N : Int) - 1) && wi w.toInt 0 1) = true then (if w = 0 then nI (Z.2.1 p.toInt.toNat) else wI (Z.2.2.1 p.toInt.toNat)) else -1
def lcI (Z : AS) : Int32 := match Z.1 with
  | [] => -9
  | (q, _) :: _ => nI q
def spTold (w : Int32) (N : Nat) (Z : AS) : Int32 := if w = 0 then nI Z.2.2.2 else if w = 1 then nI (bc (alv Z.2.1) N) else if w = 2 then nI Z.1.length else if w = 3 then lcI Z else if w = 4 then lo N Z.2.2.1 (N - bc (alv Z.2.1) N) N 0 else -1
