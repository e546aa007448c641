section
-- ===== PART A: goes FIRST, ahead of the names: the tables' words, and 'selects' of the private methods out of them =====
/-- a private method of a class that the tables say can be made, by its rows of tables_1 -/
def lw_okq (q : MethodName × Nat) : Prop := (q.1.cls ≠ "java/lang/invoke/MethodHandle" ∧ q.1.cls ≠ "java/lang/invoke/VarHandle") ∧ Cond.instantiable q.1.cls q.2 ∈ tables_1 ∧ Cond.privateMethod q.1 ∈ tables_1 ∧ Cond.instanceMethod q.1 ∈ tables_1
theorem lw_p0 : lw_okq (⟨"CountedOut$Counts", "wordy", "(I)I"⟩, 4) := ⟨⟨by decide +kernel, by decide +kernel⟩, List.mem_of_getElem? (i := 15) (by decide +kernel), List.mem_of_getElem? (i := 205) (by decide +kernel), List.mem_of_getElem? (i := 206) (by decide +kernel)⟩
theorem lw_p1 : lw_okq (⟨"CountedOut$Counts", "wordOf", "(I)I"⟩, 4) := ⟨⟨by decide +kernel, by decide +kernel⟩, List.mem_of_getElem? (i := 15) (by decide +kernel), List.mem_of_getElem? (i := 209) (by decide +kernel), List.mem_of_getElem? (i := 210) (by decide +kernel)⟩
theorem lw_p2 : lw_okq (⟨"CountedOut$Counts", "turning", "(I)I"⟩, 4) := ⟨⟨by decide +kernel, by decide +kernel⟩, List.mem_of_getElem? (i := 15) (by decide +kernel), List.mem_of_getElem? (i := 213) (by decide +kernel), List.mem_of_getElem? (i := 214) (by decide +kernel)⟩
theorem lw_p3 : lw_okq (⟨"CountedOut$Ring", "countedBy", "(I)I"⟩, 8) := ⟨⟨by decide +kernel, by decide +kernel⟩, List.mem_of_getElem? (i := 36) (by decide +kernel), List.mem_of_getElem? (i := 226) (by decide +kernel), List.mem_of_getElem? (i := 227) (by decide +kernel)⟩
theorem lw_p4 : lw_okq (⟨"CountedOut$Ring", "nextLeft", "(I)I"⟩, 8) := ⟨⟨by decide +kernel, by decide +kernel⟩, List.mem_of_getElem? (i := 36) (by decide +kernel), List.mem_of_getElem? (i := 233) (by decide +kernel), List.mem_of_getElem? (i := 234) (by decide +kernel)⟩
theorem lw_p5 : lw_okq (⟨"CountedOut$Ring", "loseLife", "(I)V"⟩, 8) := ⟨⟨by decide +kernel, by decide +kernel⟩, List.mem_of_getElem? (i := 36) (by decide +kernel), List.mem_of_getElem? (i := 237) (by decide +kernel), List.mem_of_getElem? (i := 238) (by decide +kernel)⟩
theorem lw_p6 : lw_okq (⟨"CountedOutModel", "begins", "(I)V"⟩, 17) := ⟨⟨by decide +kernel, by decide +kernel⟩, List.mem_of_getElem? (i := 294) (by decide +kernel), List.mem_of_getElem? (i := 300) (by decide +kernel), List.mem_of_getElem? (i := 301) (by decide +kernel)⟩
theorem lw_p7 : lw_okq (⟨"CountedOutModel", "isFirst", "(III)Z"⟩, 17) := ⟨⟨by decide +kernel, by decide +kernel⟩, List.mem_of_getElem? (i := 294) (by decide +kernel), List.mem_of_getElem? (i := 390) (by decide +kernel), List.mem_of_getElem? (i := 391) (by decide +kernel)⟩
theorem lw_p8 : lw_okq (⟨"CountedOutModel", "isPerson", "(I)Z"⟩, 17) := ⟨⟨by decide +kernel, by decide +kernel⟩, List.mem_of_getElem? (i := 294) (by decide +kernel), List.mem_of_getElem? (i := 407) (by decide +kernel), List.mem_of_getElem? (i := 408) (by decide +kernel)⟩
theorem lw_p9 : lw_okq (⟨"CountedOutModel", "countOf", "(I)I"⟩, 17) := ⟨⟨by decide +kernel, by decide +kernel⟩, List.mem_of_getElem? (i := 294) (by decide +kernel), List.mem_of_getElem? (i := 432) (by decide +kernel), List.mem_of_getElem? (i := 433) (by decide +kernel)⟩
theorem lw_p10 : lw_okq (⟨"CountedOutModel", "there", "()I"⟩, 17) := ⟨⟨by decide +kernel, by decide +kernel⟩, List.mem_of_getElem? (i := 294) (by decide +kernel), List.mem_of_getElem? (i := 441) (by decide +kernel), List.mem_of_getElem? (i := 442) (by decide +kernel)⟩
theorem lw_p11 : lw_okq (⟨"CountedOutModel", "goesOn", "()V"⟩, 17) := ⟨⟨by decide +kernel, by decide +kernel⟩, List.mem_of_getElem? (i := 294) (by decide +kernel), List.mem_of_getElem? (i := 445) (by decide +kernel), List.mem_of_getElem? (i := 446) (by decide +kernel)⟩
theorem lw_p12 : lw_okq (⟨"CountedOutModel", "next", "(II)I"⟩, 17) := ⟨⟨by decide +kernel, by decide +kernel⟩, List.mem_of_getElem? (i := 294) (by decide +kernel), List.mem_of_getElem? (i := 449) (by decide +kernel), List.mem_of_getElem? (i := 450) (by decide +kernel)⟩
def lw_privs_1 : List (MethodName × Nat) := [(⟨"CountedOut$Counts", "wordy", "(I)I"⟩, 4), (⟨"CountedOut$Counts", "wordOf", "(I)I"⟩, 4), (⟨"CountedOut$Counts", "turning", "(I)I"⟩, 4), (⟨"CountedOut$Ring", "countedBy", "(I)I"⟩, 8), (⟨"CountedOut$Ring", "nextLeft", "(I)I"⟩, 8), (⟨"CountedOut$Ring", "loseLife", "(I)V"⟩, 8), (⟨"CountedOutModel", "begins", "(I)V"⟩, 17), (⟨"CountedOutModel", "isFirst", "(III)Z"⟩, 17), (⟨"CountedOutModel", "isPerson", "(I)Z"⟩, 17), (⟨"CountedOutModel", "countOf", "(I)I"⟩, 17), (⟨"CountedOutModel", "there", "()I"⟩, 17), (⟨"CountedOutModel", "goesOn", "()V"⟩, 17), (⟨"CountedOutModel", "next", "(II)I"⟩, 17)]
theorem lw_r1 : ∀ q ∈ lw_privs_1, lw_okq q := List.forall_mem_cons.mpr ⟨lw_p0, List.forall_mem_cons.mpr ⟨lw_p1, List.forall_mem_cons.mpr ⟨lw_p2, List.forall_mem_cons.mpr ⟨lw_p3, List.forall_mem_cons.mpr ⟨lw_p4, List.forall_mem_cons.mpr ⟨lw_p5, List.forall_mem_cons.mpr ⟨lw_p6, List.forall_mem_cons.mpr ⟨lw_p7, List.forall_mem_cons.mpr ⟨lw_p8, List.forall_mem_cons.mpr ⟨lw_p9, List.forall_mem_cons.mpr ⟨lw_p10, List.forall_mem_cons.mpr ⟨lw_p11, List.forall_mem_cons.mpr ⟨lw_p12, fun _ h => absurd h List.not_mem_nil⟩⟩⟩⟩⟩⟩⟩⟩⟩⟩⟩⟩⟩
def lw_privs : List (MethodName × Nat) := lw_privs_1
def lw_tbl : List Cond := k2_sels lw_privs ++ tables_1
theorem lw_privs_ok : ∀ q ∈ lw_privs, lw_okq q := lw_r1
-- ===== end of PART A; then your names; then what follows =====
end
section
/-! ===== BEGIN words of one list among another's, by their places ===== -/
theorem goodIn_r {big : List Cond} (ws : List Cond) (ps : List Nat) (hp : ws = ps.filterMap (fun i => big[i]?)) (h : ws.all goodWord = true) : GoodIn big ws := by
  intro w hw
  have h1 := List.all_eq_true.mp h w hw
  rw [hp] at hw
  obtain ⟨i, -, hi⟩ := List.mem_filterMap.mp hw
  have hm : w ∈ big := by first | exact List.mem_of_getElem? hi | exact List.getElem?_mem hi
  exact ⟨hm, good_of_word h1⟩
theorem goodIn_app {big a b : List Cond} (ha : GoodIn big a) (hb : GoodIn big b) : GoodIn big (a ++ b) := fun w h => (List.mem_append.mp h).elim (ha w) (hb w)
theorem goodIn_ca {big a b : List Cond} {c : Cond} (ha : GoodIn big (c :: a)) (hb : GoodIn big b) : GoodIn big (c :: (a ++ b)) := fun w h => (List.mem_cons.mp h).elim (fun e => ha w (List.mem_cons.mpr (Or.inl e))) (fun h => (List.mem_append.mp h).elim (fun h => ha w (List.mem_cons.mpr (Or.inr h))) (hb w))
theorem goodIn_sub {big ws : List Cond} (hm : ∀ w ∈ ws, w ∈ big) (h : ws.all goodWord = true) : GoodIn big ws := fun w hw => ⟨hm w hw, good_of_word (List.all_eq_true.mp h w hw)⟩
/-! ===== END ===== -/

/-! ===== BEGIN printed: names, fields, word lists, decode rows ===== -/
def RX0 : String := "CountedOut$Counts"
def TX0 : u_T := fun k => match k with
  | 0 => ("CountedOut$Counts", "wordRow", "[I", true)
  | 1 => ("CountedOut$Counts", "wordCount", "I", false)
  | 2 => ("CountedOut$Counts", "step", "I", false)
  | _ => ("CountedOut$Counts", "kind", "I", false)
def tyX0 : Nat → FieldType := fun k => match k with
  | 0 => .array .int
  | 1 => .int
  | 2 => .int
  | _ => .int
abbrev wsX00 : List Cond := u_ws RX0 TX0 4
theorem nmX0 : ∀ a, a < 4 → ∀ b, b < 4 → a ≠ b → (TX0 a).2.1 ≠ (TX0 b).2.1 := by decide +kernel
theorem tyX0_ok : ∀ k, k < 4 → parseFieldDescriptor (TX0 k).2.2.1 = some (tyX0 k) := by decide +kernel
abbrev cX0_init : ByteArray := prog_2_method_1_code
def yX0_init : MethodName := ⟨RX0, "<init>", "()V"⟩
abbrev cX0_changeStep : ByteArray := prog_2_method_2_code
def yX0_changeStep : MethodName := ⟨RX0, "changeStep", "(I)I"⟩
abbrev cX0_changeKind : ByteArray := prog_2_method_3_code
def yX0_changeKind : MethodName := ⟨RX0, "changeKind", "(I)I"⟩
abbrev cX0_takeWords : ByteArray := prog_2_method_4_code
def yX0_takeWords : MethodName := ⟨RX0, "takeWords", "(IIIII)V"⟩
abbrev cX0_mirrorWords : ByteArray := prog_2_method_5_code
def yX0_mirrorWords : MethodName := ⟨RX0, "mirrorWords", "()V"⟩
abbrev cX0_ofTurn : ByteArray := prog_2_method_6_code
def yX0_ofTurn : MethodName := ⟨RX0, "ofTurn", "(I)I"⟩
abbrev cX0_wordy : ByteArray := prog_2_method_7_code
def yX0_wordy : MethodName := ⟨RX0, "wordy", "(I)I"⟩
abbrev cX0_turning : ByteArray := prog_2_method_8_code
def yX0_turning : MethodName := ⟨RX0, "turning", "(I)I"⟩
abbrev cX0_wordOf : ByteArray := prog_2_method_9_code
def yX0_wordOf : MethodName := ⟨RX0, "wordOf", "(I)I"⟩
abbrev cX0_toll : ByteArray := prog_2_method_10_code
def yX0_toll : MethodName := ⟨RX0, "toll", "()I"⟩
def RX1 : String := "CountedOut$Ring"
def TX1 : u_T := fun k => match k with
  | 0 => ("CountedOut$Ring", "livesLeft", "[I", true)
  | 1 => ("CountedOut$Ring", "wentAs", "[I", true)
  | 2 => ("CountedOut$Ring", "loggedCounted", "[I", true)
  | 3 => ("CountedOut$Ring", "loggedAhead", "[I", true)
  | 4 => ("CountedOut$Ring", "size", "I", false)
  | 5 => ("CountedOut$Ring", "left", "I", false)
  | 6 => ("CountedOut$Ring", "ahead", "I", false)
  | _ => ("CountedOut$Ring", "done", "I", false)
def tyX1 : Nat → FieldType := fun k => match k with
  | 0 => .array .int
  | 1 => .array .int
  | 2 => .array .int
  | 3 => .array .int
  | 4 => .int
  | 5 => .int
  | 6 => .int
  | _ => .int
abbrev wsX10 : List Cond := u_ws RX1 TX1 8
theorem nmX1 : ∀ a, a < 8 → ∀ b, b < 8 → a ≠ b → (TX1 a).2.1 ≠ (TX1 b).2.1 := by decide +kernel
theorem tyX1_ok : ∀ k, k < 8 → parseFieldDescriptor (TX1 k).2.2.1 = some (tyX1 k) := by decide +kernel
abbrev cX1_init : ByteArray := prog_3_method_1_code
def yX1_init : MethodName := ⟨RX1, "<init>", "()V"⟩
abbrev cX1_begin : ByteArray := prog_3_method_2_code
def yX1_begin : MethodName := ⟨RX1, "begin", "(I)V"⟩
abbrev cX1_has : ByteArray := prog_3_method_3_code
def yX1_has : MethodName := ⟨RX1, "has", "(I)Z"⟩
abbrev cX1_hasBegun : ByteArray := prog_3_method_4_code
def yX1_hasBegun : MethodName := ⟨RX1, "hasBegun", "()Z"⟩
abbrev cX1_giveLives : ByteArray := prog_3_method_5_code
def yX1_giveLives : MethodName := ⟨RX1, "giveLives", "(II)I"⟩
abbrev cX1_takeTurn : ByteArray := prog_3_method_6_code
def yX1_takeTurn : MethodName := ⟨RX1, "takeTurn", "(I)Z"⟩
abbrev cX1_countedBy : ByteArray := prog_3_method_7_code
def yX1_countedBy : MethodName := ⟨RX1, "countedBy", "(I)I"⟩
abbrev cX1_loseLife : ByteArray := prog_3_method_8_code
def yX1_loseLife : MethodName := ⟨RX1, "loseLife", "(I)V"⟩
abbrev cX1_nextLeft : ByteArray := prog_3_method_9_code
def yX1_nextLeft : MethodName := ⟨RX1, "nextLeft", "(I)I"⟩
abbrev cX1_takeBack : ByteArray := prog_3_method_10_code
def yX1_takeBack : MethodName := ⟨RX1, "takeBack", "()Z"⟩
abbrev cX1_latestCounted : ByteArray := prog_3_method_11_code
def yX1_latestCounted : MethodName := ⟨RX1, "latestCounted", "()I"⟩
abbrev cX1_latestOut : ByteArray := prog_3_method_12_code
def yX1_latestOut : MethodName := ⟨RX1, "latestOut", "()I"⟩
def RX2 : String := "CountedOut"
def TX2 : u_T := fun k => match k with
  | 0 => ("CountedOut", "counts", "LCountedOut$Counts;", true)
  | 1 => ("CountedOut", "people", "LCountedOut$Ring;", true)
  | _ => ("CountedOut", "traced", "J", false)
def tyX2 : Nat → FieldType := fun k => match k with
  | 0 => .object "CountedOut$Counts"
  | 1 => .object "CountedOut$Ring"
  | _ => .long
abbrev wsX20 : List Cond := u_ws RX2 TX2 3
theorem nmX2 : ∀ a, a < 3 → ∀ b, b < 3 → a ≠ b → (TX2 a).2.1 ≠ (TX2 b).2.1 := by decide +kernel
theorem tyX2_ok : ∀ k, k < 3 → parseFieldDescriptor (TX2 k).2.2.1 = some (tyX2 k) := by decide +kernel
abbrev cX2_init : ByteArray := prog_1_method_1_code
def yX2_init : MethodName := ⟨RX2, "<init>", "()V"⟩
abbrev cX2_goes : ByteArray := prog_1_method_2_code
def yX2_goes : MethodName := ⟨RX2, "goes", "(JIJ)J"⟩
abbrev cX2_turn : ByteArray := prog_1_method_3_code
def yX2_turn : MethodName := ⟨RX2, "turn", "(JIJ)J"⟩
abbrev cX2_last : ByteArray := prog_1_method_4_code
def yX2_last : MethodName := ⟨RX2, "last", "(JI)J"⟩
abbrev cX2_first : ByteArray := prog_1_method_5_code
def yX2_first : MethodName := ⟨RX2, "first", "(III)I"⟩
abbrev cX2_least : ByteArray := prog_1_method_6_code
def yX2_least : MethodName := ⟨RX2, "least", "(II)I"⟩
abbrev cX2_ring : ByteArray := prog_1_method_7_code
def yX2_ring : MethodName := ⟨RX2, "ring", "(I)I"⟩
abbrev cX2_lives : ByteArray := prog_1_method_8_code
def yX2_lives : MethodName := ⟨RX2, "lives", "(II)I"⟩
abbrev cX2_set : ByteArray := prog_1_method_9_code
def yX2_set : MethodName := ⟨RX2, "set", "(II)I"⟩
abbrev cX2_words : ByteArray := prog_1_method_10_code
def yX2_words : MethodName := ⟨RX2, "words", "(IIIIIZ)I"⟩
abbrev cX2_count : ByteArray := prog_1_method_11_code
def yX2_count : MethodName := ⟨RX2, "count", "(I)I"⟩
abbrev cX2_turns : ByteArray := prog_1_method_12_code
def yX2_turns : MethodName := ⟨RX2, "turns", "(I)I"⟩
abbrev cX2_back : ByteArray := prog_1_method_13_code
def yX2_back : MethodName := ⟨RX2, "back", "(I)I"⟩
abbrev cX2_about : ByteArray := prog_1_method_14_code
def yX2_about : MethodName := ⟨RX2, "about", "(II)I"⟩
abbrev cX2_told : ByteArray := prog_1_method_15_code
def yX2_told : MethodName := ⟨RX2, "told", "(I)I"⟩
abbrev cX2_may : ByteArray := prog_1_method_16_code
def yX2_may : MethodName := ⟨RX2, "may", "(II)I"⟩
abbrev cX2_can : ByteArray := prog_1_method_17_code
def yX2_can : MethodName := ⟨RX2, "can", "(III)I"⟩
abbrev cX2_trace : ByteArray := prog_1_method_18_code
def yX2_trace : MethodName := ⟨RX2, "trace", "()J"⟩
abbrev cX2_isWithin : ByteArray := prog_1_method_19_code
def yX2_isWithin : MethodName := ⟨RX2, "isWithin", "(JJJ)Z"⟩
abbrev cX2_isGreatRing : ByteArray := prog_1_method_20_code
def yX2_isGreatRing : MethodName := ⟨RX2, "isGreatRing", "(JI)Z"⟩
abbrev cX2_isHeap : ByteArray := prog_1_method_21_code
def yX2_isHeap : MethodName := ⟨RX2, "isHeap", "(II)Z"⟩
abbrev cX2_isWord : ByteArray := prog_1_method_22_code
def yX2_isWord : MethodName := ⟨RX2, "isWord", "(I)Z"⟩
abbrev cX2_isChosenSet : ByteArray := prog_1_method_23_code
def yX2_isChosenSet : MethodName := ⟨RX2, "isChosenSet", "(I)Z"⟩
abbrev cX2_placeOfGoing : ByteArray := prog_1_method_24_code
def yX2_placeOfGoing : MethodName := ⟨RX2, "placeOfGoing", "(JIJ)J"⟩
abbrev cX2_goingOfPlace : ByteArray := prog_1_method_25_code
def yX2_goingOfPlace : MethodName := ⟨RX2, "goingOfPlace", "(JIJ)J"⟩
abbrev cX2_goesFirst : ByteArray := prog_1_method_26_code
def yX2_goesFirst : MethodName := ⟨RX2, "goesFirst", "(III)Z"⟩
abbrev cX2_withoutBit : ByteArray := prog_1_method_27_code
def yX2_withoutBit : MethodName := ⟨RX2, "withoutBit", "(II)I"⟩
abbrev cX2_stayingBySome : ByteArray := prog_1_method_28_code
def yX2_stayingBySome : MethodName := ⟨RX2, "stayingBySome", "(III)I"⟩
abbrev cX2_stayingByAll : ByteArray := prog_1_method_29_code
def yX2_stayingByAll : MethodName := ⟨RX2, "stayingByAll", "(III)I"⟩
abbrev cX2_isChosen : ByteArray := prog_1_method_30_code
def yX2_isChosen : MethodName := ⟨RX2, "isChosen", "(II)Z"⟩
abbrev cX2_stayingBehind : ByteArray := prog_1_method_31_code
def yX2_stayingBehind : MethodName := ⟨RX2, "stayingBehind", "(III)I"⟩
def RX3 : String := "CountedOutModel"
def TX3 : u_T := fun k => match k with
  | 0 => ("CountedOutModel", "thrown", "I", false)
  | 1 => ("CountedOutModel", "trace", "J", false)
  | 2 => ("CountedOutModel", "people", "I", false)
  | 3 => ("CountedOutModel", "lives", "[I", true)
  | 4 => ("CountedOutModel", "left", "[I", true)
  | 5 => ("CountedOutModel", "wentAs", "[I", true)
  | 6 => ("CountedOutModel", "step", "I", false)
  | 7 => ("CountedOutModel", "kind", "I", false)
  | 8 => ("CountedOutModel", "words", "I", false)
  | 9 => ("CountedOutModel", "word", "[I", true)
  | 10 => ("CountedOutModel", "turns", "I", false)
  | 11 => ("CountedOutModel", "counted", "[I", true)
  | 12 => ("CountedOutModel", "stood", "[I", true)
  | 13 => ("CountedOutModel", "stands", "I", false)
  | 14 => ("CountedOutModel", "ring", "[I", true)
  | 15 => ("CountedOutModel", "mine", "[I", true)
  | _ => ("CountedOutModel", "foes", "[I", true)
def tyX3 : Nat → FieldType := fun k => match k with
  | 0 => .int
  | 1 => .long
  | 2 => .int
  | 3 => .array .int
  | 4 => .array .int
  | 5 => .array .int
  | 6 => .int
  | 7 => .int
  | 8 => .int
  | 9 => .array .int
  | 10 => .int
  | 11 => .array .int
  | 12 => .array .int
  | 13 => .int
  | 14 => .array .int
  | 15 => .array .int
  | _ => .array .int
abbrev wsX30 : List Cond := u_ws RX3 TX3 17
theorem nmX3 : ∀ a, a < 17 → ∀ b, b < 17 → a ≠ b → (TX3 a).2.1 ≠ (TX3 b).2.1 := by decide +kernel
theorem tyX3_ok : ∀ k, k < 17 → parseFieldDescriptor (TX3 k).2.2.1 = some (tyX3 k) := by decide +kernel
abbrev cX3_init : ByteArray := prog_5_method_1_code
def yX3_init : MethodName := ⟨RX3, "<init>", "()V"⟩
abbrev cX3_in : ByteArray := prog_5_method_3_code
def yX3_in : MethodName := ⟨RX3, "in", "(JJJ)Z"⟩
abbrev cX3_isGreat : ByteArray := prog_5_method_4_code
def yX3_isGreat : MethodName := ⟨RX3, "isGreat", "(JI)Z"⟩
abbrev cX3_goesOf : ByteArray := prog_5_method_5_code
def yX3_goesOf : MethodName := ⟨RX3, "goesOf", "(JIJ)J"⟩
abbrev cX3_goes : ByteArray := prog_5_method_6_code
def yX3_goes : MethodName := ⟨RX3, "goes", "(JIJ)J"⟩
abbrev cX3_turn : ByteArray := prog_5_method_7_code
def yX3_turn : MethodName := ⟨RX3, "turn", "(JIJ)J"⟩
abbrev cX3_last : ByteArray := prog_5_method_8_code
def yX3_last : MethodName := ⟨RX3, "last", "(JI)J"⟩
abbrev cX3_isHeap : ByteArray := prog_5_method_9_code
def yX3_isHeap : MethodName := ⟨RX3, "isHeap", "(II)Z"⟩
abbrev cX3_isFirst : ByteArray := prog_5_method_10_code
def yX3_isFirst : MethodName := ⟨RX3, "isFirst", "(III)Z"⟩
abbrev cX3_first : ByteArray := prog_5_method_11_code
def yX3_first : MethodName := ⟨RX3, "first", "(III)I"⟩
abbrev cX3_least : ByteArray := prog_5_method_12_code
def yX3_least : MethodName := ⟨RX3, "least", "(II)I"⟩
abbrev cX3_begins : ByteArray := prog_5_method_13_code
def yX3_begins : MethodName := ⟨RX3, "begins", "(I)V"⟩
abbrev cX3_ring : ByteArray := prog_5_method_14_code
def yX3_ring : MethodName := ⟨RX3, "ring", "(I)I"⟩
abbrev cX3_isPerson : ByteArray := prog_5_method_15_code
def yX3_isPerson : MethodName := ⟨RX3, "isPerson", "(I)Z"⟩
abbrev cX3_lives : ByteArray := prog_5_method_16_code
def yX3_lives : MethodName := ⟨RX3, "lives", "(II)I"⟩
abbrev cX3_set : ByteArray := prog_5_method_17_code
def yX3_set : MethodName := ⟨RX3, "set", "(II)I"⟩
abbrev cX3_isWord : ByteArray := prog_5_method_18_code
def yX3_isWord : MethodName := ⟨RX3, "isWord", "(I)Z"⟩
abbrev cX3_words : ByteArray := prog_5_method_19_code
def yX3_words : MethodName := ⟨RX3, "words", "(IIIIIZ)I"⟩
abbrev cX3_countOf : ByteArray := prog_5_method_20_code
def yX3_countOf : MethodName := ⟨RX3, "countOf", "(I)I"⟩
abbrev cX3_count : ByteArray := prog_5_method_21_code
def yX3_count : MethodName := ⟨RX3, "count", "(I)I"⟩
abbrev cX3_there : ByteArray := prog_5_method_22_code
def yX3_there : MethodName := ⟨RX3, "there", "()I"⟩
abbrev cX3_next : ByteArray := prog_5_method_23_code
def yX3_next : MethodName := ⟨RX3, "next", "(II)I"⟩
abbrev cX3_goesOn : ByteArray := prog_5_method_24_code
def yX3_goesOn : MethodName := ⟨RX3, "goesOn", "()V"⟩
abbrev cX3_turns : ByteArray := prog_5_method_25_code
def yX3_turns : MethodName := ⟨RX3, "turns", "(I)I"⟩
abbrev cX3_back : ByteArray := prog_5_method_26_code
def yX3_back : MethodName := ⟨RX3, "back", "(I)I"⟩
abbrev cX3_about : ByteArray := prog_5_method_27_code
def yX3_about : MethodName := ⟨RX3, "about", "(II)I"⟩
abbrev cX3_told : ByteArray := prog_5_method_28_code
def yX3_told : MethodName := ⟨RX3, "told", "(I)I"⟩
abbrev cX3_isSet : ByteArray := prog_5_method_29_code
def yX3_isSet : MethodName := ⟨RX3, "isSet", "(I)Z"⟩
abbrev cX3_may : ByteArray := prog_5_method_30_code
def yX3_may : MethodName := ⟨RX3, "may", "(II)I"⟩
abbrev cX3_can : ByteArray := prog_5_method_31_code
def yX3_can : MethodName := ⟨RX3, "can", "(III)I"⟩
abbrev cX3_trace : ByteArray := prog_5_method_32_code
def yX3_trace : MethodName := ⟨RX3, "trace", "()J"⟩
def RJ9 : String := "java/lang/Math"
def TJ9 : u_T := fun k => match k with
  | _ => ("", "", "", false)
def tyJ9 : Nat → FieldType := fun k => match k with
  | _ => .int
abbrev wsJ90 : List Cond := u_ws RJ9 TJ9 0
theorem nmJ9 : ∀ a, a < 0 → ∀ b, b < 0 → a ≠ b → (TJ9 a).2.1 ≠ (TJ9 b).2.1 := by decide +kernel
theorem tyJ9_ok : ∀ k, k < 0 → parseFieldDescriptor (TJ9 k).2.2.1 = some (tyJ9 k) := by decide +kernel
abbrev cJ9_floorMod_7cf53 : ByteArray := prog_6_method_50_code
def yJ9_floorMod_7cf53 : MethodName := ⟨RJ9, "floorMod", "(II)I"⟩
abbrev cJ9_min_7cf53 : ByteArray := prog_6_method_69_code
def yJ9_min_7cf53 : MethodName := ⟨RJ9, "min", "(II)I"⟩
def RL : String := "CountedOutLaw"
abbrev cL_law : ByteArray := code
def yL_law : MethodName := ⟨RL, "law", "([I)Z"⟩
def wsX0_init : List Cond := .code yX0_init cX0_init 1 none :: ([.methodLink RX0 3 objectInit, .instanceMethod objectInit, .code objectInit ⟨#[0xb1]⟩ 1 none, .arrayClass .int, .fieldLink RX0 9 "CountedOut$Counts" "wordRow" "[I", .fieldLink RX0 15 "CountedOut$Counts" "wordCount" "I", .fieldLink RX0 19 "CountedOut$Counts" "step" "I", .fieldLink RX0 22 "CountedOut$Counts" "kind" "I"] ++ wsX00)
def wsX0_changeStep : List Cond := .code yX0_changeStep cX0_changeStep 3 (some .int) :: ([.fieldLink RX0 19 "CountedOut$Counts" "step" "I"] ++ wsX00)
def wsX0_changeKind : List Cond := .code yX0_changeKind cX0_changeKind 3 (some .int) :: ([.fieldLink RX0 22 "CountedOut$Counts" "kind" "I"] ++ wsX00)
def wsX0_takeWords : List Cond := .code yX0_takeWords cX0_takeWords 6 none :: ([.fieldLink RX0 9 "CountedOut$Counts" "wordRow" "[I", .fieldLink RX0 15 "CountedOut$Counts" "wordCount" "I"] ++ wsX00)
def wsX0_mirrorWords : List Cond := .code yX0_mirrorWords cX0_mirrorWords 2 none :: ([.fieldLink RX0 15 "CountedOut$Counts" "wordCount" "I", .fieldLink RX0 9 "CountedOut$Counts" "wordRow" "[I"] ++ wsX00)
def wsX0_wordOf : List Cond := .code yX0_wordOf cX0_wordOf 2 (some .int) :: ([.fieldLink RX0 15 "CountedOut$Counts" "wordCount" "I", .fieldLink RX0 9 "CountedOut$Counts" "wordRow" "[I"] ++ wsX00)
def wsX0_wordy : List Cond := .code yX0_wordy cX0_wordy 2 (some .int) :: ([.fieldLink RX0 19 "CountedOut$Counts" "step" "I", .methodLink RX0 32 yX0_wordOf, .instanceMethod yX0_wordOf, .selects RX0 yX0_wordOf yX0_wordOf, .initialized RX0, .code yX0_wordOf cX0_wordOf 2 (some .int), .fieldLink RX0 15 "CountedOut$Counts" "wordCount" "I", .fieldLink RX0 9 "CountedOut$Counts" "wordRow" "[I"] ++ wsX00)
def wsX0_turning : List Cond := .code yX0_turning cX0_turning 2 (some .int) :: ([.methodLink RX0 25 yX0_wordy, .instanceMethod yX0_wordy, .selects RX0 yX0_wordy yX0_wordy, .initialized RX0, .code yX0_wordy cX0_wordy 2 (some .int), .fieldLink RX0 19 "CountedOut$Counts" "step" "I", .methodLink RX0 32 yX0_wordOf, .instanceMethod yX0_wordOf, .selects RX0 yX0_wordOf yX0_wordOf, .code yX0_wordOf cX0_wordOf 2 (some .int), .fieldLink RX0 15 "CountedOut$Counts" "wordCount" "I", .fieldLink RX0 9 "CountedOut$Counts" "wordRow" "[I"] ++ wsX00)
def wsX0_ofTurn : List Cond := .code yX0_ofTurn cX0_ofTurn 2 (some .int) :: ([.fieldLink RX0 22 "CountedOut$Counts" "kind" "I", .fieldLink RX0 19 "CountedOut$Counts" "step" "I", .methodLink RX0 25 yX0_wordy, .instanceMethod yX0_wordy, .selects RX0 yX0_wordy yX0_wordy, .initialized RX0, .code yX0_wordy cX0_wordy 2 (some .int), .methodLink RX0 32 yX0_wordOf, .instanceMethod yX0_wordOf, .selects RX0 yX0_wordOf yX0_wordOf, .code yX0_wordOf cX0_wordOf 2 (some .int), .fieldLink RX0 15 "CountedOut$Counts" "wordCount" "I", .fieldLink RX0 9 "CountedOut$Counts" "wordRow" "[I", .methodLink RX0 29 yX0_turning, .instanceMethod yX0_turning, .selects RX0 yX0_turning yX0_turning, .code yX0_turning cX0_turning 2 (some .int)] ++ wsX00)
def wsX0_toll : List Cond := .code yX0_toll cX0_toll 1 (some .int) :: ([.fieldLink RX0 22 "CountedOut$Counts" "kind" "I", .fieldLink RX0 35 "CountedOut$Counts" "TOLLS" "[I"] ++ wsX00)
def wsX1_begin : List Cond := .code yX1_begin cX1_begin 3 none :: ([.methodLink RX1 28 Lib.Math.min.name, .static Lib.Math.min.name, .initialized "java/lang/Math", .code Lib.Math.min.name Lib.Math.min.code 2 (some .int), .fieldLink RX1 34 "CountedOut$Ring" "size" "I", .fieldLink RX1 38 "CountedOut$Ring" "left" "I", .fieldLink RX1 41 "CountedOut$Ring" "ahead" "I", .fieldLink RX1 44 "CountedOut$Ring" "done" "I", .fieldLink RX1 9 "CountedOut$Ring" "livesLeft" "[I", .fieldLink RX1 15 "CountedOut$Ring" "wentAs" "[I"] ++ wsX10)
def wsX1_init : List Cond := .code yX1_init cX1_init 1 none :: ([.methodLink RX1 3 objectInit, .instanceMethod objectInit, .code objectInit ⟨#[0xb1]⟩ 1 none, .arrayClass .int, .fieldLink RX1 9 "CountedOut$Ring" "livesLeft" "[I", .fieldLink RX1 15 "CountedOut$Ring" "wentAs" "[I", .fieldLink RX1 18 "CountedOut$Ring" "loggedCounted" "[I", .fieldLink RX1 21 "CountedOut$Ring" "loggedAhead" "[I", .methodLink RX1 24 yX1_begin, .instanceMethod yX1_begin, .selects RX1 yX1_begin yX1_begin, .initialized RX1, .code yX1_begin cX1_begin 3 none, .methodLink RX1 28 Lib.Math.min.name, .static Lib.Math.min.name, .initialized "java/lang/Math", .code Lib.Math.min.name Lib.Math.min.code 2 (some .int), .fieldLink RX1 34 "CountedOut$Ring" "size" "I", .fieldLink RX1 38 "CountedOut$Ring" "left" "I", .fieldLink RX1 41 "CountedOut$Ring" "ahead" "I", .fieldLink RX1 44 "CountedOut$Ring" "done" "I"] ++ wsX10)
def wsX1_has : List Cond := .code yX1_has cX1_has 2 (some .boolean) :: ([.fieldLink RX1 34 "CountedOut$Ring" "size" "I"] ++ wsX10)
def wsX1_hasBegun : List Cond := .code yX1_hasBegun cX1_hasBegun 1 (some .boolean) :: ([.fieldLink RX1 44 "CountedOut$Ring" "done" "I"] ++ wsX10)
def wsX1_giveLives : List Cond := .code yX1_giveLives cX1_giveLives 4 (some .int) :: ([.fieldLink RX1 9 "CountedOut$Ring" "livesLeft" "[I"] ++ wsX10)
def wsJ9_floorMod_7cf53 : List Cond := .code yJ9_floorMod_7cf53 cJ9_floorMod_7cf53 3 (some .int) :: ([])
def wsX1_nextLeft : List Cond := .code yX1_nextLeft cX1_nextLeft 4 (some .int) :: ([.fieldLink RX1 34 "CountedOut$Ring" "size" "I", .fieldLink RX1 9 "CountedOut$Ring" "livesLeft" "[I"] ++ wsX10)
def wsX1_countedBy : List Cond := .code yX1_countedBy cX1_countedBy 5 (some .int) :: ([.fieldLink RX1 38 "CountedOut$Ring" "left" "I", .fieldLink RX1 41 "CountedOut$Ring" "ahead" "I", .methodLink RX1 57 yJ9_floorMod_7cf53, .static yJ9_floorMod_7cf53, .initialized RJ9, .code yJ9_floorMod_7cf53 cJ9_floorMod_7cf53 3 (some .int), .methodLink RX1 54 yX1_nextLeft, .instanceMethod yX1_nextLeft, .selects RX1 yX1_nextLeft yX1_nextLeft, .initialized RX1, .code yX1_nextLeft cX1_nextLeft 4 (some .int), .fieldLink RX1 34 "CountedOut$Ring" "size" "I", .fieldLink RX1 9 "CountedOut$Ring" "livesLeft" "[I"] ++ wsX10)
def wsX1_loseLife : List Cond := .code yX1_loseLife cX1_loseLife 2 none :: ([.fieldLink RX1 9 "CountedOut$Ring" "livesLeft" "[I", .fieldLink RX1 38 "CountedOut$Ring" "left" "I", .fieldLink RX1 15 "CountedOut$Ring" "wentAs" "[I", .fieldLink RX1 34 "CountedOut$Ring" "size" "I"] ++ wsX10)
def wsX1_takeTurn_r1 : List Cond := [Cond.fieldLink RX1 38 "CountedOut$Ring" "left" "I", Cond.fieldLink RX1 44 "CountedOut$Ring" "done" "I", Cond.fieldLink RX1 18 "CountedOut$Ring" "loggedCounted" "[I", Cond.fieldLink RX1 21 "CountedOut$Ring" "loggedAhead" "[I", Cond.fieldLink RX1 41 "CountedOut$Ring" "ahead" "I", Cond.methodLink RX1 47 yX1_countedBy, Cond.instanceMethod yX1_countedBy, Cond.selects RX1 yX1_countedBy yX1_countedBy, Cond.initialized RX1, Cond.code yX1_countedBy cX1_countedBy 5 (some .int), Cond.methodLink RX1 57 yJ9_floorMod_7cf53, Cond.static yJ9_floorMod_7cf53, Cond.initialized RJ9, Cond.code yJ9_floorMod_7cf53 cJ9_floorMod_7cf53 3 (some .int), Cond.methodLink RX1 54 yX1_nextLeft, Cond.instanceMethod yX1_nextLeft, Cond.selects RX1 yX1_nextLeft yX1_nextLeft, Cond.code yX1_nextLeft cX1_nextLeft 4 (some .int), Cond.fieldLink RX1 34 "CountedOut$Ring" "size" "I", Cond.fieldLink RX1 9 "CountedOut$Ring" "livesLeft" "[I", Cond.methodLink RX1 51 yX1_loseLife, Cond.instanceMethod yX1_loseLife, Cond.selects RX1 yX1_loseLife yX1_loseLife, Cond.code yX1_loseLife cX1_loseLife 2 none]
def wsX1_takeTurn_r2 : List Cond := [Cond.fieldLink RX1 15 "CountedOut$Ring" "wentAs" "[I"]
def wsX1_takeTurn : List Cond := .code yX1_takeTurn cX1_takeTurn 3 (some .boolean) :: ((wsX1_takeTurn_r1 ++ wsX1_takeTurn_r2) ++ wsX10)
def wsX1_takeBack : List Cond := .code yX1_takeBack cX1_takeBack 2 (some .boolean) :: ([.fieldLink RX1 44 "CountedOut$Ring" "done" "I", .fieldLink RX1 18 "CountedOut$Ring" "loggedCounted" "[I", .fieldLink RX1 9 "CountedOut$Ring" "livesLeft" "[I", .fieldLink RX1 38 "CountedOut$Ring" "left" "I", .fieldLink RX1 15 "CountedOut$Ring" "wentAs" "[I", .fieldLink RX1 21 "CountedOut$Ring" "loggedAhead" "[I", .fieldLink RX1 41 "CountedOut$Ring" "ahead" "I"] ++ wsX10)
def wsX1_latestCounted : List Cond := .code yX1_latestCounted cX1_latestCounted 1 (some .int) :: ([.fieldLink RX1 44 "CountedOut$Ring" "done" "I", .fieldLink RX1 18 "CountedOut$Ring" "loggedCounted" "[I"] ++ wsX10)
def wsX1_latestOut : List Cond := .code yX1_latestOut cX1_latestOut 2 (some .int) :: ([.fieldLink RX1 34 "CountedOut$Ring" "size" "I", .fieldLink RX1 15 "CountedOut$Ring" "wentAs" "[I", .fieldLink RX1 38 "CountedOut$Ring" "left" "I"] ++ wsX10)
def wsX2_init_r1 : List Cond := [Cond.methodLink RX2 3 objectInit, Cond.instanceMethod objectInit, Cond.code objectInit ⟨#[0xb1]⟩ 1 none, Cond.classLink RX2 9 RX0, Cond.instantiable RX0 4, Cond.initialized RX0, Cond.fieldLink RX2 12 "CountedOut" "counts" "LCountedOut$Counts;", Cond.classLink RX2 16 RX1, Cond.instantiable RX1 8, Cond.initialized RX1, Cond.fieldLink RX2 19 "CountedOut" "people" "LCountedOut$Ring;", Cond.fieldLink RX2 23 "CountedOut" "traced" "J", Cond.methodLink RX2 11 yX0_init, Cond.instanceMethod yX0_init, Cond.code yX0_init cX0_init 1 none, Cond.methodLink RX0 3 objectInit, Cond.arrayClass .int, Cond.fieldLink RX0 9 "CountedOut$Counts" "wordRow" "[I", Cond.fieldLink RX0 15 "CountedOut$Counts" "wordCount" "I", Cond.fieldLink RX0 19 "CountedOut$Counts" "step" "I", Cond.fieldLink RX0 22 "CountedOut$Counts" "kind" "I", Cond.methodLink RX2 18 yX1_init, Cond.instanceMethod yX1_init, Cond.code yX1_init cX1_init 1 none]
def wsX2_init_r2 : List Cond := [Cond.methodLink RX1 3 objectInit, Cond.fieldLink RX1 9 "CountedOut$Ring" "livesLeft" "[I", Cond.fieldLink RX1 15 "CountedOut$Ring" "wentAs" "[I", Cond.fieldLink RX1 18 "CountedOut$Ring" "loggedCounted" "[I", Cond.fieldLink RX1 21 "CountedOut$Ring" "loggedAhead" "[I", Cond.methodLink RX1 24 yX1_begin, Cond.instanceMethod yX1_begin, Cond.selects RX1 yX1_begin yX1_begin, Cond.code yX1_begin cX1_begin 3 none, Cond.methodLink RX1 28 Lib.Math.min.name, Cond.static Lib.Math.min.name, Cond.initialized "java/lang/Math", Cond.code Lib.Math.min.name Lib.Math.min.code 2 (some .int), Cond.fieldLink RX1 34 "CountedOut$Ring" "size" "I", Cond.fieldLink RX1 38 "CountedOut$Ring" "left" "I", Cond.fieldLink RX1 41 "CountedOut$Ring" "ahead" "I", Cond.fieldLink RX1 44 "CountedOut$Ring" "done" "I"]
def wsX2_init : List Cond := .code yX2_init cX2_init 1 none :: ((wsX2_init_r1 ++ wsX2_init_r2) ++ wsX00 ++ wsX20 ++ wsX10)
def wsX2_isWithin : List Cond := .code yX2_isWithin cX2_isWithin 6 (some .boolean) :: ([])
def wsX2_isGreatRing : List Cond := .code yX2_isGreatRing cX2_isGreatRing 3 (some .boolean) :: ([.constantLong RX2 155 (1000000000000), .constantLong RX2 157 (1000), .methodLink RX2 31 yX2_isWithin, .static yX2_isWithin, .initialized RX2, .code yX2_isWithin cX2_isWithin 6 (some .boolean)])
def wsX2_placeOfGoing : List Cond := .code yX2_placeOfGoing cX2_placeOfGoing 8 (some .long) :: ([.constant RX2 163 (1000000)])
def wsX2_goes : List Cond := .code yX2_goes cX2_goes 6 (some .long) :: ([.constantLong RX2 35 (-1), .methodLink RX2 27 yX2_isGreatRing, .static yX2_isGreatRing, .initialized RX2, .code yX2_isGreatRing cX2_isGreatRing 3 (some .boolean), .constantLong RX2 155 (1000000000000), .constantLong RX2 157 (1000), .methodLink RX2 31 yX2_isWithin, .static yX2_isWithin, .code yX2_isWithin cX2_isWithin 6 (some .boolean), .methodLink RX2 37 yX2_placeOfGoing, .static yX2_placeOfGoing, .code yX2_placeOfGoing cX2_placeOfGoing 8 (some .long), .constant RX2 163 (1000000)])
def wsX2_goingOfPlace : List Cond := .code yX2_goingOfPlace cX2_goingOfPlace 8 (some .long) :: ([.constant RX2 163 (1000000)])
def wsX2_turn : List Cond := .code yX2_turn cX2_turn 6 (some .long) :: ([.constantLong RX2 35 (-1), .methodLink RX2 27 yX2_isGreatRing, .static yX2_isGreatRing, .initialized RX2, .code yX2_isGreatRing cX2_isGreatRing 3 (some .boolean), .constantLong RX2 155 (1000000000000), .constantLong RX2 157 (1000), .methodLink RX2 31 yX2_isWithin, .static yX2_isWithin, .code yX2_isWithin cX2_isWithin 6 (some .boolean), .methodLink RX2 41 yX2_goingOfPlace, .static yX2_goingOfPlace, .code yX2_goingOfPlace cX2_goingOfPlace 8 (some .long), .constant RX2 163 (1000000)])
def wsX2_last : List Cond := .code yX2_last cX2_last 4 (some .long) :: ([.constantLong RX2 35 (-1), .methodLink RX2 27 yX2_isGreatRing, .static yX2_isGreatRing, .initialized RX2, .code yX2_isGreatRing cX2_isGreatRing 3 (some .boolean), .constantLong RX2 155 (1000000000000), .constantLong RX2 157 (1000), .methodLink RX2 31 yX2_isWithin, .static yX2_isWithin, .code yX2_isWithin cX2_isWithin 6 (some .boolean), .methodLink RX2 37 yX2_placeOfGoing, .static yX2_placeOfGoing, .code yX2_placeOfGoing cX2_placeOfGoing 8 (some .long), .constant RX2 163 (1000000)])
def wsX2_isHeap : List Cond := .code yX2_isHeap cX2_isHeap 2 (some .boolean) :: ([.constantLong RX2 80 (2), .constantLong RX2 78 (20), .methodLink RX2 31 yX2_isWithin, .static yX2_isWithin, .initialized RX2, .code yX2_isWithin cX2_isWithin 6 (some .boolean)])
def wsX2_withoutBit : List Cond := .code yX2_withoutBit cX2_withoutBit 3 (some .int) :: ([])
def wsX2_goesFirst : List Cond := .code yX2_goesFirst cX2_goesFirst 6 (some .boolean) :: ([.methodLink RX2 164 yX2_withoutBit, .static yX2_withoutBit, .initialized RX2, .code yX2_withoutBit cX2_withoutBit 3 (some .int)])
def wsX2_first : List Cond := .code yX2_first cX2_first 4 (some .int) :: ([.constantLong RX2 48 (10000), .methodLink RX2 44 yX2_isHeap, .static yX2_isHeap, .initialized RX2, .code yX2_isHeap cX2_isHeap 2 (some .boolean), .constantLong RX2 80 (2), .constantLong RX2 78 (20), .methodLink RX2 31 yX2_isWithin, .static yX2_isWithin, .code yX2_isWithin cX2_isWithin 6 (some .boolean), .methodLink RX2 50 yX2_goesFirst, .static yX2_goesFirst, .code yX2_goesFirst cX2_goesFirst 6 (some .boolean), .methodLink RX2 164 yX2_withoutBit, .static yX2_withoutBit, .code yX2_withoutBit cX2_withoutBit 3 (some .int)])
def wsX2_least : List Cond := .code yX2_least cX2_least 4 (some .int) :: ([.methodLink RX2 44 yX2_isHeap, .static yX2_isHeap, .initialized RX2, .code yX2_isHeap cX2_isHeap 2 (some .boolean), .constantLong RX2 80 (2), .constantLong RX2 78 (20), .methodLink RX2 31 yX2_isWithin, .static yX2_isWithin, .code yX2_isWithin cX2_isWithin 6 (some .boolean), .methodLink RX2 50 yX2_goesFirst, .static yX2_goesFirst, .code yX2_goesFirst cX2_goesFirst 6 (some .boolean), .methodLink RX2 164 yX2_withoutBit, .static yX2_withoutBit, .code yX2_withoutBit cX2_withoutBit 3 (some .int)])
def wsX2_ring : List Cond := .code yX2_ring cX2_ring 3 (some .int) :: ([.constantLong RX2 54 (40), .fieldLink RX2 19 "CountedOut" "people" "LCountedOut$Ring;", .fieldLink RX2 56 "CountedOut$Ring" "size" "I", .methodLink RX2 31 yX2_isWithin, .static yX2_isWithin, .initialized RX2, .code yX2_isWithin cX2_isWithin 6 (some .boolean), .methodLink RX2 60 yX1_begin, .instanceMethod yX1_begin, .selects RX1 yX1_begin yX1_begin, .initialized RX1, .code yX1_begin cX1_begin 3 none, .methodLink RX1 28 Lib.Math.min.name, .static Lib.Math.min.name, .initialized "java/lang/Math", .code Lib.Math.min.name Lib.Math.min.code 2 (some .int), .fieldLink RX1 34 "CountedOut$Ring" "size" "I", .fieldLink RX1 38 "CountedOut$Ring" "left" "I", .fieldLink RX1 41 "CountedOut$Ring" "ahead" "I", .fieldLink RX1 44 "CountedOut$Ring" "done" "I", .fieldLink RX1 9 "CountedOut$Ring" "livesLeft" "[I", .fieldLink RX1 15 "CountedOut$Ring" "wentAs" "[I"] ++ wsX20 ++ wsX10)
def wsX2_lives : List Cond := .code yX2_lives cX2_lives 3 (some .int) :: ([.fieldLink RX2 19 "CountedOut" "people" "LCountedOut$Ring;", .constantLong RX2 68 (5), .methodLink RX2 64 yX1_has, .instanceMethod yX1_has, .selects RX1 yX1_has yX1_has, .initialized RX1, .code yX1_has cX1_has 2 (some .boolean), .fieldLink RX1 34 "CountedOut$Ring" "size" "I", .methodLink RX2 31 yX2_isWithin, .static yX2_isWithin, .initialized RX2, .code yX2_isWithin cX2_isWithin 6 (some .boolean), .methodLink RX2 70 yX1_hasBegun, .instanceMethod yX1_hasBegun, .selects RX1 yX1_hasBegun yX1_hasBegun, .code yX1_hasBegun cX1_hasBegun 1 (some .boolean), .fieldLink RX1 44 "CountedOut$Ring" "done" "I", .methodLink RX2 74 yX1_giveLives, .instanceMethod yX1_giveLives, .selects RX1 yX1_giveLives yX1_giveLives, .code yX1_giveLives cX1_giveLives 4 (some .int), .fieldLink RX1 9 "CountedOut$Ring" "livesLeft" "[I"] ++ wsX20 ++ wsX10)
def wsX2_set_r1 : List Cond := [Cond.constantLong RX2 78 (20), Cond.constantLong RX2 80 (2), Cond.fieldLink RX2 19 "CountedOut" "people" "LCountedOut$Ring;", Cond.fieldLink RX2 12 "CountedOut" "counts" "LCountedOut$Counts;", Cond.methodLink RX2 31 yX2_isWithin, Cond.static yX2_isWithin, Cond.initialized RX2, Cond.code yX2_isWithin cX2_isWithin 6 (some .boolean), Cond.methodLink RX2 70 yX1_hasBegun, Cond.instanceMethod yX1_hasBegun, Cond.selects RX1 yX1_hasBegun yX1_hasBegun, Cond.initialized RX1, Cond.code yX1_hasBegun cX1_hasBegun 1 (some .boolean), Cond.fieldLink RX1 44 "CountedOut$Ring" "done" "I", Cond.methodLink RX2 82 yX0_changeStep, Cond.instanceMethod yX0_changeStep, Cond.selects RX0 yX0_changeStep yX0_changeStep, Cond.initialized RX0, Cond.code yX0_changeStep cX0_changeStep 3 (some .int), Cond.fieldLink RX0 19 "CountedOut$Counts" "step" "I", Cond.methodLink RX2 86 yX0_changeKind, Cond.instanceMethod yX0_changeKind, Cond.selects RX0 yX0_changeKind yX0_changeKind, Cond.code yX0_changeKind cX0_changeKind 3 (some .int)]
def wsX2_set_r2 : List Cond := [Cond.fieldLink RX0 22 "CountedOut$Counts" "kind" "I"]
def wsX2_set : List Cond := .code yX2_set cX2_set 5 (some .int) :: ((wsX2_set_r1 ++ wsX2_set_r2) ++ wsX20 ++ wsX10 ++ wsX00)
def wsX2_isWord : List Cond := .code yX2_isWord cX2_isWord 1 (some .boolean) :: ([.constantLong RX2 159 (99), .methodLink RX2 31 yX2_isWithin, .static yX2_isWithin, .initialized RX2, .code yX2_isWithin cX2_isWithin 6 (some .boolean)])
def wsX2_words_r1 : List Cond := [Cond.constantLong RX2 89 (4), Cond.fieldLink RX2 19 "CountedOut" "people" "LCountedOut$Ring;", Cond.fieldLink RX2 12 "CountedOut" "counts" "LCountedOut$Counts;", Cond.fieldLink RX2 101 "CountedOut$Counts" "wordCount" "I", Cond.methodLink RX2 31 yX2_isWithin, Cond.static yX2_isWithin, Cond.initialized RX2, Cond.code yX2_isWithin cX2_isWithin 6 (some .boolean), Cond.methodLink RX2 91 yX2_isWord, Cond.static yX2_isWord, Cond.code yX2_isWord cX2_isWord 1 (some .boolean), Cond.constantLong RX2 159 (99), Cond.methodLink RX2 70 yX1_hasBegun, Cond.instanceMethod yX1_hasBegun, Cond.selects RX1 yX1_hasBegun yX1_hasBegun, Cond.initialized RX1, Cond.code yX1_hasBegun cX1_hasBegun 1 (some .boolean), Cond.fieldLink RX1 44 "CountedOut$Ring" "done" "I", Cond.methodLink RX2 94 yX0_takeWords, Cond.instanceMethod yX0_takeWords, Cond.selects RX0 yX0_takeWords yX0_takeWords, Cond.initialized RX0, Cond.code yX0_takeWords cX0_takeWords 6 none, Cond.fieldLink RX0 9 "CountedOut$Counts" "wordRow" "[I"]
def wsX2_words_r2 : List Cond := [Cond.fieldLink RX0 15 "CountedOut$Counts" "wordCount" "I", Cond.methodLink RX2 98 yX0_mirrorWords, Cond.instanceMethod yX0_mirrorWords, Cond.selects RX0 yX0_mirrorWords yX0_mirrorWords, Cond.code yX0_mirrorWords cX0_mirrorWords 2 none]
def wsX2_words : List Cond := .code yX2_words cX2_words 7 (some .int) :: ((wsX2_words_r1 ++ wsX2_words_r2) ++ wsX20 ++ wsX00 ++ wsX10)
def wsX2_count_r1 : List Cond := [Cond.constantLong RX2 104 (100000), Cond.fieldLink RX2 23 "CountedOut" "traced" "J", Cond.fieldLink RX2 12 "CountedOut" "counts" "LCountedOut$Counts;", Cond.methodLink RX2 31 yX2_isWithin, Cond.static yX2_isWithin, Cond.initialized RX2, Cond.code yX2_isWithin cX2_isWithin 6 (some .boolean), Cond.methodLink RX2 106 yX0_toll, Cond.instanceMethod yX0_toll, Cond.selects RX0 yX0_toll yX0_toll, Cond.initialized RX0, Cond.code yX0_toll cX0_toll 1 (some .int), Cond.fieldLink RX0 22 "CountedOut$Counts" "kind" "I", Cond.fieldLink RX0 35 "CountedOut$Counts" "TOLLS" "[I", Cond.methodLink RX2 110 yX0_ofTurn, Cond.instanceMethod yX0_ofTurn, Cond.selects RX0 yX0_ofTurn yX0_ofTurn, Cond.code yX0_ofTurn cX0_ofTurn 2 (some .int), Cond.fieldLink RX0 19 "CountedOut$Counts" "step" "I", Cond.methodLink RX0 25 yX0_wordy, Cond.instanceMethod yX0_wordy, Cond.selects RX0 yX0_wordy yX0_wordy, Cond.code yX0_wordy cX0_wordy 2 (some .int), Cond.methodLink RX0 32 yX0_wordOf]
def wsX2_count_r2 : List Cond := [Cond.instanceMethod yX0_wordOf, Cond.selects RX0 yX0_wordOf yX0_wordOf, Cond.code yX0_wordOf cX0_wordOf 2 (some .int), Cond.fieldLink RX0 15 "CountedOut$Counts" "wordCount" "I", Cond.fieldLink RX0 9 "CountedOut$Counts" "wordRow" "[I", Cond.methodLink RX0 29 yX0_turning, Cond.instanceMethod yX0_turning, Cond.selects RX0 yX0_turning yX0_turning, Cond.code yX0_turning cX0_turning 2 (some .int)]
def wsX2_count : List Cond := .code yX2_count cX2_count 2 (some .int) :: ((wsX2_count_r1 ++ wsX2_count_r2) ++ wsX20 ++ wsX00)
def wsX2_turns_r1 : List Cond := [Cond.constantLong RX2 113 (200), Cond.fieldLink RX2 19 "CountedOut" "people" "LCountedOut$Ring;", Cond.fieldLink RX2 12 "CountedOut" "counts" "LCountedOut$Counts;", Cond.fieldLink RX2 115 "CountedOut$Ring" "done" "I", Cond.methodLink RX2 31 yX2_isWithin, Cond.static yX2_isWithin, Cond.initialized RX2, Cond.code yX2_isWithin cX2_isWithin 6 (some .boolean), Cond.methodLink RX2 110 yX0_ofTurn, Cond.instanceMethod yX0_ofTurn, Cond.selects RX0 yX0_ofTurn yX0_ofTurn, Cond.initialized RX0, Cond.code yX0_ofTurn cX0_ofTurn 2 (some .int), Cond.fieldLink RX0 22 "CountedOut$Counts" "kind" "I", Cond.fieldLink RX0 19 "CountedOut$Counts" "step" "I", Cond.methodLink RX0 25 yX0_wordy, Cond.instanceMethod yX0_wordy, Cond.selects RX0 yX0_wordy yX0_wordy, Cond.code yX0_wordy cX0_wordy 2 (some .int), Cond.methodLink RX0 32 yX0_wordOf, Cond.instanceMethod yX0_wordOf, Cond.selects RX0 yX0_wordOf yX0_wordOf, Cond.code yX0_wordOf cX0_wordOf 2 (some .int), Cond.fieldLink RX0 15 "CountedOut$Counts" "wordCount" "I"]
def wsX2_turns_r2 : List Cond := [Cond.fieldLink RX0 9 "CountedOut$Counts" "wordRow" "[I", Cond.methodLink RX0 29 yX0_turning, Cond.instanceMethod yX0_turning, Cond.selects RX0 yX0_turning yX0_turning, Cond.code yX0_turning cX0_turning 2 (some .int), Cond.methodLink RX2 118 yX1_takeTurn, Cond.instanceMethod yX1_takeTurn, Cond.selects RX1 yX1_takeTurn yX1_takeTurn, Cond.initialized RX1, Cond.code yX1_takeTurn cX1_takeTurn 3 (some .boolean), Cond.fieldLink RX1 38 "CountedOut$Ring" "left" "I", Cond.fieldLink RX1 44 "CountedOut$Ring" "done" "I", Cond.fieldLink RX1 18 "CountedOut$Ring" "loggedCounted" "[I", Cond.fieldLink RX1 21 "CountedOut$Ring" "loggedAhead" "[I", Cond.fieldLink RX1 41 "CountedOut$Ring" "ahead" "I", Cond.methodLink RX1 47 yX1_countedBy, Cond.instanceMethod yX1_countedBy, Cond.selects RX1 yX1_countedBy yX1_countedBy, Cond.code yX1_countedBy cX1_countedBy 5 (some .int), Cond.methodLink RX1 57 yJ9_floorMod_7cf53, Cond.static yJ9_floorMod_7cf53, Cond.initialized RJ9, Cond.code yJ9_floorMod_7cf53 cJ9_floorMod_7cf53 3 (some .int), Cond.methodLink RX1 54 yX1_nextLeft]
def wsX2_turns_r3 : List Cond := [Cond.instanceMethod yX1_nextLeft, Cond.selects RX1 yX1_nextLeft yX1_nextLeft, Cond.code yX1_nextLeft cX1_nextLeft 4 (some .int), Cond.fieldLink RX1 34 "CountedOut$Ring" "size" "I", Cond.fieldLink RX1 9 "CountedOut$Ring" "livesLeft" "[I", Cond.methodLink RX1 51 yX1_loseLife, Cond.instanceMethod yX1_loseLife, Cond.selects RX1 yX1_loseLife yX1_loseLife, Cond.code yX1_loseLife cX1_loseLife 2 none, Cond.fieldLink RX1 15 "CountedOut$Ring" "wentAs" "[I"]
def wsX2_turns : List Cond := .code yX2_turns cX2_turns 3 (some .int) :: ((wsX2_turns_r1 ++ (wsX2_turns_r2 ++ wsX2_turns_r3)) ++ wsX20 ++ wsX10 ++ wsX00)
def wsX2_back : List Cond := .code yX2_back cX2_back 3 (some .int) :: ([.constantLong RX2 113 (200), .fieldLink RX2 19 "CountedOut" "people" "LCountedOut$Ring;", .methodLink RX2 31 yX2_isWithin, .static yX2_isWithin, .initialized RX2, .code yX2_isWithin cX2_isWithin 6 (some .boolean), .methodLink RX2 121 yX1_takeBack, .instanceMethod yX1_takeBack, .selects RX1 yX1_takeBack yX1_takeBack, .initialized RX1, .code yX1_takeBack cX1_takeBack 2 (some .boolean), .fieldLink RX1 44 "CountedOut$Ring" "done" "I", .fieldLink RX1 18 "CountedOut$Ring" "loggedCounted" "[I", .fieldLink RX1 9 "CountedOut$Ring" "livesLeft" "[I", .fieldLink RX1 38 "CountedOut$Ring" "left" "I", .fieldLink RX1 15 "CountedOut$Ring" "wentAs" "[I", .fieldLink RX1 21 "CountedOut$Ring" "loggedAhead" "[I", .fieldLink RX1 41 "CountedOut$Ring" "ahead" "I"] ++ wsX20 ++ wsX10)
def wsX2_about : List Cond := .code yX2_about cX2_about 3 (some .int) :: ([.fieldLink RX2 19 "CountedOut" "people" "LCountedOut$Ring;", .fieldLink RX2 124 "CountedOut$Ring" "livesLeft" "[I", .fieldLink RX2 128 "CountedOut$Ring" "wentAs" "[I", .methodLink RX2 64 yX1_has, .instanceMethod yX1_has, .selects RX1 yX1_has yX1_has, .initialized RX1, .code yX1_has cX1_has 2 (some .boolean), .fieldLink RX1 34 "CountedOut$Ring" "size" "I", .methodLink RX2 31 yX2_isWithin, .static yX2_isWithin, .initialized RX2, .code yX2_isWithin cX2_isWithin 6 (some .boolean)] ++ wsX20 ++ wsX10)
def wsX2_told : List Cond := .code yX2_told cX2_told 2 (some .int) :: ([.fieldLink RX2 19 "CountedOut" "people" "LCountedOut$Ring;", .fieldLink RX2 131 "CountedOut$Ring" "ahead" "I", .fieldLink RX2 134 "CountedOut$Ring" "left" "I", .fieldLink RX2 115 "CountedOut$Ring" "done" "I", .methodLink RX2 137 yX1_latestCounted, .instanceMethod yX1_latestCounted, .selects RX1 yX1_latestCounted yX1_latestCounted, .initialized RX1, .code yX1_latestCounted cX1_latestCounted 1 (some .int), .fieldLink RX1 44 "CountedOut$Ring" "done" "I", .fieldLink RX1 18 "CountedOut$Ring" "loggedCounted" "[I", .methodLink RX2 140 yX1_latestOut, .instanceMethod yX1_latestOut, .selects RX1 yX1_latestOut yX1_latestOut, .code yX1_latestOut cX1_latestOut 2 (some .int), .fieldLink RX1 34 "CountedOut$Ring" "size" "I", .fieldLink RX1 15 "CountedOut$Ring" "wentAs" "[I", .fieldLink RX1 38 "CountedOut$Ring" "left" "I"] ++ wsX20 ++ wsX10)
def wsX2_isChosenSet : List Cond := .code yX2_isChosenSet cX2_isChosenSet 1 (some .boolean) :: ([.constantLong RX2 161 (63), .methodLink RX2 31 yX2_isWithin, .static yX2_isWithin, .initialized RX2, .code yX2_isWithin cX2_isWithin 6 (some .boolean)])
def wsX2_isChosen : List Cond := .code yX2_isChosen cX2_isChosen 2 (some .boolean) :: ([])
def wsX2_stayingBehind : List Cond := .code yX2_stayingBehind cX2_stayingBehind 5 (some .int) :: ([])
def wsX2_stayingBySome : List Cond := .code yX2_stayingBySome cX2_stayingBySome 5 (some .int) :: ([.methodLink RX2 167 yX2_isChosen, .static yX2_isChosen, .initialized RX2, .code yX2_isChosen cX2_isChosen 2 (some .boolean), .methodLink RX2 170 yX2_stayingBehind, .static yX2_stayingBehind, .code yX2_stayingBehind cX2_stayingBehind 5 (some .int)])
def wsX2_may : List Cond := .code yX2_may cX2_may 5 (some .int) :: ([.constantLong RX2 143 (12), .methodLink RX2 31 yX2_isWithin, .static yX2_isWithin, .initialized RX2, .code yX2_isWithin cX2_isWithin 6 (some .boolean), .methodLink RX2 145 yX2_isChosenSet, .static yX2_isChosenSet, .code yX2_isChosenSet cX2_isChosenSet 1 (some .boolean), .constantLong RX2 161 (63), .methodLink RX2 148 yX2_stayingBySome, .static yX2_stayingBySome, .code yX2_stayingBySome cX2_stayingBySome 5 (some .int), .methodLink RX2 167 yX2_isChosen, .static yX2_isChosen, .code yX2_isChosen cX2_isChosen 2 (some .boolean), .methodLink RX2 170 yX2_stayingBehind, .static yX2_stayingBehind, .code yX2_stayingBehind cX2_stayingBehind 5 (some .int)])
def wsX2_stayingByAll : List Cond := .code yX2_stayingByAll cX2_stayingByAll 5 (some .int) :: ([.methodLink RX2 167 yX2_isChosen, .static yX2_isChosen, .initialized RX2, .code yX2_isChosen cX2_isChosen 2 (some .boolean), .methodLink RX2 170 yX2_stayingBehind, .static yX2_stayingBehind, .code yX2_stayingBehind cX2_stayingBehind 5 (some .int)])
def wsX2_can : List Cond := .code yX2_can cX2_can 7 (some .int) :: ([.constantLong RX2 143 (12), .methodLink RX2 31 yX2_isWithin, .static yX2_isWithin, .initialized RX2, .code yX2_isWithin cX2_isWithin 6 (some .boolean), .methodLink RX2 145 yX2_isChosenSet, .static yX2_isChosenSet, .code yX2_isChosenSet cX2_isChosenSet 1 (some .boolean), .constantLong RX2 161 (63), .methodLink RX2 148 yX2_stayingBySome, .static yX2_stayingBySome, .code yX2_stayingBySome cX2_stayingBySome 5 (some .int), .methodLink RX2 167 yX2_isChosen, .static yX2_isChosen, .code yX2_isChosen cX2_isChosen 2 (some .boolean), .methodLink RX2 170 yX2_stayingBehind, .static yX2_stayingBehind, .code yX2_stayingBehind cX2_stayingBehind 5 (some .int), .methodLink RX2 152 yX2_stayingByAll, .static yX2_stayingByAll, .code yX2_stayingByAll cX2_stayingByAll 5 (some .int)])
def wsX2_trace : List Cond := .code yX2_trace cX2_trace 1 (some .long) :: ([.fieldLink RX2 23 "CountedOut" "traced" "J"] ++ wsX20)
def wsX3_begins : List Cond := .code yX3_begins cX3_begins 3 none :: ([.fieldLink RX3 7 "CountedOutModel" "people" "I", .fieldLink RX3 86 "CountedOutModel" "turns" "I", .fieldLink RX3 89 "CountedOutModel" "stands" "I", .fieldLink RX3 13 "CountedOutModel" "lives" "[I", .fieldLink RX3 17 "CountedOutModel" "left" "[I", .fieldLink RX3 20 "CountedOutModel" "wentAs" "[I"] ++ wsX30)
def wsX3_init : List Cond := .code yX3_init cX3_init 1 none :: ([.methodLink RX3 1 objectInit, .instanceMethod objectInit, .code objectInit ⟨#[0xb1]⟩ 1 none, .fieldLink RX3 7 "CountedOutModel" "people" "I", .arrayClass .int, .fieldLink RX3 13 "CountedOutModel" "lives" "[I", .fieldLink RX3 17 "CountedOutModel" "left" "[I", .fieldLink RX3 20 "CountedOutModel" "wentAs" "[I", .fieldLink RX3 23 "CountedOutModel" "step" "I", .fieldLink RX3 26 "CountedOutModel" "words" "I", .fieldLink RX3 29 "CountedOutModel" "word" "[I", .fieldLink RX3 32 "CountedOutModel" "counted" "[I", .fieldLink RX3 35 "CountedOutModel" "stood" "[I", .fieldLink RX3 38 "CountedOutModel" "ring" "[I", .fieldLink RX3 41 "CountedOutModel" "mine" "[I", .fieldLink RX3 44 "CountedOutModel" "foes" "[I", .methodLink RX3 47 yX3_begins, .instanceMethod yX3_begins, .selects RX3 yX3_begins yX3_begins, .initialized RX3, .code yX3_begins cX3_begins 3 none, .fieldLink RX3 86 "CountedOutModel" "turns" "I", .fieldLink RX3 89 "CountedOutModel" "stands" "I"] ++ wsX30)
def wsX3_in : List Cond := .code yX3_in cX3_in 6 (some .boolean) :: ([])
def wsX3_isGreat : List Cond := .code yX3_isGreat cX3_isGreat 3 (some .boolean) :: ([.constantLong RX3 54 (1000000000000), .constantLong RX3 60 (1000), .methodLink RX3 56 yX3_in, .static yX3_in, .initialized RX3, .code yX3_in cX3_in 6 (some .boolean)])
def wsX3_goesOf : List Cond := .code yX3_goesOf cX3_goesOf 7 (some .long) :: ([])
def wsX3_goes : List Cond := .code yX3_goes cX3_goes 6 (some .long) :: ([.fieldLink RX3 51 "CountedOutModel" "thrown" "I", .constantLong RX3 70 (-1), .methodLink RX3 62 yX3_isGreat, .static yX3_isGreat, .initialized RX3, .code yX3_isGreat cX3_isGreat 3 (some .boolean), .constantLong RX3 54 (1000000000000), .constantLong RX3 60 (1000), .methodLink RX3 56 yX3_in, .static yX3_in, .code yX3_in cX3_in 6 (some .boolean), .methodLink RX3 66 yX3_goesOf, .static yX3_goesOf, .code yX3_goesOf cX3_goesOf 7 (some .long)] ++ wsX30)
def wsX3_turn : List Cond := .code yX3_turn cX3_turn 8 (some .long) :: ([.fieldLink RX3 51 "CountedOutModel" "thrown" "I", .constantLong RX3 70 (-1), .methodLink RX3 62 yX3_isGreat, .static yX3_isGreat, .initialized RX3, .code yX3_isGreat cX3_isGreat 3 (some .boolean), .constantLong RX3 54 (1000000000000), .constantLong RX3 60 (1000), .methodLink RX3 56 yX3_in, .static yX3_in, .code yX3_in cX3_in 6 (some .boolean)] ++ wsX30)
def wsX3_last : List Cond := .code yX3_last cX3_last 4 (some .long) :: ([.fieldLink RX3 51 "CountedOutModel" "thrown" "I", .constantLong RX3 70 (-1), .methodLink RX3 62 yX3_isGreat, .static yX3_isGreat, .initialized RX3, .code yX3_isGreat cX3_isGreat 3 (some .boolean), .constantLong RX3 54 (1000000000000), .constantLong RX3 60 (1000), .methodLink RX3 56 yX3_in, .static yX3_in, .code yX3_in cX3_in 6 (some .boolean), .methodLink RX3 66 yX3_goesOf, .static yX3_goesOf, .code yX3_goesOf cX3_goesOf 7 (some .long)] ++ wsX30)
def wsX3_isHeap : List Cond := .code yX3_isHeap cX3_isHeap 2 (some .boolean) :: ([.constantLong RX3 72 (2), .constantLong RX3 74 (20), .methodLink RX3 56 yX3_in, .static yX3_in, .initialized RX3, .code yX3_in cX3_in 6 (some .boolean)])
def wsX3_isFirst : List Cond := .code yX3_isFirst cX3_isFirst 9 (some .boolean) :: ([.fieldLink RX3 38 "CountedOutModel" "ring" "[I"] ++ wsX30)
def wsX3_first : List Cond := .code yX3_first cX3_first 4 (some .int) :: ([.fieldLink RX3 51 "CountedOutModel" "thrown" "I", .constantLong RX3 80 (10000), .methodLink RX3 76 yX3_isHeap, .static yX3_isHeap, .initialized RX3, .code yX3_isHeap cX3_isHeap 2 (some .boolean), .constantLong RX3 72 (2), .constantLong RX3 74 (20), .methodLink RX3 56 yX3_in, .static yX3_in, .code yX3_in cX3_in 6 (some .boolean), .methodLink RX3 82 yX3_isFirst, .instanceMethod yX3_isFirst, .selects RX3 yX3_isFirst yX3_isFirst, .code yX3_isFirst cX3_isFirst 9 (some .boolean), .fieldLink RX3 38 "CountedOutModel" "ring" "[I"] ++ wsX30)
def wsX3_least : List Cond := .code yX3_least cX3_least 4 (some .int) :: ([.fieldLink RX3 51 "CountedOutModel" "thrown" "I", .methodLink RX3 76 yX3_isHeap, .static yX3_isHeap, .initialized RX3, .code yX3_isHeap cX3_isHeap 2 (some .boolean), .constantLong RX3 72 (2), .constantLong RX3 74 (20), .methodLink RX3 56 yX3_in, .static yX3_in, .code yX3_in cX3_in 6 (some .boolean), .methodLink RX3 82 yX3_isFirst, .instanceMethod yX3_isFirst, .selects RX3 yX3_isFirst yX3_isFirst, .code yX3_isFirst cX3_isFirst 9 (some .boolean), .fieldLink RX3 38 "CountedOutModel" "ring" "[I"] ++ wsX30)
def wsX3_ring : List Cond := .code yX3_ring cX3_ring 3 (some .int) :: ([.fieldLink RX3 51 "CountedOutModel" "thrown" "I", .constantLong RX3 92 (40), .fieldLink RX3 7 "CountedOutModel" "people" "I", .methodLink RX3 56 yX3_in, .static yX3_in, .initialized RX3, .code yX3_in cX3_in 6 (some .boolean), .methodLink RX3 47 yX3_begins, .instanceMethod yX3_begins, .selects RX3 yX3_begins yX3_begins, .code yX3_begins cX3_begins 3 none, .fieldLink RX3 86 "CountedOutModel" "turns" "I", .fieldLink RX3 89 "CountedOutModel" "stands" "I", .fieldLink RX3 13 "CountedOutModel" "lives" "[I", .fieldLink RX3 17 "CountedOutModel" "left" "[I", .fieldLink RX3 20 "CountedOutModel" "wentAs" "[I"] ++ wsX30)
def wsX3_isPerson : List Cond := .code yX3_isPerson cX3_isPerson 2 (some .boolean) :: ([.fieldLink RX3 7 "CountedOutModel" "people" "I", .methodLink RX3 56 yX3_in, .static yX3_in, .initialized RX3, .code yX3_in cX3_in 6 (some .boolean)] ++ wsX30)
def wsX3_lives : List Cond := .code yX3_lives cX3_lives 4 (some .int) :: ([.fieldLink RX3 51 "CountedOutModel" "thrown" "I", .constantLong RX3 98 (5), .fieldLink RX3 86 "CountedOutModel" "turns" "I", .fieldLink RX3 13 "CountedOutModel" "lives" "[I", .fieldLink RX3 17 "CountedOutModel" "left" "[I", .methodLink RX3 94 yX3_isPerson, .instanceMethod yX3_isPerson, .selects RX3 yX3_isPerson yX3_isPerson, .initialized RX3, .code yX3_isPerson cX3_isPerson 2 (some .boolean), .fieldLink RX3 7 "CountedOutModel" "people" "I", .methodLink RX3 56 yX3_in, .static yX3_in, .code yX3_in cX3_in 6 (some .boolean)] ++ wsX30)
def wsX3_set : List Cond := .code yX3_set cX3_set 4 (some .int) :: ([.fieldLink RX3 51 "CountedOutModel" "thrown" "I", .constantLong RX3 74 (20), .constantLong RX3 72 (2), .fieldLink RX3 86 "CountedOutModel" "turns" "I", .fieldLink RX3 23 "CountedOutModel" "step" "I", .fieldLink RX3 100 "CountedOutModel" "kind" "I", .methodLink RX3 56 yX3_in, .static yX3_in, .initialized RX3, .code yX3_in cX3_in 6 (some .boolean)] ++ wsX30)
def wsX3_isWord : List Cond := .code yX3_isWord cX3_isWord 1 (some .boolean) :: ([.constantLong RX3 103 (99), .methodLink RX3 56 yX3_in, .static yX3_in, .initialized RX3, .code yX3_in cX3_in 6 (some .boolean)])
def wsX3_words : List Cond := .code yX3_words cX3_words 8 (some .int) :: ([.fieldLink RX3 51 "CountedOutModel" "thrown" "I", .constantLong RX3 105 (4), .fieldLink RX3 86 "CountedOutModel" "turns" "I", .fieldLink RX3 29 "CountedOutModel" "word" "[I", .fieldLink RX3 26 "CountedOutModel" "words" "I", .methodLink RX3 56 yX3_in, .static yX3_in, .initialized RX3, .code yX3_in cX3_in 6 (some .boolean), .methodLink RX3 107 yX3_isWord, .static yX3_isWord, .code yX3_isWord cX3_isWord 1 (some .boolean), .constantLong RX3 103 (99)] ++ wsX30)
def wsX3_countOf : List Cond := .code yX3_countOf cX3_countOf 3 (some .int) :: ([.fieldLink RX3 23 "CountedOutModel" "step" "I", .fieldLink RX3 100 "CountedOutModel" "kind" "I", .fieldLink RX3 29 "CountedOutModel" "word" "[I", .fieldLink RX3 26 "CountedOutModel" "words" "I"] ++ wsX30)
def wsX3_count : List Cond := .code yX3_count cX3_count 2 (some .int) :: ([.fieldLink RX3 51 "CountedOutModel" "thrown" "I", .constantLong RX3 110 (100000), .fieldLink RX3 112 "CountedOutModel" "trace" "J", .fieldLink RX3 100 "CountedOutModel" "kind" "I", .constantLong RX3 116 (11), .constantLong RX3 118 (111), .methodLink RX3 56 yX3_in, .static yX3_in, .initialized RX3, .code yX3_in cX3_in 6 (some .boolean), .methodLink RX3 120 yX3_countOf, .instanceMethod yX3_countOf, .selects RX3 yX3_countOf yX3_countOf, .code yX3_countOf cX3_countOf 3 (some .int), .fieldLink RX3 23 "CountedOutModel" "step" "I", .fieldLink RX3 29 "CountedOutModel" "word" "[I", .fieldLink RX3 26 "CountedOutModel" "words" "I"] ++ wsX30)
def wsX3_there : List Cond := .code yX3_there cX3_there 3 (some .int) :: ([.fieldLink RX3 7 "CountedOutModel" "people" "I", .fieldLink RX3 17 "CountedOutModel" "left" "[I"] ++ wsX30)
def wsX3_next : List Cond := .code yX3_next cX3_next 4 (some .int) :: ([.fieldLink RX3 7 "CountedOutModel" "people" "I", .fieldLink RX3 17 "CountedOutModel" "left" "[I"] ++ wsX30)
def wsX3_goesOn : List Cond := .code yX3_goesOn cX3_goesOn 4 none :: ([.fieldLink RX3 86 "CountedOutModel" "turns" "I", .fieldLink RX3 89 "CountedOutModel" "stands" "I", .fieldLink RX3 32 "CountedOutModel" "counted" "[I", .fieldLink RX3 35 "CountedOutModel" "stood" "[I", .fieldLink RX3 17 "CountedOutModel" "left" "[I", .fieldLink RX3 20 "CountedOutModel" "wentAs" "[I", .fieldLink RX3 7 "CountedOutModel" "people" "I", .methodLink RX3 120 yX3_countOf, .instanceMethod yX3_countOf, .selects RX3 yX3_countOf yX3_countOf, .initialized RX3, .code yX3_countOf cX3_countOf 3 (some .int), .fieldLink RX3 23 "CountedOutModel" "step" "I", .fieldLink RX3 100 "CountedOutModel" "kind" "I", .fieldLink RX3 29 "CountedOutModel" "word" "[I", .fieldLink RX3 26 "CountedOutModel" "words" "I", .methodLink RX3 124 yX3_next, .instanceMethod yX3_next, .selects RX3 yX3_next yX3_next, .code yX3_next cX3_next 4 (some .int), .methodLink RX3 128 yX3_there, .instanceMethod yX3_there, .selects RX3 yX3_there yX3_there, .code yX3_there cX3_there 3 (some .int)] ++ wsX30)
def wsX3_turns_r1 : List Cond := [Cond.fieldLink RX3 51 "CountedOutModel" "thrown" "I", Cond.constantLong RX3 132 (200), Cond.methodLink RX3 56 yX3_in, Cond.static yX3_in, Cond.initialized RX3, Cond.code yX3_in cX3_in 6 (some .boolean), Cond.methodLink RX3 128 yX3_there, Cond.instanceMethod yX3_there, Cond.selects RX3 yX3_there yX3_there, Cond.code yX3_there cX3_there 3 (some .int), Cond.fieldLink RX3 7 "CountedOutModel" "people" "I", Cond.fieldLink RX3 17 "CountedOutModel" "left" "[I", Cond.methodLink RX3 134 yX3_goesOn, Cond.instanceMethod yX3_goesOn, Cond.selects RX3 yX3_goesOn yX3_goesOn, Cond.code yX3_goesOn cX3_goesOn 4 none, Cond.fieldLink RX3 86 "CountedOutModel" "turns" "I", Cond.fieldLink RX3 89 "CountedOutModel" "stands" "I", Cond.fieldLink RX3 32 "CountedOutModel" "counted" "[I", Cond.fieldLink RX3 35 "CountedOutModel" "stood" "[I", Cond.fieldLink RX3 20 "CountedOutModel" "wentAs" "[I", Cond.methodLink RX3 120 yX3_countOf, Cond.instanceMethod yX3_countOf, Cond.selects RX3 yX3_countOf yX3_countOf]
def wsX3_turns_r2 : List Cond := [Cond.code yX3_countOf cX3_countOf 3 (some .int), Cond.fieldLink RX3 23 "CountedOutModel" "step" "I", Cond.fieldLink RX3 100 "CountedOutModel" "kind" "I", Cond.fieldLink RX3 29 "CountedOutModel" "word" "[I", Cond.fieldLink RX3 26 "CountedOutModel" "words" "I", Cond.methodLink RX3 124 yX3_next, Cond.instanceMethod yX3_next, Cond.selects RX3 yX3_next yX3_next, Cond.code yX3_next cX3_next 4 (some .int)]
def wsX3_turns : List Cond := .code yX3_turns cX3_turns 3 (some .int) :: ((wsX3_turns_r1 ++ wsX3_turns_r2) ++ wsX30)
def wsX3_back : List Cond := .code yX3_back cX3_back 4 (some .int) :: ([.fieldLink RX3 51 "CountedOutModel" "thrown" "I", .constantLong RX3 132 (200), .fieldLink RX3 86 "CountedOutModel" "turns" "I", .fieldLink RX3 32 "CountedOutModel" "counted" "[I", .fieldLink RX3 17 "CountedOutModel" "left" "[I", .fieldLink RX3 20 "CountedOutModel" "wentAs" "[I", .fieldLink RX3 35 "CountedOutModel" "stood" "[I", .fieldLink RX3 89 "CountedOutModel" "stands" "I", .methodLink RX3 56 yX3_in, .static yX3_in, .initialized RX3, .code yX3_in cX3_in 6 (some .boolean)] ++ wsX30)
def wsX3_about : List Cond := .code yX3_about cX3_about 3 (some .int) :: ([.fieldLink RX3 51 "CountedOutModel" "thrown" "I", .fieldLink RX3 17 "CountedOutModel" "left" "[I", .fieldLink RX3 20 "CountedOutModel" "wentAs" "[I", .methodLink RX3 94 yX3_isPerson, .instanceMethod yX3_isPerson, .selects RX3 yX3_isPerson yX3_isPerson, .initialized RX3, .code yX3_isPerson cX3_isPerson 2 (some .boolean), .fieldLink RX3 7 "CountedOutModel" "people" "I", .methodLink RX3 56 yX3_in, .static yX3_in, .code yX3_in cX3_in 6 (some .boolean)] ++ wsX30)
def wsX3_told : List Cond := .code yX3_told cX3_told 5 (some .int) :: ([.fieldLink RX3 51 "CountedOutModel" "thrown" "I", .fieldLink RX3 7 "CountedOutModel" "people" "I", .fieldLink RX3 20 "CountedOutModel" "wentAs" "[I", .fieldLink RX3 89 "CountedOutModel" "stands" "I", .fieldLink RX3 86 "CountedOutModel" "turns" "I", .fieldLink RX3 32 "CountedOutModel" "counted" "[I", .methodLink RX3 128 yX3_there, .instanceMethod yX3_there, .selects RX3 yX3_there yX3_there, .initialized RX3, .code yX3_there cX3_there 3 (some .int), .fieldLink RX3 17 "CountedOutModel" "left" "[I"] ++ wsX30)
def wsX3_isSet : List Cond := .code yX3_isSet cX3_isSet 1 (some .boolean) :: ([.constantLong RX3 137 (63), .methodLink RX3 56 yX3_in, .static yX3_in, .initialized RX3, .code yX3_in cX3_in 6 (some .boolean)])
def wsX3_may : List Cond := .code yX3_may cX3_may 8 (some .int) :: ([.fieldLink RX3 51 "CountedOutModel" "thrown" "I", .constantLong RX3 139 (12), .methodLink RX3 56 yX3_in, .static yX3_in, .initialized RX3, .code yX3_in cX3_in 6 (some .boolean), .methodLink RX3 141 yX3_isSet, .static yX3_isSet, .code yX3_isSet cX3_isSet 1 (some .boolean), .constantLong RX3 137 (63)] ++ wsX30)
def wsX3_can : List Cond := .code yX3_can cX3_can 11 (some .int) :: ([.fieldLink RX3 51 "CountedOutModel" "thrown" "I", .constantLong RX3 139 (12), .fieldLink RX3 41 "CountedOutModel" "mine" "[I", .fieldLink RX3 44 "CountedOutModel" "foes" "[I", .methodLink RX3 56 yX3_in, .static yX3_in, .initialized RX3, .code yX3_in cX3_in 6 (some .boolean), .methodLink RX3 141 yX3_isSet, .static yX3_isSet, .code yX3_isSet cX3_isSet 1 (some .boolean), .constantLong RX3 137 (63)] ++ wsX30)
def wsX3_trace : List Cond := .code yX3_trace cX3_trace 1 (some .long) :: ([.fieldLink RX3 51 "CountedOutModel" "thrown" "I", .fieldLink RX3 112 "CountedOutModel" "trace" "J"] ++ wsX30)
def wsJ9_min_7cf53 : List Cond := .code yJ9_min_7cf53 cJ9_min_7cf53 2 (some .int) :: ([])
def wsL_law_r1 : List Cond := [Cond.classLink RL 7 RX2, Cond.instantiable RX2 3, Cond.initialized RX2, Cond.classLink RL 10 RX3, Cond.instantiable RX3 17, Cond.initialized RX3, Cond.constantLong RL 13 (4294967295), Cond.methodLink RL 9 yX2_init, Cond.instanceMethod yX2_init, Cond.code yX2_init cX2_init 1 none, Cond.methodLink RX2 3 objectInit, Cond.instanceMethod objectInit, Cond.code objectInit ⟨#[0xb1]⟩ 1 none, Cond.classLink RX2 9 RX0, Cond.instantiable RX0 4, Cond.initialized RX0, Cond.fieldLink RX2 12 "CountedOut" "counts" "LCountedOut$Counts;", Cond.classLink RX2 16 RX1, Cond.instantiable RX1 8, Cond.initialized RX1, Cond.fieldLink RX2 19 "CountedOut" "people" "LCountedOut$Ring;", Cond.fieldLink RX2 23 "CountedOut" "traced" "J", Cond.methodLink RX2 11 yX0_init, Cond.instanceMethod yX0_init]
def wsL_law_r2 : List Cond := [Cond.code yX0_init cX0_init 1 none, Cond.methodLink RX0 3 objectInit, Cond.arrayClass .int, Cond.fieldLink RX0 9 "CountedOut$Counts" "wordRow" "[I", Cond.fieldLink RX0 15 "CountedOut$Counts" "wordCount" "I", Cond.fieldLink RX0 19 "CountedOut$Counts" "step" "I", Cond.fieldLink RX0 22 "CountedOut$Counts" "kind" "I", Cond.methodLink RX2 18 yX1_init, Cond.instanceMethod yX1_init, Cond.code yX1_init cX1_init 1 none, Cond.methodLink RX1 3 objectInit, Cond.fieldLink RX1 9 "CountedOut$Ring" "livesLeft" "[I", Cond.fieldLink RX1 15 "CountedOut$Ring" "wentAs" "[I", Cond.fieldLink RX1 18 "CountedOut$Ring" "loggedCounted" "[I", Cond.fieldLink RX1 21 "CountedOut$Ring" "loggedAhead" "[I", Cond.methodLink RX1 24 yX1_begin, Cond.instanceMethod yX1_begin, Cond.selects RX1 yX1_begin yX1_begin, Cond.code yX1_begin cX1_begin 3 none, Cond.methodLink RX1 28 Lib.Math.min.name, Cond.static Lib.Math.min.name, Cond.initialized "java/lang/Math", Cond.code Lib.Math.min.name Lib.Math.min.code 2 (some .int), Cond.fieldLink RX1 34 "CountedOut$Ring" "size" "I"]
def wsL_law_r3 : List Cond := [Cond.fieldLink RX1 38 "CountedOut$Ring" "left" "I", Cond.fieldLink RX1 41 "CountedOut$Ring" "ahead" "I", Cond.fieldLink RX1 44 "CountedOut$Ring" "done" "I", Cond.methodLink RL 12 yX3_init, Cond.instanceMethod yX3_init, Cond.code yX3_init cX3_init 1 none, Cond.methodLink RX3 1 objectInit, Cond.fieldLink RX3 7 "CountedOutModel" "people" "I", Cond.fieldLink RX3 13 "CountedOutModel" "lives" "[I", Cond.fieldLink RX3 17 "CountedOutModel" "left" "[I", Cond.fieldLink RX3 20 "CountedOutModel" "wentAs" "[I", Cond.fieldLink RX3 23 "CountedOutModel" "step" "I", Cond.fieldLink RX3 26 "CountedOutModel" "words" "I", Cond.fieldLink RX3 29 "CountedOutModel" "word" "[I", Cond.fieldLink RX3 32 "CountedOutModel" "counted" "[I", Cond.fieldLink RX3 35 "CountedOutModel" "stood" "[I", Cond.fieldLink RX3 38 "CountedOutModel" "ring" "[I", Cond.fieldLink RX3 41 "CountedOutModel" "mine" "[I", Cond.fieldLink RX3 44 "CountedOutModel" "foes" "[I", Cond.methodLink RX3 47 yX3_begins, Cond.instanceMethod yX3_begins, Cond.selects RX3 yX3_begins yX3_begins, Cond.code yX3_begins cX3_begins 3 none, Cond.fieldLink RX3 86 "CountedOutModel" "turns" "I"]
def wsL_law_r4 : List Cond := [Cond.fieldLink RX3 89 "CountedOutModel" "stands" "I", Cond.methodLink RL 15 yX2_goes, Cond.instanceMethod yX2_goes, Cond.selects RX2 yX2_goes yX2_goes, Cond.code yX2_goes cX2_goes 6 (some .long), Cond.constantLong RX2 35 (-1), Cond.methodLink RX2 27 yX2_isGreatRing, Cond.static yX2_isGreatRing, Cond.code yX2_isGreatRing cX2_isGreatRing 3 (some .boolean), Cond.constantLong RX2 155 (1000000000000), Cond.constantLong RX2 157 (1000), Cond.methodLink RX2 31 yX2_isWithin, Cond.static yX2_isWithin, Cond.code yX2_isWithin cX2_isWithin 6 (some .boolean), Cond.methodLink RX2 37 yX2_placeOfGoing, Cond.static yX2_placeOfGoing, Cond.code yX2_placeOfGoing cX2_placeOfGoing 8 (some .long), Cond.constant RX2 163 (1000000), Cond.methodLink RL 19 yX3_goes, Cond.instanceMethod yX3_goes, Cond.selects RX3 yX3_goes yX3_goes, Cond.code yX3_goes cX3_goes 6 (some .long), Cond.fieldLink RX3 51 "CountedOutModel" "thrown" "I", Cond.constantLong RX3 70 (-1)]
def wsL_law_r5 : List Cond := [Cond.methodLink RX3 62 yX3_isGreat, Cond.static yX3_isGreat, Cond.code yX3_isGreat cX3_isGreat 3 (some .boolean), Cond.constantLong RX3 54 (1000000000000), Cond.constantLong RX3 60 (1000), Cond.methodLink RX3 56 yX3_in, Cond.static yX3_in, Cond.code yX3_in cX3_in 6 (some .boolean), Cond.methodLink RX3 66 yX3_goesOf, Cond.static yX3_goesOf, Cond.code yX3_goesOf cX3_goesOf 7 (some .long), Cond.methodLink RL 20 yX2_turn, Cond.instanceMethod yX2_turn, Cond.selects RX2 yX2_turn yX2_turn, Cond.code yX2_turn cX2_turn 6 (some .long), Cond.methodLink RX2 41 yX2_goingOfPlace, Cond.static yX2_goingOfPlace, Cond.code yX2_goingOfPlace cX2_goingOfPlace 8 (some .long), Cond.methodLink RL 23 yX3_turn, Cond.instanceMethod yX3_turn, Cond.selects RX3 yX3_turn yX3_turn, Cond.code yX3_turn cX3_turn 8 (some .long), Cond.methodLink RL 24 yX2_last, Cond.instanceMethod yX2_last]
def wsL_law_r6 : List Cond := [Cond.selects RX2 yX2_last yX2_last, Cond.code yX2_last cX2_last 4 (some .long), Cond.methodLink RL 28 yX3_last, Cond.instanceMethod yX3_last, Cond.selects RX3 yX3_last yX3_last, Cond.code yX3_last cX3_last 4 (some .long), Cond.methodLink RL 29 yX2_first, Cond.instanceMethod yX2_first, Cond.selects RX2 yX2_first yX2_first, Cond.code yX2_first cX2_first 4 (some .int), Cond.constantLong RX2 48 (10000), Cond.methodLink RX2 44 yX2_isHeap, Cond.static yX2_isHeap, Cond.code yX2_isHeap cX2_isHeap 2 (some .boolean), Cond.constantLong RX2 80 (2), Cond.constantLong RX2 78 (20), Cond.methodLink RX2 50 yX2_goesFirst, Cond.static yX2_goesFirst, Cond.code yX2_goesFirst cX2_goesFirst 6 (some .boolean), Cond.methodLink RX2 164 yX2_withoutBit, Cond.static yX2_withoutBit, Cond.code yX2_withoutBit cX2_withoutBit 3 (some .int), Cond.methodLink RL 33 yX3_first, Cond.instanceMethod yX3_first]
def wsL_law_r7 : List Cond := [Cond.selects RX3 yX3_first yX3_first, Cond.code yX3_first cX3_first 4 (some .int), Cond.constantLong RX3 80 (10000), Cond.methodLink RX3 76 yX3_isHeap, Cond.static yX3_isHeap, Cond.code yX3_isHeap cX3_isHeap 2 (some .boolean), Cond.constantLong RX3 72 (2), Cond.constantLong RX3 74 (20), Cond.methodLink RX3 82 yX3_isFirst, Cond.instanceMethod yX3_isFirst, Cond.selects RX3 yX3_isFirst yX3_isFirst, Cond.code yX3_isFirst cX3_isFirst 9 (some .boolean), Cond.methodLink RL 34 yX2_least, Cond.instanceMethod yX2_least, Cond.selects RX2 yX2_least yX2_least, Cond.code yX2_least cX2_least 4 (some .int), Cond.methodLink RL 38 yX3_least, Cond.instanceMethod yX3_least, Cond.selects RX3 yX3_least yX3_least, Cond.code yX3_least cX3_least 4 (some .int), Cond.methodLink RL 39 yX2_ring, Cond.instanceMethod yX2_ring, Cond.selects RX2 yX2_ring yX2_ring, Cond.code yX2_ring cX2_ring 3 (some .int)]
def wsL_law_r8 : List Cond := [Cond.constantLong RX2 54 (40), Cond.fieldLink RX2 56 "CountedOut$Ring" "size" "I", Cond.methodLink RX2 60 yX1_begin, Cond.methodLink RL 43 yX3_ring, Cond.instanceMethod yX3_ring, Cond.selects RX3 yX3_ring yX3_ring, Cond.code yX3_ring cX3_ring 3 (some .int), Cond.constantLong RX3 92 (40), Cond.methodLink RL 44 yX2_lives, Cond.instanceMethod yX2_lives, Cond.selects RX2 yX2_lives yX2_lives, Cond.code yX2_lives cX2_lives 3 (some .int), Cond.constantLong RX2 68 (5), Cond.methodLink RX2 64 yX1_has, Cond.instanceMethod yX1_has, Cond.selects RX1 yX1_has yX1_has, Cond.code yX1_has cX1_has 2 (some .boolean), Cond.methodLink RX2 70 yX1_hasBegun, Cond.instanceMethod yX1_hasBegun, Cond.selects RX1 yX1_hasBegun yX1_hasBegun, Cond.code yX1_hasBegun cX1_hasBegun 1 (some .boolean), Cond.methodLink RX2 74 yX1_giveLives, Cond.instanceMethod yX1_giveLives, Cond.selects RX1 yX1_giveLives yX1_giveLives]
def wsL_law_r9 : List Cond := [Cond.code yX1_giveLives cX1_giveLives 4 (some .int), Cond.methodLink RL 47 yX3_lives, Cond.instanceMethod yX3_lives, Cond.selects RX3 yX3_lives yX3_lives, Cond.code yX3_lives cX3_lives 4 (some .int), Cond.constantLong RX3 98 (5), Cond.methodLink RX3 94 yX3_isPerson, Cond.instanceMethod yX3_isPerson, Cond.selects RX3 yX3_isPerson yX3_isPerson, Cond.code yX3_isPerson cX3_isPerson 2 (some .boolean), Cond.methodLink RL 48 yX2_set, Cond.instanceMethod yX2_set, Cond.selects RX2 yX2_set yX2_set, Cond.code yX2_set cX2_set 5 (some .int), Cond.methodLink RX2 82 yX0_changeStep, Cond.instanceMethod yX0_changeStep, Cond.selects RX0 yX0_changeStep yX0_changeStep, Cond.code yX0_changeStep cX0_changeStep 3 (some .int), Cond.methodLink RX2 86 yX0_changeKind, Cond.instanceMethod yX0_changeKind, Cond.selects RX0 yX0_changeKind yX0_changeKind, Cond.code yX0_changeKind cX0_changeKind 3 (some .int), Cond.methodLink RL 51 yX3_set, Cond.instanceMethod yX3_set]
def wsL_law_r10 : List Cond := [Cond.selects RX3 yX3_set yX3_set, Cond.code yX3_set cX3_set 4 (some .int), Cond.fieldLink RX3 100 "CountedOutModel" "kind" "I", Cond.methodLink RL 52 yX2_words, Cond.instanceMethod yX2_words, Cond.selects RX2 yX2_words yX2_words, Cond.code yX2_words cX2_words 7 (some .int), Cond.constantLong RX2 89 (4), Cond.fieldLink RX2 101 "CountedOut$Counts" "wordCount" "I", Cond.methodLink RX2 91 yX2_isWord, Cond.static yX2_isWord, Cond.code yX2_isWord cX2_isWord 1 (some .boolean), Cond.constantLong RX2 159 (99), Cond.methodLink RX2 94 yX0_takeWords, Cond.instanceMethod yX0_takeWords, Cond.selects RX0 yX0_takeWords yX0_takeWords, Cond.code yX0_takeWords cX0_takeWords 6 none, Cond.methodLink RX2 98 yX0_mirrorWords, Cond.instanceMethod yX0_mirrorWords, Cond.selects RX0 yX0_mirrorWords yX0_mirrorWords, Cond.code yX0_mirrorWords cX0_mirrorWords 2 none, Cond.methodLink RL 56 yX3_words, Cond.instanceMethod yX3_words, Cond.selects RX3 yX3_words yX3_words]
def wsL_law_r11 : List Cond := [Cond.code yX3_words cX3_words 8 (some .int), Cond.constantLong RX3 105 (4), Cond.methodLink RX3 107 yX3_isWord, Cond.static yX3_isWord, Cond.code yX3_isWord cX3_isWord 1 (some .boolean), Cond.constantLong RX3 103 (99), Cond.methodLink RL 57 yX2_count, Cond.instanceMethod yX2_count, Cond.selects RX2 yX2_count yX2_count, Cond.code yX2_count cX2_count 2 (some .int), Cond.constantLong RX2 104 (100000), Cond.methodLink RX2 106 yX0_toll, Cond.instanceMethod yX0_toll, Cond.selects RX0 yX0_toll yX0_toll, Cond.code yX0_toll cX0_toll 1 (some .int), Cond.fieldLink RX0 35 "CountedOut$Counts" "TOLLS" "[I", Cond.methodLink RX2 110 yX0_ofTurn, Cond.instanceMethod yX0_ofTurn, Cond.selects RX0 yX0_ofTurn yX0_ofTurn, Cond.code yX0_ofTurn cX0_ofTurn 2 (some .int), Cond.methodLink RX0 25 yX0_wordy, Cond.instanceMethod yX0_wordy, Cond.selects RX0 yX0_wordy yX0_wordy, Cond.code yX0_wordy cX0_wordy 2 (some .int)]
def wsL_law_r12 : List Cond := [Cond.methodLink RX0 32 yX0_wordOf, Cond.instanceMethod yX0_wordOf, Cond.selects RX0 yX0_wordOf yX0_wordOf, Cond.code yX0_wordOf cX0_wordOf 2 (some .int), Cond.methodLink RX0 29 yX0_turning, Cond.instanceMethod yX0_turning, Cond.selects RX0 yX0_turning yX0_turning, Cond.code yX0_turning cX0_turning 2 (some .int), Cond.methodLink RL 60 yX3_count, Cond.instanceMethod yX3_count, Cond.selects RX3 yX3_count yX3_count, Cond.code yX3_count cX3_count 2 (some .int), Cond.constantLong RX3 110 (100000), Cond.fieldLink RX3 112 "CountedOutModel" "trace" "J", Cond.constantLong RX3 116 (11), Cond.constantLong RX3 118 (111), Cond.methodLink RX3 120 yX3_countOf, Cond.instanceMethod yX3_countOf, Cond.selects RX3 yX3_countOf yX3_countOf, Cond.code yX3_countOf cX3_countOf 3 (some .int), Cond.methodLink RL 61 yX2_turns, Cond.instanceMethod yX2_turns, Cond.selects RX2 yX2_turns yX2_turns, Cond.code yX2_turns cX2_turns 3 (some .int)]
def wsL_law_r13 : List Cond := [Cond.constantLong RX2 113 (200), Cond.fieldLink RX2 115 "CountedOut$Ring" "done" "I", Cond.methodLink RX2 118 yX1_takeTurn, Cond.instanceMethod yX1_takeTurn, Cond.selects RX1 yX1_takeTurn yX1_takeTurn, Cond.code yX1_takeTurn cX1_takeTurn 3 (some .boolean), Cond.methodLink RX1 47 yX1_countedBy, Cond.instanceMethod yX1_countedBy, Cond.selects RX1 yX1_countedBy yX1_countedBy, Cond.code yX1_countedBy cX1_countedBy 5 (some .int), Cond.methodLink RX1 57 yJ9_floorMod_7cf53, Cond.static yJ9_floorMod_7cf53, Cond.initialized RJ9, Cond.code yJ9_floorMod_7cf53 cJ9_floorMod_7cf53 3 (some .int), Cond.methodLink RX1 54 yX1_nextLeft, Cond.instanceMethod yX1_nextLeft, Cond.selects RX1 yX1_nextLeft yX1_nextLeft, Cond.code yX1_nextLeft cX1_nextLeft 4 (some .int), Cond.methodLink RX1 51 yX1_loseLife, Cond.instanceMethod yX1_loseLife, Cond.selects RX1 yX1_loseLife yX1_loseLife, Cond.code yX1_loseLife cX1_loseLife 2 none, Cond.methodLink RL 64 yX3_turns, Cond.instanceMethod yX3_turns]
def wsL_law_r14 : List Cond := [Cond.selects RX3 yX3_turns yX3_turns, Cond.code yX3_turns cX3_turns 3 (some .int), Cond.constantLong RX3 132 (200), Cond.methodLink RX3 128 yX3_there, Cond.instanceMethod yX3_there, Cond.selects RX3 yX3_there yX3_there, Cond.code yX3_there cX3_there 3 (some .int), Cond.methodLink RX3 134 yX3_goesOn, Cond.instanceMethod yX3_goesOn, Cond.selects RX3 yX3_goesOn yX3_goesOn, Cond.code yX3_goesOn cX3_goesOn 4 none, Cond.methodLink RX3 124 yX3_next, Cond.instanceMethod yX3_next, Cond.selects RX3 yX3_next yX3_next, Cond.code yX3_next cX3_next 4 (some .int), Cond.methodLink RL 65 yX2_back, Cond.instanceMethod yX2_back, Cond.selects RX2 yX2_back yX2_back, Cond.code yX2_back cX2_back 3 (some .int), Cond.methodLink RX2 121 yX1_takeBack, Cond.instanceMethod yX1_takeBack, Cond.selects RX1 yX1_takeBack yX1_takeBack, Cond.code yX1_takeBack cX1_takeBack 2 (some .boolean), Cond.methodLink RL 68 yX3_back]
def wsL_law_r15 : List Cond := [Cond.instanceMethod yX3_back, Cond.selects RX3 yX3_back yX3_back, Cond.code yX3_back cX3_back 4 (some .int), Cond.methodLink RL 69 yX2_about, Cond.instanceMethod yX2_about, Cond.selects RX2 yX2_about yX2_about, Cond.code yX2_about cX2_about 3 (some .int), Cond.fieldLink RX2 124 "CountedOut$Ring" "livesLeft" "[I", Cond.fieldLink RX2 128 "CountedOut$Ring" "wentAs" "[I", Cond.methodLink RL 72 yX3_about, Cond.instanceMethod yX3_about, Cond.selects RX3 yX3_about yX3_about, Cond.code yX3_about cX3_about 3 (some .int), Cond.methodLink RL 73 yX2_told, Cond.instanceMethod yX2_told, Cond.selects RX2 yX2_told yX2_told, Cond.code yX2_told cX2_told 2 (some .int), Cond.fieldLink RX2 131 "CountedOut$Ring" "ahead" "I", Cond.fieldLink RX2 134 "CountedOut$Ring" "left" "I", Cond.methodLink RX2 137 yX1_latestCounted, Cond.instanceMethod yX1_latestCounted, Cond.selects RX1 yX1_latestCounted yX1_latestCounted, Cond.code yX1_latestCounted cX1_latestCounted 1 (some .int), Cond.methodLink RX2 140 yX1_latestOut]
def wsL_law_r16 : List Cond := [Cond.instanceMethod yX1_latestOut, Cond.selects RX1 yX1_latestOut yX1_latestOut, Cond.code yX1_latestOut cX1_latestOut 2 (some .int), Cond.methodLink RL 76 yX3_told, Cond.instanceMethod yX3_told, Cond.selects RX3 yX3_told yX3_told, Cond.code yX3_told cX3_told 5 (some .int), Cond.methodLink RL 77 yX2_may, Cond.instanceMethod yX2_may, Cond.selects RX2 yX2_may yX2_may, Cond.code yX2_may cX2_may 5 (some .int), Cond.constantLong RX2 143 (12), Cond.methodLink RX2 145 yX2_isChosenSet, Cond.static yX2_isChosenSet, Cond.code yX2_isChosenSet cX2_isChosenSet 1 (some .boolean), Cond.constantLong RX2 161 (63), Cond.methodLink RX2 148 yX2_stayingBySome, Cond.static yX2_stayingBySome, Cond.code yX2_stayingBySome cX2_stayingBySome 5 (some .int), Cond.methodLink RX2 167 yX2_isChosen, Cond.static yX2_isChosen, Cond.code yX2_isChosen cX2_isChosen 2 (some .boolean), Cond.methodLink RX2 170 yX2_stayingBehind, Cond.static yX2_stayingBehind]
def wsL_law_r17 : List Cond := [Cond.code yX2_stayingBehind cX2_stayingBehind 5 (some .int), Cond.methodLink RL 80 yX3_may, Cond.instanceMethod yX3_may, Cond.selects RX3 yX3_may yX3_may, Cond.code yX3_may cX3_may 8 (some .int), Cond.constantLong RX3 139 (12), Cond.methodLink RX3 141 yX3_isSet, Cond.static yX3_isSet, Cond.code yX3_isSet cX3_isSet 1 (some .boolean), Cond.constantLong RX3 137 (63), Cond.methodLink RL 81 yX2_can, Cond.instanceMethod yX2_can, Cond.selects RX2 yX2_can yX2_can, Cond.code yX2_can cX2_can 7 (some .int), Cond.methodLink RX2 152 yX2_stayingByAll, Cond.static yX2_stayingByAll, Cond.code yX2_stayingByAll cX2_stayingByAll 5 (some .int), Cond.methodLink RL 84 yX3_can, Cond.instanceMethod yX3_can, Cond.selects RX3 yX3_can yX3_can, Cond.code yX3_can cX3_can 11 (some .int), Cond.methodLink RL 85 yX2_trace, Cond.instanceMethod yX2_trace, Cond.selects RX2 yX2_trace yX2_trace]
def wsL_law_r18 : List Cond := [Cond.code yX2_trace cX2_trace 1 (some .long), Cond.methodLink RL 89 yX3_trace, Cond.instanceMethod yX3_trace, Cond.selects RX3 yX3_trace yX3_trace, Cond.code yX3_trace cX3_trace 1 (some .long)]
def wsL_law : List Cond := (wsL_law_r1 ++ (wsL_law_r2 ++ (wsL_law_r3 ++ (wsL_law_r4 ++ (wsL_law_r5 ++ (wsL_law_r6 ++ (wsL_law_r7 ++ (wsL_law_r8 ++ (wsL_law_r9 ++ (wsL_law_r10 ++ (wsL_law_r11 ++ (wsL_law_r12 ++ (wsL_law_r13 ++ (wsL_law_r14 ++ (wsL_law_r15 ++ (wsL_law_r16 ++ (wsL_law_r17 ++ wsL_law_r18))))))))))))))))) ++ wsX20 ++ wsX30 ++ wsX00 ++ wsX10 ++ ([] : List Cond)
end
section
/-! the law's words among the tables', by their places: the printed row asks more memory than a part has -/
theorem z_in {big ws : List Cond} (ps : List Nat) (h : ws = ps.filterMap (fun i => big[i]?)) : ∀ w ∈ ws, w ∈ big := by
  intro w hw
  rw [h] at hw
  obtain ⟨i, -, hi⟩ := List.mem_filterMap.mp hw
  exact List.mem_of_getElem? hi
set_option maxRecDepth 100000 in
theorem in_wsL_law_r1 : ∀ w ∈ wsL_law_r1, w ∈ lw_tbl := z_in [19, 20, 14, 306, 307, 18, 494, 21, 22, 23, 24, 25, 26, 27, 28, 15, 92, 48, 49, 16, 93, 94, 29, 30] rfl
set_option maxRecDepth 100000 in
theorem in_wsL_law_r2 : ∀ w ∈ wsL_law_r2, w ∈ lw_tbl := z_in [31, 32, 47, 33, 34, 36, 37, 50, 51, 52, 53, 61, 63, 65, 66, 54, 55, 56, 57, 58, 59, 17, 60, 67] rfl
set_option maxRecDepth 100000 in
theorem in_wsL_law_r3 : ∀ w ∈ wsL_law_r3, w ∈ lw_tbl := z_in [69, 71, 73, 308, 309, 310, 311, 318, 319, 320, 321, 322, 324, 325, 327, 328, 330, 331, 332, 312, 314, 6, 315, 326] rfl
set_option maxRecDepth 100000 in
theorem in_wsL_law_r4 : ∀ w ∈ wsL_law_r4, w ∈ lw_tbl := z_in [329, 102, 103, 104, 105, 114, 106, 107, 108, 109, 113, 110, 111, 112, 115, 116, 117, 118, 368, 369, 370, 371, 316, 383] rfl
set_option maxRecDepth 100000 in
theorem in_wsL_law_r5 : ∀ w ∈ wsL_law_r5, w ∈ lw_tbl := z_in [372, 373, 374, 375, 379, 376, 377, 378, 380, 381, 382, 119, 120, 121, 122, 123, 124, 125, 384, 385, 386, 387, 126, 127] rfl
set_option maxRecDepth 100000 in
theorem in_wsL_law_r6 : ∀ w ∈ wsL_law_r6, w ∈ lw_tbl := z_in [128, 129, 388, 389, 390, 391, 130, 131, 132, 133, 139, 134, 135, 136, 137, 138, 140, 141, 142, 143, 144, 145, 392, 393] rfl
set_option maxRecDepth 100000 in
theorem in_wsL_law_r7 : ∀ w ∈ wsL_law_r7, w ∈ lw_tbl := z_in [394, 395, 401, 396, 397, 398, 399, 400, 402, 404, 7, 405, 146, 147, 148, 149, 406, 407, 408, 409, 150, 151, 152, 153] rfl
set_option maxRecDepth 100000 in
theorem in_wsL_law_r8 : ∀ w ∈ wsL_law_r8, w ∈ lw_tbl := z_in [154, 68, 155, 410, 411, 412, 413, 414, 156, 157, 158, 159, 164, 160, 161, 162, 163, 165, 166, 167, 168, 169, 170, 171] rfl
set_option maxRecDepth 100000 in
theorem in_wsL_law_r9 : ∀ w ∈ wsL_law_r9, w ∈ lw_tbl := z_in [172, 415, 416, 417, 418, 423, 419, 421, 8, 422, 173, 174, 175, 176, 177, 178, 179, 180, 181, 182, 183, 184, 424, 425] rfl
set_option maxRecDepth 100000 in
theorem in_wsL_law_r10 : ∀ w ∈ wsL_law_r10, w ∈ lw_tbl := z_in [426, 427, 323, 185, 186, 187, 188, 189, 35, 190, 191, 192, 193, 194, 195, 196, 197, 198, 199, 200, 201, 428, 429, 430] rfl
set_option maxRecDepth 100000 in
theorem in_wsL_law_r11 : ∀ w ∈ wsL_law_r11, w ∈ lw_tbl := z_in [431, 432, 433, 434, 435, 436, 202, 203, 204, 205, 206, 207, 208, 209, 210, 211, 213, 214, 215, 216, 217, 219, 0, 220] rfl
set_option maxRecDepth 100000 in
theorem in_wsL_law_r12 : ∀ w ∈ wsL_law_r12, w ∈ lw_tbl := z_in [221, 223, 1, 224, 225, 227, 2, 228, 437, 438, 439, 440, 441, 317, 442, 443, 444, 446, 9, 447, 229, 230, 231, 232] rfl
set_option maxRecDepth 100000 in
theorem in_wsL_law_r13 : ∀ w ∈ wsL_law_r13, w ∈ lw_tbl := z_in [233, 74, 234, 235, 236, 237, 238, 240, 3, 241, 242, 243, 17, 244, 245, 247, 4, 248, 249, 251, 5, 252, 448, 449] rfl
set_option maxRecDepth 100000 in
theorem in_wsL_law_r14 : ∀ w ∈ wsL_law_r14, w ∈ lw_tbl := z_in [450, 451, 452, 453, 455, 10, 456, 457, 459, 11, 460, 461, 463, 12, 464, 253, 254, 255, 256, 257, 258, 259, 260, 465] rfl
set_option maxRecDepth 100000 in
theorem in_wsL_law_r15 : ∀ w ∈ wsL_law_r15, w ∈ lw_tbl := z_in [466, 467, 468, 261, 262, 263, 264, 62, 64, 469, 470, 471, 472, 265, 266, 267, 268, 72, 70, 269, 270, 271, 272, 273] rfl
set_option maxRecDepth 100000 in
theorem in_wsL_law_r16 : ∀ w ∈ wsL_law_r16, w ∈ lw_tbl := z_in [274, 275, 276, 473, 474, 475, 476, 277, 278, 279, 280, 281, 282, 283, 284, 285, 286, 287, 288, 289, 290, 291, 292, 293] rfl
set_option maxRecDepth 100000 in
theorem in_wsL_law_r17 : ∀ w ∈ wsL_law_r17, w ∈ lw_tbl := z_in [294, 477, 478, 479, 480, 481, 482, 483, 484, 485, 295, 296, 297, 298, 299, 300, 301, 486, 487, 488, 489, 302, 303, 304] rfl
set_option maxRecDepth 100000 in
theorem in_wsL_law_r18 : ∀ w ∈ wsL_law_r18, w ∈ lw_tbl := z_in [305, 490, 491, 492, 493] rfl
set_option maxRecDepth 100000 in
theorem in_wsX20 : ∀ w ∈ wsX20, w ∈ lw_tbl := z_in [95, 97, 99] rfl
set_option maxRecDepth 100000 in
theorem in_wsX30 : ∀ w ∈ wsX30, w ∈ lw_tbl := z_in [333, 335, 337, 339, 341, 343, 345, 347, 349, 351, 353, 355, 357, 359, 361, 363, 365] rfl
set_option maxRecDepth 100000 in
theorem in_wsX00 : ∀ w ∈ wsX00, w ∈ lw_tbl := z_in [38, 40, 42, 44] rfl
set_option maxRecDepth 100000 in
theorem in_wsX10 : ∀ w ∈ wsX10, w ∈ lw_tbl := z_in [75, 77, 79, 81, 83, 85, 87, 89] rfl
theorem z_ap {big a b : List Cond} (ha : ∀ w ∈ a, w ∈ big) (hb : ∀ w ∈ b, w ∈ big) : ∀ w ∈ a ++ b, w ∈ big := fun w h => (List.mem_append.mp h).elim (ha w) (hb w)
theorem wsL_law_in : ∀ w ∈ wsL_law, w ∈ lw_tbl := (z_ap (z_ap (z_ap (z_ap (z_ap (z_ap in_wsL_law_r1 (z_ap in_wsL_law_r2 (z_ap in_wsL_law_r3 (z_ap in_wsL_law_r4 (z_ap in_wsL_law_r5 (z_ap in_wsL_law_r6 (z_ap in_wsL_law_r7 (z_ap in_wsL_law_r8 (z_ap in_wsL_law_r9 (z_ap in_wsL_law_r10 (z_ap in_wsL_law_r11 (z_ap in_wsL_law_r12 (z_ap in_wsL_law_r13 (z_ap in_wsL_law_r14 (z_ap in_wsL_law_r15 (z_ap in_wsL_law_r16 (z_ap in_wsL_law_r17 in_wsL_law_r18))))))))))))))))) in_wsX20) in_wsX30) in_wsX00) in_wsX10) (fun _ h => absurd h List.not_mem_nil))
theorem inlX0 : ∀ w ∈ wsX00, w ∈ wsL_law := fun _ h => List.mem_append_left _ (List.mem_append_left _ (List.mem_append_right _ h))
theorem inX0 : ∀ w ∈ wsX00, w ∈ lw_tbl := fun w h => wsL_law_in w (inlX0 w h)
theorem inlX1 : ∀ w ∈ wsX10, w ∈ wsL_law := fun _ h => List.mem_append_left _ (List.mem_append_right _ h)
theorem inX1 : ∀ w ∈ wsX10, w ∈ lw_tbl := fun w h => wsL_law_in w (inlX1 w h)
theorem inlX2 : ∀ w ∈ wsX20, w ∈ wsL_law := fun _ h => List.mem_append_left _ (List.mem_append_left _ (List.mem_append_left _ (List.mem_append_left _ (List.mem_append_right _ h))))
theorem inX2 : ∀ w ∈ wsX20, w ∈ lw_tbl := fun w h => wsL_law_in w (inlX2 w h)
theorem inlX3 : ∀ w ∈ wsX30, w ∈ wsL_law := fun _ h => List.mem_append_left _ (List.mem_append_left _ (List.mem_append_left _ (List.mem_append_right _ h)))
theorem inX3 : ∀ w ∈ wsX30, w ∈ lw_tbl := fun w h => wsL_law_in w (inlX3 w h)
theorem inJ9 : ∀ w ∈ wsJ90, w ∈ lw_tbl := by decide +kernel
end
section
theorem dX0_init_0 : decode cX0_init 0 = .ok (.aload_n 0, 1) := by decide +kernel
theorem dX0_init_1 : decode cX0_init 1 = .ok (.invokespecial 3, 3) := by decide +kernel
theorem dX0_init_4 : decode cX0_init 4 = .ok (.aload_n 0, 1) := by decide +kernel
theorem dX0_init_5 : decode cX0_init 5 = .ok (.bipush 8, 2) := by decide +kernel
theorem dX0_init_7 : decode cX0_init 7 = .ok (.newarray .int, 2) := by decide +kernel
theorem dX0_init_9 : decode cX0_init 9 = .ok (.putfield 9, 3) := by decide +kernel
theorem dX0_init_12 : decode cX0_init 12 = .ok (.aload_n 0, 1) := by decide +kernel
theorem dX0_init_13 : decode cX0_init 13 = .ok (.getfield 9, 3) := by decide +kernel
theorem dX0_init_16 : decode cX0_init 16 = .ok (.iconst 0, 1) := by decide +kernel
theorem dX0_init_17 : decode cX0_init 17 = .ok (.iconst 3, 1) := by decide +kernel
theorem dX0_init_18 : decode cX0_init 18 = .ok (.iastore, 1) := by decide +kernel
theorem dX0_init_19 : decode cX0_init 19 = .ok (.aload_n 0, 1) := by decide +kernel
theorem dX0_init_20 : decode cX0_init 20 = .ok (.iconst 1, 1) := by decide +kernel
theorem dX0_init_21 : decode cX0_init 21 = .ok (.putfield 15, 3) := by decide +kernel
theorem dX0_init_24 : decode cX0_init 24 = .ok (.aload_n 0, 1) := by decide +kernel
theorem dX0_init_25 : decode cX0_init 25 = .ok (.iconst 3, 1) := by decide +kernel
theorem dX0_init_26 : decode cX0_init 26 = .ok (.putfield 19, 3) := by decide +kernel
theorem dX0_init_29 : decode cX0_init 29 = .ok (.aload_n 0, 1) := by decide +kernel
theorem dX0_init_30 : decode cX0_init 30 = .ok (.iconst 0, 1) := by decide +kernel
theorem dX0_init_31 : decode cX0_init 31 = .ok (.putfield 22, 3) := by decide +kernel
theorem dX0_init_34 : decode cX0_init 34 = .ok (.return_, 1) := by decide +kernel
theorem dX0_changeStep_0 : decode cX0_changeStep 0 = .ok (.aload_n 0, 1) := by decide +kernel
theorem dX0_changeStep_1 : decode cX0_changeStep 1 = .ok (.getfield 19, 3) := by decide +kernel
theorem dX0_changeStep_4 : decode cX0_changeStep 4 = .ok (.istore_n 2, 1) := by decide +kernel
theorem dX0_changeStep_5 : decode cX0_changeStep 5 = .ok (.aload_n 0, 1) := by decide +kernel
theorem dX0_changeStep_6 : decode cX0_changeStep 6 = .ok (.iload_n 1, 1) := by decide +kernel
theorem dX0_changeStep_7 : decode cX0_changeStep 7 = .ok (.putfield 19, 3) := by decide +kernel
theorem dX0_changeStep_10 : decode cX0_changeStep 10 = .ok (.iload_n 2, 1) := by decide +kernel
theorem dX0_changeStep_11 : decode cX0_changeStep 11 = .ok (.ireturn, 1) := by decide +kernel
theorem dX0_changeKind_0 : decode cX0_changeKind 0 = .ok (.aload_n 0, 1) := by decide +kernel
theorem dX0_changeKind_1 : decode cX0_changeKind 1 = .ok (.getfield 22, 3) := by decide +kernel
theorem dX0_changeKind_4 : decode cX0_changeKind 4 = .ok (.istore_n 2, 1) := by decide +kernel
theorem dX0_changeKind_5 : decode cX0_changeKind 5 = .ok (.aload_n 0, 1) := by decide +kernel
theorem dX0_changeKind_6 : decode cX0_changeKind 6 = .ok (.iload_n 1, 1) := by decide +kernel
theorem dX0_changeKind_7 : decode cX0_changeKind 7 = .ok (.putfield 22, 3) := by decide +kernel
theorem dX0_changeKind_10 : decode cX0_changeKind 10 = .ok (.iload_n 2, 1) := by decide +kernel
theorem dX0_changeKind_11 : decode cX0_changeKind 11 = .ok (.ireturn, 1) := by decide +kernel
theorem dX0_takeWords_0 : decode cX0_takeWords 0 = .ok (.aload_n 0, 1) := by decide +kernel
theorem dX0_takeWords_1 : decode cX0_takeWords 1 = .ok (.getfield 9, 3) := by decide +kernel
theorem dX0_takeWords_4 : decode cX0_takeWords 4 = .ok (.iconst 0, 1) := by decide +kernel
theorem dX0_takeWords_5 : decode cX0_takeWords 5 = .ok (.iload_n 2, 1) := by decide +kernel
theorem dX0_takeWords_6 : decode cX0_takeWords 6 = .ok (.iastore, 1) := by decide +kernel
theorem dX0_takeWords_7 : decode cX0_takeWords 7 = .ok (.aload_n 0, 1) := by decide +kernel
theorem dX0_takeWords_8 : decode cX0_takeWords 8 = .ok (.getfield 9, 3) := by decide +kernel
theorem dX0_takeWords_11 : decode cX0_takeWords 11 = .ok (.iconst 1, 1) := by decide +kernel
theorem dX0_takeWords_12 : decode cX0_takeWords 12 = .ok (.iload_n 3, 1) := by decide +kernel
theorem dX0_takeWords_13 : decode cX0_takeWords 13 = .ok (.iastore, 1) := by decide +kernel
theorem dX0_takeWords_14 : decode cX0_takeWords 14 = .ok (.aload_n 0, 1) := by decide +kernel
theorem dX0_takeWords_15 : decode cX0_takeWords 15 = .ok (.getfield 9, 3) := by decide +kernel
theorem dX0_takeWords_18 : decode cX0_takeWords 18 = .ok (.iconst 2, 1) := by decide +kernel
theorem dX0_takeWords_19 : decode cX0_takeWords 19 = .ok (.iload 4, 2) := by decide +kernel
theorem dX0_takeWords_21 : decode cX0_takeWords 21 = .ok (.iastore, 1) := by decide +kernel
theorem dX0_takeWords_22 : decode cX0_takeWords 22 = .ok (.aload_n 0, 1) := by decide +kernel
theorem dX0_takeWords_23 : decode cX0_takeWords 23 = .ok (.getfield 9, 3) := by decide +kernel
theorem dX0_takeWords_26 : decode cX0_takeWords 26 = .ok (.iconst 3, 1) := by decide +kernel
theorem dX0_takeWords_27 : decode cX0_takeWords 27 = .ok (.iload 5, 2) := by decide +kernel
theorem dX0_takeWords_29 : decode cX0_takeWords 29 = .ok (.iastore, 1) := by decide +kernel
theorem dX0_takeWords_30 : decode cX0_takeWords 30 = .ok (.aload_n 0, 1) := by decide +kernel
theorem dX0_takeWords_31 : decode cX0_takeWords 31 = .ok (.iload_n 1, 1) := by decide +kernel
theorem dX0_takeWords_32 : decode cX0_takeWords 32 = .ok (.putfield 15, 3) := by decide +kernel
theorem dX0_takeWords_35 : decode cX0_takeWords 35 = .ok (.return_, 1) := by decide +kernel
theorem dX0_mirrorWords_0 : decode cX0_mirrorWords 0 = .ok (.aload_n 0, 1) := by decide +kernel
theorem dX0_mirrorWords_1 : decode cX0_mirrorWords 1 = .ok (.getfield 15, 3) := by decide +kernel
theorem dX0_mirrorWords_4 : decode cX0_mirrorWords 4 = .ok (.iconst 1, 1) := by decide +kernel
theorem dX0_mirrorWords_5 : decode cX0_mirrorWords 5 = .ok (.isub, 1) := by decide +kernel
theorem dX0_mirrorWords_6 : decode cX0_mirrorWords 6 = .ok (.istore_n 1, 1) := by decide +kernel
theorem dX0_mirrorWords_7 : decode cX0_mirrorWords 7 = .ok (.iload_n 1, 1) := by decide +kernel
theorem dX0_mirrorWords_8 : decode cX0_mirrorWords 8 = .ok (.ifCond .lt 43, 3) := by decide +kernel
theorem dX0_mirrorWords_11 : decode cX0_mirrorWords 11 = .ok (.aload_n 0, 1) := by decide +kernel
theorem dX0_mirrorWords_12 : decode cX0_mirrorWords 12 = .ok (.getfield 15, 3) := by decide +kernel
theorem dX0_mirrorWords_15 : decode cX0_mirrorWords 15 = .ok (.bipush 8, 2) := by decide +kernel
theorem dX0_mirrorWords_17 : decode cX0_mirrorWords 17 = .ok (.if_icmp .ge 34, 3) := by decide +kernel
theorem dX0_mirrorWords_20 : decode cX0_mirrorWords 20 = .ok (.aload_n 0, 1) := by decide +kernel
theorem dX0_mirrorWords_21 : decode cX0_mirrorWords 21 = .ok (.getfield 9, 3) := by decide +kernel
theorem dX0_mirrorWords_24 : decode cX0_mirrorWords 24 = .ok (.aload_n 0, 1) := by decide +kernel
theorem dX0_mirrorWords_25 : decode cX0_mirrorWords 25 = .ok (.getfield 15, 3) := by decide +kernel
theorem dX0_mirrorWords_28 : decode cX0_mirrorWords 28 = .ok (.aload_n 0, 1) := by decide +kernel
theorem dX0_mirrorWords_29 : decode cX0_mirrorWords 29 = .ok (.getfield 9, 3) := by decide +kernel
theorem dX0_mirrorWords_32 : decode cX0_mirrorWords 32 = .ok (.iload_n 1, 1) := by decide +kernel
theorem dX0_mirrorWords_33 : decode cX0_mirrorWords 33 = .ok (.iaload, 1) := by decide +kernel
theorem dX0_mirrorWords_34 : decode cX0_mirrorWords 34 = .ok (.iastore, 1) := by decide +kernel
theorem dX0_mirrorWords_35 : decode cX0_mirrorWords 35 = .ok (.aload_n 0, 1) := by decide +kernel
theorem dX0_mirrorWords_36 : decode cX0_mirrorWords 36 = .ok (.dup, 1) := by decide +kernel
theorem dX0_mirrorWords_37 : decode cX0_mirrorWords 37 = .ok (.getfield 15, 3) := by decide +kernel
theorem dX0_mirrorWords_40 : decode cX0_mirrorWords 40 = .ok (.iconst 1, 1) := by decide +kernel
theorem dX0_mirrorWords_41 : decode cX0_mirrorWords 41 = .ok (.iadd, 1) := by decide +kernel
theorem dX0_mirrorWords_42 : decode cX0_mirrorWords 42 = .ok (.putfield 15, 3) := by decide +kernel
theorem dX0_mirrorWords_45 : decode cX0_mirrorWords 45 = .ok (.iinc 1 (-1), 3) := by decide +kernel
theorem dX0_mirrorWords_48 : decode cX0_mirrorWords 48 = .ok (.goto (-41), 3) := by decide +kernel
theorem dX0_mirrorWords_51 : decode cX0_mirrorWords 51 = .ok (.return_, 1) := by decide +kernel
set_option maxRecDepth 20000 in
theorem ggX0_ofTurn_X0_wordy : GoodIn wsX0_ofTurn wsX0_wordy := goodIn_r _ [7, 2, 8, 9, 10, 6, 11, 12, 13, 18, 19, 20, 21] (by decide +kernel) (by decide +kernel)
set_option maxRecDepth 20000 in
theorem gX0_ofTurn_X0_wordy : GoodIn wsX0_ofTurn (wsV RX0 25 RX0 yX0_wordy wsX0_wordy) := goodIn_app (goodIn_of _ (by decide +kernel)) ggX0_ofTurn_X0_wordy
set_option maxRecDepth 20000 in
theorem ggX0_ofTurn_X0_turning : GoodIn wsX0_ofTurn wsX0_turning := goodIn_r _ [17, 3, 4, 5, 6, 7, 2, 8, 9, 10, 11, 12, 13, 18, 19, 20, 21] (by decide +kernel) (by decide +kernel)
set_option maxRecDepth 20000 in
theorem gX0_ofTurn_X0_turning : GoodIn wsX0_ofTurn (wsV RX0 29 RX0 yX0_turning wsX0_turning) := goodIn_app (goodIn_of _ (by decide +kernel)) ggX0_ofTurn_X0_turning
theorem dX0_ofTurn_0 : decode cX0_ofTurn 0 = .ok (.aload_n 0, 1) := by decide +kernel
theorem dX0_ofTurn_1 : decode cX0_ofTurn 1 = .ok (.getfield 22, 3) := by decide +kernel
theorem dX0_ofTurn_4 : decode cX0_ofTurn 4 = .ok (.lookupswitch 40 #[(1, 28), (2, 34)], 28) := by decide +kernel
theorem dX0_ofTurn_32 : decode cX0_ofTurn 32 = .ok (.aload_n 0, 1) := by decide +kernel
theorem dX0_ofTurn_33 : decode cX0_ofTurn 33 = .ok (.iload_n 1, 1) := by decide +kernel
theorem dX0_ofTurn_34 : decode cX0_ofTurn 34 = .ok (.invokevirtual 25, 3) := by decide +kernel
theorem dX0_ofTurn_37 : decode cX0_ofTurn 37 = .ok (.ireturn, 1) := by decide +kernel
theorem dX0_ofTurn_38 : decode cX0_ofTurn 38 = .ok (.aload_n 0, 1) := by decide +kernel
theorem dX0_ofTurn_39 : decode cX0_ofTurn 39 = .ok (.iload_n 1, 1) := by decide +kernel
theorem dX0_ofTurn_40 : decode cX0_ofTurn 40 = .ok (.invokevirtual 29, 3) := by decide +kernel
theorem dX0_ofTurn_43 : decode cX0_ofTurn 43 = .ok (.ireturn, 1) := by decide +kernel
theorem dX0_ofTurn_44 : decode cX0_ofTurn 44 = .ok (.aload_n 0, 1) := by decide +kernel
theorem dX0_ofTurn_45 : decode cX0_ofTurn 45 = .ok (.getfield 19, 3) := by decide +kernel
theorem dX0_ofTurn_48 : decode cX0_ofTurn 48 = .ok (.ireturn, 1) := by decide +kernel
set_option maxRecDepth 20000 in
theorem ggX0_wordy_X0_wordOf : GoodIn wsX0_wordy wsX0_wordOf := goodIn_r _ [6, 7, 8, 9, 10, 11, 12] (by decide +kernel) (by decide +kernel)
set_option maxRecDepth 20000 in
theorem gX0_wordy_X0_wordOf : GoodIn wsX0_wordy (wsV RX0 32 RX0 yX0_wordOf wsX0_wordOf) := goodIn_app (goodIn_of _ (by decide +kernel)) ggX0_wordy_X0_wordOf
theorem dX0_wordy_0 : decode cX0_wordy 0 = .ok (.aload_n 0, 1) := by decide +kernel
theorem dX0_wordy_1 : decode cX0_wordy 1 = .ok (.getfield 19, 3) := by decide +kernel
theorem dX0_wordy_4 : decode cX0_wordy 4 = .ok (.aload_n 0, 1) := by decide +kernel
theorem dX0_wordy_5 : decode cX0_wordy 5 = .ok (.iload_n 1, 1) := by decide +kernel
theorem dX0_wordy_6 : decode cX0_wordy 6 = .ok (.invokevirtual 32, 3) := by decide +kernel
theorem dX0_wordy_9 : decode cX0_wordy 9 = .ok (.iadd, 1) := by decide +kernel
theorem dX0_wordy_10 : decode cX0_wordy 10 = .ok (.ireturn, 1) := by decide +kernel
set_option maxRecDepth 20000 in
theorem ggX0_turning_X0_wordy : GoodIn wsX0_turning wsX0_wordy := goodIn_r _ [5, 6, 7, 8, 9, 4, 10, 11, 12, 13, 14, 15, 16] (by decide +kernel) (by decide +kernel)
set_option maxRecDepth 20000 in
theorem gX0_turning_X0_wordy : GoodIn wsX0_turning (wsV RX0 25 RX0 yX0_wordy wsX0_wordy) := goodIn_app (goodIn_of _ (by decide +kernel)) ggX0_turning_X0_wordy
theorem dX0_turning_0 : decode cX0_turning 0 = .ok (.iload_n 1, 1) := by decide +kernel
theorem dX0_turning_1 : decode cX0_turning 1 = .ok (.iconst 2, 1) := by decide +kernel
theorem dX0_turning_2 : decode cX0_turning 2 = .ok (.irem, 1) := by decide +kernel
theorem dX0_turning_3 : decode cX0_turning 3 = .ok (.ifCond .ne 11, 3) := by decide +kernel
theorem dX0_turning_6 : decode cX0_turning 6 = .ok (.aload_n 0, 1) := by decide +kernel
theorem dX0_turning_7 : decode cX0_turning 7 = .ok (.iload_n 1, 1) := by decide +kernel
theorem dX0_turning_8 : decode cX0_turning 8 = .ok (.invokevirtual 25, 3) := by decide +kernel
theorem dX0_turning_11 : decode cX0_turning 11 = .ok (.goto 9, 3) := by decide +kernel
theorem dX0_turning_14 : decode cX0_turning 14 = .ok (.aload_n 0, 1) := by decide +kernel
theorem dX0_turning_15 : decode cX0_turning 15 = .ok (.iload_n 1, 1) := by decide +kernel
theorem dX0_turning_16 : decode cX0_turning 16 = .ok (.invokevirtual 25, 3) := by decide +kernel
theorem dX0_turning_19 : decode cX0_turning 19 = .ok (.ineg, 1) := by decide +kernel
theorem dX0_turning_20 : decode cX0_turning 20 = .ok (.ireturn, 1) := by decide +kernel
theorem dX0_wordOf_0 : decode cX0_wordOf 0 = .ok (.iload_n 1, 1) := by decide +kernel
theorem dX0_wordOf_1 : decode cX0_wordOf 1 = .ok (.ifCond .lt 11, 3) := by decide +kernel
theorem dX0_wordOf_4 : decode cX0_wordOf 4 = .ok (.aload_n 0, 1) := by decide +kernel
theorem dX0_wordOf_5 : decode cX0_wordOf 5 = .ok (.getfield 15, 3) := by decide +kernel
theorem dX0_wordOf_8 : decode cX0_wordOf 8 = .ok (.iconst 1, 1) := by decide +kernel
theorem dX0_wordOf_9 : decode cX0_wordOf 9 = .ok (.if_icmp .ge 7, 3) := by decide +kernel
theorem dX0_wordOf_12 : decode cX0_wordOf 12 = .ok (.iconst 0, 1) := by decide +kernel
theorem dX0_wordOf_13 : decode cX0_wordOf 13 = .ok (.goto 14, 3) := by decide +kernel
theorem dX0_wordOf_16 : decode cX0_wordOf 16 = .ok (.aload_n 0, 1) := by decide +kernel
theorem dX0_wordOf_17 : decode cX0_wordOf 17 = .ok (.getfield 9, 3) := by decide +kernel
theorem dX0_wordOf_20 : decode cX0_wordOf 20 = .ok (.iload_n 1, 1) := by decide +kernel
theorem dX0_wordOf_21 : decode cX0_wordOf 21 = .ok (.aload_n 0, 1) := by decide +kernel
theorem dX0_wordOf_22 : decode cX0_wordOf 22 = .ok (.getfield 15, 3) := by decide +kernel
theorem dX0_wordOf_25 : decode cX0_wordOf 25 = .ok (.irem, 1) := by decide +kernel
theorem dX0_wordOf_26 : decode cX0_wordOf 26 = .ok (.iaload, 1) := by decide +kernel
theorem dX0_wordOf_27 : decode cX0_wordOf 27 = .ok (.ireturn, 1) := by decide +kernel
theorem dX0_toll_0 : decode cX0_toll 0 = .ok (.aload_n 0, 1) := by decide +kernel
theorem dX0_toll_1 : decode cX0_toll 1 = .ok (.getfield 22, 3) := by decide +kernel
theorem dX0_toll_4 : decode cX0_toll 4 = .ok (.ifCond .lt 14, 3) := by decide +kernel
theorem dX0_toll_7 : decode cX0_toll 7 = .ok (.aload_n 0, 1) := by decide +kernel
theorem dX0_toll_8 : decode cX0_toll 8 = .ok (.getfield 22, 3) := by decide +kernel
theorem dX0_toll_11 : decode cX0_toll 11 = .ok (.getstatic 35, 3) := by decide +kernel
theorem dX0_toll_14 : decode cX0_toll 14 = .ok (.arraylength, 1) := by decide +kernel
theorem dX0_toll_15 : decode cX0_toll 15 = .ok (.if_icmp .lt 7, 3) := by decide +kernel
theorem dX0_toll_18 : decode cX0_toll 18 = .ok (.iconst 0, 1) := by decide +kernel
theorem dX0_toll_19 : decode cX0_toll 19 = .ok (.goto 11, 3) := by decide +kernel
theorem dX0_toll_22 : decode cX0_toll 22 = .ok (.getstatic 35, 3) := by decide +kernel
theorem dX0_toll_25 : decode cX0_toll 25 = .ok (.aload_n 0, 1) := by decide +kernel
theorem dX0_toll_26 : decode cX0_toll 26 = .ok (.getfield 22, 3) := by decide +kernel
theorem dX0_toll_29 : decode cX0_toll 29 = .ok (.iaload, 1) := by decide +kernel
theorem dX0_toll_30 : decode cX0_toll 30 = .ok (.ireturn, 1) := by decide +kernel
set_option maxRecDepth 20000 in
theorem ggX1_init_X1_begin : GoodIn wsX1_init wsX1_begin := goodIn_r _ [13, 14, 15, 16, 17, 18, 19, 20, 21, 5, 6, 22, 23, 24, 25, 26, 27, 28, 29] (by decide +kernel) (by decide +kernel)
set_option maxRecDepth 20000 in
theorem gX1_init_X1_begin : GoodIn wsX1_init (wsV RX1 24 RX1 yX1_begin wsX1_begin) := goodIn_app (goodIn_of _ (by decide +kernel)) ggX1_init_X1_begin
theorem dX1_init_0 : decode cX1_init 0 = .ok (.aload_n 0, 1) := by decide +kernel
theorem dX1_init_1 : decode cX1_init 1 = .ok (.invokespecial 3, 3) := by decide +kernel
theorem dX1_init_4 : decode cX1_init 4 = .ok (.aload_n 0, 1) := by decide +kernel
theorem dX1_init_5 : decode cX1_init 5 = .ok (.bipush 40, 2) := by decide +kernel
theorem dX1_init_7 : decode cX1_init 7 = .ok (.newarray .int, 2) := by decide +kernel
theorem dX1_init_9 : decode cX1_init 9 = .ok (.putfield 9, 3) := by decide +kernel
theorem dX1_init_12 : decode cX1_init 12 = .ok (.aload_n 0, 1) := by decide +kernel
theorem dX1_init_13 : decode cX1_init 13 = .ok (.bipush 40, 2) := by decide +kernel
theorem dX1_init_15 : decode cX1_init 15 = .ok (.newarray .int, 2) := by decide +kernel
theorem dX1_init_17 : decode cX1_init 17 = .ok (.putfield 15, 3) := by decide +kernel
theorem dX1_init_20 : decode cX1_init 20 = .ok (.aload_n 0, 1) := by decide +kernel
theorem dX1_init_21 : decode cX1_init 21 = .ok (.sipush 200, 3) := by decide +kernel
theorem dX1_init_24 : decode cX1_init 24 = .ok (.newarray .int, 2) := by decide +kernel
theorem dX1_init_26 : decode cX1_init 26 = .ok (.putfield 18, 3) := by decide +kernel
theorem dX1_init_29 : decode cX1_init 29 = .ok (.aload_n 0, 1) := by decide +kernel
theorem dX1_init_30 : decode cX1_init 30 = .ok (.sipush 200, 3) := by decide +kernel
theorem dX1_init_33 : decode cX1_init 33 = .ok (.newarray .int, 2) := by decide +kernel
theorem dX1_init_35 : decode cX1_init 35 = .ok (.putfield 21, 3) := by decide +kernel
theorem dX1_init_38 : decode cX1_init 38 = .ok (.aload_n 0, 1) := by decide +kernel
theorem dX1_init_39 : decode cX1_init 39 = .ok (.bipush 10, 2) := by decide +kernel
theorem dX1_init_41 : decode cX1_init 41 = .ok (.invokevirtual 24, 3) := by decide +kernel
theorem dX1_init_44 : decode cX1_init 44 = .ok (.return_, 1) := by decide +kernel
theorem dX1_begin_0 : decode cX1_begin 0 = .ok (.aload_n 0, 1) := by decide +kernel
theorem dX1_begin_1 : decode cX1_begin 1 = .ok (.iload_n 1, 1) := by decide +kernel
theorem dX1_begin_2 : decode cX1_begin 2 = .ok (.bipush 40, 2) := by decide +kernel
theorem dX1_begin_4 : decode cX1_begin 4 = .ok (.invokestatic 28, 3) := by decide +kernel
theorem dX1_begin_7 : decode cX1_begin 7 = .ok (.putfield 34, 3) := by decide +kernel
theorem dX1_begin_10 : decode cX1_begin 10 = .ok (.aload_n 0, 1) := by decide +kernel
theorem dX1_begin_11 : decode cX1_begin 11 = .ok (.aload_n 0, 1) := by decide +kernel
theorem dX1_begin_12 : decode cX1_begin 12 = .ok (.getfield 34, 3) := by decide +kernel
theorem dX1_begin_15 : decode cX1_begin 15 = .ok (.putfield 38, 3) := by decide +kernel
theorem dX1_begin_18 : decode cX1_begin 18 = .ok (.aload_n 0, 1) := by decide +kernel
theorem dX1_begin_19 : decode cX1_begin 19 = .ok (.iconst 0, 1) := by decide +kernel
theorem dX1_begin_20 : decode cX1_begin 20 = .ok (.putfield 41, 3) := by decide +kernel
theorem dX1_begin_23 : decode cX1_begin 23 = .ok (.aload_n 0, 1) := by decide +kernel
theorem dX1_begin_24 : decode cX1_begin 24 = .ok (.iconst 0, 1) := by decide +kernel
theorem dX1_begin_25 : decode cX1_begin 25 = .ok (.putfield 44, 3) := by decide +kernel
theorem dX1_begin_28 : decode cX1_begin 28 = .ok (.iconst 0, 1) := by decide +kernel
theorem dX1_begin_29 : decode cX1_begin 29 = .ok (.istore_n 2, 1) := by decide +kernel
theorem dX1_begin_30 : decode cX1_begin 30 = .ok (.iload_n 2, 1) := by decide +kernel
theorem dX1_begin_31 : decode cX1_begin 31 = .ok (.aload_n 0, 1) := by decide +kernel
theorem dX1_begin_32 : decode cX1_begin 32 = .ok (.getfield 34, 3) := by decide +kernel
theorem dX1_begin_35 : decode cX1_begin 35 = .ok (.if_icmp .ge 24, 3) := by decide +kernel
theorem dX1_begin_38 : decode cX1_begin 38 = .ok (.aload_n 0, 1) := by decide +kernel
theorem dX1_begin_39 : decode cX1_begin 39 = .ok (.getfield 9, 3) := by decide +kernel
theorem dX1_begin_42 : decode cX1_begin 42 = .ok (.iload_n 2, 1) := by decide +kernel
theorem dX1_begin_43 : decode cX1_begin 43 = .ok (.iconst 1, 1) := by decide +kernel
theorem dX1_begin_44 : decode cX1_begin 44 = .ok (.iastore, 1) := by decide +kernel
theorem dX1_begin_45 : decode cX1_begin 45 = .ok (.aload_n 0, 1) := by decide +kernel
theorem dX1_begin_46 : decode cX1_begin 46 = .ok (.getfield 15, 3) := by decide +kernel
theorem dX1_begin_49 : decode cX1_begin 49 = .ok (.iload_n 2, 1) := by decide +kernel
theorem dX1_begin_50 : decode cX1_begin 50 = .ok (.bipush (-9), 2) := by decide +kernel
theorem dX1_begin_52 : decode cX1_begin 52 = .ok (.iastore, 1) := by decide +kernel
theorem dX1_begin_53 : decode cX1_begin 53 = .ok (.iinc 2 1, 3) := by decide +kernel
theorem dX1_begin_56 : decode cX1_begin 56 = .ok (.goto (-26), 3) := by decide +kernel
theorem dX1_begin_59 : decode cX1_begin 59 = .ok (.return_, 1) := by decide +kernel
theorem dX1_has_0 : decode cX1_has 0 = .ok (.iload_n 1, 1) := by decide +kernel
theorem dX1_has_1 : decode cX1_has 1 = .ok (.ifCond .lt 15, 3) := by decide +kernel
theorem dX1_has_4 : decode cX1_has 4 = .ok (.iload_n 1, 1) := by decide +kernel
theorem dX1_has_5 : decode cX1_has 5 = .ok (.aload_n 0, 1) := by decide +kernel
theorem dX1_has_6 : decode cX1_has 6 = .ok (.getfield 34, 3) := by decide +kernel
theorem dX1_has_9 : decode cX1_has 9 = .ok (.if_icmp .ge 7, 3) := by decide +kernel
theorem dX1_has_12 : decode cX1_has 12 = .ok (.iconst 1, 1) := by decide +kernel
theorem dX1_has_13 : decode cX1_has 13 = .ok (.goto 4, 3) := by decide +kernel
theorem dX1_has_16 : decode cX1_has 16 = .ok (.iconst 0, 1) := by decide +kernel
theorem dX1_has_17 : decode cX1_has 17 = .ok (.ireturn, 1) := by decide +kernel
theorem dX1_hasBegun_0 : decode cX1_hasBegun 0 = .ok (.aload_n 0, 1) := by decide +kernel
theorem dX1_hasBegun_1 : decode cX1_hasBegun 1 = .ok (.getfield 44, 3) := by decide +kernel
theorem dX1_hasBegun_4 : decode cX1_hasBegun 4 = .ok (.ifCond .le 7, 3) := by decide +kernel
theorem dX1_hasBegun_7 : decode cX1_hasBegun 7 = .ok (.iconst 1, 1) := by decide +kernel
theorem dX1_hasBegun_8 : decode cX1_hasBegun 8 = .ok (.goto 4, 3) := by decide +kernel
theorem dX1_hasBegun_11 : decode cX1_hasBegun 11 = .ok (.iconst 0, 1) := by decide +kernel
theorem dX1_hasBegun_12 : decode cX1_hasBegun 12 = .ok (.ireturn, 1) := by decide +kernel
theorem dX1_giveLives_0 : decode cX1_giveLives 0 = .ok (.aload_n 0, 1) := by decide +kernel
theorem dX1_giveLives_1 : decode cX1_giveLives 1 = .ok (.getfield 9, 3) := by decide +kernel
theorem dX1_giveLives_4 : decode cX1_giveLives 4 = .ok (.iload_n 1, 1) := by decide +kernel
theorem dX1_giveLives_5 : decode cX1_giveLives 5 = .ok (.iaload, 1) := by decide +kernel
theorem dX1_giveLives_6 : decode cX1_giveLives 6 = .ok (.istore_n 3, 1) := by decide +kernel
theorem dX1_giveLives_7 : decode cX1_giveLives 7 = .ok (.aload_n 0, 1) := by decide +kernel
theorem dX1_giveLives_8 : decode cX1_giveLives 8 = .ok (.getfield 9, 3) := by decide +kernel
theorem dX1_giveLives_11 : decode cX1_giveLives 11 = .ok (.iload_n 1, 1) := by decide +kernel
theorem dX1_giveLives_12 : decode cX1_giveLives 12 = .ok (.iload_n 2, 1) := by decide +kernel
theorem dX1_giveLives_13 : decode cX1_giveLives 13 = .ok (.iastore, 1) := by decide +kernel
theorem dX1_giveLives_14 : decode cX1_giveLives 14 = .ok (.iload_n 3, 1) := by decide +kernel
theorem dX1_giveLives_15 : decode cX1_giveLives 15 = .ok (.ireturn, 1) := by decide +kernel
set_option maxRecDepth 20000 in
theorem ggX1_takeTurn_X1_countedBy : GoodIn wsX1_takeTurn wsX1_countedBy := goodIn_r _ [10, 1, 5, 11, 12, 13, 14, 15, 16, 17, 9, 18, 19, 20, 26, 27, 28, 29, 30, 31, 32, 33] (by decide +kernel) (by decide +kernel)
set_option maxRecDepth 20000 in
theorem gX1_takeTurn_X1_countedBy : GoodIn wsX1_takeTurn (wsV RX1 47 RX1 yX1_countedBy wsX1_countedBy) := goodIn_app (goodIn_of _ (by decide +kernel)) ggX1_takeTurn_X1_countedBy
set_option maxRecDepth 20000 in
theorem ggX1_takeTurn_X1_loseLife : GoodIn wsX1_takeTurn wsX1_loseLife := goodIn_r _ [24, 20, 1, 25, 19, 26, 27, 28, 29, 30, 31, 32, 33] (by decide +kernel) (by decide +kernel)
set_option maxRecDepth 20000 in
theorem gX1_takeTurn_X1_loseLife : GoodIn wsX1_takeTurn (wsV RX1 51 RX1 yX1_loseLife wsX1_loseLife) := goodIn_app (goodIn_of _ (by decide +kernel)) ggX1_takeTurn_X1_loseLife
set_option maxRecDepth 20000 in
theorem ggX1_takeTurn_X1_nextLeft : GoodIn wsX1_takeTurn wsX1_nextLeft := goodIn_r _ [18, 19, 20, 26, 27, 28, 29, 30, 31, 32, 33] (by decide +kernel) (by decide +kernel)
set_option maxRecDepth 20000 in
theorem gX1_takeTurn_X1_nextLeft : GoodIn wsX1_takeTurn (wsV RX1 54 RX1 yX1_nextLeft wsX1_nextLeft) := goodIn_app (goodIn_of _ (by decide +kernel)) ggX1_takeTurn_X1_nextLeft
theorem dX1_takeTurn_0 : decode cX1_takeTurn 0 = .ok (.aload_n 0, 1) := by decide +kernel
theorem dX1_takeTurn_1 : decode cX1_takeTurn 1 = .ok (.getfield 38, 3) := by decide +kernel
theorem dX1_takeTurn_4 : decode cX1_takeTurn 4 = .ok (.iconst 2, 1) := by decide +kernel
theorem dX1_takeTurn_5 : decode cX1_takeTurn 5 = .ok (.if_icmp .lt 13, 3) := by decide +kernel
theorem dX1_takeTurn_8 : decode cX1_takeTurn 8 = .ok (.aload_n 0, 1) := by decide +kernel
theorem dX1_takeTurn_9 : decode cX1_takeTurn 9 = .ok (.getfield 44, 3) := by decide +kernel
theorem dX1_takeTurn_12 : decode cX1_takeTurn 12 = .ok (.sipush 200, 3) := by decide +kernel
theorem dX1_takeTurn_15 : decode cX1_takeTurn 15 = .ok (.if_icmp .lt 5, 3) := by decide +kernel
theorem dX1_takeTurn_18 : decode cX1_takeTurn 18 = .ok (.iconst 0, 1) := by decide +kernel
theorem dX1_takeTurn_19 : decode cX1_takeTurn 19 = .ok (.ireturn, 1) := by decide +kernel
theorem dX1_takeTurn_20 : decode cX1_takeTurn 20 = .ok (.aload_n 0, 1) := by decide +kernel
theorem dX1_takeTurn_21 : decode cX1_takeTurn 21 = .ok (.iload_n 1, 1) := by decide +kernel
theorem dX1_takeTurn_22 : decode cX1_takeTurn 22 = .ok (.invokevirtual 47, 3) := by decide +kernel
theorem dX1_takeTurn_25 : decode cX1_takeTurn 25 = .ok (.istore_n 2, 1) := by decide +kernel
theorem dX1_takeTurn_26 : decode cX1_takeTurn 26 = .ok (.aload_n 0, 1) := by decide +kernel
theorem dX1_takeTurn_27 : decode cX1_takeTurn 27 = .ok (.getfield 18, 3) := by decide +kernel
theorem dX1_takeTurn_30 : decode cX1_takeTurn 30 = .ok (.aload_n 0, 1) := by decide +kernel
theorem dX1_takeTurn_31 : decode cX1_takeTurn 31 = .ok (.getfield 44, 3) := by decide +kernel
theorem dX1_takeTurn_34 : decode cX1_takeTurn 34 = .ok (.iload_n 2, 1) := by decide +kernel
theorem dX1_takeTurn_35 : decode cX1_takeTurn 35 = .ok (.iastore, 1) := by decide +kernel
theorem dX1_takeTurn_36 : decode cX1_takeTurn 36 = .ok (.aload_n 0, 1) := by decide +kernel
theorem dX1_takeTurn_37 : decode cX1_takeTurn 37 = .ok (.getfield 21, 3) := by decide +kernel
theorem dX1_takeTurn_40 : decode cX1_takeTurn 40 = .ok (.aload_n 0, 1) := by decide +kernel
theorem dX1_takeTurn_41 : decode cX1_takeTurn 41 = .ok (.getfield 44, 3) := by decide +kernel
theorem dX1_takeTurn_44 : decode cX1_takeTurn 44 = .ok (.aload_n 0, 1) := by decide +kernel
theorem dX1_takeTurn_45 : decode cX1_takeTurn 45 = .ok (.getfield 41, 3) := by decide +kernel
theorem dX1_takeTurn_48 : decode cX1_takeTurn 48 = .ok (.iastore, 1) := by decide +kernel
theorem dX1_takeTurn_49 : decode cX1_takeTurn 49 = .ok (.aload_n 0, 1) := by decide +kernel
theorem dX1_takeTurn_50 : decode cX1_takeTurn 50 = .ok (.dup, 1) := by decide +kernel
theorem dX1_takeTurn_51 : decode cX1_takeTurn 51 = .ok (.getfield 44, 3) := by decide +kernel
theorem dX1_takeTurn_54 : decode cX1_takeTurn 54 = .ok (.iconst 1, 1) := by decide +kernel
theorem dX1_takeTurn_55 : decode cX1_takeTurn 55 = .ok (.iadd, 1) := by decide +kernel
theorem dX1_takeTurn_56 : decode cX1_takeTurn 56 = .ok (.putfield 44, 3) := by decide +kernel
theorem dX1_takeTurn_59 : decode cX1_takeTurn 59 = .ok (.aload_n 0, 1) := by decide +kernel
theorem dX1_takeTurn_60 : decode cX1_takeTurn 60 = .ok (.iload_n 2, 1) := by decide +kernel
theorem dX1_takeTurn_61 : decode cX1_takeTurn 61 = .ok (.invokevirtual 51, 3) := by decide +kernel
theorem dX1_takeTurn_64 : decode cX1_takeTurn 64 = .ok (.aload_n 0, 1) := by decide +kernel
theorem dX1_takeTurn_65 : decode cX1_takeTurn 65 = .ok (.aload_n 0, 1) := by decide +kernel
theorem dX1_takeTurn_66 : decode cX1_takeTurn 66 = .ok (.iload_n 2, 1) := by decide +kernel
theorem dX1_takeTurn_67 : decode cX1_takeTurn 67 = .ok (.invokevirtual 54, 3) := by decide +kernel
theorem dX1_takeTurn_70 : decode cX1_takeTurn 70 = .ok (.putfield 41, 3) := by decide +kernel
theorem dX1_takeTurn_73 : decode cX1_takeTurn 73 = .ok (.iconst 1, 1) := by decide +kernel
theorem dX1_takeTurn_74 : decode cX1_takeTurn 74 = .ok (.ireturn, 1) := by decide +kernel
set_option maxRecDepth 20000 in
theorem ggX1_countedBy_J9_floorMod_7cf53 : GoodIn wsX1_countedBy wsJ9_floorMod_7cf53 := goodIn_r _ [6] (by decide +kernel) (by decide +kernel)
set_option maxRecDepth 20000 in
theorem gX1_countedBy_J9_floorMod_7cf53 : GoodIn wsX1_countedBy (va_wsS RX1 57 yJ9_floorMod_7cf53 wsJ9_floorMod_7cf53) := goodIn_app (goodIn_of _ (by decide +kernel)) ggX1_countedBy_J9_floorMod_7cf53
set_option maxRecDepth 20000 in
theorem ggX1_countedBy_X1_nextLeft : GoodIn wsX1_countedBy wsX1_nextLeft := goodIn_r _ [11, 12, 13, 14, 15, 16, 17, 18, 19, 20, 21] (by decide +kernel) (by decide +kernel)
set_option maxRecDepth 20000 in
theorem gX1_countedBy_X1_nextLeft : GoodIn wsX1_countedBy (wsV RX1 54 RX1 yX1_nextLeft wsX1_nextLeft) := goodIn_app (goodIn_of _ (by decide +kernel)) ggX1_countedBy_X1_nextLeft
theorem dX1_countedBy_0 : decode cX1_countedBy 0 = .ok (.aload_n 0, 1) := by decide +kernel
theorem dX1_countedBy_1 : decode cX1_countedBy 1 = .ok (.getfield 38, 3) := by decide +kernel
theorem dX1_countedBy_4 : decode cX1_countedBy 4 = .ok (.iconst 1, 1) := by decide +kernel
theorem dX1_countedBy_5 : decode cX1_countedBy 5 = .ok (.if_icmp .ge 8, 3) := by decide +kernel
theorem dX1_countedBy_8 : decode cX1_countedBy 8 = .ok (.aload_n 0, 1) := by decide +kernel
theorem dX1_countedBy_9 : decode cX1_countedBy 9 = .ok (.getfield 41, 3) := by decide +kernel
theorem dX1_countedBy_12 : decode cX1_countedBy 12 = .ok (.ireturn, 1) := by decide +kernel
theorem dX1_countedBy_13 : decode cX1_countedBy 13 = .ok (.iload_n 1, 1) := by decide +kernel
theorem dX1_countedBy_14 : decode cX1_countedBy 14 = .ok (.ifCond .le 9, 3) := by decide +kernel
theorem dX1_countedBy_17 : decode cX1_countedBy 17 = .ok (.iload_n 1, 1) := by decide +kernel
theorem dX1_countedBy_18 : decode cX1_countedBy 18 = .ok (.iconst 1, 1) := by decide +kernel
theorem dX1_countedBy_19 : decode cX1_countedBy 19 = .ok (.isub, 1) := by decide +kernel
theorem dX1_countedBy_20 : decode cX1_countedBy 20 = .ok (.goto 4, 3) := by decide +kernel
theorem dX1_countedBy_23 : decode cX1_countedBy 23 = .ok (.iload_n 1, 1) := by decide +kernel
theorem dX1_countedBy_24 : decode cX1_countedBy 24 = .ok (.aload_n 0, 1) := by decide +kernel
theorem dX1_countedBy_25 : decode cX1_countedBy 25 = .ok (.getfield 38, 3) := by decide +kernel
theorem dX1_countedBy_28 : decode cX1_countedBy 28 = .ok (.invokestatic 57, 3) := by decide +kernel
theorem dX1_countedBy_31 : decode cX1_countedBy 31 = .ok (.istore_n 2, 1) := by decide +kernel
theorem dX1_countedBy_32 : decode cX1_countedBy 32 = .ok (.aload_n 0, 1) := by decide +kernel
theorem dX1_countedBy_33 : decode cX1_countedBy 33 = .ok (.getfield 41, 3) := by decide +kernel
theorem dX1_countedBy_36 : decode cX1_countedBy 36 = .ok (.istore_n 3, 1) := by decide +kernel
theorem dX1_countedBy_37 : decode cX1_countedBy 37 = .ok (.iconst 0, 1) := by decide +kernel
theorem dX1_countedBy_38 : decode cX1_countedBy 38 = .ok (.istore 4, 2) := by decide +kernel
theorem dX1_countedBy_40 : decode cX1_countedBy 40 = .ok (.iload 4, 2) := by decide +kernel
theorem dX1_countedBy_42 : decode cX1_countedBy 42 = .ok (.iload_n 2, 1) := by decide +kernel
theorem dX1_countedBy_43 : decode cX1_countedBy 43 = .ok (.if_icmp .ge 15, 3) := by decide +kernel
theorem dX1_countedBy_46 : decode cX1_countedBy 46 = .ok (.aload_n 0, 1) := by decide +kernel
theorem dX1_countedBy_47 : decode cX1_countedBy 47 = .ok (.iload_n 3, 1) := by decide +kernel
theorem dX1_countedBy_48 : decode cX1_countedBy 48 = .ok (.invokevirtual 54, 3) := by decide +kernel
theorem dX1_countedBy_51 : decode cX1_countedBy 51 = .ok (.istore_n 3, 1) := by decide +kernel
theorem dX1_countedBy_52 : decode cX1_countedBy 52 = .ok (.iinc 4 1, 3) := by decide +kernel
theorem dX1_countedBy_55 : decode cX1_countedBy 55 = .ok (.goto (-15), 3) := by decide +kernel
theorem dX1_countedBy_58 : decode cX1_countedBy 58 = .ok (.iload_n 3, 1) := by decide +kernel
theorem dX1_countedBy_59 : decode cX1_countedBy 59 = .ok (.ireturn, 1) := by decide +kernel
theorem dX1_loseLife_0 : decode cX1_loseLife 0 = .ok (.aload_n 0, 1) := by decide +kernel
theorem dX1_loseLife_1 : decode cX1_loseLife 1 = .ok (.getfield 9, 3) := by decide +kernel
theorem dX1_loseLife_4 : decode cX1_loseLife 4 = .ok (.iload_n 1, 1) := by decide +kernel
theorem dX1_loseLife_5 : decode cX1_loseLife 5 = .ok (.dup2, 1) := by decide +kernel
theorem dX1_loseLife_6 : decode cX1_loseLife 6 = .ok (.iaload, 1) := by decide +kernel
theorem dX1_loseLife_7 : decode cX1_loseLife 7 = .ok (.iconst 1, 1) := by decide +kernel
theorem dX1_loseLife_8 : decode cX1_loseLife 8 = .ok (.isub, 1) := by decide +kernel
theorem dX1_loseLife_9 : decode cX1_loseLife 9 = .ok (.iastore, 1) := by decide +kernel
theorem dX1_loseLife_10 : decode cX1_loseLife 10 = .ok (.aload_n 0, 1) := by decide +kernel
theorem dX1_loseLife_11 : decode cX1_loseLife 11 = .ok (.getfield 9, 3) := by decide +kernel
theorem dX1_loseLife_14 : decode cX1_loseLife 14 = .ok (.iload_n 1, 1) := by decide +kernel
theorem dX1_loseLife_15 : decode cX1_loseLife 15 = .ok (.iaload, 1) := by decide +kernel
theorem dX1_loseLife_16 : decode cX1_loseLife 16 = .ok (.ifCond .ne 28, 3) := by decide +kernel
theorem dX1_loseLife_19 : decode cX1_loseLife 19 = .ok (.aload_n 0, 1) := by decide +kernel
theorem dX1_loseLife_20 : decode cX1_loseLife 20 = .ok (.dup, 1) := by decide +kernel
theorem dX1_loseLife_21 : decode cX1_loseLife 21 = .ok (.getfield 38, 3) := by decide +kernel
theorem dX1_loseLife_24 : decode cX1_loseLife 24 = .ok (.iconst 1, 1) := by decide +kernel
theorem dX1_loseLife_25 : decode cX1_loseLife 25 = .ok (.isub, 1) := by decide +kernel
theorem dX1_loseLife_26 : decode cX1_loseLife 26 = .ok (.putfield 38, 3) := by decide +kernel
theorem dX1_loseLife_29 : decode cX1_loseLife 29 = .ok (.aload_n 0, 1) := by decide +kernel
theorem dX1_loseLife_30 : decode cX1_loseLife 30 = .ok (.getfield 15, 3) := by decide +kernel
theorem dX1_loseLife_33 : decode cX1_loseLife 33 = .ok (.iload_n 1, 1) := by decide +kernel
theorem dX1_loseLife_34 : decode cX1_loseLife 34 = .ok (.aload_n 0, 1) := by decide +kernel
theorem dX1_loseLife_35 : decode cX1_loseLife 35 = .ok (.getfield 34, 3) := by decide +kernel
theorem dX1_loseLife_38 : decode cX1_loseLife 38 = .ok (.aload_n 0, 1) := by decide +kernel
theorem dX1_loseLife_39 : decode cX1_loseLife 39 = .ok (.getfield 38, 3) := by decide +kernel
theorem dX1_loseLife_42 : decode cX1_loseLife 42 = .ok (.isub, 1) := by decide +kernel
theorem dX1_loseLife_43 : decode cX1_loseLife 43 = .ok (.iastore, 1) := by decide +kernel
theorem dX1_loseLife_44 : decode cX1_loseLife 44 = .ok (.return_, 1) := by decide +kernel
theorem dX1_nextLeft_0 : decode cX1_nextLeft 0 = .ok (.iload_n 1, 1) := by decide +kernel
theorem dX1_nextLeft_1 : decode cX1_nextLeft 1 = .ok (.istore_n 2, 1) := by decide +kernel
theorem dX1_nextLeft_2 : decode cX1_nextLeft 2 = .ok (.iconst 0, 1) := by decide +kernel
theorem dX1_nextLeft_3 : decode cX1_nextLeft 3 = .ok (.istore_n 3, 1) := by decide +kernel
theorem dX1_nextLeft_4 : decode cX1_nextLeft 4 = .ok (.iload_n 3, 1) := by decide +kernel
theorem dX1_nextLeft_5 : decode cX1_nextLeft 5 = .ok (.aload_n 0, 1) := by decide +kernel
theorem dX1_nextLeft_6 : decode cX1_nextLeft 6 = .ok (.getfield 34, 3) := by decide +kernel
theorem dX1_nextLeft_9 : decode cX1_nextLeft 9 = .ok (.if_icmp .ge 38, 3) := by decide +kernel
theorem dX1_nextLeft_12 : decode cX1_nextLeft 12 = .ok (.iload_n 2, 1) := by decide +kernel
theorem dX1_nextLeft_13 : decode cX1_nextLeft 13 = .ok (.iconst 1, 1) := by decide +kernel
theorem dX1_nextLeft_14 : decode cX1_nextLeft 14 = .ok (.iadd, 1) := by decide +kernel
theorem dX1_nextLeft_15 : decode cX1_nextLeft 15 = .ok (.aload_n 0, 1) := by decide +kernel
theorem dX1_nextLeft_16 : decode cX1_nextLeft 16 = .ok (.getfield 34, 3) := by decide +kernel
theorem dX1_nextLeft_19 : decode cX1_nextLeft 19 = .ok (.if_icmp .ge 9, 3) := by decide +kernel
theorem dX1_nextLeft_22 : decode cX1_nextLeft 22 = .ok (.iload_n 2, 1) := by decide +kernel
theorem dX1_nextLeft_23 : decode cX1_nextLeft 23 = .ok (.iconst 1, 1) := by decide +kernel
theorem dX1_nextLeft_24 : decode cX1_nextLeft 24 = .ok (.iadd, 1) := by decide +kernel
theorem dX1_nextLeft_25 : decode cX1_nextLeft 25 = .ok (.goto 4, 3) := by decide +kernel
theorem dX1_nextLeft_28 : decode cX1_nextLeft 28 = .ok (.iconst 0, 1) := by decide +kernel
theorem dX1_nextLeft_29 : decode cX1_nextLeft 29 = .ok (.istore_n 2, 1) := by decide +kernel
theorem dX1_nextLeft_30 : decode cX1_nextLeft 30 = .ok (.aload_n 0, 1) := by decide +kernel
theorem dX1_nextLeft_31 : decode cX1_nextLeft 31 = .ok (.getfield 9, 3) := by decide +kernel
theorem dX1_nextLeft_34 : decode cX1_nextLeft 34 = .ok (.iload_n 2, 1) := by decide +kernel
theorem dX1_nextLeft_35 : decode cX1_nextLeft 35 = .ok (.iaload, 1) := by decide +kernel
theorem dX1_nextLeft_36 : decode cX1_nextLeft 36 = .ok (.ifCond .le 5, 3) := by decide +kernel
theorem dX1_nextLeft_39 : decode cX1_nextLeft 39 = .ok (.iload_n 2, 1) := by decide +kernel
theorem dX1_nextLeft_40 : decode cX1_nextLeft 40 = .ok (.ireturn, 1) := by decide +kernel
theorem dX1_nextLeft_41 : decode cX1_nextLeft 41 = .ok (.iinc 3 1, 3) := by decide +kernel
theorem dX1_nextLeft_44 : decode cX1_nextLeft 44 = .ok (.goto (-40), 3) := by decide +kernel
theorem dX1_nextLeft_47 : decode cX1_nextLeft 47 = .ok (.iload_n 1, 1) := by decide +kernel
theorem dX1_nextLeft_48 : decode cX1_nextLeft 48 = .ok (.ireturn, 1) := by decide +kernel
theorem dX1_takeBack_0 : decode cX1_takeBack 0 = .ok (.aload_n 0, 1) := by decide +kernel
theorem dX1_takeBack_1 : decode cX1_takeBack 1 = .ok (.getfield 44, 3) := by decide +kernel
theorem dX1_takeBack_4 : decode cX1_takeBack 4 = .ok (.iconst 1, 1) := by decide +kernel
theorem dX1_takeBack_5 : decode cX1_takeBack 5 = .ok (.if_icmp .ge 5, 3) := by decide +kernel
theorem dX1_takeBack_8 : decode cX1_takeBack 8 = .ok (.iconst 0, 1) := by decide +kernel
theorem dX1_takeBack_9 : decode cX1_takeBack 9 = .ok (.ireturn, 1) := by decide +kernel
theorem dX1_takeBack_10 : decode cX1_takeBack 10 = .ok (.aload_n 0, 1) := by decide +kernel
theorem dX1_takeBack_11 : decode cX1_takeBack 11 = .ok (.dup, 1) := by decide +kernel
theorem dX1_takeBack_12 : decode cX1_takeBack 12 = .ok (.getfield 44, 3) := by decide +kernel
theorem dX1_takeBack_15 : decode cX1_takeBack 15 = .ok (.iconst 1, 1) := by decide +kernel
theorem dX1_takeBack_16 : decode cX1_takeBack 16 = .ok (.isub, 1) := by decide +kernel
theorem dX1_takeBack_17 : decode cX1_takeBack 17 = .ok (.putfield 44, 3) := by decide +kernel
theorem dX1_takeBack_20 : decode cX1_takeBack 20 = .ok (.aload_n 0, 1) := by decide +kernel
theorem dX1_takeBack_21 : decode cX1_takeBack 21 = .ok (.getfield 18, 3) := by decide +kernel
theorem dX1_takeBack_24 : decode cX1_takeBack 24 = .ok (.aload_n 0, 1) := by decide +kernel
theorem dX1_takeBack_25 : decode cX1_takeBack 25 = .ok (.getfield 44, 3) := by decide +kernel
theorem dX1_takeBack_28 : decode cX1_takeBack 28 = .ok (.iaload, 1) := by decide +kernel
theorem dX1_takeBack_29 : decode cX1_takeBack 29 = .ok (.istore_n 1, 1) := by decide +kernel
theorem dX1_takeBack_30 : decode cX1_takeBack 30 = .ok (.aload_n 0, 1) := by decide +kernel
theorem dX1_takeBack_31 : decode cX1_takeBack 31 = .ok (.getfield 9, 3) := by decide +kernel
theorem dX1_takeBack_34 : decode cX1_takeBack 34 = .ok (.iload_n 1, 1) := by decide +kernel
theorem dX1_takeBack_35 : decode cX1_takeBack 35 = .ok (.iaload, 1) := by decide +kernel
theorem dX1_takeBack_36 : decode cX1_takeBack 36 = .ok (.ifCond .ne 21, 3) := by decide +kernel
theorem dX1_takeBack_39 : decode cX1_takeBack 39 = .ok (.aload_n 0, 1) := by decide +kernel
theorem dX1_takeBack_40 : decode cX1_takeBack 40 = .ok (.dup, 1) := by decide +kernel
theorem dX1_takeBack_41 : decode cX1_takeBack 41 = .ok (.getfield 38, 3) := by decide +kernel
theorem dX1_takeBack_44 : decode cX1_takeBack 44 = .ok (.iconst 1, 1) := by decide +kernel
theorem dX1_takeBack_45 : decode cX1_takeBack 45 = .ok (.iadd, 1) := by decide +kernel
theorem dX1_takeBack_46 : decode cX1_takeBack 46 = .ok (.putfield 38, 3) := by decide +kernel
theorem dX1_takeBack_49 : decode cX1_takeBack 49 = .ok (.aload_n 0, 1) := by decide +kernel
theorem dX1_takeBack_50 : decode cX1_takeBack 50 = .ok (.getfield 15, 3) := by decide +kernel
theorem dX1_takeBack_53 : decode cX1_takeBack 53 = .ok (.iload_n 1, 1) := by decide +kernel
theorem dX1_takeBack_54 : decode cX1_takeBack 54 = .ok (.bipush (-9), 2) := by decide +kernel
theorem dX1_takeBack_56 : decode cX1_takeBack 56 = .ok (.iastore, 1) := by decide +kernel
theorem dX1_takeBack_57 : decode cX1_takeBack 57 = .ok (.aload_n 0, 1) := by decide +kernel
theorem dX1_takeBack_58 : decode cX1_takeBack 58 = .ok (.getfield 9, 3) := by decide +kernel
theorem dX1_takeBack_61 : decode cX1_takeBack 61 = .ok (.iload_n 1, 1) := by decide +kernel
theorem dX1_takeBack_62 : decode cX1_takeBack 62 = .ok (.dup2, 1) := by decide +kernel
theorem dX1_takeBack_63 : decode cX1_takeBack 63 = .ok (.iaload, 1) := by decide +kernel
theorem dX1_takeBack_64 : decode cX1_takeBack 64 = .ok (.iconst 1, 1) := by decide +kernel
theorem dX1_takeBack_65 : decode cX1_takeBack 65 = .ok (.iadd, 1) := by decide +kernel
theorem dX1_takeBack_66 : decode cX1_takeBack 66 = .ok (.iastore, 1) := by decide +kernel
theorem dX1_takeBack_67 : decode cX1_takeBack 67 = .ok (.aload_n 0, 1) := by decide +kernel
theorem dX1_takeBack_68 : decode cX1_takeBack 68 = .ok (.aload_n 0, 1) := by decide +kernel
theorem dX1_takeBack_69 : decode cX1_takeBack 69 = .ok (.getfield 21, 3) := by decide +kernel
theorem dX1_takeBack_72 : decode cX1_takeBack 72 = .ok (.aload_n 0, 1) := by decide +kernel
theorem dX1_takeBack_73 : decode cX1_takeBack 73 = .ok (.getfield 44, 3) := by decide +kernel
theorem dX1_takeBack_76 : decode cX1_takeBack 76 = .ok (.iaload, 1) := by decide +kernel
theorem dX1_takeBack_77 : decode cX1_takeBack 77 = .ok (.putfield 41, 3) := by decide +kernel
theorem dX1_takeBack_80 : decode cX1_takeBack 80 = .ok (.iconst 1, 1) := by decide +kernel
theorem dX1_takeBack_81 : decode cX1_takeBack 81 = .ok (.ireturn, 1) := by decide +kernel
theorem dX1_latestCounted_0 : decode cX1_latestCounted 0 = .ok (.aload_n 0, 1) := by decide +kernel
theorem dX1_latestCounted_1 : decode cX1_latestCounted 1 = .ok (.getfield 44, 3) := by decide +kernel
theorem dX1_latestCounted_4 : decode cX1_latestCounted 4 = .ok (.iconst 1, 1) := by decide +kernel
theorem dX1_latestCounted_5 : decode cX1_latestCounted 5 = .ok (.if_icmp .ge 8, 3) := by decide +kernel
theorem dX1_latestCounted_8 : decode cX1_latestCounted 8 = .ok (.bipush (-9), 2) := by decide +kernel
theorem dX1_latestCounted_10 : decode cX1_latestCounted 10 = .ok (.goto 14, 3) := by decide +kernel
theorem dX1_latestCounted_13 : decode cX1_latestCounted 13 = .ok (.aload_n 0, 1) := by decide +kernel
theorem dX1_latestCounted_14 : decode cX1_latestCounted 14 = .ok (.getfield 18, 3) := by decide +kernel
theorem dX1_latestCounted_17 : decode cX1_latestCounted 17 = .ok (.aload_n 0, 1) := by decide +kernel
theorem dX1_latestCounted_18 : decode cX1_latestCounted 18 = .ok (.getfield 44, 3) := by decide +kernel
theorem dX1_latestCounted_21 : decode cX1_latestCounted 21 = .ok (.iconst 1, 1) := by decide +kernel
theorem dX1_latestCounted_22 : decode cX1_latestCounted 22 = .ok (.isub, 1) := by decide +kernel
theorem dX1_latestCounted_23 : decode cX1_latestCounted 23 = .ok (.iaload, 1) := by decide +kernel
theorem dX1_latestCounted_24 : decode cX1_latestCounted 24 = .ok (.ireturn, 1) := by decide +kernel
theorem dX1_latestOut_0 : decode cX1_latestOut 0 = .ok (.iconst 0, 1) := by decide +kernel
theorem dX1_latestOut_1 : decode cX1_latestOut 1 = .ok (.istore_n 1, 1) := by decide +kernel
theorem dX1_latestOut_2 : decode cX1_latestOut 2 = .ok (.iload_n 1, 1) := by decide +kernel
theorem dX1_latestOut_3 : decode cX1_latestOut 3 = .ok (.aload_n 0, 1) := by decide +kernel
theorem dX1_latestOut_4 : decode cX1_latestOut 4 = .ok (.getfield 34, 3) := by decide +kernel
theorem dX1_latestOut_7 : decode cX1_latestOut 7 = .ok (.if_icmp .ge 29, 3) := by decide +kernel
theorem dX1_latestOut_10 : decode cX1_latestOut 10 = .ok (.aload_n 0, 1) := by decide +kernel
theorem dX1_latestOut_11 : decode cX1_latestOut 11 = .ok (.getfield 15, 3) := by decide +kernel
theorem dX1_latestOut_14 : decode cX1_latestOut 14 = .ok (.iload_n 1, 1) := by decide +kernel
theorem dX1_latestOut_15 : decode cX1_latestOut 15 = .ok (.iaload, 1) := by decide +kernel
theorem dX1_latestOut_16 : decode cX1_latestOut 16 = .ok (.aload_n 0, 1) := by decide +kernel
theorem dX1_latestOut_17 : decode cX1_latestOut 17 = .ok (.getfield 34, 3) := by decide +kernel
theorem dX1_latestOut_20 : decode cX1_latestOut 20 = .ok (.aload_n 0, 1) := by decide +kernel
theorem dX1_latestOut_21 : decode cX1_latestOut 21 = .ok (.getfield 38, 3) := by decide +kernel
theorem dX1_latestOut_24 : decode cX1_latestOut 24 = .ok (.isub, 1) := by decide +kernel
theorem dX1_latestOut_25 : decode cX1_latestOut 25 = .ok (.if_icmp .ne 5, 3) := by decide +kernel
theorem dX1_latestOut_28 : decode cX1_latestOut 28 = .ok (.iload_n 1, 1) := by decide +kernel
theorem dX1_latestOut_29 : decode cX1_latestOut 29 = .ok (.ireturn, 1) := by decide +kernel
theorem dX1_latestOut_30 : decode cX1_latestOut 30 = .ok (.iinc 1 1, 3) := by decide +kernel
theorem dX1_latestOut_33 : decode cX1_latestOut 33 = .ok (.goto (-31), 3) := by decide +kernel
theorem dX1_latestOut_36 : decode cX1_latestOut 36 = .ok (.bipush (-9), 2) := by decide +kernel
theorem dX1_latestOut_38 : decode cX1_latestOut 38 = .ok (.ireturn, 1) := by decide +kernel
set_option maxRecDepth 20000 in
theorem ggX2_init_X0_init : GoodIn wsX2_init wsX0_init := goodIn_r _ [15, 16, 2, 3, 17, 18, 19, 20, 21, 42, 43, 44, 45] (by decide +kernel) (by decide +kernel)
set_option maxRecDepth 20000 in
theorem gX2_init_X0_init : GoodIn wsX2_init (wsX0_init) := ggX2_init_X0_init
set_option maxRecDepth 20000 in
theorem ggX2_init_X1_init : GoodIn wsX2_init wsX1_init := goodIn_r _ [24, 25, 2, 3, 17, 26, 27, 28, 29, 30, 31, 32, 10, 33, 34, 35, 36, 37, 38, 39, 40, 41, 49, 50, 51, 52, 53, 54, 55, 56] (by decide +kernel) (by decide +kernel)
set_option maxRecDepth 20000 in
theorem gX2_init_X1_init : GoodIn wsX2_init (wsX1_init) := ggX2_init_X1_init
end
section
theorem dX2_init_0 : decode cX2_init 0 = .ok (.aload_n 0, 1) := by decide +kernel
theorem dX2_init_1 : decode cX2_init 1 = .ok (.invokespecial 3, 3) := by decide +kernel
theorem dX2_init_4 : decode cX2_init 4 = .ok (.aload_n 0, 1) := by decide +kernel
theorem dX2_init_5 : decode cX2_init 5 = .ok (.new 9, 3) := by decide +kernel
theorem dX2_init_8 : decode cX2_init 8 = .ok (.dup, 1) := by decide +kernel
theorem dX2_init_9 : decode cX2_init 9 = .ok (.invokespecial 11, 3) := by decide +kernel
theorem dX2_init_12 : decode cX2_init 12 = .ok (.putfield 12, 3) := by decide +kernel
theorem dX2_init_15 : decode cX2_init 15 = .ok (.aload_n 0, 1) := by decide +kernel
theorem dX2_init_16 : decode cX2_init 16 = .ok (.new 16, 3) := by decide +kernel
theorem dX2_init_19 : decode cX2_init 19 = .ok (.dup, 1) := by decide +kernel
theorem dX2_init_20 : decode cX2_init 20 = .ok (.invokespecial 18, 3) := by decide +kernel
theorem dX2_init_23 : decode cX2_init 23 = .ok (.putfield 19, 3) := by decide +kernel
theorem dX2_init_26 : decode cX2_init 26 = .ok (.aload_n 0, 1) := by decide +kernel
theorem dX2_init_27 : decode cX2_init 27 = .ok (.lconst 0, 1) := by decide +kernel
theorem dX2_init_28 : decode cX2_init 28 = .ok (.putfield 23, 3) := by decide +kernel
theorem dX2_init_31 : decode cX2_init 31 = .ok (.return_, 1) := by decide +kernel
set_option maxRecDepth 20000 in
theorem ggX2_goes_X2_isGreatRing : GoodIn wsX2_goes wsX2_isGreatRing := goodIn_r _ [5, 6, 7, 8, 9, 4, 10] (by decide +kernel) (by decide +kernel)
set_option maxRecDepth 20000 in
theorem gX2_goes_X2_isGreatRing : GoodIn wsX2_goes (va_wsS RX2 27 yX2_isGreatRing wsX2_isGreatRing) := goodIn_app (goodIn_of _ (by decide +kernel)) ggX2_goes_X2_isGreatRing
set_option maxRecDepth 20000 in
theorem ggX2_goes_X2_isWithin : GoodIn wsX2_goes wsX2_isWithin := goodIn_r _ [10] (by decide +kernel) (by decide +kernel)
set_option maxRecDepth 20000 in
theorem gX2_goes_X2_isWithin : GoodIn wsX2_goes (va_wsS RX2 31 yX2_isWithin wsX2_isWithin) := goodIn_app (goodIn_of _ (by decide +kernel)) ggX2_goes_X2_isWithin
set_option maxRecDepth 20000 in
theorem ggX2_goes_X2_placeOfGoing : GoodIn wsX2_goes wsX2_placeOfGoing := goodIn_r _ [13, 14] (by decide +kernel) (by decide +kernel)
set_option maxRecDepth 20000 in
theorem gX2_goes_X2_placeOfGoing : GoodIn wsX2_goes (va_wsS RX2 37 yX2_placeOfGoing wsX2_placeOfGoing) := goodIn_app (goodIn_of _ (by decide +kernel)) ggX2_goes_X2_placeOfGoing
theorem dX2_goes_0 : decode cX2_goes 0 = .ok (.lload_n 1, 1) := by decide +kernel
theorem dX2_goes_1 : decode cX2_goes 1 = .ok (.iload_n 3, 1) := by decide +kernel
theorem dX2_goes_2 : decode cX2_goes 2 = .ok (.invokestatic 27, 3) := by decide +kernel
theorem dX2_goes_5 : decode cX2_goes 5 = .ok (.ifCond .eq 13, 3) := by decide +kernel
theorem dX2_goes_8 : decode cX2_goes 8 = .ok (.lload 4, 2) := by decide +kernel
theorem dX2_goes_10 : decode cX2_goes 10 = .ok (.lconst 1, 1) := by decide +kernel
theorem dX2_goes_11 : decode cX2_goes 11 = .ok (.lload_n 1, 1) := by decide +kernel
theorem dX2_goes_12 : decode cX2_goes 12 = .ok (.invokestatic 31, 3) := by decide +kernel
theorem dX2_goes_15 : decode cX2_goes 15 = .ok (.ifCond .ne 7, 3) := by decide +kernel
theorem dX2_goes_18 : decode cX2_goes 18 = .ok (.ldc2_w 35, 3) := by decide +kernel
theorem dX2_goes_21 : decode cX2_goes 21 = .ok (.lreturn, 1) := by decide +kernel
theorem dX2_goes_22 : decode cX2_goes 22 = .ok (.lload_n 1, 1) := by decide +kernel
theorem dX2_goes_23 : decode cX2_goes 23 = .ok (.iload_n 3, 1) := by decide +kernel
theorem dX2_goes_24 : decode cX2_goes 24 = .ok (.lload 4, 2) := by decide +kernel
theorem dX2_goes_26 : decode cX2_goes 26 = .ok (.invokestatic 37, 3) := by decide +kernel
theorem dX2_goes_29 : decode cX2_goes 29 = .ok (.lreturn, 1) := by decide +kernel
set_option maxRecDepth 20000 in
theorem ggX2_turn_X2_isGreatRing : GoodIn wsX2_turn wsX2_isGreatRing := goodIn_r _ [5, 6, 7, 8, 9, 4, 10] (by decide +kernel) (by decide +kernel)
set_option maxRecDepth 20000 in
theorem gX2_turn_X2_isGreatRing : GoodIn wsX2_turn (va_wsS RX2 27 yX2_isGreatRing wsX2_isGreatRing) := goodIn_app (goodIn_of _ (by decide +kernel)) ggX2_turn_X2_isGreatRing
set_option maxRecDepth 20000 in
theorem ggX2_turn_X2_isWithin : GoodIn wsX2_turn wsX2_isWithin := goodIn_r _ [10] (by decide +kernel) (by decide +kernel)
set_option maxRecDepth 20000 in
theorem gX2_turn_X2_isWithin : GoodIn wsX2_turn (va_wsS RX2 31 yX2_isWithin wsX2_isWithin) := goodIn_app (goodIn_of _ (by decide +kernel)) ggX2_turn_X2_isWithin
set_option maxRecDepth 20000 in
theorem ggX2_turn_X2_goingOfPlace : GoodIn wsX2_turn wsX2_goingOfPlace := goodIn_r _ [13, 14] (by decide +kernel) (by decide +kernel)
set_option maxRecDepth 20000 in
theorem gX2_turn_X2_goingOfPlace : GoodIn wsX2_turn (va_wsS RX2 41 yX2_goingOfPlace wsX2_goingOfPlace) := goodIn_app (goodIn_of _ (by decide +kernel)) ggX2_turn_X2_goingOfPlace
theorem dX2_turn_0 : decode cX2_turn 0 = .ok (.lload_n 1, 1) := by decide +kernel
theorem dX2_turn_1 : decode cX2_turn 1 = .ok (.iload_n 3, 1) := by decide +kernel
theorem dX2_turn_2 : decode cX2_turn 2 = .ok (.invokestatic 27, 3) := by decide +kernel
theorem dX2_turn_5 : decode cX2_turn 5 = .ok (.ifCond .eq 15, 3) := by decide +kernel
theorem dX2_turn_8 : decode cX2_turn 8 = .ok (.lload 4, 2) := by decide +kernel
theorem dX2_turn_10 : decode cX2_turn 10 = .ok (.lconst 0, 1) := by decide +kernel
theorem dX2_turn_11 : decode cX2_turn 11 = .ok (.lload_n 1, 1) := by decide +kernel
theorem dX2_turn_12 : decode cX2_turn 12 = .ok (.lconst 1, 1) := by decide +kernel
theorem dX2_turn_13 : decode cX2_turn 13 = .ok (.lsub, 1) := by decide +kernel
theorem dX2_turn_14 : decode cX2_turn 14 = .ok (.invokestatic 31, 3) := by decide +kernel
theorem dX2_turn_17 : decode cX2_turn 17 = .ok (.ifCond .ne 7, 3) := by decide +kernel
theorem dX2_turn_20 : decode cX2_turn 20 = .ok (.ldc2_w 35, 3) := by decide +kernel
theorem dX2_turn_23 : decode cX2_turn 23 = .ok (.lreturn, 1) := by decide +kernel
theorem dX2_turn_24 : decode cX2_turn 24 = .ok (.lload_n 1, 1) := by decide +kernel
theorem dX2_turn_25 : decode cX2_turn 25 = .ok (.iload_n 3, 1) := by decide +kernel
theorem dX2_turn_26 : decode cX2_turn 26 = .ok (.lload 4, 2) := by decide +kernel
theorem dX2_turn_28 : decode cX2_turn 28 = .ok (.invokestatic 41, 3) := by decide +kernel
theorem dX2_turn_31 : decode cX2_turn 31 = .ok (.lreturn, 1) := by decide +kernel
set_option maxRecDepth 20000 in
theorem ggX2_last_X2_isGreatRing : GoodIn wsX2_last wsX2_isGreatRing := goodIn_r _ [5, 6, 7, 8, 9, 4, 10] (by decide +kernel) (by decide +kernel)
set_option maxRecDepth 20000 in
theorem gX2_last_X2_isGreatRing : GoodIn wsX2_last (va_wsS RX2 27 yX2_isGreatRing wsX2_isGreatRing) := goodIn_app (goodIn_of _ (by decide +kernel)) ggX2_last_X2_isGreatRing
set_option maxRecDepth 20000 in
theorem ggX2_last_X2_placeOfGoing : GoodIn wsX2_last wsX2_placeOfGoing := goodIn_r _ [13, 14] (by decide +kernel) (by decide +kernel)
set_option maxRecDepth 20000 in
theorem gX2_last_X2_placeOfGoing : GoodIn wsX2_last (va_wsS RX2 37 yX2_placeOfGoing wsX2_placeOfGoing) := goodIn_app (goodIn_of _ (by decide +kernel)) ggX2_last_X2_placeOfGoing
theorem dX2_last_0 : decode cX2_last 0 = .ok (.lload_n 1, 1) := by decide +kernel
theorem dX2_last_1 : decode cX2_last 1 = .ok (.iload_n 3, 1) := by decide +kernel
theorem dX2_last_2 : decode cX2_last 2 = .ok (.invokestatic 27, 3) := by decide +kernel
theorem dX2_last_5 : decode cX2_last 5 = .ok (.ifCond .ne 7, 3) := by decide +kernel
theorem dX2_last_8 : decode cX2_last 8 = .ok (.ldc2_w 35, 3) := by decide +kernel
theorem dX2_last_11 : decode cX2_last 11 = .ok (.lreturn, 1) := by decide +kernel
theorem dX2_last_12 : decode cX2_last 12 = .ok (.lload_n 1, 1) := by decide +kernel
theorem dX2_last_13 : decode cX2_last 13 = .ok (.iload_n 3, 1) := by decide +kernel
theorem dX2_last_14 : decode cX2_last 14 = .ok (.lload_n 1, 1) := by decide +kernel
theorem dX2_last_15 : decode cX2_last 15 = .ok (.invokestatic 37, 3) := by decide +kernel
theorem dX2_last_18 : decode cX2_last 18 = .ok (.lreturn, 1) := by decide +kernel
set_option maxRecDepth 20000 in
theorem ggX2_first_X2_isHeap : GoodIn wsX2_first wsX2_isHeap := goodIn_r _ [5, 6, 7, 8, 9, 4, 10] (by decide +kernel) (by decide +kernel)
set_option maxRecDepth 20000 in
theorem gX2_first_X2_isHeap : GoodIn wsX2_first (va_wsS RX2 44 yX2_isHeap wsX2_isHeap) := goodIn_app (goodIn_of _ (by decide +kernel)) ggX2_first_X2_isHeap
set_option maxRecDepth 20000 in
theorem ggX2_first_X2_isWithin : GoodIn wsX2_first wsX2_isWithin := goodIn_r _ [10] (by decide +kernel) (by decide +kernel)
set_option maxRecDepth 20000 in
theorem gX2_first_X2_isWithin : GoodIn wsX2_first (va_wsS RX2 31 yX2_isWithin wsX2_isWithin) := goodIn_app (goodIn_of _ (by decide +kernel)) ggX2_first_X2_isWithin
set_option maxRecDepth 20000 in
theorem ggX2_first_X2_goesFirst : GoodIn wsX2_first wsX2_goesFirst := goodIn_r _ [13, 14, 15, 4, 16] (by decide +kernel) (by decide +kernel)
set_option maxRecDepth 20000 in
theorem gX2_first_X2_goesFirst : GoodIn wsX2_first (va_wsS RX2 50 yX2_goesFirst wsX2_goesFirst) := goodIn_app (goodIn_of _ (by decide +kernel)) ggX2_first_X2_goesFirst
theorem dX2_first_0 : decode cX2_first 0 = .ok (.iload_n 1, 1) := by decide +kernel
theorem dX2_first_1 : decode cX2_first 1 = .ok (.iload_n 2, 1) := by decide +kernel
theorem dX2_first_2 : decode cX2_first 2 = .ok (.invokestatic 44, 3) := by decide +kernel
theorem dX2_first_5 : decode cX2_first 5 = .ok (.ifCond .eq 15, 3) := by decide +kernel
theorem dX2_first_8 : decode cX2_first 8 = .ok (.iload_n 3, 1) := by decide +kernel
theorem dX2_first_9 : decode cX2_first 9 = .ok (.i2l, 1) := by decide +kernel
theorem dX2_first_10 : decode cX2_first 10 = .ok (.lconst 1, 1) := by decide +kernel
theorem dX2_first_11 : decode cX2_first 11 = .ok (.ldc2_w 48, 3) := by decide +kernel
theorem dX2_first_14 : decode cX2_first 14 = .ok (.invokestatic 31, 3) := by decide +kernel
theorem dX2_first_17 : decode cX2_first 17 = .ok (.ifCond .ne 5, 3) := by decide +kernel
theorem dX2_first_20 : decode cX2_first 20 = .ok (.iconst (-1), 1) := by decide +kernel
theorem dX2_first_21 : decode cX2_first 21 = .ok (.ireturn, 1) := by decide +kernel
theorem dX2_first_22 : decode cX2_first 22 = .ok (.iload_n 1, 1) := by decide +kernel
theorem dX2_first_23 : decode cX2_first 23 = .ok (.iload_n 2, 1) := by decide +kernel
theorem dX2_first_24 : decode cX2_first 24 = .ok (.iload_n 3, 1) := by decide +kernel
theorem dX2_first_25 : decode cX2_first 25 = .ok (.invokestatic 50, 3) := by decide +kernel
theorem dX2_first_28 : decode cX2_first 28 = .ok (.ifCond .eq 7, 3) := by decide +kernel
theorem dX2_first_31 : decode cX2_first 31 = .ok (.iconst 1, 1) := by decide +kernel
theorem dX2_first_32 : decode cX2_first 32 = .ok (.goto 4, 3) := by decide +kernel
theorem dX2_first_35 : decode cX2_first 35 = .ok (.iconst 0, 1) := by decide +kernel
theorem dX2_first_36 : decode cX2_first 36 = .ok (.ireturn, 1) := by decide +kernel
set_option maxRecDepth 20000 in
theorem ggX2_least_X2_isHeap : GoodIn wsX2_least wsX2_isHeap := goodIn_r _ [4, 5, 6, 7, 8, 3, 9] (by decide +kernel) (by decide +kernel)
set_option maxRecDepth 20000 in
theorem gX2_least_X2_isHeap : GoodIn wsX2_least (va_wsS RX2 44 yX2_isHeap wsX2_isHeap) := goodIn_app (goodIn_of _ (by decide +kernel)) ggX2_least_X2_isHeap
set_option maxRecDepth 20000 in
theorem ggX2_least_X2_goesFirst : GoodIn wsX2_least wsX2_goesFirst := goodIn_r _ [12, 13, 14, 3, 15] (by decide +kernel) (by decide +kernel)
set_option maxRecDepth 20000 in
theorem gX2_least_X2_goesFirst : GoodIn wsX2_least (va_wsS RX2 50 yX2_goesFirst wsX2_goesFirst) := goodIn_app (goodIn_of _ (by decide +kernel)) ggX2_least_X2_goesFirst
theorem dX2_least_0 : decode cX2_least 0 = .ok (.iload_n 1, 1) := by decide +kernel
theorem dX2_least_1 : decode cX2_least 1 = .ok (.iload_n 2, 1) := by decide +kernel
theorem dX2_least_2 : decode cX2_least 2 = .ok (.invokestatic 44, 3) := by decide +kernel
theorem dX2_least_5 : decode cX2_least 5 = .ok (.ifCond .ne 5, 3) := by decide +kernel
theorem dX2_least_8 : decode cX2_least 8 = .ok (.iconst (-1), 1) := by decide +kernel
theorem dX2_least_9 : decode cX2_least 9 = .ok (.ireturn, 1) := by decide +kernel
theorem dX2_least_10 : decode cX2_least 10 = .ok (.iconst 1, 1) := by decide +kernel
theorem dX2_least_11 : decode cX2_least 11 = .ok (.istore_n 3, 1) := by decide +kernel
theorem dX2_least_12 : decode cX2_least 12 = .ok (.iload_n 3, 1) := by decide +kernel
theorem dX2_least_13 : decode cX2_least 13 = .ok (.sipush 10000, 3) := by decide +kernel
theorem dX2_least_16 : decode cX2_least 16 = .ok (.if_icmp .gt 20, 3) := by decide +kernel
theorem dX2_least_19 : decode cX2_least 19 = .ok (.iload_n 1, 1) := by decide +kernel
theorem dX2_least_20 : decode cX2_least 20 = .ok (.iload_n 2, 1) := by decide +kernel
theorem dX2_least_21 : decode cX2_least 21 = .ok (.iload_n 3, 1) := by decide +kernel
theorem dX2_least_22 : decode cX2_least 22 = .ok (.invokestatic 50, 3) := by decide +kernel
theorem dX2_least_25 : decode cX2_least 25 = .ok (.ifCond .eq 5, 3) := by decide +kernel
theorem dX2_least_28 : decode cX2_least 28 = .ok (.iload_n 3, 1) := by decide +kernel
theorem dX2_least_29 : decode cX2_least 29 = .ok (.ireturn, 1) := by decide +kernel
theorem dX2_least_30 : decode cX2_least 30 = .ok (.iinc 3 1, 3) := by decide +kernel
theorem dX2_least_33 : decode cX2_least 33 = .ok (.goto (-21), 3) := by decide +kernel
theorem dX2_least_36 : decode cX2_least 36 = .ok (.bipush (-9), 2) := by decide +kernel
theorem dX2_least_38 : decode cX2_least 38 = .ok (.ireturn, 1) := by decide +kernel
set_option maxRecDepth 20000 in
theorem ggX2_ring_X2_isWithin : GoodIn wsX2_ring wsX2_isWithin := goodIn_r _ [7] (by decide +kernel) (by decide +kernel)
set_option maxRecDepth 20000 in
theorem gX2_ring_X2_isWithin : GoodIn wsX2_ring (va_wsS RX2 31 yX2_isWithin wsX2_isWithin) := goodIn_app (goodIn_of _ (by decide +kernel)) ggX2_ring_X2_isWithin
set_option maxRecDepth 20000 in
theorem ggX2_ring_X1_begin : GoodIn wsX2_ring wsX1_begin := goodIn_r _ [12, 13, 14, 15, 16, 17, 18, 19, 20, 21, 22, 26, 27, 28, 29, 30, 31, 32, 33] (by decide +kernel) (by decide +kernel)
set_option maxRecDepth 20000 in
theorem gX2_ring_X1_begin : GoodIn wsX2_ring (wsV RX2 60 RX1 yX1_begin wsX1_begin) := goodIn_app (goodIn_of _ (by decide +kernel)) ggX2_ring_X1_begin
theorem dX2_ring_0 : decode cX2_ring 0 = .ok (.iload_n 1, 1) := by decide +kernel
theorem dX2_ring_1 : decode cX2_ring 1 = .ok (.i2l, 1) := by decide +kernel
theorem dX2_ring_2 : decode cX2_ring 2 = .ok (.lconst 1, 1) := by decide +kernel
theorem dX2_ring_3 : decode cX2_ring 3 = .ok (.ldc2_w 54, 3) := by decide +kernel
theorem dX2_ring_6 : decode cX2_ring 6 = .ok (.invokestatic 31, 3) := by decide +kernel
theorem dX2_ring_9 : decode cX2_ring 9 = .ok (.ifCond .ne 5, 3) := by decide +kernel
theorem dX2_ring_12 : decode cX2_ring 12 = .ok (.iconst (-1), 1) := by decide +kernel
theorem dX2_ring_13 : decode cX2_ring 13 = .ok (.ireturn, 1) := by decide +kernel
theorem dX2_ring_14 : decode cX2_ring 14 = .ok (.aload_n 0, 1) := by decide +kernel
theorem dX2_ring_15 : decode cX2_ring 15 = .ok (.getfield 19, 3) := by decide +kernel
theorem dX2_ring_18 : decode cX2_ring 18 = .ok (.getfield 56, 3) := by decide +kernel
theorem dX2_ring_21 : decode cX2_ring 21 = .ok (.istore_n 2, 1) := by decide +kernel
theorem dX2_ring_22 : decode cX2_ring 22 = .ok (.aload_n 0, 1) := by decide +kernel
theorem dX2_ring_23 : decode cX2_ring 23 = .ok (.getfield 19, 3) := by decide +kernel
theorem dX2_ring_26 : decode cX2_ring 26 = .ok (.iload_n 1, 1) := by decide +kernel
theorem dX2_ring_27 : decode cX2_ring 27 = .ok (.invokevirtual 60, 3) := by decide +kernel
theorem dX2_ring_30 : decode cX2_ring 30 = .ok (.iload_n 2, 1) := by decide +kernel
theorem dX2_ring_31 : decode cX2_ring 31 = .ok (.ireturn, 1) := by decide +kernel
set_option maxRecDepth 20000 in
theorem ggX2_lives_X1_has : GoodIn wsX2_lives wsX1_has := goodIn_r _ [7, 8, 26, 27, 28, 29, 30, 31, 32, 33] (by decide +kernel) (by decide +kernel)
set_option maxRecDepth 20000 in
theorem gX2_lives_X1_has : GoodIn wsX2_lives (wsV RX2 64 RX1 yX1_has wsX1_has) := goodIn_app (goodIn_of _ (by decide +kernel)) ggX2_lives_X1_has
set_option maxRecDepth 20000 in
theorem ggX2_lives_X2_isWithin : GoodIn wsX2_lives wsX2_isWithin := goodIn_r _ [12] (by decide +kernel) (by decide +kernel)
set_option maxRecDepth 20000 in
theorem gX2_lives_X2_isWithin : GoodIn wsX2_lives (va_wsS RX2 31 yX2_isWithin wsX2_isWithin) := goodIn_app (goodIn_of _ (by decide +kernel)) ggX2_lives_X2_isWithin
set_option maxRecDepth 20000 in
theorem ggX2_lives_X1_hasBegun : GoodIn wsX2_lives wsX1_hasBegun := goodIn_r _ [16, 17, 26, 27, 28, 29, 30, 31, 32, 33] (by decide +kernel) (by decide +kernel)
set_option maxRecDepth 20000 in
theorem gX2_lives_X1_hasBegun : GoodIn wsX2_lives (wsV RX2 70 RX1 yX1_hasBegun wsX1_hasBegun) := goodIn_app (goodIn_of _ (by decide +kernel)) ggX2_lives_X1_hasBegun
set_option maxRecDepth 20000 in
theorem ggX2_lives_X1_giveLives : GoodIn wsX2_lives wsX1_giveLives := goodIn_r _ [21, 22, 26, 27, 28, 29, 30, 31, 32, 33] (by decide +kernel) (by decide +kernel)
set_option maxRecDepth 20000 in
theorem gX2_lives_X1_giveLives : GoodIn wsX2_lives (wsV RX2 74 RX1 yX1_giveLives wsX1_giveLives) := goodIn_app (goodIn_of _ (by decide +kernel)) ggX2_lives_X1_giveLives
theorem dX2_lives_0 : decode cX2_lives 0 = .ok (.aload_n 0, 1) := by decide +kernel
theorem dX2_lives_1 : decode cX2_lives 1 = .ok (.getfield 19, 3) := by decide +kernel
theorem dX2_lives_4 : decode cX2_lives 4 = .ok (.iload_n 1, 1) := by decide +kernel
theorem dX2_lives_5 : decode cX2_lives 5 = .ok (.invokevirtual 64, 3) := by decide +kernel
theorem dX2_lives_8 : decode cX2_lives 8 = .ok (.ifCond .eq 15, 3) := by decide +kernel
theorem dX2_lives_11 : decode cX2_lives 11 = .ok (.iload_n 2, 1) := by decide +kernel
theorem dX2_lives_12 : decode cX2_lives 12 = .ok (.i2l, 1) := by decide +kernel
theorem dX2_lives_13 : decode cX2_lives 13 = .ok (.lconst 1, 1) := by decide +kernel
theorem dX2_lives_14 : decode cX2_lives 14 = .ok (.ldc2_w 68, 3) := by decide +kernel
theorem dX2_lives_17 : decode cX2_lives 17 = .ok (.invokestatic 31, 3) := by decide +kernel
theorem dX2_lives_20 : decode cX2_lives 20 = .ok (.ifCond .ne 5, 3) := by decide +kernel
theorem dX2_lives_23 : decode cX2_lives 23 = .ok (.iconst (-1), 1) := by decide +kernel
theorem dX2_lives_24 : decode cX2_lives 24 = .ok (.ireturn, 1) := by decide +kernel
theorem dX2_lives_25 : decode cX2_lives 25 = .ok (.aload_n 0, 1) := by decide +kernel
theorem dX2_lives_26 : decode cX2_lives 26 = .ok (.getfield 19, 3) := by decide +kernel
theorem dX2_lives_29 : decode cX2_lives 29 = .ok (.invokevirtual 70, 3) := by decide +kernel
theorem dX2_lives_32 : decode cX2_lives 32 = .ok (.ifCond .eq 6, 3) := by decide +kernel
theorem dX2_lives_35 : decode cX2_lives 35 = .ok (.bipush (-2), 2) := by decide +kernel
theorem dX2_lives_37 : decode cX2_lives 37 = .ok (.ireturn, 1) := by decide +kernel
theorem dX2_lives_38 : decode cX2_lives 38 = .ok (.aload_n 0, 1) := by decide +kernel
theorem dX2_lives_39 : decode cX2_lives 39 = .ok (.getfield 19, 3) := by decide +kernel
theorem dX2_lives_42 : decode cX2_lives 42 = .ok (.iload_n 1, 1) := by decide +kernel
theorem dX2_lives_43 : decode cX2_lives 43 = .ok (.iload_n 2, 1) := by decide +kernel
theorem dX2_lives_44 : decode cX2_lives 44 = .ok (.invokevirtual 74, 3) := by decide +kernel
theorem dX2_lives_47 : decode cX2_lives 47 = .ok (.ireturn, 1) := by decide +kernel
set_option maxRecDepth 20000 in
theorem ggX2_set_X2_isWithin : GoodIn wsX2_set wsX2_isWithin := goodIn_r _ [8] (by decide +kernel) (by decide +kernel)
set_option maxRecDepth 20000 in
theorem gX2_set_X2_isWithin : GoodIn wsX2_set (va_wsS RX2 31 yX2_isWithin wsX2_isWithin) := goodIn_app (goodIn_of _ (by decide +kernel)) ggX2_set_X2_isWithin
set_option maxRecDepth 20000 in
theorem ggX2_set_X1_hasBegun : GoodIn wsX2_set wsX1_hasBegun := goodIn_r _ [13, 14, 29, 30, 31, 32, 33, 34, 35, 36] (by decide +kernel) (by decide +kernel)
set_option maxRecDepth 20000 in
theorem gX2_set_X1_hasBegun : GoodIn wsX2_set (wsV RX2 70 RX1 yX1_hasBegun wsX1_hasBegun) := goodIn_app (goodIn_of _ (by decide +kernel)) ggX2_set_X1_hasBegun
set_option maxRecDepth 20000 in
theorem ggX2_set_X0_changeStep : GoodIn wsX2_set wsX0_changeStep := goodIn_r _ [19, 20, 37, 38, 39, 40] (by decide +kernel) (by decide +kernel)
set_option maxRecDepth 20000 in
theorem gX2_set_X0_changeStep : GoodIn wsX2_set (wsV RX2 82 RX0 yX0_changeStep wsX0_changeStep) := goodIn_app (goodIn_of _ (by decide +kernel)) ggX2_set_X0_changeStep
set_option maxRecDepth 20000 in
theorem ggX2_set_X0_changeKind : GoodIn wsX2_set wsX0_changeKind := goodIn_r _ [24, 25, 37, 38, 39, 40] (by decide +kernel) (by decide +kernel)
set_option maxRecDepth 20000 in
theorem gX2_set_X0_changeKind : GoodIn wsX2_set (wsV RX2 86 RX0 yX0_changeKind wsX0_changeKind) := goodIn_app (goodIn_of _ (by decide +kernel)) ggX2_set_X0_changeKind
theorem dX2_set_0 : decode cX2_set 0 = .ok (.iload_n 1, 1) := by decide +kernel
theorem dX2_set_1 : decode cX2_set 1 = .ok (.ifCond .ne 19, 3) := by decide +kernel
theorem dX2_set_4 : decode cX2_set 4 = .ok (.iload_n 2, 1) := by decide +kernel
theorem dX2_set_5 : decode cX2_set 5 = .ok (.i2l, 1) := by decide +kernel
theorem dX2_set_6 : decode cX2_set 6 = .ok (.lconst 1, 1) := by decide +kernel
theorem dX2_set_7 : decode cX2_set 7 = .ok (.ldc2_w 78, 3) := by decide +kernel
theorem dX2_set_10 : decode cX2_set 10 = .ok (.invokestatic 31, 3) := by decide +kernel
theorem dX2_set_13 : decode cX2_set 13 = .ok (.ifCond .eq 7, 3) := by decide +kernel
theorem dX2_set_16 : decode cX2_set 16 = .ok (.iconst 1, 1) := by decide +kernel
theorem dX2_set_17 : decode cX2_set 17 = .ok (.goto 4, 3) := by decide +kernel
theorem dX2_set_20 : decode cX2_set 20 = .ok (.iconst 0, 1) := by decide +kernel
theorem dX2_set_21 : decode cX2_set 21 = .ok (.istore_n 3, 1) := by decide +kernel
theorem dX2_set_22 : decode cX2_set 22 = .ok (.iload_n 1, 1) := by decide +kernel
theorem dX2_set_23 : decode cX2_set 23 = .ok (.iconst 1, 1) := by decide +kernel
theorem dX2_set_24 : decode cX2_set 24 = .ok (.if_icmp .ne 19, 3) := by decide +kernel
theorem dX2_set_27 : decode cX2_set 27 = .ok (.iload_n 2, 1) := by decide +kernel
theorem dX2_set_28 : decode cX2_set 28 = .ok (.i2l, 1) := by decide +kernel
theorem dX2_set_29 : decode cX2_set 29 = .ok (.lconst 0, 1) := by decide +kernel
theorem dX2_set_30 : decode cX2_set 30 = .ok (.ldc2_w 80, 3) := by decide +kernel
theorem dX2_set_33 : decode cX2_set 33 = .ok (.invokestatic 31, 3) := by decide +kernel
theorem dX2_set_36 : decode cX2_set 36 = .ok (.ifCond .eq 7, 3) := by decide +kernel
theorem dX2_set_39 : decode cX2_set 39 = .ok (.iconst 1, 1) := by decide +kernel
theorem dX2_set_40 : decode cX2_set 40 = .ok (.goto 4, 3) := by decide +kernel
theorem dX2_set_43 : decode cX2_set 43 = .ok (.iconst 0, 1) := by decide +kernel
theorem dX2_set_44 : decode cX2_set 44 = .ok (.istore 4, 2) := by decide +kernel
theorem dX2_set_46 : decode cX2_set 46 = .ok (.iload_n 3, 1) := by decide +kernel
theorem dX2_set_47 : decode cX2_set 47 = .ok (.ifCond .ne 10, 3) := by decide +kernel
theorem dX2_set_50 : decode cX2_set 50 = .ok (.iload 4, 2) := by decide +kernel
theorem dX2_set_52 : decode cX2_set 52 = .ok (.ifCond .ne 5, 3) := by decide +kernel
theorem dX2_set_55 : decode cX2_set 55 = .ok (.iconst (-1), 1) := by decide +kernel
theorem dX2_set_56 : decode cX2_set 56 = .ok (.ireturn, 1) := by decide +kernel
theorem dX2_set_57 : decode cX2_set 57 = .ok (.aload_n 0, 1) := by decide +kernel
theorem dX2_set_58 : decode cX2_set 58 = .ok (.getfield 19, 3) := by decide +kernel
theorem dX2_set_61 : decode cX2_set 61 = .ok (.invokevirtual 70, 3) := by decide +kernel
theorem dX2_set_64 : decode cX2_set 64 = .ok (.ifCond .eq 6, 3) := by decide +kernel
theorem dX2_set_67 : decode cX2_set 67 = .ok (.bipush (-2), 2) := by decide +kernel
theorem dX2_set_69 : decode cX2_set 69 = .ok (.ireturn, 1) := by decide +kernel
theorem dX2_set_70 : decode cX2_set 70 = .ok (.iload_n 3, 1) := by decide +kernel
theorem dX2_set_71 : decode cX2_set 71 = .ok (.ifCond .eq 14, 3) := by decide +kernel
theorem dX2_set_74 : decode cX2_set 74 = .ok (.aload_n 0, 1) := by decide +kernel
theorem dX2_set_75 : decode cX2_set 75 = .ok (.getfield 12, 3) := by decide +kernel
theorem dX2_set_78 : decode cX2_set 78 = .ok (.iload_n 2, 1) := by decide +kernel
theorem dX2_set_79 : decode cX2_set 79 = .ok (.invokevirtual 82, 3) := by decide +kernel
theorem dX2_set_82 : decode cX2_set 82 = .ok (.goto 11, 3) := by decide +kernel
theorem dX2_set_85 : decode cX2_set 85 = .ok (.aload_n 0, 1) := by decide +kernel
theorem dX2_set_86 : decode cX2_set 86 = .ok (.getfield 12, 3) := by decide +kernel
theorem dX2_set_89 : decode cX2_set 89 = .ok (.iload_n 2, 1) := by decide +kernel
theorem dX2_set_90 : decode cX2_set 90 = .ok (.invokevirtual 86, 3) := by decide +kernel
theorem dX2_set_93 : decode cX2_set 93 = .ok (.ireturn, 1) := by decide +kernel
set_option maxRecDepth 20000 in
theorem ggX2_words_X2_isWithin : GoodIn wsX2_words wsX2_isWithin := goodIn_r _ [8] (by decide +kernel) (by decide +kernel)
set_option maxRecDepth 20000 in
theorem gX2_words_X2_isWithin : GoodIn wsX2_words (va_wsS RX2 31 yX2_isWithin wsX2_isWithin) := goodIn_app (goodIn_of _ (by decide +kernel)) ggX2_words_X2_isWithin
set_option maxRecDepth 20000 in
theorem ggX2_words_X2_isWord : GoodIn wsX2_words wsX2_isWord := goodIn_r _ [11, 12, 5, 6, 7, 8] (by decide +kernel) (by decide +kernel)
set_option maxRecDepth 20000 in
theorem gX2_words_X2_isWord : GoodIn wsX2_words (va_wsS RX2 91 yX2_isWord wsX2_isWord) := goodIn_app (goodIn_of _ (by decide +kernel)) ggX2_words_X2_isWord
set_option maxRecDepth 20000 in
theorem ggX2_words_X1_hasBegun : GoodIn wsX2_words wsX1_hasBegun := goodIn_r _ [17, 18, 37, 38, 39, 40, 41, 42, 43, 44] (by decide +kernel) (by decide +kernel)
set_option maxRecDepth 20000 in
theorem gX2_words_X1_hasBegun : GoodIn wsX2_words (wsV RX2 70 RX1 yX1_hasBegun wsX1_hasBegun) := goodIn_app (goodIn_of _ (by decide +kernel)) ggX2_words_X1_hasBegun
set_option maxRecDepth 20000 in
theorem ggX2_words_X0_takeWords : GoodIn wsX2_words wsX0_takeWords := goodIn_r _ [23, 24, 25, 33, 34, 35, 36] (by decide +kernel) (by decide +kernel)
set_option maxRecDepth 20000 in
theorem gX2_words_X0_takeWords : GoodIn wsX2_words (wsV RX2 94 RX0 yX0_takeWords wsX0_takeWords) := goodIn_app (goodIn_of _ (by decide +kernel)) ggX2_words_X0_takeWords
set_option maxRecDepth 20000 in
theorem ggX2_words_X0_mirrorWords : GoodIn wsX2_words wsX0_mirrorWords := goodIn_r _ [29, 25, 24, 33, 34, 35, 36] (by decide +kernel) (by decide +kernel)
set_option maxRecDepth 20000 in
theorem gX2_words_X0_mirrorWords : GoodIn wsX2_words (wsV RX2 98 RX0 yX0_mirrorWords wsX0_mirrorWords) := goodIn_app (goodIn_of _ (by decide +kernel)) ggX2_words_X0_mirrorWords
theorem dX2_words_0 : decode cX2_words 0 = .ok (.iload_n 1, 1) := by decide +kernel
theorem dX2_words_1 : decode cX2_words 1 = .ok (.i2l, 1) := by decide +kernel
theorem dX2_words_2 : decode cX2_words 2 = .ok (.lconst 1, 1) := by decide +kernel
theorem dX2_words_3 : decode cX2_words 3 = .ok (.ldc2_w 89, 3) := by decide +kernel
theorem dX2_words_6 : decode cX2_words 6 = .ok (.invokestatic 31, 3) := by decide +kernel
theorem dX2_words_9 : decode cX2_words 9 = .ok (.ifCond .ne 5, 3) := by decide +kernel
theorem dX2_words_12 : decode cX2_words 12 = .ok (.iconst (-1), 1) := by decide +kernel
theorem dX2_words_13 : decode cX2_words 13 = .ok (.ireturn, 1) := by decide +kernel
theorem dX2_words_14 : decode cX2_words 14 = .ok (.iload_n 2, 1) := by decide +kernel
theorem dX2_words_15 : decode cX2_words 15 = .ok (.invokestatic 91, 3) := by decide +kernel
theorem dX2_words_18 : decode cX2_words 18 = .ok (.ifCond .eq 41, 3) := by decide +kernel
theorem dX2_words_21 : decode cX2_words 21 = .ok (.iload_n 1, 1) := by decide +kernel
theorem dX2_words_22 : decode cX2_words 22 = .ok (.iconst 1, 1) := by decide +kernel
theorem dX2_words_23 : decode cX2_words 23 = .ok (.if_icmp .le 10, 3) := by decide +kernel
theorem dX2_words_26 : decode cX2_words 26 = .ok (.iload_n 3, 1) := by decide +kernel
theorem dX2_words_27 : decode cX2_words 27 = .ok (.invokestatic 91, 3) := by decide +kernel
theorem dX2_words_30 : decode cX2_words 30 = .ok (.ifCond .eq 29, 3) := by decide +kernel
theorem dX2_words_33 : decode cX2_words 33 = .ok (.iload_n 1, 1) := by decide +kernel
theorem dX2_words_34 : decode cX2_words 34 = .ok (.iconst 2, 1) := by decide +kernel
theorem dX2_words_35 : decode cX2_words 35 = .ok (.if_icmp .le 11, 3) := by decide +kernel
theorem dX2_words_38 : decode cX2_words 38 = .ok (.iload 4, 2) := by decide +kernel
theorem dX2_words_40 : decode cX2_words 40 = .ok (.invokestatic 91, 3) := by decide +kernel
theorem dX2_words_43 : decode cX2_words 43 = .ok (.ifCond .eq 16, 3) := by decide +kernel
theorem dX2_words_46 : decode cX2_words 46 = .ok (.iload_n 1, 1) := by decide +kernel
theorem dX2_words_47 : decode cX2_words 47 = .ok (.iconst 3, 1) := by decide +kernel
theorem dX2_words_48 : decode cX2_words 48 = .ok (.if_icmp .le 13, 3) := by decide +kernel
theorem dX2_words_51 : decode cX2_words 51 = .ok (.iload 5, 2) := by decide +kernel
theorem dX2_words_53 : decode cX2_words 53 = .ok (.invokestatic 91, 3) := by decide +kernel
theorem dX2_words_56 : decode cX2_words 56 = .ok (.ifCond .ne 5, 3) := by decide +kernel
theorem dX2_words_59 : decode cX2_words 59 = .ok (.iconst (-1), 1) := by decide +kernel
theorem dX2_words_60 : decode cX2_words 60 = .ok (.ireturn, 1) := by decide +kernel
theorem dX2_words_61 : decode cX2_words 61 = .ok (.aload_n 0, 1) := by decide +kernel
theorem dX2_words_62 : decode cX2_words 62 = .ok (.getfield 19, 3) := by decide +kernel
theorem dX2_words_65 : decode cX2_words 65 = .ok (.invokevirtual 70, 3) := by decide +kernel
theorem dX2_words_68 : decode cX2_words 68 = .ok (.ifCond .eq 6, 3) := by decide +kernel
theorem dX2_words_71 : decode cX2_words 71 = .ok (.bipush (-2), 2) := by decide +kernel
theorem dX2_words_73 : decode cX2_words 73 = .ok (.ireturn, 1) := by decide +kernel
theorem dX2_words_74 : decode cX2_words 74 = .ok (.aload_n 0, 1) := by decide +kernel
theorem dX2_words_75 : decode cX2_words 75 = .ok (.getfield 12, 3) := by decide +kernel
theorem dX2_words_78 : decode cX2_words 78 = .ok (.iload_n 1, 1) := by decide +kernel
theorem dX2_words_79 : decode cX2_words 79 = .ok (.iload_n 2, 1) := by decide +kernel
theorem dX2_words_80 : decode cX2_words 80 = .ok (.iload_n 3, 1) := by decide +kernel
theorem dX2_words_81 : decode cX2_words 81 = .ok (.iload 4, 2) := by decide +kernel
theorem dX2_words_83 : decode cX2_words 83 = .ok (.iload 5, 2) := by decide +kernel
theorem dX2_words_85 : decode cX2_words 85 = .ok (.invokevirtual 94, 3) := by decide +kernel
theorem dX2_words_88 : decode cX2_words 88 = .ok (.iload 6, 2) := by decide +kernel
theorem dX2_words_90 : decode cX2_words 90 = .ok (.ifCond .eq 10, 3) := by decide +kernel
theorem dX2_words_93 : decode cX2_words 93 = .ok (.aload_n 0, 1) := by decide +kernel
theorem dX2_words_94 : decode cX2_words 94 = .ok (.getfield 12, 3) := by decide +kernel
theorem dX2_words_97 : decode cX2_words 97 = .ok (.invokevirtual 98, 3) := by decide +kernel
theorem dX2_words_100 : decode cX2_words 100 = .ok (.aload_n 0, 1) := by decide +kernel
theorem dX2_words_101 : decode cX2_words 101 = .ok (.getfield 12, 3) := by decide +kernel
theorem dX2_words_104 : decode cX2_words 104 = .ok (.getfield 101, 3) := by decide +kernel
theorem dX2_words_107 : decode cX2_words 107 = .ok (.ireturn, 1) := by decide +kernel
set_option maxRecDepth 20000 in
theorem ggX2_count_X2_isWithin : GoodIn wsX2_count wsX2_isWithin := goodIn_r _ [7] (by decide +kernel) (by decide +kernel)
set_option maxRecDepth 20000 in
theorem gX2_count_X2_isWithin : GoodIn wsX2_count (va_wsS RX2 31 yX2_isWithin wsX2_isWithin) := goodIn_app (goodIn_of _ (by decide +kernel)) ggX2_count_X2_isWithin
set_option maxRecDepth 20000 in
theorem ggX2_count_X0_toll : GoodIn wsX2_count wsX0_toll := goodIn_r _ [12, 13, 14, 37, 38, 39, 40] (by decide +kernel) (by decide +kernel)
set_option maxRecDepth 20000 in
theorem gX2_count_X0_toll : GoodIn wsX2_count (wsV RX2 106 RX0 yX0_toll wsX0_toll) := goodIn_app (goodIn_of _ (by decide +kernel)) ggX2_count_X0_toll
set_option maxRecDepth 20000 in
theorem ggX2_count_X0_ofTurn : GoodIn wsX2_count wsX0_ofTurn := goodIn_r _ [18, 13, 19, 20, 21, 22, 11, 23, 24, 25, 26, 27, 28, 29, 30, 31, 32, 33, 37, 38, 39, 40] (by decide +kernel) (by decide +kernel)
set_option maxRecDepth 20000 in
theorem gX2_count_X0_ofTurn : GoodIn wsX2_count (wsV RX2 110 RX0 yX0_ofTurn wsX0_ofTurn) := goodIn_app (goodIn_of _ (by decide +kernel)) ggX2_count_X0_ofTurn
theorem dX2_count_0 : decode cX2_count 0 = .ok (.iload_n 1, 1) := by decide +kernel
theorem dX2_count_1 : decode cX2_count 1 = .ok (.i2l, 1) := by decide +kernel
theorem dX2_count_2 : decode cX2_count 2 = .ok (.lconst 0, 1) := by decide +kernel
theorem dX2_count_3 : decode cX2_count 3 = .ok (.ldc2_w 104, 3) := by decide +kernel
theorem dX2_count_6 : decode cX2_count 6 = .ok (.invokestatic 31, 3) := by decide +kernel
theorem dX2_count_9 : decode cX2_count 9 = .ok (.ifCond .ne 7, 3) := by decide +kernel
theorem dX2_count_12 : decode cX2_count 12 = .ok (.sipush (-1000), 3) := by decide +kernel
theorem dX2_count_15 : decode cX2_count 15 = .ok (.ireturn, 1) := by decide +kernel
theorem dX2_count_16 : decode cX2_count 16 = .ok (.aload_n 0, 1) := by decide +kernel
theorem dX2_count_17 : decode cX2_count 17 = .ok (.dup, 1) := by decide +kernel
theorem dX2_count_18 : decode cX2_count 18 = .ok (.getfield 23, 3) := by decide +kernel
theorem dX2_count_21 : decode cX2_count 21 = .ok (.aload_n 0, 1) := by decide +kernel
theorem dX2_count_22 : decode cX2_count 22 = .ok (.getfield 12, 3) := by decide +kernel
theorem dX2_count_25 : decode cX2_count 25 = .ok (.invokevirtual 106, 3) := by decide +kernel
theorem dX2_count_28 : decode cX2_count 28 = .ok (.i2l, 1) := by decide +kernel
theorem dX2_count_29 : decode cX2_count 29 = .ok (.ladd, 1) := by decide +kernel
theorem dX2_count_30 : decode cX2_count 30 = .ok (.putfield 23, 3) := by decide +kernel
theorem dX2_count_33 : decode cX2_count 33 = .ok (.aload_n 0, 1) := by decide +kernel
theorem dX2_count_34 : decode cX2_count 34 = .ok (.getfield 12, 3) := by decide +kernel
theorem dX2_count_37 : decode cX2_count 37 = .ok (.iload_n 1, 1) := by decide +kernel
theorem dX2_count_38 : decode cX2_count 38 = .ok (.invokevirtual 110, 3) := by decide +kernel
theorem dX2_count_41 : decode cX2_count 41 = .ok (.ireturn, 1) := by decide +kernel
set_option maxRecDepth 20000 in
theorem ggX2_turns_X2_isWithin : GoodIn wsX2_turns wsX2_isWithin := goodIn_r _ [8] (by decide +kernel) (by decide +kernel)
set_option maxRecDepth 20000 in
theorem gX2_turns_X2_isWithin : GoodIn wsX2_turns (va_wsS RX2 31 yX2_isWithin wsX2_isWithin) := goodIn_app (goodIn_of _ (by decide +kernel)) ggX2_turns_X2_isWithin
set_option maxRecDepth 20000 in
theorem ggX2_turns_X0_ofTurn : GoodIn wsX2_turns wsX0_ofTurn := goodIn_r _ [13, 14, 15, 16, 17, 18, 12, 19, 20, 21, 22, 23, 24, 25, 26, 27, 28, 29, 70, 71, 72, 73] (by decide +kernel) (by decide +kernel)
set_option maxRecDepth 20000 in
theorem gX2_turns_X0_ofTurn : GoodIn wsX2_turns (wsV RX2 110 RX0 yX0_ofTurn wsX0_ofTurn) := goodIn_app (goodIn_of _ (by decide +kernel)) ggX2_turns_X0_ofTurn
set_option maxRecDepth 20000 in
theorem ggX2_turns_X1_takeTurn : GoodIn wsX2_turns wsX1_takeTurn := goodIn_r _ [34, 35, 36, 37, 38, 39, 40, 41, 42, 33, 43, 44, 45, 46, 47, 48, 49, 50, 51, 52, 53, 54, 55, 56, 57, 58, 62, 63, 64, 65, 66, 67, 68, 69] (by decide +kernel) (by decide +kernel)
set_option maxRecDepth 20000 in
theorem gX2_turns_X1_takeTurn : GoodIn wsX2_turns (wsV RX2 118 RX1 yX1_takeTurn wsX1_takeTurn) := goodIn_app (goodIn_of _ (by decide +kernel)) ggX2_turns_X1_takeTurn
theorem dX2_turns_0 : decode cX2_turns 0 = .ok (.iload_n 1, 1) := by decide +kernel
theorem dX2_turns_1 : decode cX2_turns 1 = .ok (.i2l, 1) := by decide +kernel
theorem dX2_turns_2 : decode cX2_turns 2 = .ok (.lconst 1, 1) := by decide +kernel
theorem dX2_turns_3 : decode cX2_turns 3 = .ok (.ldc2_w 113, 3) := by decide +kernel
theorem dX2_turns_6 : decode cX2_turns 6 = .ok (.invokestatic 31, 3) := by decide +kernel
theorem dX2_turns_9 : decode cX2_turns 9 = .ok (.ifCond .ne 5, 3) := by decide +kernel
theorem dX2_turns_12 : decode cX2_turns 12 = .ok (.iconst (-1), 1) := by decide +kernel
theorem dX2_turns_13 : decode cX2_turns 13 = .ok (.ireturn, 1) := by decide +kernel
theorem dX2_turns_14 : decode cX2_turns 14 = .ok (.iconst 0, 1) := by decide +kernel
theorem dX2_turns_15 : decode cX2_turns 15 = .ok (.istore_n 2, 1) := by decide +kernel
theorem dX2_turns_16 : decode cX2_turns 16 = .ok (.iload_n 2, 1) := by decide +kernel
theorem dX2_turns_17 : decode cX2_turns 17 = .ok (.iload_n 1, 1) := by decide +kernel
theorem dX2_turns_18 : decode cX2_turns 18 = .ok (.if_icmp .ge 33, 3) := by decide +kernel
theorem dX2_turns_21 : decode cX2_turns 21 = .ok (.aload_n 0, 1) := by decide +kernel
theorem dX2_turns_22 : decode cX2_turns 22 = .ok (.getfield 19, 3) := by decide +kernel
theorem dX2_turns_25 : decode cX2_turns 25 = .ok (.aload_n 0, 1) := by decide +kernel
theorem dX2_turns_26 : decode cX2_turns 26 = .ok (.getfield 12, 3) := by decide +kernel
theorem dX2_turns_29 : decode cX2_turns 29 = .ok (.aload_n 0, 1) := by decide +kernel
theorem dX2_turns_30 : decode cX2_turns 30 = .ok (.getfield 19, 3) := by decide +kernel
theorem dX2_turns_33 : decode cX2_turns 33 = .ok (.getfield 115, 3) := by decide +kernel
theorem dX2_turns_36 : decode cX2_turns 36 = .ok (.invokevirtual 110, 3) := by decide +kernel
theorem dX2_turns_39 : decode cX2_turns 39 = .ok (.invokevirtual 118, 3) := by decide +kernel
theorem dX2_turns_42 : decode cX2_turns 42 = .ok (.ifCond .eq 9, 3) := by decide +kernel
theorem dX2_turns_45 : decode cX2_turns 45 = .ok (.iinc 2 1, 3) := by decide +kernel
theorem dX2_turns_48 : decode cX2_turns 48 = .ok (.goto (-32), 3) := by decide +kernel
theorem dX2_turns_51 : decode cX2_turns 51 = .ok (.iload_n 2, 1) := by decide +kernel
theorem dX2_turns_52 : decode cX2_turns 52 = .ok (.ireturn, 1) := by decide +kernel
set_option maxRecDepth 20000 in
theorem ggX2_back_X2_isWithin : GoodIn wsX2_back wsX2_isWithin := goodIn_r _ [6] (by decide +kernel) (by decide +kernel)
set_option maxRecDepth 20000 in
theorem gX2_back_X2_isWithin : GoodIn wsX2_back (va_wsS RX2 31 yX2_isWithin wsX2_isWithin) := goodIn_app (goodIn_of _ (by decide +kernel)) ggX2_back_X2_isWithin
set_option maxRecDepth 20000 in
theorem ggX2_back_X1_takeBack : GoodIn wsX2_back wsX1_takeBack := goodIn_r _ [11, 12, 13, 14, 15, 16, 17, 18, 22, 23, 24, 25, 26, 27, 28, 29] (by decide +kernel) (by decide +kernel)
set_option maxRecDepth 20000 in
theorem gX2_back_X1_takeBack : GoodIn wsX2_back (wsV RX2 121 RX1 yX1_takeBack wsX1_takeBack) := goodIn_app (goodIn_of _ (by decide +kernel)) ggX2_back_X1_takeBack
theorem dX2_back_0 : decode cX2_back 0 = .ok (.iload_n 1, 1) := by decide +kernel
theorem dX2_back_1 : decode cX2_back 1 = .ok (.i2l, 1) := by decide +kernel
theorem dX2_back_2 : decode cX2_back 2 = .ok (.lconst 1, 1) := by decide +kernel
theorem dX2_back_3 : decode cX2_back 3 = .ok (.ldc2_w 113, 3) := by decide +kernel
theorem dX2_back_6 : decode cX2_back 6 = .ok (.invokestatic 31, 3) := by decide +kernel
theorem dX2_back_9 : decode cX2_back 9 = .ok (.ifCond .ne 5, 3) := by decide +kernel
theorem dX2_back_12 : decode cX2_back 12 = .ok (.iconst (-1), 1) := by decide +kernel
theorem dX2_back_13 : decode cX2_back 13 = .ok (.ireturn, 1) := by decide +kernel
theorem dX2_back_14 : decode cX2_back 14 = .ok (.iconst 0, 1) := by decide +kernel
theorem dX2_back_15 : decode cX2_back 15 = .ok (.istore_n 2, 1) := by decide +kernel
theorem dX2_back_16 : decode cX2_back 16 = .ok (.iload_n 2, 1) := by decide +kernel
theorem dX2_back_17 : decode cX2_back 17 = .ok (.iload_n 1, 1) := by decide +kernel
theorem dX2_back_18 : decode cX2_back 18 = .ok (.if_icmp .ge 19, 3) := by decide +kernel
theorem dX2_back_21 : decode cX2_back 21 = .ok (.aload_n 0, 1) := by decide +kernel
theorem dX2_back_22 : decode cX2_back 22 = .ok (.getfield 19, 3) := by decide +kernel
theorem dX2_back_25 : decode cX2_back 25 = .ok (.invokevirtual 121, 3) := by decide +kernel
theorem dX2_back_28 : decode cX2_back 28 = .ok (.ifCond .eq 9, 3) := by decide +kernel
theorem dX2_back_31 : decode cX2_back 31 = .ok (.iinc 2 1, 3) := by decide +kernel
theorem dX2_back_34 : decode cX2_back 34 = .ok (.goto (-18), 3) := by decide +kernel
theorem dX2_back_37 : decode cX2_back 37 = .ok (.iload_n 2, 1) := by decide +kernel
theorem dX2_back_38 : decode cX2_back 38 = .ok (.ireturn, 1) := by decide +kernel
set_option maxRecDepth 20000 in
theorem ggX2_about_X1_has : GoodIn wsX2_about wsX1_has := goodIn_r _ [8, 9, 17, 18, 19, 20, 21, 22, 23, 24] (by decide +kernel) (by decide +kernel)
set_option maxRecDepth 20000 in
theorem gX2_about_X1_has : GoodIn wsX2_about (wsV RX2 64 RX1 yX1_has wsX1_has) := goodIn_app (goodIn_of _ (by decide +kernel)) ggX2_about_X1_has
set_option maxRecDepth 20000 in
theorem ggX2_about_X2_isWithin : GoodIn wsX2_about wsX2_isWithin := goodIn_r _ [13] (by decide +kernel) (by decide +kernel)
set_option maxRecDepth 20000 in
theorem gX2_about_X2_isWithin : GoodIn wsX2_about (va_wsS RX2 31 yX2_isWithin wsX2_isWithin) := goodIn_app (goodIn_of _ (by decide +kernel)) ggX2_about_X2_isWithin
theorem dX2_about_0 : decode cX2_about 0 = .ok (.aload_n 0, 1) := by decide +kernel
theorem dX2_about_1 : decode cX2_about 1 = .ok (.getfield 19, 3) := by decide +kernel
theorem dX2_about_4 : decode cX2_about 4 = .ok (.iload_n 1, 1) := by decide +kernel
theorem dX2_about_5 : decode cX2_about 5 = .ok (.invokevirtual 64, 3) := by decide +kernel
theorem dX2_about_8 : decode cX2_about 8 = .ok (.ifCond .eq 13, 3) := by decide +kernel
theorem dX2_about_11 : decode cX2_about 11 = .ok (.iload_n 2, 1) := by decide +kernel
theorem dX2_about_12 : decode cX2_about 12 = .ok (.i2l, 1) := by decide +kernel
theorem dX2_about_13 : decode cX2_about 13 = .ok (.lconst 0, 1) := by decide +kernel
theorem dX2_about_14 : decode cX2_about 14 = .ok (.lconst 1, 1) := by decide +kernel
theorem dX2_about_15 : decode cX2_about 15 = .ok (.invokestatic 31, 3) := by decide +kernel
theorem dX2_about_18 : decode cX2_about 18 = .ok (.ifCond .ne 5, 3) := by decide +kernel
theorem dX2_about_21 : decode cX2_about 21 = .ok (.iconst (-1), 1) := by decide +kernel
theorem dX2_about_22 : decode cX2_about 22 = .ok (.ireturn, 1) := by decide +kernel
theorem dX2_about_23 : decode cX2_about 23 = .ok (.iload_n 2, 1) := by decide +kernel
theorem dX2_about_24 : decode cX2_about 24 = .ok (.ifCond .ne 15, 3) := by decide +kernel
theorem dX2_about_27 : decode cX2_about 27 = .ok (.aload_n 0, 1) := by decide +kernel
theorem dX2_about_28 : decode cX2_about 28 = .ok (.getfield 19, 3) := by decide +kernel
theorem dX2_about_31 : decode cX2_about 31 = .ok (.getfield 124, 3) := by decide +kernel
theorem dX2_about_34 : decode cX2_about 34 = .ok (.iload_n 1, 1) := by decide +kernel
theorem dX2_about_35 : decode cX2_about 35 = .ok (.iaload, 1) := by decide +kernel
theorem dX2_about_36 : decode cX2_about 36 = .ok (.goto 12, 3) := by decide +kernel
theorem dX2_about_39 : decode cX2_about 39 = .ok (.aload_n 0, 1) := by decide +kernel
theorem dX2_about_40 : decode cX2_about 40 = .ok (.getfield 19, 3) := by decide +kernel
theorem dX2_about_43 : decode cX2_about 43 = .ok (.getfield 128, 3) := by decide +kernel
theorem dX2_about_46 : decode cX2_about 46 = .ok (.iload_n 1, 1) := by decide +kernel
theorem dX2_about_47 : decode cX2_about 47 = .ok (.iaload, 1) := by decide +kernel
theorem dX2_about_48 : decode cX2_about 48 = .ok (.ireturn, 1) := by decide +kernel
set_option maxRecDepth 20000 in
theorem ggX2_told_X1_latestCounted : GoodIn wsX2_told wsX1_latestCounted := goodIn_r _ [9, 10, 11, 22, 23, 24, 25, 26, 27, 28, 29] (by decide +kernel) (by decide +kernel)
set_option maxRecDepth 20000 in
theorem gX2_told_X1_latestCounted : GoodIn wsX2_told (wsV RX2 137 RX1 yX1_latestCounted wsX1_latestCounted) := goodIn_app (goodIn_of _ (by decide +kernel)) ggX2_told_X1_latestCounted
set_option maxRecDepth 20000 in
theorem ggX2_told_X1_latestOut : GoodIn wsX2_told wsX1_latestOut := goodIn_r _ [15, 16, 17, 18, 22, 23, 24, 25, 26, 27, 28, 29] (by decide +kernel) (by decide +kernel)
set_option maxRecDepth 20000 in
theorem gX2_told_X1_latestOut : GoodIn wsX2_told (wsV RX2 140 RX1 yX1_latestOut wsX1_latestOut) := goodIn_app (goodIn_of _ (by decide +kernel)) ggX2_told_X1_latestOut
theorem dX2_told_0 : decode cX2_told 0 = .ok (.iload_n 1, 1) := by decide +kernel
theorem dX2_told_1 : decode cX2_told 1 = .ok (.tableswitch 75 0 4 #[35, 43, 51, 59, 67], 35) := by decide +kernel
theorem dX2_told_36 : decode cX2_told 36 = .ok (.aload_n 0, 1) := by decide +kernel
theorem dX2_told_37 : decode cX2_told 37 = .ok (.getfield 19, 3) := by decide +kernel
theorem dX2_told_40 : decode cX2_told 40 = .ok (.getfield 131, 3) := by decide +kernel
theorem dX2_told_43 : decode cX2_told 43 = .ok (.ireturn, 1) := by decide +kernel
theorem dX2_told_44 : decode cX2_told 44 = .ok (.aload_n 0, 1) := by decide +kernel
theorem dX2_told_45 : decode cX2_told 45 = .ok (.getfield 19, 3) := by decide +kernel
theorem dX2_told_48 : decode cX2_told 48 = .ok (.getfield 134, 3) := by decide +kernel
theorem dX2_told_51 : decode cX2_told 51 = .ok (.ireturn, 1) := by decide +kernel
theorem dX2_told_52 : decode cX2_told 52 = .ok (.aload_n 0, 1) := by decide +kernel
theorem dX2_told_53 : decode cX2_told 53 = .ok (.getfield 19, 3) := by decide +kernel
theorem dX2_told_56 : decode cX2_told 56 = .ok (.getfield 115, 3) := by decide +kernel
theorem dX2_told_59 : decode cX2_told 59 = .ok (.ireturn, 1) := by decide +kernel
theorem dX2_told_60 : decode cX2_told 60 = .ok (.aload_n 0, 1) := by decide +kernel
theorem dX2_told_61 : decode cX2_told 61 = .ok (.getfield 19, 3) := by decide +kernel
theorem dX2_told_64 : decode cX2_told 64 = .ok (.invokevirtual 137, 3) := by decide +kernel
theorem dX2_told_67 : decode cX2_told 67 = .ok (.ireturn, 1) := by decide +kernel
theorem dX2_told_68 : decode cX2_told 68 = .ok (.aload_n 0, 1) := by decide +kernel
theorem dX2_told_69 : decode cX2_told 69 = .ok (.getfield 19, 3) := by decide +kernel
theorem dX2_told_72 : decode cX2_told 72 = .ok (.invokevirtual 140, 3) := by decide +kernel
theorem dX2_told_75 : decode cX2_told 75 = .ok (.ireturn, 1) := by decide +kernel
theorem dX2_told_76 : decode cX2_told 76 = .ok (.iconst (-1), 1) := by decide +kernel
theorem dX2_told_77 : decode cX2_told 77 = .ok (.ireturn, 1) := by decide +kernel
set_option maxRecDepth 20000 in
theorem ggX2_may_X2_isWithin : GoodIn wsX2_may wsX2_isWithin := goodIn_r _ [5] (by decide +kernel) (by decide +kernel)
set_option maxRecDepth 20000 in
theorem gX2_may_X2_isWithin : GoodIn wsX2_may (va_wsS RX2 31 yX2_isWithin wsX2_isWithin) := goodIn_app (goodIn_of _ (by decide +kernel)) ggX2_may_X2_isWithin
set_option maxRecDepth 20000 in
theorem ggX2_may_X2_isChosenSet : GoodIn wsX2_may wsX2_isChosenSet := goodIn_r _ [8, 9, 2, 3, 4, 5] (by decide +kernel) (by decide +kernel)
set_option maxRecDepth 20000 in
theorem gX2_may_X2_isChosenSet : GoodIn wsX2_may (va_wsS RX2 145 yX2_isChosenSet wsX2_isChosenSet) := goodIn_app (goodIn_of _ (by decide +kernel)) ggX2_may_X2_isChosenSet
set_option maxRecDepth 20000 in
theorem ggX2_may_X2_stayingBySome : GoodIn wsX2_may wsX2_stayingBySome := goodIn_r _ [12, 13, 14, 4, 15, 16, 17, 18] (by decide +kernel) (by decide +kernel)
set_option maxRecDepth 20000 in
theorem gX2_may_X2_stayingBySome : GoodIn wsX2_may (va_wsS RX2 148 yX2_stayingBySome wsX2_stayingBySome) := goodIn_app (goodIn_of _ (by decide +kernel)) ggX2_may_X2_stayingBySome
theorem dX2_may_0 : decode cX2_may 0 = .ok (.iload_n 1, 1) := by decide +kernel
theorem dX2_may_1 : decode cX2_may 1 = .ok (.i2l, 1) := by decide +kernel
theorem dX2_may_2 : decode cX2_may 2 = .ok (.lconst 1, 1) := by decide +kernel
theorem dX2_may_3 : decode cX2_may 3 = .ok (.ldc2_w 143, 3) := by decide +kernel
theorem dX2_may_6 : decode cX2_may 6 = .ok (.invokestatic 31, 3) := by decide +kernel
theorem dX2_may_9 : decode cX2_may 9 = .ok (.ifCond .eq 10, 3) := by decide +kernel
theorem dX2_may_12 : decode cX2_may 12 = .ok (.iload_n 2, 1) := by decide +kernel
theorem dX2_may_13 : decode cX2_may 13 = .ok (.invokestatic 145, 3) := by decide +kernel
theorem dX2_may_16 : decode cX2_may 16 = .ok (.ifCond .ne 5, 3) := by decide +kernel
theorem dX2_may_19 : decode cX2_may 19 = .ok (.iconst (-1), 1) := by decide +kernel
theorem dX2_may_20 : decode cX2_may 20 = .ok (.ireturn, 1) := by decide +kernel
theorem dX2_may_21 : decode cX2_may 21 = .ok (.iconst 1, 1) := by decide +kernel
theorem dX2_may_22 : decode cX2_may 22 = .ok (.istore_n 3, 1) := by decide +kernel
theorem dX2_may_23 : decode cX2_may 23 = .ok (.iconst 2, 1) := by decide +kernel
theorem dX2_may_24 : decode cX2_may 24 = .ok (.istore 4, 2) := by decide +kernel
theorem dX2_may_26 : decode cX2_may 26 = .ok (.iload 4, 2) := by decide +kernel
theorem dX2_may_28 : decode cX2_may 28 = .ok (.iload_n 1, 1) := by decide +kernel
theorem dX2_may_29 : decode cX2_may 29 = .ok (.if_icmp .gt 17, 3) := by decide +kernel
theorem dX2_may_32 : decode cX2_may 32 = .ok (.iload 4, 2) := by decide +kernel
theorem dX2_may_34 : decode cX2_may 34 = .ok (.iload_n 2, 1) := by decide +kernel
theorem dX2_may_35 : decode cX2_may 35 = .ok (.iload_n 3, 1) := by decide +kernel
theorem dX2_may_36 : decode cX2_may 36 = .ok (.invokestatic 148, 3) := by decide +kernel
theorem dX2_may_39 : decode cX2_may 39 = .ok (.istore_n 3, 1) := by decide +kernel
theorem dX2_may_40 : decode cX2_may 40 = .ok (.iinc 4 1, 3) := by decide +kernel
theorem dX2_may_43 : decode cX2_may 43 = .ok (.goto (-17), 3) := by decide +kernel
theorem dX2_may_46 : decode cX2_may 46 = .ok (.iload_n 3, 1) := by decide +kernel
theorem dX2_may_47 : decode cX2_may 47 = .ok (.ireturn, 1) := by decide +kernel
set_option maxRecDepth 20000 in
theorem ggX2_can_X2_isWithin : GoodIn wsX2_can wsX2_isWithin := goodIn_r _ [5] (by decide +kernel) (by decide +kernel)
set_option maxRecDepth 20000 in
theorem gX2_can_X2_isWithin : GoodIn wsX2_can (va_wsS RX2 31 yX2_isWithin wsX2_isWithin) := goodIn_app (goodIn_of _ (by decide +kernel)) ggX2_can_X2_isWithin
set_option maxRecDepth 20000 in
theorem ggX2_can_X2_isChosenSet : GoodIn wsX2_can wsX2_isChosenSet := goodIn_r _ [8, 9, 2, 3, 4, 5] (by decide +kernel) (by decide +kernel)
set_option maxRecDepth 20000 in
theorem gX2_can_X2_isChosenSet : GoodIn wsX2_can (va_wsS RX2 145 yX2_isChosenSet wsX2_isChosenSet) := goodIn_app (goodIn_of _ (by decide +kernel)) ggX2_can_X2_isChosenSet
set_option maxRecDepth 20000 in
theorem ggX2_can_X2_stayingBySome : GoodIn wsX2_can wsX2_stayingBySome := goodIn_r _ [12, 13, 14, 4, 15, 16, 17, 18] (by decide +kernel) (by decide +kernel)
set_option maxRecDepth 20000 in
theorem gX2_can_X2_stayingBySome : GoodIn wsX2_can (va_wsS RX2 148 yX2_stayingBySome wsX2_stayingBySome) := goodIn_app (goodIn_of _ (by decide +kernel)) ggX2_can_X2_stayingBySome
set_option maxRecDepth 20000 in
theorem ggX2_can_X2_stayingByAll : GoodIn wsX2_can wsX2_stayingByAll := goodIn_r _ [21, 13, 14, 4, 15, 16, 17, 18] (by decide +kernel) (by decide +kernel)
set_option maxRecDepth 20000 in
theorem gX2_can_X2_stayingByAll : GoodIn wsX2_can (va_wsS RX2 152 yX2_stayingByAll wsX2_stayingByAll) := goodIn_app (goodIn_of _ (by decide +kernel)) ggX2_can_X2_stayingByAll
theorem dX2_can_0 : decode cX2_can 0 = .ok (.iload_n 1, 1) := by decide +kernel
theorem dX2_can_1 : decode cX2_can 1 = .ok (.i2l, 1) := by decide +kernel
theorem dX2_can_2 : decode cX2_can 2 = .ok (.lconst 1, 1) := by decide +kernel
theorem dX2_can_3 : decode cX2_can 3 = .ok (.ldc2_w 143, 3) := by decide +kernel
theorem dX2_can_6 : decode cX2_can 6 = .ok (.invokestatic 31, 3) := by decide +kernel
theorem dX2_can_9 : decode cX2_can 9 = .ok (.ifCond .eq 17, 3) := by decide +kernel
theorem dX2_can_12 : decode cX2_can 12 = .ok (.iload_n 2, 1) := by decide +kernel
theorem dX2_can_13 : decode cX2_can 13 = .ok (.invokestatic 145, 3) := by decide +kernel
theorem dX2_can_16 : decode cX2_can 16 = .ok (.ifCond .eq 10, 3) := by decide +kernel
theorem dX2_can_19 : decode cX2_can 19 = .ok (.iload_n 3, 1) := by decide +kernel
theorem dX2_can_20 : decode cX2_can 20 = .ok (.invokestatic 145, 3) := by decide +kernel
theorem dX2_can_23 : decode cX2_can 23 = .ok (.ifCond .ne 5, 3) := by decide +kernel
theorem dX2_can_26 : decode cX2_can 26 = .ok (.iconst (-1), 1) := by decide +kernel
theorem dX2_can_27 : decode cX2_can 27 = .ok (.ireturn, 1) := by decide +kernel
theorem dX2_can_28 : decode cX2_can 28 = .ok (.iconst 1, 1) := by decide +kernel
theorem dX2_can_29 : decode cX2_can 29 = .ok (.istore 4, 2) := by decide +kernel
theorem dX2_can_31 : decode cX2_can 31 = .ok (.iconst 2, 1) := by decide +kernel
theorem dX2_can_32 : decode cX2_can 32 = .ok (.istore 5, 2) := by decide +kernel
theorem dX2_can_34 : decode cX2_can 34 = .ok (.iload 5, 2) := by decide +kernel
theorem dX2_can_36 : decode cX2_can 36 = .ok (.iload_n 1, 1) := by decide +kernel
theorem dX2_can_37 : decode cX2_can 37 = .ok (.if_icmp .gt 51, 3) := by decide +kernel
theorem dX2_can_40 : decode cX2_can 40 = .ok (.iload_n 1, 1) := by decide +kernel
theorem dX2_can_41 : decode cX2_can 41 = .ok (.iload 5, 2) := by decide +kernel
theorem dX2_can_43 : decode cX2_can 43 = .ok (.isub, 1) := by decide +kernel
theorem dX2_can_44 : decode cX2_can 44 = .ok (.iconst 2, 1) := by decide +kernel
theorem dX2_can_45 : decode cX2_can 45 = .ok (.irem, 1) := by decide +kernel
theorem dX2_can_46 : decode cX2_can 46 = .ok (.ifCond .ne 7, 3) := by decide +kernel
theorem dX2_can_49 : decode cX2_can 49 = .ok (.iconst 1, 1) := by decide +kernel
theorem dX2_can_50 : decode cX2_can 50 = .ok (.goto 4, 3) := by decide +kernel
theorem dX2_can_53 : decode cX2_can 53 = .ok (.iconst 0, 1) := by decide +kernel
theorem dX2_can_54 : decode cX2_can 54 = .ok (.istore 6, 2) := by decide +kernel
theorem dX2_can_56 : decode cX2_can 56 = .ok (.iload 6, 2) := by decide +kernel
theorem dX2_can_58 : decode cX2_can 58 = .ok (.ifCond .eq 14, 3) := by decide +kernel
theorem dX2_can_61 : decode cX2_can 61 = .ok (.iload 5, 2) := by decide +kernel
theorem dX2_can_63 : decode cX2_can 63 = .ok (.iload_n 2, 1) := by decide +kernel
theorem dX2_can_64 : decode cX2_can 64 = .ok (.iload 4, 2) := by decide +kernel
theorem dX2_can_66 : decode cX2_can 66 = .ok (.invokestatic 148, 3) := by decide +kernel
theorem dX2_can_69 : decode cX2_can 69 = .ok (.goto 11, 3) := by decide +kernel
theorem dX2_can_72 : decode cX2_can 72 = .ok (.iload 5, 2) := by decide +kernel
theorem dX2_can_74 : decode cX2_can 74 = .ok (.iload_n 3, 1) := by decide +kernel
theorem dX2_can_75 : decode cX2_can 75 = .ok (.iload 4, 2) := by decide +kernel
theorem dX2_can_77 : decode cX2_can 77 = .ok (.invokestatic 152, 3) := by decide +kernel
theorem dX2_can_80 : decode cX2_can 80 = .ok (.istore 4, 2) := by decide +kernel
theorem dX2_can_82 : decode cX2_can 82 = .ok (.iinc 5 1, 3) := by decide +kernel
theorem dX2_can_85 : decode cX2_can 85 = .ok (.goto (-51), 3) := by decide +kernel
theorem dX2_can_88 : decode cX2_can 88 = .ok (.iload 4, 2) := by decide +kernel
theorem dX2_can_90 : decode cX2_can 90 = .ok (.ireturn, 1) := by decide +kernel
theorem dX2_trace_0 : decode cX2_trace 0 = .ok (.aload_n 0, 1) := by decide +kernel
theorem dX2_trace_1 : decode cX2_trace 1 = .ok (.getfield 23, 3) := by decide +kernel
theorem dX2_trace_4 : decode cX2_trace 4 = .ok (.lreturn, 1) := by decide +kernel
theorem dX2_isWithin_0 : decode cX2_isWithin 0 = .ok (.lload_n 0, 1) := by decide +kernel
theorem dX2_isWithin_1 : decode cX2_isWithin 1 = .ok (.lload_n 2, 1) := by decide +kernel
theorem dX2_isWithin_2 : decode cX2_isWithin 2 = .ok (.lcmp, 1) := by decide +kernel
theorem dX2_isWithin_3 : decode cX2_isWithin 3 = .ok (.ifCond .lt 14, 3) := by decide +kernel
theorem dX2_isWithin_6 : decode cX2_isWithin 6 = .ok (.lload_n 0, 1) := by decide +kernel
theorem dX2_isWithin_7 : decode cX2_isWithin 7 = .ok (.lload 4, 2) := by decide +kernel
theorem dX2_isWithin_9 : decode cX2_isWithin 9 = .ok (.lcmp, 1) := by decide +kernel
theorem dX2_isWithin_10 : decode cX2_isWithin 10 = .ok (.ifCond .gt 7, 3) := by decide +kernel
theorem dX2_isWithin_13 : decode cX2_isWithin 13 = .ok (.iconst 1, 1) := by decide +kernel
theorem dX2_isWithin_14 : decode cX2_isWithin 14 = .ok (.goto 4, 3) := by decide +kernel
theorem dX2_isWithin_17 : decode cX2_isWithin 17 = .ok (.iconst 0, 1) := by decide +kernel
theorem dX2_isWithin_18 : decode cX2_isWithin 18 = .ok (.ireturn, 1) := by decide +kernel
set_option maxRecDepth 20000 in
theorem ggX2_isGreatRing_X2_isWithin : GoodIn wsX2_isGreatRing wsX2_isWithin := goodIn_r _ [6] (by decide +kernel) (by decide +kernel)
set_option maxRecDepth 20000 in
theorem gX2_isGreatRing_X2_isWithin : GoodIn wsX2_isGreatRing (va_wsS RX2 31 yX2_isWithin wsX2_isWithin) := goodIn_app (goodIn_of _ (by decide +kernel)) ggX2_isGreatRing_X2_isWithin
theorem dX2_isGreatRing_0 : decode cX2_isGreatRing 0 = .ok (.lload_n 0, 1) := by decide +kernel
theorem dX2_isGreatRing_1 : decode cX2_isGreatRing 1 = .ok (.lconst 1, 1) := by decide +kernel
theorem dX2_isGreatRing_2 : decode cX2_isGreatRing 2 = .ok (.ldc2_w 155, 3) := by decide +kernel
theorem dX2_isGreatRing_5 : decode cX2_isGreatRing 5 = .ok (.invokestatic 31, 3) := by decide +kernel
theorem dX2_isGreatRing_8 : decode cX2_isGreatRing 8 = .ok (.ifCond .eq 19, 3) := by decide +kernel
theorem dX2_isGreatRing_11 : decode cX2_isGreatRing 11 = .ok (.iload_n 2, 1) := by decide +kernel
theorem dX2_isGreatRing_12 : decode cX2_isGreatRing 12 = .ok (.i2l, 1) := by decide +kernel
theorem dX2_isGreatRing_13 : decode cX2_isGreatRing 13 = .ok (.lconst 1, 1) := by decide +kernel
theorem dX2_isGreatRing_14 : decode cX2_isGreatRing 14 = .ok (.ldc2_w 157, 3) := by decide +kernel
theorem dX2_isGreatRing_17 : decode cX2_isGreatRing 17 = .ok (.invokestatic 31, 3) := by decide +kernel
theorem dX2_isGreatRing_20 : decode cX2_isGreatRing 20 = .ok (.ifCond .eq 7, 3) := by decide +kernel
theorem dX2_isGreatRing_23 : decode cX2_isGreatRing 23 = .ok (.iconst 1, 1) := by decide +kernel
theorem dX2_isGreatRing_24 : decode cX2_isGreatRing 24 = .ok (.goto 4, 3) := by decide +kernel
theorem dX2_isGreatRing_27 : decode cX2_isGreatRing 27 = .ok (.iconst 0, 1) := by decide +kernel
theorem dX2_isGreatRing_28 : decode cX2_isGreatRing 28 = .ok (.ireturn, 1) := by decide +kernel
set_option maxRecDepth 20000 in
theorem ggX2_isHeap_X2_isWithin : GoodIn wsX2_isHeap wsX2_isWithin := goodIn_r _ [6] (by decide +kernel) (by decide +kernel)
set_option maxRecDepth 20000 in
theorem gX2_isHeap_X2_isWithin : GoodIn wsX2_isHeap (va_wsS RX2 31 yX2_isWithin wsX2_isWithin) := goodIn_app (goodIn_of _ (by decide +kernel)) ggX2_isHeap_X2_isWithin
theorem dX2_isHeap_0 : decode cX2_isHeap 0 = .ok (.iload_n 0, 1) := by decide +kernel
theorem dX2_isHeap_1 : decode cX2_isHeap 1 = .ok (.i2l, 1) := by decide +kernel
theorem dX2_isHeap_2 : decode cX2_isHeap 2 = .ok (.ldc2_w 80, 3) := by decide +kernel
theorem dX2_isHeap_5 : decode cX2_isHeap 5 = .ok (.ldc2_w 78, 3) := by decide +kernel
theorem dX2_isHeap_8 : decode cX2_isHeap 8 = .ok (.invokestatic 31, 3) := by decide +kernel
theorem dX2_isHeap_11 : decode cX2_isHeap 11 = .ok (.ifCond .eq 22, 3) := by decide +kernel
theorem dX2_isHeap_14 : decode cX2_isHeap 14 = .ok (.iload_n 1, 1) := by decide +kernel
theorem dX2_isHeap_15 : decode cX2_isHeap 15 = .ok (.i2l, 1) := by decide +kernel
theorem dX2_isHeap_16 : decode cX2_isHeap 16 = .ok (.lconst 1, 1) := by decide +kernel
theorem dX2_isHeap_17 : decode cX2_isHeap 17 = .ok (.iconst 1, 1) := by decide +kernel
theorem dX2_isHeap_18 : decode cX2_isHeap 18 = .ok (.iload_n 0, 1) := by decide +kernel
theorem dX2_isHeap_19 : decode cX2_isHeap 19 = .ok (.ishl, 1) := by decide +kernel
theorem dX2_isHeap_20 : decode cX2_isHeap 20 = .ok (.iconst 2, 1) := by decide +kernel
theorem dX2_isHeap_21 : decode cX2_isHeap 21 = .ok (.isub, 1) := by decide +kernel
theorem dX2_isHeap_22 : decode cX2_isHeap 22 = .ok (.i2l, 1) := by decide +kernel
theorem dX2_isHeap_23 : decode cX2_isHeap 23 = .ok (.invokestatic 31, 3) := by decide +kernel
theorem dX2_isHeap_26 : decode cX2_isHeap 26 = .ok (.ifCond .eq 7, 3) := by decide +kernel
theorem dX2_isHeap_29 : decode cX2_isHeap 29 = .ok (.iconst 1, 1) := by decide +kernel
theorem dX2_isHeap_30 : decode cX2_isHeap 30 = .ok (.goto 4, 3) := by decide +kernel
theorem dX2_isHeap_33 : decode cX2_isHeap 33 = .ok (.iconst 0, 1) := by decide +kernel
theorem dX2_isHeap_34 : decode cX2_isHeap 34 = .ok (.ireturn, 1) := by decide +kernel
set_option maxRecDepth 20000 in
theorem ggX2_isWord_X2_isWithin : GoodIn wsX2_isWord wsX2_isWithin := goodIn_r _ [5] (by decide +kernel) (by decide +kernel)
set_option maxRecDepth 20000 in
theorem gX2_isWord_X2_isWithin : GoodIn wsX2_isWord (va_wsS RX2 31 yX2_isWithin wsX2_isWithin) := goodIn_app (goodIn_of _ (by decide +kernel)) ggX2_isWord_X2_isWithin
theorem dX2_isWord_0 : decode cX2_isWord 0 = .ok (.iload_n 0, 1) := by decide +kernel
theorem dX2_isWord_1 : decode cX2_isWord 1 = .ok (.i2l, 1) := by decide +kernel
theorem dX2_isWord_2 : decode cX2_isWord 2 = .ok (.lconst 1, 1) := by decide +kernel
theorem dX2_isWord_3 : decode cX2_isWord 3 = .ok (.ldc2_w 159, 3) := by decide +kernel
theorem dX2_isWord_6 : decode cX2_isWord 6 = .ok (.invokestatic 31, 3) := by decide +kernel
theorem dX2_isWord_9 : decode cX2_isWord 9 = .ok (.ireturn, 1) := by decide +kernel
set_option maxRecDepth 20000 in
theorem ggX2_isChosenSet_X2_isWithin : GoodIn wsX2_isChosenSet wsX2_isWithin := goodIn_r _ [5] (by decide +kernel) (by decide +kernel)
set_option maxRecDepth 20000 in
theorem gX2_isChosenSet_X2_isWithin : GoodIn wsX2_isChosenSet (va_wsS RX2 31 yX2_isWithin wsX2_isWithin) := goodIn_app (goodIn_of _ (by decide +kernel)) ggX2_isChosenSet_X2_isWithin
theorem dX2_isChosenSet_0 : decode cX2_isChosenSet 0 = .ok (.iload_n 0, 1) := by decide +kernel
theorem dX2_isChosenSet_1 : decode cX2_isChosenSet 1 = .ok (.i2l, 1) := by decide +kernel
theorem dX2_isChosenSet_2 : decode cX2_isChosenSet 2 = .ok (.lconst 1, 1) := by decide +kernel
theorem dX2_isChosenSet_3 : decode cX2_isChosenSet 3 = .ok (.ldc2_w 161, 3) := by decide +kernel
theorem dX2_isChosenSet_6 : decode cX2_isChosenSet 6 = .ok (.invokestatic 31, 3) := by decide +kernel
theorem dX2_isChosenSet_9 : decode cX2_isChosenSet 9 = .ok (.ireturn, 1) := by decide +kernel
theorem dX2_placeOfGoing_0 : decode cX2_placeOfGoing 0 = .ok (.iload_n 2, 1) := by decide +kernel
theorem dX2_placeOfGoing_1 : decode cX2_placeOfGoing 1 = .ok (.iconst 2, 1) := by decide +kernel
theorem dX2_placeOfGoing_2 : decode cX2_placeOfGoing 2 = .ok (.if_icmp .ge 7, 3) := by decide +kernel
theorem dX2_placeOfGoing_5 : decode cX2_placeOfGoing 5 = .ok (.lload_n 3, 1) := by decide +kernel
theorem dX2_placeOfGoing_6 : decode cX2_placeOfGoing 6 = .ok (.lconst 1, 1) := by decide +kernel
theorem dX2_placeOfGoing_7 : decode cX2_placeOfGoing 7 = .ok (.lsub, 1) := by decide +kernel
theorem dX2_placeOfGoing_8 : decode cX2_placeOfGoing 8 = .ok (.lreturn, 1) := by decide +kernel
theorem dX2_placeOfGoing_9 : decode cX2_placeOfGoing 9 = .ok (.iload_n 2, 1) := by decide +kernel
theorem dX2_placeOfGoing_10 : decode cX2_placeOfGoing 10 = .ok (.i2l, 1) := by decide +kernel
theorem dX2_placeOfGoing_11 : decode cX2_placeOfGoing 11 = .ok (.lload_n 3, 1) := by decide +kernel
theorem dX2_placeOfGoing_12 : decode cX2_placeOfGoing 12 = .ok (.lmul, 1) := by decide +kernel
theorem dX2_placeOfGoing_13 : decode cX2_placeOfGoing 13 = .ok (.lstore 5, 2) := by decide +kernel
theorem dX2_placeOfGoing_15 : decode cX2_placeOfGoing 15 = .ok (.iconst 0, 1) := by decide +kernel
theorem dX2_placeOfGoing_16 : decode cX2_placeOfGoing 16 = .ok (.istore 7, 2) := by decide +kernel
theorem dX2_placeOfGoing_18 : decode cX2_placeOfGoing 18 = .ok (.lload 5, 2) := by decide +kernel
theorem dX2_placeOfGoing_20 : decode cX2_placeOfGoing 20 = .ok (.lload_n 0, 1) := by decide +kernel
theorem dX2_placeOfGoing_21 : decode cX2_placeOfGoing 21 = .ok (.lcmp, 1) := by decide +kernel
theorem dX2_placeOfGoing_22 : decode cX2_placeOfGoing 22 = .ok (.ifCond .le 32, 3) := by decide +kernel
theorem dX2_placeOfGoing_25 : decode cX2_placeOfGoing 25 = .ok (.iload 7, 2) := by decide +kernel
theorem dX2_placeOfGoing_27 : decode cX2_placeOfGoing 27 = .ok (.ldc 163, 2) := by decide +kernel
theorem dX2_placeOfGoing_29 : decode cX2_placeOfGoing 29 = .ok (.if_icmp .ge 25, 3) := by decide +kernel
theorem dX2_placeOfGoing_32 : decode cX2_placeOfGoing 32 = .ok (.iload_n 2, 1) := by decide +kernel
theorem dX2_placeOfGoing_33 : decode cX2_placeOfGoing 33 = .ok (.i2l, 1) := by decide +kernel
theorem dX2_placeOfGoing_34 : decode cX2_placeOfGoing 34 = .ok (.lload 5, 2) := by decide +kernel
theorem dX2_placeOfGoing_36 : decode cX2_placeOfGoing 36 = .ok (.lload_n 0, 1) := by decide +kernel
theorem dX2_placeOfGoing_37 : decode cX2_placeOfGoing 37 = .ok (.lsub, 1) := by decide +kernel
theorem dX2_placeOfGoing_38 : decode cX2_placeOfGoing 38 = .ok (.lmul, 1) := by decide +kernel
theorem dX2_placeOfGoing_39 : decode cX2_placeOfGoing 39 = .ok (.lconst 1, 1) := by decide +kernel
theorem dX2_placeOfGoing_40 : decode cX2_placeOfGoing 40 = .ok (.lsub, 1) := by decide +kernel
theorem dX2_placeOfGoing_41 : decode cX2_placeOfGoing 41 = .ok (.iload_n 2, 1) := by decide +kernel
theorem dX2_placeOfGoing_42 : decode cX2_placeOfGoing 42 = .ok (.iconst 1, 1) := by decide +kernel
theorem dX2_placeOfGoing_43 : decode cX2_placeOfGoing 43 = .ok (.isub, 1) := by decide +kernel
theorem dX2_placeOfGoing_44 : decode cX2_placeOfGoing 44 = .ok (.i2l, 1) := by decide +kernel
theorem dX2_placeOfGoing_45 : decode cX2_placeOfGoing 45 = .ok (.ldiv, 1) := by decide +kernel
theorem dX2_placeOfGoing_46 : decode cX2_placeOfGoing 46 = .ok (.lstore 5, 2) := by decide +kernel
theorem dX2_placeOfGoing_48 : decode cX2_placeOfGoing 48 = .ok (.iinc 7 1, 3) := by decide +kernel
theorem dX2_placeOfGoing_51 : decode cX2_placeOfGoing 51 = .ok (.goto (-33), 3) := by decide +kernel
theorem dX2_placeOfGoing_54 : decode cX2_placeOfGoing 54 = .ok (.lload 5, 2) := by decide +kernel
theorem dX2_placeOfGoing_56 : decode cX2_placeOfGoing 56 = .ok (.lconst 1, 1) := by decide +kernel
theorem dX2_placeOfGoing_57 : decode cX2_placeOfGoing 57 = .ok (.lsub, 1) := by decide +kernel
theorem dX2_placeOfGoing_58 : decode cX2_placeOfGoing 58 = .ok (.lreturn, 1) := by decide +kernel
theorem dX2_goingOfPlace_0 : decode cX2_goingOfPlace 0 = .ok (.iload_n 2, 1) := by decide +kernel
theorem dX2_goingOfPlace_1 : decode cX2_goingOfPlace 1 = .ok (.iconst 2, 1) := by decide +kernel
theorem dX2_goingOfPlace_2 : decode cX2_goingOfPlace 2 = .ok (.if_icmp .ge 7, 3) := by decide +kernel
theorem dX2_goingOfPlace_5 : decode cX2_goingOfPlace 5 = .ok (.lload_n 3, 1) := by decide +kernel
theorem dX2_goingOfPlace_6 : decode cX2_goingOfPlace 6 = .ok (.lconst 1, 1) := by decide +kernel
theorem dX2_goingOfPlace_7 : decode cX2_goingOfPlace 7 = .ok (.ladd, 1) := by decide +kernel
theorem dX2_goingOfPlace_8 : decode cX2_goingOfPlace 8 = .ok (.lreturn, 1) := by decide +kernel
theorem dX2_goingOfPlace_9 : decode cX2_goingOfPlace 9 = .ok (.lload_n 3, 1) := by decide +kernel
theorem dX2_goingOfPlace_10 : decode cX2_goingOfPlace 10 = .ok (.lconst 1, 1) := by decide +kernel
theorem dX2_goingOfPlace_11 : decode cX2_goingOfPlace 11 = .ok (.ladd, 1) := by decide +kernel
theorem dX2_goingOfPlace_12 : decode cX2_goingOfPlace 12 = .ok (.lstore 5, 2) := by decide +kernel
theorem dX2_goingOfPlace_14 : decode cX2_goingOfPlace 14 = .ok (.iconst 0, 1) := by decide +kernel
theorem dX2_goingOfPlace_15 : decode cX2_goingOfPlace 15 = .ok (.istore 7, 2) := by decide +kernel
theorem dX2_goingOfPlace_17 : decode cX2_goingOfPlace 17 = .ok (.lload 5, 2) := by decide +kernel
theorem dX2_goingOfPlace_19 : decode cX2_goingOfPlace 19 = .ok (.iload_n 2, 1) := by decide +kernel
theorem dX2_goingOfPlace_20 : decode cX2_goingOfPlace 20 = .ok (.i2l, 1) := by decide +kernel
theorem dX2_goingOfPlace_21 : decode cX2_goingOfPlace 21 = .ok (.lrem, 1) := by decide +kernel
theorem dX2_goingOfPlace_22 : decode cX2_goingOfPlace 22 = .ok (.lconst 0, 1) := by decide +kernel
theorem dX2_goingOfPlace_23 : decode cX2_goingOfPlace 23 = .ok (.lcmp, 1) := by decide +kernel
theorem dX2_goingOfPlace_24 : decode cX2_goingOfPlace 24 = .ok (.ifCond .eq 28, 3) := by decide +kernel
theorem dX2_goingOfPlace_27 : decode cX2_goingOfPlace 27 = .ok (.iload 7, 2) := by decide +kernel
theorem dX2_goingOfPlace_29 : decode cX2_goingOfPlace 29 = .ok (.ldc 163, 2) := by decide +kernel
theorem dX2_goingOfPlace_31 : decode cX2_goingOfPlace 31 = .ok (.if_icmp .ge 21, 3) := by decide +kernel
theorem dX2_goingOfPlace_34 : decode cX2_goingOfPlace 34 = .ok (.lload_n 0, 1) := by decide +kernel
theorem dX2_goingOfPlace_35 : decode cX2_goingOfPlace 35 = .ok (.lload 5, 2) := by decide +kernel
theorem dX2_goingOfPlace_37 : decode cX2_goingOfPlace 37 = .ok (.ladd, 1) := by decide +kernel
theorem dX2_goingOfPlace_38 : decode cX2_goingOfPlace 38 = .ok (.lload 5, 2) := by decide +kernel
theorem dX2_goingOfPlace_40 : decode cX2_goingOfPlace 40 = .ok (.iload_n 2, 1) := by decide +kernel
theorem dX2_goingOfPlace_41 : decode cX2_goingOfPlace 41 = .ok (.i2l, 1) := by decide +kernel
theorem dX2_goingOfPlace_42 : decode cX2_goingOfPlace 42 = .ok (.ldiv, 1) := by decide +kernel
theorem dX2_goingOfPlace_43 : decode cX2_goingOfPlace 43 = .ok (.lsub, 1) := by decide +kernel
theorem dX2_goingOfPlace_44 : decode cX2_goingOfPlace 44 = .ok (.lstore 5, 2) := by decide +kernel
theorem dX2_goingOfPlace_46 : decode cX2_goingOfPlace 46 = .ok (.iinc 7 1, 3) := by decide +kernel
theorem dX2_goingOfPlace_49 : decode cX2_goingOfPlace 49 = .ok (.goto (-32), 3) := by decide +kernel
theorem dX2_goingOfPlace_52 : decode cX2_goingOfPlace 52 = .ok (.lload 5, 2) := by decide +kernel
theorem dX2_goingOfPlace_54 : decode cX2_goingOfPlace 54 = .ok (.iload_n 2, 1) := by decide +kernel
theorem dX2_goingOfPlace_55 : decode cX2_goingOfPlace 55 = .ok (.i2l, 1) := by decide +kernel
theorem dX2_goingOfPlace_56 : decode cX2_goingOfPlace 56 = .ok (.ldiv, 1) := by decide +kernel
theorem dX2_goingOfPlace_57 : decode cX2_goingOfPlace 57 = .ok (.lreturn, 1) := by decide +kernel
set_option maxRecDepth 20000 in
theorem ggX2_goesFirst_X2_withoutBit : GoodIn wsX2_goesFirst wsX2_withoutBit := goodIn_r _ [4] (by decide +kernel) (by decide +kernel)
set_option maxRecDepth 20000 in
theorem gX2_goesFirst_X2_withoutBit : GoodIn wsX2_goesFirst (va_wsS RX2 164 yX2_withoutBit wsX2_withoutBit) := goodIn_app (goodIn_of _ (by decide +kernel)) ggX2_goesFirst_X2_withoutBit
theorem dX2_goesFirst_0 : decode cX2_goesFirst 0 = .ok (.iload_n 1, 1) := by decide +kernel
theorem dX2_goesFirst_1 : decode cX2_goesFirst 1 = .ok (.istore_n 3, 1) := by decide +kernel
theorem dX2_goesFirst_2 : decode cX2_goesFirst 2 = .ok (.iconst 0, 1) := by decide +kernel
theorem dX2_goesFirst_3 : decode cX2_goesFirst 3 = .ok (.istore 4, 2) := by decide +kernel
theorem dX2_goesFirst_5 : decode cX2_goesFirst 5 = .ok (.iload_n 0, 1) := by decide +kernel
theorem dX2_goesFirst_6 : decode cX2_goesFirst 6 = .ok (.istore 5, 2) := by decide +kernel
theorem dX2_goesFirst_8 : decode cX2_goesFirst 8 = .ok (.iload 5, 2) := by decide +kernel
theorem dX2_goesFirst_10 : decode cX2_goesFirst 10 = .ok (.ifCond .le 42, 3) := by decide +kernel
theorem dX2_goesFirst_13 : decode cX2_goesFirst 13 = .ok (.iload_n 3, 1) := by decide +kernel
theorem dX2_goesFirst_14 : decode cX2_goesFirst 14 = .ok (.ifCond .eq 38, 3) := by decide +kernel
theorem dX2_goesFirst_17 : decode cX2_goesFirst 17 = .ok (.iload 4, 2) := by decide +kernel
theorem dX2_goesFirst_19 : decode cX2_goesFirst 19 = .ok (.iload_n 2, 1) := by decide +kernel
theorem dX2_goesFirst_20 : decode cX2_goesFirst 20 = .ok (.iadd, 1) := by decide +kernel
theorem dX2_goesFirst_21 : decode cX2_goesFirst 21 = .ok (.iconst 1, 1) := by decide +kernel
theorem dX2_goesFirst_22 : decode cX2_goesFirst 22 = .ok (.isub, 1) := by decide +kernel
theorem dX2_goesFirst_23 : decode cX2_goesFirst 23 = .ok (.iload 5, 2) := by decide +kernel
theorem dX2_goesFirst_25 : decode cX2_goesFirst 25 = .ok (.irem, 1) := by decide +kernel
theorem dX2_goesFirst_26 : decode cX2_goesFirst 26 = .ok (.istore 4, 2) := by decide +kernel
theorem dX2_goesFirst_28 : decode cX2_goesFirst 28 = .ok (.iload_n 3, 1) := by decide +kernel
theorem dX2_goesFirst_29 : decode cX2_goesFirst 29 = .ok (.iload 4, 2) := by decide +kernel
theorem dX2_goesFirst_31 : decode cX2_goesFirst 31 = .ok (.ishr, 1) := by decide +kernel
theorem dX2_goesFirst_32 : decode cX2_goesFirst 32 = .ok (.iconst 1, 1) := by decide +kernel
theorem dX2_goesFirst_33 : decode cX2_goesFirst 33 = .ok (.iand, 1) := by decide +kernel
theorem dX2_goesFirst_34 : decode cX2_goesFirst 34 = .ok (.ifCond .ne 5, 3) := by decide +kernel
theorem dX2_goesFirst_37 : decode cX2_goesFirst 37 = .ok (.iconst 0, 1) := by decide +kernel
theorem dX2_goesFirst_38 : decode cX2_goesFirst 38 = .ok (.ireturn, 1) := by decide +kernel
theorem dX2_goesFirst_39 : decode cX2_goesFirst 39 = .ok (.iload_n 3, 1) := by decide +kernel
theorem dX2_goesFirst_40 : decode cX2_goesFirst 40 = .ok (.iload 4, 2) := by decide +kernel
theorem dX2_goesFirst_42 : decode cX2_goesFirst 42 = .ok (.invokestatic 164, 3) := by decide +kernel
theorem dX2_goesFirst_45 : decode cX2_goesFirst 45 = .ok (.istore_n 3, 1) := by decide +kernel
theorem dX2_goesFirst_46 : decode cX2_goesFirst 46 = .ok (.iinc 5 (-1), 3) := by decide +kernel
theorem dX2_goesFirst_49 : decode cX2_goesFirst 49 = .ok (.goto (-41), 3) := by decide +kernel
theorem dX2_goesFirst_52 : decode cX2_goesFirst 52 = .ok (.iconst 1, 1) := by decide +kernel
theorem dX2_goesFirst_53 : decode cX2_goesFirst 53 = .ok (.ireturn, 1) := by decide +kernel
theorem dX2_withoutBit_0 : decode cX2_withoutBit 0 = .ok (.iconst 1, 1) := by decide +kernel
theorem dX2_withoutBit_1 : decode cX2_withoutBit 1 = .ok (.iload_n 1, 1) := by decide +kernel
theorem dX2_withoutBit_2 : decode cX2_withoutBit 2 = .ok (.ishl, 1) := by decide +kernel
theorem dX2_withoutBit_3 : decode cX2_withoutBit 3 = .ok (.iconst 1, 1) := by decide +kernel
theorem dX2_withoutBit_4 : decode cX2_withoutBit 4 = .ok (.isub, 1) := by decide +kernel
theorem dX2_withoutBit_5 : decode cX2_withoutBit 5 = .ok (.istore_n 2, 1) := by decide +kernel
theorem dX2_withoutBit_6 : decode cX2_withoutBit 6 = .ok (.iload_n 0, 1) := by decide +kernel
theorem dX2_withoutBit_7 : decode cX2_withoutBit 7 = .ok (.iload_n 2, 1) := by decide +kernel
theorem dX2_withoutBit_8 : decode cX2_withoutBit 8 = .ok (.iand, 1) := by decide +kernel
theorem dX2_withoutBit_9 : decode cX2_withoutBit 9 = .ok (.iload_n 0, 1) := by decide +kernel
theorem dX2_withoutBit_10 : decode cX2_withoutBit 10 = .ok (.iconst 1, 1) := by decide +kernel
theorem dX2_withoutBit_11 : decode cX2_withoutBit 11 = .ok (.ishr, 1) := by decide +kernel
theorem dX2_withoutBit_12 : decode cX2_withoutBit 12 = .ok (.iload_n 2, 1) := by decide +kernel
theorem dX2_withoutBit_13 : decode cX2_withoutBit 13 = .ok (.iconst (-1), 1) := by decide +kernel
theorem dX2_withoutBit_14 : decode cX2_withoutBit 14 = .ok (.ixor, 1) := by decide +kernel
theorem dX2_withoutBit_15 : decode cX2_withoutBit 15 = .ok (.iand, 1) := by decide +kernel
theorem dX2_withoutBit_16 : decode cX2_withoutBit 16 = .ok (.ior, 1) := by decide +kernel
theorem dX2_withoutBit_17 : decode cX2_withoutBit 17 = .ok (.ireturn, 1) := by decide +kernel
set_option maxRecDepth 20000 in
theorem ggX2_stayingBySome_X2_isChosen : GoodIn wsX2_stayingBySome wsX2_isChosen := goodIn_r _ [4] (by decide +kernel) (by decide +kernel)
set_option maxRecDepth 20000 in
theorem gX2_stayingBySome_X2_isChosen : GoodIn wsX2_stayingBySome (va_wsS RX2 167 yX2_isChosen wsX2_isChosen) := goodIn_app (goodIn_of _ (by decide +kernel)) ggX2_stayingBySome_X2_isChosen
set_option maxRecDepth 20000 in
theorem ggX2_stayingBySome_X2_stayingBehind : GoodIn wsX2_stayingBySome wsX2_stayingBehind := goodIn_r _ [7] (by decide +kernel) (by decide +kernel)
set_option maxRecDepth 20000 in
theorem gX2_stayingBySome_X2_stayingBehind : GoodIn wsX2_stayingBySome (va_wsS RX2 170 yX2_stayingBehind wsX2_stayingBehind) := goodIn_app (goodIn_of _ (by decide +kernel)) ggX2_stayingBySome_X2_stayingBehind
theorem dX2_stayingBySome_0 : decode cX2_stayingBySome 0 = .ok (.iconst 0, 1) := by decide +kernel
theorem dX2_stayingBySome_1 : decode cX2_stayingBySome 1 = .ok (.istore_n 3, 1) := by decide +kernel
theorem dX2_stayingBySome_2 : decode cX2_stayingBySome 2 = .ok (.iconst 1, 1) := by decide +kernel
theorem dX2_stayingBySome_3 : decode cX2_stayingBySome 3 = .ok (.istore 4, 2) := by decide +kernel
theorem dX2_stayingBySome_5 : decode cX2_stayingBySome 5 = .ok (.iload 4, 2) := by decide +kernel
theorem dX2_stayingBySome_7 : decode cX2_stayingBySome 7 = .ok (.bipush 6, 2) := by decide +kernel
theorem dX2_stayingBySome_9 : decode cX2_stayingBySome 9 = .ok (.if_icmp .gt 28, 3) := by decide +kernel
theorem dX2_stayingBySome_12 : decode cX2_stayingBySome 12 = .ok (.iload_n 1, 1) := by decide +kernel
theorem dX2_stayingBySome_13 : decode cX2_stayingBySome 13 = .ok (.iload 4, 2) := by decide +kernel
theorem dX2_stayingBySome_15 : decode cX2_stayingBySome 15 = .ok (.invokestatic 167, 3) := by decide +kernel
theorem dX2_stayingBySome_18 : decode cX2_stayingBySome 18 = .ok (.ifCond .eq 13, 3) := by decide +kernel
theorem dX2_stayingBySome_21 : decode cX2_stayingBySome 21 = .ok (.iload_n 3, 1) := by decide +kernel
theorem dX2_stayingBySome_22 : decode cX2_stayingBySome 22 = .ok (.iload_n 0, 1) := by decide +kernel
theorem dX2_stayingBySome_23 : decode cX2_stayingBySome 23 = .ok (.iload 4, 2) := by decide +kernel
theorem dX2_stayingBySome_25 : decode cX2_stayingBySome 25 = .ok (.iload_n 2, 1) := by decide +kernel
theorem dX2_stayingBySome_26 : decode cX2_stayingBySome 26 = .ok (.invokestatic 170, 3) := by decide +kernel
theorem dX2_stayingBySome_29 : decode cX2_stayingBySome 29 = .ok (.ior, 1) := by decide +kernel
theorem dX2_stayingBySome_30 : decode cX2_stayingBySome 30 = .ok (.istore_n 3, 1) := by decide +kernel
theorem dX2_stayingBySome_31 : decode cX2_stayingBySome 31 = .ok (.iinc 4 1, 3) := by decide +kernel
theorem dX2_stayingBySome_34 : decode cX2_stayingBySome 34 = .ok (.goto (-29), 3) := by decide +kernel
theorem dX2_stayingBySome_37 : decode cX2_stayingBySome 37 = .ok (.iload_n 3, 1) := by decide +kernel
theorem dX2_stayingBySome_38 : decode cX2_stayingBySome 38 = .ok (.ireturn, 1) := by decide +kernel
set_option maxRecDepth 20000 in
theorem ggX2_stayingByAll_X2_isChosen : GoodIn wsX2_stayingByAll wsX2_isChosen := goodIn_r _ [4] (by decide +kernel) (by decide +kernel)
set_option maxRecDepth 20000 in
theorem gX2_stayingByAll_X2_isChosen : GoodIn wsX2_stayingByAll (va_wsS RX2 167 yX2_isChosen wsX2_isChosen) := goodIn_app (goodIn_of _ (by decide +kernel)) ggX2_stayingByAll_X2_isChosen
set_option maxRecDepth 20000 in
theorem ggX2_stayingByAll_X2_stayingBehind : GoodIn wsX2_stayingByAll wsX2_stayingBehind := goodIn_r _ [7] (by decide +kernel) (by decide +kernel)
set_option maxRecDepth 20000 in
theorem gX2_stayingByAll_X2_stayingBehind : GoodIn wsX2_stayingByAll (va_wsS RX2 170 yX2_stayingBehind wsX2_stayingBehind) := goodIn_app (goodIn_of _ (by decide +kernel)) ggX2_stayingByAll_X2_stayingBehind
theorem dX2_stayingByAll_0 : decode cX2_stayingByAll 0 = .ok (.iconst 1, 1) := by decide +kernel
theorem dX2_stayingByAll_1 : decode cX2_stayingByAll 1 = .ok (.iload_n 0, 1) := by decide +kernel
theorem dX2_stayingByAll_2 : decode cX2_stayingByAll 2 = .ok (.ishl, 1) := by decide +kernel
theorem dX2_stayingByAll_3 : decode cX2_stayingByAll 3 = .ok (.iconst 1, 1) := by decide +kernel
theorem dX2_stayingByAll_4 : decode cX2_stayingByAll 4 = .ok (.isub, 1) := by decide +kernel
theorem dX2_stayingByAll_5 : decode cX2_stayingByAll 5 = .ok (.istore_n 3, 1) := by decide +kernel
theorem dX2_stayingByAll_6 : decode cX2_stayingByAll 6 = .ok (.iconst 1, 1) := by decide +kernel
theorem dX2_stayingByAll_7 : decode cX2_stayingByAll 7 = .ok (.istore 4, 2) := by decide +kernel
theorem dX2_stayingByAll_9 : decode cX2_stayingByAll 9 = .ok (.iload 4, 2) := by decide +kernel
theorem dX2_stayingByAll_11 : decode cX2_stayingByAll 11 = .ok (.bipush 6, 2) := by decide +kernel
theorem dX2_stayingByAll_13 : decode cX2_stayingByAll 13 = .ok (.if_icmp .gt 28, 3) := by decide +kernel
theorem dX2_stayingByAll_16 : decode cX2_stayingByAll 16 = .ok (.iload_n 1, 1) := by decide +kernel
theorem dX2_stayingByAll_17 : decode cX2_stayingByAll 17 = .ok (.iload 4, 2) := by decide +kernel
theorem dX2_stayingByAll_19 : decode cX2_stayingByAll 19 = .ok (.invokestatic 167, 3) := by decide +kernel
theorem dX2_stayingByAll_22 : decode cX2_stayingByAll 22 = .ok (.ifCond .eq 13, 3) := by decide +kernel
theorem dX2_stayingByAll_25 : decode cX2_stayingByAll 25 = .ok (.iload_n 3, 1) := by decide +kernel
theorem dX2_stayingByAll_26 : decode cX2_stayingByAll 26 = .ok (.iload_n 0, 1) := by decide +kernel
theorem dX2_stayingByAll_27 : decode cX2_stayingByAll 27 = .ok (.iload 4, 2) := by decide +kernel
theorem dX2_stayingByAll_29 : decode cX2_stayingByAll 29 = .ok (.iload_n 2, 1) := by decide +kernel
theorem dX2_stayingByAll_30 : decode cX2_stayingByAll 30 = .ok (.invokestatic 170, 3) := by decide +kernel
theorem dX2_stayingByAll_33 : decode cX2_stayingByAll 33 = .ok (.iand, 1) := by decide +kernel
theorem dX2_stayingByAll_34 : decode cX2_stayingByAll 34 = .ok (.istore_n 3, 1) := by decide +kernel
theorem dX2_stayingByAll_35 : decode cX2_stayingByAll 35 = .ok (.iinc 4 1, 3) := by decide +kernel
theorem dX2_stayingByAll_38 : decode cX2_stayingByAll 38 = .ok (.goto (-29), 3) := by decide +kernel
theorem dX2_stayingByAll_41 : decode cX2_stayingByAll 41 = .ok (.iload_n 3, 1) := by decide +kernel
theorem dX2_stayingByAll_42 : decode cX2_stayingByAll 42 = .ok (.ireturn, 1) := by decide +kernel
theorem dX2_isChosen_0 : decode cX2_isChosen 0 = .ok (.iload_n 0, 1) := by decide +kernel
theorem dX2_isChosen_1 : decode cX2_isChosen 1 = .ok (.iload_n 1, 1) := by decide +kernel
theorem dX2_isChosen_2 : decode cX2_isChosen 2 = .ok (.iconst 1, 1) := by decide +kernel
theorem dX2_isChosen_3 : decode cX2_isChosen 3 = .ok (.isub, 1) := by decide +kernel
theorem dX2_isChosen_4 : decode cX2_isChosen 4 = .ok (.ishr, 1) := by decide +kernel
theorem dX2_isChosen_5 : decode cX2_isChosen 5 = .ok (.iconst 1, 1) := by decide +kernel
theorem dX2_isChosen_6 : decode cX2_isChosen 6 = .ok (.iand, 1) := by decide +kernel
theorem dX2_isChosen_7 : decode cX2_isChosen 7 = .ok (.iconst 1, 1) := by decide +kernel
theorem dX2_isChosen_8 : decode cX2_isChosen 8 = .ok (.if_icmp .ne 7, 3) := by decide +kernel
theorem dX2_isChosen_11 : decode cX2_isChosen 11 = .ok (.iconst 1, 1) := by decide +kernel
theorem dX2_isChosen_12 : decode cX2_isChosen 12 = .ok (.goto 4, 3) := by decide +kernel
theorem dX2_isChosen_15 : decode cX2_isChosen 15 = .ok (.iconst 0, 1) := by decide +kernel
theorem dX2_isChosen_16 : decode cX2_isChosen 16 = .ok (.ireturn, 1) := by decide +kernel
theorem dX2_stayingBehind_0 : decode cX2_stayingBehind 0 = .ok (.iload_n 0, 1) := by decide +kernel
theorem dX2_stayingBehind_1 : decode cX2_stayingBehind 1 = .ok (.iconst 1, 1) := by decide +kernel
theorem dX2_stayingBehind_2 : decode cX2_stayingBehind 2 = .ok (.if_icmp .ge 5, 3) := by decide +kernel
theorem dX2_stayingBehind_5 : decode cX2_stayingBehind 5 = .ok (.iconst 0, 1) := by decide +kernel
theorem dX2_stayingBehind_6 : decode cX2_stayingBehind 6 = .ok (.ireturn, 1) := by decide +kernel
theorem dX2_stayingBehind_7 : decode cX2_stayingBehind 7 = .ok (.iload_n 1, 1) := by decide +kernel
theorem dX2_stayingBehind_8 : decode cX2_stayingBehind 8 = .ok (.iload_n 0, 1) := by decide +kernel
theorem dX2_stayingBehind_9 : decode cX2_stayingBehind 9 = .ok (.irem, 1) := by decide +kernel
theorem dX2_stayingBehind_10 : decode cX2_stayingBehind 10 = .ok (.istore_n 3, 1) := by decide +kernel
theorem dX2_stayingBehind_11 : decode cX2_stayingBehind 11 = .ok (.iload_n 2, 1) := by decide +kernel
theorem dX2_stayingBehind_12 : decode cX2_stayingBehind 12 = .ok (.iload_n 3, 1) := by decide +kernel
theorem dX2_stayingBehind_13 : decode cX2_stayingBehind 13 = .ok (.ishl, 1) := by decide +kernel
theorem dX2_stayingBehind_14 : decode cX2_stayingBehind 14 = .ok (.istore 4, 2) := by decide +kernel
theorem dX2_stayingBehind_16 : decode cX2_stayingBehind 16 = .ok (.iload 4, 2) := by decide +kernel
theorem dX2_stayingBehind_18 : decode cX2_stayingBehind 18 = .ok (.iload 4, 2) := by decide +kernel
theorem dX2_stayingBehind_20 : decode cX2_stayingBehind 20 = .ok (.iload_n 0, 1) := by decide +kernel
theorem dX2_stayingBehind_21 : decode cX2_stayingBehind 21 = .ok (.ishr, 1) := by decide +kernel
theorem dX2_stayingBehind_22 : decode cX2_stayingBehind 22 = .ok (.ior, 1) := by decide +kernel
theorem dX2_stayingBehind_23 : decode cX2_stayingBehind 23 = .ok (.iconst 1, 1) := by decide +kernel
theorem dX2_stayingBehind_24 : decode cX2_stayingBehind 24 = .ok (.iload_n 0, 1) := by decide +kernel
theorem dX2_stayingBehind_25 : decode cX2_stayingBehind 25 = .ok (.ishl, 1) := by decide +kernel
theorem dX2_stayingBehind_26 : decode cX2_stayingBehind 26 = .ok (.iconst 1, 1) := by decide +kernel
theorem dX2_stayingBehind_27 : decode cX2_stayingBehind 27 = .ok (.isub, 1) := by decide +kernel
theorem dX2_stayingBehind_28 : decode cX2_stayingBehind 28 = .ok (.iand, 1) := by decide +kernel
theorem dX2_stayingBehind_29 : decode cX2_stayingBehind 29 = .ok (.ireturn, 1) := by decide +kernel
set_option maxRecDepth 20000 in
theorem ggX3_init_X3_begins : GoodIn wsX3_init wsX3_begins := goodIn_r _ [21, 4, 22, 23, 6, 7, 8, 24, 25, 26, 27, 28, 29, 30, 31, 32, 33, 34, 35, 36, 37, 38, 39, 40] (by decide +kernel) (by decide +kernel)
set_option maxRecDepth 20000 in
theorem gX3_init_X3_begins : GoodIn wsX3_init (wsV RX3 47 RX3 yX3_begins wsX3_begins) := goodIn_app (goodIn_of _ (by decide +kernel)) ggX3_init_X3_begins
end
section
theorem dX3_init_0 : decode cX3_init 0 = .ok (.aload_n 0, 1) := by decide +kernel
theorem dX3_init_1 : decode cX3_init 1 = .ok (.invokespecial 1, 3) := by decide +kernel
theorem dX3_init_4 : decode cX3_init 4 = .ok (.aload_n 0, 1) := by decide +kernel
theorem dX3_init_5 : decode cX3_init 5 = .ok (.bipush 10, 2) := by decide +kernel
theorem dX3_init_7 : decode cX3_init 7 = .ok (.putfield 7, 3) := by decide +kernel
theorem dX3_init_10 : decode cX3_init 10 = .ok (.aload_n 0, 1) := by decide +kernel
theorem dX3_init_11 : decode cX3_init 11 = .ok (.bipush 40, 2) := by decide +kernel
theorem dX3_init_13 : decode cX3_init 13 = .ok (.newarray .int, 2) := by decide +kernel
theorem dX3_init_15 : decode cX3_init 15 = .ok (.putfield 13, 3) := by decide +kernel
theorem dX3_init_18 : decode cX3_init 18 = .ok (.aload_n 0, 1) := by decide +kernel
theorem dX3_init_19 : decode cX3_init 19 = .ok (.bipush 40, 2) := by decide +kernel
theorem dX3_init_21 : decode cX3_init 21 = .ok (.newarray .int, 2) := by decide +kernel
theorem dX3_init_23 : decode cX3_init 23 = .ok (.putfield 17, 3) := by decide +kernel
theorem dX3_init_26 : decode cX3_init 26 = .ok (.aload_n 0, 1) := by decide +kernel
theorem dX3_init_27 : decode cX3_init 27 = .ok (.bipush 40, 2) := by decide +kernel
theorem dX3_init_29 : decode cX3_init 29 = .ok (.newarray .int, 2) := by decide +kernel
theorem dX3_init_31 : decode cX3_init 31 = .ok (.putfield 20, 3) := by decide +kernel
theorem dX3_init_34 : decode cX3_init 34 = .ok (.aload_n 0, 1) := by decide +kernel
theorem dX3_init_35 : decode cX3_init 35 = .ok (.iconst 3, 1) := by decide +kernel
theorem dX3_init_36 : decode cX3_init 36 = .ok (.putfield 23, 3) := by decide +kernel
theorem dX3_init_39 : decode cX3_init 39 = .ok (.aload_n 0, 1) := by decide +kernel
theorem dX3_init_40 : decode cX3_init 40 = .ok (.iconst 1, 1) := by decide +kernel
theorem dX3_init_41 : decode cX3_init 41 = .ok (.putfield 26, 3) := by decide +kernel
theorem dX3_init_44 : decode cX3_init 44 = .ok (.aload_n 0, 1) := by decide +kernel
theorem dX3_init_45 : decode cX3_init 45 = .ok (.bipush 8, 2) := by decide +kernel
theorem dX3_init_47 : decode cX3_init 47 = .ok (.newarray .int, 2) := by decide +kernel
theorem dX3_init_49 : decode cX3_init 49 = .ok (.putfield 29, 3) := by decide +kernel
theorem dX3_init_52 : decode cX3_init 52 = .ok (.aload_n 0, 1) := by decide +kernel
theorem dX3_init_53 : decode cX3_init 53 = .ok (.sipush 200, 3) := by decide +kernel
theorem dX3_init_56 : decode cX3_init 56 = .ok (.newarray .int, 2) := by decide +kernel
theorem dX3_init_58 : decode cX3_init 58 = .ok (.putfield 32, 3) := by decide +kernel
theorem dX3_init_61 : decode cX3_init 61 = .ok (.aload_n 0, 1) := by decide +kernel
theorem dX3_init_62 : decode cX3_init 62 = .ok (.sipush 200, 3) := by decide +kernel
theorem dX3_init_65 : decode cX3_init 65 = .ok (.newarray .int, 2) := by decide +kernel
theorem dX3_init_67 : decode cX3_init 67 = .ok (.putfield 35, 3) := by decide +kernel
theorem dX3_init_70 : decode cX3_init 70 = .ok (.aload_n 0, 1) := by decide +kernel
theorem dX3_init_71 : decode cX3_init 71 = .ok (.bipush 20, 2) := by decide +kernel
theorem dX3_init_73 : decode cX3_init 73 = .ok (.newarray .int, 2) := by decide +kernel
theorem dX3_init_75 : decode cX3_init 75 = .ok (.putfield 38, 3) := by decide +kernel
theorem dX3_init_78 : decode cX3_init 78 = .ok (.aload_n 0, 1) := by decide +kernel
theorem dX3_init_79 : decode cX3_init 79 = .ok (.bipush 13, 2) := by decide +kernel
theorem dX3_init_81 : decode cX3_init 81 = .ok (.newarray .int, 2) := by decide +kernel
theorem dX3_init_83 : decode cX3_init 83 = .ok (.putfield 41, 3) := by decide +kernel
theorem dX3_init_86 : decode cX3_init 86 = .ok (.aload_n 0, 1) := by decide +kernel
theorem dX3_init_87 : decode cX3_init 87 = .ok (.bipush 13, 2) := by decide +kernel
theorem dX3_init_89 : decode cX3_init 89 = .ok (.newarray .int, 2) := by decide +kernel
theorem dX3_init_91 : decode cX3_init 91 = .ok (.putfield 44, 3) := by decide +kernel
theorem dX3_init_94 : decode cX3_init 94 = .ok (.aload_n 0, 1) := by decide +kernel
theorem dX3_init_95 : decode cX3_init 95 = .ok (.getfield 29, 3) := by decide +kernel
theorem dX3_init_98 : decode cX3_init 98 = .ok (.iconst 0, 1) := by decide +kernel
theorem dX3_init_99 : decode cX3_init 99 = .ok (.iconst 3, 1) := by decide +kernel
theorem dX3_init_100 : decode cX3_init 100 = .ok (.iastore, 1) := by decide +kernel
theorem dX3_init_101 : decode cX3_init 101 = .ok (.aload_n 0, 1) := by decide +kernel
theorem dX3_init_102 : decode cX3_init 102 = .ok (.bipush 10, 2) := by decide +kernel
theorem dX3_init_104 : decode cX3_init 104 = .ok (.invokevirtual 47, 3) := by decide +kernel
theorem dX3_init_107 : decode cX3_init 107 = .ok (.return_, 1) := by decide +kernel
theorem dX3_in_0 : decode cX3_in 0 = .ok (.lload_n 0, 1) := by decide +kernel
theorem dX3_in_1 : decode cX3_in 1 = .ok (.lload_n 2, 1) := by decide +kernel
theorem dX3_in_2 : decode cX3_in 2 = .ok (.lcmp, 1) := by decide +kernel
theorem dX3_in_3 : decode cX3_in 3 = .ok (.ifCond .lt 14, 3) := by decide +kernel
theorem dX3_in_6 : decode cX3_in 6 = .ok (.lload_n 0, 1) := by decide +kernel
theorem dX3_in_7 : decode cX3_in 7 = .ok (.lload 4, 2) := by decide +kernel
theorem dX3_in_9 : decode cX3_in 9 = .ok (.lcmp, 1) := by decide +kernel
theorem dX3_in_10 : decode cX3_in 10 = .ok (.ifCond .gt 7, 3) := by decide +kernel
theorem dX3_in_13 : decode cX3_in 13 = .ok (.iconst 1, 1) := by decide +kernel
theorem dX3_in_14 : decode cX3_in 14 = .ok (.goto 4, 3) := by decide +kernel
theorem dX3_in_17 : decode cX3_in 17 = .ok (.iconst 0, 1) := by decide +kernel
theorem dX3_in_18 : decode cX3_in 18 = .ok (.ireturn, 1) := by decide +kernel
set_option maxRecDepth 20000 in
theorem ggX3_isGreat_X3_in : GoodIn wsX3_isGreat wsX3_in := goodIn_r _ [6] (by decide +kernel) (by decide +kernel)
set_option maxRecDepth 20000 in
theorem gX3_isGreat_X3_in : GoodIn wsX3_isGreat (va_wsS RX3 56 yX3_in wsX3_in) := goodIn_app (goodIn_of _ (by decide +kernel)) ggX3_isGreat_X3_in
theorem dX3_isGreat_0 : decode cX3_isGreat 0 = .ok (.lload_n 0, 1) := by decide +kernel
theorem dX3_isGreat_1 : decode cX3_isGreat 1 = .ok (.lconst 1, 1) := by decide +kernel
theorem dX3_isGreat_2 : decode cX3_isGreat 2 = .ok (.ldc2_w 54, 3) := by decide +kernel
theorem dX3_isGreat_5 : decode cX3_isGreat 5 = .ok (.invokestatic 56, 3) := by decide +kernel
theorem dX3_isGreat_8 : decode cX3_isGreat 8 = .ok (.ifCond .eq 19, 3) := by decide +kernel
theorem dX3_isGreat_11 : decode cX3_isGreat 11 = .ok (.iload_n 2, 1) := by decide +kernel
theorem dX3_isGreat_12 : decode cX3_isGreat 12 = .ok (.i2l, 1) := by decide +kernel
theorem dX3_isGreat_13 : decode cX3_isGreat 13 = .ok (.lconst 1, 1) := by decide +kernel
theorem dX3_isGreat_14 : decode cX3_isGreat 14 = .ok (.ldc2_w 60, 3) := by decide +kernel
theorem dX3_isGreat_17 : decode cX3_isGreat 17 = .ok (.invokestatic 56, 3) := by decide +kernel
theorem dX3_isGreat_20 : decode cX3_isGreat 20 = .ok (.ifCond .eq 7, 3) := by decide +kernel
theorem dX3_isGreat_23 : decode cX3_isGreat 23 = .ok (.iconst 1, 1) := by decide +kernel
theorem dX3_isGreat_24 : decode cX3_isGreat 24 = .ok (.goto 4, 3) := by decide +kernel
theorem dX3_isGreat_27 : decode cX3_isGreat 27 = .ok (.iconst 0, 1) := by decide +kernel
theorem dX3_isGreat_28 : decode cX3_isGreat 28 = .ok (.ireturn, 1) := by decide +kernel
theorem dX3_goesOf_0 : decode cX3_goesOf 0 = .ok (.iload_n 2, 1) := by decide +kernel
theorem dX3_goesOf_1 : decode cX3_goesOf 1 = .ok (.iconst 1, 1) := by decide +kernel
theorem dX3_goesOf_2 : decode cX3_goesOf 2 = .ok (.if_icmp .ne 7, 3) := by decide +kernel
theorem dX3_goesOf_5 : decode cX3_goesOf 5 = .ok (.lload_n 3, 1) := by decide +kernel
theorem dX3_goesOf_6 : decode cX3_goesOf 6 = .ok (.lconst 1, 1) := by decide +kernel
theorem dX3_goesOf_7 : decode cX3_goesOf 7 = .ok (.lsub, 1) := by decide +kernel
theorem dX3_goesOf_8 : decode cX3_goesOf 8 = .ok (.lreturn, 1) := by decide +kernel
theorem dX3_goesOf_9 : decode cX3_goesOf 9 = .ok (.iload_n 2, 1) := by decide +kernel
theorem dX3_goesOf_10 : decode cX3_goesOf 10 = .ok (.i2l, 1) := by decide +kernel
theorem dX3_goesOf_11 : decode cX3_goesOf 11 = .ok (.lload_n 3, 1) := by decide +kernel
theorem dX3_goesOf_12 : decode cX3_goesOf 12 = .ok (.lmul, 1) := by decide +kernel
theorem dX3_goesOf_13 : decode cX3_goesOf 13 = .ok (.lstore 5, 2) := by decide +kernel
theorem dX3_goesOf_15 : decode cX3_goesOf 15 = .ok (.lload 5, 2) := by decide +kernel
theorem dX3_goesOf_17 : decode cX3_goesOf 17 = .ok (.lload_n 0, 1) := by decide +kernel
theorem dX3_goesOf_18 : decode cX3_goesOf 18 = .ok (.lcmp, 1) := by decide +kernel
theorem dX3_goesOf_19 : decode cX3_goesOf 19 = .ok (.ifCond .le 22, 3) := by decide +kernel
theorem dX3_goesOf_22 : decode cX3_goesOf 22 = .ok (.iload_n 2, 1) := by decide +kernel
theorem dX3_goesOf_23 : decode cX3_goesOf 23 = .ok (.i2l, 1) := by decide +kernel
theorem dX3_goesOf_24 : decode cX3_goesOf 24 = .ok (.lload 5, 2) := by decide +kernel
theorem dX3_goesOf_26 : decode cX3_goesOf 26 = .ok (.lload_n 0, 1) := by decide +kernel
theorem dX3_goesOf_27 : decode cX3_goesOf 27 = .ok (.lsub, 1) := by decide +kernel
theorem dX3_goesOf_28 : decode cX3_goesOf 28 = .ok (.lmul, 1) := by decide +kernel
theorem dX3_goesOf_29 : decode cX3_goesOf 29 = .ok (.lconst 1, 1) := by decide +kernel
theorem dX3_goesOf_30 : decode cX3_goesOf 30 = .ok (.lsub, 1) := by decide +kernel
theorem dX3_goesOf_31 : decode cX3_goesOf 31 = .ok (.iload_n 2, 1) := by decide +kernel
theorem dX3_goesOf_32 : decode cX3_goesOf 32 = .ok (.iconst 1, 1) := by decide +kernel
theorem dX3_goesOf_33 : decode cX3_goesOf 33 = .ok (.isub, 1) := by decide +kernel
theorem dX3_goesOf_34 : decode cX3_goesOf 34 = .ok (.i2l, 1) := by decide +kernel
theorem dX3_goesOf_35 : decode cX3_goesOf 35 = .ok (.ldiv, 1) := by decide +kernel
theorem dX3_goesOf_36 : decode cX3_goesOf 36 = .ok (.lstore 5, 2) := by decide +kernel
theorem dX3_goesOf_38 : decode cX3_goesOf 38 = .ok (.goto (-23), 3) := by decide +kernel
theorem dX3_goesOf_41 : decode cX3_goesOf 41 = .ok (.lload 5, 2) := by decide +kernel
theorem dX3_goesOf_43 : decode cX3_goesOf 43 = .ok (.lconst 1, 1) := by decide +kernel
theorem dX3_goesOf_44 : decode cX3_goesOf 44 = .ok (.lsub, 1) := by decide +kernel
theorem dX3_goesOf_45 : decode cX3_goesOf 45 = .ok (.lreturn, 1) := by decide +kernel
set_option maxRecDepth 20000 in
theorem ggX3_goes_X3_isGreat : GoodIn wsX3_goes wsX3_isGreat := goodIn_r _ [6, 7, 8, 9, 10, 5, 11] (by decide +kernel) (by decide +kernel)
set_option maxRecDepth 20000 in
theorem gX3_goes_X3_isGreat : GoodIn wsX3_goes (va_wsS RX3 62 yX3_isGreat wsX3_isGreat) := goodIn_app (goodIn_of _ (by decide +kernel)) ggX3_goes_X3_isGreat
set_option maxRecDepth 20000 in
theorem ggX3_goes_X3_in : GoodIn wsX3_goes wsX3_in := goodIn_r _ [11] (by decide +kernel) (by decide +kernel)
set_option maxRecDepth 20000 in
theorem gX3_goes_X3_in : GoodIn wsX3_goes (va_wsS RX3 56 yX3_in wsX3_in) := goodIn_app (goodIn_of _ (by decide +kernel)) ggX3_goes_X3_in
set_option maxRecDepth 20000 in
theorem ggX3_goes_X3_goesOf : GoodIn wsX3_goes wsX3_goesOf := goodIn_r _ [14] (by decide +kernel) (by decide +kernel)
set_option maxRecDepth 20000 in
theorem gX3_goes_X3_goesOf : GoodIn wsX3_goes (va_wsS RX3 66 yX3_goesOf wsX3_goesOf) := goodIn_app (goodIn_of _ (by decide +kernel)) ggX3_goes_X3_goesOf
theorem dX3_goes_0 : decode cX3_goes 0 = .ok (.aload_n 0, 1) := by decide +kernel
theorem dX3_goes_1 : decode cX3_goes 1 = .ok (.iconst 0, 1) := by decide +kernel
theorem dX3_goes_2 : decode cX3_goes 2 = .ok (.putfield 51, 3) := by decide +kernel
theorem dX3_goes_5 : decode cX3_goes 5 = .ok (.lload_n 1, 1) := by decide +kernel
theorem dX3_goes_6 : decode cX3_goes 6 = .ok (.iload_n 3, 1) := by decide +kernel
theorem dX3_goes_7 : decode cX3_goes 7 = .ok (.invokestatic 62, 3) := by decide +kernel
theorem dX3_goes_10 : decode cX3_goes 10 = .ok (.ifCond .eq 23, 3) := by decide +kernel
theorem dX3_goes_13 : decode cX3_goes 13 = .ok (.lload 4, 2) := by decide +kernel
theorem dX3_goes_15 : decode cX3_goes 15 = .ok (.lconst 1, 1) := by decide +kernel
theorem dX3_goes_16 : decode cX3_goes 16 = .ok (.lload_n 1, 1) := by decide +kernel
theorem dX3_goes_17 : decode cX3_goes 17 = .ok (.invokestatic 56, 3) := by decide +kernel
theorem dX3_goes_20 : decode cX3_goes 20 = .ok (.ifCond .eq 13, 3) := by decide +kernel
theorem dX3_goes_23 : decode cX3_goes 23 = .ok (.lload_n 1, 1) := by decide +kernel
theorem dX3_goes_24 : decode cX3_goes 24 = .ok (.iload_n 3, 1) := by decide +kernel
theorem dX3_goes_25 : decode cX3_goes 25 = .ok (.lload 4, 2) := by decide +kernel
theorem dX3_goes_27 : decode cX3_goes 27 = .ok (.invokestatic 66, 3) := by decide +kernel
theorem dX3_goes_30 : decode cX3_goes 30 = .ok (.goto 6, 3) := by decide +kernel
theorem dX3_goes_33 : decode cX3_goes 33 = .ok (.ldc2_w 70, 3) := by decide +kernel
theorem dX3_goes_36 : decode cX3_goes 36 = .ok (.lreturn, 1) := by decide +kernel
set_option maxRecDepth 20000 in
theorem ggX3_turn_X3_isGreat : GoodIn wsX3_turn wsX3_isGreat := goodIn_r _ [6, 7, 8, 9, 10, 5, 11] (by decide +kernel) (by decide +kernel)
set_option maxRecDepth 20000 in
theorem gX3_turn_X3_isGreat : GoodIn wsX3_turn (va_wsS RX3 62 yX3_isGreat wsX3_isGreat) := goodIn_app (goodIn_of _ (by decide +kernel)) ggX3_turn_X3_isGreat
set_option maxRecDepth 20000 in
theorem ggX3_turn_X3_in : GoodIn wsX3_turn wsX3_in := goodIn_r _ [11] (by decide +kernel) (by decide +kernel)
set_option maxRecDepth 20000 in
theorem gX3_turn_X3_in : GoodIn wsX3_turn (va_wsS RX3 56 yX3_in wsX3_in) := goodIn_app (goodIn_of _ (by decide +kernel)) ggX3_turn_X3_in
theorem dX3_turn_0 : decode cX3_turn 0 = .ok (.aload_n 0, 1) := by decide +kernel
theorem dX3_turn_1 : decode cX3_turn 1 = .ok (.iconst 0, 1) := by decide +kernel
theorem dX3_turn_2 : decode cX3_turn 2 = .ok (.putfield 51, 3) := by decide +kernel
theorem dX3_turn_5 : decode cX3_turn 5 = .ok (.lload_n 1, 1) := by decide +kernel
theorem dX3_turn_6 : decode cX3_turn 6 = .ok (.iload_n 3, 1) := by decide +kernel
theorem dX3_turn_7 : decode cX3_turn 7 = .ok (.invokestatic 62, 3) := by decide +kernel
theorem dX3_turn_10 : decode cX3_turn 10 = .ok (.ifCond .eq 15, 3) := by decide +kernel
theorem dX3_turn_13 : decode cX3_turn 13 = .ok (.lload 4, 2) := by decide +kernel
theorem dX3_turn_15 : decode cX3_turn 15 = .ok (.lconst 0, 1) := by decide +kernel
theorem dX3_turn_16 : decode cX3_turn 16 = .ok (.lload_n 1, 1) := by decide +kernel
theorem dX3_turn_17 : decode cX3_turn 17 = .ok (.lconst 1, 1) := by decide +kernel
theorem dX3_turn_18 : decode cX3_turn 18 = .ok (.lsub, 1) := by decide +kernel
theorem dX3_turn_19 : decode cX3_turn 19 = .ok (.invokestatic 56, 3) := by decide +kernel
theorem dX3_turn_22 : decode cX3_turn 22 = .ok (.ifCond .ne 7, 3) := by decide +kernel
theorem dX3_turn_25 : decode cX3_turn 25 = .ok (.ldc2_w 70, 3) := by decide +kernel
theorem dX3_turn_28 : decode cX3_turn 28 = .ok (.lreturn, 1) := by decide +kernel
theorem dX3_turn_29 : decode cX3_turn 29 = .ok (.lload 4, 2) := by decide +kernel
theorem dX3_turn_31 : decode cX3_turn 31 = .ok (.lconst 1, 1) := by decide +kernel
theorem dX3_turn_32 : decode cX3_turn 32 = .ok (.ladd, 1) := by decide +kernel
theorem dX3_turn_33 : decode cX3_turn 33 = .ok (.lstore 6, 2) := by decide +kernel
theorem dX3_turn_35 : decode cX3_turn 35 = .ok (.lload 6, 2) := by decide +kernel
theorem dX3_turn_37 : decode cX3_turn 37 = .ok (.iload_n 3, 1) := by decide +kernel
theorem dX3_turn_38 : decode cX3_turn 38 = .ok (.i2l, 1) := by decide +kernel
theorem dX3_turn_39 : decode cX3_turn 39 = .ok (.lrem, 1) := by decide +kernel
theorem dX3_turn_40 : decode cX3_turn 40 = .ok (.lconst 0, 1) := by decide +kernel
theorem dX3_turn_41 : decode cX3_turn 41 = .ok (.lcmp, 1) := by decide +kernel
theorem dX3_turn_42 : decode cX3_turn 42 = .ok (.ifCond .eq 26, 3) := by decide +kernel
theorem dX3_turn_45 : decode cX3_turn 45 = .ok (.lload_n 1, 1) := by decide +kernel
theorem dX3_turn_46 : decode cX3_turn 46 = .ok (.lload 6, 2) := by decide +kernel
theorem dX3_turn_48 : decode cX3_turn 48 = .ok (.iload_n 3, 1) := by decide +kernel
theorem dX3_turn_49 : decode cX3_turn 49 = .ok (.i2l, 1) := by decide +kernel
theorem dX3_turn_50 : decode cX3_turn 50 = .ok (.ldiv, 1) := by decide +kernel
theorem dX3_turn_51 : decode cX3_turn 51 = .ok (.iload_n 3, 1) := by decide +kernel
theorem dX3_turn_52 : decode cX3_turn 52 = .ok (.iconst 1, 1) := by decide +kernel
theorem dX3_turn_53 : decode cX3_turn 53 = .ok (.isub, 1) := by decide +kernel
theorem dX3_turn_54 : decode cX3_turn 54 = .ok (.i2l, 1) := by decide +kernel
theorem dX3_turn_55 : decode cX3_turn 55 = .ok (.lmul, 1) := by decide +kernel
theorem dX3_turn_56 : decode cX3_turn 56 = .ok (.ladd, 1) := by decide +kernel
theorem dX3_turn_57 : decode cX3_turn 57 = .ok (.lload 6, 2) := by decide +kernel
theorem dX3_turn_59 : decode cX3_turn 59 = .ok (.iload_n 3, 1) := by decide +kernel
theorem dX3_turn_60 : decode cX3_turn 60 = .ok (.i2l, 1) := by decide +kernel
theorem dX3_turn_61 : decode cX3_turn 61 = .ok (.lrem, 1) := by decide +kernel
theorem dX3_turn_62 : decode cX3_turn 62 = .ok (.ladd, 1) := by decide +kernel
theorem dX3_turn_63 : decode cX3_turn 63 = .ok (.lstore 6, 2) := by decide +kernel
theorem dX3_turn_65 : decode cX3_turn 65 = .ok (.goto (-30), 3) := by decide +kernel
theorem dX3_turn_68 : decode cX3_turn 68 = .ok (.lload 6, 2) := by decide +kernel
theorem dX3_turn_70 : decode cX3_turn 70 = .ok (.iload_n 3, 1) := by decide +kernel
theorem dX3_turn_71 : decode cX3_turn 71 = .ok (.i2l, 1) := by decide +kernel
theorem dX3_turn_72 : decode cX3_turn 72 = .ok (.ldiv, 1) := by decide +kernel
theorem dX3_turn_73 : decode cX3_turn 73 = .ok (.lreturn, 1) := by decide +kernel
set_option maxRecDepth 20000 in
theorem ggX3_last_X3_isGreat : GoodIn wsX3_last wsX3_isGreat := goodIn_r _ [6, 7, 8, 9, 10, 5, 11] (by decide +kernel) (by decide +kernel)
set_option maxRecDepth 20000 in
theorem gX3_last_X3_isGreat : GoodIn wsX3_last (va_wsS RX3 62 yX3_isGreat wsX3_isGreat) := goodIn_app (goodIn_of _ (by decide +kernel)) ggX3_last_X3_isGreat
set_option maxRecDepth 20000 in
theorem ggX3_last_X3_goesOf : GoodIn wsX3_last wsX3_goesOf := goodIn_r _ [14] (by decide +kernel) (by decide +kernel)
set_option maxRecDepth 20000 in
theorem gX3_last_X3_goesOf : GoodIn wsX3_last (va_wsS RX3 66 yX3_goesOf wsX3_goesOf) := goodIn_app (goodIn_of _ (by decide +kernel)) ggX3_last_X3_goesOf
theorem dX3_last_0 : decode cX3_last 0 = .ok (.aload_n 0, 1) := by decide +kernel
theorem dX3_last_1 : decode cX3_last 1 = .ok (.iconst 0, 1) := by decide +kernel
theorem dX3_last_2 : decode cX3_last 2 = .ok (.putfield 51, 3) := by decide +kernel
theorem dX3_last_5 : decode cX3_last 5 = .ok (.lload_n 1, 1) := by decide +kernel
theorem dX3_last_6 : decode cX3_last 6 = .ok (.iload_n 3, 1) := by decide +kernel
theorem dX3_last_7 : decode cX3_last 7 = .ok (.invokestatic 62, 3) := by decide +kernel
theorem dX3_last_10 : decode cX3_last 10 = .ok (.ifCond .eq 12, 3) := by decide +kernel
theorem dX3_last_13 : decode cX3_last 13 = .ok (.lload_n 1, 1) := by decide +kernel
theorem dX3_last_14 : decode cX3_last 14 = .ok (.iload_n 3, 1) := by decide +kernel
theorem dX3_last_15 : decode cX3_last 15 = .ok (.lload_n 1, 1) := by decide +kernel
theorem dX3_last_16 : decode cX3_last 16 = .ok (.invokestatic 66, 3) := by decide +kernel
theorem dX3_last_19 : decode cX3_last 19 = .ok (.goto 6, 3) := by decide +kernel
theorem dX3_last_22 : decode cX3_last 22 = .ok (.ldc2_w 70, 3) := by decide +kernel
theorem dX3_last_25 : decode cX3_last 25 = .ok (.lreturn, 1) := by decide +kernel
set_option maxRecDepth 20000 in
theorem ggX3_isHeap_X3_in : GoodIn wsX3_isHeap wsX3_in := goodIn_r _ [6] (by decide +kernel) (by decide +kernel)
set_option maxRecDepth 20000 in
theorem gX3_isHeap_X3_in : GoodIn wsX3_isHeap (va_wsS RX3 56 yX3_in wsX3_in) := goodIn_app (goodIn_of _ (by decide +kernel)) ggX3_isHeap_X3_in
theorem dX3_isHeap_0 : decode cX3_isHeap 0 = .ok (.iload_n 0, 1) := by decide +kernel
theorem dX3_isHeap_1 : decode cX3_isHeap 1 = .ok (.i2l, 1) := by decide +kernel
theorem dX3_isHeap_2 : decode cX3_isHeap 2 = .ok (.ldc2_w 72, 3) := by decide +kernel
theorem dX3_isHeap_5 : decode cX3_isHeap 5 = .ok (.ldc2_w 74, 3) := by decide +kernel
theorem dX3_isHeap_8 : decode cX3_isHeap 8 = .ok (.invokestatic 56, 3) := by decide +kernel
theorem dX3_isHeap_11 : decode cX3_isHeap 11 = .ok (.ifCond .eq 22, 3) := by decide +kernel
theorem dX3_isHeap_14 : decode cX3_isHeap 14 = .ok (.iload_n 1, 1) := by decide +kernel
theorem dX3_isHeap_15 : decode cX3_isHeap 15 = .ok (.i2l, 1) := by decide +kernel
theorem dX3_isHeap_16 : decode cX3_isHeap 16 = .ok (.lconst 1, 1) := by decide +kernel
theorem dX3_isHeap_17 : decode cX3_isHeap 17 = .ok (.iconst 1, 1) := by decide +kernel
theorem dX3_isHeap_18 : decode cX3_isHeap 18 = .ok (.iload_n 0, 1) := by decide +kernel
theorem dX3_isHeap_19 : decode cX3_isHeap 19 = .ok (.ishl, 1) := by decide +kernel
theorem dX3_isHeap_20 : decode cX3_isHeap 20 = .ok (.iconst 2, 1) := by decide +kernel
theorem dX3_isHeap_21 : decode cX3_isHeap 21 = .ok (.isub, 1) := by decide +kernel
theorem dX3_isHeap_22 : decode cX3_isHeap 22 = .ok (.i2l, 1) := by decide +kernel
theorem dX3_isHeap_23 : decode cX3_isHeap 23 = .ok (.invokestatic 56, 3) := by decide +kernel
theorem dX3_isHeap_26 : decode cX3_isHeap 26 = .ok (.ifCond .eq 7, 3) := by decide +kernel
theorem dX3_isHeap_29 : decode cX3_isHeap 29 = .ok (.iconst 1, 1) := by decide +kernel
theorem dX3_isHeap_30 : decode cX3_isHeap 30 = .ok (.goto 4, 3) := by decide +kernel
theorem dX3_isHeap_33 : decode cX3_isHeap 33 = .ok (.iconst 0, 1) := by decide +kernel
theorem dX3_isHeap_34 : decode cX3_isHeap 34 = .ok (.ireturn, 1) := by decide +kernel
theorem dX3_isFirst_0 : decode cX3_isFirst 0 = .ok (.iconst 0, 1) := by decide +kernel
theorem dX3_isFirst_1 : decode cX3_isFirst 1 = .ok (.istore 4, 2) := by decide +kernel
theorem dX3_isFirst_3 : decode cX3_isFirst 3 = .ok (.iconst 0, 1) := by decide +kernel
theorem dX3_isFirst_4 : decode cX3_isFirst 4 = .ok (.istore 5, 2) := by decide +kernel
theorem dX3_isFirst_6 : decode cX3_isFirst 6 = .ok (.iload 5, 2) := by decide +kernel
theorem dX3_isFirst_8 : decode cX3_isFirst 8 = .ok (.iload_n 1, 1) := by decide +kernel
theorem dX3_isFirst_9 : decode cX3_isFirst 9 = .ok (.if_icmp .ge 29, 3) := by decide +kernel
theorem dX3_isFirst_12 : decode cX3_isFirst 12 = .ok (.aload_n 0, 1) := by decide +kernel
theorem dX3_isFirst_13 : decode cX3_isFirst 13 = .ok (.getfield 38, 3) := by decide +kernel
theorem dX3_isFirst_16 : decode cX3_isFirst 16 = .ok (.iload 5, 2) := by decide +kernel
theorem dX3_isFirst_18 : decode cX3_isFirst 18 = .ok (.iload 5, 2) := by decide +kernel
theorem dX3_isFirst_20 : decode cX3_isFirst 20 = .ok (.iastore, 1) := by decide +kernel
theorem dX3_isFirst_21 : decode cX3_isFirst 21 = .ok (.iload 4, 2) := by decide +kernel
theorem dX3_isFirst_23 : decode cX3_isFirst 23 = .ok (.iload_n 2, 1) := by decide +kernel
theorem dX3_isFirst_24 : decode cX3_isFirst 24 = .ok (.iload 5, 2) := by decide +kernel
theorem dX3_isFirst_26 : decode cX3_isFirst 26 = .ok (.ishr, 1) := by decide +kernel
theorem dX3_isFirst_27 : decode cX3_isFirst 27 = .ok (.iconst 1, 1) := by decide +kernel
theorem dX3_isFirst_28 : decode cX3_isFirst 28 = .ok (.iand, 1) := by decide +kernel
theorem dX3_isFirst_29 : decode cX3_isFirst 29 = .ok (.iadd, 1) := by decide +kernel
theorem dX3_isFirst_30 : decode cX3_isFirst 30 = .ok (.istore 4, 2) := by decide +kernel
theorem dX3_isFirst_32 : decode cX3_isFirst 32 = .ok (.iinc 5 1, 3) := by decide +kernel
theorem dX3_isFirst_35 : decode cX3_isFirst 35 = .ok (.goto (-29), 3) := by decide +kernel
theorem dX3_isFirst_38 : decode cX3_isFirst 38 = .ok (.iconst 0, 1) := by decide +kernel
theorem dX3_isFirst_39 : decode cX3_isFirst 39 = .ok (.istore 5, 2) := by decide +kernel
theorem dX3_isFirst_41 : decode cX3_isFirst 41 = .ok (.iconst 0, 1) := by decide +kernel
theorem dX3_isFirst_42 : decode cX3_isFirst 42 = .ok (.istore 6, 2) := by decide +kernel
theorem dX3_isFirst_44 : decode cX3_isFirst 44 = .ok (.iload 6, 2) := by decide +kernel
theorem dX3_isFirst_46 : decode cX3_isFirst 46 = .ok (.iload 4, 2) := by decide +kernel
theorem dX3_isFirst_48 : decode cX3_isFirst 48 = .ok (.if_icmp .ge 77, 3) := by decide +kernel
theorem dX3_isFirst_51 : decode cX3_isFirst 51 = .ok (.iload_n 1, 1) := by decide +kernel
theorem dX3_isFirst_52 : decode cX3_isFirst 52 = .ok (.iload 6, 2) := by decide +kernel
theorem dX3_isFirst_54 : decode cX3_isFirst 54 = .ok (.isub, 1) := by decide +kernel
theorem dX3_isFirst_55 : decode cX3_isFirst 55 = .ok (.istore 7, 2) := by decide +kernel
theorem dX3_isFirst_57 : decode cX3_isFirst 57 = .ok (.iload 5, 2) := by decide +kernel
theorem dX3_isFirst_59 : decode cX3_isFirst 59 = .ok (.iload_n 3, 1) := by decide +kernel
theorem dX3_isFirst_60 : decode cX3_isFirst 60 = .ok (.iadd, 1) := by decide +kernel
theorem dX3_isFirst_61 : decode cX3_isFirst 61 = .ok (.iconst 1, 1) := by decide +kernel
theorem dX3_isFirst_62 : decode cX3_isFirst 62 = .ok (.isub, 1) := by decide +kernel
theorem dX3_isFirst_63 : decode cX3_isFirst 63 = .ok (.iload 7, 2) := by decide +kernel
theorem dX3_isFirst_65 : decode cX3_isFirst 65 = .ok (.irem, 1) := by decide +kernel
theorem dX3_isFirst_66 : decode cX3_isFirst 66 = .ok (.istore 5, 2) := by decide +kernel
theorem dX3_isFirst_68 : decode cX3_isFirst 68 = .ok (.iload_n 2, 1) := by decide +kernel
theorem dX3_isFirst_69 : decode cX3_isFirst 69 = .ok (.aload_n 0, 1) := by decide +kernel
theorem dX3_isFirst_70 : decode cX3_isFirst 70 = .ok (.getfield 38, 3) := by decide +kernel
theorem dX3_isFirst_73 : decode cX3_isFirst 73 = .ok (.iload 5, 2) := by decide +kernel
theorem dX3_isFirst_75 : decode cX3_isFirst 75 = .ok (.iaload, 1) := by decide +kernel
theorem dX3_isFirst_76 : decode cX3_isFirst 76 = .ok (.ishr, 1) := by decide +kernel
theorem dX3_isFirst_77 : decode cX3_isFirst 77 = .ok (.iconst 1, 1) := by decide +kernel
theorem dX3_isFirst_78 : decode cX3_isFirst 78 = .ok (.iand, 1) := by decide +kernel
theorem dX3_isFirst_79 : decode cX3_isFirst 79 = .ok (.ifCond .ne 5, 3) := by decide +kernel
theorem dX3_isFirst_82 : decode cX3_isFirst 82 = .ok (.iconst 0, 1) := by decide +kernel
theorem dX3_isFirst_83 : decode cX3_isFirst 83 = .ok (.ireturn, 1) := by decide +kernel
theorem dX3_isFirst_84 : decode cX3_isFirst 84 = .ok (.iload 5, 2) := by decide +kernel
theorem dX3_isFirst_86 : decode cX3_isFirst 86 = .ok (.istore 8, 2) := by decide +kernel
theorem dX3_isFirst_88 : decode cX3_isFirst 88 = .ok (.iload 8, 2) := by decide +kernel
theorem dX3_isFirst_90 : decode cX3_isFirst 90 = .ok (.iconst 1, 1) := by decide +kernel
theorem dX3_isFirst_91 : decode cX3_isFirst 91 = .ok (.iadd, 1) := by decide +kernel
theorem dX3_isFirst_92 : decode cX3_isFirst 92 = .ok (.iload 7, 2) := by decide +kernel
theorem dX3_isFirst_94 : decode cX3_isFirst 94 = .ok (.if_icmp .ge 25, 3) := by decide +kernel
theorem dX3_isFirst_97 : decode cX3_isFirst 97 = .ok (.aload_n 0, 1) := by decide +kernel
theorem dX3_isFirst_98 : decode cX3_isFirst 98 = .ok (.getfield 38, 3) := by decide +kernel
theorem dX3_isFirst_101 : decode cX3_isFirst 101 = .ok (.iload 8, 2) := by decide +kernel
theorem dX3_isFirst_103 : decode cX3_isFirst 103 = .ok (.aload_n 0, 1) := by decide +kernel
theorem dX3_isFirst_104 : decode cX3_isFirst 104 = .ok (.getfield 38, 3) := by decide +kernel
theorem dX3_isFirst_107 : decode cX3_isFirst 107 = .ok (.iload 8, 2) := by decide +kernel
theorem dX3_isFirst_109 : decode cX3_isFirst 109 = .ok (.iconst 1, 1) := by decide +kernel
theorem dX3_isFirst_110 : decode cX3_isFirst 110 = .ok (.iadd, 1) := by decide +kernel
theorem dX3_isFirst_111 : decode cX3_isFirst 111 = .ok (.iaload, 1) := by decide +kernel
theorem dX3_isFirst_112 : decode cX3_isFirst 112 = .ok (.iastore, 1) := by decide +kernel
theorem dX3_isFirst_113 : decode cX3_isFirst 113 = .ok (.iinc 8 1, 3) := by decide +kernel
theorem dX3_isFirst_116 : decode cX3_isFirst 116 = .ok (.goto (-28), 3) := by decide +kernel
theorem dX3_isFirst_119 : decode cX3_isFirst 119 = .ok (.iinc 6 1, 3) := by decide +kernel
theorem dX3_isFirst_122 : decode cX3_isFirst 122 = .ok (.goto (-78), 3) := by decide +kernel
theorem dX3_isFirst_125 : decode cX3_isFirst 125 = .ok (.iconst 1, 1) := by decide +kernel
theorem dX3_isFirst_126 : decode cX3_isFirst 126 = .ok (.ireturn, 1) := by decide +kernel
set_option maxRecDepth 20000 in
theorem ggX3_first_X3_isHeap : GoodIn wsX3_first wsX3_isHeap := goodIn_r _ [6, 7, 8, 9, 10, 5, 11] (by decide +kernel) (by decide +kernel)
set_option maxRecDepth 20000 in
theorem gX3_first_X3_isHeap : GoodIn wsX3_first (va_wsS RX3 76 yX3_isHeap wsX3_isHeap) := goodIn_app (goodIn_of _ (by decide +kernel)) ggX3_first_X3_isHeap
set_option maxRecDepth 20000 in
theorem ggX3_first_X3_in : GoodIn wsX3_first wsX3_in := goodIn_r _ [11] (by decide +kernel) (by decide +kernel)
set_option maxRecDepth 20000 in
theorem gX3_first_X3_in : GoodIn wsX3_first (va_wsS RX3 56 yX3_in wsX3_in) := goodIn_app (goodIn_of _ (by decide +kernel)) ggX3_first_X3_in
set_option maxRecDepth 20000 in
theorem ggX3_first_X3_isFirst : GoodIn wsX3_first wsX3_isFirst := goodIn_r _ [15, 16, 17, 18, 19, 20, 21, 22, 23, 24, 25, 26, 27, 28, 29, 30, 31, 32, 33] (by decide +kernel) (by decide +kernel)
set_option maxRecDepth 20000 in
theorem gX3_first_X3_isFirst : GoodIn wsX3_first (wsV RX3 82 RX3 yX3_isFirst wsX3_isFirst) := goodIn_app (goodIn_of _ (by decide +kernel)) ggX3_first_X3_isFirst
theorem dX3_first_0 : decode cX3_first 0 = .ok (.aload_n 0, 1) := by decide +kernel
theorem dX3_first_1 : decode cX3_first 1 = .ok (.iconst 0, 1) := by decide +kernel
theorem dX3_first_2 : decode cX3_first 2 = .ok (.putfield 51, 3) := by decide +kernel
theorem dX3_first_5 : decode cX3_first 5 = .ok (.iload_n 1, 1) := by decide +kernel
theorem dX3_first_6 : decode cX3_first 6 = .ok (.iload_n 2, 1) := by decide +kernel
theorem dX3_first_7 : decode cX3_first 7 = .ok (.invokestatic 76, 3) := by decide +kernel
theorem dX3_first_10 : decode cX3_first 10 = .ok (.ifCond .eq 15, 3) := by decide +kernel
theorem dX3_first_13 : decode cX3_first 13 = .ok (.iload_n 3, 1) := by decide +kernel
theorem dX3_first_14 : decode cX3_first 14 = .ok (.i2l, 1) := by decide +kernel
theorem dX3_first_15 : decode cX3_first 15 = .ok (.lconst 1, 1) := by decide +kernel
theorem dX3_first_16 : decode cX3_first 16 = .ok (.ldc2_w 80, 3) := by decide +kernel
theorem dX3_first_19 : decode cX3_first 19 = .ok (.invokestatic 56, 3) := by decide +kernel
theorem dX3_first_22 : decode cX3_first 22 = .ok (.ifCond .ne 7, 3) := by decide +kernel
theorem dX3_first_25 : decode cX3_first 25 = .ok (.iconst (-1), 1) := by decide +kernel
theorem dX3_first_26 : decode cX3_first 26 = .ok (.goto 18, 3) := by decide +kernel
theorem dX3_first_29 : decode cX3_first 29 = .ok (.aload_n 0, 1) := by decide +kernel
theorem dX3_first_30 : decode cX3_first 30 = .ok (.iload_n 1, 1) := by decide +kernel
theorem dX3_first_31 : decode cX3_first 31 = .ok (.iload_n 2, 1) := by decide +kernel
theorem dX3_first_32 : decode cX3_first 32 = .ok (.iload_n 3, 1) := by decide +kernel
theorem dX3_first_33 : decode cX3_first 33 = .ok (.invokevirtual 82, 3) := by decide +kernel
theorem dX3_first_36 : decode cX3_first 36 = .ok (.ifCond .eq 7, 3) := by decide +kernel
theorem dX3_first_39 : decode cX3_first 39 = .ok (.iconst 1, 1) := by decide +kernel
theorem dX3_first_40 : decode cX3_first 40 = .ok (.goto 4, 3) := by decide +kernel
theorem dX3_first_43 : decode cX3_first 43 = .ok (.iconst 0, 1) := by decide +kernel
theorem dX3_first_44 : decode cX3_first 44 = .ok (.ireturn, 1) := by decide +kernel
set_option maxRecDepth 20000 in
theorem ggX3_least_X3_isHeap : GoodIn wsX3_least wsX3_isHeap := goodIn_r _ [5, 6, 7, 8, 9, 4, 10] (by decide +kernel) (by decide +kernel)
set_option maxRecDepth 20000 in
theorem gX3_least_X3_isHeap : GoodIn wsX3_least (va_wsS RX3 76 yX3_isHeap wsX3_isHeap) := goodIn_app (goodIn_of _ (by decide +kernel)) ggX3_least_X3_isHeap
set_option maxRecDepth 20000 in
theorem ggX3_least_X3_isFirst : GoodIn wsX3_least wsX3_isFirst := goodIn_r _ [14, 15, 16, 17, 18, 19, 20, 21, 22, 23, 24, 25, 26, 27, 28, 29, 30, 31, 32] (by decide +kernel) (by decide +kernel)
set_option maxRecDepth 20000 in
theorem gX3_least_X3_isFirst : GoodIn wsX3_least (wsV RX3 82 RX3 yX3_isFirst wsX3_isFirst) := goodIn_app (goodIn_of _ (by decide +kernel)) ggX3_least_X3_isFirst
theorem dX3_least_0 : decode cX3_least 0 = .ok (.aload_n 0, 1) := by decide +kernel
theorem dX3_least_1 : decode cX3_least 1 = .ok (.iconst 0, 1) := by decide +kernel
theorem dX3_least_2 : decode cX3_least 2 = .ok (.putfield 51, 3) := by decide +kernel
theorem dX3_least_5 : decode cX3_least 5 = .ok (.iload_n 1, 1) := by decide +kernel
theorem dX3_least_6 : decode cX3_least 6 = .ok (.iload_n 2, 1) := by decide +kernel
theorem dX3_least_7 : decode cX3_least 7 = .ok (.invokestatic 76, 3) := by decide +kernel
theorem dX3_least_10 : decode cX3_least 10 = .ok (.ifCond .ne 5, 3) := by decide +kernel
theorem dX3_least_13 : decode cX3_least 13 = .ok (.iconst (-1), 1) := by decide +kernel
theorem dX3_least_14 : decode cX3_least 14 = .ok (.ireturn, 1) := by decide +kernel
theorem dX3_least_15 : decode cX3_least 15 = .ok (.iconst 1, 1) := by decide +kernel
theorem dX3_least_16 : decode cX3_least 16 = .ok (.istore_n 3, 1) := by decide +kernel
theorem dX3_least_17 : decode cX3_least 17 = .ok (.iload_n 3, 1) := by decide +kernel
theorem dX3_least_18 : decode cX3_least 18 = .ok (.sipush 10000, 3) := by decide +kernel
theorem dX3_least_21 : decode cX3_least 21 = .ok (.if_icmp .gt 21, 3) := by decide +kernel
theorem dX3_least_24 : decode cX3_least 24 = .ok (.aload_n 0, 1) := by decide +kernel
theorem dX3_least_25 : decode cX3_least 25 = .ok (.iload_n 1, 1) := by decide +kernel
theorem dX3_least_26 : decode cX3_least 26 = .ok (.iload_n 2, 1) := by decide +kernel
theorem dX3_least_27 : decode cX3_least 27 = .ok (.iload_n 3, 1) := by decide +kernel
theorem dX3_least_28 : decode cX3_least 28 = .ok (.invokevirtual 82, 3) := by decide +kernel
theorem dX3_least_31 : decode cX3_least 31 = .ok (.ifCond .eq 5, 3) := by decide +kernel
theorem dX3_least_34 : decode cX3_least 34 = .ok (.iload_n 3, 1) := by decide +kernel
theorem dX3_least_35 : decode cX3_least 35 = .ok (.ireturn, 1) := by decide +kernel
theorem dX3_least_36 : decode cX3_least 36 = .ok (.iinc 3 1, 3) := by decide +kernel
theorem dX3_least_39 : decode cX3_least 39 = .ok (.goto (-22), 3) := by decide +kernel
theorem dX3_least_42 : decode cX3_least 42 = .ok (.bipush (-9), 2) := by decide +kernel
theorem dX3_least_44 : decode cX3_least 44 = .ok (.ireturn, 1) := by decide +kernel
theorem dX3_begins_0 : decode cX3_begins 0 = .ok (.aload_n 0, 1) := by decide +kernel
theorem dX3_begins_1 : decode cX3_begins 1 = .ok (.iload_n 1, 1) := by decide +kernel
theorem dX3_begins_2 : decode cX3_begins 2 = .ok (.putfield 7, 3) := by decide +kernel
theorem dX3_begins_5 : decode cX3_begins 5 = .ok (.aload_n 0, 1) := by decide +kernel
theorem dX3_begins_6 : decode cX3_begins 6 = .ok (.iconst 0, 1) := by decide +kernel
theorem dX3_begins_7 : decode cX3_begins 7 = .ok (.putfield 86, 3) := by decide +kernel
theorem dX3_begins_10 : decode cX3_begins 10 = .ok (.aload_n 0, 1) := by decide +kernel
theorem dX3_begins_11 : decode cX3_begins 11 = .ok (.iconst 0, 1) := by decide +kernel
theorem dX3_begins_12 : decode cX3_begins 12 = .ok (.putfield 89, 3) := by decide +kernel
theorem dX3_begins_15 : decode cX3_begins 15 = .ok (.iconst 0, 1) := by decide +kernel
theorem dX3_begins_16 : decode cX3_begins 16 = .ok (.istore_n 2, 1) := by decide +kernel
theorem dX3_begins_17 : decode cX3_begins 17 = .ok (.iload_n 2, 1) := by decide +kernel
theorem dX3_begins_18 : decode cX3_begins 18 = .ok (.bipush 40, 2) := by decide +kernel
theorem dX3_begins_20 : decode cX3_begins 20 = .ok (.if_icmp .ge 31, 3) := by decide +kernel
theorem dX3_begins_23 : decode cX3_begins 23 = .ok (.aload_n 0, 1) := by decide +kernel
theorem dX3_begins_24 : decode cX3_begins 24 = .ok (.getfield 13, 3) := by decide +kernel
theorem dX3_begins_27 : decode cX3_begins 27 = .ok (.iload_n 2, 1) := by decide +kernel
theorem dX3_begins_28 : decode cX3_begins 28 = .ok (.iconst 1, 1) := by decide +kernel
theorem dX3_begins_29 : decode cX3_begins 29 = .ok (.iastore, 1) := by decide +kernel
theorem dX3_begins_30 : decode cX3_begins 30 = .ok (.aload_n 0, 1) := by decide +kernel
theorem dX3_begins_31 : decode cX3_begins 31 = .ok (.getfield 17, 3) := by decide +kernel
theorem dX3_begins_34 : decode cX3_begins 34 = .ok (.iload_n 2, 1) := by decide +kernel
theorem dX3_begins_35 : decode cX3_begins 35 = .ok (.iconst 1, 1) := by decide +kernel
theorem dX3_begins_36 : decode cX3_begins 36 = .ok (.iastore, 1) := by decide +kernel
theorem dX3_begins_37 : decode cX3_begins 37 = .ok (.aload_n 0, 1) := by decide +kernel
theorem dX3_begins_38 : decode cX3_begins 38 = .ok (.getfield 20, 3) := by decide +kernel
theorem dX3_begins_41 : decode cX3_begins 41 = .ok (.iload_n 2, 1) := by decide +kernel
theorem dX3_begins_42 : decode cX3_begins 42 = .ok (.bipush (-9), 2) := by decide +kernel
theorem dX3_begins_44 : decode cX3_begins 44 = .ok (.iastore, 1) := by decide +kernel
theorem dX3_begins_45 : decode cX3_begins 45 = .ok (.iinc 2 1, 3) := by decide +kernel
theorem dX3_begins_48 : decode cX3_begins 48 = .ok (.goto (-31), 3) := by decide +kernel
theorem dX3_begins_51 : decode cX3_begins 51 = .ok (.return_, 1) := by decide +kernel
set_option maxRecDepth 20000 in
theorem ggX3_ring_X3_in : GoodIn wsX3_ring wsX3_in := goodIn_r _ [7] (by decide +kernel) (by decide +kernel)
set_option maxRecDepth 20000 in
theorem gX3_ring_X3_in : GoodIn wsX3_ring (va_wsS RX3 56 yX3_in wsX3_in) := goodIn_app (goodIn_of _ (by decide +kernel)) ggX3_ring_X3_in
set_option maxRecDepth 20000 in
theorem ggX3_ring_X3_begins : GoodIn wsX3_ring wsX3_begins := goodIn_r _ [11, 3, 12, 13, 14, 15, 16, 17, 18, 19, 20, 21, 22, 23, 24, 25, 26, 27, 28, 29, 30, 31, 32, 33] (by decide +kernel) (by decide +kernel)
set_option maxRecDepth 20000 in
theorem gX3_ring_X3_begins : GoodIn wsX3_ring (wsV RX3 47 RX3 yX3_begins wsX3_begins) := goodIn_app (goodIn_of _ (by decide +kernel)) ggX3_ring_X3_begins
theorem dX3_ring_0 : decode cX3_ring 0 = .ok (.aload_n 0, 1) := by decide +kernel
theorem dX3_ring_1 : decode cX3_ring 1 = .ok (.iconst 0, 1) := by decide +kernel
theorem dX3_ring_2 : decode cX3_ring 2 = .ok (.putfield 51, 3) := by decide +kernel
theorem dX3_ring_5 : decode cX3_ring 5 = .ok (.iload_n 1, 1) := by decide +kernel
theorem dX3_ring_6 : decode cX3_ring 6 = .ok (.i2l, 1) := by decide +kernel
theorem dX3_ring_7 : decode cX3_ring 7 = .ok (.lconst 1, 1) := by decide +kernel
theorem dX3_ring_8 : decode cX3_ring 8 = .ok (.ldc2_w 92, 3) := by decide +kernel
theorem dX3_ring_11 : decode cX3_ring 11 = .ok (.invokestatic 56, 3) := by decide +kernel
theorem dX3_ring_14 : decode cX3_ring 14 = .ok (.ifCond .ne 5, 3) := by decide +kernel
theorem dX3_ring_17 : decode cX3_ring 17 = .ok (.iconst (-1), 1) := by decide +kernel
theorem dX3_ring_18 : decode cX3_ring 18 = .ok (.ireturn, 1) := by decide +kernel
theorem dX3_ring_19 : decode cX3_ring 19 = .ok (.aload_n 0, 1) := by decide +kernel
theorem dX3_ring_20 : decode cX3_ring 20 = .ok (.getfield 7, 3) := by decide +kernel
theorem dX3_ring_23 : decode cX3_ring 23 = .ok (.istore_n 2, 1) := by decide +kernel
theorem dX3_ring_24 : decode cX3_ring 24 = .ok (.aload_n 0, 1) := by decide +kernel
theorem dX3_ring_25 : decode cX3_ring 25 = .ok (.iload_n 1, 1) := by decide +kernel
theorem dX3_ring_26 : decode cX3_ring 26 = .ok (.invokevirtual 47, 3) := by decide +kernel
theorem dX3_ring_29 : decode cX3_ring 29 = .ok (.iload_n 2, 1) := by decide +kernel
theorem dX3_ring_30 : decode cX3_ring 30 = .ok (.ireturn, 1) := by decide +kernel
set_option maxRecDepth 20000 in
theorem ggX3_isPerson_X3_in : GoodIn wsX3_isPerson wsX3_in := goodIn_r _ [5] (by decide +kernel) (by decide +kernel)
set_option maxRecDepth 20000 in
theorem gX3_isPerson_X3_in : GoodIn wsX3_isPerson (va_wsS RX3 56 yX3_in wsX3_in) := goodIn_app (goodIn_of _ (by decide +kernel)) ggX3_isPerson_X3_in
theorem dX3_isPerson_0 : decode cX3_isPerson 0 = .ok (.iload_n 1, 1) := by decide +kernel
theorem dX3_isPerson_1 : decode cX3_isPerson 1 = .ok (.i2l, 1) := by decide +kernel
theorem dX3_isPerson_2 : decode cX3_isPerson 2 = .ok (.lconst 0, 1) := by decide +kernel
theorem dX3_isPerson_3 : decode cX3_isPerson 3 = .ok (.aload_n 0, 1) := by decide +kernel
theorem dX3_isPerson_4 : decode cX3_isPerson 4 = .ok (.getfield 7, 3) := by decide +kernel
theorem dX3_isPerson_7 : decode cX3_isPerson 7 = .ok (.iconst 1, 1) := by decide +kernel
theorem dX3_isPerson_8 : decode cX3_isPerson 8 = .ok (.isub, 1) := by decide +kernel
theorem dX3_isPerson_9 : decode cX3_isPerson 9 = .ok (.i2l, 1) := by decide +kernel
theorem dX3_isPerson_10 : decode cX3_isPerson 10 = .ok (.invokestatic 56, 3) := by decide +kernel
theorem dX3_isPerson_13 : decode cX3_isPerson 13 = .ok (.ireturn, 1) := by decide +kernel
set_option maxRecDepth 20000 in
theorem ggX3_lives_X3_isPerson : GoodIn wsX3_lives wsX3_isPerson := goodIn_r _ [10, 11, 12, 13, 9, 14, 15, 16, 17, 18, 19, 20, 21, 22, 23, 24, 25, 26, 27, 28, 29, 30, 31] (by decide +kernel) (by decide +kernel)
set_option maxRecDepth 20000 in
theorem gX3_lives_X3_isPerson : GoodIn wsX3_lives (wsV RX3 94 RX3 yX3_isPerson wsX3_isPerson) := goodIn_app (goodIn_of _ (by decide +kernel)) ggX3_lives_X3_isPerson
set_option maxRecDepth 20000 in
theorem ggX3_lives_X3_in : GoodIn wsX3_lives wsX3_in := goodIn_r _ [14] (by decide +kernel) (by decide +kernel)
set_option maxRecDepth 20000 in
theorem gX3_lives_X3_in : GoodIn wsX3_lives (va_wsS RX3 56 yX3_in wsX3_in) := goodIn_app (goodIn_of _ (by decide +kernel)) ggX3_lives_X3_in
theorem dX3_lives_0 : decode cX3_lives 0 = .ok (.aload_n 0, 1) := by decide +kernel
theorem dX3_lives_1 : decode cX3_lives 1 = .ok (.iconst 0, 1) := by decide +kernel
theorem dX3_lives_2 : decode cX3_lives 2 = .ok (.putfield 51, 3) := by decide +kernel
theorem dX3_lives_5 : decode cX3_lives 5 = .ok (.aload_n 0, 1) := by decide +kernel
theorem dX3_lives_6 : decode cX3_lives 6 = .ok (.iload_n 1, 1) := by decide +kernel
theorem dX3_lives_7 : decode cX3_lives 7 = .ok (.invokevirtual 94, 3) := by decide +kernel
theorem dX3_lives_10 : decode cX3_lives 10 = .ok (.ifCond .eq 15, 3) := by decide +kernel
theorem dX3_lives_13 : decode cX3_lives 13 = .ok (.iload_n 2, 1) := by decide +kernel
theorem dX3_lives_14 : decode cX3_lives 14 = .ok (.i2l, 1) := by decide +kernel
theorem dX3_lives_15 : decode cX3_lives 15 = .ok (.lconst 1, 1) := by decide +kernel
theorem dX3_lives_16 : decode cX3_lives 16 = .ok (.ldc2_w 98, 3) := by decide +kernel
theorem dX3_lives_19 : decode cX3_lives 19 = .ok (.invokestatic 56, 3) := by decide +kernel
theorem dX3_lives_22 : decode cX3_lives 22 = .ok (.ifCond .ne 5, 3) := by decide +kernel
theorem dX3_lives_25 : decode cX3_lives 25 = .ok (.iconst (-1), 1) := by decide +kernel
theorem dX3_lives_26 : decode cX3_lives 26 = .ok (.ireturn, 1) := by decide +kernel
theorem dX3_lives_27 : decode cX3_lives 27 = .ok (.aload_n 0, 1) := by decide +kernel
theorem dX3_lives_28 : decode cX3_lives 28 = .ok (.getfield 86, 3) := by decide +kernel
theorem dX3_lives_31 : decode cX3_lives 31 = .ok (.ifCond .le 6, 3) := by decide +kernel
theorem dX3_lives_34 : decode cX3_lives 34 = .ok (.bipush (-2), 2) := by decide +kernel
theorem dX3_lives_36 : decode cX3_lives 36 = .ok (.ireturn, 1) := by decide +kernel
theorem dX3_lives_37 : decode cX3_lives 37 = .ok (.aload_n 0, 1) := by decide +kernel
theorem dX3_lives_38 : decode cX3_lives 38 = .ok (.getfield 13, 3) := by decide +kernel
theorem dX3_lives_41 : decode cX3_lives 41 = .ok (.iload_n 1, 1) := by decide +kernel
theorem dX3_lives_42 : decode cX3_lives 42 = .ok (.iaload, 1) := by decide +kernel
theorem dX3_lives_43 : decode cX3_lives 43 = .ok (.istore_n 3, 1) := by decide +kernel
theorem dX3_lives_44 : decode cX3_lives 44 = .ok (.aload_n 0, 1) := by decide +kernel
theorem dX3_lives_45 : decode cX3_lives 45 = .ok (.getfield 13, 3) := by decide +kernel
theorem dX3_lives_48 : decode cX3_lives 48 = .ok (.iload_n 1, 1) := by decide +kernel
theorem dX3_lives_49 : decode cX3_lives 49 = .ok (.iload_n 2, 1) := by decide +kernel
theorem dX3_lives_50 : decode cX3_lives 50 = .ok (.iastore, 1) := by decide +kernel
theorem dX3_lives_51 : decode cX3_lives 51 = .ok (.aload_n 0, 1) := by decide +kernel
theorem dX3_lives_52 : decode cX3_lives 52 = .ok (.getfield 17, 3) := by decide +kernel
theorem dX3_lives_55 : decode cX3_lives 55 = .ok (.iload_n 1, 1) := by decide +kernel
theorem dX3_lives_56 : decode cX3_lives 56 = .ok (.iload_n 2, 1) := by decide +kernel
theorem dX3_lives_57 : decode cX3_lives 57 = .ok (.iastore, 1) := by decide +kernel
theorem dX3_lives_58 : decode cX3_lives 58 = .ok (.iload_n 3, 1) := by decide +kernel
theorem dX3_lives_59 : decode cX3_lives 59 = .ok (.ireturn, 1) := by decide +kernel
set_option maxRecDepth 20000 in
theorem ggX3_set_X3_in : GoodIn wsX3_set wsX3_in := goodIn_r _ [10] (by decide +kernel) (by decide +kernel)
set_option maxRecDepth 20000 in
theorem gX3_set_X3_in : GoodIn wsX3_set (va_wsS RX3 56 yX3_in wsX3_in) := goodIn_app (goodIn_of _ (by decide +kernel)) ggX3_set_X3_in
theorem dX3_set_0 : decode cX3_set 0 = .ok (.aload_n 0, 1) := by decide +kernel
theorem dX3_set_1 : decode cX3_set 1 = .ok (.iconst 0, 1) := by decide +kernel
theorem dX3_set_2 : decode cX3_set 2 = .ok (.putfield 51, 3) := by decide +kernel
theorem dX3_set_5 : decode cX3_set 5 = .ok (.iload_n 1, 1) := by decide +kernel
theorem dX3_set_6 : decode cX3_set 6 = .ok (.i2l, 1) := by decide +kernel
theorem dX3_set_7 : decode cX3_set 7 = .ok (.lconst 0, 1) := by decide +kernel
theorem dX3_set_8 : decode cX3_set 8 = .ok (.lconst 1, 1) := by decide +kernel
theorem dX3_set_9 : decode cX3_set 9 = .ok (.invokestatic 56, 3) := by decide +kernel
theorem dX3_set_12 : decode cX3_set 12 = .ok (.ifCond .eq 33, 3) := by decide +kernel
theorem dX3_set_15 : decode cX3_set 15 = .ok (.iload_n 2, 1) := by decide +kernel
theorem dX3_set_16 : decode cX3_set 16 = .ok (.i2l, 1) := by decide +kernel
theorem dX3_set_17 : decode cX3_set 17 = .ok (.iload_n 1, 1) := by decide +kernel
theorem dX3_set_18 : decode cX3_set 18 = .ok (.ifCond .ne 7, 3) := by decide +kernel
theorem dX3_set_21 : decode cX3_set 21 = .ok (.lconst 1, 1) := by decide +kernel
theorem dX3_set_22 : decode cX3_set 22 = .ok (.goto 4, 3) := by decide +kernel
theorem dX3_set_25 : decode cX3_set 25 = .ok (.lconst 0, 1) := by decide +kernel
theorem dX3_set_26 : decode cX3_set 26 = .ok (.iload_n 1, 1) := by decide +kernel
theorem dX3_set_27 : decode cX3_set 27 = .ok (.ifCond .ne 9, 3) := by decide +kernel
theorem dX3_set_30 : decode cX3_set 30 = .ok (.ldc2_w 74, 3) := by decide +kernel
theorem dX3_set_33 : decode cX3_set 33 = .ok (.goto 6, 3) := by decide +kernel
theorem dX3_set_36 : decode cX3_set 36 = .ok (.ldc2_w 72, 3) := by decide +kernel
theorem dX3_set_39 : decode cX3_set 39 = .ok (.invokestatic 56, 3) := by decide +kernel
theorem dX3_set_42 : decode cX3_set 42 = .ok (.ifCond .ne 5, 3) := by decide +kernel
theorem dX3_set_45 : decode cX3_set 45 = .ok (.iconst (-1), 1) := by decide +kernel
theorem dX3_set_46 : decode cX3_set 46 = .ok (.ireturn, 1) := by decide +kernel
theorem dX3_set_47 : decode cX3_set 47 = .ok (.aload_n 0, 1) := by decide +kernel
theorem dX3_set_48 : decode cX3_set 48 = .ok (.getfield 86, 3) := by decide +kernel
theorem dX3_set_51 : decode cX3_set 51 = .ok (.ifCond .le 6, 3) := by decide +kernel
theorem dX3_set_54 : decode cX3_set 54 = .ok (.bipush (-2), 2) := by decide +kernel
theorem dX3_set_56 : decode cX3_set 56 = .ok (.ireturn, 1) := by decide +kernel
theorem dX3_set_57 : decode cX3_set 57 = .ok (.iload_n 1, 1) := by decide +kernel
theorem dX3_set_58 : decode cX3_set 58 = .ok (.ifCond .ne 10, 3) := by decide +kernel
theorem dX3_set_61 : decode cX3_set 61 = .ok (.aload_n 0, 1) := by decide +kernel
theorem dX3_set_62 : decode cX3_set 62 = .ok (.getfield 23, 3) := by decide +kernel
theorem dX3_set_65 : decode cX3_set 65 = .ok (.goto 7, 3) := by decide +kernel
theorem dX3_set_68 : decode cX3_set 68 = .ok (.aload_n 0, 1) := by decide +kernel
theorem dX3_set_69 : decode cX3_set 69 = .ok (.getfield 100, 3) := by decide +kernel
theorem dX3_set_72 : decode cX3_set 72 = .ok (.istore_n 3, 1) := by decide +kernel
theorem dX3_set_73 : decode cX3_set 73 = .ok (.aload_n 0, 1) := by decide +kernel
theorem dX3_set_74 : decode cX3_set 74 = .ok (.iload_n 1, 1) := by decide +kernel
theorem dX3_set_75 : decode cX3_set 75 = .ok (.ifCond .ne 7, 3) := by decide +kernel
theorem dX3_set_78 : decode cX3_set 78 = .ok (.iload_n 2, 1) := by decide +kernel
theorem dX3_set_79 : decode cX3_set 79 = .ok (.goto 7, 3) := by decide +kernel
theorem dX3_set_82 : decode cX3_set 82 = .ok (.aload_n 0, 1) := by decide +kernel
theorem dX3_set_83 : decode cX3_set 83 = .ok (.getfield 23, 3) := by decide +kernel
theorem dX3_set_86 : decode cX3_set 86 = .ok (.putfield 23, 3) := by decide +kernel
theorem dX3_set_89 : decode cX3_set 89 = .ok (.aload_n 0, 1) := by decide +kernel
theorem dX3_set_90 : decode cX3_set 90 = .ok (.iload_n 1, 1) := by decide +kernel
theorem dX3_set_91 : decode cX3_set 91 = .ok (.iconst 1, 1) := by decide +kernel
theorem dX3_set_92 : decode cX3_set 92 = .ok (.if_icmp .ne 7, 3) := by decide +kernel
theorem dX3_set_95 : decode cX3_set 95 = .ok (.iload_n 2, 1) := by decide +kernel
theorem dX3_set_96 : decode cX3_set 96 = .ok (.goto 7, 3) := by decide +kernel
theorem dX3_set_99 : decode cX3_set 99 = .ok (.aload_n 0, 1) := by decide +kernel
theorem dX3_set_100 : decode cX3_set 100 = .ok (.getfield 100, 3) := by decide +kernel
theorem dX3_set_103 : decode cX3_set 103 = .ok (.putfield 100, 3) := by decide +kernel
theorem dX3_set_106 : decode cX3_set 106 = .ok (.iload_n 3, 1) := by decide +kernel
theorem dX3_set_107 : decode cX3_set 107 = .ok (.ireturn, 1) := by decide +kernel
set_option maxRecDepth 20000 in
theorem ggX3_isWord_X3_in : GoodIn wsX3_isWord wsX3_in := goodIn_r _ [5] (by decide +kernel) (by decide +kernel)
set_option maxRecDepth 20000 in
theorem gX3_isWord_X3_in : GoodIn wsX3_isWord (va_wsS RX3 56 yX3_in wsX3_in) := goodIn_app (goodIn_of _ (by decide +kernel)) ggX3_isWord_X3_in
theorem dX3_isWord_0 : decode cX3_isWord 0 = .ok (.iload_n 0, 1) := by decide +kernel
theorem dX3_isWord_1 : decode cX3_isWord 1 = .ok (.i2l, 1) := by decide +kernel
theorem dX3_isWord_2 : decode cX3_isWord 2 = .ok (.lconst 1, 1) := by decide +kernel
theorem dX3_isWord_3 : decode cX3_isWord 3 = .ok (.ldc2_w 103, 3) := by decide +kernel
theorem dX3_isWord_6 : decode cX3_isWord 6 = .ok (.invokestatic 56, 3) := by decide +kernel
theorem dX3_isWord_9 : decode cX3_isWord 9 = .ok (.ireturn, 1) := by decide +kernel
set_option maxRecDepth 20000 in
theorem ggX3_words_X3_in : GoodIn wsX3_words wsX3_in := goodIn_r _ [9] (by decide +kernel) (by decide +kernel)
set_option maxRecDepth 20000 in
theorem gX3_words_X3_in : GoodIn wsX3_words (va_wsS RX3 56 yX3_in wsX3_in) := goodIn_app (goodIn_of _ (by decide +kernel)) ggX3_words_X3_in
set_option maxRecDepth 20000 in
theorem ggX3_words_X3_isWord : GoodIn wsX3_words wsX3_isWord := goodIn_r _ [12, 13, 6, 7, 8, 9] (by decide +kernel) (by decide +kernel)
set_option maxRecDepth 20000 in
theorem gX3_words_X3_isWord : GoodIn wsX3_words (va_wsS RX3 107 yX3_isWord wsX3_isWord) := goodIn_app (goodIn_of _ (by decide +kernel)) ggX3_words_X3_isWord
theorem dX3_words_0 : decode cX3_words 0 = .ok (.aload_n 0, 1) := by decide +kernel
theorem dX3_words_1 : decode cX3_words 1 = .ok (.iconst 0, 1) := by decide +kernel
theorem dX3_words_2 : decode cX3_words 2 = .ok (.putfield 51, 3) := by decide +kernel
theorem dX3_words_5 : decode cX3_words 5 = .ok (.iload_n 1, 1) := by decide +kernel
theorem dX3_words_6 : decode cX3_words 6 = .ok (.i2l, 1) := by decide +kernel
theorem dX3_words_7 : decode cX3_words 7 = .ok (.lconst 1, 1) := by decide +kernel
theorem dX3_words_8 : decode cX3_words 8 = .ok (.ldc2_w 105, 3) := by decide +kernel
theorem dX3_words_11 : decode cX3_words 11 = .ok (.invokestatic 56, 3) := by decide +kernel
theorem dX3_words_14 : decode cX3_words 14 = .ok (.ifCond .eq 48, 3) := by decide +kernel
theorem dX3_words_17 : decode cX3_words 17 = .ok (.iload_n 2, 1) := by decide +kernel
theorem dX3_words_18 : decode cX3_words 18 = .ok (.invokestatic 107, 3) := by decide +kernel
theorem dX3_words_21 : decode cX3_words 21 = .ok (.ifCond .eq 41, 3) := by decide +kernel
theorem dX3_words_24 : decode cX3_words 24 = .ok (.iload_n 1, 1) := by decide +kernel
theorem dX3_words_25 : decode cX3_words 25 = .ok (.iconst 1, 1) := by decide +kernel
theorem dX3_words_26 : decode cX3_words 26 = .ok (.if_icmp .le 10, 3) := by decide +kernel
theorem dX3_words_29 : decode cX3_words 29 = .ok (.iload_n 3, 1) := by decide +kernel
theorem dX3_words_30 : decode cX3_words 30 = .ok (.invokestatic 107, 3) := by decide +kernel
theorem dX3_words_33 : decode cX3_words 33 = .ok (.ifCond .eq 29, 3) := by decide +kernel
theorem dX3_words_36 : decode cX3_words 36 = .ok (.iload_n 1, 1) := by decide +kernel
theorem dX3_words_37 : decode cX3_words 37 = .ok (.iconst 2, 1) := by decide +kernel
theorem dX3_words_38 : decode cX3_words 38 = .ok (.if_icmp .le 11, 3) := by decide +kernel
theorem dX3_words_41 : decode cX3_words 41 = .ok (.iload 4, 2) := by decide +kernel
theorem dX3_words_43 : decode cX3_words 43 = .ok (.invokestatic 107, 3) := by decide +kernel
theorem dX3_words_46 : decode cX3_words 46 = .ok (.ifCond .eq 16, 3) := by decide +kernel
theorem dX3_words_49 : decode cX3_words 49 = .ok (.iload_n 1, 1) := by decide +kernel
theorem dX3_words_50 : decode cX3_words 50 = .ok (.iconst 3, 1) := by decide +kernel
theorem dX3_words_51 : decode cX3_words 51 = .ok (.if_icmp .le 13, 3) := by decide +kernel
theorem dX3_words_54 : decode cX3_words 54 = .ok (.iload 5, 2) := by decide +kernel
theorem dX3_words_56 : decode cX3_words 56 = .ok (.invokestatic 107, 3) := by decide +kernel
theorem dX3_words_59 : decode cX3_words 59 = .ok (.ifCond .ne 5, 3) := by decide +kernel
theorem dX3_words_62 : decode cX3_words 62 = .ok (.iconst (-1), 1) := by decide +kernel
theorem dX3_words_63 : decode cX3_words 63 = .ok (.ireturn, 1) := by decide +kernel
theorem dX3_words_64 : decode cX3_words 64 = .ok (.aload_n 0, 1) := by decide +kernel
theorem dX3_words_65 : decode cX3_words 65 = .ok (.getfield 86, 3) := by decide +kernel
theorem dX3_words_68 : decode cX3_words 68 = .ok (.ifCond .le 6, 3) := by decide +kernel
theorem dX3_words_71 : decode cX3_words 71 = .ok (.bipush (-2), 2) := by decide +kernel
theorem dX3_words_73 : decode cX3_words 73 = .ok (.ireturn, 1) := by decide +kernel
theorem dX3_words_74 : decode cX3_words 74 = .ok (.aload_n 0, 1) := by decide +kernel
theorem dX3_words_75 : decode cX3_words 75 = .ok (.getfield 29, 3) := by decide +kernel
theorem dX3_words_78 : decode cX3_words 78 = .ok (.iconst 0, 1) := by decide +kernel
theorem dX3_words_79 : decode cX3_words 79 = .ok (.iload_n 2, 1) := by decide +kernel
theorem dX3_words_80 : decode cX3_words 80 = .ok (.iastore, 1) := by decide +kernel
theorem dX3_words_81 : decode cX3_words 81 = .ok (.aload_n 0, 1) := by decide +kernel
theorem dX3_words_82 : decode cX3_words 82 = .ok (.getfield 29, 3) := by decide +kernel
theorem dX3_words_85 : decode cX3_words 85 = .ok (.iconst 1, 1) := by decide +kernel
theorem dX3_words_86 : decode cX3_words 86 = .ok (.iload_n 1, 1) := by decide +kernel
theorem dX3_words_87 : decode cX3_words 87 = .ok (.iconst 1, 1) := by decide +kernel
theorem dX3_words_88 : decode cX3_words 88 = .ok (.if_icmp .le 7, 3) := by decide +kernel
theorem dX3_words_91 : decode cX3_words 91 = .ok (.iload_n 3, 1) := by decide +kernel
theorem dX3_words_92 : decode cX3_words 92 = .ok (.goto 4, 3) := by decide +kernel
theorem dX3_words_95 : decode cX3_words 95 = .ok (.iconst 0, 1) := by decide +kernel
theorem dX3_words_96 : decode cX3_words 96 = .ok (.iastore, 1) := by decide +kernel
theorem dX3_words_97 : decode cX3_words 97 = .ok (.aload_n 0, 1) := by decide +kernel
theorem dX3_words_98 : decode cX3_words 98 = .ok (.getfield 29, 3) := by decide +kernel
theorem dX3_words_101 : decode cX3_words 101 = .ok (.iconst 2, 1) := by decide +kernel
theorem dX3_words_102 : decode cX3_words 102 = .ok (.iload_n 1, 1) := by decide +kernel
theorem dX3_words_103 : decode cX3_words 103 = .ok (.iconst 2, 1) := by decide +kernel
theorem dX3_words_104 : decode cX3_words 104 = .ok (.if_icmp .le 8, 3) := by decide +kernel
theorem dX3_words_107 : decode cX3_words 107 = .ok (.iload 4, 2) := by decide +kernel
theorem dX3_words_109 : decode cX3_words 109 = .ok (.goto 4, 3) := by decide +kernel
theorem dX3_words_112 : decode cX3_words 112 = .ok (.iconst 0, 1) := by decide +kernel
theorem dX3_words_113 : decode cX3_words 113 = .ok (.iastore, 1) := by decide +kernel
theorem dX3_words_114 : decode cX3_words 114 = .ok (.aload_n 0, 1) := by decide +kernel
theorem dX3_words_115 : decode cX3_words 115 = .ok (.getfield 29, 3) := by decide +kernel
theorem dX3_words_118 : decode cX3_words 118 = .ok (.iconst 3, 1) := by decide +kernel
theorem dX3_words_119 : decode cX3_words 119 = .ok (.iload_n 1, 1) := by decide +kernel
theorem dX3_words_120 : decode cX3_words 120 = .ok (.iconst 3, 1) := by decide +kernel
theorem dX3_words_121 : decode cX3_words 121 = .ok (.if_icmp .le 8, 3) := by decide +kernel
theorem dX3_words_124 : decode cX3_words 124 = .ok (.iload 5, 2) := by decide +kernel
theorem dX3_words_126 : decode cX3_words 126 = .ok (.goto 4, 3) := by decide +kernel
theorem dX3_words_129 : decode cX3_words 129 = .ok (.iconst 0, 1) := by decide +kernel
theorem dX3_words_130 : decode cX3_words 130 = .ok (.iastore, 1) := by decide +kernel
theorem dX3_words_131 : decode cX3_words 131 = .ok (.aload_n 0, 1) := by decide +kernel
theorem dX3_words_132 : decode cX3_words 132 = .ok (.iload_n 1, 1) := by decide +kernel
theorem dX3_words_133 : decode cX3_words 133 = .ok (.putfield 26, 3) := by decide +kernel
theorem dX3_words_136 : decode cX3_words 136 = .ok (.iload_n 1, 1) := by decide +kernel
theorem dX3_words_137 : decode cX3_words 137 = .ok (.iconst 1, 1) := by decide +kernel
theorem dX3_words_138 : decode cX3_words 138 = .ok (.isub, 1) := by decide +kernel
theorem dX3_words_139 : decode cX3_words 139 = .ok (.istore 7, 2) := by decide +kernel
theorem dX3_words_141 : decode cX3_words 141 = .ok (.iload 7, 2) := by decide +kernel
theorem dX3_words_143 : decode cX3_words 143 = .ok (.ifCond .lt 40, 3) := by decide +kernel
theorem dX3_words_146 : decode cX3_words 146 = .ok (.iload 6, 2) := by decide +kernel
theorem dX3_words_148 : decode cX3_words 148 = .ok (.ifCond .eq 35, 3) := by decide +kernel
theorem dX3_words_151 : decode cX3_words 151 = .ok (.aload_n 0, 1) := by decide +kernel
theorem dX3_words_152 : decode cX3_words 152 = .ok (.getfield 29, 3) := by decide +kernel
theorem dX3_words_155 : decode cX3_words 155 = .ok (.aload_n 0, 1) := by decide +kernel
theorem dX3_words_156 : decode cX3_words 156 = .ok (.getfield 26, 3) := by decide +kernel
theorem dX3_words_159 : decode cX3_words 159 = .ok (.aload_n 0, 1) := by decide +kernel
theorem dX3_words_160 : decode cX3_words 160 = .ok (.getfield 29, 3) := by decide +kernel
theorem dX3_words_163 : decode cX3_words 163 = .ok (.iload 7, 2) := by decide +kernel
theorem dX3_words_165 : decode cX3_words 165 = .ok (.iaload, 1) := by decide +kernel
theorem dX3_words_166 : decode cX3_words 166 = .ok (.iastore, 1) := by decide +kernel
theorem dX3_words_167 : decode cX3_words 167 = .ok (.aload_n 0, 1) := by decide +kernel
theorem dX3_words_168 : decode cX3_words 168 = .ok (.dup, 1) := by decide +kernel
theorem dX3_words_169 : decode cX3_words 169 = .ok (.getfield 26, 3) := by decide +kernel
theorem dX3_words_172 : decode cX3_words 172 = .ok (.iconst 1, 1) := by decide +kernel
theorem dX3_words_173 : decode cX3_words 173 = .ok (.iadd, 1) := by decide +kernel
theorem dX3_words_174 : decode cX3_words 174 = .ok (.putfield 26, 3) := by decide +kernel
theorem dX3_words_177 : decode cX3_words 177 = .ok (.iinc 7 (-1), 3) := by decide +kernel
theorem dX3_words_180 : decode cX3_words 180 = .ok (.goto (-39), 3) := by decide +kernel
theorem dX3_words_183 : decode cX3_words 183 = .ok (.aload_n 0, 1) := by decide +kernel
theorem dX3_words_184 : decode cX3_words 184 = .ok (.getfield 26, 3) := by decide +kernel
theorem dX3_words_187 : decode cX3_words 187 = .ok (.ireturn, 1) := by decide +kernel
theorem dX3_countOf_0 : decode cX3_countOf 0 = .ok (.aload_n 0, 1) := by decide +kernel
theorem dX3_countOf_1 : decode cX3_countOf 1 = .ok (.getfield 23, 3) := by decide +kernel
theorem dX3_countOf_4 : decode cX3_countOf 4 = .ok (.istore_n 2, 1) := by decide +kernel
theorem dX3_countOf_5 : decode cX3_countOf 5 = .ok (.aload_n 0, 1) := by decide +kernel
theorem dX3_countOf_6 : decode cX3_countOf 6 = .ok (.getfield 100, 3) := by decide +kernel
theorem dX3_countOf_9 : decode cX3_countOf 9 = .ok (.ifCond .le 17, 3) := by decide +kernel
theorem dX3_countOf_12 : decode cX3_countOf 12 = .ok (.iload_n 2, 1) := by decide +kernel
theorem dX3_countOf_13 : decode cX3_countOf 13 = .ok (.aload_n 0, 1) := by decide +kernel
theorem dX3_countOf_14 : decode cX3_countOf 14 = .ok (.getfield 29, 3) := by decide +kernel
theorem dX3_countOf_17 : decode cX3_countOf 17 = .ok (.iload_n 1, 1) := by decide +kernel
theorem dX3_countOf_18 : decode cX3_countOf 18 = .ok (.aload_n 0, 1) := by decide +kernel
theorem dX3_countOf_19 : decode cX3_countOf 19 = .ok (.getfield 26, 3) := by decide +kernel
theorem dX3_countOf_22 : decode cX3_countOf 22 = .ok (.irem, 1) := by decide +kernel
theorem dX3_countOf_23 : decode cX3_countOf 23 = .ok (.iaload, 1) := by decide +kernel
end
section
theorem dX3_countOf_24 : decode cX3_countOf 24 = .ok (.iadd, 1) := by decide +kernel
theorem dX3_countOf_25 : decode cX3_countOf 25 = .ok (.istore_n 2, 1) := by decide +kernel
theorem dX3_countOf_26 : decode cX3_countOf 26 = .ok (.aload_n 0, 1) := by decide +kernel
theorem dX3_countOf_27 : decode cX3_countOf 27 = .ok (.getfield 100, 3) := by decide +kernel
theorem dX3_countOf_30 : decode cX3_countOf 30 = .ok (.iconst 2, 1) := by decide +kernel
theorem dX3_countOf_31 : decode cX3_countOf 31 = .ok (.if_icmp .ne 15, 3) := by decide +kernel
theorem dX3_countOf_34 : decode cX3_countOf 34 = .ok (.iload_n 1, 1) := by decide +kernel
theorem dX3_countOf_35 : decode cX3_countOf 35 = .ok (.iconst 2, 1) := by decide +kernel
theorem dX3_countOf_36 : decode cX3_countOf 36 = .ok (.irem, 1) := by decide +kernel
theorem dX3_countOf_37 : decode cX3_countOf 37 = .ok (.iconst 1, 1) := by decide +kernel
theorem dX3_countOf_38 : decode cX3_countOf 38 = .ok (.if_icmp .ne 8, 3) := by decide +kernel
theorem dX3_countOf_41 : decode cX3_countOf 41 = .ok (.iload_n 2, 1) := by decide +kernel
theorem dX3_countOf_42 : decode cX3_countOf 42 = .ok (.ineg, 1) := by decide +kernel
theorem dX3_countOf_43 : decode cX3_countOf 43 = .ok (.goto 4, 3) := by decide +kernel
theorem dX3_countOf_46 : decode cX3_countOf 46 = .ok (.iload_n 2, 1) := by decide +kernel
theorem dX3_countOf_47 : decode cX3_countOf 47 = .ok (.ireturn, 1) := by decide +kernel
set_option maxRecDepth 20000 in
theorem ggX3_count_X3_in : GoodIn wsX3_count wsX3_in := goodIn_r _ [10] (by decide +kernel) (by decide +kernel)
set_option maxRecDepth 20000 in
theorem gX3_count_X3_in : GoodIn wsX3_count (va_wsS RX3 56 yX3_in wsX3_in) := goodIn_app (goodIn_of _ (by decide +kernel)) ggX3_count_X3_in
set_option maxRecDepth 20000 in
theorem ggX3_count_X3_countOf : GoodIn wsX3_count wsX3_countOf := goodIn_r _ [14, 15, 4, 16, 17, 18, 19, 20, 21, 22, 23, 24, 25, 26, 27, 28, 29, 30, 31, 32, 33, 34] (by decide +kernel) (by decide +kernel)
set_option maxRecDepth 20000 in
theorem gX3_count_X3_countOf : GoodIn wsX3_count (wsV RX3 120 RX3 yX3_countOf wsX3_countOf) := goodIn_app (goodIn_of _ (by decide +kernel)) ggX3_count_X3_countOf
theorem dX3_count_0 : decode cX3_count 0 = .ok (.aload_n 0, 1) := by decide +kernel
theorem dX3_count_1 : decode cX3_count 1 = .ok (.iconst 0, 1) := by decide +kernel
theorem dX3_count_2 : decode cX3_count 2 = .ok (.putfield 51, 3) := by decide +kernel
theorem dX3_count_5 : decode cX3_count 5 = .ok (.iload_n 1, 1) := by decide +kernel
theorem dX3_count_6 : decode cX3_count 6 = .ok (.i2l, 1) := by decide +kernel
theorem dX3_count_7 : decode cX3_count 7 = .ok (.lconst 0, 1) := by decide +kernel
theorem dX3_count_8 : decode cX3_count 8 = .ok (.ldc2_w 110, 3) := by decide +kernel
theorem dX3_count_11 : decode cX3_count 11 = .ok (.invokestatic 56, 3) := by decide +kernel
theorem dX3_count_14 : decode cX3_count 14 = .ok (.ifCond .ne 7, 3) := by decide +kernel
theorem dX3_count_17 : decode cX3_count 17 = .ok (.sipush (-1000), 3) := by decide +kernel
theorem dX3_count_20 : decode cX3_count 20 = .ok (.ireturn, 1) := by decide +kernel
theorem dX3_count_21 : decode cX3_count 21 = .ok (.aload_n 0, 1) := by decide +kernel
theorem dX3_count_22 : decode cX3_count 22 = .ok (.dup, 1) := by decide +kernel
theorem dX3_count_23 : decode cX3_count 23 = .ok (.getfield 112, 3) := by decide +kernel
theorem dX3_count_26 : decode cX3_count 26 = .ok (.aload_n 0, 1) := by decide +kernel
theorem dX3_count_27 : decode cX3_count 27 = .ok (.getfield 100, 3) := by decide +kernel
theorem dX3_count_30 : decode cX3_count 30 = .ok (.ifCond .ne 7, 3) := by decide +kernel
theorem dX3_count_33 : decode cX3_count 33 = .ok (.lconst 1, 1) := by decide +kernel
theorem dX3_count_34 : decode cX3_count 34 = .ok (.goto 20, 3) := by decide +kernel
theorem dX3_count_37 : decode cX3_count 37 = .ok (.aload_n 0, 1) := by decide +kernel
theorem dX3_count_38 : decode cX3_count 38 = .ok (.getfield 100, 3) := by decide +kernel
theorem dX3_count_41 : decode cX3_count 41 = .ok (.iconst 1, 1) := by decide +kernel
theorem dX3_count_42 : decode cX3_count 42 = .ok (.if_icmp .ne 9, 3) := by decide +kernel
theorem dX3_count_45 : decode cX3_count 45 = .ok (.ldc2_w 116, 3) := by decide +kernel
theorem dX3_count_48 : decode cX3_count 48 = .ok (.goto 6, 3) := by decide +kernel
theorem dX3_count_51 : decode cX3_count 51 = .ok (.ldc2_w 118, 3) := by decide +kernel
theorem dX3_count_54 : decode cX3_count 54 = .ok (.ladd, 1) := by decide +kernel
theorem dX3_count_55 : decode cX3_count 55 = .ok (.putfield 112, 3) := by decide +kernel
theorem dX3_count_58 : decode cX3_count 58 = .ok (.aload_n 0, 1) := by decide +kernel
theorem dX3_count_59 : decode cX3_count 59 = .ok (.iload_n 1, 1) := by decide +kernel
theorem dX3_count_60 : decode cX3_count 60 = .ok (.invokevirtual 120, 3) := by decide +kernel
theorem dX3_count_63 : decode cX3_count 63 = .ok (.ireturn, 1) := by decide +kernel
theorem dX3_there_0 : decode cX3_there 0 = .ok (.iconst 0, 1) := by decide +kernel
theorem dX3_there_1 : decode cX3_there 1 = .ok (.istore_n 1, 1) := by decide +kernel
theorem dX3_there_2 : decode cX3_there 2 = .ok (.iconst 0, 1) := by decide +kernel
theorem dX3_there_3 : decode cX3_there 3 = .ok (.istore_n 2, 1) := by decide +kernel
theorem dX3_there_4 : decode cX3_there 4 = .ok (.iload_n 2, 1) := by decide +kernel
theorem dX3_there_5 : decode cX3_there 5 = .ok (.aload_n 0, 1) := by decide +kernel
theorem dX3_there_6 : decode cX3_there 6 = .ok (.getfield 7, 3) := by decide +kernel
theorem dX3_there_9 : decode cX3_there 9 = .ok (.if_icmp .ge 26, 3) := by decide +kernel
theorem dX3_there_12 : decode cX3_there 12 = .ok (.iload_n 1, 1) := by decide +kernel
theorem dX3_there_13 : decode cX3_there 13 = .ok (.aload_n 0, 1) := by decide +kernel
theorem dX3_there_14 : decode cX3_there 14 = .ok (.getfield 17, 3) := by decide +kernel
theorem dX3_there_17 : decode cX3_there 17 = .ok (.iload_n 2, 1) := by decide +kernel
theorem dX3_there_18 : decode cX3_there 18 = .ok (.iaload, 1) := by decide +kernel
theorem dX3_there_19 : decode cX3_there 19 = .ok (.ifCond .le 7, 3) := by decide +kernel
theorem dX3_there_22 : decode cX3_there 22 = .ok (.iconst 1, 1) := by decide +kernel
theorem dX3_there_23 : decode cX3_there 23 = .ok (.goto 4, 3) := by decide +kernel
theorem dX3_there_26 : decode cX3_there 26 = .ok (.iconst 0, 1) := by decide +kernel
theorem dX3_there_27 : decode cX3_there 27 = .ok (.iadd, 1) := by decide +kernel
theorem dX3_there_28 : decode cX3_there 28 = .ok (.istore_n 1, 1) := by decide +kernel
theorem dX3_there_29 : decode cX3_there 29 = .ok (.iinc 2 1, 3) := by decide +kernel
theorem dX3_there_32 : decode cX3_there 32 = .ok (.goto (-28), 3) := by decide +kernel
theorem dX3_there_35 : decode cX3_there 35 = .ok (.iload_n 1, 1) := by decide +kernel
theorem dX3_there_36 : decode cX3_there 36 = .ok (.ireturn, 1) := by decide +kernel
theorem dX3_next_0 : decode cX3_next 0 = .ok (.iload_n 1, 1) := by decide +kernel
theorem dX3_next_1 : decode cX3_next 1 = .ok (.istore_n 3, 1) := by decide +kernel
theorem dX3_next_2 : decode cX3_next 2 = .ok (.iload_n 3, 1) := by decide +kernel
theorem dX3_next_3 : decode cX3_next 3 = .ok (.iload_n 2, 1) := by decide +kernel
theorem dX3_next_4 : decode cX3_next 4 = .ok (.iadd, 1) := by decide +kernel
theorem dX3_next_5 : decode cX3_next 5 = .ok (.aload_n 0, 1) := by decide +kernel
theorem dX3_next_6 : decode cX3_next 6 = .ok (.getfield 7, 3) := by decide +kernel
theorem dX3_next_9 : decode cX3_next 9 = .ok (.iadd, 1) := by decide +kernel
theorem dX3_next_10 : decode cX3_next 10 = .ok (.aload_n 0, 1) := by decide +kernel
theorem dX3_next_11 : decode cX3_next 11 = .ok (.getfield 7, 3) := by decide +kernel
theorem dX3_next_14 : decode cX3_next 14 = .ok (.irem, 1) := by decide +kernel
theorem dX3_next_15 : decode cX3_next 15 = .ok (.istore_n 3, 1) := by decide +kernel
theorem dX3_next_16 : decode cX3_next 16 = .ok (.aload_n 0, 1) := by decide +kernel
theorem dX3_next_17 : decode cX3_next 17 = .ok (.getfield 17, 3) := by decide +kernel
theorem dX3_next_20 : decode cX3_next 20 = .ok (.iload_n 3, 1) := by decide +kernel
theorem dX3_next_21 : decode cX3_next 21 = .ok (.iaload, 1) := by decide +kernel
theorem dX3_next_22 : decode cX3_next 22 = .ok (.ifCond .eq (-20), 3) := by decide +kernel
theorem dX3_next_25 : decode cX3_next 25 = .ok (.iload_n 3, 1) := by decide +kernel
theorem dX3_next_26 : decode cX3_next 26 = .ok (.ireturn, 1) := by decide +kernel
set_option maxRecDepth 20000 in
theorem ggX3_goesOn_X3_countOf : GoodIn wsX3_goesOn wsX3_countOf := goodIn_r _ [12, 13, 14, 15, 16, 25, 26, 27, 28, 29, 30, 31, 32, 33, 34, 35, 36, 37, 38, 39, 40, 41] (by decide +kernel) (by decide +kernel)
set_option maxRecDepth 20000 in
theorem gX3_goesOn_X3_countOf : GoodIn wsX3_goesOn (wsV RX3 120 RX3 yX3_countOf wsX3_countOf) := goodIn_app (goodIn_of _ (by decide +kernel)) ggX3_goesOn_X3_countOf
set_option maxRecDepth 20000 in
theorem ggX3_goesOn_X3_next : GoodIn wsX3_goesOn wsX3_next := goodIn_r _ [20, 7, 5, 25, 26, 27, 28, 29, 30, 31, 32, 33, 34, 35, 36, 37, 38, 39, 40, 41] (by decide +kernel) (by decide +kernel)
set_option maxRecDepth 20000 in
theorem gX3_goesOn_X3_next : GoodIn wsX3_goesOn (wsV RX3 124 RX3 yX3_next wsX3_next) := goodIn_app (goodIn_of _ (by decide +kernel)) ggX3_goesOn_X3_next
set_option maxRecDepth 20000 in
theorem ggX3_goesOn_X3_there : GoodIn wsX3_goesOn wsX3_there := goodIn_r _ [24, 7, 5, 25, 26, 27, 28, 29, 30, 31, 32, 33, 34, 35, 36, 37, 38, 39, 40, 41] (by decide +kernel) (by decide +kernel)
set_option maxRecDepth 20000 in
theorem gX3_goesOn_X3_there : GoodIn wsX3_goesOn (wsV RX3 128 RX3 yX3_there wsX3_there) := goodIn_app (goodIn_of _ (by decide +kernel)) ggX3_goesOn_X3_there
theorem dX3_goesOn_0 : decode cX3_goesOn 0 = .ok (.aload_n 0, 1) := by decide +kernel
theorem dX3_goesOn_1 : decode cX3_goesOn 1 = .ok (.aload_n 0, 1) := by decide +kernel
theorem dX3_goesOn_2 : decode cX3_goesOn 2 = .ok (.getfield 86, 3) := by decide +kernel
theorem dX3_goesOn_5 : decode cX3_goesOn 5 = .ok (.invokevirtual 120, 3) := by decide +kernel
theorem dX3_goesOn_8 : decode cX3_goesOn 8 = .ok (.istore_n 1, 1) := by decide +kernel
theorem dX3_goesOn_9 : decode cX3_goesOn 9 = .ok (.aload_n 0, 1) := by decide +kernel
theorem dX3_goesOn_10 : decode cX3_goesOn 10 = .ok (.getfield 89, 3) := by decide +kernel
theorem dX3_goesOn_13 : decode cX3_goesOn 13 = .ok (.istore_n 2, 1) := by decide +kernel
theorem dX3_goesOn_14 : decode cX3_goesOn 14 = .ok (.iload_n 1, 1) := by decide +kernel
theorem dX3_goesOn_15 : decode cX3_goesOn 15 = .ok (.ifCond .le 26, 3) := by decide +kernel
theorem dX3_goesOn_18 : decode cX3_goesOn 18 = .ok (.iconst 1, 1) := by decide +kernel
theorem dX3_goesOn_19 : decode cX3_goesOn 19 = .ok (.istore_n 3, 1) := by decide +kernel
theorem dX3_goesOn_20 : decode cX3_goesOn 20 = .ok (.iload_n 3, 1) := by decide +kernel
theorem dX3_goesOn_21 : decode cX3_goesOn 21 = .ok (.iload_n 1, 1) := by decide +kernel
theorem dX3_goesOn_22 : decode cX3_goesOn 22 = .ok (.if_icmp .ge 16, 3) := by decide +kernel
theorem dX3_goesOn_25 : decode cX3_goesOn 25 = .ok (.aload_n 0, 1) := by decide +kernel
theorem dX3_goesOn_26 : decode cX3_goesOn 26 = .ok (.iload_n 2, 1) := by decide +kernel
theorem dX3_goesOn_27 : decode cX3_goesOn 27 = .ok (.iconst 1, 1) := by decide +kernel
theorem dX3_goesOn_28 : decode cX3_goesOn 28 = .ok (.invokevirtual 124, 3) := by decide +kernel
theorem dX3_goesOn_31 : decode cX3_goesOn 31 = .ok (.istore_n 2, 1) := by decide +kernel
theorem dX3_goesOn_32 : decode cX3_goesOn 32 = .ok (.iinc 3 1, 3) := by decide +kernel
theorem dX3_goesOn_35 : decode cX3_goesOn 35 = .ok (.goto (-15), 3) := by decide +kernel
theorem dX3_goesOn_38 : decode cX3_goesOn 38 = .ok (.goto 24, 3) := by decide +kernel
theorem dX3_goesOn_41 : decode cX3_goesOn 41 = .ok (.iconst 0, 1) := by decide +kernel
theorem dX3_goesOn_42 : decode cX3_goesOn 42 = .ok (.istore_n 3, 1) := by decide +kernel
theorem dX3_goesOn_43 : decode cX3_goesOn 43 = .ok (.iload_n 3, 1) := by decide +kernel
theorem dX3_goesOn_44 : decode cX3_goesOn 44 = .ok (.iload_n 1, 1) := by decide +kernel
theorem dX3_goesOn_45 : decode cX3_goesOn 45 = .ok (.ineg, 1) := by decide +kernel
theorem dX3_goesOn_46 : decode cX3_goesOn 46 = .ok (.if_icmp .ge 16, 3) := by decide +kernel
theorem dX3_goesOn_49 : decode cX3_goesOn 49 = .ok (.aload_n 0, 1) := by decide +kernel
theorem dX3_goesOn_50 : decode cX3_goesOn 50 = .ok (.iload_n 2, 1) := by decide +kernel
theorem dX3_goesOn_51 : decode cX3_goesOn 51 = .ok (.iconst (-1), 1) := by decide +kernel
theorem dX3_goesOn_52 : decode cX3_goesOn 52 = .ok (.invokevirtual 124, 3) := by decide +kernel
theorem dX3_goesOn_55 : decode cX3_goesOn 55 = .ok (.istore_n 2, 1) := by decide +kernel
theorem dX3_goesOn_56 : decode cX3_goesOn 56 = .ok (.iinc 3 1, 3) := by decide +kernel
theorem dX3_goesOn_59 : decode cX3_goesOn 59 = .ok (.goto (-16), 3) := by decide +kernel
theorem dX3_goesOn_62 : decode cX3_goesOn 62 = .ok (.aload_n 0, 1) := by decide +kernel
theorem dX3_goesOn_63 : decode cX3_goesOn 63 = .ok (.getfield 32, 3) := by decide +kernel
theorem dX3_goesOn_66 : decode cX3_goesOn 66 = .ok (.aload_n 0, 1) := by decide +kernel
theorem dX3_goesOn_67 : decode cX3_goesOn 67 = .ok (.getfield 86, 3) := by decide +kernel
theorem dX3_goesOn_70 : decode cX3_goesOn 70 = .ok (.iload_n 2, 1) := by decide +kernel
theorem dX3_goesOn_71 : decode cX3_goesOn 71 = .ok (.iastore, 1) := by decide +kernel
theorem dX3_goesOn_72 : decode cX3_goesOn 72 = .ok (.aload_n 0, 1) := by decide +kernel
theorem dX3_goesOn_73 : decode cX3_goesOn 73 = .ok (.getfield 35, 3) := by decide +kernel
theorem dX3_goesOn_76 : decode cX3_goesOn 76 = .ok (.aload_n 0, 1) := by decide +kernel
theorem dX3_goesOn_77 : decode cX3_goesOn 77 = .ok (.getfield 86, 3) := by decide +kernel
theorem dX3_goesOn_80 : decode cX3_goesOn 80 = .ok (.aload_n 0, 1) := by decide +kernel
theorem dX3_goesOn_81 : decode cX3_goesOn 81 = .ok (.getfield 89, 3) := by decide +kernel
theorem dX3_goesOn_84 : decode cX3_goesOn 84 = .ok (.iastore, 1) := by decide +kernel
theorem dX3_goesOn_85 : decode cX3_goesOn 85 = .ok (.aload_n 0, 1) := by decide +kernel
theorem dX3_goesOn_86 : decode cX3_goesOn 86 = .ok (.getfield 17, 3) := by decide +kernel
theorem dX3_goesOn_89 : decode cX3_goesOn 89 = .ok (.iload_n 2, 1) := by decide +kernel
theorem dX3_goesOn_90 : decode cX3_goesOn 90 = .ok (.dup2, 1) := by decide +kernel
theorem dX3_goesOn_91 : decode cX3_goesOn 91 = .ok (.iaload, 1) := by decide +kernel
theorem dX3_goesOn_92 : decode cX3_goesOn 92 = .ok (.iconst 1, 1) := by decide +kernel
theorem dX3_goesOn_93 : decode cX3_goesOn 93 = .ok (.isub, 1) := by decide +kernel
theorem dX3_goesOn_94 : decode cX3_goesOn 94 = .ok (.iastore, 1) := by decide +kernel
theorem dX3_goesOn_95 : decode cX3_goesOn 95 = .ok (.aload_n 0, 1) := by decide +kernel
theorem dX3_goesOn_96 : decode cX3_goesOn 96 = .ok (.getfield 17, 3) := by decide +kernel
theorem dX3_goesOn_99 : decode cX3_goesOn 99 = .ok (.iload_n 2, 1) := by decide +kernel
theorem dX3_goesOn_100 : decode cX3_goesOn 100 = .ok (.iaload, 1) := by decide +kernel
theorem dX3_goesOn_101 : decode cX3_goesOn 101 = .ok (.ifCond .ne 18, 3) := by decide +kernel
theorem dX3_goesOn_104 : decode cX3_goesOn 104 = .ok (.aload_n 0, 1) := by decide +kernel
theorem dX3_goesOn_105 : decode cX3_goesOn 105 = .ok (.getfield 20, 3) := by decide +kernel
theorem dX3_goesOn_108 : decode cX3_goesOn 108 = .ok (.iload_n 2, 1) := by decide +kernel
theorem dX3_goesOn_109 : decode cX3_goesOn 109 = .ok (.aload_n 0, 1) := by decide +kernel
theorem dX3_goesOn_110 : decode cX3_goesOn 110 = .ok (.getfield 7, 3) := by decide +kernel
theorem dX3_goesOn_113 : decode cX3_goesOn 113 = .ok (.aload_n 0, 1) := by decide +kernel
theorem dX3_goesOn_114 : decode cX3_goesOn 114 = .ok (.invokevirtual 128, 3) := by decide +kernel
theorem dX3_goesOn_117 : decode cX3_goesOn 117 = .ok (.isub, 1) := by decide +kernel
theorem dX3_goesOn_118 : decode cX3_goesOn 118 = .ok (.iastore, 1) := by decide +kernel
theorem dX3_goesOn_119 : decode cX3_goesOn 119 = .ok (.aload_n 0, 1) := by decide +kernel
theorem dX3_goesOn_120 : decode cX3_goesOn 120 = .ok (.dup, 1) := by decide +kernel
theorem dX3_goesOn_121 : decode cX3_goesOn 121 = .ok (.getfield 86, 3) := by decide +kernel
theorem dX3_goesOn_124 : decode cX3_goesOn 124 = .ok (.iconst 1, 1) := by decide +kernel
theorem dX3_goesOn_125 : decode cX3_goesOn 125 = .ok (.iadd, 1) := by decide +kernel
theorem dX3_goesOn_126 : decode cX3_goesOn 126 = .ok (.putfield 86, 3) := by decide +kernel
theorem dX3_goesOn_129 : decode cX3_goesOn 129 = .ok (.aload_n 0, 1) := by decide +kernel
theorem dX3_goesOn_130 : decode cX3_goesOn 130 = .ok (.aload_n 0, 1) := by decide +kernel
theorem dX3_goesOn_131 : decode cX3_goesOn 131 = .ok (.iload_n 2, 1) := by decide +kernel
theorem dX3_goesOn_132 : decode cX3_goesOn 132 = .ok (.iconst 1, 1) := by decide +kernel
theorem dX3_goesOn_133 : decode cX3_goesOn 133 = .ok (.invokevirtual 124, 3) := by decide +kernel
theorem dX3_goesOn_136 : decode cX3_goesOn 136 = .ok (.putfield 89, 3) := by decide +kernel
theorem dX3_goesOn_139 : decode cX3_goesOn 139 = .ok (.return_, 1) := by decide +kernel
set_option maxRecDepth 20000 in
theorem ggX3_turns_X3_in : GoodIn wsX3_turns wsX3_in := goodIn_r _ [6] (by decide +kernel) (by decide +kernel)
set_option maxRecDepth 20000 in
theorem gX3_turns_X3_in : GoodIn wsX3_turns (va_wsS RX3 56 yX3_in wsX3_in) := goodIn_app (goodIn_of _ (by decide +kernel)) ggX3_turns_X3_in
set_option maxRecDepth 20000 in
theorem ggX3_turns_X3_there : GoodIn wsX3_turns wsX3_there := goodIn_r _ [10, 11, 12, 34, 35, 36, 37, 38, 39, 40, 41, 42, 43, 44, 45, 46, 47, 48, 49, 50] (by decide +kernel) (by decide +kernel)
set_option maxRecDepth 20000 in
theorem gX3_turns_X3_there : GoodIn wsX3_turns (wsV RX3 128 RX3 yX3_there wsX3_there) := goodIn_app (goodIn_of _ (by decide +kernel)) ggX3_turns_X3_there
set_option maxRecDepth 20000 in
theorem ggX3_turns_X3_goesOn : GoodIn wsX3_turns wsX3_goesOn := goodIn_r _ [16, 17, 18, 19, 20, 12, 21, 11, 22, 23, 24, 5, 25, 26, 27, 28, 29, 30, 31, 32, 33, 7, 8, 9, 10, 34, 35, 36, 37, 38, 39, 40, 41, 42, 43, 44, 45, 46, 47, 48, 49, 50] (by decide +kernel) (by decide +kernel)
set_option maxRecDepth 20000 in
theorem gX3_turns_X3_goesOn : GoodIn wsX3_turns (wsV RX3 134 RX3 yX3_goesOn wsX3_goesOn) := goodIn_app (goodIn_of _ (by decide +kernel)) ggX3_turns_X3_goesOn
theorem dX3_turns_0 : decode cX3_turns 0 = .ok (.aload_n 0, 1) := by decide +kernel
theorem dX3_turns_1 : decode cX3_turns 1 = .ok (.iconst 0, 1) := by decide +kernel
theorem dX3_turns_2 : decode cX3_turns 2 = .ok (.putfield 51, 3) := by decide +kernel
theorem dX3_turns_5 : decode cX3_turns 5 = .ok (.iload_n 1, 1) := by decide +kernel
theorem dX3_turns_6 : decode cX3_turns 6 = .ok (.i2l, 1) := by decide +kernel
theorem dX3_turns_7 : decode cX3_turns 7 = .ok (.lconst 1, 1) := by decide +kernel
theorem dX3_turns_8 : decode cX3_turns 8 = .ok (.ldc2_w 132, 3) := by decide +kernel
theorem dX3_turns_11 : decode cX3_turns 11 = .ok (.invokestatic 56, 3) := by decide +kernel
theorem dX3_turns_14 : decode cX3_turns 14 = .ok (.ifCond .ne 5, 3) := by decide +kernel
theorem dX3_turns_17 : decode cX3_turns 17 = .ok (.iconst (-1), 1) := by decide +kernel
theorem dX3_turns_18 : decode cX3_turns 18 = .ok (.ireturn, 1) := by decide +kernel
theorem dX3_turns_19 : decode cX3_turns 19 = .ok (.iconst 0, 1) := by decide +kernel
theorem dX3_turns_20 : decode cX3_turns 20 = .ok (.istore_n 2, 1) := by decide +kernel
theorem dX3_turns_21 : decode cX3_turns 21 = .ok (.iload_n 2, 1) := by decide +kernel
theorem dX3_turns_22 : decode cX3_turns 22 = .ok (.iload_n 1, 1) := by decide +kernel
theorem dX3_turns_23 : decode cX3_turns 23 = .ok (.if_icmp .ge 21, 3) := by decide +kernel
theorem dX3_turns_26 : decode cX3_turns 26 = .ok (.aload_n 0, 1) := by decide +kernel
theorem dX3_turns_27 : decode cX3_turns 27 = .ok (.invokevirtual 128, 3) := by decide +kernel
theorem dX3_turns_30 : decode cX3_turns 30 = .ok (.iconst 1, 1) := by decide +kernel
theorem dX3_turns_31 : decode cX3_turns 31 = .ok (.if_icmp .le 13, 3) := by decide +kernel
theorem dX3_turns_34 : decode cX3_turns 34 = .ok (.aload_n 0, 1) := by decide +kernel
theorem dX3_turns_35 : decode cX3_turns 35 = .ok (.invokevirtual 134, 3) := by decide +kernel
theorem dX3_turns_38 : decode cX3_turns 38 = .ok (.iinc 2 1, 3) := by decide +kernel
theorem dX3_turns_41 : decode cX3_turns 41 = .ok (.goto (-20), 3) := by decide +kernel
theorem dX3_turns_44 : decode cX3_turns 44 = .ok (.iload_n 2, 1) := by decide +kernel
theorem dX3_turns_45 : decode cX3_turns 45 = .ok (.ireturn, 1) := by decide +kernel
set_option maxRecDepth 20000 in
theorem ggX3_back_X3_in : GoodIn wsX3_back wsX3_in := goodIn_r _ [12] (by decide +kernel) (by decide +kernel)
set_option maxRecDepth 20000 in
theorem gX3_back_X3_in : GoodIn wsX3_back (va_wsS RX3 56 yX3_in wsX3_in) := goodIn_app (goodIn_of _ (by decide +kernel)) ggX3_back_X3_in
theorem dX3_back_0 : decode cX3_back 0 = .ok (.aload_n 0, 1) := by decide +kernel
theorem dX3_back_1 : decode cX3_back 1 = .ok (.iconst 0, 1) := by decide +kernel
theorem dX3_back_2 : decode cX3_back 2 = .ok (.putfield 51, 3) := by decide +kernel
theorem dX3_back_5 : decode cX3_back 5 = .ok (.iload_n 1, 1) := by decide +kernel
theorem dX3_back_6 : decode cX3_back 6 = .ok (.i2l, 1) := by decide +kernel
theorem dX3_back_7 : decode cX3_back 7 = .ok (.lconst 1, 1) := by decide +kernel
theorem dX3_back_8 : decode cX3_back 8 = .ok (.ldc2_w 132, 3) := by decide +kernel
theorem dX3_back_11 : decode cX3_back 11 = .ok (.invokestatic 56, 3) := by decide +kernel
theorem dX3_back_14 : decode cX3_back 14 = .ok (.ifCond .ne 5, 3) := by decide +kernel
theorem dX3_back_17 : decode cX3_back 17 = .ok (.iconst (-1), 1) := by decide +kernel
theorem dX3_back_18 : decode cX3_back 18 = .ok (.ireturn, 1) := by decide +kernel
theorem dX3_back_19 : decode cX3_back 19 = .ok (.iconst 0, 1) := by decide +kernel
theorem dX3_back_20 : decode cX3_back 20 = .ok (.istore_n 2, 1) := by decide +kernel
theorem dX3_back_21 : decode cX3_back 21 = .ok (.iload_n 2, 1) := by decide +kernel
theorem dX3_back_22 : decode cX3_back 22 = .ok (.iload_n 1, 1) := by decide +kernel
theorem dX3_back_23 : decode cX3_back 23 = .ok (.if_icmp .ge 67, 3) := by decide +kernel
theorem dX3_back_26 : decode cX3_back 26 = .ok (.aload_n 0, 1) := by decide +kernel
theorem dX3_back_27 : decode cX3_back 27 = .ok (.getfield 86, 3) := by decide +kernel
theorem dX3_back_30 : decode cX3_back 30 = .ok (.ifCond .le 60, 3) := by decide +kernel
theorem dX3_back_33 : decode cX3_back 33 = .ok (.aload_n 0, 1) := by decide +kernel
theorem dX3_back_34 : decode cX3_back 34 = .ok (.dup, 1) := by decide +kernel
theorem dX3_back_35 : decode cX3_back 35 = .ok (.getfield 86, 3) := by decide +kernel
theorem dX3_back_38 : decode cX3_back 38 = .ok (.iconst 1, 1) := by decide +kernel
theorem dX3_back_39 : decode cX3_back 39 = .ok (.isub, 1) := by decide +kernel
theorem dX3_back_40 : decode cX3_back 40 = .ok (.putfield 86, 3) := by decide +kernel
theorem dX3_back_43 : decode cX3_back 43 = .ok (.aload_n 0, 1) := by decide +kernel
theorem dX3_back_44 : decode cX3_back 44 = .ok (.getfield 32, 3) := by decide +kernel
theorem dX3_back_47 : decode cX3_back 47 = .ok (.aload_n 0, 1) := by decide +kernel
theorem dX3_back_48 : decode cX3_back 48 = .ok (.getfield 86, 3) := by decide +kernel
theorem dX3_back_51 : decode cX3_back 51 = .ok (.iaload, 1) := by decide +kernel
theorem dX3_back_52 : decode cX3_back 52 = .ok (.istore_n 3, 1) := by decide +kernel
theorem dX3_back_53 : decode cX3_back 53 = .ok (.aload_n 0, 1) := by decide +kernel
theorem dX3_back_54 : decode cX3_back 54 = .ok (.getfield 17, 3) := by decide +kernel
theorem dX3_back_57 : decode cX3_back 57 = .ok (.iload_n 3, 1) := by decide +kernel
theorem dX3_back_58 : decode cX3_back 58 = .ok (.dup2, 1) := by decide +kernel
theorem dX3_back_59 : decode cX3_back 59 = .ok (.iaload, 1) := by decide +kernel
theorem dX3_back_60 : decode cX3_back 60 = .ok (.iconst 1, 1) := by decide +kernel
theorem dX3_back_61 : decode cX3_back 61 = .ok (.iadd, 1) := by decide +kernel
theorem dX3_back_62 : decode cX3_back 62 = .ok (.iastore, 1) := by decide +kernel
theorem dX3_back_63 : decode cX3_back 63 = .ok (.aload_n 0, 1) := by decide +kernel
theorem dX3_back_64 : decode cX3_back 64 = .ok (.getfield 20, 3) := by decide +kernel
theorem dX3_back_67 : decode cX3_back 67 = .ok (.iload_n 3, 1) := by decide +kernel
theorem dX3_back_68 : decode cX3_back 68 = .ok (.bipush (-9), 2) := by decide +kernel
theorem dX3_back_70 : decode cX3_back 70 = .ok (.iastore, 1) := by decide +kernel
theorem dX3_back_71 : decode cX3_back 71 = .ok (.aload_n 0, 1) := by decide +kernel
theorem dX3_back_72 : decode cX3_back 72 = .ok (.aload_n 0, 1) := by decide +kernel
theorem dX3_back_73 : decode cX3_back 73 = .ok (.getfield 35, 3) := by decide +kernel
theorem dX3_back_76 : decode cX3_back 76 = .ok (.aload_n 0, 1) := by decide +kernel
theorem dX3_back_77 : decode cX3_back 77 = .ok (.getfield 86, 3) := by decide +kernel
theorem dX3_back_80 : decode cX3_back 80 = .ok (.iaload, 1) := by decide +kernel
theorem dX3_back_81 : decode cX3_back 81 = .ok (.putfield 89, 3) := by decide +kernel
theorem dX3_back_84 : decode cX3_back 84 = .ok (.iinc 2 1, 3) := by decide +kernel
theorem dX3_back_87 : decode cX3_back 87 = .ok (.goto (-66), 3) := by decide +kernel
theorem dX3_back_90 : decode cX3_back 90 = .ok (.iload_n 2, 1) := by decide +kernel
theorem dX3_back_91 : decode cX3_back 91 = .ok (.ireturn, 1) := by decide +kernel
set_option maxRecDepth 20000 in
theorem ggX3_about_X3_isPerson : GoodIn wsX3_about wsX3_isPerson := goodIn_r _ [8, 9, 10, 11, 7, 12, 13, 14, 15, 16, 17, 18, 19, 20, 21, 22, 23, 24, 25, 26, 27, 28, 29] (by decide +kernel) (by decide +kernel)
set_option maxRecDepth 20000 in
theorem gX3_about_X3_isPerson : GoodIn wsX3_about (wsV RX3 94 RX3 yX3_isPerson wsX3_isPerson) := goodIn_app (goodIn_of _ (by decide +kernel)) ggX3_about_X3_isPerson
set_option maxRecDepth 20000 in
theorem ggX3_about_X3_in : GoodIn wsX3_about wsX3_in := goodIn_r _ [12] (by decide +kernel) (by decide +kernel)
set_option maxRecDepth 20000 in
theorem gX3_about_X3_in : GoodIn wsX3_about (va_wsS RX3 56 yX3_in wsX3_in) := goodIn_app (goodIn_of _ (by decide +kernel)) ggX3_about_X3_in
theorem dX3_about_0 : decode cX3_about 0 = .ok (.aload_n 0, 1) := by decide +kernel
theorem dX3_about_1 : decode cX3_about 1 = .ok (.iconst 0, 1) := by decide +kernel
theorem dX3_about_2 : decode cX3_about 2 = .ok (.putfield 51, 3) := by decide +kernel
theorem dX3_about_5 : decode cX3_about 5 = .ok (.aload_n 0, 1) := by decide +kernel
theorem dX3_about_6 : decode cX3_about 6 = .ok (.iload_n 1, 1) := by decide +kernel
theorem dX3_about_7 : decode cX3_about 7 = .ok (.invokevirtual 94, 3) := by decide +kernel
theorem dX3_about_10 : decode cX3_about 10 = .ok (.ifCond .eq 13, 3) := by decide +kernel
theorem dX3_about_13 : decode cX3_about 13 = .ok (.iload_n 2, 1) := by decide +kernel
theorem dX3_about_14 : decode cX3_about 14 = .ok (.i2l, 1) := by decide +kernel
theorem dX3_about_15 : decode cX3_about 15 = .ok (.lconst 0, 1) := by decide +kernel
theorem dX3_about_16 : decode cX3_about 16 = .ok (.lconst 1, 1) := by decide +kernel
theorem dX3_about_17 : decode cX3_about 17 = .ok (.invokestatic 56, 3) := by decide +kernel
theorem dX3_about_20 : decode cX3_about 20 = .ok (.ifCond .ne 5, 3) := by decide +kernel
theorem dX3_about_23 : decode cX3_about 23 = .ok (.iconst (-1), 1) := by decide +kernel
theorem dX3_about_24 : decode cX3_about 24 = .ok (.ireturn, 1) := by decide +kernel
theorem dX3_about_25 : decode cX3_about 25 = .ok (.iload_n 2, 1) := by decide +kernel
theorem dX3_about_26 : decode cX3_about 26 = .ok (.ifCond .ne 12, 3) := by decide +kernel
theorem dX3_about_29 : decode cX3_about 29 = .ok (.aload_n 0, 1) := by decide +kernel
theorem dX3_about_30 : decode cX3_about 30 = .ok (.getfield 17, 3) := by decide +kernel
theorem dX3_about_33 : decode cX3_about 33 = .ok (.iload_n 1, 1) := by decide +kernel
theorem dX3_about_34 : decode cX3_about 34 = .ok (.iaload, 1) := by decide +kernel
theorem dX3_about_35 : decode cX3_about 35 = .ok (.goto 9, 3) := by decide +kernel
theorem dX3_about_38 : decode cX3_about 38 = .ok (.aload_n 0, 1) := by decide +kernel
theorem dX3_about_39 : decode cX3_about 39 = .ok (.getfield 20, 3) := by decide +kernel
theorem dX3_about_42 : decode cX3_about 42 = .ok (.iload_n 1, 1) := by decide +kernel
theorem dX3_about_43 : decode cX3_about 43 = .ok (.iaload, 1) := by decide +kernel
theorem dX3_about_44 : decode cX3_about 44 = .ok (.ireturn, 1) := by decide +kernel
set_option maxRecDepth 20000 in
theorem ggX3_told_X3_there : GoodIn wsX3_told wsX3_there := goodIn_r _ [11, 2, 12, 13, 14, 15, 16, 17, 18, 19, 20, 21, 22, 23, 24, 25, 26, 27, 28, 29] (by decide +kernel) (by decide +kernel)
set_option maxRecDepth 20000 in
theorem gX3_told_X3_there : GoodIn wsX3_told (wsV RX3 128 RX3 yX3_there wsX3_there) := goodIn_app (goodIn_of _ (by decide +kernel)) ggX3_told_X3_there
theorem dX3_told_0 : decode cX3_told 0 = .ok (.aload_n 0, 1) := by decide +kernel
theorem dX3_told_1 : decode cX3_told 1 = .ok (.iconst 0, 1) := by decide +kernel
theorem dX3_told_2 : decode cX3_told 2 = .ok (.putfield 51, 3) := by decide +kernel
theorem dX3_told_5 : decode cX3_told 5 = .ok (.bipush (-9), 2) := by decide +kernel
theorem dX3_told_7 : decode cX3_told 7 = .ok (.istore_n 2, 1) := by decide +kernel
theorem dX3_told_8 : decode cX3_told 8 = .ok (.iconst 0, 1) := by decide +kernel
theorem dX3_told_9 : decode cX3_told 9 = .ok (.istore_n 3, 1) := by decide +kernel
theorem dX3_told_10 : decode cX3_told 10 = .ok (.iconst 0, 1) := by decide +kernel
theorem dX3_told_11 : decode cX3_told 11 = .ok (.istore 4, 2) := by decide +kernel
theorem dX3_told_13 : decode cX3_told 13 = .ok (.iload 4, 2) := by decide +kernel
theorem dX3_told_15 : decode cX3_told 15 = .ok (.aload_n 0, 1) := by decide +kernel
theorem dX3_told_16 : decode cX3_told 16 = .ok (.getfield 7, 3) := by decide +kernel
theorem dX3_told_19 : decode cX3_told 19 = .ok (.if_icmp .ge 31, 3) := by decide +kernel
theorem dX3_told_22 : decode cX3_told 22 = .ok (.aload_n 0, 1) := by decide +kernel
theorem dX3_told_23 : decode cX3_told 23 = .ok (.getfield 20, 3) := by decide +kernel
theorem dX3_told_26 : decode cX3_told 26 = .ok (.iload 4, 2) := by decide +kernel
theorem dX3_told_28 : decode cX3_told 28 = .ok (.iaload, 1) := by decide +kernel
theorem dX3_told_29 : decode cX3_told 29 = .ok (.iload_n 3, 1) := by decide +kernel
theorem dX3_told_30 : decode cX3_told 30 = .ok (.if_icmp .le 14, 3) := by decide +kernel
theorem dX3_told_33 : decode cX3_told 33 = .ok (.aload_n 0, 1) := by decide +kernel
theorem dX3_told_34 : decode cX3_told 34 = .ok (.getfield 20, 3) := by decide +kernel
theorem dX3_told_37 : decode cX3_told 37 = .ok (.iload 4, 2) := by decide +kernel
theorem dX3_told_39 : decode cX3_told 39 = .ok (.iaload, 1) := by decide +kernel
theorem dX3_told_40 : decode cX3_told 40 = .ok (.istore_n 3, 1) := by decide +kernel
theorem dX3_told_41 : decode cX3_told 41 = .ok (.iload 4, 2) := by decide +kernel
theorem dX3_told_43 : decode cX3_told 43 = .ok (.istore_n 2, 1) := by decide +kernel
theorem dX3_told_44 : decode cX3_told 44 = .ok (.iinc 4 1, 3) := by decide +kernel
theorem dX3_told_47 : decode cX3_told 47 = .ok (.goto (-34), 3) := by decide +kernel
theorem dX3_told_50 : decode cX3_told 50 = .ok (.iload_n 1, 1) := by decide +kernel
theorem dX3_told_51 : decode cX3_told 51 = .ok (.tableswitch 74 0 4 #[33, 38, 43, 48, 72], 33) := by decide +kernel
theorem dX3_told_84 : decode cX3_told 84 = .ok (.aload_n 0, 1) := by decide +kernel
theorem dX3_told_85 : decode cX3_told 85 = .ok (.getfield 89, 3) := by decide +kernel
theorem dX3_told_88 : decode cX3_told 88 = .ok (.ireturn, 1) := by decide +kernel
theorem dX3_told_89 : decode cX3_told 89 = .ok (.aload_n 0, 1) := by decide +kernel
theorem dX3_told_90 : decode cX3_told 90 = .ok (.invokevirtual 128, 3) := by decide +kernel
theorem dX3_told_93 : decode cX3_told 93 = .ok (.ireturn, 1) := by decide +kernel
theorem dX3_told_94 : decode cX3_told 94 = .ok (.aload_n 0, 1) := by decide +kernel
theorem dX3_told_95 : decode cX3_told 95 = .ok (.getfield 86, 3) := by decide +kernel
theorem dX3_told_98 : decode cX3_told 98 = .ok (.ireturn, 1) := by decide +kernel
theorem dX3_told_99 : decode cX3_told 99 = .ok (.aload_n 0, 1) := by decide +kernel
theorem dX3_told_100 : decode cX3_told 100 = .ok (.getfield 86, 3) := by decide +kernel
theorem dX3_told_103 : decode cX3_told 103 = .ok (.ifCond .ne 8, 3) := by decide +kernel
theorem dX3_told_106 : decode cX3_told 106 = .ok (.bipush (-9), 2) := by decide +kernel
theorem dX3_told_108 : decode cX3_told 108 = .ok (.goto 14, 3) := by decide +kernel
theorem dX3_told_111 : decode cX3_told 111 = .ok (.aload_n 0, 1) := by decide +kernel
theorem dX3_told_112 : decode cX3_told 112 = .ok (.getfield 32, 3) := by decide +kernel
theorem dX3_told_115 : decode cX3_told 115 = .ok (.aload_n 0, 1) := by decide +kernel
theorem dX3_told_116 : decode cX3_told 116 = .ok (.getfield 86, 3) := by decide +kernel
theorem dX3_told_119 : decode cX3_told 119 = .ok (.iconst 1, 1) := by decide +kernel
theorem dX3_told_120 : decode cX3_told 120 = .ok (.isub, 1) := by decide +kernel
theorem dX3_told_121 : decode cX3_told 121 = .ok (.iaload, 1) := by decide +kernel
theorem dX3_told_122 : decode cX3_told 122 = .ok (.ireturn, 1) := by decide +kernel
theorem dX3_told_123 : decode cX3_told 123 = .ok (.iload_n 2, 1) := by decide +kernel
theorem dX3_told_124 : decode cX3_told 124 = .ok (.ireturn, 1) := by decide +kernel
theorem dX3_told_125 : decode cX3_told 125 = .ok (.iconst (-1), 1) := by decide +kernel
theorem dX3_told_126 : decode cX3_told 126 = .ok (.ireturn, 1) := by decide +kernel
set_option maxRecDepth 20000 in
theorem ggX3_isSet_X3_in : GoodIn wsX3_isSet wsX3_in := goodIn_r _ [5] (by decide +kernel) (by decide +kernel)
set_option maxRecDepth 20000 in
theorem gX3_isSet_X3_in : GoodIn wsX3_isSet (va_wsS RX3 56 yX3_in wsX3_in) := goodIn_app (goodIn_of _ (by decide +kernel)) ggX3_isSet_X3_in
theorem dX3_isSet_0 : decode cX3_isSet 0 = .ok (.iload_n 0, 1) := by decide +kernel
theorem dX3_isSet_1 : decode cX3_isSet 1 = .ok (.i2l, 1) := by decide +kernel
theorem dX3_isSet_2 : decode cX3_isSet 2 = .ok (.lconst 1, 1) := by decide +kernel
theorem dX3_isSet_3 : decode cX3_isSet 3 = .ok (.ldc2_w 137, 3) := by decide +kernel
theorem dX3_isSet_6 : decode cX3_isSet 6 = .ok (.invokestatic 56, 3) := by decide +kernel
theorem dX3_isSet_9 : decode cX3_isSet 9 = .ok (.ireturn, 1) := by decide +kernel
set_option maxRecDepth 20000 in
theorem ggX3_may_X3_in : GoodIn wsX3_may wsX3_in := goodIn_r _ [6] (by decide +kernel) (by decide +kernel)
set_option maxRecDepth 20000 in
theorem gX3_may_X3_in : GoodIn wsX3_may (va_wsS RX3 56 yX3_in wsX3_in) := goodIn_app (goodIn_of _ (by decide +kernel)) ggX3_may_X3_in
set_option maxRecDepth 20000 in
theorem ggX3_may_X3_isSet : GoodIn wsX3_may wsX3_isSet := goodIn_r _ [9, 10, 3, 4, 5, 6] (by decide +kernel) (by decide +kernel)
set_option maxRecDepth 20000 in
theorem gX3_may_X3_isSet : GoodIn wsX3_may (va_wsS RX3 141 yX3_isSet wsX3_isSet) := goodIn_app (goodIn_of _ (by decide +kernel)) ggX3_may_X3_isSet
theorem dX3_may_0 : decode cX3_may 0 = .ok (.aload_n 0, 1) := by decide +kernel
theorem dX3_may_1 : decode cX3_may 1 = .ok (.iconst 0, 1) := by decide +kernel
theorem dX3_may_2 : decode cX3_may 2 = .ok (.putfield 51, 3) := by decide +kernel
theorem dX3_may_5 : decode cX3_may 5 = .ok (.iload_n 1, 1) := by decide +kernel
theorem dX3_may_6 : decode cX3_may 6 = .ok (.i2l, 1) := by decide +kernel
theorem dX3_may_7 : decode cX3_may 7 = .ok (.lconst 1, 1) := by decide +kernel
theorem dX3_may_8 : decode cX3_may 8 = .ok (.ldc2_w 139, 3) := by decide +kernel
theorem dX3_may_11 : decode cX3_may 11 = .ok (.invokestatic 56, 3) := by decide +kernel
theorem dX3_may_14 : decode cX3_may 14 = .ok (.ifCond .eq 10, 3) := by decide +kernel
theorem dX3_may_17 : decode cX3_may 17 = .ok (.iload_n 2, 1) := by decide +kernel
theorem dX3_may_18 : decode cX3_may 18 = .ok (.invokestatic 141, 3) := by decide +kernel
theorem dX3_may_21 : decode cX3_may 21 = .ok (.ifCond .ne 5, 3) := by decide +kernel
theorem dX3_may_24 : decode cX3_may 24 = .ok (.iconst (-1), 1) := by decide +kernel
theorem dX3_may_25 : decode cX3_may 25 = .ok (.ireturn, 1) := by decide +kernel
theorem dX3_may_26 : decode cX3_may 26 = .ok (.iconst 1, 1) := by decide +kernel
theorem dX3_may_27 : decode cX3_may 27 = .ok (.istore_n 3, 1) := by decide +kernel
theorem dX3_may_28 : decode cX3_may 28 = .ok (.iconst 2, 1) := by decide +kernel
theorem dX3_may_29 : decode cX3_may 29 = .ok (.istore 4, 2) := by decide +kernel
theorem dX3_may_31 : decode cX3_may 31 = .ok (.iload 4, 2) := by decide +kernel
theorem dX3_may_33 : decode cX3_may 33 = .ok (.iload_n 1, 1) := by decide +kernel
theorem dX3_may_34 : decode cX3_may 34 = .ok (.if_icmp .gt 86, 3) := by decide +kernel
theorem dX3_may_37 : decode cX3_may 37 = .ok (.iconst 0, 1) := by decide +kernel
theorem dX3_may_38 : decode cX3_may 38 = .ok (.istore 5, 2) := by decide +kernel
theorem dX3_may_40 : decode cX3_may 40 = .ok (.iconst 0, 1) := by decide +kernel
theorem dX3_may_41 : decode cX3_may 41 = .ok (.istore 6, 2) := by decide +kernel
theorem dX3_may_43 : decode cX3_may 43 = .ok (.iload 6, 2) := by decide +kernel
theorem dX3_may_45 : decode cX3_may 45 = .ok (.iload 4, 2) := by decide +kernel
theorem dX3_may_47 : decode cX3_may 47 = .ok (.iconst 1, 1) := by decide +kernel
theorem dX3_may_48 : decode cX3_may 48 = .ok (.isub, 1) := by decide +kernel
theorem dX3_may_49 : decode cX3_may 49 = .ok (.if_icmp .ge 62, 3) := by decide +kernel
theorem dX3_may_52 : decode cX3_may 52 = .ok (.iconst 1, 1) := by decide +kernel
theorem dX3_may_53 : decode cX3_may 53 = .ok (.istore 7, 2) := by decide +kernel
theorem dX3_may_55 : decode cX3_may 55 = .ok (.iload 7, 2) := by decide +kernel
theorem dX3_may_57 : decode cX3_may 57 = .ok (.bipush 7, 2) := by decide +kernel
theorem dX3_may_59 : decode cX3_may 59 = .ok (.if_icmp .ge 46, 3) := by decide +kernel
theorem dX3_may_62 : decode cX3_may 62 = .ok (.iload_n 3, 1) := by decide +kernel
theorem dX3_may_63 : decode cX3_may 63 = .ok (.iload 6, 2) := by decide +kernel
theorem dX3_may_65 : decode cX3_may 65 = .ok (.ishr, 1) := by decide +kernel
theorem dX3_may_66 : decode cX3_may 66 = .ok (.iconst 1, 1) := by decide +kernel
theorem dX3_may_67 : decode cX3_may 67 = .ok (.iand, 1) := by decide +kernel
theorem dX3_may_68 : decode cX3_may 68 = .ok (.iconst 1, 1) := by decide +kernel
theorem dX3_may_69 : decode cX3_may 69 = .ok (.if_icmp .ne 30, 3) := by decide +kernel
theorem dX3_may_72 : decode cX3_may 72 = .ok (.iload_n 2, 1) := by decide +kernel
theorem dX3_may_73 : decode cX3_may 73 = .ok (.iload 7, 2) := by decide +kernel
theorem dX3_may_75 : decode cX3_may 75 = .ok (.iconst 1, 1) := by decide +kernel
theorem dX3_may_76 : decode cX3_may 76 = .ok (.isub, 1) := by decide +kernel
theorem dX3_may_77 : decode cX3_may 77 = .ok (.ishr, 1) := by decide +kernel
theorem dX3_may_78 : decode cX3_may 78 = .ok (.iconst 1, 1) := by decide +kernel
theorem dX3_may_79 : decode cX3_may 79 = .ok (.iand, 1) := by decide +kernel
theorem dX3_may_80 : decode cX3_may 80 = .ok (.iconst 1, 1) := by decide +kernel
theorem dX3_may_81 : decode cX3_may 81 = .ok (.if_icmp .ne 18, 3) := by decide +kernel
theorem dX3_may_84 : decode cX3_may 84 = .ok (.iload 5, 2) := by decide +kernel
theorem dX3_may_86 : decode cX3_may 86 = .ok (.iconst 1, 1) := by decide +kernel
theorem dX3_may_87 : decode cX3_may 87 = .ok (.iload 6, 2) := by decide +kernel
theorem dX3_may_89 : decode cX3_may 89 = .ok (.iload 7, 2) := by decide +kernel
theorem dX3_may_91 : decode cX3_may 91 = .ok (.iadd, 1) := by decide +kernel
theorem dX3_may_92 : decode cX3_may 92 = .ok (.iload 4, 2) := by decide +kernel
theorem dX3_may_94 : decode cX3_may 94 = .ok (.irem, 1) := by decide +kernel
theorem dX3_may_95 : decode cX3_may 95 = .ok (.ishl, 1) := by decide +kernel
theorem dX3_may_96 : decode cX3_may 96 = .ok (.ior, 1) := by decide +kernel
theorem dX3_may_97 : decode cX3_may 97 = .ok (.istore 5, 2) := by decide +kernel
theorem dX3_may_99 : decode cX3_may 99 = .ok (.iinc 7 1, 3) := by decide +kernel
theorem dX3_may_102 : decode cX3_may 102 = .ok (.goto (-47), 3) := by decide +kernel
theorem dX3_may_105 : decode cX3_may 105 = .ok (.iinc 6 1, 3) := by decide +kernel
theorem dX3_may_108 : decode cX3_may 108 = .ok (.goto (-65), 3) := by decide +kernel
theorem dX3_may_111 : decode cX3_may 111 = .ok (.iload 5, 2) := by decide +kernel
theorem dX3_may_113 : decode cX3_may 113 = .ok (.istore_n 3, 1) := by decide +kernel
theorem dX3_may_114 : decode cX3_may 114 = .ok (.iinc 4 1, 3) := by decide +kernel
theorem dX3_may_117 : decode cX3_may 117 = .ok (.goto (-86), 3) := by decide +kernel
theorem dX3_may_120 : decode cX3_may 120 = .ok (.iload_n 3, 1) := by decide +kernel
theorem dX3_may_121 : decode cX3_may 121 = .ok (.ireturn, 1) := by decide +kernel
set_option maxRecDepth 20000 in
theorem ggX3_can_X3_in : GoodIn wsX3_can wsX3_in := goodIn_r _ [8] (by decide +kernel) (by decide +kernel)
set_option maxRecDepth 20000 in
theorem gX3_can_X3_in : GoodIn wsX3_can (va_wsS RX3 56 yX3_in wsX3_in) := goodIn_app (goodIn_of _ (by decide +kernel)) ggX3_can_X3_in
set_option maxRecDepth 20000 in
theorem ggX3_can_X3_isSet : GoodIn wsX3_can wsX3_isSet := goodIn_r _ [11, 12, 5, 6, 7, 8] (by decide +kernel) (by decide +kernel)
set_option maxRecDepth 20000 in
theorem gX3_can_X3_isSet : GoodIn wsX3_can (va_wsS RX3 141 yX3_isSet wsX3_isSet) := goodIn_app (goodIn_of _ (by decide +kernel)) ggX3_can_X3_isSet
theorem dX3_can_0 : decode cX3_can 0 = .ok (.aload_n 0, 1) := by decide +kernel
theorem dX3_can_1 : decode cX3_can 1 = .ok (.iconst 0, 1) := by decide +kernel
theorem dX3_can_2 : decode cX3_can 2 = .ok (.putfield 51, 3) := by decide +kernel
theorem dX3_can_5 : decode cX3_can 5 = .ok (.iload_n 1, 1) := by decide +kernel
theorem dX3_can_6 : decode cX3_can 6 = .ok (.i2l, 1) := by decide +kernel
theorem dX3_can_7 : decode cX3_can 7 = .ok (.lconst 1, 1) := by decide +kernel
theorem dX3_can_8 : decode cX3_can 8 = .ok (.ldc2_w 139, 3) := by decide +kernel
theorem dX3_can_11 : decode cX3_can 11 = .ok (.invokestatic 56, 3) := by decide +kernel
theorem dX3_can_14 : decode cX3_can 14 = .ok (.ifCond .eq 17, 3) := by decide +kernel
theorem dX3_can_17 : decode cX3_can 17 = .ok (.iload_n 2, 1) := by decide +kernel
theorem dX3_can_18 : decode cX3_can 18 = .ok (.invokestatic 141, 3) := by decide +kernel
theorem dX3_can_21 : decode cX3_can 21 = .ok (.ifCond .eq 10, 3) := by decide +kernel
theorem dX3_can_24 : decode cX3_can 24 = .ok (.iload_n 3, 1) := by decide +kernel
theorem dX3_can_25 : decode cX3_can 25 = .ok (.invokestatic 141, 3) := by decide +kernel
theorem dX3_can_28 : decode cX3_can 28 = .ok (.ifCond .ne 5, 3) := by decide +kernel
theorem dX3_can_31 : decode cX3_can 31 = .ok (.iconst (-1), 1) := by decide +kernel
theorem dX3_can_32 : decode cX3_can 32 = .ok (.ireturn, 1) := by decide +kernel
theorem dX3_can_33 : decode cX3_can 33 = .ok (.aload_n 0, 1) := by decide +kernel
theorem dX3_can_34 : decode cX3_can 34 = .ok (.getfield 41, 3) := by decide +kernel
theorem dX3_can_37 : decode cX3_can 37 = .ok (.iconst 1, 1) := by decide +kernel
theorem dX3_can_38 : decode cX3_can 38 = .ok (.iconst 1, 1) := by decide +kernel
theorem dX3_can_39 : decode cX3_can 39 = .ok (.iastore, 1) := by decide +kernel
theorem dX3_can_40 : decode cX3_can 40 = .ok (.aload_n 0, 1) := by decide +kernel
theorem dX3_can_41 : decode cX3_can 41 = .ok (.getfield 44, 3) := by decide +kernel
theorem dX3_can_44 : decode cX3_can 44 = .ok (.iconst 1, 1) := by decide +kernel
theorem dX3_can_45 : decode cX3_can 45 = .ok (.iconst 1, 1) := by decide +kernel
theorem dX3_can_46 : decode cX3_can 46 = .ok (.iastore, 1) := by decide +kernel
theorem dX3_can_47 : decode cX3_can 47 = .ok (.iconst 2, 1) := by decide +kernel
theorem dX3_can_48 : decode cX3_can 48 = .ok (.istore 4, 2) := by decide +kernel
theorem dX3_can_50 : decode cX3_can 50 = .ok (.iload 4, 2) := by decide +kernel
theorem dX3_can_52 : decode cX3_can 52 = .ok (.iload_n 1, 1) := by decide +kernel
theorem dX3_can_53 : decode cX3_can 53 = .ok (.if_icmp .gt 233, 3) := by decide +kernel
theorem dX3_can_56 : decode cX3_can 56 = .ok (.aload_n 0, 1) := by decide +kernel
theorem dX3_can_57 : decode cX3_can 57 = .ok (.getfield 41, 3) := by decide +kernel
theorem dX3_can_60 : decode cX3_can 60 = .ok (.iload 4, 2) := by decide +kernel
theorem dX3_can_62 : decode cX3_can 62 = .ok (.iconst 0, 1) := by decide +kernel
theorem dX3_can_63 : decode cX3_can 63 = .ok (.iastore, 1) := by decide +kernel
theorem dX3_can_64 : decode cX3_can 64 = .ok (.aload_n 0, 1) := by decide +kernel
theorem dX3_can_65 : decode cX3_can 65 = .ok (.getfield 44, 3) := by decide +kernel
theorem dX3_can_68 : decode cX3_can 68 = .ok (.iload 4, 2) := by decide +kernel
theorem dX3_can_70 : decode cX3_can 70 = .ok (.iconst 0, 1) := by decide +kernel
theorem dX3_can_71 : decode cX3_can 71 = .ok (.iastore, 1) := by decide +kernel
theorem dX3_can_72 : decode cX3_can 72 = .ok (.iconst 0, 1) := by decide +kernel
theorem dX3_can_73 : decode cX3_can 73 = .ok (.istore 5, 2) := by decide +kernel
theorem dX3_can_75 : decode cX3_can 75 = .ok (.iload 5, 2) := by decide +kernel
theorem dX3_can_77 : decode cX3_can 77 = .ok (.iload 4, 2) := by decide +kernel
theorem dX3_can_79 : decode cX3_can 79 = .ok (.if_icmp .ge 201, 3) := by decide +kernel
theorem dX3_can_82 : decode cX3_can 82 = .ok (.iconst 0, 1) := by decide +kernel
theorem dX3_can_83 : decode cX3_can 83 = .ok (.istore 6, 2) := by decide +kernel
theorem dX3_can_85 : decode cX3_can 85 = .ok (.iconst 1, 1) := by decide +kernel
theorem dX3_can_86 : decode cX3_can 86 = .ok (.istore 7, 2) := by decide +kernel
theorem dX3_can_88 : decode cX3_can 88 = .ok (.iconst 1, 1) := by decide +kernel
theorem dX3_can_89 : decode cX3_can 89 = .ok (.istore 8, 2) := by decide +kernel
theorem dX3_can_91 : decode cX3_can 91 = .ok (.iload 8, 2) := by decide +kernel
theorem dX3_can_93 : decode cX3_can 93 = .ok (.bipush 7, 2) := by decide +kernel
theorem dX3_can_95 : decode cX3_can 95 = .ok (.if_icmp .ge 133, 3) := by decide +kernel
theorem dX3_can_98 : decode cX3_can 98 = .ok (.iload 8, 2) := by decide +kernel
theorem dX3_can_100 : decode cX3_can 100 = .ok (.iconst 1, 1) := by decide +kernel
theorem dX3_can_101 : decode cX3_can 101 = .ok (.isub, 1) := by decide +kernel
theorem dX3_can_102 : decode cX3_can 102 = .ok (.iload 4, 2) := by decide +kernel
theorem dX3_can_104 : decode cX3_can 104 = .ok (.irem, 1) := by decide +kernel
theorem dX3_can_105 : decode cX3_can 105 = .ok (.iload 5, 2) := by decide +kernel
theorem dX3_can_107 : decode cX3_can 107 = .ok (.if_icmp .ne 7, 3) := by decide +kernel
theorem dX3_can_110 : decode cX3_can 110 = .ok (.iconst 1, 1) := by decide +kernel
theorem dX3_can_111 : decode cX3_can 111 = .ok (.goto 4, 3) := by decide +kernel
theorem dX3_can_114 : decode cX3_can 114 = .ok (.iconst 0, 1) := by decide +kernel
theorem dX3_can_115 : decode cX3_can 115 = .ok (.istore 9, 2) := by decide +kernel
theorem dX3_can_117 : decode cX3_can 117 = .ok (.iload 5, 2) := by decide +kernel
theorem dX3_can_119 : decode cX3_can 119 = .ok (.iload 8, 2) := by decide +kernel
theorem dX3_can_121 : decode cX3_can 121 = .ok (.iload 4, 2) := by decide +kernel
theorem dX3_can_123 : decode cX3_can 123 = .ok (.irem, 1) := by decide +kernel
theorem dX3_can_124 : decode cX3_can 124 = .ok (.isub, 1) := by decide +kernel
theorem dX3_can_125 : decode cX3_can 125 = .ok (.iload 4, 2) := by decide +kernel
theorem dX3_can_127 : decode cX3_can 127 = .ok (.iadd, 1) := by decide +kernel
theorem dX3_can_128 : decode cX3_can 128 = .ok (.iload 4, 2) := by decide +kernel
theorem dX3_can_130 : decode cX3_can 130 = .ok (.irem, 1) := by decide +kernel
theorem dX3_can_131 : decode cX3_can 131 = .ok (.istore 10, 2) := by decide +kernel
theorem dX3_can_133 : decode cX3_can 133 = .ok (.iload 6, 2) := by decide +kernel
theorem dX3_can_135 : decode cX3_can 135 = .ok (.iload_n 2, 1) := by decide +kernel
theorem dX3_can_136 : decode cX3_can 136 = .ok (.iload 8, 2) := by decide +kernel
theorem dX3_can_138 : decode cX3_can 138 = .ok (.iconst 1, 1) := by decide +kernel
theorem dX3_can_139 : decode cX3_can 139 = .ok (.isub, 1) := by decide +kernel
theorem dX3_can_140 : decode cX3_can 140 = .ok (.ishr, 1) := by decide +kernel
theorem dX3_can_141 : decode cX3_can 141 = .ok (.iconst 1, 1) := by decide +kernel
theorem dX3_can_142 : decode cX3_can 142 = .ok (.iand, 1) := by decide +kernel
theorem dX3_can_143 : decode cX3_can 143 = .ok (.iconst 1, 1) := by decide +kernel
theorem dX3_can_144 : decode cX3_can 144 = .ok (.if_icmp .ne 30, 3) := by decide +kernel
theorem dX3_can_147 : decode cX3_can 147 = .ok (.iload 9, 2) := by decide +kernel
theorem dX3_can_149 : decode cX3_can 149 = .ok (.ifCond .ne 25, 3) := by decide +kernel
theorem dX3_can_152 : decode cX3_can 152 = .ok (.aload_n 0, 1) := by decide +kernel
theorem dX3_can_153 : decode cX3_can 153 = .ok (.getfield 44, 3) := by decide +kernel
theorem dX3_can_156 : decode cX3_can 156 = .ok (.iload 4, 2) := by decide +kernel
theorem dX3_can_158 : decode cX3_can 158 = .ok (.iconst 1, 1) := by decide +kernel
theorem dX3_can_159 : decode cX3_can 159 = .ok (.isub, 1) := by decide +kernel
theorem dX3_can_160 : decode cX3_can 160 = .ok (.iaload, 1) := by decide +kernel
theorem dX3_can_161 : decode cX3_can 161 = .ok (.iload 10, 2) := by decide +kernel
theorem dX3_can_163 : decode cX3_can 163 = .ok (.ishr, 1) := by decide +kernel
theorem dX3_can_164 : decode cX3_can 164 = .ok (.iconst 1, 1) := by decide +kernel
theorem dX3_can_165 : decode cX3_can 165 = .ok (.iand, 1) := by decide +kernel
theorem dX3_can_166 : decode cX3_can 166 = .ok (.iconst 1, 1) := by decide +kernel
theorem dX3_can_167 : decode cX3_can 167 = .ok (.if_icmp .ne 7, 3) := by decide +kernel
theorem dX3_can_170 : decode cX3_can 170 = .ok (.iconst 1, 1) := by decide +kernel
theorem dX3_can_171 : decode cX3_can 171 = .ok (.goto 4, 3) := by decide +kernel
theorem dX3_can_174 : decode cX3_can 174 = .ok (.iconst 0, 1) := by decide +kernel
theorem dX3_can_175 : decode cX3_can 175 = .ok (.ior, 1) := by decide +kernel
theorem dX3_can_176 : decode cX3_can 176 = .ok (.istore 6, 2) := by decide +kernel
theorem dX3_can_178 : decode cX3_can 178 = .ok (.iload 7, 2) := by decide +kernel
theorem dX3_can_180 : decode cX3_can 180 = .ok (.iload_n 3, 1) := by decide +kernel
theorem dX3_can_181 : decode cX3_can 181 = .ok (.iload 8, 2) := by decide +kernel
theorem dX3_can_183 : decode cX3_can 183 = .ok (.iconst 1, 1) := by decide +kernel
theorem dX3_can_184 : decode cX3_can 184 = .ok (.isub, 1) := by decide +kernel
theorem dX3_can_185 : decode cX3_can 185 = .ok (.ishr, 1) := by decide +kernel
theorem dX3_can_186 : decode cX3_can 186 = .ok (.iconst 1, 1) := by decide +kernel
theorem dX3_can_187 : decode cX3_can 187 = .ok (.iand, 1) := by decide +kernel
theorem dX3_can_188 : decode cX3_can 188 = .ok (.ifCond .eq 26, 3) := by decide +kernel
theorem dX3_can_191 : decode cX3_can 191 = .ok (.iload 9, 2) := by decide +kernel
theorem dX3_can_193 : decode cX3_can 193 = .ok (.ifCond .ne 25, 3) := by decide +kernel
theorem dX3_can_196 : decode cX3_can 196 = .ok (.aload_n 0, 1) := by decide +kernel
theorem dX3_can_197 : decode cX3_can 197 = .ok (.getfield 41, 3) := by decide +kernel
theorem dX3_can_200 : decode cX3_can 200 = .ok (.iload 4, 2) := by decide +kernel
theorem dX3_can_202 : decode cX3_can 202 = .ok (.iconst 1, 1) := by decide +kernel
theorem dX3_can_203 : decode cX3_can 203 = .ok (.isub, 1) := by decide +kernel
theorem dX3_can_204 : decode cX3_can 204 = .ok (.iaload, 1) := by decide +kernel
theorem dX3_can_205 : decode cX3_can 205 = .ok (.iload 10, 2) := by decide +kernel
theorem dX3_can_207 : decode cX3_can 207 = .ok (.ishr, 1) := by decide +kernel
theorem dX3_can_208 : decode cX3_can 208 = .ok (.iconst 1, 1) := by decide +kernel
theorem dX3_can_209 : decode cX3_can 209 = .ok (.iand, 1) := by decide +kernel
theorem dX3_can_210 : decode cX3_can 210 = .ok (.iconst 1, 1) := by decide +kernel
theorem dX3_can_211 : decode cX3_can 211 = .ok (.if_icmp .ne 7, 3) := by decide +kernel
theorem dX3_can_214 : decode cX3_can 214 = .ok (.iconst 1, 1) := by decide +kernel
theorem dX3_can_215 : decode cX3_can 215 = .ok (.goto 4, 3) := by decide +kernel
theorem dX3_can_218 : decode cX3_can 218 = .ok (.iconst 0, 1) := by decide +kernel
theorem dX3_can_219 : decode cX3_can 219 = .ok (.iand, 1) := by decide +kernel
theorem dX3_can_220 : decode cX3_can 220 = .ok (.istore 7, 2) := by decide +kernel
theorem dX3_can_222 : decode cX3_can 222 = .ok (.iinc 8 1, 3) := by decide +kernel
theorem dX3_can_225 : decode cX3_can 225 = .ok (.goto (-134), 3) := by decide +kernel
theorem dX3_can_228 : decode cX3_can 228 = .ok (.aload_n 0, 1) := by decide +kernel
theorem dX3_can_229 : decode cX3_can 229 = .ok (.getfield 41, 3) := by decide +kernel
theorem dX3_can_232 : decode cX3_can 232 = .ok (.iload 4, 2) := by decide +kernel
theorem dX3_can_234 : decode cX3_can 234 = .ok (.dup2, 1) := by decide +kernel
theorem dX3_can_235 : decode cX3_can 235 = .ok (.iaload, 1) := by decide +kernel
theorem dX3_can_236 : decode cX3_can 236 = .ok (.iload 6, 2) := by decide +kernel
theorem dX3_can_238 : decode cX3_can 238 = .ok (.ifCond .eq 10, 3) := by decide +kernel
theorem dX3_can_241 : decode cX3_can 241 = .ok (.iconst 1, 1) := by decide +kernel
theorem dX3_can_242 : decode cX3_can 242 = .ok (.iload 5, 2) := by decide +kernel
theorem dX3_can_244 : decode cX3_can 244 = .ok (.ishl, 1) := by decide +kernel
theorem dX3_can_245 : decode cX3_can 245 = .ok (.goto 4, 3) := by decide +kernel
theorem dX3_can_248 : decode cX3_can 248 = .ok (.iconst 0, 1) := by decide +kernel
theorem dX3_can_249 : decode cX3_can 249 = .ok (.ior, 1) := by decide +kernel
theorem dX3_can_250 : decode cX3_can 250 = .ok (.iastore, 1) := by decide +kernel
theorem dX3_can_251 : decode cX3_can 251 = .ok (.aload_n 0, 1) := by decide +kernel
theorem dX3_can_252 : decode cX3_can 252 = .ok (.getfield 44, 3) := by decide +kernel
theorem dX3_can_255 : decode cX3_can 255 = .ok (.iload 4, 2) := by decide +kernel
theorem dX3_can_257 : decode cX3_can 257 = .ok (.dup2, 1) := by decide +kernel
theorem dX3_can_258 : decode cX3_can 258 = .ok (.iaload, 1) := by decide +kernel
theorem dX3_can_259 : decode cX3_can 259 = .ok (.iload 7, 2) := by decide +kernel
theorem dX3_can_261 : decode cX3_can 261 = .ok (.ifCond .eq 10, 3) := by decide +kernel
theorem dX3_can_264 : decode cX3_can 264 = .ok (.iconst 1, 1) := by decide +kernel
theorem dX3_can_265 : decode cX3_can 265 = .ok (.iload 5, 2) := by decide +kernel
theorem dX3_can_267 : decode cX3_can 267 = .ok (.ishl, 1) := by decide +kernel
theorem dX3_can_268 : decode cX3_can 268 = .ok (.goto 4, 3) := by decide +kernel
theorem dX3_can_271 : decode cX3_can 271 = .ok (.iconst 0, 1) := by decide +kernel
theorem dX3_can_272 : decode cX3_can 272 = .ok (.ior, 1) := by decide +kernel
theorem dX3_can_273 : decode cX3_can 273 = .ok (.iastore, 1) := by decide +kernel
theorem dX3_can_274 : decode cX3_can 274 = .ok (.iinc 5 1, 3) := by decide +kernel
theorem dX3_can_277 : decode cX3_can 277 = .ok (.goto (-202), 3) := by decide +kernel
theorem dX3_can_280 : decode cX3_can 280 = .ok (.iinc 4 1, 3) := by decide +kernel
theorem dX3_can_283 : decode cX3_can 283 = .ok (.goto (-233), 3) := by decide +kernel
theorem dX3_can_286 : decode cX3_can 286 = .ok (.aload_n 0, 1) := by decide +kernel
theorem dX3_can_287 : decode cX3_can 287 = .ok (.getfield 41, 3) := by decide +kernel
theorem dX3_can_290 : decode cX3_can 290 = .ok (.iload_n 1, 1) := by decide +kernel
theorem dX3_can_291 : decode cX3_can 291 = .ok (.iaload, 1) := by decide +kernel
theorem dX3_can_292 : decode cX3_can 292 = .ok (.ireturn, 1) := by decide +kernel
theorem dX3_trace_0 : decode cX3_trace 0 = .ok (.aload_n 0, 1) := by decide +kernel
theorem dX3_trace_1 : decode cX3_trace 1 = .ok (.iconst 0, 1) := by decide +kernel
theorem dX3_trace_2 : decode cX3_trace 2 = .ok (.putfield 51, 3) := by decide +kernel
theorem dX3_trace_5 : decode cX3_trace 5 = .ok (.aload_n 0, 1) := by decide +kernel
theorem dX3_trace_6 : decode cX3_trace 6 = .ok (.getfield 112, 3) := by decide +kernel
theorem dX3_trace_9 : decode cX3_trace 9 = .ok (.lreturn, 1) := by decide +kernel
end
section
theorem dJ9_floorMod_7cf53_0 : decode cJ9_floorMod_7cf53 0 = .ok (.iload_n 0, 1) := by decide +kernel
theorem dJ9_floorMod_7cf53_1 : decode cJ9_floorMod_7cf53 1 = .ok (.iload_n 1, 1) := by decide +kernel
theorem dJ9_floorMod_7cf53_2 : decode cJ9_floorMod_7cf53 2 = .ok (.irem, 1) := by decide +kernel
theorem dJ9_floorMod_7cf53_3 : decode cJ9_floorMod_7cf53 3 = .ok (.istore_n 2, 1) := by decide +kernel
theorem dJ9_floorMod_7cf53_4 : decode cJ9_floorMod_7cf53 4 = .ok (.iload_n 0, 1) := by decide +kernel
theorem dJ9_floorMod_7cf53_5 : decode cJ9_floorMod_7cf53 5 = .ok (.iload_n 1, 1) := by decide +kernel
theorem dJ9_floorMod_7cf53_6 : decode cJ9_floorMod_7cf53 6 = .ok (.ixor, 1) := by decide +kernel
theorem dJ9_floorMod_7cf53_7 : decode cJ9_floorMod_7cf53 7 = .ok (.ifCond .ge 11, 3) := by decide +kernel
theorem dJ9_floorMod_7cf53_10 : decode cJ9_floorMod_7cf53 10 = .ok (.iload_n 2, 1) := by decide +kernel
theorem dJ9_floorMod_7cf53_11 : decode cJ9_floorMod_7cf53 11 = .ok (.ifCond .eq 7, 3) := by decide +kernel
theorem dJ9_floorMod_7cf53_14 : decode cJ9_floorMod_7cf53 14 = .ok (.iload_n 2, 1) := by decide +kernel
theorem dJ9_floorMod_7cf53_15 : decode cJ9_floorMod_7cf53 15 = .ok (.iload_n 1, 1) := by decide +kernel
theorem dJ9_floorMod_7cf53_16 : decode cJ9_floorMod_7cf53 16 = .ok (.iadd, 1) := by decide +kernel
theorem dJ9_floorMod_7cf53_17 : decode cJ9_floorMod_7cf53 17 = .ok (.ireturn, 1) := by decide +kernel
theorem dJ9_floorMod_7cf53_18 : decode cJ9_floorMod_7cf53 18 = .ok (.iload_n 2, 1) := by decide +kernel
theorem dJ9_floorMod_7cf53_19 : decode cJ9_floorMod_7cf53 19 = .ok (.ireturn, 1) := by decide +kernel
theorem dJ9_min_7cf53_0 : decode cJ9_min_7cf53 0 = .ok (.iload_n 0, 1) := by decide +kernel
theorem dJ9_min_7cf53_1 : decode cJ9_min_7cf53 1 = .ok (.iload_n 1, 1) := by decide +kernel
theorem dJ9_min_7cf53_2 : decode cJ9_min_7cf53 2 = .ok (.if_icmp .gt 7, 3) := by decide +kernel
theorem dJ9_min_7cf53_5 : decode cJ9_min_7cf53 5 = .ok (.iload_n 0, 1) := by decide +kernel
theorem dJ9_min_7cf53_6 : decode cJ9_min_7cf53 6 = .ok (.goto 4, 3) := by decide +kernel
theorem dJ9_min_7cf53_9 : decode cJ9_min_7cf53 9 = .ok (.iload_n 1, 1) := by decide +kernel
theorem dJ9_min_7cf53_10 : decode cJ9_min_7cf53 10 = .ok (.ireturn, 1) := by decide +kernel
set_option maxRecDepth 20000 in
theorem ggL_law_X2_init : GoodIn wsL_law wsX2_init := goodIn_r _ [9, 10, 11, 12, 13, 14, 15, 16, 17, 18, 19, 20, 21, 22, 23, 24, 25, 26, 27, 28, 29, 30, 31, 32, 33, 34, 35, 36, 37, 38, 39, 40, 41, 42, 43, 44, 45, 46, 47, 48, 49, 50, 433, 434, 435, 436, 413, 414, 415, 437, 438, 439, 440, 441, 442, 443, 444] (by decide +kernel) (by decide +kernel)
set_option maxRecDepth 20000 in
theorem gL_law_X2_init : GoodIn wsL_law (wsX2_init) := ggL_law_X2_init
set_option maxRecDepth 20000 in
theorem ggL_law_X3_init : GoodIn wsL_law wsX3_init := goodIn_r _ [53, 54, 11, 12, 55, 26, 56, 57, 58, 59, 60, 61, 62, 63, 64, 65, 66, 67, 68, 69, 5, 70, 71, 72, 416, 417, 418, 419, 420, 421, 422, 423, 424, 425, 426, 427, 428, 429, 430, 431, 432] (by decide +kernel) (by decide +kernel)
set_option maxRecDepth 20000 in
theorem gL_law_X3_init : GoodIn wsL_law (wsX3_init) := ggL_law_X3_init
set_option maxRecDepth 20000 in
theorem ggL_law_X2_goes : GoodIn wsL_law wsX2_goes := goodIn_r _ [76, 77, 78, 79, 2, 80, 81, 82, 83, 84, 85, 86, 87, 88, 89] (by decide +kernel) (by decide +kernel)
set_option maxRecDepth 20000 in
theorem gL_law_X2_goes : GoodIn wsL_law (wsV RL 15 RX2 yX2_goes wsX2_goes) := goodIn_app (goodIn_of _ (by decide +kernel)) ggL_law_X2_goes
set_option maxRecDepth 20000 in
theorem ggL_law_X3_goes : GoodIn wsL_law wsX3_goes := goodIn_r _ [93, 94, 95, 96, 97, 5, 98, 99, 100, 101, 102, 103, 104, 105, 106, 416, 417, 418, 419, 420, 421, 422, 423, 424, 425, 426, 427, 428, 429, 430, 431, 432] (by decide +kernel) (by decide +kernel)
set_option maxRecDepth 20000 in
theorem gL_law_X3_goes : GoodIn wsL_law (wsV RL 19 RX3 yX3_goes wsX3_goes) := goodIn_app (goodIn_of _ (by decide +kernel)) ggL_law_X3_goes
set_option maxRecDepth 20000 in
theorem ggL_law_X2_turn : GoodIn wsL_law wsX2_turn := goodIn_r _ [110, 77, 78, 79, 2, 80, 81, 82, 83, 84, 85, 111, 112, 113, 89] (by decide +kernel) (by decide +kernel)
set_option maxRecDepth 20000 in
theorem gL_law_X2_turn : GoodIn wsL_law (wsV RL 20 RX2 yX2_turn wsX2_turn) := goodIn_app (goodIn_of _ (by decide +kernel)) ggL_law_X2_turn
set_option maxRecDepth 20000 in
theorem ggL_law_X3_turn : GoodIn wsL_law wsX3_turn := goodIn_r _ [117, 94, 95, 96, 97, 5, 98, 99, 100, 101, 102, 103, 416, 417, 418, 419, 420, 421, 422, 423, 424, 425, 426, 427, 428, 429, 430, 431, 432] (by decide +kernel) (by decide +kernel)
set_option maxRecDepth 20000 in
theorem gL_law_X3_turn : GoodIn wsL_law (wsV RL 23 RX3 yX3_turn wsX3_turn) := goodIn_app (goodIn_of _ (by decide +kernel)) ggL_law_X3_turn
set_option maxRecDepth 20000 in
theorem ggL_law_X2_last : GoodIn wsL_law wsX2_last := goodIn_r _ [121, 77, 78, 79, 2, 80, 81, 82, 83, 84, 85, 86, 87, 88, 89] (by decide +kernel) (by decide +kernel)
set_option maxRecDepth 20000 in
theorem gL_law_X2_last : GoodIn wsL_law (wsV RL 24 RX2 yX2_last wsX2_last) := goodIn_app (goodIn_of _ (by decide +kernel)) ggL_law_X2_last
set_option maxRecDepth 20000 in
theorem ggL_law_X3_last : GoodIn wsL_law wsX3_last := goodIn_r _ [125, 94, 95, 96, 97, 5, 98, 99, 100, 101, 102, 103, 104, 105, 106, 416, 417, 418, 419, 420, 421, 422, 423, 424, 425, 426, 427, 428, 429, 430, 431, 432] (by decide +kernel) (by decide +kernel)
set_option maxRecDepth 20000 in
theorem gL_law_X3_last : GoodIn wsL_law (wsV RL 28 RX3 yX3_last wsX3_last) := goodIn_app (goodIn_of _ (by decide +kernel)) ggL_law_X3_last
set_option maxRecDepth 20000 in
theorem ggL_law_X2_first : GoodIn wsL_law wsX2_first := goodIn_r _ [129, 130, 131, 132, 2, 133, 134, 135, 83, 84, 85, 136, 137, 138, 139, 140, 141] (by decide +kernel) (by decide +kernel)
set_option maxRecDepth 20000 in
theorem gL_law_X2_first : GoodIn wsL_law (wsV RL 29 RX2 yX2_first wsX2_first) := goodIn_app (goodIn_of _ (by decide +kernel)) ggL_law_X2_first
set_option maxRecDepth 20000 in
theorem ggL_law_X3_first : GoodIn wsL_law wsX3_first := goodIn_r _ [145, 94, 146, 147, 148, 5, 149, 150, 151, 101, 102, 103, 152, 153, 154, 155, 64, 416, 417, 418, 419, 420, 421, 422, 423, 424, 425, 426, 427, 428, 429, 430, 431, 432] (by decide +kernel) (by decide +kernel)
set_option maxRecDepth 20000 in
theorem gL_law_X3_first : GoodIn wsL_law (wsV RL 33 RX3 yX3_first wsX3_first) := goodIn_app (goodIn_of _ (by decide +kernel)) ggL_law_X3_first
set_option maxRecDepth 20000 in
theorem ggL_law_X2_least : GoodIn wsL_law wsX2_least := goodIn_r _ [159, 131, 132, 2, 133, 134, 135, 83, 84, 85, 136, 137, 138, 139, 140, 141] (by decide +kernel) (by decide +kernel)
set_option maxRecDepth 20000 in
theorem gL_law_X2_least : GoodIn wsL_law (wsV RL 34 RX2 yX2_least wsX2_least) := goodIn_app (goodIn_of _ (by decide +kernel)) ggL_law_X2_least
set_option maxRecDepth 20000 in
theorem ggL_law_X3_least : GoodIn wsL_law wsX3_least := goodIn_r _ [163, 94, 147, 148, 5, 149, 150, 151, 101, 102, 103, 152, 153, 154, 155, 64, 416, 417, 418, 419, 420, 421, 422, 423, 424, 425, 426, 427, 428, 429, 430, 431, 432] (by decide +kernel) (by decide +kernel)
set_option maxRecDepth 20000 in
theorem gL_law_X3_least : GoodIn wsL_law (wsV RL 38 RX3 yX3_least wsX3_least) := goodIn_app (goodIn_of _ (by decide +kernel)) ggL_law_X3_least
set_option maxRecDepth 20000 in
theorem ggL_law_X2_ring : GoodIn wsL_law wsX2_ring := goodIn_r _ [167, 168, 20, 169, 83, 84, 2, 85, 170, 40, 41, 19, 42, 43, 44, 45, 46, 47, 48, 49, 50, 35, 36, 413, 414, 415, 437, 438, 439, 440, 441, 442, 443, 444] (by decide +kernel) (by decide +kernel)
set_option maxRecDepth 20000 in
theorem gL_law_X2_ring : GoodIn wsL_law (wsV RL 39 RX2 yX2_ring wsX2_ring) := goodIn_app (goodIn_of _ (by decide +kernel)) ggL_law_X2_ring
set_option maxRecDepth 20000 in
theorem ggL_law_X3_ring : GoodIn wsL_law wsX3_ring := goodIn_r _ [174, 94, 175, 55, 101, 102, 5, 103, 67, 68, 69, 70, 71, 72, 56, 57, 58, 416, 417, 418, 419, 420, 421, 422, 423, 424, 425, 426, 427, 428, 429, 430, 431, 432] (by decide +kernel) (by decide +kernel)
set_option maxRecDepth 20000 in
theorem gL_law_X3_ring : GoodIn wsL_law (wsV RL 43 RX3 yX3_ring wsX3_ring) := goodIn_app (goodIn_of _ (by decide +kernel)) ggL_law_X3_ring
set_option maxRecDepth 20000 in
theorem ggL_law_X2_lives : GoodIn wsL_law wsX2_lives := goodIn_r _ [179, 20, 180, 181, 182, 183, 19, 184, 47, 83, 84, 2, 85, 185, 186, 187, 188, 50, 189, 190, 191, 192, 35, 413, 414, 415, 437, 438, 439, 440, 441, 442, 443, 444] (by decide +kernel) (by decide +kernel)
set_option maxRecDepth 20000 in
theorem gL_law_X2_lives : GoodIn wsL_law (wsV RL 44 RX2 yX2_lives wsX2_lives) := goodIn_app (goodIn_of _ (by decide +kernel)) ggL_law_X2_lives
set_option maxRecDepth 20000 in
theorem ggL_law_X3_lives : GoodIn wsL_law wsX3_lives := goodIn_r _ [196, 94, 197, 71, 56, 57, 198, 199, 200, 5, 201, 55, 101, 102, 103, 416, 417, 418, 419, 420, 421, 422, 423, 424, 425, 426, 427, 428, 429, 430, 431, 432] (by decide +kernel) (by decide +kernel)
set_option maxRecDepth 20000 in
theorem gL_law_X3_lives : GoodIn wsL_law (wsV RL 47 RX3 yX3_lives wsX3_lives) := goodIn_app (goodIn_of _ (by decide +kernel)) ggL_law_X3_lives
set_option maxRecDepth 20000 in
theorem ggL_law_X2_set : GoodIn wsL_law wsX2_set := goodIn_r _ [205, 135, 134, 20, 16, 83, 84, 2, 85, 185, 186, 187, 19, 188, 50, 206, 207, 208, 15, 209, 29, 210, 211, 212, 213, 30, 413, 414, 415, 437, 438, 439, 440, 441, 442, 443, 444, 433, 434, 435, 436] (by decide +kernel) (by decide +kernel)
set_option maxRecDepth 20000 in
theorem gL_law_X2_set : GoodIn wsL_law (wsV RL 48 RX2 yX2_set wsX2_set) := goodIn_app (goodIn_of _ (by decide +kernel)) ggL_law_X2_set
set_option maxRecDepth 20000 in
theorem ggL_law_X3_set : GoodIn wsL_law wsX3_set := goodIn_r _ [217, 94, 151, 150, 71, 59, 218, 101, 102, 5, 103, 416, 417, 418, 419, 420, 421, 422, 423, 424, 425, 426, 427, 428, 429, 430, 431, 432] (by decide +kernel) (by decide +kernel)
set_option maxRecDepth 20000 in
theorem gL_law_X3_set : GoodIn wsL_law (wsV RL 51 RX3 yX3_set wsX3_set) := goodIn_app (goodIn_of _ (by decide +kernel)) ggL_law_X3_set
set_option maxRecDepth 20000 in
theorem ggL_law_X2_words : GoodIn wsL_law wsX2_words := goodIn_r _ [222, 223, 20, 16, 224, 83, 84, 2, 85, 225, 226, 227, 228, 185, 186, 187, 19, 188, 50, 229, 230, 231, 15, 232, 27, 28, 233, 234, 235, 236, 413, 414, 415, 433, 434, 435, 436, 437, 438, 439, 440, 441, 442, 443, 444] (by decide +kernel) (by decide +kernel)
set_option maxRecDepth 20000 in
theorem gL_law_X2_words : GoodIn wsL_law (wsV RL 52 RX2 yX2_words wsX2_words) := goodIn_app (goodIn_of _ (by decide +kernel)) ggL_law_X2_words
set_option maxRecDepth 20000 in
theorem ggL_law_X3_words : GoodIn wsL_law wsX3_words := goodIn_r _ [240, 94, 241, 71, 61, 60, 101, 102, 5, 103, 242, 243, 244, 245, 416, 417, 418, 419, 420, 421, 422, 423, 424, 425, 426, 427, 428, 429, 430, 431, 432] (by decide +kernel) (by decide +kernel)
set_option maxRecDepth 20000 in
theorem gL_law_X3_words : GoodIn wsL_law (wsV RL 56 RX3 yX3_words wsX3_words) := goodIn_app (goodIn_of _ (by decide +kernel)) ggL_law_X3_words
set_option maxRecDepth 20000 in
theorem ggL_law_X2_count : GoodIn wsL_law wsX2_count := goodIn_r _ [249, 250, 21, 16, 83, 84, 2, 85, 251, 252, 253, 15, 254, 30, 255, 256, 257, 258, 259, 29, 260, 261, 262, 263, 264, 265, 266, 267, 28, 27, 268, 269, 270, 271, 413, 414, 415, 433, 434, 435, 436] (by decide +kernel) (by decide +kernel)
set_option maxRecDepth 20000 in
theorem gL_law_X2_count : GoodIn wsL_law (wsV RL 57 RX2 yX2_count wsX2_count) := goodIn_app (goodIn_of _ (by decide +kernel)) ggL_law_X2_count
set_option maxRecDepth 20000 in
theorem ggL_law_X3_count : GoodIn wsL_law wsX3_count := goodIn_r _ [275, 94, 276, 277, 218, 278, 279, 101, 102, 5, 103, 280, 281, 282, 283, 59, 61, 60, 416, 417, 418, 419, 420, 421, 422, 423, 424, 425, 426, 427, 428, 429, 430, 431, 432] (by decide +kernel) (by decide +kernel)
set_option maxRecDepth 20000 in
theorem gL_law_X3_count : GoodIn wsL_law (wsV RL 60 RX3 yX3_count wsX3_count) := goodIn_app (goodIn_of _ (by decide +kernel)) ggL_law_X3_count
set_option maxRecDepth 20000 in
theorem ggL_law_X2_turns : GoodIn wsL_law wsX2_turns := goodIn_r _ [287, 288, 20, 16, 289, 83, 84, 2, 85, 256, 257, 258, 15, 259, 30, 29, 260, 261, 262, 263, 264, 265, 266, 267, 28, 27, 268, 269, 270, 271, 290, 291, 292, 19, 293, 48, 50, 37, 38, 49, 294, 295, 296, 297, 298, 299, 300, 301, 302, 303, 304, 305, 47, 35, 306, 307, 308, 309, 36, 413, 414, 415, 437, 438, 439, 440, 441, 442, 443, 444, 433, 434, 435, 436] (by decide +kernel) (by decide +kernel)
set_option maxRecDepth 20000 in
theorem gL_law_X2_turns : GoodIn wsL_law (wsV RL 61 RX2 yX2_turns wsX2_turns) := goodIn_app (goodIn_of _ (by decide +kernel)) ggL_law_X2_turns
set_option maxRecDepth 20000 in
theorem ggL_law_X3_turns : GoodIn wsL_law wsX3_turns := goodIn_r _ [313, 94, 314, 101, 102, 5, 103, 315, 316, 317, 318, 55, 57, 319, 320, 321, 322, 71, 72, 62, 63, 58, 280, 281, 282, 283, 59, 218, 61, 60, 323, 324, 325, 326, 416, 417, 418, 419, 420, 421, 422, 423, 424, 425, 426, 427, 428, 429, 430, 431, 432] (by decide +kernel) (by decide +kernel)
set_option maxRecDepth 20000 in
theorem gL_law_X3_turns : GoodIn wsL_law (wsV RL 64 RX3 yX3_turns wsX3_turns) := goodIn_app (goodIn_of _ (by decide +kernel)) ggL_law_X3_turns
set_option maxRecDepth 20000 in
theorem ggL_law_X2_back : GoodIn wsL_law wsX2_back := goodIn_r _ [330, 288, 20, 83, 84, 2, 85, 331, 332, 333, 19, 334, 50, 37, 35, 48, 36, 38, 49, 413, 414, 415, 437, 438, 439, 440, 441, 442, 443, 444] (by decide +kernel) (by decide +kernel)
set_option maxRecDepth 20000 in
theorem gL_law_X2_back : GoodIn wsL_law (wsV RL 65 RX2 yX2_back wsX2_back) := goodIn_app (goodIn_of _ (by decide +kernel)) ggL_law_X2_back
set_option maxRecDepth 20000 in
theorem ggL_law_X3_back : GoodIn wsL_law wsX3_back := goodIn_r _ [338, 94, 314, 71, 62, 57, 58, 63, 72, 101, 102, 5, 103, 416, 417, 418, 419, 420, 421, 422, 423, 424, 425, 426, 427, 428, 429, 430, 431, 432] (by decide +kernel) (by decide +kernel)
set_option maxRecDepth 20000 in
theorem gL_law_X3_back : GoodIn wsL_law (wsV RL 68 RX3 yX3_back wsX3_back) := goodIn_app (goodIn_of _ (by decide +kernel)) ggL_law_X3_back
set_option maxRecDepth 20000 in
theorem ggL_law_X2_about : GoodIn wsL_law wsX2_about := goodIn_r _ [342, 20, 343, 344, 181, 182, 183, 19, 184, 47, 83, 84, 2, 85, 413, 414, 415, 437, 438, 439, 440, 441, 442, 443, 444] (by decide +kernel) (by decide +kernel)
set_option maxRecDepth 20000 in
theorem gL_law_X2_about : GoodIn wsL_law (wsV RL 69 RX2 yX2_about wsX2_about) := goodIn_app (goodIn_of _ (by decide +kernel)) ggL_law_X2_about
set_option maxRecDepth 20000 in
theorem ggL_law_X3_about : GoodIn wsL_law wsX3_about := goodIn_r _ [348, 94, 57, 58, 198, 199, 200, 5, 201, 55, 101, 102, 103, 416, 417, 418, 419, 420, 421, 422, 423, 424, 425, 426, 427, 428, 429, 430, 431, 432] (by decide +kernel) (by decide +kernel)
set_option maxRecDepth 20000 in
theorem gL_law_X3_about : GoodIn wsL_law (wsV RL 72 RX3 yX3_about wsX3_about) := goodIn_app (goodIn_of _ (by decide +kernel)) ggL_law_X3_about
set_option maxRecDepth 20000 in
theorem ggL_law_X2_told : GoodIn wsL_law wsX2_told := goodIn_r _ [352, 20, 353, 354, 289, 355, 356, 357, 19, 358, 50, 37, 359, 360, 361, 362, 47, 36, 48, 413, 414, 415, 437, 438, 439, 440, 441, 442, 443, 444] (by decide +kernel) (by decide +kernel)
set_option maxRecDepth 20000 in
theorem gL_law_X2_told : GoodIn wsL_law (wsV RL 73 RX2 yX2_told wsX2_told) := goodIn_app (goodIn_of _ (by decide +kernel)) ggL_law_X2_told
set_option maxRecDepth 20000 in
theorem ggL_law_X3_told : GoodIn wsL_law wsX3_told := goodIn_r _ [366, 94, 55, 58, 72, 71, 62, 315, 316, 317, 5, 318, 57, 416, 417, 418, 419, 420, 421, 422, 423, 424, 425, 426, 427, 428, 429, 430, 431, 432] (by decide +kernel) (by decide +kernel)
set_option maxRecDepth 20000 in
theorem gL_law_X3_told : GoodIn wsL_law (wsV RL 76 RX3 yX3_told wsX3_told) := goodIn_app (goodIn_of _ (by decide +kernel)) ggL_law_X3_told
set_option maxRecDepth 20000 in
theorem ggL_law_X2_may : GoodIn wsL_law wsX2_may := goodIn_r _ [370, 371, 83, 84, 2, 85, 372, 373, 374, 375, 376, 377, 378, 379, 380, 381, 382, 383, 384] (by decide +kernel) (by decide +kernel)
set_option maxRecDepth 20000 in
theorem gL_law_X2_may : GoodIn wsL_law (wsV RL 77 RX2 yX2_may wsX2_may) := goodIn_app (goodIn_of _ (by decide +kernel)) ggL_law_X2_may
set_option maxRecDepth 20000 in
theorem ggL_law_X3_may : GoodIn wsL_law wsX3_may := goodIn_r _ [388, 94, 389, 101, 102, 5, 103, 390, 391, 392, 393, 416, 417, 418, 419, 420, 421, 422, 423, 424, 425, 426, 427, 428, 429, 430, 431, 432] (by decide +kernel) (by decide +kernel)
set_option maxRecDepth 20000 in
theorem gL_law_X3_may : GoodIn wsL_law (wsV RL 80 RX3 yX3_may wsX3_may) := goodIn_app (goodIn_of _ (by decide +kernel)) ggL_law_X3_may
set_option maxRecDepth 20000 in
theorem ggL_law_X2_can : GoodIn wsL_law wsX2_can := goodIn_r _ [397, 371, 83, 84, 2, 85, 372, 373, 374, 375, 376, 377, 378, 379, 380, 381, 382, 383, 384, 398, 399, 400] (by decide +kernel) (by decide +kernel)
set_option maxRecDepth 20000 in
theorem gL_law_X2_can : GoodIn wsL_law (wsV RL 81 RX2 yX2_can wsX2_can) := goodIn_app (goodIn_of _ (by decide +kernel)) ggL_law_X2_can
set_option maxRecDepth 20000 in
theorem ggL_law_X3_can : GoodIn wsL_law wsX3_can := goodIn_r _ [404, 94, 389, 65, 66, 101, 102, 5, 103, 390, 391, 392, 393, 416, 417, 418, 419, 420, 421, 422, 423, 424, 425, 426, 427, 428, 429, 430, 431, 432] (by decide +kernel) (by decide +kernel)
set_option maxRecDepth 20000 in
theorem gL_law_X3_can : GoodIn wsL_law (wsV RL 84 RX3 yX3_can wsX3_can) := goodIn_app (goodIn_of _ (by decide +kernel)) ggL_law_X3_can
set_option maxRecDepth 20000 in
theorem ggL_law_X2_trace : GoodIn wsL_law wsX2_trace := goodIn_r _ [408, 21, 413, 414, 415] (by decide +kernel) (by decide +kernel)
set_option maxRecDepth 20000 in
theorem gL_law_X2_trace : GoodIn wsL_law (wsV RL 85 RX2 yX2_trace wsX2_trace) := goodIn_app (goodIn_of _ (by decide +kernel)) ggL_law_X2_trace
set_option maxRecDepth 20000 in
theorem ggL_law_X3_trace : GoodIn wsL_law wsX3_trace := goodIn_r _ [412, 94, 277, 416, 417, 418, 419, 420, 421, 422, 423, 424, 425, 426, 427, 428, 429, 430, 431, 432] (by decide +kernel) (by decide +kernel)
set_option maxRecDepth 20000 in
theorem gL_law_X3_trace : GoodIn wsL_law (wsV RL 89 RX3 yX3_trace wsX3_trace) := goodIn_app (goodIn_of _ (by decide +kernel)) ggL_law_X3_trace
theorem dL_law_0 : decode cL_law 0 = .ok (.new 7, 3) := by decide +kernel
theorem dL_law_3 : decode cL_law 3 = .ok (.dup, 1) := by decide +kernel
theorem dL_law_4 : decode cL_law 4 = .ok (.invokespecial 9, 3) := by decide +kernel
theorem dL_law_7 : decode cL_law 7 = .ok (.astore_n 1, 1) := by decide +kernel
theorem dL_law_8 : decode cL_law 8 = .ok (.new 10, 3) := by decide +kernel
theorem dL_law_11 : decode cL_law 11 = .ok (.dup, 1) := by decide +kernel
theorem dL_law_12 : decode cL_law 12 = .ok (.invokespecial 12, 3) := by decide +kernel
theorem dL_law_15 : decode cL_law 15 = .ok (.astore_n 2, 1) := by decide +kernel
theorem dL_law_16 : decode cL_law 16 = .ok (.iconst 0, 1) := by decide +kernel
theorem dL_law_17 : decode cL_law 17 = .ok (.istore_n 3, 1) := by decide +kernel
theorem dL_law_18 : decode cL_law 18 = .ok (.iload_n 3, 1) := by decide +kernel
theorem dL_law_19 : decode cL_law 19 = .ok (.aload_n 0, 1) := by decide +kernel
theorem dL_law_20 : decode cL_law 20 = .ok (.arraylength, 1) := by decide +kernel
theorem dL_law_21 : decode cL_law 21 = .ok (.bipush 7, 2) := by decide +kernel
theorem dL_law_23 : decode cL_law 23 = .ok (.isub, 1) := by decide +kernel
theorem dL_law_24 : decode cL_law 24 = .ok (.if_icmp .gt 841, 3) := by decide +kernel
theorem dL_law_27 : decode cL_law 27 = .ok (.aload_n 0, 1) := by decide +kernel
theorem dL_law_28 : decode cL_law 28 = .ok (.iload_n 3, 1) := by decide +kernel
theorem dL_law_29 : decode cL_law 29 = .ok (.iaload, 1) := by decide +kernel
theorem dL_law_30 : decode cL_law 30 = .ok (.bipush 31, 2) := by decide +kernel
theorem dL_law_32 : decode cL_law 32 = .ok (.iand, 1) := by decide +kernel
theorem dL_law_33 : decode cL_law 33 = .ok (.tableswitch 826 0 16 #[83, 187, 291, 355, 398, 431, 454, 487, 520, 611, 634, 657, 680, 713, 736, 769, 812], 83) := by decide +kernel
theorem dL_law_116 : decode cL_law 116 = .ok (.aload_n 1, 1) := by decide +kernel
theorem dL_law_117 : decode cL_law 117 = .ok (.aload_n 0, 1) := by decide +kernel
theorem dL_law_118 : decode cL_law 118 = .ok (.iload_n 3, 1) := by decide +kernel
theorem dL_law_119 : decode cL_law 119 = .ok (.iconst 1, 1) := by decide +kernel
theorem dL_law_120 : decode cL_law 120 = .ok (.iadd, 1) := by decide +kernel
theorem dL_law_121 : decode cL_law 121 = .ok (.iaload, 1) := by decide +kernel
theorem dL_law_122 : decode cL_law 122 = .ok (.i2l, 1) := by decide +kernel
theorem dL_law_123 : decode cL_law 123 = .ok (.bipush 32, 2) := by decide +kernel
theorem dL_law_125 : decode cL_law 125 = .ok (.lshl, 1) := by decide +kernel
theorem dL_law_126 : decode cL_law 126 = .ok (.aload_n 0, 1) := by decide +kernel
theorem dL_law_127 : decode cL_law 127 = .ok (.iload_n 3, 1) := by decide +kernel
theorem dL_law_128 : decode cL_law 128 = .ok (.iconst 2, 1) := by decide +kernel
theorem dL_law_129 : decode cL_law 129 = .ok (.iadd, 1) := by decide +kernel
theorem dL_law_130 : decode cL_law 130 = .ok (.iaload, 1) := by decide +kernel
theorem dL_law_131 : decode cL_law 131 = .ok (.i2l, 1) := by decide +kernel
theorem dL_law_132 : decode cL_law 132 = .ok (.ldc2_w 13, 3) := by decide +kernel
theorem dL_law_135 : decode cL_law 135 = .ok (.land, 1) := by decide +kernel
theorem dL_law_136 : decode cL_law 136 = .ok (.lor, 1) := by decide +kernel
theorem dL_law_137 : decode cL_law 137 = .ok (.aload_n 0, 1) := by decide +kernel
theorem dL_law_138 : decode cL_law 138 = .ok (.iload_n 3, 1) := by decide +kernel
theorem dL_law_139 : decode cL_law 139 = .ok (.iconst 3, 1) := by decide +kernel
theorem dL_law_140 : decode cL_law 140 = .ok (.iadd, 1) := by decide +kernel
theorem dL_law_141 : decode cL_law 141 = .ok (.iaload, 1) := by decide +kernel
theorem dL_law_142 : decode cL_law 142 = .ok (.aload_n 0, 1) := by decide +kernel
theorem dL_law_143 : decode cL_law 143 = .ok (.iload_n 3, 1) := by decide +kernel
theorem dL_law_144 : decode cL_law 144 = .ok (.iconst 4, 1) := by decide +kernel
theorem dL_law_145 : decode cL_law 145 = .ok (.iadd, 1) := by decide +kernel
theorem dL_law_146 : decode cL_law 146 = .ok (.iaload, 1) := by decide +kernel
theorem dL_law_147 : decode cL_law 147 = .ok (.i2l, 1) := by decide +kernel
theorem dL_law_148 : decode cL_law 148 = .ok (.bipush 32, 2) := by decide +kernel
theorem dL_law_150 : decode cL_law 150 = .ok (.lshl, 1) := by decide +kernel
theorem dL_law_151 : decode cL_law 151 = .ok (.aload_n 0, 1) := by decide +kernel
theorem dL_law_152 : decode cL_law 152 = .ok (.iload_n 3, 1) := by decide +kernel
theorem dL_law_153 : decode cL_law 153 = .ok (.iconst 5, 1) := by decide +kernel
theorem dL_law_154 : decode cL_law 154 = .ok (.iadd, 1) := by decide +kernel
theorem dL_law_155 : decode cL_law 155 = .ok (.iaload, 1) := by decide +kernel
theorem dL_law_156 : decode cL_law 156 = .ok (.i2l, 1) := by decide +kernel
theorem dL_law_157 : decode cL_law 157 = .ok (.ldc2_w 13, 3) := by decide +kernel
theorem dL_law_160 : decode cL_law 160 = .ok (.land, 1) := by decide +kernel
theorem dL_law_161 : decode cL_law 161 = .ok (.lor, 1) := by decide +kernel
theorem dL_law_162 : decode cL_law 162 = .ok (.invokevirtual 15, 3) := by decide +kernel
theorem dL_law_165 : decode cL_law 165 = .ok (.aload_n 2, 1) := by decide +kernel
theorem dL_law_166 : decode cL_law 166 = .ok (.aload_n 0, 1) := by decide +kernel
theorem dL_law_167 : decode cL_law 167 = .ok (.iload_n 3, 1) := by decide +kernel
theorem dL_law_168 : decode cL_law 168 = .ok (.iconst 1, 1) := by decide +kernel
theorem dL_law_169 : decode cL_law 169 = .ok (.iadd, 1) := by decide +kernel
theorem dL_law_170 : decode cL_law 170 = .ok (.iaload, 1) := by decide +kernel
theorem dL_law_171 : decode cL_law 171 = .ok (.i2l, 1) := by decide +kernel
theorem dL_law_172 : decode cL_law 172 = .ok (.bipush 32, 2) := by decide +kernel
theorem dL_law_174 : decode cL_law 174 = .ok (.lshl, 1) := by decide +kernel
theorem dL_law_175 : decode cL_law 175 = .ok (.aload_n 0, 1) := by decide +kernel
theorem dL_law_176 : decode cL_law 176 = .ok (.iload_n 3, 1) := by decide +kernel
theorem dL_law_177 : decode cL_law 177 = .ok (.iconst 2, 1) := by decide +kernel
theorem dL_law_178 : decode cL_law 178 = .ok (.iadd, 1) := by decide +kernel
theorem dL_law_179 : decode cL_law 179 = .ok (.iaload, 1) := by decide +kernel
theorem dL_law_180 : decode cL_law 180 = .ok (.i2l, 1) := by decide +kernel
theorem dL_law_181 : decode cL_law 181 = .ok (.ldc2_w 13, 3) := by decide +kernel
theorem dL_law_184 : decode cL_law 184 = .ok (.land, 1) := by decide +kernel
theorem dL_law_185 : decode cL_law 185 = .ok (.lor, 1) := by decide +kernel
theorem dL_law_186 : decode cL_law 186 = .ok (.aload_n 0, 1) := by decide +kernel
theorem dL_law_187 : decode cL_law 187 = .ok (.iload_n 3, 1) := by decide +kernel
theorem dL_law_188 : decode cL_law 188 = .ok (.iconst 3, 1) := by decide +kernel
theorem dL_law_189 : decode cL_law 189 = .ok (.iadd, 1) := by decide +kernel
theorem dL_law_190 : decode cL_law 190 = .ok (.iaload, 1) := by decide +kernel
theorem dL_law_191 : decode cL_law 191 = .ok (.aload_n 0, 1) := by decide +kernel
theorem dL_law_192 : decode cL_law 192 = .ok (.iload_n 3, 1) := by decide +kernel
theorem dL_law_193 : decode cL_law 193 = .ok (.iconst 4, 1) := by decide +kernel
theorem dL_law_194 : decode cL_law 194 = .ok (.iadd, 1) := by decide +kernel
theorem dL_law_195 : decode cL_law 195 = .ok (.iaload, 1) := by decide +kernel
theorem dL_law_196 : decode cL_law 196 = .ok (.i2l, 1) := by decide +kernel
theorem dL_law_197 : decode cL_law 197 = .ok (.bipush 32, 2) := by decide +kernel
theorem dL_law_199 : decode cL_law 199 = .ok (.lshl, 1) := by decide +kernel
theorem dL_law_200 : decode cL_law 200 = .ok (.aload_n 0, 1) := by decide +kernel
theorem dL_law_201 : decode cL_law 201 = .ok (.iload_n 3, 1) := by decide +kernel
theorem dL_law_202 : decode cL_law 202 = .ok (.iconst 5, 1) := by decide +kernel
theorem dL_law_203 : decode cL_law 203 = .ok (.iadd, 1) := by decide +kernel
theorem dL_law_204 : decode cL_law 204 = .ok (.iaload, 1) := by decide +kernel
theorem dL_law_205 : decode cL_law 205 = .ok (.i2l, 1) := by decide +kernel
theorem dL_law_206 : decode cL_law 206 = .ok (.ldc2_w 13, 3) := by decide +kernel
theorem dL_law_209 : decode cL_law 209 = .ok (.land, 1) := by decide +kernel
theorem dL_law_210 : decode cL_law 210 = .ok (.lor, 1) := by decide +kernel
theorem dL_law_211 : decode cL_law 211 = .ok (.invokevirtual 19, 3) := by decide +kernel
theorem dL_law_214 : decode cL_law 214 = .ok (.lcmp, 1) := by decide +kernel
theorem dL_law_215 : decode cL_law 215 = .ok (.ifCond .eq 644, 3) := by decide +kernel
theorem dL_law_218 : decode cL_law 218 = .ok (.iconst 0, 1) := by decide +kernel
theorem dL_law_219 : decode cL_law 219 = .ok (.ireturn, 1) := by decide +kernel
theorem dL_law_220 : decode cL_law 220 = .ok (.aload_n 1, 1) := by decide +kernel
theorem dL_law_221 : decode cL_law 221 = .ok (.aload_n 0, 1) := by decide +kernel
theorem dL_law_222 : decode cL_law 222 = .ok (.iload_n 3, 1) := by decide +kernel
theorem dL_law_223 : decode cL_law 223 = .ok (.iconst 1, 1) := by decide +kernel
theorem dL_law_224 : decode cL_law 224 = .ok (.iadd, 1) := by decide +kernel
theorem dL_law_225 : decode cL_law 225 = .ok (.iaload, 1) := by decide +kernel
theorem dL_law_226 : decode cL_law 226 = .ok (.i2l, 1) := by decide +kernel
theorem dL_law_227 : decode cL_law 227 = .ok (.bipush 32, 2) := by decide +kernel
theorem dL_law_229 : decode cL_law 229 = .ok (.lshl, 1) := by decide +kernel
theorem dL_law_230 : decode cL_law 230 = .ok (.aload_n 0, 1) := by decide +kernel
theorem dL_law_231 : decode cL_law 231 = .ok (.iload_n 3, 1) := by decide +kernel
theorem dL_law_232 : decode cL_law 232 = .ok (.iconst 2, 1) := by decide +kernel
theorem dL_law_233 : decode cL_law 233 = .ok (.iadd, 1) := by decide +kernel
theorem dL_law_234 : decode cL_law 234 = .ok (.iaload, 1) := by decide +kernel
theorem dL_law_235 : decode cL_law 235 = .ok (.i2l, 1) := by decide +kernel
theorem dL_law_236 : decode cL_law 236 = .ok (.ldc2_w 13, 3) := by decide +kernel
theorem dL_law_239 : decode cL_law 239 = .ok (.land, 1) := by decide +kernel
theorem dL_law_240 : decode cL_law 240 = .ok (.lor, 1) := by decide +kernel
theorem dL_law_241 : decode cL_law 241 = .ok (.aload_n 0, 1) := by decide +kernel
theorem dL_law_242 : decode cL_law 242 = .ok (.iload_n 3, 1) := by decide +kernel
theorem dL_law_243 : decode cL_law 243 = .ok (.iconst 3, 1) := by decide +kernel
theorem dL_law_244 : decode cL_law 244 = .ok (.iadd, 1) := by decide +kernel
theorem dL_law_245 : decode cL_law 245 = .ok (.iaload, 1) := by decide +kernel
theorem dL_law_246 : decode cL_law 246 = .ok (.aload_n 0, 1) := by decide +kernel
theorem dL_law_247 : decode cL_law 247 = .ok (.iload_n 3, 1) := by decide +kernel
theorem dL_law_248 : decode cL_law 248 = .ok (.iconst 4, 1) := by decide +kernel
theorem dL_law_249 : decode cL_law 249 = .ok (.iadd, 1) := by decide +kernel
theorem dL_law_250 : decode cL_law 250 = .ok (.iaload, 1) := by decide +kernel
theorem dL_law_251 : decode cL_law 251 = .ok (.i2l, 1) := by decide +kernel
theorem dL_law_252 : decode cL_law 252 = .ok (.bipush 32, 2) := by decide +kernel
theorem dL_law_254 : decode cL_law 254 = .ok (.lshl, 1) := by decide +kernel
theorem dL_law_255 : decode cL_law 255 = .ok (.aload_n 0, 1) := by decide +kernel
theorem dL_law_256 : decode cL_law 256 = .ok (.iload_n 3, 1) := by decide +kernel
theorem dL_law_257 : decode cL_law 257 = .ok (.iconst 5, 1) := by decide +kernel
theorem dL_law_258 : decode cL_law 258 = .ok (.iadd, 1) := by decide +kernel
theorem dL_law_259 : decode cL_law 259 = .ok (.iaload, 1) := by decide +kernel
theorem dL_law_260 : decode cL_law 260 = .ok (.i2l, 1) := by decide +kernel
theorem dL_law_261 : decode cL_law 261 = .ok (.ldc2_w 13, 3) := by decide +kernel
theorem dL_law_264 : decode cL_law 264 = .ok (.land, 1) := by decide +kernel
theorem dL_law_265 : decode cL_law 265 = .ok (.lor, 1) := by decide +kernel
theorem dL_law_266 : decode cL_law 266 = .ok (.invokevirtual 20, 3) := by decide +kernel
theorem dL_law_269 : decode cL_law 269 = .ok (.aload_n 2, 1) := by decide +kernel
theorem dL_law_270 : decode cL_law 270 = .ok (.aload_n 0, 1) := by decide +kernel
theorem dL_law_271 : decode cL_law 271 = .ok (.iload_n 3, 1) := by decide +kernel
theorem dL_law_272 : decode cL_law 272 = .ok (.iconst 1, 1) := by decide +kernel
theorem dL_law_273 : decode cL_law 273 = .ok (.iadd, 1) := by decide +kernel
theorem dL_law_274 : decode cL_law 274 = .ok (.iaload, 1) := by decide +kernel
theorem dL_law_275 : decode cL_law 275 = .ok (.i2l, 1) := by decide +kernel
theorem dL_law_276 : decode cL_law 276 = .ok (.bipush 32, 2) := by decide +kernel
theorem dL_law_278 : decode cL_law 278 = .ok (.lshl, 1) := by decide +kernel
theorem dL_law_279 : decode cL_law 279 = .ok (.aload_n 0, 1) := by decide +kernel
theorem dL_law_280 : decode cL_law 280 = .ok (.iload_n 3, 1) := by decide +kernel
theorem dL_law_281 : decode cL_law 281 = .ok (.iconst 2, 1) := by decide +kernel
theorem dL_law_282 : decode cL_law 282 = .ok (.iadd, 1) := by decide +kernel
theorem dL_law_283 : decode cL_law 283 = .ok (.iaload, 1) := by decide +kernel
theorem dL_law_284 : decode cL_law 284 = .ok (.i2l, 1) := by decide +kernel
theorem dL_law_285 : decode cL_law 285 = .ok (.ldc2_w 13, 3) := by decide +kernel
theorem dL_law_288 : decode cL_law 288 = .ok (.land, 1) := by decide +kernel
theorem dL_law_289 : decode cL_law 289 = .ok (.lor, 1) := by decide +kernel
theorem dL_law_290 : decode cL_law 290 = .ok (.aload_n 0, 1) := by decide +kernel
theorem dL_law_291 : decode cL_law 291 = .ok (.iload_n 3, 1) := by decide +kernel
theorem dL_law_292 : decode cL_law 292 = .ok (.iconst 3, 1) := by decide +kernel
theorem dL_law_293 : decode cL_law 293 = .ok (.iadd, 1) := by decide +kernel
theorem dL_law_294 : decode cL_law 294 = .ok (.iaload, 1) := by decide +kernel
theorem dL_law_295 : decode cL_law 295 = .ok (.aload_n 0, 1) := by decide +kernel
theorem dL_law_296 : decode cL_law 296 = .ok (.iload_n 3, 1) := by decide +kernel
theorem dL_law_297 : decode cL_law 297 = .ok (.iconst 4, 1) := by decide +kernel
theorem dL_law_298 : decode cL_law 298 = .ok (.iadd, 1) := by decide +kernel
theorem dL_law_299 : decode cL_law 299 = .ok (.iaload, 1) := by decide +kernel
theorem dL_law_300 : decode cL_law 300 = .ok (.i2l, 1) := by decide +kernel
theorem dL_law_301 : decode cL_law 301 = .ok (.bipush 32, 2) := by decide +kernel
theorem dL_law_303 : decode cL_law 303 = .ok (.lshl, 1) := by decide +kernel
theorem dL_law_304 : decode cL_law 304 = .ok (.aload_n 0, 1) := by decide +kernel
theorem dL_law_305 : decode cL_law 305 = .ok (.iload_n 3, 1) := by decide +kernel
theorem dL_law_306 : decode cL_law 306 = .ok (.iconst 5, 1) := by decide +kernel
theorem dL_law_307 : decode cL_law 307 = .ok (.iadd, 1) := by decide +kernel
theorem dL_law_308 : decode cL_law 308 = .ok (.iaload, 1) := by decide +kernel
theorem dL_law_309 : decode cL_law 309 = .ok (.i2l, 1) := by decide +kernel
theorem dL_law_310 : decode cL_law 310 = .ok (.ldc2_w 13, 3) := by decide +kernel
theorem dL_law_313 : decode cL_law 313 = .ok (.land, 1) := by decide +kernel
theorem dL_law_314 : decode cL_law 314 = .ok (.lor, 1) := by decide +kernel
theorem dL_law_315 : decode cL_law 315 = .ok (.invokevirtual 23, 3) := by decide +kernel
theorem dL_law_318 : decode cL_law 318 = .ok (.lcmp, 1) := by decide +kernel
theorem dL_law_319 : decode cL_law 319 = .ok (.ifCond .eq 540, 3) := by decide +kernel
theorem dL_law_322 : decode cL_law 322 = .ok (.iconst 0, 1) := by decide +kernel
theorem dL_law_323 : decode cL_law 323 = .ok (.ireturn, 1) := by decide +kernel
theorem dL_law_324 : decode cL_law 324 = .ok (.aload_n 1, 1) := by decide +kernel
theorem dL_law_325 : decode cL_law 325 = .ok (.aload_n 0, 1) := by decide +kernel
theorem dL_law_326 : decode cL_law 326 = .ok (.iload_n 3, 1) := by decide +kernel
theorem dL_law_327 : decode cL_law 327 = .ok (.iconst 1, 1) := by decide +kernel
theorem dL_law_328 : decode cL_law 328 = .ok (.iadd, 1) := by decide +kernel
theorem dL_law_329 : decode cL_law 329 = .ok (.iaload, 1) := by decide +kernel
theorem dL_law_330 : decode cL_law 330 = .ok (.i2l, 1) := by decide +kernel
theorem dL_law_331 : decode cL_law 331 = .ok (.bipush 32, 2) := by decide +kernel
theorem dL_law_333 : decode cL_law 333 = .ok (.lshl, 1) := by decide +kernel
theorem dL_law_334 : decode cL_law 334 = .ok (.aload_n 0, 1) := by decide +kernel
theorem dL_law_335 : decode cL_law 335 = .ok (.iload_n 3, 1) := by decide +kernel
theorem dL_law_336 : decode cL_law 336 = .ok (.iconst 2, 1) := by decide +kernel
theorem dL_law_337 : decode cL_law 337 = .ok (.iadd, 1) := by decide +kernel
theorem dL_law_338 : decode cL_law 338 = .ok (.iaload, 1) := by decide +kernel
theorem dL_law_339 : decode cL_law 339 = .ok (.i2l, 1) := by decide +kernel
theorem dL_law_340 : decode cL_law 340 = .ok (.ldc2_w 13, 3) := by decide +kernel
theorem dL_law_343 : decode cL_law 343 = .ok (.land, 1) := by decide +kernel
theorem dL_law_344 : decode cL_law 344 = .ok (.lor, 1) := by decide +kernel
theorem dL_law_345 : decode cL_law 345 = .ok (.aload_n 0, 1) := by decide +kernel
theorem dL_law_346 : decode cL_law 346 = .ok (.iload_n 3, 1) := by decide +kernel
theorem dL_law_347 : decode cL_law 347 = .ok (.iconst 3, 1) := by decide +kernel
theorem dL_law_348 : decode cL_law 348 = .ok (.iadd, 1) := by decide +kernel
theorem dL_law_349 : decode cL_law 349 = .ok (.iaload, 1) := by decide +kernel
theorem dL_law_350 : decode cL_law 350 = .ok (.invokevirtual 24, 3) := by decide +kernel
theorem dL_law_353 : decode cL_law 353 = .ok (.aload_n 2, 1) := by decide +kernel
theorem dL_law_354 : decode cL_law 354 = .ok (.aload_n 0, 1) := by decide +kernel
theorem dL_law_355 : decode cL_law 355 = .ok (.iload_n 3, 1) := by decide +kernel
theorem dL_law_356 : decode cL_law 356 = .ok (.iconst 1, 1) := by decide +kernel
theorem dL_law_357 : decode cL_law 357 = .ok (.iadd, 1) := by decide +kernel
theorem dL_law_358 : decode cL_law 358 = .ok (.iaload, 1) := by decide +kernel
theorem dL_law_359 : decode cL_law 359 = .ok (.i2l, 1) := by decide +kernel
theorem dL_law_360 : decode cL_law 360 = .ok (.bipush 32, 2) := by decide +kernel
theorem dL_law_362 : decode cL_law 362 = .ok (.lshl, 1) := by decide +kernel
theorem dL_law_363 : decode cL_law 363 = .ok (.aload_n 0, 1) := by decide +kernel
theorem dL_law_364 : decode cL_law 364 = .ok (.iload_n 3, 1) := by decide +kernel
theorem dL_law_365 : decode cL_law 365 = .ok (.iconst 2, 1) := by decide +kernel
theorem dL_law_366 : decode cL_law 366 = .ok (.iadd, 1) := by decide +kernel
theorem dL_law_367 : decode cL_law 367 = .ok (.iaload, 1) := by decide +kernel
theorem dL_law_368 : decode cL_law 368 = .ok (.i2l, 1) := by decide +kernel
theorem dL_law_369 : decode cL_law 369 = .ok (.ldc2_w 13, 3) := by decide +kernel
theorem dL_law_372 : decode cL_law 372 = .ok (.land, 1) := by decide +kernel
theorem dL_law_373 : decode cL_law 373 = .ok (.lor, 1) := by decide +kernel
theorem dL_law_374 : decode cL_law 374 = .ok (.aload_n 0, 1) := by decide +kernel
theorem dL_law_375 : decode cL_law 375 = .ok (.iload_n 3, 1) := by decide +kernel
theorem dL_law_376 : decode cL_law 376 = .ok (.iconst 3, 1) := by decide +kernel
theorem dL_law_377 : decode cL_law 377 = .ok (.iadd, 1) := by decide +kernel
theorem dL_law_378 : decode cL_law 378 = .ok (.iaload, 1) := by decide +kernel
theorem dL_law_379 : decode cL_law 379 = .ok (.invokevirtual 28, 3) := by decide +kernel
theorem dL_law_382 : decode cL_law 382 = .ok (.lcmp, 1) := by decide +kernel
theorem dL_law_383 : decode cL_law 383 = .ok (.ifCond .eq 476, 3) := by decide +kernel
theorem dL_law_386 : decode cL_law 386 = .ok (.iconst 0, 1) := by decide +kernel
theorem dL_law_387 : decode cL_law 387 = .ok (.ireturn, 1) := by decide +kernel
theorem dL_law_388 : decode cL_law 388 = .ok (.aload_n 1, 1) := by decide +kernel
theorem dL_law_389 : decode cL_law 389 = .ok (.aload_n 0, 1) := by decide +kernel
theorem dL_law_390 : decode cL_law 390 = .ok (.iload_n 3, 1) := by decide +kernel
theorem dL_law_391 : decode cL_law 391 = .ok (.iconst 1, 1) := by decide +kernel
theorem dL_law_392 : decode cL_law 392 = .ok (.iadd, 1) := by decide +kernel
theorem dL_law_393 : decode cL_law 393 = .ok (.iaload, 1) := by decide +kernel
theorem dL_law_394 : decode cL_law 394 = .ok (.aload_n 0, 1) := by decide +kernel
theorem dL_law_395 : decode cL_law 395 = .ok (.iload_n 3, 1) := by decide +kernel
theorem dL_law_396 : decode cL_law 396 = .ok (.iconst 2, 1) := by decide +kernel
theorem dL_law_397 : decode cL_law 397 = .ok (.iadd, 1) := by decide +kernel
theorem dL_law_398 : decode cL_law 398 = .ok (.iaload, 1) := by decide +kernel
theorem dL_law_399 : decode cL_law 399 = .ok (.aload_n 0, 1) := by decide +kernel
theorem dL_law_400 : decode cL_law 400 = .ok (.iload_n 3, 1) := by decide +kernel
theorem dL_law_401 : decode cL_law 401 = .ok (.iconst 3, 1) := by decide +kernel
theorem dL_law_402 : decode cL_law 402 = .ok (.iadd, 1) := by decide +kernel
theorem dL_law_403 : decode cL_law 403 = .ok (.iaload, 1) := by decide +kernel
theorem dL_law_404 : decode cL_law 404 = .ok (.invokevirtual 29, 3) := by decide +kernel
theorem dL_law_407 : decode cL_law 407 = .ok (.aload_n 2, 1) := by decide +kernel
theorem dL_law_408 : decode cL_law 408 = .ok (.aload_n 0, 1) := by decide +kernel
theorem dL_law_409 : decode cL_law 409 = .ok (.iload_n 3, 1) := by decide +kernel
theorem dL_law_410 : decode cL_law 410 = .ok (.iconst 1, 1) := by decide +kernel
theorem dL_law_411 : decode cL_law 411 = .ok (.iadd, 1) := by decide +kernel
theorem dL_law_412 : decode cL_law 412 = .ok (.iaload, 1) := by decide +kernel
theorem dL_law_413 : decode cL_law 413 = .ok (.aload_n 0, 1) := by decide +kernel
theorem dL_law_414 : decode cL_law 414 = .ok (.iload_n 3, 1) := by decide +kernel
theorem dL_law_415 : decode cL_law 415 = .ok (.iconst 2, 1) := by decide +kernel
theorem dL_law_416 : decode cL_law 416 = .ok (.iadd, 1) := by decide +kernel
theorem dL_law_417 : decode cL_law 417 = .ok (.iaload, 1) := by decide +kernel
theorem dL_law_418 : decode cL_law 418 = .ok (.aload_n 0, 1) := by decide +kernel
theorem dL_law_419 : decode cL_law 419 = .ok (.iload_n 3, 1) := by decide +kernel
theorem dL_law_420 : decode cL_law 420 = .ok (.iconst 3, 1) := by decide +kernel
theorem dL_law_421 : decode cL_law 421 = .ok (.iadd, 1) := by decide +kernel
theorem dL_law_422 : decode cL_law 422 = .ok (.iaload, 1) := by decide +kernel
theorem dL_law_423 : decode cL_law 423 = .ok (.invokevirtual 33, 3) := by decide +kernel
theorem dL_law_426 : decode cL_law 426 = .ok (.if_icmp .eq 433, 3) := by decide +kernel
theorem dL_law_429 : decode cL_law 429 = .ok (.iconst 0, 1) := by decide +kernel
theorem dL_law_430 : decode cL_law 430 = .ok (.ireturn, 1) := by decide +kernel
theorem dL_law_431 : decode cL_law 431 = .ok (.aload_n 1, 1) := by decide +kernel
theorem dL_law_432 : decode cL_law 432 = .ok (.aload_n 0, 1) := by decide +kernel
theorem dL_law_433 : decode cL_law 433 = .ok (.iload_n 3, 1) := by decide +kernel
theorem dL_law_434 : decode cL_law 434 = .ok (.iconst 1, 1) := by decide +kernel
theorem dL_law_435 : decode cL_law 435 = .ok (.iadd, 1) := by decide +kernel
theorem dL_law_436 : decode cL_law 436 = .ok (.iaload, 1) := by decide +kernel
theorem dL_law_437 : decode cL_law 437 = .ok (.aload_n 0, 1) := by decide +kernel
theorem dL_law_438 : decode cL_law 438 = .ok (.iload_n 3, 1) := by decide +kernel
theorem dL_law_439 : decode cL_law 439 = .ok (.iconst 2, 1) := by decide +kernel
theorem dL_law_440 : decode cL_law 440 = .ok (.iadd, 1) := by decide +kernel
theorem dL_law_441 : decode cL_law 441 = .ok (.iaload, 1) := by decide +kernel
theorem dL_law_442 : decode cL_law 442 = .ok (.invokevirtual 34, 3) := by decide +kernel
theorem dL_law_445 : decode cL_law 445 = .ok (.aload_n 2, 1) := by decide +kernel
theorem dL_law_446 : decode cL_law 446 = .ok (.aload_n 0, 1) := by decide +kernel
theorem dL_law_447 : decode cL_law 447 = .ok (.iload_n 3, 1) := by decide +kernel
theorem dL_law_448 : decode cL_law 448 = .ok (.iconst 1, 1) := by decide +kernel
theorem dL_law_449 : decode cL_law 449 = .ok (.iadd, 1) := by decide +kernel
theorem dL_law_450 : decode cL_law 450 = .ok (.iaload, 1) := by decide +kernel
theorem dL_law_451 : decode cL_law 451 = .ok (.aload_n 0, 1) := by decide +kernel
theorem dL_law_452 : decode cL_law 452 = .ok (.iload_n 3, 1) := by decide +kernel
theorem dL_law_453 : decode cL_law 453 = .ok (.iconst 2, 1) := by decide +kernel
theorem dL_law_454 : decode cL_law 454 = .ok (.iadd, 1) := by decide +kernel
theorem dL_law_455 : decode cL_law 455 = .ok (.iaload, 1) := by decide +kernel
theorem dL_law_456 : decode cL_law 456 = .ok (.invokevirtual 38, 3) := by decide +kernel
theorem dL_law_459 : decode cL_law 459 = .ok (.if_icmp .eq 400, 3) := by decide +kernel
theorem dL_law_462 : decode cL_law 462 = .ok (.iconst 0, 1) := by decide +kernel
theorem dL_law_463 : decode cL_law 463 = .ok (.ireturn, 1) := by decide +kernel
theorem dL_law_464 : decode cL_law 464 = .ok (.aload_n 1, 1) := by decide +kernel
theorem dL_law_465 : decode cL_law 465 = .ok (.aload_n 0, 1) := by decide +kernel
theorem dL_law_466 : decode cL_law 466 = .ok (.iload_n 3, 1) := by decide +kernel
theorem dL_law_467 : decode cL_law 467 = .ok (.iconst 1, 1) := by decide +kernel
theorem dL_law_468 : decode cL_law 468 = .ok (.iadd, 1) := by decide +kernel
theorem dL_law_469 : decode cL_law 469 = .ok (.iaload, 1) := by decide +kernel
theorem dL_law_470 : decode cL_law 470 = .ok (.invokevirtual 39, 3) := by decide +kernel
theorem dL_law_473 : decode cL_law 473 = .ok (.aload_n 2, 1) := by decide +kernel
theorem dL_law_474 : decode cL_law 474 = .ok (.aload_n 0, 1) := by decide +kernel
theorem dL_law_475 : decode cL_law 475 = .ok (.iload_n 3, 1) := by decide +kernel
theorem dL_law_476 : decode cL_law 476 = .ok (.iconst 1, 1) := by decide +kernel
theorem dL_law_477 : decode cL_law 477 = .ok (.iadd, 1) := by decide +kernel
theorem dL_law_478 : decode cL_law 478 = .ok (.iaload, 1) := by decide +kernel
theorem dL_law_479 : decode cL_law 479 = .ok (.invokevirtual 43, 3) := by decide +kernel
theorem dL_law_482 : decode cL_law 482 = .ok (.if_icmp .eq 377, 3) := by decide +kernel
theorem dL_law_485 : decode cL_law 485 = .ok (.iconst 0, 1) := by decide +kernel
theorem dL_law_486 : decode cL_law 486 = .ok (.ireturn, 1) := by decide +kernel
theorem dL_law_487 : decode cL_law 487 = .ok (.aload_n 1, 1) := by decide +kernel
theorem dL_law_488 : decode cL_law 488 = .ok (.aload_n 0, 1) := by decide +kernel
theorem dL_law_489 : decode cL_law 489 = .ok (.iload_n 3, 1) := by decide +kernel
theorem dL_law_490 : decode cL_law 490 = .ok (.iconst 1, 1) := by decide +kernel
theorem dL_law_491 : decode cL_law 491 = .ok (.iadd, 1) := by decide +kernel
theorem dL_law_492 : decode cL_law 492 = .ok (.iaload, 1) := by decide +kernel
theorem dL_law_493 : decode cL_law 493 = .ok (.aload_n 0, 1) := by decide +kernel
theorem dL_law_494 : decode cL_law 494 = .ok (.iload_n 3, 1) := by decide +kernel
theorem dL_law_495 : decode cL_law 495 = .ok (.iconst 2, 1) := by decide +kernel
theorem dL_law_496 : decode cL_law 496 = .ok (.iadd, 1) := by decide +kernel
theorem dL_law_497 : decode cL_law 497 = .ok (.iaload, 1) := by decide +kernel
theorem dL_law_498 : decode cL_law 498 = .ok (.invokevirtual 44, 3) := by decide +kernel
theorem dL_law_501 : decode cL_law 501 = .ok (.aload_n 2, 1) := by decide +kernel
theorem dL_law_502 : decode cL_law 502 = .ok (.aload_n 0, 1) := by decide +kernel
theorem dL_law_503 : decode cL_law 503 = .ok (.iload_n 3, 1) := by decide +kernel
theorem dL_law_504 : decode cL_law 504 = .ok (.iconst 1, 1) := by decide +kernel
theorem dL_law_505 : decode cL_law 505 = .ok (.iadd, 1) := by decide +kernel
theorem dL_law_506 : decode cL_law 506 = .ok (.iaload, 1) := by decide +kernel
theorem dL_law_507 : decode cL_law 507 = .ok (.aload_n 0, 1) := by decide +kernel
theorem dL_law_508 : decode cL_law 508 = .ok (.iload_n 3, 1) := by decide +kernel
theorem dL_law_509 : decode cL_law 509 = .ok (.iconst 2, 1) := by decide +kernel
theorem dL_law_510 : decode cL_law 510 = .ok (.iadd, 1) := by decide +kernel
theorem dL_law_511 : decode cL_law 511 = .ok (.iaload, 1) := by decide +kernel
theorem dL_law_512 : decode cL_law 512 = .ok (.invokevirtual 47, 3) := by decide +kernel
theorem dL_law_515 : decode cL_law 515 = .ok (.if_icmp .eq 344, 3) := by decide +kernel
theorem dL_law_518 : decode cL_law 518 = .ok (.iconst 0, 1) := by decide +kernel
theorem dL_law_519 : decode cL_law 519 = .ok (.ireturn, 1) := by decide +kernel
theorem dL_law_520 : decode cL_law 520 = .ok (.aload_n 1, 1) := by decide +kernel
theorem dL_law_521 : decode cL_law 521 = .ok (.aload_n 0, 1) := by decide +kernel
theorem dL_law_522 : decode cL_law 522 = .ok (.iload_n 3, 1) := by decide +kernel
theorem dL_law_523 : decode cL_law 523 = .ok (.iconst 1, 1) := by decide +kernel
theorem dL_law_524 : decode cL_law 524 = .ok (.iadd, 1) := by decide +kernel
theorem dL_law_525 : decode cL_law 525 = .ok (.iaload, 1) := by decide +kernel
theorem dL_law_526 : decode cL_law 526 = .ok (.aload_n 0, 1) := by decide +kernel
theorem dL_law_527 : decode cL_law 527 = .ok (.iload_n 3, 1) := by decide +kernel
theorem dL_law_528 : decode cL_law 528 = .ok (.iconst 2, 1) := by decide +kernel
theorem dL_law_529 : decode cL_law 529 = .ok (.iadd, 1) := by decide +kernel
theorem dL_law_530 : decode cL_law 530 = .ok (.iaload, 1) := by decide +kernel
theorem dL_law_531 : decode cL_law 531 = .ok (.invokevirtual 48, 3) := by decide +kernel
theorem dL_law_534 : decode cL_law 534 = .ok (.aload_n 2, 1) := by decide +kernel
theorem dL_law_535 : decode cL_law 535 = .ok (.aload_n 0, 1) := by decide +kernel
theorem dL_law_536 : decode cL_law 536 = .ok (.iload_n 3, 1) := by decide +kernel
theorem dL_law_537 : decode cL_law 537 = .ok (.iconst 1, 1) := by decide +kernel
theorem dL_law_538 : decode cL_law 538 = .ok (.iadd, 1) := by decide +kernel
theorem dL_law_539 : decode cL_law 539 = .ok (.iaload, 1) := by decide +kernel
theorem dL_law_540 : decode cL_law 540 = .ok (.aload_n 0, 1) := by decide +kernel
theorem dL_law_541 : decode cL_law 541 = .ok (.iload_n 3, 1) := by decide +kernel
theorem dL_law_542 : decode cL_law 542 = .ok (.iconst 2, 1) := by decide +kernel
theorem dL_law_543 : decode cL_law 543 = .ok (.iadd, 1) := by decide +kernel
theorem dL_law_544 : decode cL_law 544 = .ok (.iaload, 1) := by decide +kernel
theorem dL_law_545 : decode cL_law 545 = .ok (.invokevirtual 51, 3) := by decide +kernel
theorem dL_law_548 : decode cL_law 548 = .ok (.if_icmp .eq 311, 3) := by decide +kernel
theorem dL_law_551 : decode cL_law 551 = .ok (.iconst 0, 1) := by decide +kernel
theorem dL_law_552 : decode cL_law 552 = .ok (.ireturn, 1) := by decide +kernel
theorem dL_law_553 : decode cL_law 553 = .ok (.aload_n 1, 1) := by decide +kernel
theorem dL_law_554 : decode cL_law 554 = .ok (.aload_n 0, 1) := by decide +kernel
theorem dL_law_555 : decode cL_law 555 = .ok (.iload_n 3, 1) := by decide +kernel
theorem dL_law_556 : decode cL_law 556 = .ok (.iconst 1, 1) := by decide +kernel
theorem dL_law_557 : decode cL_law 557 = .ok (.iadd, 1) := by decide +kernel
theorem dL_law_558 : decode cL_law 558 = .ok (.iaload, 1) := by decide +kernel
theorem dL_law_559 : decode cL_law 559 = .ok (.aload_n 0, 1) := by decide +kernel
theorem dL_law_560 : decode cL_law 560 = .ok (.iload_n 3, 1) := by decide +kernel
theorem dL_law_561 : decode cL_law 561 = .ok (.iconst 2, 1) := by decide +kernel
theorem dL_law_562 : decode cL_law 562 = .ok (.iadd, 1) := by decide +kernel
theorem dL_law_563 : decode cL_law 563 = .ok (.iaload, 1) := by decide +kernel
theorem dL_law_564 : decode cL_law 564 = .ok (.aload_n 0, 1) := by decide +kernel
theorem dL_law_565 : decode cL_law 565 = .ok (.iload_n 3, 1) := by decide +kernel
theorem dL_law_566 : decode cL_law 566 = .ok (.iconst 3, 1) := by decide +kernel
theorem dL_law_567 : decode cL_law 567 = .ok (.iadd, 1) := by decide +kernel
theorem dL_law_568 : decode cL_law 568 = .ok (.iaload, 1) := by decide +kernel
theorem dL_law_569 : decode cL_law 569 = .ok (.aload_n 0, 1) := by decide +kernel
theorem dL_law_570 : decode cL_law 570 = .ok (.iload_n 3, 1) := by decide +kernel
theorem dL_law_571 : decode cL_law 571 = .ok (.iconst 4, 1) := by decide +kernel
theorem dL_law_572 : decode cL_law 572 = .ok (.iadd, 1) := by decide +kernel
theorem dL_law_573 : decode cL_law 573 = .ok (.iaload, 1) := by decide +kernel
theorem dL_law_574 : decode cL_law 574 = .ok (.aload_n 0, 1) := by decide +kernel
theorem dL_law_575 : decode cL_law 575 = .ok (.iload_n 3, 1) := by decide +kernel
theorem dL_law_576 : decode cL_law 576 = .ok (.iconst 5, 1) := by decide +kernel
theorem dL_law_577 : decode cL_law 577 = .ok (.iadd, 1) := by decide +kernel
theorem dL_law_578 : decode cL_law 578 = .ok (.iaload, 1) := by decide +kernel
theorem dL_law_579 : decode cL_law 579 = .ok (.aload_n 0, 1) := by decide +kernel
theorem dL_law_580 : decode cL_law 580 = .ok (.iload_n 3, 1) := by decide +kernel
theorem dL_law_581 : decode cL_law 581 = .ok (.bipush 6, 2) := by decide +kernel
theorem dL_law_583 : decode cL_law 583 = .ok (.iadd, 1) := by decide +kernel
theorem dL_law_584 : decode cL_law 584 = .ok (.iaload, 1) := by decide +kernel
theorem dL_law_585 : decode cL_law 585 = .ok (.ifCond .eq 7, 3) := by decide +kernel
theorem dL_law_588 : decode cL_law 588 = .ok (.iconst 1, 1) := by decide +kernel
theorem dL_law_589 : decode cL_law 589 = .ok (.goto 4, 3) := by decide +kernel
theorem dL_law_592 : decode cL_law 592 = .ok (.iconst 0, 1) := by decide +kernel
theorem dL_law_593 : decode cL_law 593 = .ok (.invokevirtual 52, 3) := by decide +kernel
theorem dL_law_596 : decode cL_law 596 = .ok (.aload_n 2, 1) := by decide +kernel
theorem dL_law_597 : decode cL_law 597 = .ok (.aload_n 0, 1) := by decide +kernel
theorem dL_law_598 : decode cL_law 598 = .ok (.iload_n 3, 1) := by decide +kernel
theorem dL_law_599 : decode cL_law 599 = .ok (.iconst 1, 1) := by decide +kernel
theorem dL_law_600 : decode cL_law 600 = .ok (.iadd, 1) := by decide +kernel
theorem dL_law_601 : decode cL_law 601 = .ok (.iaload, 1) := by decide +kernel
theorem dL_law_602 : decode cL_law 602 = .ok (.aload_n 0, 1) := by decide +kernel
theorem dL_law_603 : decode cL_law 603 = .ok (.iload_n 3, 1) := by decide +kernel
theorem dL_law_604 : decode cL_law 604 = .ok (.iconst 2, 1) := by decide +kernel
theorem dL_law_605 : decode cL_law 605 = .ok (.iadd, 1) := by decide +kernel
theorem dL_law_606 : decode cL_law 606 = .ok (.iaload, 1) := by decide +kernel
theorem dL_law_607 : decode cL_law 607 = .ok (.aload_n 0, 1) := by decide +kernel
theorem dL_law_608 : decode cL_law 608 = .ok (.iload_n 3, 1) := by decide +kernel
theorem dL_law_609 : decode cL_law 609 = .ok (.iconst 3, 1) := by decide +kernel
theorem dL_law_610 : decode cL_law 610 = .ok (.iadd, 1) := by decide +kernel
theorem dL_law_611 : decode cL_law 611 = .ok (.iaload, 1) := by decide +kernel
theorem dL_law_612 : decode cL_law 612 = .ok (.aload_n 0, 1) := by decide +kernel
theorem dL_law_613 : decode cL_law 613 = .ok (.iload_n 3, 1) := by decide +kernel
theorem dL_law_614 : decode cL_law 614 = .ok (.iconst 4, 1) := by decide +kernel
theorem dL_law_615 : decode cL_law 615 = .ok (.iadd, 1) := by decide +kernel
theorem dL_law_616 : decode cL_law 616 = .ok (.iaload, 1) := by decide +kernel
theorem dL_law_617 : decode cL_law 617 = .ok (.aload_n 0, 1) := by decide +kernel
theorem dL_law_618 : decode cL_law 618 = .ok (.iload_n 3, 1) := by decide +kernel
theorem dL_law_619 : decode cL_law 619 = .ok (.iconst 5, 1) := by decide +kernel
theorem dL_law_620 : decode cL_law 620 = .ok (.iadd, 1) := by decide +kernel
theorem dL_law_621 : decode cL_law 621 = .ok (.iaload, 1) := by decide +kernel
theorem dL_law_622 : decode cL_law 622 = .ok (.aload_n 0, 1) := by decide +kernel
theorem dL_law_623 : decode cL_law 623 = .ok (.iload_n 3, 1) := by decide +kernel
theorem dL_law_624 : decode cL_law 624 = .ok (.bipush 6, 2) := by decide +kernel
theorem dL_law_626 : decode cL_law 626 = .ok (.iadd, 1) := by decide +kernel
theorem dL_law_627 : decode cL_law 627 = .ok (.iaload, 1) := by decide +kernel
theorem dL_law_628 : decode cL_law 628 = .ok (.ifCond .eq 7, 3) := by decide +kernel
theorem dL_law_631 : decode cL_law 631 = .ok (.iconst 1, 1) := by decide +kernel
theorem dL_law_632 : decode cL_law 632 = .ok (.goto 4, 3) := by decide +kernel
theorem dL_law_635 : decode cL_law 635 = .ok (.iconst 0, 1) := by decide +kernel
theorem dL_law_636 : decode cL_law 636 = .ok (.invokevirtual 56, 3) := by decide +kernel
theorem dL_law_639 : decode cL_law 639 = .ok (.if_icmp .eq 220, 3) := by decide +kernel
theorem dL_law_642 : decode cL_law 642 = .ok (.iconst 0, 1) := by decide +kernel
theorem dL_law_643 : decode cL_law 643 = .ok (.ireturn, 1) := by decide +kernel
theorem dL_law_644 : decode cL_law 644 = .ok (.aload_n 1, 1) := by decide +kernel
theorem dL_law_645 : decode cL_law 645 = .ok (.aload_n 0, 1) := by decide +kernel
theorem dL_law_646 : decode cL_law 646 = .ok (.iload_n 3, 1) := by decide +kernel
theorem dL_law_647 : decode cL_law 647 = .ok (.iconst 1, 1) := by decide +kernel
theorem dL_law_648 : decode cL_law 648 = .ok (.iadd, 1) := by decide +kernel
theorem dL_law_649 : decode cL_law 649 = .ok (.iaload, 1) := by decide +kernel
theorem dL_law_650 : decode cL_law 650 = .ok (.invokevirtual 57, 3) := by decide +kernel
theorem dL_law_653 : decode cL_law 653 = .ok (.aload_n 2, 1) := by decide +kernel
theorem dL_law_654 : decode cL_law 654 = .ok (.aload_n 0, 1) := by decide +kernel
theorem dL_law_655 : decode cL_law 655 = .ok (.iload_n 3, 1) := by decide +kernel
theorem dL_law_656 : decode cL_law 656 = .ok (.iconst 1, 1) := by decide +kernel
theorem dL_law_657 : decode cL_law 657 = .ok (.iadd, 1) := by decide +kernel
theorem dL_law_658 : decode cL_law 658 = .ok (.iaload, 1) := by decide +kernel
theorem dL_law_659 : decode cL_law 659 = .ok (.invokevirtual 60, 3) := by decide +kernel
theorem dL_law_662 : decode cL_law 662 = .ok (.if_icmp .eq 197, 3) := by decide +kernel
theorem dL_law_665 : decode cL_law 665 = .ok (.iconst 0, 1) := by decide +kernel
theorem dL_law_666 : decode cL_law 666 = .ok (.ireturn, 1) := by decide +kernel
theorem dL_law_667 : decode cL_law 667 = .ok (.aload_n 1, 1) := by decide +kernel
theorem dL_law_668 : decode cL_law 668 = .ok (.aload_n 0, 1) := by decide +kernel
theorem dL_law_669 : decode cL_law 669 = .ok (.iload_n 3, 1) := by decide +kernel
theorem dL_law_670 : decode cL_law 670 = .ok (.iconst 1, 1) := by decide +kernel
theorem dL_law_671 : decode cL_law 671 = .ok (.iadd, 1) := by decide +kernel
theorem dL_law_672 : decode cL_law 672 = .ok (.iaload, 1) := by decide +kernel
theorem dL_law_673 : decode cL_law 673 = .ok (.invokevirtual 61, 3) := by decide +kernel
theorem dL_law_676 : decode cL_law 676 = .ok (.aload_n 2, 1) := by decide +kernel
theorem dL_law_677 : decode cL_law 677 = .ok (.aload_n 0, 1) := by decide +kernel
theorem dL_law_678 : decode cL_law 678 = .ok (.iload_n 3, 1) := by decide +kernel
theorem dL_law_679 : decode cL_law 679 = .ok (.iconst 1, 1) := by decide +kernel
theorem dL_law_680 : decode cL_law 680 = .ok (.iadd, 1) := by decide +kernel
theorem dL_law_681 : decode cL_law 681 = .ok (.iaload, 1) := by decide +kernel
theorem dL_law_682 : decode cL_law 682 = .ok (.invokevirtual 64, 3) := by decide +kernel
theorem dL_law_685 : decode cL_law 685 = .ok (.if_icmp .eq 174, 3) := by decide +kernel
theorem dL_law_688 : decode cL_law 688 = .ok (.iconst 0, 1) := by decide +kernel
theorem dL_law_689 : decode cL_law 689 = .ok (.ireturn, 1) := by decide +kernel
theorem dL_law_690 : decode cL_law 690 = .ok (.aload_n 1, 1) := by decide +kernel
theorem dL_law_691 : decode cL_law 691 = .ok (.aload_n 0, 1) := by decide +kernel
theorem dL_law_692 : decode cL_law 692 = .ok (.iload_n 3, 1) := by decide +kernel
theorem dL_law_693 : decode cL_law 693 = .ok (.iconst 1, 1) := by decide +kernel
theorem dL_law_694 : decode cL_law 694 = .ok (.iadd, 1) := by decide +kernel
theorem dL_law_695 : decode cL_law 695 = .ok (.iaload, 1) := by decide +kernel
theorem dL_law_696 : decode cL_law 696 = .ok (.invokevirtual 65, 3) := by decide +kernel
theorem dL_law_699 : decode cL_law 699 = .ok (.aload_n 2, 1) := by decide +kernel
theorem dL_law_700 : decode cL_law 700 = .ok (.aload_n 0, 1) := by decide +kernel
theorem dL_law_701 : decode cL_law 701 = .ok (.iload_n 3, 1) := by decide +kernel
theorem dL_law_702 : decode cL_law 702 = .ok (.iconst 1, 1) := by decide +kernel
theorem dL_law_703 : decode cL_law 703 = .ok (.iadd, 1) := by decide +kernel
theorem dL_law_704 : decode cL_law 704 = .ok (.iaload, 1) := by decide +kernel
theorem dL_law_705 : decode cL_law 705 = .ok (.invokevirtual 68, 3) := by decide +kernel
theorem dL_law_708 : decode cL_law 708 = .ok (.if_icmp .eq 151, 3) := by decide +kernel
theorem dL_law_711 : decode cL_law 711 = .ok (.iconst 0, 1) := by decide +kernel
theorem dL_law_712 : decode cL_law 712 = .ok (.ireturn, 1) := by decide +kernel
theorem dL_law_713 : decode cL_law 713 = .ok (.aload_n 1, 1) := by decide +kernel
theorem dL_law_714 : decode cL_law 714 = .ok (.aload_n 0, 1) := by decide +kernel
theorem dL_law_715 : decode cL_law 715 = .ok (.iload_n 3, 1) := by decide +kernel
theorem dL_law_716 : decode cL_law 716 = .ok (.iconst 1, 1) := by decide +kernel
theorem dL_law_717 : decode cL_law 717 = .ok (.iadd, 1) := by decide +kernel
theorem dL_law_718 : decode cL_law 718 = .ok (.iaload, 1) := by decide +kernel
theorem dL_law_719 : decode cL_law 719 = .ok (.aload_n 0, 1) := by decide +kernel
theorem dL_law_720 : decode cL_law 720 = .ok (.iload_n 3, 1) := by decide +kernel
theorem dL_law_721 : decode cL_law 721 = .ok (.iconst 2, 1) := by decide +kernel
theorem dL_law_722 : decode cL_law 722 = .ok (.iadd, 1) := by decide +kernel
theorem dL_law_723 : decode cL_law 723 = .ok (.iaload, 1) := by decide +kernel
theorem dL_law_724 : decode cL_law 724 = .ok (.invokevirtual 69, 3) := by decide +kernel
theorem dL_law_727 : decode cL_law 727 = .ok (.aload_n 2, 1) := by decide +kernel
theorem dL_law_728 : decode cL_law 728 = .ok (.aload_n 0, 1) := by decide +kernel
theorem dL_law_729 : decode cL_law 729 = .ok (.iload_n 3, 1) := by decide +kernel
theorem dL_law_730 : decode cL_law 730 = .ok (.iconst 1, 1) := by decide +kernel
theorem dL_law_731 : decode cL_law 731 = .ok (.iadd, 1) := by decide +kernel
theorem dL_law_732 : decode cL_law 732 = .ok (.iaload, 1) := by decide +kernel
theorem dL_law_733 : decode cL_law 733 = .ok (.aload_n 0, 1) := by decide +kernel
theorem dL_law_734 : decode cL_law 734 = .ok (.iload_n 3, 1) := by decide +kernel
theorem dL_law_735 : decode cL_law 735 = .ok (.iconst 2, 1) := by decide +kernel
theorem dL_law_736 : decode cL_law 736 = .ok (.iadd, 1) := by decide +kernel
theorem dL_law_737 : decode cL_law 737 = .ok (.iaload, 1) := by decide +kernel
theorem dL_law_738 : decode cL_law 738 = .ok (.invokevirtual 72, 3) := by decide +kernel
theorem dL_law_741 : decode cL_law 741 = .ok (.if_icmp .eq 118, 3) := by decide +kernel
theorem dL_law_744 : decode cL_law 744 = .ok (.iconst 0, 1) := by decide +kernel
theorem dL_law_745 : decode cL_law 745 = .ok (.ireturn, 1) := by decide +kernel
theorem dL_law_746 : decode cL_law 746 = .ok (.aload_n 1, 1) := by decide +kernel
theorem dL_law_747 : decode cL_law 747 = .ok (.aload_n 0, 1) := by decide +kernel
theorem dL_law_748 : decode cL_law 748 = .ok (.iload_n 3, 1) := by decide +kernel
theorem dL_law_749 : decode cL_law 749 = .ok (.iconst 1, 1) := by decide +kernel
theorem dL_law_750 : decode cL_law 750 = .ok (.iadd, 1) := by decide +kernel
theorem dL_law_751 : decode cL_law 751 = .ok (.iaload, 1) := by decide +kernel
theorem dL_law_752 : decode cL_law 752 = .ok (.invokevirtual 73, 3) := by decide +kernel
theorem dL_law_755 : decode cL_law 755 = .ok (.aload_n 2, 1) := by decide +kernel
theorem dL_law_756 : decode cL_law 756 = .ok (.aload_n 0, 1) := by decide +kernel
theorem dL_law_757 : decode cL_law 757 = .ok (.iload_n 3, 1) := by decide +kernel
theorem dL_law_758 : decode cL_law 758 = .ok (.iconst 1, 1) := by decide +kernel
theorem dL_law_759 : decode cL_law 759 = .ok (.iadd, 1) := by decide +kernel
theorem dL_law_760 : decode cL_law 760 = .ok (.iaload, 1) := by decide +kernel
theorem dL_law_761 : decode cL_law 761 = .ok (.invokevirtual 76, 3) := by decide +kernel
theorem dL_law_764 : decode cL_law 764 = .ok (.if_icmp .eq 95, 3) := by decide +kernel
theorem dL_law_767 : decode cL_law 767 = .ok (.iconst 0, 1) := by decide +kernel
theorem dL_law_768 : decode cL_law 768 = .ok (.ireturn, 1) := by decide +kernel
theorem dL_law_769 : decode cL_law 769 = .ok (.aload_n 1, 1) := by decide +kernel
theorem dL_law_770 : decode cL_law 770 = .ok (.aload_n 0, 1) := by decide +kernel
theorem dL_law_771 : decode cL_law 771 = .ok (.iload_n 3, 1) := by decide +kernel
theorem dL_law_772 : decode cL_law 772 = .ok (.iconst 1, 1) := by decide +kernel
theorem dL_law_773 : decode cL_law 773 = .ok (.iadd, 1) := by decide +kernel
theorem dL_law_774 : decode cL_law 774 = .ok (.iaload, 1) := by decide +kernel
theorem dL_law_775 : decode cL_law 775 = .ok (.aload_n 0, 1) := by decide +kernel
theorem dL_law_776 : decode cL_law 776 = .ok (.iload_n 3, 1) := by decide +kernel
theorem dL_law_777 : decode cL_law 777 = .ok (.iconst 2, 1) := by decide +kernel
theorem dL_law_778 : decode cL_law 778 = .ok (.iadd, 1) := by decide +kernel
theorem dL_law_779 : decode cL_law 779 = .ok (.iaload, 1) := by decide +kernel
theorem dL_law_780 : decode cL_law 780 = .ok (.invokevirtual 77, 3) := by decide +kernel
theorem dL_law_783 : decode cL_law 783 = .ok (.aload_n 2, 1) := by decide +kernel
theorem dL_law_784 : decode cL_law 784 = .ok (.aload_n 0, 1) := by decide +kernel
theorem dL_law_785 : decode cL_law 785 = .ok (.iload_n 3, 1) := by decide +kernel
theorem dL_law_786 : decode cL_law 786 = .ok (.iconst 1, 1) := by decide +kernel
theorem dL_law_787 : decode cL_law 787 = .ok (.iadd, 1) := by decide +kernel
theorem dL_law_788 : decode cL_law 788 = .ok (.iaload, 1) := by decide +kernel
theorem dL_law_789 : decode cL_law 789 = .ok (.aload_n 0, 1) := by decide +kernel
theorem dL_law_790 : decode cL_law 790 = .ok (.iload_n 3, 1) := by decide +kernel
theorem dL_law_791 : decode cL_law 791 = .ok (.iconst 2, 1) := by decide +kernel
theorem dL_law_792 : decode cL_law 792 = .ok (.iadd, 1) := by decide +kernel
theorem dL_law_793 : decode cL_law 793 = .ok (.iaload, 1) := by decide +kernel
theorem dL_law_794 : decode cL_law 794 = .ok (.invokevirtual 80, 3) := by decide +kernel
theorem dL_law_797 : decode cL_law 797 = .ok (.if_icmp .eq 62, 3) := by decide +kernel
theorem dL_law_800 : decode cL_law 800 = .ok (.iconst 0, 1) := by decide +kernel
theorem dL_law_801 : decode cL_law 801 = .ok (.ireturn, 1) := by decide +kernel
theorem dL_law_802 : decode cL_law 802 = .ok (.aload_n 1, 1) := by decide +kernel
theorem dL_law_803 : decode cL_law 803 = .ok (.aload_n 0, 1) := by decide +kernel
theorem dL_law_804 : decode cL_law 804 = .ok (.iload_n 3, 1) := by decide +kernel
theorem dL_law_805 : decode cL_law 805 = .ok (.iconst 1, 1) := by decide +kernel
theorem dL_law_806 : decode cL_law 806 = .ok (.iadd, 1) := by decide +kernel
theorem dL_law_807 : decode cL_law 807 = .ok (.iaload, 1) := by decide +kernel
theorem dL_law_808 : decode cL_law 808 = .ok (.aload_n 0, 1) := by decide +kernel
theorem dL_law_809 : decode cL_law 809 = .ok (.iload_n 3, 1) := by decide +kernel
theorem dL_law_810 : decode cL_law 810 = .ok (.iconst 2, 1) := by decide +kernel
theorem dL_law_811 : decode cL_law 811 = .ok (.iadd, 1) := by decide +kernel
theorem dL_law_812 : decode cL_law 812 = .ok (.iaload, 1) := by decide +kernel
theorem dL_law_813 : decode cL_law 813 = .ok (.aload_n 0, 1) := by decide +kernel
theorem dL_law_814 : decode cL_law 814 = .ok (.iload_n 3, 1) := by decide +kernel
theorem dL_law_815 : decode cL_law 815 = .ok (.iconst 3, 1) := by decide +kernel
theorem dL_law_816 : decode cL_law 816 = .ok (.iadd, 1) := by decide +kernel
theorem dL_law_817 : decode cL_law 817 = .ok (.iaload, 1) := by decide +kernel
theorem dL_law_818 : decode cL_law 818 = .ok (.invokevirtual 81, 3) := by decide +kernel
theorem dL_law_821 : decode cL_law 821 = .ok (.aload_n 2, 1) := by decide +kernel
theorem dL_law_822 : decode cL_law 822 = .ok (.aload_n 0, 1) := by decide +kernel
theorem dL_law_823 : decode cL_law 823 = .ok (.iload_n 3, 1) := by decide +kernel
theorem dL_law_824 : decode cL_law 824 = .ok (.iconst 1, 1) := by decide +kernel
theorem dL_law_825 : decode cL_law 825 = .ok (.iadd, 1) := by decide +kernel
theorem dL_law_826 : decode cL_law 826 = .ok (.iaload, 1) := by decide +kernel
theorem dL_law_827 : decode cL_law 827 = .ok (.aload_n 0, 1) := by decide +kernel
theorem dL_law_828 : decode cL_law 828 = .ok (.iload_n 3, 1) := by decide +kernel
theorem dL_law_829 : decode cL_law 829 = .ok (.iconst 2, 1) := by decide +kernel
theorem dL_law_830 : decode cL_law 830 = .ok (.iadd, 1) := by decide +kernel
theorem dL_law_831 : decode cL_law 831 = .ok (.iaload, 1) := by decide +kernel
theorem dL_law_832 : decode cL_law 832 = .ok (.aload_n 0, 1) := by decide +kernel
theorem dL_law_833 : decode cL_law 833 = .ok (.iload_n 3, 1) := by decide +kernel
theorem dL_law_834 : decode cL_law 834 = .ok (.iconst 3, 1) := by decide +kernel
theorem dL_law_835 : decode cL_law 835 = .ok (.iadd, 1) := by decide +kernel
theorem dL_law_836 : decode cL_law 836 = .ok (.iaload, 1) := by decide +kernel
theorem dL_law_837 : decode cL_law 837 = .ok (.invokevirtual 84, 3) := by decide +kernel
theorem dL_law_840 : decode cL_law 840 = .ok (.if_icmp .eq 19, 3) := by decide +kernel
theorem dL_law_843 : decode cL_law 843 = .ok (.iconst 0, 1) := by decide +kernel
theorem dL_law_844 : decode cL_law 844 = .ok (.ireturn, 1) := by decide +kernel
theorem dL_law_845 : decode cL_law 845 = .ok (.aload_n 1, 1) := by decide +kernel
theorem dL_law_846 : decode cL_law 846 = .ok (.invokevirtual 85, 3) := by decide +kernel
theorem dL_law_849 : decode cL_law 849 = .ok (.aload_n 2, 1) := by decide +kernel
theorem dL_law_850 : decode cL_law 850 = .ok (.invokevirtual 89, 3) := by decide +kernel
theorem dL_law_853 : decode cL_law 853 = .ok (.lcmp, 1) := by decide +kernel
theorem dL_law_854 : decode cL_law 854 = .ok (.ifCond .eq 5, 3) := by decide +kernel
theorem dL_law_857 : decode cL_law 857 = .ok (.iconst 0, 1) := by decide +kernel
theorem dL_law_858 : decode cL_law 858 = .ok (.ireturn, 1) := by decide +kernel
theorem dL_law_859 : decode cL_law 859 = .ok (.iinc 3 7, 3) := by decide +kernel
theorem dL_law_862 : decode cL_law 862 = .ok (.goto (-844), 3) := by decide +kernel
theorem dL_law_865 : decode cL_law 865 = .ok (.iconst 1, 1) := by decide +kernel
theorem dL_law_866 : decode cL_law 866 = .ok (.ireturn, 1) := by decide +kernel
abbrev vwCl : List vw_C := [(RX0, TX0, 4), (RX1, TX1, 8), (RX2, TX2, 3), (RX3, TX3, 17)]
end
section
/-! base: loops, joins, arrays by Nat places, booleans -/
section ZB
variable {p : Program} {l : Launch} {e : Env} {R : Room} {s : State} {m : MethodId} {args : Array Value} {below : List Frame} {meth : Method} {c : Code} {cells slots : Nat} {Q : State → Prop} {pc : Nat}
theorem W_loop {σ : Type} (I : σ → Array Slot → Heap → List Loc → Prop) (μ : σ → Nat)
    (step : ∀ (x : σ) (ls : Array Slot) (H : Heap) (locs : List Loc), I x ls H locs → (∀ (x' : σ) (ls' : Array Slot) (H' : Heap) (locs' : List Loc), μ x' < μ x → I x' ls' H' locs' → W p l e R s m args below meth c H' locs' cells slots Q (F0 m pc ls' [])) → W p l e R s m args below meth c H locs cells slots Q (F0 m pc ls []))
    (x : σ) {ls : Array Slot} {H : Heap} {locs : List Loc} (h : I x ls H locs) : W p l e R s m args below meth c H locs cells slots Q (F0 m pc ls []) := by
  have K : ∀ (n : Nat) (x : σ) (ls : Array Slot) (H : Heap) (locs : List Loc), μ x < n → I x ls H locs → W p l e R s m args below meth c H locs cells slots Q (F0 m pc ls []) := by
    intro n
    induction n with
    | zero => intro x ls H locs h; exact absurd h (Nat.not_lt_zero _)
    | succ n ih => intro x ls H locs hn hi; exact step x ls H locs hi (fun x' ls' H' locs' hlt hi' => ih x' ls' H' locs' (by omega) hi')
  exact K (μ x + 1) x ls H locs (Nat.lt_succ_self _) h
theorem W_loopR {σ : Type} {H : Heap} {locs : List Loc} (I : σ → Array Slot → Prop) (μ : σ → Nat)
    (step : ∀ (x : σ) (ls : Array Slot), I x ls → (∀ (x' : σ) (ls' : Array Slot), μ x' < μ x → I x' ls' → W p l e R s m args below meth c H locs cells slots Q (F0 m pc ls' [])) → W p l e R s m args below meth c H locs cells slots Q (F0 m pc ls []))
    (x : σ) {ls : Array Slot} (h : I x ls) : W p l e R s m args below meth c H locs cells slots Q (F0 m pc ls []) := by
  have K : ∀ (n : Nat) (x : σ) (ls : Array Slot), μ x < n → I x ls → W p l e R s m args below meth c H locs cells slots Q (F0 m pc ls []) := by
    intro n
    induction n with
    | zero => intro x ls h; exact absurd h (Nat.not_lt_zero _)
    | succ n ih => intro x ls hn hi; exact step x ls hi (fun x' ls' hlt hi' => ih x' ls' (by omega) hi')
  exact K (μ x + 1) x ls (Nat.lt_succ_self _) h
theorem W_join {α : Type} {g : JFrame} {H : Heap} {locs : List Loc} (pc' : Nat) (ls' : Array Slot) (st' : α → List Value) (Pj : α → Prop) (k1 : (∀ v, Pj v → W p l e R s m args below meth c H locs cells slots Q (F0 m pc' ls' (st' v))) → W p l e R s m args below meth c H locs cells slots Q g)
    (k2 : ∀ v, Pj v → W p l e R s m args below meth c H locs cells slots Q (F0 m pc' ls' (st' v))) : W p l e R s m args below meth c H locs cells slots Q g := k1 k2
theorem z_i {H : Heap} {locs : List Loc} {ls : Array Slot} {rest : List Value} {x y : Int32} (h : x = y) (k : W p l e R s m args below meth c H locs cells slots Q (F0 m pc ls (.int y :: rest))) : W p l e R s m args below meth c H locs cells slots Q (F0 m pc ls (.int x :: rest)) := h ▸ k
theorem z_l {H : Heap} {locs : List Loc} {ls : Array Slot} {rest : List Value} {x y : Int64} (h : x = y) (k : W p l e R s m args below meth c H locs cells slots Q (F0 m pc ls (.long y :: rest))) : W p l e R s m args below meth c H locs cells slots Q (F0 m pc ls (.long x :: rest)) := h ▸ k
variable {D : va_G} {cl : List vw_C} {tys : List (ClassId × FieldType)} {ws : va_W} {H : Heap} {locs : List Loc} {cc : ByteArray} {a : Nat} {ls : Array Slot} {rest : List Value} {A : Nat → Prop} {H0 : Heap}
theorem z_iald (hexec : p.tables.exec = Jvm.exec) (hb : c.code = cc) (hK : va_K D cl tys s) (hP : va_P D cl ws H) (q0 t0 : Nat) {cA : ClassId} {n : Nat} {f : Nat → Int32} (ha : ws[q0]? = some (a, .inl (cA, n, .inl f))) (ht : tys[t0]? = some (cA, .int)) {i : Nat} (hi : i < n) (hn : n < 2 ^ 31) (hdg : decode cc pc = .ok (.iaload, 1))
    (kk : W p l e R s m args below meth c H locs cells slots Q (F0 m (pc + 1) ls (.int (f i) :: rest))) : W p l e R s m args below meth c H locs cells slots Q (F0 m pc ls (.int (nI i) :: .ref a :: rest)) := by
  refine va_iald hexec hb hK hP q0 t0 ha ht (vp_in_nI hi hn) hdg ?_
  rw [nI_clamp (Nat.lt_trans hi hn)]
  exact kk
theorem z_iast (hexec : p.tables.exec = Jvm.exec) (hb : c.code = cc) (hK : va_K D cl tys s) (hP : va_P D cl ws H) (hD : va_D A ws) (hS : va_S A H0 H locs) (q0 t0 : Nat) {cA : ClassId} {n : Nat} {f : Nat → Int32} (ha : ws[q0]? = some (a, .inl (cA, n, .inl f))) (ht : tys[t0]? = some (cA, .int)) {i : Nat} {x : Int32} (hi : i < n) (hn : n < 2 ^ 31) (hdg : decode cc pc = .ok (.iastore, 1))
    (kk : ∀ (H1 : Heap) (locs1 : List Loc), va_P D cl (ws.set q0 (a, .inl (cA, n, .inl (upd f i x)))) H1 → va_D A (ws.set q0 (a, .inl (cA, n, .inl (upd f i x)))) → va_S A H0 H1 locs1 → W p l e R s m args below meth c H1 locs1 cells slots Q (F0 m (pc + 1) ls rest)) : W p l e R s m args below meth c H locs cells slots Q (F0 m pc ls (.int x :: .int (nI i) :: .ref a :: rest)) := by
  refine va_iast hexec hb hK hP hD hS q0 t0 ha ht (vp_in_nI hi hn) hdg ?_
  rw [nI_clamp (Nat.lt_trans hi hn)]
  exact kk
end ZB
theorem z_sameA {D : va_G} {cl : List vw_C} {U : State} {a b : ClassId} (h : va_K D cl [(a, .int), (b, .int)] U) : a = b := by
  have h1 : U.vm.findClass ("[" ++ FieldType.int.toString) = some a := (h.2 0 _ rfl).2
  have h2 : U.vm.findClass ("[" ++ FieldType.int.toString) = some b := (h.2 1 _ rfl).2
  rw [h1] at h2
  exact Option.some.inj h2
/-- a truth as an int -/
def zb (b : Bool) : Int32 := if b then 1 else 0
theorem zb_0 {b : Bool} : zb b = 0 ↔ b = false := by cases b <;> decide
theorem zb_n {b : Bool} : ¬ zb b = 0 ↔ b = true := by cases b <;> decide
theorem narrow_zb (b : Bool) : narrow .boolean (.int (zb b)) = .int (zb b) := by cases b <;> rfl
theorem zb_t {b : Bool} (h : b = true) : zb b = 1 := by rw [h]; rfl
theorem zb_f {b : Bool} (h : b = false) : zb b = 0 := by rw [h]; rfl
/-- v within a .. b -/
def wi (v a b : Int) : Bool := decide (a ≤ v) && decide (v ≤ b)
theorem wi_t {v a b : Int} : wi v a b = true ↔ a ≤ v ∧ v ≤ b := by simp [wi]
theorem wi_f {v a b : Int} : wi v a b = false ↔ v < a ∨ b < v := by
  rw [← Bool.not_eq_true, wi_t]; omega
theorem i2l_toInt (x : Int32) : x.toInt64.toInt = x.toInt := Int32.toInt_toInt64 x
theorem le64 (a b : Int64) : a ≤ b ↔ a.toInt ≤ b.toInt := Int64.le_iff_toInt_le
theorem lt64 (a b : Int64) : a < b ↔ a.toInt < b.toInt := Int64.lt_iff_toInt_lt
theorem le32 (a b : Int32) : a ≤ b ↔ a.toInt ≤ b.toInt := Int32.le_iff_toInt_le
theorem lt32 (a b : Int32) : a < b ↔ a.toInt < b.toInt := Int32.lt_iff_toInt_lt
theorem eq32 (a b : Int32) : a = b ↔ a.toInt = b.toInt := ⟨fun h => by rw [h], fun h => Int32.toInt_inj.mp h⟩
theorem eq64 (a b : Int64) : a = b ↔ a.toInt = b.toInt := ⟨fun h => by rw [h], fun h => Int64.toInt_inj.mp h⟩
/-- an int within is the number of a natural one -/
theorem nI_wi {x : Int32} {a b : Nat} (h : wi x.toInt a b = true) : ∃ k : Nat, a ≤ k ∧ k ≤ b ∧ x = nI k := by
  obtain ⟨h1, h2⟩ := wi_t.mp h
  have h3 := x.toInt_lt
  refine ⟨x.toInt.toNat, by omega, by omega, ?_⟩
  rw [eq32, nI_toInt (by omega)]
  omega
theorem nI_i (k : Nat) (h : k < 2 ^ 31) : (nI k).toInt = (k : Int) := nI_toInt h
end
section
/-! great rings: numbers alone -/
def gst (n k x : Nat) : Nat := (k * (x - n) - 1) / (k - 1)
def gIt (n k : Nat) : Nat → Nat → Nat
  | 0, x => x
  | f + 1, x => if n < x then gIt n k f (gst n k x) else x
theorem gIt_stay {n k x : Nat} (h : ¬ n < x) (f : Nat) : gIt n k f x = x := by
  cases f with
  | zero => rfl
  | succ f => simp [gIt, h]
theorem gIt_add (n k : Nat) : ∀ (a b x : Nat), gIt n k (a + b) x = gIt n k b (gIt n k a x) := by
  intro a
  induction a with
  | zero => intro b x; rw [Nat.zero_add]; rfl
  | succ a ih =>
    intro b x
    rw [Nat.succ_add]
    by_cases h : n < x
    · simp only [gIt, h, if_true]
      exact ih b _
    · rw [gIt_stay h, gIt_stay h, gIt_stay h]
/-- one step: below x, and the way from k * n grows by a thousandth -/
theorem gst_lt {n k x : Nat} (hk : 2 ≤ k) (hx : n < x) (hxk : x ≤ k * n) : gst n k x < x := by
  unfold gst
  obtain ⟨j, rfl⟩ : ∃ j, k = j + 2 := ⟨k - 2, by omega⟩
  rw [Nat.div_lt_iff_lt_mul (by omega)]
  have e1 : (j + 2) * (x - n) = (j + 2) * x - (j + 2) * n := Nat.mul_sub _ _ _
  have e2 : x * (j + 2 - 1) = (j + 2) * x - x := by
    have : j + 2 - 1 = j + 1 := by omega
    rw [this, Nat.mul_comm, Nat.add_mul, Nat.add_mul]; omega
  have h3 : (j + 2) * n ≤ (j + 2) * x := Nat.mul_le_mul_left _ (by omega)
  rw [e1, e2]
  have h4 : x ≤ (j + 2) * x := Nat.le_mul_of_pos_left _ (by omega)
  have h5 : (j + 2) * n < (j + 2) * x := Nat.mul_lt_mul_of_pos_left hx (by omega)
  omega
theorem gst_grow {n k x : Nat} (hk : 2 ≤ k) (hK : k ≤ 1000) (hx : n < x) (hxk : x ≤ k * n) : 1000 * (k * n + 1 - x) ≤ 999 * (k * n + 1 - gst n k x) := by
  have hlt := gst_lt hk hx hxk
  have hm : (k - 1) * gst n k x ≤ k * (x - n) - 1 := by unfold gst; exact Nat.mul_div_le _ _
  generalize gst n k x = y at hlt hm ⊢
  have e1 : k * (x - n) = k * x - k * n := Nat.mul_sub _ _ _
  have h5 : k * n + k ≤ k * x := by
    have : k * (n + 1) ≤ k * x := Nat.mul_le_mul_left _ hx
    rw [Nat.mul_add, Nat.mul_one] at this; exact this
  have e2 : (k - 1) * y = k * y - y := by rw [Nat.sub_mul, Nat.one_mul]
  have h6 : y ≤ k * y := Nat.le_mul_of_pos_left _ (by omega)
  rw [e1, e2] at hm
  have h7 : k * y + k * n + 1 ≤ k * x + y := by omega
  have h8 : k * (x - y) ≤ 1000 * (x - y) := Nat.mul_le_mul_right _ hK
  have e3 : k * (x - y) = k * x - k * y := Nat.mul_sub _ _ _
  have h9 : k * y ≤ k * x := Nat.mul_le_mul_left _ (by omega)
  omega
theorem gIt_le {n k : Nat} (hk : 2 ≤ k) : ∀ (i x : Nat), x ≤ k * n → gIt n k i x ≤ k * n := by
  intro i
  induction i with
  | zero => intro x h; exact h
  | succ i ih =>
    intro x h
    by_cases hx : n < x
    · simp only [gIt, hx, if_true]
      exact ih _ (by have := gst_lt hk hx h; omega)
    · rw [gIt_stay hx]; exact h
theorem gIt_grow {n k x : Nat} (hk : 2 ≤ k) (hK : k ≤ 1000) (hxk : x ≤ k * n) : ∀ i : Nat, n < gIt n k i x → 999 * (k * n + 1 - x) + i * (k * n + 1 - x) ≤ 999 * (k * n + 1 - gIt n k i x) ∧ k * n + 1 - x ≤ k * n + 1 - gIt n k i x := by
  intro i
  induction i with
  | zero => intro h; simp [gIt]
  | succ i ih =>
    intro h
    rw [gIt_add n k i 1 x] at h ⊢
    have hle := gIt_le hk i x hxk
    by_cases hx : n < gIt n k i x
    · obtain ⟨h1, h2⟩ := ih hx
      have e : gIt n k 1 (gIt n k i x) = gst n k (gIt n k i x) := by simp [gIt, hx]
      rw [e] at h ⊢
      have h3 := gst_grow hk hK hx hle
      have h4 := gst_lt hk hx hle
      rw [Nat.add_mul, Nat.one_mul]
      omega
    · rw [gIt_stay hx] at h
      exact absurd h hx
theorem gIt_dbl {n k : Nat} (hk : 2 ≤ k) (hK : k ≤ 1000) : ∀ (r x : Nat), x ≤ k * n → n < gIt n k (999 * r) x → 2 ^ r * (k * n + 1 - x) ≤ k * n + 1 - gIt n k (999 * r) x := by
  intro r
  induction r with
  | zero => intro x h1 h2; simp [gIt]
  | succ r ih =>
    intro x h1 h2
    rw [Nat.mul_succ, gIt_add] at h2 ⊢
    have hle := gIt_le hk (999 * r) x h1
    have h3 : n < gIt n k (999 * r) x := by
      rcases Nat.lt_or_ge n (gIt n k (999 * r) x) with h | h
      · exact h
      · rw [gIt_stay (by omega)] at h2; omega
    have h4 := ih x h1 h3
    have h5 := gIt_grow hk hK hle 999 h2
    rw [Nat.pow_succ, Nat.mul_comm (2 ^ r) 2, Nat.mul_assoc]
    omega
theorem gIt_end {n k x : Nat} (hn : n ≤ 1000000000000) (hk : 2 ≤ k) (hK : k ≤ 1000) (hxk : x ≤ k * n) : gIt n k 1000000 x ≤ n := by
  rcases Nat.lt_or_ge n (gIt n k 1000000 x) with h | h
  · exfalso
    have e : (1000000 : Nat) = 999 * 50 + 950050 := by decide
    rw [e, gIt_add] at h
    have h3 : n < gIt n k (999 * 50) x := by
      rcases Nat.lt_or_ge n (gIt n k (999 * 50) x) with h | h'
      · exact h
      · rw [gIt_stay (by omega)] at h; omega
    have h4 := gIt_dbl hk hK 50 x hxk h3
    have h5 : k * n ≤ 1000 * 1000000000000 := Nat.mul_le_mul hK hn
    have h6 : 2 ^ 50 * 1 ≤ 2 ^ 50 * (k * n + 1 - x) := Nat.mul_le_mul_left _ (by omega)
    have h7 : (2 : Nat) ^ 50 = 1125899906842624 := by decide
    rw [h7] at h6 h4
    omega
  · exact h
/-! as which one a place goes -/
def tst (n k x : Nat) : Nat := n + x - x / k
def tIt (n k : Nat) : Nat → Nat → Nat
  | 0, x => x
  | f + 1, x => if x % k = 0 then x else tIt n k f (tst n k x)
theorem tIt_stay {n k x : Nat} (h : x % k = 0) (f : Nat) : tIt n k f x = x := by
  cases f with
  | zero => rfl
  | succ f => simp [tIt, h]
theorem tIt_add (n k : Nat) : ∀ (a b x : Nat), tIt n k (a + b) x = tIt n k b (tIt n k a x) := by
  intro a
  induction a with
  | zero => intro b x; rw [Nat.zero_add]; rfl
  | succ a ih =>
    intro b x
    rw [Nat.succ_add]
    by_cases h : x % k = 0
    · rw [tIt_stay h, tIt_stay h, tIt_stay h]
    · simp only [tIt, h, if_false]
      exact ih b _
theorem tst_le {n k x : Nat} (hk : 2 ≤ k) (hx : x ≤ k * n) : tst n k x ≤ k * n ∧ x ≤ tst n k x := by
  unfold tst
  have h1 : x / k ≤ n := by
    have := Nat.div_le_div_right (c := k) hx
    rwa [Nat.mul_div_cancel_left _ (by omega)] at this
  have h2 : x / k ≤ x := Nat.div_le_self _ _
  refine ⟨?_, by omega⟩
  have h3 : k * (x / k) + x % k = x := Nat.div_add_mod x k
  have h4 : x % k < k := Nat.mod_lt _ (by omega)
  rcases Nat.lt_or_ge (x / k) n with h | h
  · obtain ⟨j, rfl⟩ : ∃ j, k = j + 2 := ⟨k - 2, by omega⟩
    generalize x / (j + 2) = q at *
    have h5 : (j + 2) * (q + 1) ≤ (j + 2) * n := Nat.mul_le_mul_left _ h
    have e1 : (j + 2) * (q + 1) = (j + 1) * q + q + (j + 2) := by rw [Nat.mul_add, Nat.mul_one, Nat.add_mul, Nat.add_mul]; omega
    have e2 : (j + 2) * q = (j + 1) * q + q := by rw [Nat.add_mul, Nat.add_mul]; omega
    have e3 : (j + 1) * (q + 1) ≤ (j + 1) * n := Nat.mul_le_mul_left _ h
    have e4 : (j + 2) * n = (j + 1) * n + n := by rw [Nat.add_mul, Nat.add_mul]; omega
    have e5 : (j + 1) * (q + 1) = (j + 1) * q + (j + 1) := by rw [Nat.mul_add, Nat.mul_one]
    omega
  · omega
theorem tst_fall {n k x : Nat} (hk : 2 ≤ k) (hK : k ≤ 1000) (hx : x ≤ k * n) : 1000 * (k * n - tst n k x) ≤ 999 * (k * n - x) := by
  obtain ⟨h1, h2⟩ := tst_le hk hx
  have h3 : k * (x / k) ≤ x := Nat.mul_div_le x k
  have h4 : x / k ≤ n := by
    have := Nat.div_le_div_right (c := k) hx
    rwa [Nat.mul_div_cancel_left _ (by omega)] at this
  have e : tst n k x = n + x - x / k := rfl
  generalize tst n k x = y at *
  generalize x / k = q at *
  have h5 : k * (n - q) ≤ 1000 * (n - q) := Nat.mul_le_mul_right _ hK
  have e3 : k * (n - q) = k * n - k * q := Nat.mul_sub _ _ _
  omega
theorem tIt_le {n k : Nat} (hk : 2 ≤ k) : ∀ (i x : Nat), x ≤ k * n → tIt n k i x ≤ k * n := by
  intro i
  induction i with
  | zero => intro x h; exact h
  | succ i ih =>
    intro x h
    by_cases hx : x % k = 0
    · rw [tIt_stay hx]; exact h
    · simp only [tIt, hx, if_false]
      exact ih _ (tst_le hk h).1
theorem tIt_fall {n k x : Nat} (hk : 2 ≤ k) (hK : k ≤ 1000) (hxk : x ≤ k * n) : ∀ i : Nat, tIt n k i x % k = 0 ∨ 2 * (k * n - tIt n k i x) ≤ k * n - x ∨ 2000 * (k * n - tIt n k i x) + i * (k * n - x) ≤ 2000 * (k * n - x) := by
  intro i
  induction i with
  | zero => simp [tIt]
  | succ i ih =>
    rw [tIt_add n k i 1 x]
    have hle := tIt_le hk i x hxk
    by_cases h0 : tIt n k i x % k = 0
    · left; rw [tIt_stay h0]; exact h0
    · have e : tIt n k 1 (tIt n k i x) = tst n k (tIt n k i x) := by simp [tIt, h0]
      rw [e]
      have h3 := tst_fall hk hK hle
      have h4 := tst_le hk hle
      right
      rcases ih with h | h | h
      · exact absurd h h0
      · left; omega
      · rcases Nat.lt_or_ge (k * n - x) (2 * (k * n - tIt n k i x)) with h9 | h9
        · right; rw [Nat.add_mul, Nat.one_mul]; omega
        · left; omega
theorem tIt_half {n k : Nat} (hk : 2 ≤ k) (hK : k ≤ 1000) : ∀ (r x : Nat), x ≤ k * n → tIt n k (1000 * r) x % k = 0 ∨ 2 ^ r * (k * n - tIt n k (1000 * r) x) ≤ k * n - x := by
  intro r
  induction r with
  | zero => intro x h1; right; simp [tIt]
  | succ r ih =>
    intro x h1
    rw [Nat.mul_succ, tIt_add]
    have hle := tIt_le hk (1000 * r) x h1
    rcases ih x h1 with h | h
    · left; rw [tIt_stay h]; exact h
    · rcases tIt_fall hk hK hle 1000 with h5 | h5
      · exact Or.inl h5
      · right
        have h6 : 2 * (k * n - tIt n k 1000 (tIt n k (1000 * r) x)) ≤ k * n - tIt n k (1000 * r) x := by omega
        rw [Nat.pow_succ, Nat.mul_assoc]
        exact Nat.le_trans (Nat.mul_le_mul_left _ h6) h
theorem tIt_end {n k x : Nat} (hn : n ≤ 1000000000000) (hk : 2 ≤ k) (hK : k ≤ 1000) (hxk : x ≤ k * n) : tIt n k 1000000 x % k = 0 := by
  have e : (1000000 : Nat) = 1000 * 50 + 950000 := by decide
  rw [e, tIt_add]
  have hle := tIt_le hk (1000 * 50) x hxk
  rcases tIt_half hk hK 50 x hxk with h | h
  · rw [tIt_stay h]; exact h
  · have h5 : k * n ≤ 1000 * 1000000000000 := Nat.mul_le_mul hK hn
    have h7 : (2 : Nat) ^ 50 = 1125899906842624 := by decide
    rw [h7] at h
    have h8 : tIt n k (1000 * 50) x = k * n := by omega
    have h9 : tIt n k (1000 * 50) x % k = 0 := by rw [h8]; exact Nat.mul_mod_right _ _
    rw [tIt_stay h9]; exact h9
/-- the answers -/
def goN (n k j : Nat) : Nat := if k < 2 then j - 1 else gIt n k 1000000 (k * j) - 1
def tuN (n k q : Nat) : Nat := if k < 2 then q + 1 else tIt n k 1000000 (q + 1) / k
end
section
/-! what great rings answer -/
theorem lN_wi {x : Int64} {a b : Nat} (h : wi x.toInt a b = true) (hb : b < 2 ^ 63) : ∃ k : Nat, a ≤ k ∧ k ≤ b ∧ x = lN k := by
  obtain ⟨h1, h2⟩ := wi_t.mp h
  refine ⟨x.toInt.toNat, by omega, by omega, ?_⟩
  rw [eq64, pk_lT (by omega)]
  omega
def spGoes (n : Int64) (k : Int32) (j : Int64) : Int64 := if (wi n.toInt 1 1000000000000 && wi k.toInt 1 1000 && wi j.toInt 1 n.toInt) = true then lN (goN n.toInt.toNat k.toInt.toNat j.toInt.toNat) else -1
def spTurn (n : Int64) (k : Int32) (q : Int64) : Int64 := if (wi n.toInt 1 1000000000000 && wi k.toInt 1 1000 && wi q.toInt 0 (n.toInt - 1)) = true then lN (tuN n.toInt.toNat k.toInt.toNat q.toInt.toNat) else -1
def spLast (n : Int64) (k : Int32) : Int64 := if (wi n.toInt 1 1000000000000 && wi k.toInt 1 1000) = true then lN (goN n.toInt.toNat k.toInt.toNat n.toInt.toNat) else -1
theorem spGoes_t {n k j : Nat} (h1 : 1 ≤ n) (h2 : n ≤ 1000000000000) (h3 : 1 ≤ k) (h4 : k ≤ 1000) (h5 : 1 ≤ j) (h6 : j ≤ n) : lN (goN n k j) = spGoes (lN n) (nI k) (lN j) := by
  have e1 : (lN n).toInt = n := pk_lT (by omega)
  have e2 : (nI k).toInt = k := nI_toInt (by omega)
  have e3 : (lN j).toInt = j := pk_lT (by omega)
  unfold spGoes
  rw [e1, e2, e3, wi_t.mpr (by omega), wi_t.mpr (by omega), wi_t.mpr (by omega)]
  rfl
theorem spTurn_t {n k q : Nat} (h1 : 1 ≤ n) (h2 : n ≤ 1000000000000) (h3 : 1 ≤ k) (h4 : k ≤ 1000) (h5 : q < n) : lN (tuN n k q) = spTurn (lN n) (nI k) (lN q) := by
  have e1 : (lN n).toInt = n := pk_lT (by omega)
  have e2 : (nI k).toInt = k := nI_toInt (by omega)
  have e3 : (lN q).toInt = q := pk_lT (by omega)
  unfold spTurn
  rw [e1, e2, e3, wi_t.mpr (by omega), wi_t.mpr (by omega), wi_t.mpr (by omega)]
  rfl
theorem spLast_t {n k : Nat} (h1 : 1 ≤ n) (h2 : n ≤ 1000000000000) (h3 : 1 ≤ k) (h4 : k ≤ 1000) : lN (goN n k n) = spLast (lN n) (nI k) := by
  have e1 : (lN n).toInt = n := pk_lT (by omega)
  have e2 : (nI k).toInt = k := nI_toInt (by omega)
  unfold spLast
  rw [e1, e2, wi_t.mpr (by omega), wi_t.mpr (by omega)]
  rfl
end
section
/-! heaps: bits; the families of bits and masks are pasted from kit/laws -/
def bt (x : Int32) (i : Nat) : Bool := x.toBitVec.getLsbD i
theorem b_ext {x y : Int32} (h : ∀ i, i < 32 → bt x i = bt y i) : x = y := Int32.toBitVec_inj.mp (BitVec.eq_of_getLsbD_eq (fun i hi => h i hi))
theorem b_or (x y : Int32) (i : Nat) : bt (x ||| y) i = (bt x i || bt y i) := by unfold bt; rw [Int32.toBitVec_or, BitVec.getLsbD_or]
theorem b_and (x y : Int32) (i : Nat) : bt (x &&& y) i = (bt x i && bt y i) := by unfold bt; rw [Int32.toBitVec_and, BitVec.getLsbD_and]
theorem b_xor (x y : Int32) (i : Nat) : bt (x ^^^ y) i = (bt x i ^^ bt y i) := by unfold bt; rw [Int32.toBitVec_xor, BitVec.getLsbD_xor]
theorem b_big {x : Int32} {i : Nat} (h : 32 ≤ i) : bt x i = false := BitVec.getLsbD_of_ge _ _ h
theorem b_255 (i : Nat) : bt 255 i = decide (i < 8) := by
  rcases Nat.lt_or_ge i 32 with h | h
  · exact (by decide +kernel : ∀ i, i < 32 → bt 255 i = decide (i < 8)) i h
  · rw [b_big h, decide_eq_false (by omega)]
theorem b_65535 (i : Nat) : bt 65535 i = decide (i < 16) := by
  rcases Nat.lt_or_ge i 32 with h | h
  · exact (by decide +kernel : ∀ i, i < 32 → bt 65535 i = decide (i < 16)) i h
  · rw [b_big h, decide_eq_false (by omega)]
theorem b_m1 : ∀ i, i < 32 → bt (-1) i = true := by decide +kernel
theorem b_0 (i : Nat) : bt 0 i = false := BitVec.getLsbD_zero
theorem s_l : ∀ n, n < 32 → ((nI n &&& 31).toBitVec.smod 32).toNat = n := by decide +kernel
theorem s_u : ∀ n, n < 32 → (((nI n).toUInt32 &&& Int32.toUInt32 31).toBitVec % 32).toNat = n := by decide +kernel
theorem b_shl (n : Nat) (hn : n < 32) (x : Int32) {i : Nat} (hi : i < 32) : bt (x <<< (nI n &&& 31)) i = (decide (n ≤ i) && bt x (i - n)) := by
  unfold bt
  rw [Int32.toBitVec_shiftLeft]
  show (x.toBitVec <<< ((nI n &&& 31).toBitVec.smod 32).toNat).getLsbD i = _
  rw [s_l n hn, BitVec.getLsbD_shiftLeft]
  rcases Nat.lt_or_ge i n with h | h
  · simp [h, Nat.not_le.mpr h]
  · simp [hi, h, Nat.not_lt.mpr h]
theorem b_ushr (n : Nat) (hn : n < 32) (x : Int32) (i : Nat) : bt ((x.toUInt32 >>> ((nI n).toUInt32 &&& Int32.toUInt32 31)).toInt32) i = bt x (n + i) := by
  show (x.toUInt32 >>> ((nI n).toUInt32 &&& Int32.toUInt32 31)).toBitVec.getLsbD i = x.toUInt32.toBitVec.getLsbD (n + i)
  rw [UInt32.toBitVec_shiftRight]
  show (x.toUInt32.toBitVec >>> (((nI n).toUInt32 &&& Int32.toUInt32 31).toBitVec % 32).toNat).getLsbD i = _
  rw [s_u n hn, BitVec.getLsbD_ushiftRight]
theorem b_sshr (n : Nat) (hn : n < 32) (x : Int32) {i : Nat} (hi : i < 32) : bt (x >>> (nI n &&& 31)) i = if n + i < 32 then bt x (n + i) else bt x 31 := by
  unfold bt
  rw [Int32.toBitVec_shiftRight]
  show (x.toBitVec.sshiftRight ((nI n &&& 31).toBitVec.smod 32).toNat).getLsbD i = _
  rw [s_l n hn, BitVec.getLsbD_sshiftRight, BitVec.msb_eq_getLsbD_last]
  simp [hi]
theorem fa_and (a b : Nat) : nI a &&& nI b = nI (a &&& b) := by
  apply Int32.toBitVec_inj.1
  show BitVec.ofNat 32 a &&& BitVec.ofNat 32 b = BitVec.ofNat 32 (a &&& b)
  apply BitVec.eq_of_getLsbD_eq
  intro i hi
  simp [hi]
theorem fa_or (a b : Nat) : nI a ||| nI b = nI (a ||| b) := by
  apply Int32.toBitVec_inj.1
  show BitVec.ofNat 32 a ||| BitVec.ofNat 32 b = BitVec.ofNat 32 (a ||| b)
  apply BitVec.eq_of_getLsbD_eq
  intro i hi
  simp [hi]
/-- a remainder by a power of two, as a mask -/
theorem fa_mask (n k : Nat) : nI n &&& nI (2 ^ k - 1) = nI (n % 2 ^ k) := by rw [fa_and, Nat.and_two_pow_sub_one_eq_mod]
theorem bt_nI (n i : Nat) : bt (nI n) i = (decide (i < 32) && n.testBit i) := by
  unfold bt
  show (BitVec.ofNat 32 n).getLsbD i = _
  rw [BitVec.getLsbD_ofNat]
theorem sh1 {a : Nat} (h : a < 31) : (1 : Int32) <<< (nI a &&& 31) = nI (2 ^ a) := by
  have h2 : (2 : Nat) ^ a < 2 ^ 31 := Nat.pow_lt_pow_right (by decide) h
  have := pk_shlN (n := 1) (nI a &&& 31) a (s_l a (by omega)) (by omega)
  rw [Nat.one_mul] at this
  exact this
theorem shl_nI {b a : Nat} (ha : a < 32) (h : b * 2 ^ a < 2 ^ 32) : nI b <<< (nI a &&& 31) = nI (b * 2 ^ a) := pk_shlN (nI a &&& 31) a (s_l a ha) h
theorem shr_nI {b a : Nat} (hb : b < 2 ^ 31) (h : a < 32) : nI b >>> (nI a &&& 31) = nI (b / 2 ^ a) := pk_shrN hb (nI a &&& 31) a (s_l a h)
theorem pow_lt31 {a : Nat} (h : a < 31) : (2 : Nat) ^ a < 2 ^ 31 := Nat.pow_lt_pow_right (by decide) h
theorem pow_pos (a : Nat) : 0 < (2 : Nat) ^ a := Nat.pow_pos (by decide)
theorem bit_nI (b a : Nat) : nI (b / 2 ^ a) &&& 1 = nI (b / 2 ^ a % 2) := by
  show nI (b / 2 ^ a) &&& nI 1 = _
  rw [fa_and, Nat.and_one_is_mod]
theorem bit_0 {b a : Nat} : nI (b / 2 ^ a % 2) = 0 ↔ b.testBit a = false := by
  have h : b / 2 ^ a % 2 < 2 := Nat.mod_lt _ (by decide)
  rw [← nI_0, nI_eq (by omega) (by omega), Nat.testBit_eq_decide_div_mod_eq, decide_eq_false_iff_not]
  omega
theorem bit_1 {b a : Nat} : nI (b / 2 ^ a % 2) = 1 ↔ b.testBit a = true := by
  have h : b / 2 ^ a % 2 < 2 := Nat.mod_lt _ (by decide)
  show nI (b / 2 ^ a % 2) = nI 1 ↔ _
  rw [nI_eq (by omega) (by omega), Nat.testBit_eq_decide_div_mod_eq, decide_eq_true_iff]
theorem pow_m1 {a : Nat} : nI (2 ^ a) - 1 = nI (2 ^ a - 1) := pk_sub (b := 1) (pow_pos a)
/-- the bits with one taken out, those above moved down -/
def wob (b a : Nat) : Nat := 2 ^ a * (b / 2 ^ (a + 1)) + b % 2 ^ a
theorem wob_tb (b a i : Nat) : (wob b a).testBit i = if i < a then b.testBit i else b.testBit (i + 1) := by
  unfold wob
  rw [Nat.testBit_two_pow_mul_add _ (Nat.mod_lt _ (pow_pos a))]
  by_cases h : i < a
  · simp [h]
  · simp only [h, if_false]
    rw [Nat.testBit_div_two_pow]
    congr 1
    omega
theorem wob_lt {b a m : Nat} (hb : b < 2 ^ (m + 1)) (ha : a < m + 1) : wob b a < 2 ^ m := by
  apply Nat.lt_pow_two_of_testBit
  intro i hi
  rw [wob_tb, if_neg (by omega)]
  exact Nat.testBit_lt_two_pow (Nat.lt_of_lt_of_le hb (Nat.pow_le_pow_right (by decide) (by omega)))
theorem wob_int {b a : Nat} (hb : b < 2 ^ 31) (ha : a < 31) : (nI b &&& nI (2 ^ a - 1)) ||| ((nI b >>> ((1 : Int32) &&& 31)) &&& (nI (2 ^ a - 1) ^^^ (-1))) = nI (wob b a) := by
  have e : nI b >>> ((1 : Int32) &&& 31) = nI (b / 2 ^ 1) := shr_nI (a := 1) hb (by omega)
  rw [e]
  apply b_ext
  intro i hi
  rw [b_or, b_and, b_and, b_xor, bt_nI, bt_nI, bt_nI, bt_nI, b_m1 i hi, Nat.testBit_two_pow_sub_one, wob_tb, Nat.testBit_div_two_pow]
  by_cases h : i < a
  · simp [h, hi]
  · simp [h, hi, Nat.add_comm 1 i]
/-- how many of the first n hold -/
def bc (f : Nat → Bool) : Nat → Nat
  | 0 => 0
  | n + 1 => bc f n + (if f n then 1 else 0)
theorem bc_le (f : Nat → Bool) : ∀ n, bc f n ≤ n := by
  intro n
  induction n with
  | zero => exact Nat.le_refl _
  | succ n ih => unfold bc; split <;> omega
theorem bc_0 {f : Nat → Bool} : ∀ {n : Nat}, bc f n = 0 → ∀ i, i < n → f i = false := by
  intro n
  induction n with
  | zero => intro _ i hi; omega
  | succ n ih =>
    intro h i hi
    unfold bc at h
    by_cases hf : f n = true
    · rw [if_pos hf] at h; omega
    · rw [if_neg hf] at h
      rcases Nat.lt_or_ge i n with h2 | h2
      · exact ih (by omega) i h2
      · have : i = n := by omega
        subst this
        simpa using hf
theorem bc_congr {f g : Nat → Bool} : ∀ {n : Nat}, (∀ i, i < n → f i = g i) → bc f n = bc g n := by
  intro n
  induction n with
  | zero => intro _; rfl
  | succ n ih => intro h; unfold bc; rw [ih (fun i hi => h i (by omega)), h n (by omega)]
theorem bc_out (f : Nat → Bool) (a : Nat) : ∀ m : Nat, a < m + 1 → bc f (m + 1) = bc (fun q => if q < a then f q else f (q + 1)) m + (if f a then 1 else 0) := by
  intro m
  induction m with
  | zero => intro h; have : a = 0 := by omega
            subst this; rfl
  | succ m ih =>
    intro h
    rcases Nat.lt_or_ge a (m + 1) with h2 | h2
    · rw [bc, ih h2, bc, if_neg (show ¬ m < a by omega)]
      omega
    · have : a = m + 1 := by omega
      subst this
      rw [bc]
      congr 1
      exact bc_congr (fun i hi => by simp [hi])
theorem bc_wob {b a m : Nat} (ha : a < m + 1) (h : b.testBit a = true) : bc (wob b a).testBit m + 1 = bc b.testBit (m + 1) := by
  rw [bc_out b.testBit a m ha, if_pos h]
  congr 1
  exact bc_congr (fun i hi => wob_tb b a i)
theorem tb_zero {b m : Nat} (hb : b < 2 ^ m) (h : bc b.testBit m = 0) : b = 0 := by
  apply Nat.eq_of_testBit_eq
  intro i
  rw [Nat.zero_testBit]
  rcases Nat.lt_or_ge i m with h2 | h2
  · exact bc_0 h i h2
  · exact Nat.testBit_lt_two_pow (Nat.lt_of_lt_of_le hb (Nat.pow_le_pow_right (by decide) h2))
theorem bc_zero (m : Nat) : bc (Nat.testBit 0) m = 0 := by
  induction m with
  | zero => rfl
  | succ m ih => rw [bc, ih, Nat.zero_testBit]; rfl
/-- whether a heap goes first -/
def gF (k : Nat) : Nat → Nat → Nat → Bool
  | 0, _, _ => true
  | m + 1, at_, b => if b = 0 then true else if b.testBit ((at_ + k - 1) % (m + 1)) then gF k m ((at_ + k - 1) % (m + 1)) (wob b ((at_ + k - 1) % (m + 1))) else false
theorem gF_z (k m a : Nat) : gF k m a 0 = true := by
  cases m with
  | zero => rfl
  | succ m => simp [gF]
theorem gF_s {k m a b : Nat} (hb : ¬ b = 0) (h : b.testBit ((a + k - 1) % (m + 1)) = true) : gF k (m + 1) a b = gF k m ((a + k - 1) % (m + 1)) (wob b ((a + k - 1) % (m + 1))) := by simp [gF, hb, h]
theorem gF_n {k m a b : Nat} (hb : ¬ b = 0) (h : b.testBit ((a + k - 1) % (m + 1)) = false) : gF k (m + 1) a b = false := by simp [gF, hb, h]
def isHp (n h : Int32) : Bool := wi n.toInt 2 20 && wi h.toInt 1 ((2 : Int) ^ n.toInt.toNat - 2)
theorem isHp_t {n h : Int32} (hh : isHp n h = true) : ∃ a b : Nat, n = nI a ∧ h = nI b ∧ 2 ≤ a ∧ a ≤ 20 ∧ 1 ≤ b ∧ b + 2 ≤ 2 ^ a := by
  unfold isHp at hh
  rw [Bool.and_eq_true] at hh
  obtain ⟨a, h1, h2, rfl⟩ := nI_wi (a := 2) (b := 20) hh.1
  have h3 := hh.2
  rw [nI_toInt (by omega)] at h3
  have h4 : (2 : Nat) ^ 2 ≤ 2 ^ a := Nat.pow_le_pow_right (by decide) h1
  have h5 : wi h.toInt (1 : Nat) ((2 ^ a - 2 : Nat) : Int) = true := by
    rw [Int.ofNat_sub (by omega)]
    simpa using h3
  obtain ⟨b, h6, h7, rfl⟩ := nI_wi h5
  exact ⟨a, b, rfl, rfl, h1, h2, h6, by omega⟩
def spFirst (n h k : Int32) : Int32 := if (isHp n h && wi k.toInt 1 10000) = true then zb (gF k.toInt.toNat n.toInt.toNat 0 h.toInt.toNat) else -1
/-- the least count of c .. c + f - 1 -/
def lstN (n h : Nat) : Nat → Nat → Int32
  | 0, _ => -9
  | f + 1, c => if gF c n 0 h = true then nI c else lstN n h f (c + 1)
def spLeast (n h : Int32) : Int32 := if isHp n h = true then lstN n.toInt.toNat h.toInt.toNat 10000 1 else -1
end
section
/-! chosen counts: numbers alone -/
theorem tb_mulp (b k j : Nat) : (b * 2 ^ k).testBit j = if j < k then false else b.testBit (j - k) := by
  have h := Nat.testBit_two_pow_mul_add b (b := 0) (i := k) (pow_pos k) j
  rw [Nat.add_zero, Nat.mul_comm, Nat.zero_testBit] at h
  exact h
theorem tb_big {b k j : Nat} (hb : b < 2 ^ k) (h : k ≤ j) : b.testBit j = false := Nat.testBit_lt_two_pow (Nat.lt_of_lt_of_le hb (Nat.pow_le_pow_right (by decide) h))
/-- from which place one has come -/
def sTo (m c p : Nat) : Nat := (p + m - c % m) % m
theorem sTo_le {m c p : Nat} (hm : 0 < m) (hp : p < m) (h : c % m ≤ p) : sTo m c p = p - c % m := by
  unfold sTo
  rw [show p + m - c % m = (p - c % m) + m by omega, Nat.add_mod_right, Nat.mod_eq_of_lt (by omega)]
theorem sTo_gt {m c p : Nat} (hm : 0 < m) (hp : p < m) (h : p < c % m) : sTo m c p = p + m - c % m := by
  unfold sTo
  have := Nat.mod_lt c hm
  rw [Nat.mod_eq_of_lt (by omega)]
def sBh (m c b : Nat) : Nat := (b * 2 ^ (c % m) ||| b * 2 ^ (c % m) / 2 ^ m) % 2 ^ m
theorem sBh_tb {m c b p : Nat} (hm : 0 < m) (hb : b < 2 ^ (m - 1)) : (sBh m c b).testBit p = (decide (p < m) && b.testBit (sTo m c p)) := by
  unfold sBh
  rw [Nat.testBit_mod_two_pow]
  by_cases hp : p < m
  · have hlt := Nat.mod_lt c hm
    rw [Nat.testBit_or, Nat.testBit_div_two_pow, tb_mulp, tb_mulp]
    rcases Nat.lt_or_ge p (c % m) with h | h
    · rw [if_pos h, if_neg (by omega), sTo_gt hm hp h, Bool.false_or]
    · rw [if_neg (by omega), if_neg (by omega), sTo_le hm hp h, tb_big hb (show m - 1 ≤ p + m - c % m by omega), Bool.or_false]
  · simp [hp]
def sSm (m set b p : Nat) : Nat → Bool
  | 0 => false
  | c + 1 => sSm m set b p c || (set.testBit c && b.testBit (sTo m (c + 1) p))
def sAl (m set b p : Nat) : Nat → Bool
  | 0 => true
  | c + 1 => sAl m set b p c && (!set.testBit c || b.testBit (sTo m (c + 1) p))
def sBS (m set b : Nat) : Nat → Nat
  | 0 => 0
  | c + 1 => if set.testBit c = true then sBS m set b c ||| sBh m (c + 1) b else sBS m set b c
def sBA (m set b : Nat) : Nat → Nat
  | 0 => 2 ^ m - 1
  | c + 1 => if set.testBit c = true then sBA m set b c &&& sBh m (c + 1) b else sBA m set b c
theorem sBS_tb {m set b p : Nat} (hm : 0 < m) (hb : b < 2 ^ (m - 1)) : ∀ c, (sBS m set b c).testBit p = (decide (p < m) && sSm m set b p c) := by
  intro c
  induction c with
  | zero => simp [sBS, sSm]
  | succ c ih =>
    unfold sBS sSm
    cases h : set.testBit c with
    | true => rw [if_pos rfl, Nat.testBit_or, ih, sBh_tb hm hb]; cases decide (p < m) <;> simp
    | false => rw [if_neg (by decide), ih]; simp
theorem sBA_tb {m set b p : Nat} (hm : 0 < m) (hb : b < 2 ^ (m - 1)) : ∀ c, (sBA m set b c).testBit p = (decide (p < m) && sAl m set b p c) := by
  intro c
  induction c with
  | zero => simp [sBA, sAl, Nat.testBit_two_pow_sub_one]
  | succ c ih =>
    unfold sBA sAl
    cases h : set.testBit c with
    | true => rw [if_pos rfl, Nat.testBit_and, ih, sBh_tb hm hb]; cases decide (p < m) <;> simp
    | false => rw [if_neg (by decide), ih]; simp
theorem sBS_lt {m set b c : Nat} (hm : 0 < m) (hb : b < 2 ^ (m - 1)) : sBS m set b c < 2 ^ m := by
  apply Nat.lt_pow_two_of_testBit
  intro i hi
  rw [sBS_tb hm hb, decide_eq_false (by omega), Bool.false_and]
theorem sBA_lt {m set b c : Nat} (hm : 0 < m) (hb : b < 2 ^ (m - 1)) : sBA m set b c < 2 ^ m := by
  apply Nat.lt_pow_two_of_testBit
  intro i hi
  rw [sBA_tb hm hb, decide_eq_false (by omega), Bool.false_and]
theorem sBh_lt (m c b : Nat) : sBh m c b < 2 ^ m := Nat.mod_lt _ (pow_pos m)
/-- the bits of those that hold -/
def acc (f : Nat → Bool) : Nat → Nat
  | 0 => 0
  | p + 1 => acc f p ||| (if f p = true then 2 ^ p else 0)
theorem acc_tb (f : Nat → Bool) (q : Nat) : ∀ p, (acc f p).testBit q = (decide (q < p) && f q) := by
  intro p
  induction p with
  | zero => simp [acc]
  | succ p ih =>
    unfold acc
    rw [Nat.testBit_or, ih]
    by_cases h : q = p
    · subst h
      cases hf : f q with
      | true => simp
      | false => simp
    · have e : (if f p = true then 2 ^ p else 0).testBit q = false := by
        split
        · rw [Nat.testBit_two_pow]; exact decide_eq_false (fun h2 => h h2.symm)
        · exact Nat.zero_testBit q
      rw [e, Bool.or_false]
      congr 1
      rw [decide_eq_decide]
      omega
theorem acc_lt (f : Nat → Bool) (p : Nat) : acc f p < 2 ^ p := by
  apply Nat.lt_pow_two_of_testBit
  intro i hi
  rw [acc_tb, decide_eq_false (by omega), Bool.false_and]
/-- as the reference asks: who is out is left out -/
def mSm (m set b p : Nat) : Nat → Bool
  | 0 => false
  | c + 1 => mSm m set b p c || (set.testBit c && !decide (c % m = p) && b.testBit (sTo m (c + 1) p))
def mAl (m set b p : Nat) : Nat → Bool
  | 0 => true
  | c + 1 => mAl m set b p c && (!set.testBit c || (!decide (c % m = p) && b.testBit (sTo m (c + 1) p)))
theorem sTo_out : ∀ m, m < 13 → ∀ c, c < 6 → ∀ p, p < m → c % m = p → sTo m (c + 1) p = m - 1 := by decide +kernel
theorem mSm_eq {m set b p : Nat} (hm : m < 13) (hp : p < m) (hb : b < 2 ^ (m - 1)) : ∀ c, c ≤ 6 → mSm m set b p c = sSm m set b p c := by
  intro c
  induction c with
  | zero => intro _; rfl
  | succ c ih =>
    intro hc
    unfold mSm sSm
    rw [ih (by omega)]
    by_cases h : c % m = p
    · rw [sTo_out m hm c (by omega) p hp h, tb_big hb (Nat.le_refl _)]; simp
    · simp [h]
theorem mAl_eq {m set b p : Nat} (hm : m < 13) (hp : p < m) (hb : b < 2 ^ (m - 1)) : ∀ c, c ≤ 6 → mAl m set b p c = sAl m set b p c := by
  intro c
  induction c with
  | zero => intro _; rfl
  | succ c ih =>
    intro hc
    unfold mAl sAl
    rw [ih (by omega)]
    by_cases h : c % m = p
    · rw [sTo_out m hm c (by omega) p hp h, tb_big hb (Nat.le_refl _)]; simp
    · simp [h]
theorem acc_S {m set b : Nat} (hm0 : 0 < m) (hm : m < 13) (hb : b < 2 ^ (m - 1)) : acc (fun p => mSm m set b p 6) m = sBS m set b 6 := by
  apply Nat.eq_of_testBit_eq
  intro i
  rw [acc_tb, sBS_tb hm0 hb]
  by_cases h : i < m
  · rw [mSm_eq hm h hb 6 (by omega)]
  · simp [h]
theorem acc_A {m set b : Nat} (hm0 : 0 < m) (hm : m < 13) (hb : b < 2 ^ (m - 1)) : acc (fun p => mAl m set b p 6) m = sBA m set b 6 := by
  apply Nat.eq_of_testBit_eq
  intro i
  rw [acc_tb, sBA_tb hm0 hb]
  by_cases h : i < m
  · rw [mAl_eq hm h hb 6 (by omega)]
  · simp [h]
/-- the reference's MAY: a level's fold -/
def moI (m set x v : Nat) (bx : Bool) : Nat → Nat
  | 0 => v
  | c + 1 => if (bx && set.testBit c) = true then moI m set x v bx c ||| 2 ^ ((x + (c + 1)) % m) else moI m set x v bx c
def moO (m set b : Nat) : Nat → Nat
  | 0 => 0
  | x + 1 => moI m set x (moO m set b x) (b.testBit x) 6
def sI (m set x q : Nat) : Nat → Bool
  | 0 => false
  | c + 1 => sI m set x q c || (set.testBit c && decide ((x + (c + 1)) % m = q))
def sO (m set b q : Nat) : Nat → Bool
  | 0 => false
  | x + 1 => sO m set b q x || (b.testBit x && sI m set x q 6)
theorem moI_tb (m set x v q : Nat) (bx : Bool) : ∀ c, (moI m set x v bx c).testBit q = (v.testBit q || (bx && sI m set x q c)) := by
  intro c
  induction c with
  | zero => simp [moI, sI]
  | succ c ih =>
    unfold moI sI
    cases bx with
    | false => rw [Bool.false_and, if_neg (by decide), ih]; simp
    | true =>
      cases h : set.testBit c with
      | true => rw [Bool.and_self, if_pos rfl, Nat.testBit_or, ih, Nat.testBit_two_pow]; simp [Bool.or_assoc]
      | false => rw [Bool.and_false, if_neg (by decide), ih]; simp
theorem moO_tb (m set b q : Nat) : ∀ x, (moO m set b x).testBit q = sO m set b q x := by
  intro x
  induction x with
  | zero => simp [moO, sO]
  | succ x ih => unfold moO sO; rw [moI_tb, ih]
theorem sI_iff (m set x q : Nat) : ∀ c, sI m set x q c = true ↔ ∃ j, j < c ∧ set.testBit j = true ∧ (x + (j + 1)) % m = q := by
  intro c
  induction c with
  | zero => simp [sI]
  | succ c ih =>
    unfold sI
    rw [Bool.or_eq_true, ih, Bool.and_eq_true, decide_eq_true_iff]
    constructor
    · rintro (⟨j, h1, h2⟩ | h)
      · exact ⟨j, by omega, h2⟩
      · exact ⟨c, by omega, h⟩
    · rintro ⟨j, h1, h2⟩
      rcases Nat.lt_or_ge j c with h | h
      · exact Or.inl ⟨j, h, h2⟩
      · have : j = c := by omega
        subst this
        exact Or.inr h2
theorem sO_iff (m set b q : Nat) : ∀ x, sO m set b q x = true ↔ ∃ j, j < x ∧ b.testBit j = true ∧ sI m set j q 6 = true := by
  intro x
  induction x with
  | zero => simp [sO]
  | succ c ih =>
    unfold sO
    rw [Bool.or_eq_true, ih, Bool.and_eq_true]
    constructor
    · rintro (⟨j, h1, h2⟩ | h)
      · exact ⟨j, by omega, h2⟩
      · exact ⟨c, by omega, h⟩
    · rintro ⟨j, h1, h2⟩
      rcases Nat.lt_or_ge j c with h | h
      · exact Or.inl ⟨j, h, h2⟩
      · have : j = c := by omega
        subst this
        exact Or.inr h2
theorem sSm_iff (m set b p : Nat) : ∀ c, sSm m set b p c = true ↔ ∃ j, j < c ∧ set.testBit j = true ∧ b.testBit (sTo m (j + 1) p) = true := by
  intro c
  induction c with
  | zero => simp [sSm]
  | succ c ih =>
    unfold sSm
    rw [Bool.or_eq_true, ih, Bool.and_eq_true]
    constructor
    · rintro (⟨j, h1, h2⟩ | h)
      · exact ⟨j, by omega, h2⟩
      · exact ⟨c, by omega, h⟩
    · rintro ⟨j, h1, h2⟩
      rcases Nat.lt_or_ge j c with h | h
      · exact Or.inl ⟨j, h, h2⟩
      · have : j = c := by omega
        subst this
        exact Or.inr h2
theorem sTo_in : ∀ m, m < 13 → ∀ c, c < 6 → ∀ x, x < m → sTo m (c + 1) ((x + (c + 1)) % m) = x := by decide +kernel
theorem sTo_back : ∀ m, m < 13 → ∀ c, c < 6 → ∀ q, q < m → (sTo m (c + 1) q + (c + 1)) % m = q := by decide +kernel
theorem moO_eq {m set b : Nat} (hm0 : 0 < m) (hm : m < 13) (hb : b < 2 ^ (m - 1)) : moO m set b (m - 1) = sBS m set b 6 := by
  apply Nat.eq_of_testBit_eq
  intro q
  rw [moO_tb, sBS_tb hm0 hb]
  by_cases h : q < m
  · rw [decide_eq_true h, Bool.true_and, Bool.eq_iff_iff, sO_iff, sSm_iff]
    constructor
    · rintro ⟨x, h1, h2, h3⟩
      obtain ⟨c, h4, h5, rfl⟩ := (sI_iff _ _ _ _ _).mp h3
      exact ⟨c, h4, h5, by rw [sTo_in m hm c h4 x (by omega)]; exact h2⟩
    · rintro ⟨c, h4, h5, h6⟩
      refine ⟨sTo m (c + 1) q, ?_, h6, (sI_iff _ _ _ _ _).mpr ⟨c, h4, h5, sTo_back m hm c h4 q h⟩⟩
      rcases Nat.lt_or_ge (sTo m (c + 1) q) (m - 1) with h7 | h7
      · exact h7
      · rw [tb_big hb h7] at h6; cases h6
  · rw [decide_eq_false h, Bool.false_and]
    cases h2 : sO m set b q (m - 1) with
    | false => rfl
    | true =>
      obtain ⟨x, -, -, h3⟩ := (sO_iff _ _ _ _ _).mp h2
      obtain ⟨c, -, -, h5⟩ := (sI_iff _ _ _ _ _).mp h3
      exact absurd (h5 ▸ Nat.mod_lt _ hm0) h
/-- MAY of the ring of k + 1 -/
def mayN (set : Nat) : Nat → Nat
  | 0 => 1
  | k + 1 => sBS (k + 2) set (mayN set k) 6
theorem mayN_lt (set : Nat) : ∀ k, mayN set k < 2 ^ (k + 1) := by
  intro k
  induction k with
  | zero => show (1 : Nat) < 2 ^ 1; decide
  | succ k ih => exact sBS_lt (by omega) ih
/-- CAN of the ring of k + 1: one's own turn, the foe's turn -/
def mfN (own foe : Nat) : Nat → Nat × Nat
  | 0 => (1, 1)
  | k + 1 => (sBS (k + 2) own (mfN own foe k).2 6, sBA (k + 2) foe (mfN own foe k).1 6)
theorem mfN_lt (own foe : Nat) : ∀ k, (mfN own foe k).1 < 2 ^ (k + 1) ∧ (mfN own foe k).2 < 2 ^ (k + 1) := by
  intro k
  induction k with
  | zero => exact ⟨show (1 : Nat) < 2 ^ 1 by decide, show (1 : Nat) < 2 ^ 1 by decide⟩
  | succ k ih => exact ⟨sBS_lt (by omega) ih.2, sBA_lt (by omega) ih.1⟩
/-- the class goes up with one row: whose turn it is in the ring of k + 1, if n are at first -/
def canK (n own foe k : Nat) : Nat := if (n - (k + 1)) % 2 = 0 then (mfN own foe k).1 else (mfN own foe k).2
theorem canK_lt (n own foe k : Nat) : canK n own foe k < 2 ^ (k + 1) := by
  unfold canK; split
  · exact (mfN_lt own foe k).1
  · exact (mfN_lt own foe k).2
theorem canK_own {n own foe k : Nat} (h : k + 2 ≤ n) (h2 : (n - (k + 2)) % 2 = 0) : sBS (k + 2) own (canK n own foe k) 6 = canK n own foe (k + 1) := by
  unfold canK
  rw [if_neg (by omega), if_pos (by omega)]
  rfl
theorem canK_foe {n own foe k : Nat} (h : k + 2 ≤ n) (h2 : ¬ (n - (k + 2)) % 2 = 0) : sBA (k + 2) foe (canK n own foe k) 6 = canK n own foe (k + 1) := by
  unfold canK
  rw [if_pos (by omega), if_neg (by omega)]
  rfl
def spMay (n set : Int32) : Int32 := if (wi n.toInt 1 12 && wi set.toInt 1 63) = true then nI (mayN set.toInt.toNat (n.toInt.toNat - 1)) else -1
def spCan (n own foe : Int32) : Int32 := if (wi n.toInt 1 12 && wi own.toInt 1 63 && wi foe.toInt 1 63) = true then nI (mfN own.toInt.toNat foe.toInt.toNat (n.toInt.toNat - 1)).1 else -1
theorem spMay_t {n set : Nat} (h1 : 1 ≤ n) (h2 : n ≤ 12) (h3 : 1 ≤ set) (h4 : set ≤ 63) : nI (mayN set (n - 1)) = spMay (nI n) (nI set) := by
  have e1 : (nI n).toInt = n := nI_toInt (by omega)
  have e2 : (nI set).toInt = set := nI_toInt (by omega)
  unfold spMay
  rw [e1, e2, wi_t.mpr (by omega), wi_t.mpr (by omega)]
  rfl
theorem spCan_t {n own foe : Nat} (h1 : 1 ≤ n) (h2 : n ≤ 12) (h3 : 1 ≤ own) (h4 : own ≤ 63) (h5 : 1 ≤ foe) (h6 : foe ≤ 63) : nI (mfN own foe (n - 1)).1 = spCan (nI n) (nI own) (nI foe) := by
  have e1 : (nI n).toInt = n := nI_toInt (by omega)
  have e2 : (nI own).toInt = own := nI_toInt (by omega)
  have e3 : (nI foe).toInt = foe := nI_toInt (by omega)
  unfold spCan
  rw [e1, e2, e3, wi_t.mpr (by omega), wi_t.mpr (by omega), wi_t.mpr (by omega)]
  rfl
end
section
/-! the ring: numbers alone -/
def alv (L : Nat → Nat) (p : Nat) : Bool := decide (0 < L p)
/-- the first that holds, by steps of w -/
def sr (f : Nat → Bool) (N w : Nat) : Nat → Nat → Nat → Nat
  | 0, _, d => d
  | k + 1, a, d => if f ((a + w) % N) = true then (a + w) % N else sr f N w k ((a + w) % N) d
theorem sr_pos (N w a i : Nat) : ((a + w) % N + i * w) % N = (a + (i + 1) * w) % N := by
  rw [Nat.mod_add_mod, Nat.succ_mul, Nat.add_assoc, Nat.add_comm w]
theorem sr_spec (f : Nat → Bool) (N w : Nat) : ∀ (k a d : Nat), (∃ i, 1 ≤ i ∧ i ≤ k ∧ f ((a + i * w) % N) = true) → ∃ i, 1 ≤ i ∧ i ≤ k ∧ sr f N w k a d = (a + i * w) % N ∧ f ((a + i * w) % N) = true ∧ ∀ j, 1 ≤ j → j < i → f ((a + j * w) % N) = false := by
  intro k
  induction k with
  | zero => rintro a d ⟨i, h1, h2, -⟩; omega
  | succ k ih =>
    rintro a d ⟨i, h1, h2, h3⟩
    cases hf : f ((a + w) % N) with
    | true =>
      refine ⟨1, by omega, by omega, ?_, by rw [Nat.one_mul]; exact hf, fun j h4 h5 => by omega⟩
      rw [sr, if_pos hf, Nat.one_mul]
    | false =>
      have hi : i ≠ 1 := by rintro rfl; rw [Nat.one_mul, hf] at h3; cases h3
      obtain ⟨i', g1, g2, g3, g4, g5⟩ := ih ((a + w) % N) d ⟨i - 1, by omega, by omega, by rw [sr_pos, show i - 1 + 1 = i by omega]; exact h3⟩
      rw [sr_pos] at g3 g4
      refine ⟨i' + 1, by omega, by omega, ?_, g4, ?_⟩
      · rw [sr, if_neg (by rw [hf]; decide)]; exact g3
      · intro j h4 h5
        rcases Nat.lt_or_ge 1 j with h6 | h6
        · have := g5 (j - 1) (by omega) (by omega)
          rwa [sr_pos, show j - 1 + 1 = j by omega] at this
        · rw [show j = 1 by omega, Nat.one_mul]; exact hf
theorem sr_is {f : Nat → Bool} {N w k a d i : Nat} (h1 : 1 ≤ i) (h2 : i ≤ k) (h3 : f ((a + i * w) % N) = true) (h4 : ∀ j, 1 ≤ j → j < i → f ((a + j * w) % N) = false) : sr f N w k a d = (a + i * w) % N := by
  obtain ⟨i', g1, g2, g3, g4, g5⟩ := sr_spec f N w k a d ⟨i, h1, h2, h3⟩
  rcases Nat.lt_trichotomy i i' with h | h | h
  · rw [g5 i h1 h] at h3; cases h3
  · rw [h]; exact g3
  · rw [h4 i' g1 h] at g4; cases g4
def nextP (f : Nat → Bool) (N a : Nat) : Nat := sr f N 1 N a a
def prevP (f : Nat → Bool) (N a : Nat) : Nat := sr f N (N - 1) N a a
theorem bc_mono (f : Nat → Bool) {a b : Nat} (h : a ≤ b) : bc f a ≤ bc f b := by
  induction b with
  | zero => rw [Nat.le_zero.mp h]; exact Nat.le_refl _
  | succ b ih =>
    rcases Nat.lt_or_ge a (b + 1) with h2 | h2
    · exact Nat.le_trans (ih (by omega)) (by rw [bc]; omega)
    · rw [show a = b + 1 by omega]; exact Nat.le_refl _
theorem bc_none {f : Nat → Bool} {a b : Nat} (h : a ≤ b) (hn : ∀ j, a ≤ j → j < b → f j = false) : bc f b = bc f a := by
  induction b with
  | zero => rw [Nat.le_zero.mp h]
  | succ b ih =>
    rcases Nat.lt_or_ge a (b + 1) with h2 | h2
    · rw [bc, hn b (by omega) (by omega), ih (by omega) (fun j h3 h4 => hn j h3 (by omega))]; rfl
    · rw [show a = b + 1 by omega]
theorem bc_s {f : Nat → Bool} {a : Nat} (h : f a = true) : bc f (a + 1) = bc f a + 1 := by rw [bc, h]; rfl
theorem rk_lt {f : Nat → Bool} {a N : Nat} (ha : a < N) (h : f a = true) : bc f a < bc f N := by
  have := bc_mono f (show a + 1 ≤ N by omega)
  rw [bc_s h] at this; omega
theorem rk_inj {f : Nat → Bool} {a b : Nat} (ha : f a = true) (hb : f b = true) (h : bc f a = bc f b) : a = b := by
  rcases Nat.lt_trichotomy a b with h2 | h2 | h2
  · have := rk_lt h2 ha; omega
  · exact h2
  · have := rk_lt h2 hb; omega
theorem bc_ex {f : Nat → Bool} : ∀ {N : Nat}, 0 < bc f N → ∃ p, p < N ∧ f p = true := by
  intro N
  induction N with
  | zero => intro h; exact absurd h (Nat.lt_irrefl 0)
  | succ N ih =>
    intro h
    cases hf : f N with
    | true => exact ⟨N, by omega, hf⟩
    | false =>
      rw [bc, hf] at h
      obtain ⟨p, h1, h2⟩ := ih (by simpa using h)
      exact ⟨p, by omega, h2⟩
theorem next_rk {f : Nat → Bool} {N a : Nat} (ha : a < N) (hf : f a = true) : bc f (nextP f N a) = (bc f a + 1) % bc f N ∧ nextP f N a < N ∧ f (nextP f N a) = true := by
  obtain ⟨i, h1, h2, h3, h4, h5⟩ := sr_spec f N 1 N a a ⟨N, by omega, Nat.le_refl _, by rw [Nat.mul_one, Nat.add_mod_right, Nat.mod_eq_of_lt ha]; exact hf⟩
  rw [Nat.mul_one] at h3 h4
  have h3 : nextP f N a = (a + i) % N := h3
  rw [h3]
  refine ⟨?_, Nat.mod_lt _ (by omega), h4⟩
  rcases Nat.lt_or_ge (a + i) N with h | h
  · rw [Nat.mod_eq_of_lt h] at h4 ⊢
    have e : bc f (a + i) = bc f (a + 1) := bc_none (by omega) (fun j h6 h7 => by
      have := h5 (j - a) (by omega) (by omega)
      rwa [Nat.mul_one, show a + (j - a) = j by omega, Nat.mod_eq_of_lt (by omega)] at this)
    rw [e, bc_s hf, Nat.mod_eq_of_lt]
    have := rk_lt h h4
    rw [e, bc_s hf] at this
    exact this
  · have e0 : (a + i) % N = a + i - N := by
      rw [Nat.mod_eq_sub_mod h, Nat.mod_eq_of_lt (by omega)]
    rw [e0] at h4 ⊢
    have e1 : bc f (a + i - N) = bc f 0 := bc_none (by omega) (fun j h6 h7 => by
      have := h5 (j + N - a) (by omega) (by omega)
      rwa [Nat.mul_one, show a + (j + N - a) = j + N by omega, Nat.add_mod_right, Nat.mod_eq_of_lt (by omega)] at this)
    have e2 : bc f N = bc f (a + 1) := bc_none (by omega) (fun j h6 h7 => by
      have := h5 (j - a) (by omega) (by omega)
      rwa [Nat.mul_one, show a + (j - a) = j by omega, Nat.mod_eq_of_lt (by omega)] at this)
    rw [e1, e2, bc_s hf, Nat.mod_self]; rfl
/-- the way on, and back, so many times -/
def itF (f : Nat → Bool) (N : Nat) : Nat → Nat → Nat
  | 0, a => a
  | k + 1, a => itF f N k (nextP f N a)
def itB (f : Nat → Bool) (N : Nat) : Nat → Nat → Nat
  | 0, a => a
  | k + 1, a => itB f N k (prevP f N a)
theorem itF_add (f : Nat → Bool) (N : Nat) : ∀ (i j a : Nat), itF f N (i + j) a = itF f N j (itF f N i a) := by
  intro i
  induction i with
  | zero => intro j a; rw [Nat.zero_add]; rfl
  | succ i ih => intro j a; rw [Nat.succ_add]; exact ih j _
theorem itF_rk {f : Nat → Bool} {N : Nat} : ∀ (k : Nat) {a : Nat}, a < N → f a = true → bc f (itF f N k a) = (bc f a + k) % bc f N ∧ itF f N k a < N ∧ f (itF f N k a) = true := by
  intro k
  induction k with
  | zero => intro a ha hf; exact ⟨(Nat.mod_eq_of_lt (rk_lt ha hf)).symm, ha, hf⟩
  | succ k ih =>
    intro a ha hf
    obtain ⟨h1, h2, h3⟩ := next_rk ha hf
    obtain ⟨g1, g2, g3⟩ := ih h2 h3
    refine ⟨?_, g2, g3⟩
    show bc f (itF f N k (nextP f N a)) = _
    rw [g1, h1, Nat.mod_add_mod, Nat.add_assoc, Nat.add_comm 1 k]
theorem itF_per {f : Nat → Bool} {N a : Nat} (ha : a < N) (hf : f a = true) : itF f N (bc f N) a = a := by
  obtain ⟨h1, h2, h3⟩ := itF_rk (bc f N) ha hf
  rw [Nat.add_mod_right, Nat.mod_eq_of_lt (rk_lt ha hf)] at h1
  exact rk_inj h3 hf h1
theorem itF_mul {f : Nat → Bool} {N a : Nat} (ha : a < N) (hf : f a = true) : ∀ j : Nat, itF f N (bc f N * j) a = a := by
  intro j
  induction j with
  | zero => rfl
  | succ j ih => rw [Nat.mul_succ, itF_add, ih, itF_per ha hf]
theorem itF_mod {f : Nat → Bool} {N a : Nat} (ha : a < N) (hf : f a = true) (k : Nat) : itF f N (k % bc f N) a = itF f N k a := by
  have h := Nat.div_add_mod k (bc f N)
  have h2 : itF f N (bc f N * (k / bc f N) + k % bc f N) a = itF f N (k % bc f N) a := by rw [itF_add, itF_mul ha hf]
  rw [h] at h2
  exact h2.symm
theorem itF_end (f : Nat → Bool) (N : Nat) : ∀ (k a : Nat), itF f N (k + 1) a = nextP f N (itF f N k a) := by
  intro k a
  rw [itF_add f N k 1 a]; rfl
theorem back_pos {N a i j : Nat} (ha : a < N) (hi : i ≤ N) (hj : j ≤ i) : ((a + i * (N - 1)) % N + j) % N = (a + (i - j) * (N - 1)) % N := by
  have h1 : i * (N - 1) = (i - j) * (N - 1) + j * (N - 1) := by rw [← Nat.add_mul, show i - j + j = i by omega]
  have h2 : j * (N - 1) + j = j * N := by
    obtain ⟨M, rfl⟩ : ∃ M, N = M + 1 := ⟨N - 1, by omega⟩
    rw [Nat.mul_succ]; rfl
  rw [Nat.mod_add_mod, h1, show a + ((i - j) * (N - 1) + j * (N - 1)) + j = a + (i - j) * (N - 1) + j * N by omega, Nat.add_mul_mod_self_right]
theorem prev_next {f : Nat → Bool} {N a : Nat} (ha : a < N) (hf : f a = true) : nextP f N (prevP f N a) = a ∧ prevP f N a < N ∧ f (prevP f N a) = true := by
  obtain ⟨i, h1, h2, h3, h4, h5⟩ := sr_spec f N (N - 1) N a a ⟨N, by omega, Nat.le_refl _, by rw [Nat.mul_comm, Nat.add_mul_mod_self_right, Nat.mod_eq_of_lt ha]; exact hf⟩
  have h3 : prevP f N a = (a + i * (N - 1)) % N := h3
  rw [h3]
  refine ⟨?_, Nat.mod_lt _ (by omega), h4⟩
  have e := back_pos (j := i) ha h2 (Nat.le_refl _)
  rw [Nat.sub_self, Nat.zero_mul, Nat.add_zero, Nat.mod_eq_of_lt ha] at e
  have := sr_is (f := f) (N := N) (w := 1) (k := N) (a := (a + i * (N - 1)) % N) (d := (a + i * (N - 1)) % N) h1 h2 (by rw [Nat.mul_one, e]; exact hf) (fun j h6 h7 => by
    rw [Nat.mul_one, back_pos ha h2 (by omega)]
    exact h5 (i - j) (by omega) (by omega))
  rw [Nat.mul_one, e] at this
  exact this
theorem itB_ok {f : Nat → Bool} {N : Nat} : ∀ (k : Nat) {a : Nat}, a < N → f a = true → itF f N k (itB f N k a) = a ∧ itB f N k a < N ∧ f (itB f N k a) = true := by
  intro k
  induction k with
  | zero => intro a ha hf; exact ⟨rfl, ha, hf⟩
  | succ k ih =>
    intro a ha hf
    obtain ⟨h1, h2, h3⟩ := prev_next ha hf
    obtain ⟨g1, g2, g3⟩ := ih h2 h3
    refine ⟨?_, g2, g3⟩
    show itF f N (k + 1) (itB f N k (prevP f N a)) = a
    rw [itF_end, g1, h1]
/-- so many back are so many on -/
theorem itB_mod {f : Nat → Bool} {N a : Nat} (ha : a < N) (hf : f a = true) (k : Nat) : itF f N ((bc f N - k % bc f N) % bc f N) a = itB f N k a := by
  obtain ⟨h1, h2, h3⟩ := itB_ok k ha hf
  have hc : 0 < bc f N := Nat.lt_of_le_of_lt (Nat.zero_le _) (rk_lt ha hf)
  have hm : ∃ j, k + (bc f N - k % bc f N) % bc f N = bc f N * j := by
    have h4 := Nat.div_add_mod k (bc f N)
    have h5 := Nat.mod_lt k hc
    rcases Nat.eq_zero_or_pos (k % bc f N) with h6 | h6
    · exact ⟨k / bc f N, by rw [h6, Nat.sub_zero, Nat.mod_self]; omega⟩
    · exact ⟨k / bc f N + 1, by rw [Nat.mod_eq_of_lt (by omega), Nat.mul_succ]; omega⟩
  obtain ⟨j, hj⟩ := hm
  have e : itF f N (k + (bc f N - k % bc f N) % bc f N) (itB f N k a) = itF f N ((bc f N - k % bc f N) % bc f N) a := by rw [itF_add, h1]
  rw [hj, itF_mul h2 h3] at e
  exact e.symm
/-- who is counted: forward k - 1 on, backward k back -/
def pick (f : Nat → Bool) (N : Nat) (neg : Bool) (k a : Nat) : Nat := if neg = true then itB f N k a else itF f N (k - 1) a
theorem pick_ok {f : Nat → Bool} {N a : Nat} (neg : Bool) (k : Nat) (ha : a < N) (hf : f a = true) : pick f N neg k a < N ∧ f (pick f N neg k a) = true := by
  unfold pick
  split
  · exact (itB_ok k ha hf).2
  · exact (itF_rk (k - 1) ha hf).2
/-- the next one of one who may be out -/
theorem next_any {f : Nat → Bool} {N a q : Nat} (ha : a < N) (hq : q < N) (hf : f q = true) : ∃ i, 1 ≤ i ∧ i ≤ N ∧ nextP f N a = (a + i) % N ∧ f ((a + i) % N) = true ∧ ∀ j, 1 ≤ j → j < i → f ((a + j) % N) = false := by
  have h : ∃ i, 1 ≤ i ∧ i ≤ N ∧ f ((a + i * 1) % N) = true := by
    rcases Nat.lt_or_ge a q with h | h
    · exact ⟨q - a, by omega, by omega, by rw [Nat.mul_one, show a + (q - a) = q by omega, Nat.mod_eq_of_lt hq]; exact hf⟩
    · exact ⟨q + N - a, by omega, by omega, by rw [Nat.mul_one, show a + (q + N - a) = q + N by omega, Nat.add_mod_right, Nat.mod_eq_of_lt hq]; exact hf⟩
  obtain ⟨i, h1, h2, h3, h4, h5⟩ := sr_spec f N 1 N a a h
  rw [Nat.mul_one] at h3 h4
  exact ⟨i, h1, h2, h3, h4, fun j h6 h7 => by have := h5 j h6 h7; rwa [Nat.mul_one] at this⟩
theorem bc_set {f g : Nat → Bool} {q N : Nat} (hq : q < N) (h : ∀ p, p < N → p ≠ q → f p = g p) : bc f N + (if g q = true then 1 else 0) = bc g N + (if f q = true then 1 else 0) := by
  induction N with
  | zero => omega
  | succ N ih =>
    rcases Nat.lt_or_ge q N with h2 | h2
    · have := ih h2 (fun p hp hn => h p (by omega) hn)
      rw [bc, bc, h N (by omega) (by omega)]
      omega
    · have e : q = N := by omega
      subst e
      rw [bc, bc, bc_congr (fun p hp => h p (by omega) (by omega))]
      omega
def smN (L : Nat → Nat) : Nat → Nat
  | 0 => 0
  | n + 1 => smN L n + L n
theorem smN_congr {L M : Nat → Nat} : ∀ {n : Nat}, (∀ p, p < n → L p = M p) → smN L n = smN M n := by
  intro n
  induction n with
  | zero => intro _; rfl
  | succ n ih => intro h; rw [smN, smN, ih (fun p hp => h p (by omega)), h n (by omega)]
theorem smN_set {L M : Nat → Nat} {q N : Nat} (hq : q < N) (h : ∀ p, p < N → p ≠ q → L p = M p) : smN L N + M q = smN M N + L q := by
  induction N with
  | zero => omega
  | succ N ih =>
    rcases Nat.lt_or_ge q N with h2 | h2
    · have := ih h2 (fun p hp hn => h p (by omega) hn)
      rw [smN, smN, h N (by omega) (by omega)]
      omega
    · have e : q = N := by omega
      subst e
      rw [smN, smN, smN_congr (fun p hp => h p (by omega) (by omega))]
      omega
theorem smN_le {L : Nat → Nat} {m : Nat} : ∀ {n : Nat}, (∀ p, p < n → L p ≤ m) → smN L n ≤ m * n := by
  intro n
  induction n with
  | zero => intro _; exact Nat.zero_le _
  | succ n ih =>
    intro h
    have h1 := ih (fun p hp => h p (by omega))
    have h2 := h n (by omega)
    rw [smN, Nat.mul_succ]; omega
theorem smN_ge {L : Nat → Nat} : ∀ {n p : Nat}, p < n → L p ≤ smN L n := by
  intro n
  induction n with
  | zero => intro p h; omega
  | succ n ih =>
    intro p h
    rw [smN]
    rcases Nat.lt_or_ge p n with h2 | h2
    · have := ih h2; omega
    · rw [show p = n by omega]; omega
/-! a ring's state: size, lives, as which one out (0: not), ahead of whom -/
def Rb (N : Nat) (L Wn : Nat → Nat) (ah : Nat) : Prop := 1 ≤ N ∧ N ≤ 40 ∧ ah < N ∧ 0 < L ah ∧ (∀ p, p < N → L p ≤ 5) ∧ (∀ p, p < N → (Wn p = 0 ↔ 0 < L p)) ∧ (∀ p, p < N → Wn p + bc (alv L) N ≤ N) ∧ (∀ p q, p < N → q < N → 0 < Wn p → Wn p = Wn q → p = q) ∧ (bc (alv L) N < N → ∃ p, p < N ∧ Wn p + bc (alv L) N = N)
def tL (L : Nat → Nat) (q : Nat) : Nat → Nat := fun p => if p = q then L p - 1 else L p
def tW (N : Nat) (L Wn : Nat → Nat) (q : Nat) : Nat → Nat := fun p => if p = q ∧ L q = 1 then N - bc (alv (tL L q)) N else Wn p
def Rg (B : Nat → Nat) (N : Nat) : List (Nat × Nat) → (Nat → Nat) → (Nat → Nat) → Nat → Prop
  | [], L, Wn, ah => Rb N L Wn ah ∧ smN L N ≤ 5 * N ∧ ah = 0 ∧ ∀ p, p < N → L p = B p ∧ 0 < L p
  | (q, a) :: t, L, Wn, ah => Rb N L Wn ah ∧ t.length + 1 + smN L N ≤ 5 * N ∧ ∃ L0 Wn0 : Nat → Nat, Rg B N t L0 Wn0 a ∧ q < N ∧ 0 < L0 q ∧ (∀ p, p < N → L p = tL L0 q p) ∧ ∀ p, p < N → Wn p = tW N L0 Wn0 q p
theorem Rg.rb {B : Nat → Nat} {N : Nat} {lg : List (Nat × Nat)} {L Wn : Nat → Nat} {ah : Nat} (h : Rg B N lg L Wn ah) : Rb N L Wn ah := by
  cases lg with
  | nil => exact h.1
  | cons x t => obtain ⟨q, a⟩ := x; exact h.1
theorem Rg.sm {B : Nat → Nat} {N : Nat} {lg : List (Nat × Nat)} {L Wn : Nat → Nat} {ah : Nat} (h : Rg B N lg L Wn ah) : lg.length + smN L N ≤ 5 * N := by
  cases lg with
  | nil => have := h.2.1; simpa using this
  | cons x t => obtain ⟨q, a⟩ := x; have := h.2.1; simpa using this
theorem Rg.len {B : Nat → Nat} {N : Nat} {lg : List (Nat × Nat)} {L Wn : Nat → Nat} {ah : Nat} (h : Rg B N lg L Wn ah) : lg.length < 200 := by
  have h1 := h.sm
  obtain ⟨h2, h3, h4, h5, -⟩ := h.rb
  have h6 := smN_ge (L := L) h4
  omega
theorem tL_cnt {N q : Nat} {L : Nat → Nat} (hq : q < N) (hl : 0 < L q) : bc (alv (tL L q)) N + (if L q = 1 then 1 else 0) = bc (alv L) N := by
  have h := bc_set (f := alv (tL L q)) (g := alv L) hq (fun p hp hn => by simp [alv, tL, hn])
  have e1 : alv L q = true := by simp [alv, hl]
  have e2 : alv (tL L q) q = decide (0 < L q - 1) := by simp [alv, tL]
  rw [e1, e2] at h
  by_cases h1 : L q = 1
  · rw [if_pos h1]; simp [h1] at h; omega
  · rw [if_neg h1, if_pos rfl, if_pos (by simp; omega)] at *; omega
theorem tL_sm {N q : Nat} {L : Nat → Nat} (hq : q < N) (hl : 0 < L q) : smN (tL L q) N + 1 = smN L N := by
  have h := smN_set (L := tL L q) (M := L) hq (fun p hp hn => by simp [tL, hn])
  have e : tL L q q = L q - 1 := by simp [tL]
  rw [e] at h; omega
theorem Rb_turn {N ah q : Nat} {L Wn : Nat → Nat} (h : Rb N L Wn ah) (hq : q < N) (hl : 0 < L q) (hc : 2 ≤ bc (alv L) N) : Rb N (tL L q) (tW N L Wn q) (nextP (alv (tL L q)) N q) := by
  obtain ⟨h1, h2, h3, h4, h5, h6, h7, h8, h9⟩ := h
  have hcn := tL_cnt hq hl
  have hpos : 0 < bc (alv (tL L q)) N := by split at hcn <;> omega
  obtain ⟨r, hr1, hr2⟩ := bc_ex hpos
  obtain ⟨i, g1, g2, g3, g4, g5⟩ := next_any hq hr1 hr2
  have hle := bc_le (alv L) N
  refine ⟨h1, h2, ?_, ?_, ?_, ?_, ?_, ?_, ?_⟩
  · rw [g3]; exact Nat.mod_lt _ (by omega)
  · rw [g3]; simpa [alv] using g4
  · intro p hp; have := h5 p hp; simp only [tL]; split <;> omega
  · intro p hp
    simp only [tW, tL]
    by_cases e : p = q
    · subst e
      by_cases e1 : L p = 1
      · simp only [e1, and_self, if_true]
        rw [if_pos e1] at hcn
        constructor
        · intro z; omega
        · intro z; omega
      · have := h6 p hp
        simp only [e1, and_false, if_false, if_true]
        constructor
        · intro z; omega
        · intro z; exact this.mpr hl
    · simp only [e, false_and, if_false]; exact h6 p hp
  · intro p hp
    have := h7 p hp
    simp only [tW]
    by_cases e : p = q ∧ L q = 1
    · rw [if_pos e]; split at hcn <;> omega
    · rw [if_neg e]; split at hcn <;> omega
  · intro p p' hp hp' z1 z2
    simp only [tW] at z1 z2
    have k1 := h7 p hp
    have k2 := h7 p' hp'
    by_cases e1 : L q = 1
    · rw [if_pos e1] at hcn
      simp only [e1, and_true] at z1 z2
      by_cases e2 : p = q
      · by_cases e3 : p' = q
        · rw [e2, e3]
        · simp only [e2, e3, if_true, if_false] at z2; omega
      · by_cases e3 : p' = q
        · simp only [e2, e3, if_true, if_false] at z2; omega
        · simp only [e2, e3, if_false] at z1 z2; exact h8 p p' hp hp' z1 z2
    · simp only [e1, and_false, if_false] at z1 z2
      exact h8 p p' hp hp' z1 z2
  · intro hlt
    by_cases e1 : L q = 1
    · refine ⟨q, hq, ?_⟩
      simp only [tW, e1, and_self, if_true]
      rw [if_pos e1] at hcn
      omega
    · rw [if_neg e1, Nat.add_zero] at hcn
      rw [hcn] at hlt ⊢
      obtain ⟨p, hp, hpe⟩ := h9 hlt
      refine ⟨p, hp, ?_⟩
      simp only [tW, e1, and_false, if_false]
      exact hpe
theorem Rg_turn {B : Nat → Nat} {N ah q : Nat} {lg : List (Nat × Nat)} {L Wn : Nat → Nat} (h : Rg B N lg L Wn ah) (hq : q < N) (hl : 0 < L q) (hc : 2 ≤ bc (alv L) N) : Rg B N ((q, ah) :: lg) (tL L q) (tW N L Wn q) (nextP (alv (tL L q)) N q) := by
  refine ⟨Rb_turn h.rb hq hl hc, ?_, L, Wn, h, hq, hl, fun _ _ => rfl, fun _ _ => rfl⟩
  have h1 := h.sm
  have h2 := tL_sm hq hl
  omega
/-- back: what was -/
theorem Rg_back {B : Nat → Nat} {N ah q a : Nat} {t : List (Nat × Nat)} {L Wn : Nat → Nat} (h : Rg B N ((q, a) :: t) L Wn ah) : q < N ∧ L q ≤ 4 ∧ ∃ L0 Wn0 : Nat → Nat, Rg B N t L0 Wn0 a ∧ (∀ p, p < N → L0 p = if p = q then L p + 1 else L p) ∧ (∀ p, p < N → Wn0 p = if p = q then 0 else Wn p) ∧ bc (alv L0) N = bc (alv L) N + (if L q = 0 then 1 else 0) := by
  obtain ⟨hb, -, L0, Wn0, h0, hq, hl, hL, hW⟩ := h
  obtain ⟨k1, k2, k3, k4, k5, k6, -⟩ := h0.rb
  have hLq : L q = L0 q - 1 := by rw [hL q hq]; simp [tL]
  refine ⟨hq, by have := k5 q hq; omega, L0, Wn0, h0, ?_, ?_, ?_⟩
  · intro p hp
    by_cases e : p = q
    · subst e; rw [if_pos rfl, hLq]; omega
    · rw [if_neg e, hL p hp]; simp [tL, e]
  · intro p hp
    by_cases e : p = q
    · subst e; rw [if_pos rfl]; exact (k6 p hp).mpr hl
    · rw [if_neg e, hW p hp]; simp [tW, e]
  · have h1 := tL_cnt hq hl
    have h2 : bc (alv L) N = bc (alv (tL L0 q)) N := bc_congr (fun p hp => by simp only [alv]; rw [hL p hp])
    rw [h2, ← h1]
    congr 1
    by_cases e : L0 q = 1
    · rw [if_pos e, if_pos (by omega)]
    · rw [if_neg e, if_neg (by omega)]
/-- the ring anew -/
theorem Rg_new {N : Nat} (h1 : 1 ≤ N) (h2 : N ≤ 40) {B : Nat → Nat} (hB : ∀ p, p < N → 1 ≤ B p ∧ B p ≤ 5) : Rg B N [] B (fun _ => 0) 0 := by
  have hall : bc (alv B) N = N := by
    have : ∀ n, n ≤ N → bc (alv B) n = n := by
      intro n
      induction n with
      | zero => intro _; rfl
      | succ n ih =>
        intro hn
        rw [bc_s (by simp only [alv, decide_eq_true_eq]; have := hB n (by omega); omega), ih (by omega)]
    exact this N (Nat.le_refl _)
  refine ⟨⟨h1, h2, by omega, by have := hB 0 (by omega); omega, fun p hp => (hB p hp).2, fun p hp => ⟨fun _ => by have := hB p hp; omega, fun _ => rfl⟩, fun p hp => by show 0 + bc (alv B) N ≤ N; omega, fun p q _ _ h _ => absurd h (Nat.lt_irrefl 0), fun h => by omega⟩, smN_le (fun p hp => (hB p hp).2), rfl, fun p hp => ⟨rfl, by have := hB p hp; omega⟩⟩
/-- what the two hold of it -/
def wI (w : Nat) : Int32 := if w = 0 then -9 else nI w
def LR : List (Nat × Nat) → (Nat → Int32) → (Nat → Int32) → Prop
  | [], _, _ => True
  | (q, a) :: t, C, D => C t.length = nI q ∧ D t.length = nI a ∧ LR t C D
theorem LR_upd {C D : Nat → Int32} {i j : Nat} {x y : Int32} : ∀ {t : List (Nat × Nat)}, t.length ≤ i → t.length ≤ j → LR t C D → LR t (upd C i x) (upd D j y) := by
  intro t
  induction t with
  | nil => intro _ _ _; trivial
  | cons z t ih =>
    obtain ⟨q, a⟩ := z
    intro h1 h2 h
    simp only [List.length_cons] at h1 h2
    exact ⟨by rw [pk_un (by omega)]; exact h.1, by rw [pk_un (by omega)]; exact h.2.1, ih (by omega) (by omega) h.2.2⟩
def RX (N : Nat) (lg : List (Nat × Nat)) (L Wn : Nat → Nat) (LA WA CA AA : Nat → Int32) : Prop := (∀ p, p < N → LA p = nI (L p)) ∧ (∀ p, p < N → WA p = wI (Wn p)) ∧ LR lg CA AA
end
section
/-! the state of a ring gone through, and of its counts; what the calls make of it -/
abbrev AS : Type := List (Nat × Nat) × (Nat → Nat) × (Nat → Nat) × Nat
abbrev GA (B : Nat → Nat) (N : Nat) (Z : AS) : Prop := Rg B N Z.1 Z.2.1 Z.2.2.1 Z.2.2.2
abbrev RA (N : Nat) (Z : AS) (LA WA CA AA : Nat → Int32) : Prop := RX N Z.1 Z.2.1 Z.2.2.1 LA WA CA AA
theorem Rb_congr {N ah : Nat} {L L' Wn Wn' : Nat → Nat} (hL : ∀ p, p < N → L p = L' p) (hW : ∀ p, p < N → Wn p = Wn' p) (h : Rb N L Wn ah) : Rb N L' Wn' ah := by
  obtain ⟨h1, h2, h3, h4, h5, h6, h7, h8, h9⟩ := h
  have e : bc (alv L') N = bc (alv L) N := bc_congr (fun p hp => by simp only [alv]; rw [hL p hp])
  refine ⟨h1, h2, h3, by rw [← hL ah h3]; exact h4, fun p hp => by rw [← hL p hp]; exact h5 p hp, fun p hp => by rw [← hL p hp, ← hW p hp]; exact h6 p hp, fun p hp => by rw [← hW p hp, e]; exact h7 p hp, fun p q hp hq => by rw [← hW p hp, ← hW q hq]; exact h8 p q hp hq, fun h => ?_⟩
  rw [e] at h
  obtain ⟨p, hp, hpe⟩ := h9 h
  exact ⟨p, hp, by rw [← hW p hp, e]; exact hpe⟩
theorem Rg_congr {B : Nat → Nat} {N ah : Nat} {lg : List (Nat × Nat)} {L L' Wn Wn' : Nat → Nat} (hL : ∀ p, p < N → L p = L' p) (hW : ∀ p, p < N → Wn p = Wn' p) (h : Rg B N lg L Wn ah) : Rg B N lg L' Wn' ah := by
  have hb := Rb_congr hL hW h.rb
  have hs : smN L' N = smN L N := smN_congr (fun p hp => (hL p hp).symm)
  cases lg with
  | nil =>
    obtain ⟨-, h2, h3, h4⟩ := h
    exact ⟨hb, by rw [hs]; exact h2, h3, fun p hp => by rw [← hL p hp]; exact h4 p hp⟩
  | cons x t =>
    obtain ⟨q, a⟩ := x
    obtain ⟨-, h2, L0, W0, h3, h4, h5, h6, h7⟩ := h
    exact ⟨hb, by rw [hs]; exact h2, L0, W0, h3, h4, h5, fun p hp => by rw [← hL p hp]; exact h6 p hp, fun p hp => by rw [← hW p hp]; exact h7 p hp⟩
/-- a turn: who is counted, what is then -/
def tQ (N : Nat) (neg : Bool) (k : Nat) (Z : AS) : Nat := pick (alv Z.2.1) N neg k Z.2.2.2
def tS (N : Nat) (neg : Bool) (k : Nat) (Z : AS) : AS := ((tQ N neg k Z, Z.2.2.2) :: Z.1, tL Z.2.1 (tQ N neg k Z), tW N Z.2.1 Z.2.2.1 (tQ N neg k Z), nextP (alv (tL Z.2.1 (tQ N neg k Z))) N (tQ N neg k Z))
theorem tQ_ok {B : Nat → Nat} {N : Nat} {Z : AS} (h : GA B N Z) (neg : Bool) (k : Nat) : tQ N neg k Z < N ∧ 0 < Z.2.1 (tQ N neg k Z) := by
  obtain ⟨-, -, h3, h4, -⟩ := h.rb
  have := pick_ok (f := alv Z.2.1) neg k h3 (by simp only [alv, decide_eq_true_eq]; exact h4)
  exact ⟨this.1, by simpa [alv, tQ] using this.2⟩
theorem GA_tS {B : Nat → Nat} {N : Nat} {Z : AS} (h : GA B N Z) (neg : Bool) (k : Nat) (hc : 2 ≤ bc (alv Z.2.1) N) : GA B N (tS N neg k Z) := Rg_turn h (tQ_ok h neg k).1 (tQ_ok h neg k).2 hc
theorem RX_turn {N q ah : Nat} {lg : List (Nat × Nat)} {L Wn : Nat → Nat} {LA WA CA AA WA' : Nat → Int32} (h : RX N lg L Wn LA WA CA AA) (hq : q < N) (hc : bc (alv (tL L q)) N < N ∨ ¬ L q = 1) (hW : ∀ p, p < N → WA' p = if p = q ∧ L q = 1 then nI (N - bc (alv (tL L q)) N) else WA p) :
    RX N ((q, ah) :: lg) (tL L q) (tW N L Wn q) (upd LA q (nI (L q - 1))) WA' (upd CA lg.length (nI q)) (upd AA lg.length (nI ah)) := by
  obtain ⟨h1, h2, h3⟩ := h
  refine ⟨fun p hp => ?_, fun p hp => ?_, pk_us, pk_us, LR_upd (Nat.le_refl _) (Nat.le_refl _) h3⟩
  · by_cases e : p = q
    · subst e; rw [pk_us]; simp [tL]
    · rw [pk_un e, h1 p hp]; simp [tL, e]
  · rw [hW p hp]
    unfold tW
    by_cases e : p = q ∧ L q = 1
    · rw [if_pos e, if_pos e, wI, if_neg (by have := e.2; omega)]
    · rw [if_neg e, if_neg e]; exact h2 p hp
/-- back -/
def bL (L : Nat → Nat) (q : Nat) : Nat → Nat := fun p => if p = q then L p + 1 else L p
def bW (Wn : Nat → Nat) (q : Nat) : Nat → Nat := fun p => if p = q then 0 else Wn p
theorem GA_back {B : Nat → Nat} {N q a ah : Nat} {t : List (Nat × Nat)} {L Wn : Nat → Nat} (h : Rg B N ((q, a) :: t) L Wn ah) : q < N ∧ a < N ∧ L q ≤ 4 ∧ Rg B N t (bL L q) (bW Wn q) a ∧ bc (alv (bL L q)) N = bc (alv L) N + (if L q = 0 then 1 else 0) ∧ (0 < L q → Wn q = 0) := by
  have hb := h.rb
  obtain ⟨hq, h4, L0, W0, h0, hL, hW, hc⟩ := Rg_back h
  have e : bc (alv (bL L q)) N = bc (alv L0) N := bc_congr (fun p hp => by simp only [alv]; rw [hL p hp]; rfl)
  exact ⟨hq, h0.rb.2.2.1, h4, Rg_congr (fun p hp => by rw [hL p hp]; rfl) (fun p hp => by rw [hW p hp]; rfl) h0, by rw [e]; exact hc, fun hp => (hb.2.2.2.2.2.1 q hq).mpr hp⟩
theorem RX_back {N q a : Nat} {t : List (Nat × Nat)} {L Wn : Nat → Nat} {LA WA CA AA WA' : Nat → Int32} (h : RX N ((q, a) :: t) L Wn LA WA CA AA) (hW : ∀ p, p < N → WA' p = if p = q then -9 else WA p) :
    RX N t (bL L q) (bW Wn q) (upd LA q (nI (L q + 1))) WA' CA AA := by
  obtain ⟨h1, h2, h3⟩ := h
  refine ⟨fun p hp => ?_, fun p hp => ?_, h3.2.2⟩
  · by_cases e : p = q
    · subst e; rw [pk_us]; simp [bL]
    · rw [pk_un e, h1 p hp]; simp [bL, e]
  · rw [hW p hp]
    unfold bW
    by_cases e : p = q
    · rw [if_pos e, if_pos e]; rfl
    · rw [if_neg e, if_neg e]; exact h2 p hp
def bS (q a : Nat) (t : List (Nat × Nat)) (Z : AS) : AS := (t, bL Z.2.1 q, bW Z.2.2.1 q, a)
/-- counts -/
def cNeg (kd t : Nat) : Bool := decide (kd = 2) && decide (t % 2 = 1)
def cK (st kd nw : Nat) (wd : Nat → Nat) (t : Nat) : Nat := if kd = 0 then st else st + wd (t % nw)
def cI (neg : Bool) (k : Nat) : Int32 := if neg = true then -nI k else nI k
def CS (st kd nw : Nat) (wd : Nat → Nat) : Prop := 1 ≤ st ∧ st ≤ 20 ∧ kd ≤ 2 ∧ 1 ≤ nw ∧ nw ≤ 8 ∧ ∀ i, i < nw → 1 ≤ wd i ∧ wd i ≤ 99
def CR (nw : Nat) (wd : Nat → Nat) (WR : Nat → Int32) : Prop := ∀ i, i < nw → WR i = nI (wd i)
theorem cK_in {st kd nw t : Nat} {wd : Nat → Nat} (h : CS st kd nw wd) : 1 ≤ cK st kd nw wd t ∧ cK st kd nw wd t < 120 := by
  obtain ⟨h1, h2, h3, h4, h5, h6⟩ := h
  unfold cK
  split
  · omega
  · have := h6 (t % nw) (Nat.mod_lt _ (by omega))
    omega
/-- n turns, as many as there are -/
def tnS (N st kd nw : Nat) (wd : Nat → Nat) : Nat → AS → Nat × AS
  | 0, Z => (0, Z)
  | n + 1, Z => if bc (alv Z.2.1) N < 2 then (0, Z) else ((tnS N st kd nw wd n (tS N (cNeg kd Z.1.length) (cK st kd nw wd Z.1.length) Z)).1 + 1, (tnS N st kd nw wd n (tS N (cNeg kd Z.1.length) (cK st kd nw wd Z.1.length) Z)).2)
def bkS : Nat → AS → Nat × AS
  | 0, Z => (0, Z)
  | n + 1, Z => match Z.1 with
    | [] => (0, Z)
    | (q, a) :: t => ((bkS n (bS q a t Z)).1 + 1, (bkS n (bS q a t Z)).2)
/-- floorMod as Math has it -/
def fmI (x y : Int32) : Int32 := if x ^^^ y < 0 ∧ ¬ x - x / y * y = 0 then (x - x / y * y) + y else x - x / y * y
theorem fmI_pos : ∀ a, a < 120 → ∀ c, c < 41 → 0 < c → fmI (nI a) (nI c) = nI (a % c) := by decide +kernel
theorem fmI_neg : ∀ a, a < 120 → ∀ c, c < 41 → 0 < c → fmI (-nI a) (nI c) = nI ((c - a % c) % c) := by decide +kernel
theorem neg_le : ∀ a, a < 120 → -nI a ≤ 0 := by decide +kernel
theorem tS_len (N : Nat) (neg : Bool) (k : Nat) (Z : AS) : (tS N neg k Z).1.length = Z.1.length + 1 := rfl
/-- who went out latest -/
def lo (N : Nat) (Wn : Nat → Nat) (m : Nat) : Nat → Nat → Int32
  | 0, _ => -9
  | k + 1, p => if Wn p = m ∧ 0 < m then nI p else lo N Wn m k (p + 1)
/-- spec of ring, lives, set, words, count, about, told -/
def spRing (n : Int32) (N : Nat) (B : Nat → Nat) (Z : AS) : Int32 × Nat × (Nat → Nat) × AS := if wi n.toInt 1 40 = true then (nI N, n.toInt.toNat, fun _ => 1, ([], fun _ => 1, fun _ => 0, 0)) else (-1, N, B, Z)
def upN (L : Nat → Nat) (p v : Nat) : Nat → Nat := fun q => if q = p then v else L q
def spLives (p v : Int32) (N : Nat) (B : Nat → Nat) (Z : AS) : Int32 × (Nat → Nat) × AS := if (wi p.toInt 0 ((N : Int) - 1) && wi v.toInt 1 5) = true then (if 0 < Z.1.length then (-2, B, Z) else (nI (Z.2.1 p.toInt.toNat), upN B p.toInt.toNat v.toInt.toNat, (Z.1, upN Z.2.1 p.toInt.toNat v.toInt.toNat, Z.2.2.1, Z.2.2.2))) else (-1, B, Z)
def spSet (w v : Int32) (d st kd : Nat) : Int32 × Nat × Nat := if (wi w.toInt 0 1 && wi v.toInt (if w = 0 then 1 else 0) (if w = 0 then 20 else 2)) = true then (if 0 < d then (-2, st, kd) else if w = 0 then (nI st, v.toInt.toNat, kd) else (nI kd, st, v.toInt.toNat)) else (-1, st, kd)
def okW (v : Int32) : Bool := wi v.toInt 1 99
def okWs (n a b c d : Int32) : Bool := wi n.toInt 1 4 && okW a && (decide (n.toInt ≤ 1) || okW b) && (decide (n.toInt ≤ 2) || okW c) && (decide (n.toInt ≤ 3) || okW d)
def w4 (a b c d : Int32) (i : Nat) : Nat := if i = 0 then a.toInt.toNat else if i = 1 then b.toInt.toNat else if i = 2 then c.toInt.toNat else d.toInt.toNat
def spWords (n a b c d : Int32) (tw : Bool) (dn nw : Nat) (wd : Nat → Nat) : Int32 × Nat × (Nat → Nat) := if okWs n a b c d = true then (if 0 < dn then (-2, nw, wd) else if tw = true then (nI (2 * n.toInt.toNat), 2 * n.toInt.toNat, fun i => if i < n.toInt.toNat then w4 a b c d i else w4 a b c d (2 * n.toInt.toNat - 1 - i)) else (nI n.toInt.toNat, n.toInt.toNat, w4 a b c d)) else (-1, nw, wd)
def tollI (kd : Nat) : Int64 := if kd = 0 then 1 else if kd = 1 then 11 else 111
def spCount (t : Int32) (st kd nw : Nat) (wd : Nat → Nat) (tr : Int64) : Int32 × Int64 := if wi t.toInt 0 100000 = true then (cI (cNeg kd t.toInt.toNat) (cK st kd nw wd t.toInt.toNat), tr + tollI kd) else (-1000, tr)
def spTurns (n : Int32) (N st kd nw : Nat) (wd : Nat → Nat) (Z : AS) : Int32 × AS := if wi n.toInt 1 200 = true then (nI (tnS N st kd nw wd n.toInt.toNat Z).1, (tnS N st kd nw wd n.toInt.toNat Z).2) else (-1, Z)
def spBack (n : Int32) (Z : AS) : Int32 × AS := if wi n.toInt 1 200 = true then (nI (bkS n.toInt.toNat Z).1, (bkS n.toInt.toNat Z).2) else (-1, Z)
def spAbout (p w : Int32) (N : Nat) (Z : AS) : Int32 := if (wi p.toInt 0 ((N : Int) - 1) && wi w.toInt 0 1) = true then (if w = 0 then nI (Z.2.1 p.toInt.toNat) else wI (Z.2.2.1 p.toInt.toNat)) else -1
def lcI (Z : AS) : Int32 := match Z.1 with
  | [] => -9
  | (q, _) :: _ => nI q
def spTold (w : Int32) (N : Nat) (Z : AS) : Int32 := if w = 0 then nI Z.2.2.2 else if w = 1 then nI (bc (alv Z.2.1) N) else if w = 2 then nI Z.1.length else if w = 3 then lcI Z else if w = 4 then lo N Z.2.2.1 (N - bc (alv Z.2.1) N) N 0 else -1
end
section
theorem gst_pos {n k x : Nat} (hk : 2 ≤ k) (hx : n < x) : 1 ≤ gst n k x := by
  unfold gst
  rw [Nat.le_div_iff_mul_le (by omega)]
  have : k * 1 ≤ k * (x - n) := Nat.mul_le_mul_left _ (by omega)
  omega
set_option maxHeartbeats 4000000 in
set_option maxRecDepth 100000 in
theorem c_X2_isWithin (l : Launch) (dC : Nat → ClassId) (dI : Nat → Nat → Nat) (v a b : Int64) : Met l yX2_isWithin wsX2_isWithin ({ frames := 0, cells := 0, slots := 0, locals := 0 }) (va_Pc [.long v, .long a, .long b] (fun _ => True)) (vp_Si (fun r => r = zb (wi v.toInt a.toInt b.toInt))) 0 0 (fun _ => False) := by
  refine Met.ofW (cc := cX2_isWithin) (maxL := 6) (ret := (some .boolean)) (by decide) rfl ?_
  intro p e s m args below meth c s₁ B hml hv
  obtain ⟨rfl, -⟩ := hv
  have hx := B.exec
  have hb := B.bytes
  have hr := B.returns
  have hts := atoms_spec (ws := wsX2_isWithin) B.pre
  have hown : s.vm.findClass RX2 = some m.cls := findClass_of_methodNamed B.named
  have hlocks := B.notSynchronized
  have hl := lv_entry ([.long v, .long a, .long b]) (n := 6) (Nat.le_of_ble_eq_true rfl)
  rw [lg_entry_eq]
  generalize (lg_sl ([.long v, .long a, .long b]) ++ List.replicate (6 - (lg_sl ([.long v, .long a, .long b])).length) Slot.unset).toArray = ls at hl ⊢
  have hl : lv_has ls 6 [(0, .long v), (2, .long a), (4, .long b)] := hl
  refine lv_lload_n hx hb dX2_isWithin_0 rfl (lv_at hl 0 rfl) ?_
  refine lv_lload_n hx hb dX2_isWithin_1 rfl (lv_at hl 1 rfl) ?_
  refine W.lcmp hx hb dX2_isWithin_2 ?_
  refine lv_if_lt (tgt := 17) hx hb dX2_isWithin_3 (by decide) (fun c_3 => ?_) (fun c_3 => ?_)
  · have c_3 := (lg_cmp_lt _ _).mp c_3
    refine lv_iconst (v := 0) hx hb dX2_isWithin_17 (by decide) ?_
    exact W.zret (v := 0) hx hb hr (rfl) (fun t ht hW => ⟨_, rfl, by rw [lt64] at *; first | (rw [zb_t (wi_t.mpr (by omega))]) | (rw [zb_f (wi_f.mpr (by omega))]), ht⟩) (fun _ h => absurd h List.not_mem_nil) dX2_isWithin_18
  · have c_3 : ¬ v < a := fun h => c_3 ((lg_cmp_lt _ _).mpr h)
    refine lv_lload_n hx hb dX2_isWithin_6 rfl (lv_at hl 0 rfl) ?_
    refine lv_lload hx hb dX2_isWithin_7 (lv_at hl 2 rfl) ?_
    refine W.lcmp hx hb dX2_isWithin_9 ?_
    refine lv_if_gt (tgt := 17) hx hb dX2_isWithin_10 (by decide) (fun c_10 => ?_) (fun c_10 => ?_)
    · have c_10 := (lg_cmp_gt _ _).mp c_10
      refine lv_iconst (v := 0) hx hb dX2_isWithin_17 (by decide) ?_
      exact W.zret (v := 0) hx hb hr (rfl) (fun t ht hW => ⟨_, rfl, by rw [lt64] at *; first | (rw [zb_t (wi_t.mpr (by omega))]) | (rw [zb_f (wi_f.mpr (by omega))]), ht⟩) (fun _ h => absurd h List.not_mem_nil) dX2_isWithin_18
    · have c_10 : ¬ b < v := fun h => c_10 ((lg_cmp_gt _ _).mpr h)
      refine lv_iconst (v := 1) hx hb dX2_isWithin_13 (by decide) ?_
      refine lv_goto (tgt := 18) hx hb dX2_isWithin_14 (by decide) ?_
      exact W.zret (v := 1) hx hb hr (rfl) (fun t ht hW => ⟨_, rfl, by rw [lt64] at *; first | (rw [zb_t (wi_t.mpr (by omega))]) | (rw [zb_f (wi_f.mpr (by omega))]), ht⟩) (fun _ h => absurd h List.not_mem_nil) dX2_isWithin_18

set_option maxHeartbeats 4000000 in
set_option maxRecDepth 100000 in
theorem c_X3_in (l : Launch) (dC : Nat → ClassId) (dI : Nat → Nat → Nat) (v a b : Int64) : Met l yX3_in wsX3_in ({ frames := 0, cells := 0, slots := 0, locals := 0 }) (va_Pc [.long v, .long a, .long b] (fun _ => True)) (vp_Si (fun r => r = zb (wi v.toInt a.toInt b.toInt))) 0 0 (fun _ => False) := by
  refine Met.ofW (cc := cX3_in) (maxL := 6) (ret := (some .boolean)) (by decide) rfl ?_
  intro p e s m args below meth c s₁ B hml hv
  obtain ⟨rfl, -⟩ := hv
  have hx := B.exec
  have hb := B.bytes
  have hr := B.returns
  have hts := atoms_spec (ws := wsX3_in) B.pre
  have hown : s.vm.findClass RX3 = some m.cls := findClass_of_methodNamed B.named
  have hlocks := B.notSynchronized
  have hl := lv_entry ([.long v, .long a, .long b]) (n := 6) (Nat.le_of_ble_eq_true rfl)
  rw [lg_entry_eq]
  generalize (lg_sl ([.long v, .long a, .long b]) ++ List.replicate (6 - (lg_sl ([.long v, .long a, .long b])).length) Slot.unset).toArray = ls at hl ⊢
  have hl : lv_has ls 6 [(0, .long v), (2, .long a), (4, .long b)] := hl
  refine lv_lload_n hx hb dX3_in_0 rfl (lv_at hl 0 rfl) ?_
  refine lv_lload_n hx hb dX3_in_1 rfl (lv_at hl 1 rfl) ?_
  refine W.lcmp hx hb dX3_in_2 ?_
  refine lv_if_lt (tgt := 17) hx hb dX3_in_3 (by decide) (fun c_3 => ?_) (fun c_3 => ?_)
  · have c_3 := (lg_cmp_lt _ _).mp c_3
    refine lv_iconst (v := 0) hx hb dX3_in_17 (by decide) ?_
    exact W.zret (v := 0) hx hb hr (rfl) (fun t ht hW => ⟨_, rfl, by rw [lt64] at *; first | (rw [zb_t (wi_t.mpr (by omega))]) | (rw [zb_f (wi_f.mpr (by omega))]), ht⟩) (fun _ h => absurd h List.not_mem_nil) dX3_in_18
  · have c_3 : ¬ v < a := fun h => c_3 ((lg_cmp_lt _ _).mpr h)
    refine lv_lload_n hx hb dX3_in_6 rfl (lv_at hl 0 rfl) ?_
    refine lv_lload hx hb dX3_in_7 (lv_at hl 2 rfl) ?_
    refine W.lcmp hx hb dX3_in_9 ?_
    refine lv_if_gt (tgt := 17) hx hb dX3_in_10 (by decide) (fun c_10 => ?_) (fun c_10 => ?_)
    · have c_10 := (lg_cmp_gt _ _).mp c_10
      refine lv_iconst (v := 0) hx hb dX3_in_17 (by decide) ?_
      exact W.zret (v := 0) hx hb hr (rfl) (fun t ht hW => ⟨_, rfl, by rw [lt64] at *; first | (rw [zb_t (wi_t.mpr (by omega))]) | (rw [zb_f (wi_f.mpr (by omega))]), ht⟩) (fun _ h => absurd h List.not_mem_nil) dX3_in_18
    · have c_10 : ¬ b < v := fun h => c_10 ((lg_cmp_gt _ _).mpr h)
      refine lv_iconst (v := 1) hx hb dX3_in_13 (by decide) ?_
      refine lv_goto (tgt := 18) hx hb dX3_in_14 (by decide) ?_
      exact W.zret (v := 1) hx hb hr (rfl) (fun t ht hW => ⟨_, rfl, by rw [lt64] at *; first | (rw [zb_t (wi_t.mpr (by omega))]) | (rw [zb_f (wi_f.mpr (by omega))]), ht⟩) (fun _ h => absurd h List.not_mem_nil) dX3_in_18

set_option maxHeartbeats 4000000 in
set_option maxRecDepth 100000 in
theorem c_X2_isGreatRing (l : Launch) (dC : Nat → ClassId) (dI : Nat → Nat → Nat) (n : Int64) (k : Int32) : Met l yX2_isGreatRing wsX2_isGreatRing ({ frames := 1, cells := 0, slots := 0, locals := 25 }) (va_Pc [.long n, .int k] (fun _ => True)) (vp_Si (fun r => r = zb (wi n.toInt 1 1000000000000 && wi k.toInt 1 1000))) 0 0 (fun _ => False) := by
  refine Met.ofW (cc := cX2_isGreatRing) (maxL := 3) (ret := (some .boolean)) (by decide) rfl ?_
  intro p e s m args below meth c s₁ B hml hv
  obtain ⟨rfl, -⟩ := hv
  have hx := B.exec
  have hb := B.bytes
  have hr := B.returns
  have hts := atoms_spec (ws := wsX2_isGreatRing) B.pre
  have hown : s.vm.findClass RX2 = some m.cls := findClass_of_methodNamed B.named
  have hlocks := B.notSynchronized
  have hl := lv_entry ([.long n, .int k]) (n := 3) (Nat.le_of_ble_eq_true rfl)
  rw [lg_entry_eq]
  generalize (lg_sl ([.long n, .int k]) ++ List.replicate (3 - (lg_sl ([.long n, .int k])).length) Slot.unset).toArray = ls at hl ⊢
  have hl : lv_has ls 3 [(0, .long n), (2, .int k)] := hl
  refine lv_lload_n hx hb dX2_isGreatRing_0 rfl (lv_at hl 0 rfl) ?_
  refine lv_lconst (v := 1) hx hb dX2_isGreatRing_1 (by decide) ?_
  refine lv_ldc2 (v := 1000000000000) hx hb hown (hts (.constantLong RX2 155 (1000000000000)) (by decide +kernel)) dX2_isGreatRing_2 ?_
  refine vp_callSi (va_Run.run (va_runS (As := [.long n, .long 1, .long 1000000000000]) (rest := []) ⟨hx, hb, hml, hown, hts⟩ (c_X2_isWithin l dC dI n 1 1000000000000) (va_cwS 3 hts gX2_isGreatRing_X2_isWithin rfl rfl rfl (by decide +kernel) ⟨Nat.le_of_ble_eq_true rfl, Nat.le_of_ble_eq_true rfl⟩) ⟨fun a U g mk q => ⟨q.1, trivial⟩, fun U hU hW => ⟨rfl, trivial⟩⟩ rfl rfl hl.1 rfl (lv_room (Nat.le_of_ble_eq_true rfl)) dX2_isGreatRing_5 ⟨Nat.zero_le _, Nat.zero_le _⟩)) (fun r_5 hr_5 => ?_)
  obtain rfl : r_5 = zb (wi n.toInt 1 1000000000000) := hr_5.trans (by rfl)
  refine lv_if_eq (tgt := 27) hx hb dX2_isGreatRing_8 (by decide) (fun c_8 => ?_) (fun c_8 => ?_)
  · have c_8 := zb_0.mp c_8
    refine lv_iconst (v := 0) hx hb dX2_isGreatRing_27 (by decide) ?_
    exact W.zret (v := 0) hx hb hr (rfl) (fun t ht hW => ⟨_, rfl, by first | (rw [c_8, c_20]; rfl) | (rw [c_8]; rfl), ht⟩) (fun _ h => absurd h List.not_mem_nil) dX2_isGreatRing_28
  · have c_8 := zb_n.mp c_8
    refine lv_iload_n hx hb dX2_isGreatRing_11 rfl (lv_at hl 1 rfl) ?_
    refine lv_i2l (v := k.toInt64) hx hb dX2_isGreatRing_12 rfl ?_
    refine lv_lconst (v := 1) hx hb dX2_isGreatRing_13 (by decide) ?_
    refine lv_ldc2 (v := 1000) hx hb hown (hts (.constantLong RX2 157 (1000)) (by decide +kernel)) dX2_isGreatRing_14 ?_
    refine vp_callSi (va_Run.run (va_runS (As := [.long k.toInt64, .long 1, .long 1000]) (rest := []) ⟨hx, hb, hml, hown, hts⟩ (c_X2_isWithin l dC dI k.toInt64 1 1000) (va_cwS 3 hts gX2_isGreatRing_X2_isWithin rfl rfl rfl (by decide +kernel) ⟨Nat.le_of_ble_eq_true rfl, Nat.le_of_ble_eq_true rfl⟩) ⟨fun a U g mk q => ⟨q.1, trivial⟩, fun U hU hW => ⟨rfl, trivial⟩⟩ rfl rfl hl.1 rfl (lv_room (Nat.le_of_ble_eq_true rfl)) dX2_isGreatRing_17 ⟨Nat.zero_le _, Nat.zero_le _⟩)) (fun r_17 hr_17 => ?_)
    obtain rfl : r_17 = zb (wi k.toInt 1 1000) := hr_17.trans (by rw [i2l_toInt]; rfl)
    refine lv_if_eq (tgt := 27) hx hb dX2_isGreatRing_20 (by decide) (fun c_20 => ?_) (fun c_20 => ?_)
    · have c_20 := zb_0.mp c_20
      refine lv_iconst (v := 0) hx hb dX2_isGreatRing_27 (by decide) ?_
      exact W.zret (v := 0) hx hb hr (rfl) (fun t ht hW => ⟨_, rfl, by first | (rw [c_8, c_20]; rfl) | (rw [c_8]; rfl), ht⟩) (fun _ h => absurd h List.not_mem_nil) dX2_isGreatRing_28
    · have c_20 := zb_n.mp c_20
      refine lv_iconst (v := 1) hx hb dX2_isGreatRing_23 (by decide) ?_
      refine lv_goto (tgt := 28) hx hb dX2_isGreatRing_24 (by decide) ?_
      exact W.zret (v := 1) hx hb hr (rfl) (fun t ht hW => ⟨_, rfl, by first | (rw [c_8, c_20]; rfl) | (rw [c_8]; rfl), ht⟩) (fun _ h => absurd h List.not_mem_nil) dX2_isGreatRing_28

set_option maxHeartbeats 4000000 in
set_option maxRecDepth 100000 in
theorem c_X3_isGreat (l : Launch) (dC : Nat → ClassId) (dI : Nat → Nat → Nat) (n : Int64) (k : Int32) : Met l yX3_isGreat wsX3_isGreat ({ frames := 1, cells := 0, slots := 0, locals := 25 }) (va_Pc [.long n, .int k] (fun _ => True)) (vp_Si (fun r => r = zb (wi n.toInt 1 1000000000000 && wi k.toInt 1 1000))) 0 0 (fun _ => False) := by
  refine Met.ofW (cc := cX3_isGreat) (maxL := 3) (ret := (some .boolean)) (by decide) rfl ?_
  intro p e s m args below meth c s₁ B hml hv
  obtain ⟨rfl, -⟩ := hv
  have hx := B.exec
  have hb := B.bytes
  have hr := B.returns
  have hts := atoms_spec (ws := wsX3_isGreat) B.pre
  have hown : s.vm.findClass RX3 = some m.cls := findClass_of_methodNamed B.named
  have hlocks := B.notSynchronized
  have hl := lv_entry ([.long n, .int k]) (n := 3) (Nat.le_of_ble_eq_true rfl)
  rw [lg_entry_eq]
  generalize (lg_sl ([.long n, .int k]) ++ List.replicate (3 - (lg_sl ([.long n, .int k])).length) Slot.unset).toArray = ls at hl ⊢
  have hl : lv_has ls 3 [(0, .long n), (2, .int k)] := hl
  refine lv_lload_n hx hb dX3_isGreat_0 rfl (lv_at hl 0 rfl) ?_
  refine lv_lconst (v := 1) hx hb dX3_isGreat_1 (by decide) ?_
  refine lv_ldc2 (v := 1000000000000) hx hb hown (hts (.constantLong RX3 54 (1000000000000)) (by decide +kernel)) dX3_isGreat_2 ?_
  refine vp_callSi (va_Run.run (va_runS (As := [.long n, .long 1, .long 1000000000000]) (rest := []) ⟨hx, hb, hml, hown, hts⟩ (c_X3_in l dC dI n 1 1000000000000) (va_cwS 3 hts gX3_isGreat_X3_in rfl rfl rfl (by decide +kernel) ⟨Nat.le_of_ble_eq_true rfl, Nat.le_of_ble_eq_true rfl⟩) ⟨fun a U g mk q => ⟨q.1, trivial⟩, fun U hU hW => ⟨rfl, trivial⟩⟩ rfl rfl hl.1 rfl (lv_room (Nat.le_of_ble_eq_true rfl)) dX3_isGreat_5 ⟨Nat.zero_le _, Nat.zero_le _⟩)) (fun r_5 hr_5 => ?_)
  obtain rfl : r_5 = zb (wi n.toInt 1 1000000000000) := hr_5.trans (by rfl)
  refine lv_if_eq (tgt := 27) hx hb dX3_isGreat_8 (by decide) (fun c_8 => ?_) (fun c_8 => ?_)
  · have c_8 := zb_0.mp c_8
    refine lv_iconst (v := 0) hx hb dX3_isGreat_27 (by decide) ?_
    exact W.zret (v := 0) hx hb hr (rfl) (fun t ht hW => ⟨_, rfl, by first | (rw [c_8, c_20]; rfl) | (rw [c_8]; rfl), ht⟩) (fun _ h => absurd h List.not_mem_nil) dX3_isGreat_28
  · have c_8 := zb_n.mp c_8
    refine lv_iload_n hx hb dX3_isGreat_11 rfl (lv_at hl 1 rfl) ?_
    refine lv_i2l (v := k.toInt64) hx hb dX3_isGreat_12 rfl ?_
    refine lv_lconst (v := 1) hx hb dX3_isGreat_13 (by decide) ?_
    refine lv_ldc2 (v := 1000) hx hb hown (hts (.constantLong RX3 60 (1000)) (by decide +kernel)) dX3_isGreat_14 ?_
    refine vp_callSi (va_Run.run (va_runS (As := [.long k.toInt64, .long 1, .long 1000]) (rest := []) ⟨hx, hb, hml, hown, hts⟩ (c_X3_in l dC dI k.toInt64 1 1000) (va_cwS 3 hts gX3_isGreat_X3_in rfl rfl rfl (by decide +kernel) ⟨Nat.le_of_ble_eq_true rfl, Nat.le_of_ble_eq_true rfl⟩) ⟨fun a U g mk q => ⟨q.1, trivial⟩, fun U hU hW => ⟨rfl, trivial⟩⟩ rfl rfl hl.1 rfl (lv_room (Nat.le_of_ble_eq_true rfl)) dX3_isGreat_17 ⟨Nat.zero_le _, Nat.zero_le _⟩)) (fun r_17 hr_17 => ?_)
    obtain rfl : r_17 = zb (wi k.toInt 1 1000) := hr_17.trans (by rw [i2l_toInt]; rfl)
    refine lv_if_eq (tgt := 27) hx hb dX3_isGreat_20 (by decide) (fun c_20 => ?_) (fun c_20 => ?_)
    · have c_20 := zb_0.mp c_20
      refine lv_iconst (v := 0) hx hb dX3_isGreat_27 (by decide) ?_
      exact W.zret (v := 0) hx hb hr (rfl) (fun t ht hW => ⟨_, rfl, by first | (rw [c_8, c_20]; rfl) | (rw [c_8]; rfl), ht⟩) (fun _ h => absurd h List.not_mem_nil) dX3_isGreat_28
    · have c_20 := zb_n.mp c_20
      refine lv_iconst (v := 1) hx hb dX3_isGreat_23 (by decide) ?_
      refine lv_goto (tgt := 28) hx hb dX3_isGreat_24 (by decide) ?_
      exact W.zret (v := 1) hx hb hr (rfl) (fun t ht hW => ⟨_, rfl, by first | (rw [c_8, c_20]; rfl) | (rw [c_8]; rfl), ht⟩) (fun _ h => absurd h List.not_mem_nil) dX3_isGreat_28

set_option maxHeartbeats 4000000 in
set_option maxRecDepth 100000 in
theorem c_X2_placeOfGoing (l : Launch) (dC : Nat → ClassId) (dI : Nat → Nat → Nat) (n k j : Nat) (hn1 : 1 ≤ n) (hn : n ≤ 1000000000000) (hk1 : 1 ≤ k) (hk : k ≤ 1000) (hj1 : 1 ≤ j) (hj : j ≤ n) : Met l yX2_placeOfGoing wsX2_placeOfGoing ({ frames := 0, cells := 0, slots := 0, locals := 0 }) (va_Pc [.long (lN n), .int (nI k), .long (lN j)] (fun _ => True)) (vp_Sl (fun r => r = lN (goN n k j))) 0 0 (fun _ => False) := by
  refine Met.ofW (cc := cX2_placeOfGoing) (maxL := 8) (ret := (some .long)) (by decide) rfl ?_
  intro p e s m args below meth c s₁ B hml hv
  obtain ⟨rfl, -⟩ := hv
  have hx := B.exec
  have hb := B.bytes
  have hr := B.returns
  have hts := atoms_spec (ws := wsX2_placeOfGoing) B.pre
  have hown : s.vm.findClass RX2 = some m.cls := findClass_of_methodNamed B.named
  have hlocks := B.notSynchronized
  have hl := lv_entry ([.long (lN n), .int (nI k), .long (lN j)]) (n := 8) (Nat.le_of_ble_eq_true rfl)
  rw [lg_entry_eq]
  generalize (lg_sl ([.long (lN n), .int (nI k), .long (lN j)]) ++ List.replicate (8 - (lg_sl ([.long (lN n), .int (nI k), .long (lN j)])).length) Slot.unset).toArray = ls at hl ⊢
  have hl : lv_has ls 8 [(0, .long (lN n)), (2, .int (nI k)), (3, .long (lN j))] := hl
  have hkn : k * n ≤ 1000 * 1000000000000 := Nat.mul_le_mul hk hn
  have hkj : k * j ≤ k * n := Nat.mul_le_mul_left _ hj
  have hkj1 : 1 ≤ k * j := Nat.mul_le_mul hk1 hj1
  refine lv_iload_n hx hb dX2_placeOfGoing_0 rfl (lv_at hl 1 rfl) ?_
  refine lv_iconst (v := 2) hx hb dX2_placeOfGoing_1 (by decide) ?_
  refine lv_icmp_ge (tgt := 9) hx hb dX2_placeOfGoing_2 (by decide) (fun c_2 => ?_) (fun c_2 => ?_)
  · have c_2 : 2 ≤ k := (nI_leI (a := 2) (by omega) (by omega)).mp c_2
    refine lv_iload_n hx hb dX2_placeOfGoing_9 rfl (lv_at hl 1 rfl) ?_
    refine lv_i2l (v := (nI k).toInt64) hx hb dX2_placeOfGoing_10 rfl ?_
    refine lv_lload_n hx hb dX2_placeOfGoing_11 rfl (lv_at hl 2 rfl) ?_
    refine lv_lmul hx hb dX2_placeOfGoing_12 ?_
    refine z_l (y := lN (k * j)) (by rw [nI_l (by omega), lN_mul]) ?_
    refine lv_lstore (lv' := [(5, .long (lN (k * j))), (0, .long (lN n)), (2, .int (nI k)), (3, .long (lN j))]) hx hb dX2_placeOfGoing_13 hl (by decide) rfl (fun ls hl => ?_)
    refine lv_iconst (v := 0) hx hb dX2_placeOfGoing_15 (by decide) ?_
    refine lv_istore (lv' := [(7, .int 0), (5, .long (lN (k * j))), (0, .long (lN n)), (2, .int (nI k)), (3, .long (lN j))]) hx hb dX2_placeOfGoing_16 hl (by decide) rfl (fun ls hl => ?_)
    refine W_loopR (σ := Nat × Nat) (fun xx ls => match xx with | (x, i) => lv_has ls 8 [(0, .long (lN n)), (2, .int (nI k)), (5, .long (lN x)), (7, .int (nI i))] ∧ x ≤ k * n ∧ 1 ≤ x ∧ i ≤ 1000000 ∧ gIt n k (1000000 - i) x = gIt n k 1000000 (k * j)) (fun xx => match xx with | (x, i) => 1000000 - i) ?_ (k * j, 0) ⟨lv_sub hl [2, 3, 1, 0] rfl, hkj, hkj1, by omega, rfl⟩
    rintro ⟨x, i⟩ ls ⟨hl, hxk, hx1, hi, hg⟩ ih
    refine lv_lload hx hb dX2_placeOfGoing_18 (lv_at hl 2 rfl) ?_
    refine lv_lload_n hx hb dX2_placeOfGoing_20 rfl (lv_at hl 0 rfl) ?_
    refine W.lcmp hx hb dX2_placeOfGoing_21 ?_
    refine lv_if_le (tgt := 54) hx hb dX2_placeOfGoing_22 (by decide) (fun c_22 => ?_) (fun c_22 => ?_)
    · have c_22 : x ≤ n := (pk_lLE (by omega) (by omega)).mp ((lg_cmp_le _ _).mp c_22)
      refine lv_lload hx hb dX2_placeOfGoing_54 (lv_at hl 2 rfl) ?_
      refine lv_lconst (v := 1) hx hb dX2_placeOfGoing_56 (by decide) ?_
      refine lv_lsub hx hb dX2_placeOfGoing_57 ?_
      refine z_l (y := lN (x - 1)) (lN_sub (b := 1) (by omega)) ?_
      exact W.lret (v := lN (x - 1)) hx hb hr (fun t ht hW => ⟨_, rfl, by first | (rw [goN, if_neg (by omega), ← hg, gIt_stay (by omega)]) | (rw [goN, if_neg (by omega), ← hg, show 1000000 - i = 0 by omega]; rfl), ht⟩) (fun _ h => absurd h List.not_mem_nil) dX2_placeOfGoing_58
    · have c_22 : n < x := Nat.lt_of_not_le (fun h => c_22 ((lg_cmp_le _ _).mpr ((pk_lLE (by omega) (by omega)).mpr h)))
      refine lv_iload hx hb dX2_placeOfGoing_25 (lv_at hl 3 rfl) ?_
      refine lv_ldc (v := 1000000) hx hb hown (hts (.constant RX2 163 (1000000)) (by decide +kernel)) dX2_placeOfGoing_27 ?_
      refine lv_icmp_ge (tgt := 54) hx hb dX2_placeOfGoing_29 (by decide) (fun c_29 => ?_) (fun c_29 => ?_)
      · have c_29 : 1000000 ≤ i := (nI_leI (a := 1000000) (by omega) (by omega)).mp c_29
        refine lv_lload hx hb dX2_placeOfGoing_54 (lv_at hl 2 rfl) ?_
        refine lv_lconst (v := 1) hx hb dX2_placeOfGoing_56 (by decide) ?_
        refine lv_lsub hx hb dX2_placeOfGoing_57 ?_
        refine z_l (y := lN (x - 1)) (lN_sub (b := 1) (by omega)) ?_
        exact W.lret (v := lN (x - 1)) hx hb hr (fun t ht hW => ⟨_, rfl, by first | (rw [goN, if_neg (by omega), ← hg, gIt_stay (by omega)]) | (rw [goN, if_neg (by omega), ← hg, show 1000000 - i = 0 by omega]; rfl), ht⟩) (fun _ h => absurd h List.not_mem_nil) dX2_placeOfGoing_58
      · have c_29 : i < 1000000 := Nat.lt_of_not_le (fun h => c_29 ((nI_leI (a := 1000000) (by omega) (by omega)).mpr h))
        have hb1 : k * (x - n) ≤ 1000 * (1000 * 1000000000000) := Nat.mul_le_mul hk (by omega)
        have hb2 : k * 1 ≤ k * (x - n) := Nat.mul_le_mul_left _ (by omega)
        refine lv_iload_n hx hb dX2_placeOfGoing_32 rfl (lv_at hl 1 rfl) ?_
        refine lv_i2l (v := (nI k).toInt64) hx hb dX2_placeOfGoing_33 rfl ?_
        refine lv_lload hx hb dX2_placeOfGoing_34 (lv_at hl 2 rfl) ?_
        refine lv_lload_n hx hb dX2_placeOfGoing_36 rfl (lv_at hl 0 rfl) ?_
        refine lv_lsub hx hb dX2_placeOfGoing_37 ?_
        refine z_l (y := lN (x - n)) (lN_sub (by omega)) ?_
        refine lv_lmul hx hb dX2_placeOfGoing_38 ?_
        refine z_l (y := lN (k * (x - n))) (by rw [nI_l (by omega), lN_mul]) ?_
        refine lv_lconst (v := 1) hx hb dX2_placeOfGoing_39 (by decide) ?_
        refine lv_lsub hx hb dX2_placeOfGoing_40 ?_
        refine z_l (y := lN (k * (x - n) - 1)) (lN_sub (b := 1) (by omega)) ?_
        refine lv_iload_n hx hb dX2_placeOfGoing_41 rfl (lv_at hl 1 rfl) ?_
        refine lv_iconst (v := 1) hx hb dX2_placeOfGoing_42 (by decide) ?_
        refine lv_isub hx hb dX2_placeOfGoing_43 ?_
        refine lv_i2l (v := ((nI k) - 1).toInt64) hx hb dX2_placeOfGoing_44 rfl ?_
        refine z_l (y := lN (k - 1)) (by rw [show nI k - 1 = nI (k - 1) from pk_sub (b := 1) (by omega), nI_l (by omega)]) ?_
        refine lv_ldiv hx hb dX2_placeOfGoing_45 (fun h => by have := (pk_lEQ (b := 0) (by omega) (by omega)).mp h; omega) ?_
        refine z_l (y := lN (gst n k x)) (pk_lDiv (by omega) (by omega) (by omega)) ?_
        refine lv_lstore (lv' := [(5, .long (lN (gst n k x))), (0, .long (lN n)), (2, .int (nI k)), (7, .int (nI i))]) hx hb dX2_placeOfGoing_46 hl (by decide) rfl (fun ls hl => ?_)
        refine lv_iinc (v := nI (i + 1)) (lv' := [(7, .int (nI (i + 1))), (5, .long (lN (gst n k x))), (0, .long (lN n)), (2, .int (nI k))]) hx hb dX2_placeOfGoing_48 hl (k := 3) rfl (nI_1 i) (by decide) rfl (fun ls hl => ?_)
        refine lv_goto (tgt := 18) hx hb dX2_placeOfGoing_51 (by decide) ?_
        exact ih (gst n k x, i + 1) _ (by show 1000000 - (i + 1) < 1000000 - i; omega) ⟨lv_sub hl [2, 3, 1, 0] rfl, by have := gst_lt c_2 c_22 hxk; omega, gst_pos c_2 c_22, by omega, by rw [← hg, show 1000000 - i = (1000000 - (i + 1)) + 1 by omega]; simp [gIt, c_22]⟩
  · have c_2 : k < 2 := Nat.lt_of_not_le (fun h => c_2 ((nI_leI (a := 2) (by omega) (by omega)).mpr h))
    refine lv_lload_n hx hb dX2_placeOfGoing_5 rfl (lv_at hl 2 rfl) ?_
    refine lv_lconst (v := 1) hx hb dX2_placeOfGoing_6 (by decide) ?_
    refine lv_lsub hx hb dX2_placeOfGoing_7 ?_
    refine z_l (y := lN (j - 1)) (lN_sub (b := 1) hj1) ?_
    exact W.lret (v := lN (j - 1)) hx hb hr (fun t ht hW => ⟨_, rfl, by rw [goN, if_pos c_2], ht⟩) (fun _ h => absurd h List.not_mem_nil) dX2_placeOfGoing_8

set_option maxHeartbeats 4000000 in
set_option maxRecDepth 100000 in
theorem c_X3_goesOf (l : Launch) (dC : Nat → ClassId) (dI : Nat → Nat → Nat) (n k j : Nat) (hn1 : 1 ≤ n) (hn : n ≤ 1000000000000) (hk1 : 1 ≤ k) (hk : k ≤ 1000) (hj1 : 1 ≤ j) (hj : j ≤ n) : Met l yX3_goesOf wsX3_goesOf ({ frames := 0, cells := 0, slots := 0, locals := 0 }) (va_Pc [.long (lN n), .int (nI k), .long (lN j)] (fun _ => True)) (vp_Sl (fun r => r = lN (goN n k j))) 0 0 (fun _ => False) := by
  refine Met.ofW (cc := cX3_goesOf) (maxL := 7) (ret := (some .long)) (by decide) rfl ?_
  intro p e s m args below meth c s₁ B hml hv
  obtain ⟨rfl, -⟩ := hv
  have hx := B.exec
  have hb := B.bytes
  have hr := B.returns
  have hts := atoms_spec (ws := wsX3_goesOf) B.pre
  have hown : s.vm.findClass RX3 = some m.cls := findClass_of_methodNamed B.named
  have hlocks := B.notSynchronized
  have hl := lv_entry ([.long (lN n), .int (nI k), .long (lN j)]) (n := 7) (Nat.le_of_ble_eq_true rfl)
  rw [lg_entry_eq]
  generalize (lg_sl ([.long (lN n), .int (nI k), .long (lN j)]) ++ List.replicate (7 - (lg_sl ([.long (lN n), .int (nI k), .long (lN j)])).length) Slot.unset).toArray = ls at hl ⊢
  have hl : lv_has ls 7 [(0, .long (lN n)), (2, .int (nI k)), (3, .long (lN j))] := hl
  have hkn : k * n ≤ 1000 * 1000000000000 := Nat.mul_le_mul hk hn
  have hkj : k * j ≤ k * n := Nat.mul_le_mul_left _ hj
  have hkj1 : 1 ≤ k * j := Nat.mul_le_mul hk1 hj1
  refine lv_iload_n hx hb dX3_goesOf_0 rfl (lv_at hl 1 rfl) ?_
  refine lv_iconst (v := 1) hx hb dX3_goesOf_1 (by decide) ?_
  refine lv_icmp_ne (tgt := 9) hx hb dX3_goesOf_2 (by decide) (fun c_2 => ?_) (fun c_2 => ?_)
  · have c_2 : 2 ≤ k := by have h2 : ¬ k = 1 := (fun h => c_2 ((nI_eq (b := 1) (by omega) (by omega)).mpr h)); omega
    refine lv_iload_n hx hb dX3_goesOf_9 rfl (lv_at hl 1 rfl) ?_
    refine lv_i2l (v := (nI k).toInt64) hx hb dX3_goesOf_10 rfl ?_
    refine lv_lload_n hx hb dX3_goesOf_11 rfl (lv_at hl 2 rfl) ?_
    refine lv_lmul hx hb dX3_goesOf_12 ?_
    refine z_l (y := lN (k * j)) (by rw [nI_l (by omega), lN_mul]) ?_
    refine lv_lstore (lv' := [(5, .long (lN (k * j))), (0, .long (lN n)), (2, .int (nI k)), (3, .long (lN j))]) hx hb dX3_goesOf_13 hl (by decide) rfl (fun ls hl => ?_)
    have hend := gIt_end hn c_2 hk hkj
    refine W_loopR (σ := Nat × Nat) (fun xx ls => match xx with | (x, f) => lv_has ls 7 [(0, .long (lN n)), (2, .int (nI k)), (5, .long (lN x))] ∧ x ≤ k * n ∧ 1 ≤ x ∧ gIt n k f x = gIt n k 1000000 (k * j)) (fun xx => match xx with | (x, f) => f) ?_ (k * j, 1000000) ⟨lv_sub hl [1, 2, 0] rfl, hkj, hkj1, rfl⟩
    rintro ⟨x, f⟩ ls ⟨hl, hxk, hx1, hg⟩ ih
    refine lv_lload hx hb dX3_goesOf_15 (lv_at hl 2 rfl) ?_
    refine lv_lload_n hx hb dX3_goesOf_17 rfl (lv_at hl 0 rfl) ?_
    refine W.lcmp hx hb dX3_goesOf_18 ?_
    refine lv_if_le (tgt := 41) hx hb dX3_goesOf_19 (by decide) (fun c_19 => ?_) (fun c_19 => ?_)
    · have c_19 : x ≤ n := (pk_lLE (by omega) (by omega)).mp ((lg_cmp_le _ _).mp c_19)
      refine lv_lload hx hb dX3_goesOf_41 (lv_at hl 2 rfl) ?_
      refine lv_lconst (v := 1) hx hb dX3_goesOf_43 (by decide) ?_
      refine lv_lsub hx hb dX3_goesOf_44 ?_
      refine z_l (y := lN (x - 1)) (lN_sub (b := 1) (by omega)) ?_
      exact W.lret (v := lN (x - 1)) hx hb hr (fun t ht hW => ⟨_, rfl, by rw [goN, if_neg (by omega), ← hg, gIt_stay (by omega)], ht⟩) (fun _ h => absurd h List.not_mem_nil) dX3_goesOf_45
    · have c_19 : n < x := Nat.lt_of_not_le (fun h => c_19 ((lg_cmp_le _ _).mpr ((pk_lLE (by omega) (by omega)).mpr h)))
      have hb1 : k * (x - n) ≤ 1000 * (1000 * 1000000000000) := Nat.mul_le_mul hk (by omega)
      have hb2 : k * 1 ≤ k * (x - n) := Nat.mul_le_mul_left _ (by omega)
      obtain ⟨f, rfl⟩ : ∃ f0, f = f0 + 1 := Nat.exists_eq_succ_of_ne_zero (fun h => by subst h; exact absurd hg (by show ¬ x = _; omega))
      refine lv_iload_n hx hb dX3_goesOf_22 rfl (lv_at hl 1 rfl) ?_
      refine lv_i2l (v := (nI k).toInt64) hx hb dX3_goesOf_23 rfl ?_
      refine lv_lload hx hb dX3_goesOf_24 (lv_at hl 2 rfl) ?_
      refine lv_lload_n hx hb dX3_goesOf_26 rfl (lv_at hl 0 rfl) ?_
      refine lv_lsub hx hb dX3_goesOf_27 ?_
      refine z_l (y := lN (x - n)) (lN_sub (by omega)) ?_
      refine lv_lmul hx hb dX3_goesOf_28 ?_
      refine z_l (y := lN (k * (x - n))) (by rw [nI_l (by omega), lN_mul]) ?_
      refine lv_lconst (v := 1) hx hb dX3_goesOf_29 (by decide) ?_
      refine lv_lsub hx hb dX3_goesOf_30 ?_
      refine z_l (y := lN (k * (x - n) - 1)) (lN_sub (b := 1) (by omega)) ?_
      refine lv_iload_n hx hb dX3_goesOf_31 rfl (lv_at hl 1 rfl) ?_
      refine lv_iconst (v := 1) hx hb dX3_goesOf_32 (by decide) ?_
      refine lv_isub hx hb dX3_goesOf_33 ?_
      refine lv_i2l (v := ((nI k) - 1).toInt64) hx hb dX3_goesOf_34 rfl ?_
      refine z_l (y := lN (k - 1)) (by rw [show nI k - 1 = nI (k - 1) from pk_sub (b := 1) (by omega), nI_l (by omega)]) ?_
      refine lv_ldiv hx hb dX3_goesOf_35 (fun h => by have := (pk_lEQ (b := 0) (by omega) (by omega)).mp h; omega) ?_
      refine z_l (y := lN (gst n k x)) (pk_lDiv (by omega) (by omega) (by omega)) ?_
      refine lv_lstore (lv' := [(5, .long (lN (gst n k x))), (0, .long (lN n)), (2, .int (nI k))]) hx hb dX3_goesOf_36 hl (by decide) rfl (fun ls hl => ?_)
      refine lv_goto (tgt := 15) hx hb dX3_goesOf_38 (by decide) ?_
      exact ih (gst n k x, f) _ (by show f < f + 1; omega) ⟨lv_sub hl [1, 2, 0] rfl, by have := gst_lt c_2 c_19 hxk; omega, gst_pos c_2 c_19, by rw [← hg]; simp [gIt, c_19]⟩
  · have c_2 : k < 2 := by have h2 := ((nI_eq (b := 1) (by omega) (by omega)).mp c_2); omega
    refine lv_lload_n hx hb dX3_goesOf_5 rfl (lv_at hl 2 rfl) ?_
    refine lv_lconst (v := 1) hx hb dX3_goesOf_6 (by decide) ?_
    refine lv_lsub hx hb dX3_goesOf_7 ?_
    refine z_l (y := lN (j - 1)) (lN_sub (b := 1) hj1) ?_
    exact W.lret (v := lN (j - 1)) hx hb hr (fun t ht hW => ⟨_, rfl, by rw [goN, if_pos c_2], ht⟩) (fun _ h => absurd h List.not_mem_nil) dX3_goesOf_8

set_option maxHeartbeats 4000000 in
set_option maxRecDepth 100000 in
theorem c_X2_goingOfPlace (l : Launch) (dC : Nat → ClassId) (dI : Nat → Nat → Nat) (n k q : Nat) (hn1 : 1 ≤ n) (hn : n ≤ 1000000000000) (hk1 : 1 ≤ k) (hk : k ≤ 1000) (hq : q < n) : Met l yX2_goingOfPlace wsX2_goingOfPlace ({ frames := 0, cells := 0, slots := 0, locals := 0 }) (va_Pc [.long (lN n), .int (nI k), .long (lN q)] (fun _ => True)) (vp_Sl (fun r => r = lN (tuN n k q))) 0 0 (fun _ => False) := by
  refine Met.ofW (cc := cX2_goingOfPlace) (maxL := 8) (ret := (some .long)) (by decide) rfl ?_
  intro p e s m args below meth c s₁ B hml hv
  obtain ⟨rfl, -⟩ := hv
  have hx := B.exec
  have hb := B.bytes
  have hr := B.returns
  have hts := atoms_spec (ws := wsX2_goingOfPlace) B.pre
  have hown : s.vm.findClass RX2 = some m.cls := findClass_of_methodNamed B.named
  have hlocks := B.notSynchronized
  have hl := lv_entry ([.long (lN n), .int (nI k), .long (lN q)]) (n := 8) (Nat.le_of_ble_eq_true rfl)
  rw [lg_entry_eq]
  generalize (lg_sl ([.long (lN n), .int (nI k), .long (lN q)]) ++ List.replicate (8 - (lg_sl ([.long (lN n), .int (nI k), .long (lN q)])).length) Slot.unset).toArray = ls at hl ⊢
  have hl : lv_has ls 8 [(0, .long (lN n)), (2, .int (nI k)), (3, .long (lN q))] := hl
  have hkn : k * n ≤ 1000 * 1000000000000 := Nat.mul_le_mul hk hn
  refine lv_iload_n hx hb dX2_goingOfPlace_0 rfl (lv_at hl 1 rfl) ?_
  refine lv_iconst (v := 2) hx hb dX2_goingOfPlace_1 (by decide) ?_
  refine lv_icmp_ge (tgt := 9) hx hb dX2_goingOfPlace_2 (by decide) (fun c_2 => ?_) (fun c_2 => ?_)
  · have c_2 : 2 ≤ k := (nI_leI (a := 2) (by omega) (by omega)).mp c_2
    have hkn2 : 2 * n ≤ k * n := Nat.mul_le_mul_right _ c_2
    refine lv_lload_n hx hb dX2_goingOfPlace_9 rfl (lv_at hl 2 rfl) ?_
    refine lv_lconst (v := 1) hx hb dX2_goingOfPlace_10 (by decide) ?_
    refine lv_ladd hx hb dX2_goingOfPlace_11 ?_
    refine z_l (y := lN (q + 1)) (lN_add q 1) ?_
    refine lv_lstore (lv' := [(5, .long (lN (q + 1))), (0, .long (lN n)), (2, .int (nI k)), (3, .long (lN q))]) hx hb dX2_goingOfPlace_12 hl (by decide) rfl (fun ls hl => ?_)
    refine lv_iconst (v := 0) hx hb dX2_goingOfPlace_14 (by decide) ?_
    refine lv_istore (lv' := [(7, .int 0), (5, .long (lN (q + 1))), (0, .long (lN n)), (2, .int (nI k)), (3, .long (lN q))]) hx hb dX2_goingOfPlace_15 hl (by decide) rfl (fun ls hl => ?_)
    refine W_loopR (σ := Nat × Nat) (fun xx ls => match xx with | (x, i) => lv_has ls 8 [(0, .long (lN n)), (2, .int (nI k)), (5, .long (lN x)), (7, .int (nI i))] ∧ x ≤ k * n ∧ i ≤ 1000000 ∧ tIt n k (1000000 - i) x = tIt n k 1000000 (q + 1)) (fun xx => match xx with | (x, i) => 1000000 - i) ?_ (q + 1, 0) ⟨lv_sub hl [2, 3, 1, 0] rfl, by omega, by omega, rfl⟩
    rintro ⟨x, i⟩ ls ⟨hl, hxk, hi, hg⟩ ih
    refine lv_lload hx hb dX2_goingOfPlace_17 (lv_at hl 2 rfl) ?_
    refine lv_iload_n hx hb dX2_goingOfPlace_19 rfl (lv_at hl 1 rfl) ?_
    refine lv_i2l (v := (nI k).toInt64) hx hb dX2_goingOfPlace_20 rfl ?_
    refine z_l (y := lN k) (nI_l (by omega)) ?_
    refine lv_lrem hx hb dX2_goingOfPlace_21 (fun h => by have := (pk_lEQ (b := 0) (by omega) (by omega)).mp h; omega) ?_
    refine z_l (y := lN (x % k)) (pk_lRem (by omega) (by omega) (by omega)) ?_
    have hmod : x % k < k := Nat.mod_lt _ (by omega)
    refine lv_lconst (v := 0) hx hb dX2_goingOfPlace_22 (by decide) ?_
    refine W.lcmp hx hb dX2_goingOfPlace_23 ?_
    refine lv_if_eq (tgt := 52) hx hb dX2_goingOfPlace_24 (by decide) (fun c_24 => ?_) (fun c_24 => ?_)
    · have c_24 : x % k = 0 := (pk_lEQ (b := 0) (by omega) (by omega)).mp ((lg_cmp_eq _ _).mp c_24)
      refine lv_lload hx hb dX2_goingOfPlace_52 (lv_at hl 2 rfl) ?_
      refine lv_iload_n hx hb dX2_goingOfPlace_54 rfl (lv_at hl 1 rfl) ?_
      refine lv_i2l (v := (nI k).toInt64) hx hb dX2_goingOfPlace_55 rfl ?_
      refine z_l (y := lN k) (nI_l (by omega)) ?_
      refine lv_ldiv hx hb dX2_goingOfPlace_56 (fun h => by have := (pk_lEQ (b := 0) (by omega) (by omega)).mp h; omega) ?_
      refine z_l (y := lN (x / k)) (pk_lDiv (by omega) (by omega) (by omega)) ?_
      exact W.lret (v := lN (x / k)) hx hb hr (fun t ht hW => ⟨_, rfl, by first | (rw [tuN, if_neg (by omega), ← hg, tIt_stay c_24]) | (rw [tuN, if_neg (by omega), ← hg, show 1000000 - i = 0 by omega]; rfl), ht⟩) (fun _ h => absurd h List.not_mem_nil) dX2_goingOfPlace_57
    · have c_24 : ¬ x % k = 0 := fun h => c_24 ((lg_cmp_eq _ _).mpr ((pk_lEQ (b := 0) (by omega) (by omega)).mpr h))
      refine lv_iload hx hb dX2_goingOfPlace_27 (lv_at hl 3 rfl) ?_
      refine lv_ldc (v := 1000000) hx hb hown (hts (.constant RX2 163 (1000000)) (by decide +kernel)) dX2_goingOfPlace_29 ?_
      refine lv_icmp_ge (tgt := 52) hx hb dX2_goingOfPlace_31 (by decide) (fun c_31 => ?_) (fun c_31 => ?_)
      · have c_31 : 1000000 ≤ i := (nI_leI (a := 1000000) (by omega) (by omega)).mp c_31
        refine lv_lload hx hb dX2_goingOfPlace_52 (lv_at hl 2 rfl) ?_
        refine lv_iload_n hx hb dX2_goingOfPlace_54 rfl (lv_at hl 1 rfl) ?_
        refine lv_i2l (v := (nI k).toInt64) hx hb dX2_goingOfPlace_55 rfl ?_
        refine z_l (y := lN k) (nI_l (by omega)) ?_
        refine lv_ldiv hx hb dX2_goingOfPlace_56 (fun h => by have := (pk_lEQ (b := 0) (by omega) (by omega)).mp h; omega) ?_
        refine z_l (y := lN (x / k)) (pk_lDiv (by omega) (by omega) (by omega)) ?_
        exact W.lret (v := lN (x / k)) hx hb hr (fun t ht hW => ⟨_, rfl, by first | (rw [tuN, if_neg (by omega), ← hg, tIt_stay c_24]) | (rw [tuN, if_neg (by omega), ← hg, show 1000000 - i = 0 by omega]; rfl), ht⟩) (fun _ h => absurd h List.not_mem_nil) dX2_goingOfPlace_57
      · have c_31 : i < 1000000 := Nat.lt_of_not_le (fun h => c_31 ((nI_leI (a := 1000000) (by omega) (by omega)).mpr h))
        have hdv : x / k ≤ x := Nat.div_le_self _ _
        refine lv_lload_n hx hb dX2_goingOfPlace_34 rfl (lv_at hl 0 rfl) ?_
        refine lv_lload hx hb dX2_goingOfPlace_35 (lv_at hl 2 rfl) ?_
        refine lv_ladd hx hb dX2_goingOfPlace_37 ?_
        refine z_l (y := lN (n + x)) (lN_add n x) ?_
        refine lv_lload hx hb dX2_goingOfPlace_38 (lv_at hl 2 rfl) ?_
        refine lv_iload_n hx hb dX2_goingOfPlace_40 rfl (lv_at hl 1 rfl) ?_
        refine lv_i2l (v := (nI k).toInt64) hx hb dX2_goingOfPlace_41 rfl ?_
        refine z_l (y := lN k) (nI_l (by omega)) ?_
        refine lv_ldiv hx hb dX2_goingOfPlace_42 (fun h => by have := (pk_lEQ (b := 0) (by omega) (by omega)).mp h; omega) ?_
        refine z_l (y := lN (x / k)) (pk_lDiv (by omega) (by omega) (by omega)) ?_
        refine lv_lsub hx hb dX2_goingOfPlace_43 ?_
        refine z_l (y := lN (tst n k x)) (lN_sub (by omega)) ?_
        refine lv_lstore (lv' := [(5, .long (lN (tst n k x))), (0, .long (lN n)), (2, .int (nI k)), (7, .int (nI i))]) hx hb dX2_goingOfPlace_44 hl (by decide) rfl (fun ls hl => ?_)
        refine lv_iinc (v := nI (i + 1)) (lv' := [(7, .int (nI (i + 1))), (5, .long (lN (tst n k x))), (0, .long (lN n)), (2, .int (nI k))]) hx hb dX2_goingOfPlace_46 hl (k := 3) rfl (nI_1 i) (by decide) rfl (fun ls hl => ?_)
        refine lv_goto (tgt := 17) hx hb dX2_goingOfPlace_49 (by decide) ?_
        exact ih (tst n k x, i + 1) _ (by show 1000000 - (i + 1) < 1000000 - i; omega) ⟨lv_sub hl [2, 3, 1, 0] rfl, (tst_le c_2 hxk).1, by omega, by rw [← hg, show 1000000 - i = (1000000 - (i + 1)) + 1 by omega]; simp [tIt, c_24]⟩
  · have c_2 : k < 2 := Nat.lt_of_not_le (fun h => c_2 ((nI_leI (a := 2) (by omega) (by omega)).mpr h))
    refine lv_lload_n hx hb dX2_goingOfPlace_5 rfl (lv_at hl 2 rfl) ?_
    refine lv_lconst (v := 1) hx hb dX2_goingOfPlace_6 (by decide) ?_
    refine lv_ladd hx hb dX2_goingOfPlace_7 ?_
    refine z_l (y := lN (q + 1)) (lN_add q 1) ?_
    exact W.lret (v := lN (q + 1)) hx hb hr (fun t ht hW => ⟨_, rfl, by rw [tuN, if_pos c_2], ht⟩) (fun _ h => absurd h List.not_mem_nil) dX2_goingOfPlace_8
end
section
theorem sub1_toInt {n : Int64} (h : 1 ≤ n.toInt ∧ n.toInt ≤ 1000000000000) : (n - 1).toInt = n.toInt - 1 := by
  obtain ⟨k, h1, h2, rfl⟩ := lN_wi (x := n) (a := 1) (b := 1000000000000) (wi_t.mpr h) (by omega)
  rw [show lN k - 1 = lN (k - 1) from lN_sub (b := 1) h1, pk_lT (by omega), pk_lT (by omega)]
  omega
theorem tIt_end1 {n k x : Nat} (hn : n ≤ 1000000000000) (hk1 : 1 ≤ k) (hK : k ≤ 1000) (hxk : x ≤ k * n) : tIt n k 1000000 x % k = 0 := by
  rcases Nat.lt_or_ge k 2 with h | h
  · have : k = 1 := by omega
    subst this
    exact Nat.mod_one _
  · exact tIt_end hn h hK hxk
theorem tst_le1 {n k x : Nat} (hk1 : 1 ≤ k) (h : ¬ x % k = 0) (hx : x ≤ k * n) : tst n k x ≤ k * n := by
  rcases Nat.lt_or_ge k 2 with h2 | h2
  · have : k = 1 := by omega
    subst this
    exact absurd (Nat.mod_one _) h
  · exact (tst_le h2 hx).1
theorem tuN1 {n k q f x : Nat} (hk1 : 1 ≤ k) (hg : tIt n k f x = tIt n k 1000000 (q + 1)) (h : x % k = 0) : x / k = tuN n k q := by
  rw [tIt_stay h] at hg
  unfold tuN
  rcases Nat.lt_or_ge k 2 with h2 | h2
  · have : k = 1 := by omega
    subst this
    rw [if_pos (by omega)]
    rw [tIt_stay (Nat.mod_one _)] at hg
    omega
  · rw [if_neg (by omega), hg]
set_option maxHeartbeats 4000000 in
set_option maxRecDepth 100000 in
theorem c_X2_goes (l : Launch) (dC : Nat → ClassId) (dI : Nat → Nat → Nat) (h0 : Nat) (n : Int64) (k : Int32) (j : Int64) : Met l yX2_goes wsX2_goes ({ frames := 2, cells := 0, slots := 0, locals := 47 }) (va_Pc [.ref h0, .long n, .int k, .long j] (fun _ => True)) (vp_Sl (fun r => r = spGoes n k j)) 0 0 (fun _ => False) := by
  refine Met.ofW (cc := cX2_goes) (maxL := 6) (ret := (some .long)) (by decide) rfl ?_
  intro p e s m args below meth c s₁ B hml hv
  obtain ⟨rfl, -⟩ := hv
  have hx := B.exec
  have hb := B.bytes
  have hr := B.returns
  have hts := atoms_spec (ws := wsX2_goes) B.pre
  have hown : s.vm.findClass RX2 = some m.cls := findClass_of_methodNamed B.named
  have hlocks := B.notSynchronized
  have hl := lv_entry ([.ref h0, .long n, .int k, .long j]) (n := 6) (Nat.le_of_ble_eq_true rfl)
  rw [lg_entry_eq]
  generalize (lg_sl ([.ref h0, .long n, .int k, .long j]) ++ List.replicate (6 - (lg_sl ([.ref h0, .long n, .int k, .long j])).length) Slot.unset).toArray = ls at hl ⊢
  have hl : lv_has ls 6 [(0, .ref h0), (1, .long n), (3, .int k), (4, .long j)] := hl
  refine lv_lload_n hx hb dX2_goes_0 rfl (lv_at hl 1 rfl) ?_
  refine lv_iload_n hx hb dX2_goes_1 rfl (lv_at hl 2 rfl) ?_
  refine vp_callSi (va_Run.run (va_runS (As := [.long n, .int k]) (rest := []) ⟨hx, hb, hml, hown, hts⟩ (c_X2_isGreatRing l dC dI n k) (va_cwS 2 hts gX2_goes_X2_isGreatRing rfl rfl rfl (by decide +kernel) ⟨Nat.le_of_ble_eq_true rfl, Nat.le_of_ble_eq_true rfl⟩) ⟨fun a U g mk q => ⟨q.1, trivial⟩, fun U hU hW => ⟨rfl, trivial⟩⟩ rfl rfl hl.1 rfl (lv_room (Nat.le_of_ble_eq_true rfl)) dX2_goes_2 ⟨Nat.zero_le _, Nat.zero_le _⟩)) (fun r_2 hr_2 => ?_)
  subst hr_2
  refine lv_if_eq (tgt := 18) hx hb dX2_goes_5 (by decide) (fun c_5 => ?_) (fun c_5 => ?_)
  · have c_5 := zb_0.mp c_5
    refine lv_ldc2 (v := (-1)) hx hb hown (hts (.constantLong RX2 35 (-1)) (by decide +kernel)) dX2_goes_18 ?_
    exact W.lret (v := (-1)) hx hb hr (fun t ht hW => ⟨_, rfl, by unfold spGoes; first | (rw [c_5, Bool.false_and, if_neg (by decide)]) | (rw [c_5, c_15, Bool.true_and, if_neg (by decide)]), ht⟩) (fun _ h => absurd h List.not_mem_nil) dX2_goes_21
  · have c_5 := zb_n.mp c_5
    refine lv_lload hx hb dX2_goes_8 (lv_at hl 3 rfl) ?_
    refine lv_lconst (v := 1) hx hb dX2_goes_10 (by decide) ?_
    refine lv_lload_n hx hb dX2_goes_11 rfl (lv_at hl 1 rfl) ?_
    refine vp_callSi (va_Run.run (va_runS (As := [.long j, .long 1, .long n]) (rest := []) ⟨hx, hb, hml, hown, hts⟩ (c_X2_isWithin l dC dI j 1 n) (va_cwS 3 hts gX2_goes_X2_isWithin rfl rfl rfl (by decide +kernel) ⟨Nat.le_of_ble_eq_true rfl, Nat.le_of_ble_eq_true rfl⟩) ⟨fun a U g mk q => ⟨q.1, trivial⟩, fun U hU hW => ⟨rfl, trivial⟩⟩ rfl rfl hl.1 rfl (lv_room (Nat.le_of_ble_eq_true rfl)) dX2_goes_12 ⟨Nat.zero_le _, Nat.zero_le _⟩)) (fun r_12 hr_12 => ?_)
    obtain rfl : r_12 = zb (wi j.toInt 1 n.toInt) := hr_12.trans (by rfl)
    refine lv_if_ne (tgt := 22) hx hb dX2_goes_15 (by decide) (fun c_15 => ?_) (fun c_15 => ?_)
    · have c_15 := zb_n.mp c_15
      rw [Bool.and_eq_true] at c_5
      obtain ⟨n1, hn1, hn2, rfl⟩ := lN_wi (a := 1) (b := 1000000000000) c_5.1 (by omega)
      obtain ⟨k1, hk1, hk2, rfl⟩ := nI_wi (a := 1) (b := 1000) c_5.2
      rw [pk_lT (by omega)] at c_15
      obtain ⟨j1, hj1, hj2, rfl⟩ := lN_wi (a := 1) (b := n1) c_15 (by omega)
      refine lv_lload_n hx hb dX2_goes_22 rfl (lv_at hl 1 rfl) ?_
      refine lv_iload_n hx hb dX2_goes_23 rfl (lv_at hl 2 rfl) ?_
      refine lv_lload hx hb dX2_goes_24 (lv_at hl 3 rfl) ?_
      refine vp_callSl (va_Run.run (va_runS (As := [.long (lN n1), .int (nI k1), .long (lN j1)]) (rest := []) ⟨hx, hb, hml, hown, hts⟩ (c_X2_placeOfGoing l dC dI n1 k1 j1 hn1 hn2 hk1 hk2 hj1 hj2) (va_cwS 3 hts gX2_goes_X2_placeOfGoing rfl rfl rfl (by decide +kernel) ⟨Nat.le_of_ble_eq_true rfl, Nat.le_of_ble_eq_true rfl⟩) ⟨fun a U g mk q => ⟨q.1, trivial⟩, fun U hU hW => ⟨rfl, trivial⟩⟩ rfl rfl hl.1 rfl (lv_room (Nat.le_of_ble_eq_true rfl)) dX2_goes_26 ⟨Nat.zero_le _, Nat.zero_le _⟩)) (fun r_26 hr_26 => ?_)
      subst hr_26
      exact W.lret (v := lN (goN n1 k1 j1)) hx hb hr (fun t ht hW => ⟨_, rfl, spGoes_t hn1 hn2 hk1 hk2 hj1 hj2, ht⟩) (fun _ h => absurd h List.not_mem_nil) dX2_goes_29
    · have c_15 := zb_0.mp c_15
      refine lv_ldc2 (v := (-1)) hx hb hown (hts (.constantLong RX2 35 (-1)) (by decide +kernel)) dX2_goes_18 ?_
      exact W.lret (v := (-1)) hx hb hr (fun t ht hW => ⟨_, rfl, by unfold spGoes; first | (rw [c_5, Bool.false_and, if_neg (by decide)]) | (rw [c_5, c_15, Bool.true_and, if_neg (by decide)]), ht⟩) (fun _ h => absurd h List.not_mem_nil) dX2_goes_21

set_option maxHeartbeats 4000000 in
set_option maxRecDepth 100000 in
theorem c_X2_last (l : Launch) (dC : Nat → ClassId) (dI : Nat → Nat → Nat) (h0 : Nat) (n : Int64) (k : Int32) : Met l yX2_last wsX2_last ({ frames := 2, cells := 0, slots := 0, locals := 47 }) (va_Pc [.ref h0, .long n, .int k] (fun _ => True)) (vp_Sl (fun r => r = spLast n k)) 0 0 (fun _ => False) := by
  refine Met.ofW (cc := cX2_last) (maxL := 4) (ret := (some .long)) (by decide) rfl ?_
  intro p e s m args below meth c s₁ B hml hv
  obtain ⟨rfl, -⟩ := hv
  have hx := B.exec
  have hb := B.bytes
  have hr := B.returns
  have hts := atoms_spec (ws := wsX2_last) B.pre
  have hown : s.vm.findClass RX2 = some m.cls := findClass_of_methodNamed B.named
  have hlocks := B.notSynchronized
  have hl := lv_entry ([.ref h0, .long n, .int k]) (n := 4) (Nat.le_of_ble_eq_true rfl)
  rw [lg_entry_eq]
  generalize (lg_sl ([.ref h0, .long n, .int k]) ++ List.replicate (4 - (lg_sl ([.ref h0, .long n, .int k])).length) Slot.unset).toArray = ls at hl ⊢
  have hl : lv_has ls 4 [(0, .ref h0), (1, .long n), (3, .int k)] := hl
  refine lv_lload_n hx hb dX2_last_0 rfl (lv_at hl 1 rfl) ?_
  refine lv_iload_n hx hb dX2_last_1 rfl (lv_at hl 2 rfl) ?_
  refine vp_callSi (va_Run.run (va_runS (As := [.long n, .int k]) (rest := []) ⟨hx, hb, hml, hown, hts⟩ (c_X2_isGreatRing l dC dI n k) (va_cwS 2 hts gX2_last_X2_isGreatRing rfl rfl rfl (by decide +kernel) ⟨Nat.le_of_ble_eq_true rfl, Nat.le_of_ble_eq_true rfl⟩) ⟨fun a U g mk q => ⟨q.1, trivial⟩, fun U hU hW => ⟨rfl, trivial⟩⟩ rfl rfl hl.1 rfl (lv_room (Nat.le_of_ble_eq_true rfl)) dX2_last_2 ⟨Nat.zero_le _, Nat.zero_le _⟩)) (fun r_2 hr_2 => ?_)
  subst hr_2
  refine lv_if_ne (tgt := 12) hx hb dX2_last_5 (by decide) (fun c_5 => ?_) (fun c_5 => ?_)
  · have c_5 := zb_n.mp c_5
    rw [Bool.and_eq_true] at c_5
    obtain ⟨n1, hn1, hn2, rfl⟩ := lN_wi (a := 1) (b := 1000000000000) c_5.1 (by omega)
    obtain ⟨k1, hk1, hk2, rfl⟩ := nI_wi (a := 1) (b := 1000) c_5.2
    refine lv_lload_n hx hb dX2_last_12 rfl (lv_at hl 1 rfl) ?_
    refine lv_iload_n hx hb dX2_last_13 rfl (lv_at hl 2 rfl) ?_
    refine lv_lload_n hx hb dX2_last_14 rfl (lv_at hl 1 rfl) ?_
    refine vp_callSl (va_Run.run (va_runS (As := [.long (lN n1), .int (nI k1), .long (lN n1)]) (rest := []) ⟨hx, hb, hml, hown, hts⟩ (c_X2_placeOfGoing l dC dI n1 k1 n1 hn1 hn2 hk1 hk2 hn1 (Nat.le_refl _)) (va_cwS 3 hts gX2_last_X2_placeOfGoing rfl rfl rfl (by decide +kernel) ⟨Nat.le_of_ble_eq_true rfl, Nat.le_of_ble_eq_true rfl⟩) ⟨fun a U g mk q => ⟨q.1, trivial⟩, fun U hU hW => ⟨rfl, trivial⟩⟩ rfl rfl hl.1 rfl (lv_room (Nat.le_of_ble_eq_true rfl)) dX2_last_15 ⟨Nat.zero_le _, Nat.zero_le _⟩)) (fun r_15 hr_15 => ?_)
    subst hr_15
    exact W.lret (v := lN (goN n1 k1 n1)) hx hb hr (fun t ht hW => ⟨_, rfl, spLast_t hn1 hn2 hk1 hk2, ht⟩) (fun _ h => absurd h List.not_mem_nil) dX2_last_18
  · have c_5 := zb_0.mp c_5
    refine lv_ldc2 (v := (-1)) hx hb hown (hts (.constantLong RX2 35 (-1)) (by decide +kernel)) dX2_last_8 ?_
    exact W.lret (v := (-1)) hx hb hr (fun t ht hW => ⟨_, rfl, by unfold spLast; rw [c_5, if_neg (by decide)], ht⟩) (fun _ h => absurd h List.not_mem_nil) dX2_last_11

set_option maxHeartbeats 4000000 in
set_option maxRecDepth 100000 in
theorem c_X2_turn (l : Launch) (dC : Nat → ClassId) (dI : Nat → Nat → Nat) (h0 : Nat) (n : Int64) (k : Int32) (q : Int64) : Met l yX2_turn wsX2_turn ({ frames := 2, cells := 0, slots := 0, locals := 47 }) (va_Pc [.ref h0, .long n, .int k, .long q] (fun _ => True)) (vp_Sl (fun r => r = spTurn n k q)) 0 0 (fun _ => False) := by
  refine Met.ofW (cc := cX2_turn) (maxL := 6) (ret := (some .long)) (by decide) rfl ?_
  intro p e s m args below meth c s₁ B hml hv
  obtain ⟨rfl, -⟩ := hv
  have hx := B.exec
  have hb := B.bytes
  have hr := B.returns
  have hts := atoms_spec (ws := wsX2_turn) B.pre
  have hown : s.vm.findClass RX2 = some m.cls := findClass_of_methodNamed B.named
  have hlocks := B.notSynchronized
  have hl := lv_entry ([.ref h0, .long n, .int k, .long q]) (n := 6) (Nat.le_of_ble_eq_true rfl)
  rw [lg_entry_eq]
  generalize (lg_sl ([.ref h0, .long n, .int k, .long q]) ++ List.replicate (6 - (lg_sl ([.ref h0, .long n, .int k, .long q])).length) Slot.unset).toArray = ls at hl ⊢
  have hl : lv_has ls 6 [(0, .ref h0), (1, .long n), (3, .int k), (4, .long q)] := hl
  refine lv_lload_n hx hb dX2_turn_0 rfl (lv_at hl 1 rfl) ?_
  refine lv_iload_n hx hb dX2_turn_1 rfl (lv_at hl 2 rfl) ?_
  refine vp_callSi (va_Run.run (va_runS (As := [.long n, .int k]) (rest := []) ⟨hx, hb, hml, hown, hts⟩ (c_X2_isGreatRing l dC dI n k) (va_cwS 2 hts gX2_turn_X2_isGreatRing rfl rfl rfl (by decide +kernel) ⟨Nat.le_of_ble_eq_true rfl, Nat.le_of_ble_eq_true rfl⟩) ⟨fun a U g mk q => ⟨q.1, trivial⟩, fun U hU hW => ⟨rfl, trivial⟩⟩ rfl rfl hl.1 rfl (lv_room (Nat.le_of_ble_eq_true rfl)) dX2_turn_2 ⟨Nat.zero_le _, Nat.zero_le _⟩)) (fun r_2 hr_2 => ?_)
  subst hr_2
  refine lv_if_eq (tgt := 20) hx hb dX2_turn_5 (by decide) (fun c_5 => ?_) (fun c_5 => ?_)
  · have c_5 := zb_0.mp c_5
    refine lv_ldc2 (v := (-1)) hx hb hown (hts (.constantLong RX2 35 (-1)) (by decide +kernel)) dX2_turn_20 ?_
    exact W.lret (v := (-1)) hx hb hr (fun t ht hW => ⟨_, rfl, by unfold spTurn; first | (rw [c_5, Bool.false_and, if_neg (by decide)]) | (rw [c_5, c_17, Bool.true_and, if_neg (by decide)]), ht⟩) (fun _ h => absurd h List.not_mem_nil) dX2_turn_23
  · have c_5 := zb_n.mp c_5
    refine lv_lload hx hb dX2_turn_8 (lv_at hl 3 rfl) ?_
    refine lv_lconst (v := 0) hx hb dX2_turn_10 (by decide) ?_
    refine lv_lload_n hx hb dX2_turn_11 rfl (lv_at hl 1 rfl) ?_
    refine lv_lconst (v := 1) hx hb dX2_turn_12 (by decide) ?_
    refine lv_lsub hx hb dX2_turn_13 ?_
    refine vp_callSi (va_Run.run (va_runS (As := [.long q, .long 0, .long (n - 1)]) (rest := []) ⟨hx, hb, hml, hown, hts⟩ (c_X2_isWithin l dC dI q 0 (n - 1)) (va_cwS 3 hts gX2_turn_X2_isWithin rfl rfl rfl (by decide +kernel) ⟨Nat.le_of_ble_eq_true rfl, Nat.le_of_ble_eq_true rfl⟩) ⟨fun a U g mk q => ⟨q.1, trivial⟩, fun U hU hW => ⟨rfl, trivial⟩⟩ rfl rfl hl.1 rfl (lv_room (Nat.le_of_ble_eq_true rfl)) dX2_turn_14 ⟨Nat.zero_le _, Nat.zero_le _⟩)) (fun r_14 hr_14 => ?_)
    obtain rfl : r_14 = zb (wi q.toInt 0 (n.toInt - 1)) := hr_14.trans (by rw [sub1_toInt (wi_t.mp (Bool.and_eq_true_iff.mp c_5).1)]; rfl)
    refine lv_if_ne (tgt := 24) hx hb dX2_turn_17 (by decide) (fun c_17 => ?_) (fun c_17 => ?_)
    · have c_17 := zb_n.mp c_17
      rw [Bool.and_eq_true] at c_5
      obtain ⟨n1, hn1, hn2, rfl⟩ := lN_wi (a := 1) (b := 1000000000000) c_5.1 (by omega)
      obtain ⟨k1, hk1, hk2, rfl⟩ := nI_wi (a := 1) (b := 1000) c_5.2
      rw [pk_lT (by omega)] at c_17
      obtain ⟨q1, hq1, hq2, rfl⟩ := lN_wi (x := q) (a := 0) (b := n1 - 1) (by rw [Int.ofNat_sub hn1]; exact c_17) (by omega)
      refine lv_lload_n hx hb dX2_turn_24 rfl (lv_at hl 1 rfl) ?_
      refine lv_iload_n hx hb dX2_turn_25 rfl (lv_at hl 2 rfl) ?_
      refine lv_lload hx hb dX2_turn_26 (lv_at hl 3 rfl) ?_
      refine vp_callSl (va_Run.run (va_runS (As := [.long (lN n1), .int (nI k1), .long (lN q1)]) (rest := []) ⟨hx, hb, hml, hown, hts⟩ (c_X2_goingOfPlace l dC dI n1 k1 q1 hn1 hn2 hk1 hk2 (by omega)) (va_cwS 3 hts gX2_turn_X2_goingOfPlace rfl rfl rfl (by decide +kernel) ⟨Nat.le_of_ble_eq_true rfl, Nat.le_of_ble_eq_true rfl⟩) ⟨fun a U g mk q => ⟨q.1, trivial⟩, fun U hU hW => ⟨rfl, trivial⟩⟩ rfl rfl hl.1 rfl (lv_room (Nat.le_of_ble_eq_true rfl)) dX2_turn_28 ⟨Nat.zero_le _, Nat.zero_le _⟩)) (fun r_28 hr_28 => ?_)
      subst hr_28
      exact W.lret (v := lN (tuN n1 k1 q1)) hx hb hr (fun t ht hW => ⟨_, rfl, spTurn_t hn1 hn2 hk1 hk2 (by omega), ht⟩) (fun _ h => absurd h List.not_mem_nil) dX2_turn_31
    · have c_17 := zb_0.mp c_17
      refine lv_ldc2 (v := (-1)) hx hb hown (hts (.constantLong RX2 35 (-1)) (by decide +kernel)) dX2_turn_20 ?_
      exact W.lret (v := (-1)) hx hb hr (fun t ht hW => ⟨_, rfl, by unfold spTurn; first | (rw [c_5, Bool.false_and, if_neg (by decide)]) | (rw [c_5, c_17, Bool.true_and, if_neg (by decide)]), ht⟩) (fun _ h => absurd h List.not_mem_nil) dX2_turn_23

set_option maxHeartbeats 4000000 in
set_option maxRecDepth 100000 in
theorem c_X3_goes (l : Launch) (dC : Nat → ClassId) (dI : Nat → Nat → Nat) (sz : Nat) (cA : ClassId) (h0 a3 a4 a5 a9 a11 a12 a14 a15 a16 : Nat) (tr : Int64) (pe st kd wd tn sd : Int32) (n : Int64) (k : Int32) (j : Int64) : Met l yX3_goes wsX3_goes ({ frames := 2, cells := 0, slots := 0, locals := 47 }) (va_Pc [.ref h0, .long n, .int k, .long j] (fun U => U.heap.size = sz ∧ va_P (dC, dI) vwCl [(h0, .inr (3, [.int 0, .long tr, .int pe, .ref a3, .ref a4, .ref a5, .int st, .int kd, .int wd, .ref a9, .int tn, .ref a11, .ref a12, .int sd, .ref a14, .ref a15, .ref a16]))] U.heap ∧ va_K (dC, dI) vwCl [(cA, .int)] U ∧ va_D (fun _ => True) [(h0, .inr (3, [.int 0, .long tr, .int pe, .ref a3, .ref a4, .ref a5, .int st, .int kd, .int wd, .ref a9, .int tn, .ref a11, .ref a12, .int sd, .ref a14, .ref a15, .ref a16]))])) (va_Ql (S := Unit) (fun r _ => r = spGoes n k j) (fun (_ : Unit) (t : State) => va_P (dC, dI) vwCl [(h0, .inr (3, [.int 0, .long tr, .int pe, .ref a3, .ref a4, .ref a5, .int st, .int kd, .int wd, .ref a9, .int tn, .ref a11, .ref a12, .int sd, .ref a14, .ref a15, .ref a16]))] t.heap ∧ va_K (dC, dI) vwCl [(cA, .int)] t ∧ va_D (va_A [(h0, .inr (3, [.int 0, .long tr, .int pe, .ref a3, .ref a4, .ref a5, .int st, .int kd, .int wd, .ref a9, .int tn, .ref a11, .ref a12, .int sd, .ref a14, .ref a15, .ref a16]))] sz) [(h0, .inr (3, [.int 0, .long tr, .int pe, .ref a3, .ref a4, .ref a5, .int st, .int kd, .int wd, .ref a9, .int tn, .ref a11, .ref a12, .int sd, .ref a14, .ref a15, .ref a16]))]) (va_A [(h0, .inr (3, [.int 0, .long tr, .int pe, .ref a3, .ref a4, .ref a5, .int st, .int kd, .int wd, .ref a9, .int tn, .ref a11, .ref a12, .int sd, .ref a14, .ref a15, .ref a16]))] sz)) 0 0 (va_A [(h0, .inr (3, [.int 0, .long tr, .int pe, .ref a3, .ref a4, .ref a5, .int st, .int kd, .int wd, .ref a9, .int tn, .ref a11, .ref a12, .int sd, .ref a14, .ref a15, .ref a16]))] sz) := by
  refine Met.ofW (cc := cX3_goes) (maxL := 6) (ret := (some .long)) (by decide) rfl ?_
  intro p e s m args below meth c s₁ B hml hv
  obtain ⟨rfl, hsz, hP, hK, hD0⟩ := hv
  have hx := B.exec
  have hb := B.bytes
  have hr := B.returns
  have hts := atoms_spec (ws := wsX3_goes) B.pre
  have hown : s.vm.findClass RX3 = some m.cls := findClass_of_methodNamed B.named
  have hlocks := B.notSynchronized
  subst hsz
  have hD := hD0.self (sz := s.heap.size)
  generalize hAe : va_A [(h0, .inr (3, [.int 0, .long tr, .int pe, .ref a3, .ref a4, .ref a5, .int st, .int kd, .int wd, .ref a9, .int tn, .ref a11, .ref a12, .int sd, .ref a14, .ref a15, .ref a16]))] s.heap.size = A at hD ⊢
  have hA : ∀ q : Nat, s.heap.size ≤ q → A q := fun q h => by rw [← hAe]; exact Or.inr h
  have hS : va_S A s.heap s.heap [] := va_S.rf
  have hP : va_P (dC, dI) vwCl [(h0, .inr (3, [.int 0, .long tr, .int pe, .ref a3, .ref a4, .ref a5, .int st, .int kd, .int wd, .ref a9, .int tn, .ref a11, .ref a12, .int sd, .ref a14, .ref a15, .ref a16]))] s.heap := hP
  have hl := lv_entry ([.ref h0, .long n, .int k, .long j]) (n := 6) (Nat.le_of_ble_eq_true rfl)
  rw [lg_entry_eq]
  generalize (lg_sl ([.ref h0, .long n, .int k, .long j]) ++ List.replicate (6 - (lg_sl ([.ref h0, .long n, .int k, .long j])).length) Slot.unset).toArray = ls at hl ⊢
  have hl : lv_has ls 6 [(0, .ref h0), (1, .long n), (3, .int k), (4, .long j)] := hl
  refine lv_aload_n hx hb dX3_goes_0 rfl (lv_at hl 0 rfl) ?_
  refine lv_iconst (v := 0) hx hb dX3_goes_1 (by decide) ?_
  refine va_put (D := (dC, dI)) (ci := 3) (v := .int 0) (ty := .int) (C := RX3) (T := TX3) (N := 17) hx hb hts (by decide +kernel) tyX3 tyX3_ok nmX3 hown hK hP hD hS 0 rfl rfl 0 (by decide) (hts (.fieldLink RX3 51 "CountedOutModel" "thrown" "I") (by decide +kernel)) (fun _ h9 => h9) rfl (by decide +kernel) rfl rfl (Nat.le_of_ble_eq_true rfl) dX3_goes_2 (fun H locs hP hD hS => ?_)
  have hP : va_P (dC, dI) vwCl [(h0, .inr (3, [.int 0, .long tr, .int pe, .ref a3, .ref a4, .ref a5, .int st, .int kd, .int wd, .ref a9, .int tn, .ref a11, .ref a12, .int sd, .ref a14, .ref a15, .ref a16]))] H := hP
  have hD : va_D A [(h0, .inr (3, [.int 0, .long tr, .int pe, .ref a3, .ref a4, .ref a5, .int st, .int kd, .int wd, .ref a9, .int tn, .ref a11, .ref a12, .int sd, .ref a14, .ref a15, .ref a16]))] := hD
  refine lv_lload_n hx hb dX3_goes_5 rfl (lv_at hl 1 rfl) ?_
  refine lv_iload_n hx hb dX3_goes_6 rfl (lv_at hl 2 rfl) ?_
  refine vp_callSi (va_Run.run (va_runS (As := [.long n, .int k]) (rest := []) ⟨hx, hb, hml, hown, hts⟩ (c_X3_isGreat l dC dI n k) (va_cwS 2 hts gX3_goes_X3_isGreat rfl rfl rfl (by decide +kernel) ⟨Nat.le_of_ble_eq_true rfl, Nat.le_of_ble_eq_true rfl⟩) ⟨fun a U g mk q => ⟨q.1, trivial⟩, fun U hU hW => ⟨rfl, trivial⟩⟩ rfl rfl hl.1 rfl (lv_room (Nat.le_of_ble_eq_true rfl)) dX3_goes_7 ⟨Nat.zero_le _, Nat.zero_le _⟩)) (fun r_7 hr_7 => ?_)
  subst hr_7
  refine lv_if_eq (tgt := 33) hx hb dX3_goes_10 (by decide) (fun c_10 => ?_) (fun c_10 => ?_)
  · have c_10 := zb_0.mp c_10
    refine lv_ldc2 (v := (-1)) hx hb hown (hts (.constantLong RX3 70 (-1)) (by decide +kernel)) dX3_goes_33 ?_
    have hP9 := hP.sub (ws' := [(h0, .inr (3, [.int 0, .long tr, .int pe, .ref a3, .ref a4, .ref a5, .int st, .int kd, .int wd, .ref a9, .int tn, .ref a11, .ref a12, .int sd, .ref a14, .ref a15, .ref a16]))]) [0] rfl
    have hD9 := hD.sub (ws' := [(h0, .inr (3, [.int 0, .long tr, .int pe, .ref a3, .ref a4, .ref a5, .int st, .int kd, .int wd, .ref a9, .int tn, .ref a11, .ref a12, .int sd, .ref a14, .ref a15, .ref a16]))]) [0] (by decide) rfl
    exact W.lret (v := (-1)) hx hb hr (fun t ht hW => ⟨⟨_, (), rfl, by first | exact spGoes_t hn1 hn2 hk1 hk2 hj1 hj2 | (unfold spGoes; first | (rw [c_10, Bool.false_and, if_neg (by decide)]) | (rw [c_10, c_20, Bool.true_and, if_neg (by decide)])), ⟨by rw [ht]; exact hP9, va_K.moved hW.alike hK, hD9⟩⟩, hS.F ht⟩) hS.2.2 dX3_goes_36
  · have c_10 := zb_n.mp c_10
    refine lv_lload hx hb dX3_goes_13 (lv_at hl 3 rfl) ?_
    refine lv_lconst (v := 1) hx hb dX3_goes_15 (by decide) ?_
    refine lv_lload_n hx hb dX3_goes_16 rfl (lv_at hl 1 rfl) ?_
    refine vp_callSi (va_Run.run (va_runS (As := [.long j, .long 1, .long n]) (rest := []) ⟨hx, hb, hml, hown, hts⟩ (c_X3_in l dC dI j 1 n) (va_cwS 3 hts gX3_goes_X3_in rfl rfl rfl (by decide +kernel) ⟨Nat.le_of_ble_eq_true rfl, Nat.le_of_ble_eq_true rfl⟩) ⟨fun a U g mk q => ⟨q.1, trivial⟩, fun U hU hW => ⟨rfl, trivial⟩⟩ rfl rfl hl.1 rfl (lv_room (Nat.le_of_ble_eq_true rfl)) dX3_goes_17 ⟨Nat.zero_le _, Nat.zero_le _⟩)) (fun r_17 hr_17 => ?_)
    obtain rfl : r_17 = zb (wi j.toInt 1 n.toInt) := hr_17.trans (by rfl)
    refine lv_if_eq (tgt := 33) hx hb dX3_goes_20 (by decide) (fun c_20 => ?_) (fun c_20 => ?_)
    · have c_20 := zb_0.mp c_20
      refine lv_ldc2 (v := (-1)) hx hb hown (hts (.constantLong RX3 70 (-1)) (by decide +kernel)) dX3_goes_33 ?_
      have hP9 := hP.sub (ws' := [(h0, .inr (3, [.int 0, .long tr, .int pe, .ref a3, .ref a4, .ref a5, .int st, .int kd, .int wd, .ref a9, .int tn, .ref a11, .ref a12, .int sd, .ref a14, .ref a15, .ref a16]))]) [0] rfl
      have hD9 := hD.sub (ws' := [(h0, .inr (3, [.int 0, .long tr, .int pe, .ref a3, .ref a4, .ref a5, .int st, .int kd, .int wd, .ref a9, .int tn, .ref a11, .ref a12, .int sd, .ref a14, .ref a15, .ref a16]))]) [0] (by decide) rfl
      exact W.lret (v := (-1)) hx hb hr (fun t ht hW => ⟨⟨_, (), rfl, by first | exact spGoes_t hn1 hn2 hk1 hk2 hj1 hj2 | (unfold spGoes; first | (rw [c_10, Bool.false_and, if_neg (by decide)]) | (rw [c_10, c_20, Bool.true_and, if_neg (by decide)])), ⟨by rw [ht]; exact hP9, va_K.moved hW.alike hK, hD9⟩⟩, hS.F ht⟩) hS.2.2 dX3_goes_36
    · have c_20 := zb_n.mp c_20
      rw [Bool.and_eq_true] at c_10
      obtain ⟨n1, hn1, hn2, rfl⟩ := lN_wi (a := 1) (b := 1000000000000) c_10.1 (by omega)
      obtain ⟨k1, hk1, hk2, rfl⟩ := nI_wi (a := 1) (b := 1000) c_10.2
      rw [pk_lT (by omega)] at c_20
      obtain ⟨j1, hj1, hj2, rfl⟩ := lN_wi (a := 1) (b := n1) c_20 (by omega)
      refine lv_lload_n hx hb dX3_goes_23 rfl (lv_at hl 1 rfl) ?_
      refine lv_iload_n hx hb dX3_goes_24 rfl (lv_at hl 2 rfl) ?_
      refine lv_lload hx hb dX3_goes_25 (lv_at hl 3 rfl) ?_
      refine vp_callSl (va_Run.run (va_runS (As := [.long (lN n1), .int (nI k1), .long (lN j1)]) (rest := []) ⟨hx, hb, hml, hown, hts⟩ (c_X3_goesOf l dC dI n1 k1 j1 hn1 hn2 hk1 hk2 hj1 hj2) (va_cwS 3 hts gX3_goes_X3_goesOf rfl rfl rfl (by decide +kernel) ⟨Nat.le_of_ble_eq_true rfl, Nat.le_of_ble_eq_true rfl⟩) ⟨fun a U g mk q => ⟨q.1, trivial⟩, fun U hU hW => ⟨rfl, trivial⟩⟩ rfl rfl hl.1 rfl (lv_room (Nat.le_of_ble_eq_true rfl)) dX3_goes_27 ⟨Nat.zero_le _, Nat.zero_le _⟩)) (fun r_27 hr_27 => ?_)
      subst hr_27
      refine lv_goto (tgt := 36) hx hb dX3_goes_30 (by decide) ?_
      have hP9 := hP.sub (ws' := [(h0, .inr (3, [.int 0, .long tr, .int pe, .ref a3, .ref a4, .ref a5, .int st, .int kd, .int wd, .ref a9, .int tn, .ref a11, .ref a12, .int sd, .ref a14, .ref a15, .ref a16]))]) [0] rfl
      have hD9 := hD.sub (ws' := [(h0, .inr (3, [.int 0, .long tr, .int pe, .ref a3, .ref a4, .ref a5, .int st, .int kd, .int wd, .ref a9, .int tn, .ref a11, .ref a12, .int sd, .ref a14, .ref a15, .ref a16]))]) [0] (by decide) rfl
      exact W.lret (v := lN (goN n1 k1 j1)) hx hb hr (fun t ht hW => ⟨⟨_, (), rfl, by first | exact spGoes_t hn1 hn2 hk1 hk2 hj1 hj2 | (unfold spGoes; first | (rw [c_10, Bool.false_and, if_neg (by decide)]) | (rw [c_10, c_20, Bool.true_and, if_neg (by decide)])), ⟨by rw [ht]; exact hP9, va_K.moved hW.alike hK, hD9⟩⟩, hS.F ht⟩) hS.2.2 dX3_goes_36

set_option maxHeartbeats 4000000 in
set_option maxRecDepth 100000 in
theorem c_X3_last (l : Launch) (dC : Nat → ClassId) (dI : Nat → Nat → Nat) (sz : Nat) (cA : ClassId) (h0 a3 a4 a5 a9 a11 a12 a14 a15 a16 : Nat) (tr : Int64) (pe st kd wd tn sd : Int32) (n : Int64) (k : Int32) : Met l yX3_last wsX3_last ({ frames := 2, cells := 0, slots := 0, locals := 47 }) (va_Pc [.ref h0, .long n, .int k] (fun U => U.heap.size = sz ∧ va_P (dC, dI) vwCl [(h0, .inr (3, [.int 0, .long tr, .int pe, .ref a3, .ref a4, .ref a5, .int st, .int kd, .int wd, .ref a9, .int tn, .ref a11, .ref a12, .int sd, .ref a14, .ref a15, .ref a16]))] U.heap ∧ va_K (dC, dI) vwCl [(cA, .int)] U ∧ va_D (fun _ => True) [(h0, .inr (3, [.int 0, .long tr, .int pe, .ref a3, .ref a4, .ref a5, .int st, .int kd, .int wd, .ref a9, .int tn, .ref a11, .ref a12, .int sd, .ref a14, .ref a15, .ref a16]))])) (va_Ql (S := Unit) (fun r _ => r = spLast n k) (fun (_ : Unit) (t : State) => va_P (dC, dI) vwCl [(h0, .inr (3, [.int 0, .long tr, .int pe, .ref a3, .ref a4, .ref a5, .int st, .int kd, .int wd, .ref a9, .int tn, .ref a11, .ref a12, .int sd, .ref a14, .ref a15, .ref a16]))] t.heap ∧ va_K (dC, dI) vwCl [(cA, .int)] t ∧ va_D (va_A [(h0, .inr (3, [.int 0, .long tr, .int pe, .ref a3, .ref a4, .ref a5, .int st, .int kd, .int wd, .ref a9, .int tn, .ref a11, .ref a12, .int sd, .ref a14, .ref a15, .ref a16]))] sz) [(h0, .inr (3, [.int 0, .long tr, .int pe, .ref a3, .ref a4, .ref a5, .int st, .int kd, .int wd, .ref a9, .int tn, .ref a11, .ref a12, .int sd, .ref a14, .ref a15, .ref a16]))]) (va_A [(h0, .inr (3, [.int 0, .long tr, .int pe, .ref a3, .ref a4, .ref a5, .int st, .int kd, .int wd, .ref a9, .int tn, .ref a11, .ref a12, .int sd, .ref a14, .ref a15, .ref a16]))] sz)) 0 0 (va_A [(h0, .inr (3, [.int 0, .long tr, .int pe, .ref a3, .ref a4, .ref a5, .int st, .int kd, .int wd, .ref a9, .int tn, .ref a11, .ref a12, .int sd, .ref a14, .ref a15, .ref a16]))] sz) := by
  refine Met.ofW (cc := cX3_last) (maxL := 4) (ret := (some .long)) (by decide) rfl ?_
  intro p e s m args below meth c s₁ B hml hv
  obtain ⟨rfl, hsz, hP, hK, hD0⟩ := hv
  have hx := B.exec
  have hb := B.bytes
  have hr := B.returns
  have hts := atoms_spec (ws := wsX3_last) B.pre
  have hown : s.vm.findClass RX3 = some m.cls := findClass_of_methodNamed B.named
  have hlocks := B.notSynchronized
  subst hsz
  have hD := hD0.self (sz := s.heap.size)
  generalize hAe : va_A [(h0, .inr (3, [.int 0, .long tr, .int pe, .ref a3, .ref a4, .ref a5, .int st, .int kd, .int wd, .ref a9, .int tn, .ref a11, .ref a12, .int sd, .ref a14, .ref a15, .ref a16]))] s.heap.size = A at hD ⊢
  have hA : ∀ q : Nat, s.heap.size ≤ q → A q := fun q h => by rw [← hAe]; exact Or.inr h
  have hS : va_S A s.heap s.heap [] := va_S.rf
  have hP : va_P (dC, dI) vwCl [(h0, .inr (3, [.int 0, .long tr, .int pe, .ref a3, .ref a4, .ref a5, .int st, .int kd, .int wd, .ref a9, .int tn, .ref a11, .ref a12, .int sd, .ref a14, .ref a15, .ref a16]))] s.heap := hP
  have hl := lv_entry ([.ref h0, .long n, .int k]) (n := 4) (Nat.le_of_ble_eq_true rfl)
  rw [lg_entry_eq]
  generalize (lg_sl ([.ref h0, .long n, .int k]) ++ List.replicate (4 - (lg_sl ([.ref h0, .long n, .int k])).length) Slot.unset).toArray = ls at hl ⊢
  have hl : lv_has ls 4 [(0, .ref h0), (1, .long n), (3, .int k)] := hl
  refine lv_aload_n hx hb dX3_last_0 rfl (lv_at hl 0 rfl) ?_
  refine lv_iconst (v := 0) hx hb dX3_last_1 (by decide) ?_
  refine va_put (D := (dC, dI)) (ci := 3) (v := .int 0) (ty := .int) (C := RX3) (T := TX3) (N := 17) hx hb hts (by decide +kernel) tyX3 tyX3_ok nmX3 hown hK hP hD hS 0 rfl rfl 0 (by decide) (hts (.fieldLink RX3 51 "CountedOutModel" "thrown" "I") (by decide +kernel)) (fun _ h9 => h9) rfl (by decide +kernel) rfl rfl (Nat.le_of_ble_eq_true rfl) dX3_last_2 (fun H locs hP hD hS => ?_)
  have hP : va_P (dC, dI) vwCl [(h0, .inr (3, [.int 0, .long tr, .int pe, .ref a3, .ref a4, .ref a5, .int st, .int kd, .int wd, .ref a9, .int tn, .ref a11, .ref a12, .int sd, .ref a14, .ref a15, .ref a16]))] H := hP
  have hD : va_D A [(h0, .inr (3, [.int 0, .long tr, .int pe, .ref a3, .ref a4, .ref a5, .int st, .int kd, .int wd, .ref a9, .int tn, .ref a11, .ref a12, .int sd, .ref a14, .ref a15, .ref a16]))] := hD
  refine lv_lload_n hx hb dX3_last_5 rfl (lv_at hl 1 rfl) ?_
  refine lv_iload_n hx hb dX3_last_6 rfl (lv_at hl 2 rfl) ?_
  refine vp_callSi (va_Run.run (va_runS (As := [.long n, .int k]) (rest := []) ⟨hx, hb, hml, hown, hts⟩ (c_X3_isGreat l dC dI n k) (va_cwS 2 hts gX3_last_X3_isGreat rfl rfl rfl (by decide +kernel) ⟨Nat.le_of_ble_eq_true rfl, Nat.le_of_ble_eq_true rfl⟩) ⟨fun a U g mk q => ⟨q.1, trivial⟩, fun U hU hW => ⟨rfl, trivial⟩⟩ rfl rfl hl.1 rfl (lv_room (Nat.le_of_ble_eq_true rfl)) dX3_last_7 ⟨Nat.zero_le _, Nat.zero_le _⟩)) (fun r_7 hr_7 => ?_)
  subst hr_7
  refine lv_if_eq (tgt := 22) hx hb dX3_last_10 (by decide) (fun c_10 => ?_) (fun c_10 => ?_)
  · have c_10 := zb_0.mp c_10
    refine lv_ldc2 (v := (-1)) hx hb hown (hts (.constantLong RX3 70 (-1)) (by decide +kernel)) dX3_last_22 ?_
    have hP9 := hP.sub (ws' := [(h0, .inr (3, [.int 0, .long tr, .int pe, .ref a3, .ref a4, .ref a5, .int st, .int kd, .int wd, .ref a9, .int tn, .ref a11, .ref a12, .int sd, .ref a14, .ref a15, .ref a16]))]) [0] rfl
    have hD9 := hD.sub (ws' := [(h0, .inr (3, [.int 0, .long tr, .int pe, .ref a3, .ref a4, .ref a5, .int st, .int kd, .int wd, .ref a9, .int tn, .ref a11, .ref a12, .int sd, .ref a14, .ref a15, .ref a16]))]) [0] (by decide) rfl
    exact W.lret (v := (-1)) hx hb hr (fun t ht hW => ⟨⟨_, (), rfl, by first | exact spLast_t hn1 hn2 hk1 hk2 | (unfold spLast; rw [c_10, if_neg (by decide)]), ⟨by rw [ht]; exact hP9, va_K.moved hW.alike hK, hD9⟩⟩, hS.F ht⟩) hS.2.2 dX3_last_25
  · have c_10 := zb_n.mp c_10
    rw [Bool.and_eq_true] at c_10
    obtain ⟨n1, hn1, hn2, rfl⟩ := lN_wi (a := 1) (b := 1000000000000) c_10.1 (by omega)
    obtain ⟨k1, hk1, hk2, rfl⟩ := nI_wi (a := 1) (b := 1000) c_10.2
    refine lv_lload_n hx hb dX3_last_13 rfl (lv_at hl 1 rfl) ?_
    refine lv_iload_n hx hb dX3_last_14 rfl (lv_at hl 2 rfl) ?_
    refine lv_lload_n hx hb dX3_last_15 rfl (lv_at hl 1 rfl) ?_
    refine vp_callSl (va_Run.run (va_runS (As := [.long (lN n1), .int (nI k1), .long (lN n1)]) (rest := []) ⟨hx, hb, hml, hown, hts⟩ (c_X3_goesOf l dC dI n1 k1 n1 hn1 hn2 hk1 hk2 hn1 (Nat.le_refl _)) (va_cwS 3 hts gX3_last_X3_goesOf rfl rfl rfl (by decide +kernel) ⟨Nat.le_of_ble_eq_true rfl, Nat.le_of_ble_eq_true rfl⟩) ⟨fun a U g mk q => ⟨q.1, trivial⟩, fun U hU hW => ⟨rfl, trivial⟩⟩ rfl rfl hl.1 rfl (lv_room (Nat.le_of_ble_eq_true rfl)) dX3_last_16 ⟨Nat.zero_le _, Nat.zero_le _⟩)) (fun r_16 hr_16 => ?_)
    subst hr_16
    refine lv_goto (tgt := 25) hx hb dX3_last_19 (by decide) ?_
    have hP9 := hP.sub (ws' := [(h0, .inr (3, [.int 0, .long tr, .int pe, .ref a3, .ref a4, .ref a5, .int st, .int kd, .int wd, .ref a9, .int tn, .ref a11, .ref a12, .int sd, .ref a14, .ref a15, .ref a16]))]) [0] rfl
    have hD9 := hD.sub (ws' := [(h0, .inr (3, [.int 0, .long tr, .int pe, .ref a3, .ref a4, .ref a5, .int st, .int kd, .int wd, .ref a9, .int tn, .ref a11, .ref a12, .int sd, .ref a14, .ref a15, .ref a16]))]) [0] (by decide) rfl
    exact W.lret (v := lN (goN n1 k1 n1)) hx hb hr (fun t ht hW => ⟨⟨_, (), rfl, by first | exact spLast_t hn1 hn2 hk1 hk2 | (unfold spLast; rw [c_10, if_neg (by decide)]), ⟨by rw [ht]; exact hP9, va_K.moved hW.alike hK, hD9⟩⟩, hS.F ht⟩) hS.2.2 dX3_last_25

set_option maxHeartbeats 4000000 in
set_option maxRecDepth 100000 in
theorem c_X3_turn (l : Launch) (dC : Nat → ClassId) (dI : Nat → Nat → Nat) (sz : Nat) (cA : ClassId) (h0 a3 a4 a5 a9 a11 a12 a14 a15 a16 : Nat) (tr : Int64) (pe st kd wd tn sd : Int32) (n : Int64) (k : Int32) (q : Int64) : Met l yX3_turn wsX3_turn ({ frames := 2, cells := 0, slots := 0, locals := 47 }) (va_Pc [.ref h0, .long n, .int k, .long q] (fun U => U.heap.size = sz ∧ va_P (dC, dI) vwCl [(h0, .inr (3, [.int 0, .long tr, .int pe, .ref a3, .ref a4, .ref a5, .int st, .int kd, .int wd, .ref a9, .int tn, .ref a11, .ref a12, .int sd, .ref a14, .ref a15, .ref a16]))] U.heap ∧ va_K (dC, dI) vwCl [(cA, .int)] U ∧ va_D (fun _ => True) [(h0, .inr (3, [.int 0, .long tr, .int pe, .ref a3, .ref a4, .ref a5, .int st, .int kd, .int wd, .ref a9, .int tn, .ref a11, .ref a12, .int sd, .ref a14, .ref a15, .ref a16]))])) (va_Ql (S := Unit) (fun r _ => r = spTurn n k q) (fun (_ : Unit) (t : State) => va_P (dC, dI) vwCl [(h0, .inr (3, [.int 0, .long tr, .int pe, .ref a3, .ref a4, .ref a5, .int st, .int kd, .int wd, .ref a9, .int tn, .ref a11, .ref a12, .int sd, .ref a14, .ref a15, .ref a16]))] t.heap ∧ va_K (dC, dI) vwCl [(cA, .int)] t ∧ va_D (va_A [(h0, .inr (3, [.int 0, .long tr, .int pe, .ref a3, .ref a4, .ref a5, .int st, .int kd, .int wd, .ref a9, .int tn, .ref a11, .ref a12, .int sd, .ref a14, .ref a15, .ref a16]))] sz) [(h0, .inr (3, [.int 0, .long tr, .int pe, .ref a3, .ref a4, .ref a5, .int st, .int kd, .int wd, .ref a9, .int tn, .ref a11, .ref a12, .int sd, .ref a14, .ref a15, .ref a16]))]) (va_A [(h0, .inr (3, [.int 0, .long tr, .int pe, .ref a3, .ref a4, .ref a5, .int st, .int kd, .int wd, .ref a9, .int tn, .ref a11, .ref a12, .int sd, .ref a14, .ref a15, .ref a16]))] sz)) 0 0 (va_A [(h0, .inr (3, [.int 0, .long tr, .int pe, .ref a3, .ref a4, .ref a5, .int st, .int kd, .int wd, .ref a9, .int tn, .ref a11, .ref a12, .int sd, .ref a14, .ref a15, .ref a16]))] sz) := by
  refine Met.ofW (cc := cX3_turn) (maxL := 8) (ret := (some .long)) (by decide) rfl ?_
  intro p e s m args below meth c s₁ B hml hv
  obtain ⟨rfl, hsz, hP, hK, hD0⟩ := hv
  have hx := B.exec
  have hb := B.bytes
  have hr := B.returns
  have hts := atoms_spec (ws := wsX3_turn) B.pre
  have hown : s.vm.findClass RX3 = some m.cls := findClass_of_methodNamed B.named
  have hlocks := B.notSynchronized
  subst hsz
  have hD := hD0.self (sz := s.heap.size)
  generalize hAe : va_A [(h0, .inr (3, [.int 0, .long tr, .int pe, .ref a3, .ref a4, .ref a5, .int st, .int kd, .int wd, .ref a9, .int tn, .ref a11, .ref a12, .int sd, .ref a14, .ref a15, .ref a16]))] s.heap.size = A at hD ⊢
  have hA : ∀ q : Nat, s.heap.size ≤ q → A q := fun q h => by rw [← hAe]; exact Or.inr h
  have hS : va_S A s.heap s.heap [] := va_S.rf
  have hP : va_P (dC, dI) vwCl [(h0, .inr (3, [.int 0, .long tr, .int pe, .ref a3, .ref a4, .ref a5, .int st, .int kd, .int wd, .ref a9, .int tn, .ref a11, .ref a12, .int sd, .ref a14, .ref a15, .ref a16]))] s.heap := hP
  have hl := lv_entry ([.ref h0, .long n, .int k, .long q]) (n := 8) (Nat.le_of_ble_eq_true rfl)
  rw [lg_entry_eq]
  generalize (lg_sl ([.ref h0, .long n, .int k, .long q]) ++ List.replicate (8 - (lg_sl ([.ref h0, .long n, .int k, .long q])).length) Slot.unset).toArray = ls at hl ⊢
  have hl : lv_has ls 8 [(0, .ref h0), (1, .long n), (3, .int k), (4, .long q)] := hl
  refine lv_aload_n hx hb dX3_turn_0 rfl (lv_at hl 0 rfl) ?_
  refine lv_iconst (v := 0) hx hb dX3_turn_1 (by decide) ?_
  refine va_put (D := (dC, dI)) (ci := 3) (v := .int 0) (ty := .int) (C := RX3) (T := TX3) (N := 17) hx hb hts (by decide +kernel) tyX3 tyX3_ok nmX3 hown hK hP hD hS 0 rfl rfl 0 (by decide) (hts (.fieldLink RX3 51 "CountedOutModel" "thrown" "I") (by decide +kernel)) (fun _ h9 => h9) rfl (by decide +kernel) rfl rfl (Nat.le_of_ble_eq_true rfl) dX3_turn_2 (fun H locs hP hD hS => ?_)
  have hP : va_P (dC, dI) vwCl [(h0, .inr (3, [.int 0, .long tr, .int pe, .ref a3, .ref a4, .ref a5, .int st, .int kd, .int wd, .ref a9, .int tn, .ref a11, .ref a12, .int sd, .ref a14, .ref a15, .ref a16]))] H := hP
  have hD : va_D A [(h0, .inr (3, [.int 0, .long tr, .int pe, .ref a3, .ref a4, .ref a5, .int st, .int kd, .int wd, .ref a9, .int tn, .ref a11, .ref a12, .int sd, .ref a14, .ref a15, .ref a16]))] := hD
  refine lv_lload_n hx hb dX3_turn_5 rfl (lv_at hl 1 rfl) ?_
  refine lv_iload_n hx hb dX3_turn_6 rfl (lv_at hl 2 rfl) ?_
  refine vp_callSi (va_Run.run (va_runS (As := [.long n, .int k]) (rest := []) ⟨hx, hb, hml, hown, hts⟩ (c_X3_isGreat l dC dI n k) (va_cwS 2 hts gX3_turn_X3_isGreat rfl rfl rfl (by decide +kernel) ⟨Nat.le_of_ble_eq_true rfl, Nat.le_of_ble_eq_true rfl⟩) ⟨fun a U g mk q => ⟨q.1, trivial⟩, fun U hU hW => ⟨rfl, trivial⟩⟩ rfl rfl hl.1 rfl (lv_room (Nat.le_of_ble_eq_true rfl)) dX3_turn_7 ⟨Nat.zero_le _, Nat.zero_le _⟩)) (fun r_7 hr_7 => ?_)
  subst hr_7
  refine lv_if_eq (tgt := 25) hx hb dX3_turn_10 (by decide) (fun c_10 => ?_) (fun c_10 => ?_)
  · have c_10 := zb_0.mp c_10
    refine lv_ldc2 (v := (-1)) hx hb hown (hts (.constantLong RX3 70 (-1)) (by decide +kernel)) dX3_turn_25 ?_
    have hP9 := hP.sub (ws' := [(h0, .inr (3, [.int 0, .long tr, .int pe, .ref a3, .ref a4, .ref a5, .int st, .int kd, .int wd, .ref a9, .int tn, .ref a11, .ref a12, .int sd, .ref a14, .ref a15, .ref a16]))]) [0] rfl
    have hD9 := hD.sub (ws' := [(h0, .inr (3, [.int 0, .long tr, .int pe, .ref a3, .ref a4, .ref a5, .int st, .int kd, .int wd, .ref a9, .int tn, .ref a11, .ref a12, .int sd, .ref a14, .ref a15, .ref a16]))]) [0] (by decide) rfl
    exact W.lret (v := (-1)) hx hb hr (fun t ht hW => ⟨⟨_, (), rfl, by unfold spTurn; first | (rw [c_10, Bool.false_and, if_neg (by decide)]) | (rw [c_10, c_22, Bool.true_and, if_neg (by decide)]), ⟨by rw [ht]; exact hP9, va_K.moved hW.alike hK, hD9⟩⟩, hS.F ht⟩) hS.2.2 dX3_turn_28
  · have c_10 := zb_n.mp c_10
    refine lv_lload hx hb dX3_turn_13 (lv_at hl 3 rfl) ?_
    refine lv_lconst (v := 0) hx hb dX3_turn_15 (by decide) ?_
    refine lv_lload_n hx hb dX3_turn_16 rfl (lv_at hl 1 rfl) ?_
    refine lv_lconst (v := 1) hx hb dX3_turn_17 (by decide) ?_
    refine lv_lsub hx hb dX3_turn_18 ?_
    refine vp_callSi (va_Run.run (va_runS (As := [.long q, .long 0, .long (n - 1)]) (rest := []) ⟨hx, hb, hml, hown, hts⟩ (c_X3_in l dC dI q 0 (n - 1)) (va_cwS 3 hts gX3_turn_X3_in rfl rfl rfl (by decide +kernel) ⟨Nat.le_of_ble_eq_true rfl, Nat.le_of_ble_eq_true rfl⟩) ⟨fun a U g mk q => ⟨q.1, trivial⟩, fun U hU hW => ⟨rfl, trivial⟩⟩ rfl rfl hl.1 rfl (lv_room (Nat.le_of_ble_eq_true rfl)) dX3_turn_19 ⟨Nat.zero_le _, Nat.zero_le _⟩)) (fun r_19 hr_19 => ?_)
    obtain rfl : r_19 = zb (wi q.toInt 0 (n.toInt - 1)) := hr_19.trans (by rw [sub1_toInt (wi_t.mp (Bool.and_eq_true_iff.mp c_10).1)]; rfl)
    refine lv_if_ne (tgt := 29) hx hb dX3_turn_22 (by decide) (fun c_22 => ?_) (fun c_22 => ?_)
    · have c_22 := zb_n.mp c_22
      rw [Bool.and_eq_true] at c_10
      obtain ⟨n1, hn1, hn2, rfl⟩ := lN_wi (a := 1) (b := 1000000000000) c_10.1 (by omega)
      obtain ⟨k1, hk1, hk2, rfl⟩ := nI_wi (a := 1) (b := 1000) c_10.2
      rw [pk_lT (by omega)] at c_22
      obtain ⟨q1, hq1, hq2, rfl⟩ := lN_wi (x := q) (a := 0) (b := n1 - 1) (by rw [Int.ofNat_sub hn1]; exact c_22) (by omega)
      have hkn : k1 * n1 ≤ 1000 * 1000000000000 := Nat.mul_le_mul hk2 hn2
      have hkn1 : 1 * n1 ≤ k1 * n1 := Nat.mul_le_mul_right _ hk1
      refine lv_lload hx hb dX3_turn_29 (lv_at hl 3 rfl) ?_
      refine lv_lconst (v := 1) hx hb dX3_turn_31 (by decide) ?_
      refine lv_ladd hx hb dX3_turn_32 ?_
      refine z_l (y := lN (q1 + 1)) (lN_add q1 1) ?_
      refine lv_lstore (lv' := [(6, .long (lN (q1 + 1))), (0, .ref h0), (1, .long (lN n1)), (3, .int (nI k1)), (4, .long (lN q1))]) hx hb dX3_turn_33 hl (by decide) rfl (fun ls hl => ?_)
      have hend := tIt_end1 hn2 hk1 hk2 (show q1 + 1 ≤ k1 * n1 by omega)
      refine W_loopR (σ := Nat × Nat) (fun xx ls => match xx with | (x, f) => lv_has ls 8 [(1, .long (lN n1)), (3, .int (nI k1)), (6, .long (lN x))] ∧ x ≤ k1 * n1 ∧ tIt n1 k1 f x = tIt n1 k1 1000000 (q1 + 1)) (fun xx => match xx with | (x, f) => f) ?_ (q1 + 1, 1000000) ⟨lv_sub hl [2, 3, 0] rfl, by omega, rfl⟩
      rintro ⟨x, f⟩ ls ⟨hl, hxk, hg⟩ ih_35
      refine lv_lload hx hb dX3_turn_35 (lv_at hl 2 rfl) ?_
      refine lv_iload_n hx hb dX3_turn_37 rfl (lv_at hl 1 rfl) ?_
      refine lv_i2l (v := (nI k1).toInt64) hx hb dX3_turn_38 rfl ?_
      refine z_l (y := lN k1) (nI_l (by omega)) ?_
      refine lv_lrem hx hb dX3_turn_39 (fun h => by have := (pk_lEQ (b := 0) (by omega) (by omega)).mp h; omega) ?_
      refine z_l (y := lN (x % k1)) (pk_lRem (by omega) (by omega) (by omega)) ?_
      have hmod : x % k1 < k1 := Nat.mod_lt _ (by omega)
      refine lv_lconst (v := 0) hx hb dX3_turn_40 (by decide) ?_
      refine W.lcmp hx hb dX3_turn_41 ?_
      refine lv_if_eq (tgt := 68) hx hb dX3_turn_42 (by decide) (fun c_42 => ?_) (fun c_42 => ?_)
      · have c_42 : x % k1 = 0 := (pk_lEQ (b := 0) (by omega) (by omega)).mp ((lg_cmp_eq _ _).mp c_42)
        refine lv_lload hx hb dX3_turn_68 (lv_at hl 2 rfl) ?_
        refine lv_iload_n hx hb dX3_turn_70 rfl (lv_at hl 1 rfl) ?_
        refine lv_i2l (v := (nI k1).toInt64) hx hb dX3_turn_71 rfl ?_
        refine z_l (y := lN k1) (nI_l (by omega)) ?_
        refine lv_ldiv hx hb dX3_turn_72 (fun h => by have := (pk_lEQ (b := 0) (by omega) (by omega)).mp h; omega) ?_
        refine z_l (y := lN (x / k1)) (pk_lDiv (by omega) (by omega) (by omega)) ?_
        have hP9 := hP.sub (ws' := [(h0, .inr (3, [.int 0, .long tr, .int pe, .ref a3, .ref a4, .ref a5, .int st, .int kd, .int wd, .ref a9, .int tn, .ref a11, .ref a12, .int sd, .ref a14, .ref a15, .ref a16]))]) [0] rfl
        have hD9 := hD.sub (ws' := [(h0, .inr (3, [.int 0, .long tr, .int pe, .ref a3, .ref a4, .ref a5, .int st, .int kd, .int wd, .ref a9, .int tn, .ref a11, .ref a12, .int sd, .ref a14, .ref a15, .ref a16]))]) [0] (by decide) rfl
        exact W.lret (v := lN (x / k1)) hx hb hr (fun t ht hW => ⟨⟨_, (), rfl, by rw [← spTurn_t hn1 hn2 hk1 hk2 (by omega)]; exact congrArg lN (tuN1 hk1 hg c_42), ⟨by rw [ht]; exact hP9, va_K.moved hW.alike hK, hD9⟩⟩, hS.F ht⟩) hS.2.2 dX3_turn_73
      · have c_42 : ¬ x % k1 = 0 := fun h => c_42 ((lg_cmp_eq _ _).mpr ((pk_lEQ (b := 0) (by omega) (by omega)).mpr h))
        obtain ⟨f, rfl⟩ : ∃ f0, f = f0 + 1 := Nat.exists_eq_succ_of_ne_zero (fun h => by subst h; rw [← hg] at hend; exact absurd hend c_42)
        have hdv : x / k1 ≤ x := Nat.div_le_self _ _
        have hdm : k1 * (x / k1) + x % k1 = x := Nat.div_add_mod x k1
        have hdk : x / k1 * (k1 - 1) = k1 * (x / k1) - x / k1 := by rw [Nat.mul_sub, Nat.mul_one, Nat.mul_comm]
        have hdq : x / k1 ≤ k1 * (x / k1) := Nat.le_mul_of_pos_left _ (by omega)
        refine lv_lload_n hx hb dX3_turn_45 rfl (lv_at hl 0 rfl) ?_
        refine lv_lload hx hb dX3_turn_46 (lv_at hl 2 rfl) ?_
        refine lv_iload_n hx hb dX3_turn_48 rfl (lv_at hl 1 rfl) ?_
        refine lv_i2l (v := (nI k1).toInt64) hx hb dX3_turn_49 rfl ?_
        refine z_l (y := lN k1) (nI_l (by omega)) ?_
        refine lv_ldiv hx hb dX3_turn_50 (fun h => by have := (pk_lEQ (b := 0) (by omega) (by omega)).mp h; omega) ?_
        refine z_l (y := lN (x / k1)) (pk_lDiv (by omega) (by omega) (by omega)) ?_
        refine lv_iload_n hx hb dX3_turn_51 rfl (lv_at hl 1 rfl) ?_
        refine lv_iconst (v := 1) hx hb dX3_turn_52 (by decide) ?_
        refine lv_isub hx hb dX3_turn_53 ?_
        refine lv_i2l (v := ((nI k1) - 1).toInt64) hx hb dX3_turn_54 rfl ?_
        refine z_l (y := lN (k1 - 1)) (by rw [show nI k1 - 1 = nI (k1 - 1) from pk_sub (b := 1) (by omega), nI_l (by omega)]) ?_
        refine lv_lmul hx hb dX3_turn_55 ?_
        refine z_l (y := lN (x / k1 * (k1 - 1))) (lN_mul _ _) ?_
        refine lv_ladd hx hb dX3_turn_56 ?_
        refine z_l (y := lN (n1 + x / k1 * (k1 - 1))) (lN_add _ _) ?_
        refine lv_lload hx hb dX3_turn_57 (lv_at hl 2 rfl) ?_
        refine lv_iload_n hx hb dX3_turn_59 rfl (lv_at hl 1 rfl) ?_
        refine lv_i2l (v := (nI k1).toInt64) hx hb dX3_turn_60 rfl ?_
        refine z_l (y := lN k1) (nI_l (by omega)) ?_
        refine lv_lrem hx hb dX3_turn_61 (fun h => by have := (pk_lEQ (b := 0) (by omega) (by omega)).mp h; omega) ?_
        refine z_l (y := lN (x % k1)) (pk_lRem (by omega) (by omega) (by omega)) ?_
        refine lv_ladd hx hb dX3_turn_62 ?_
        refine z_l (y := lN (tst n1 k1 x)) (by rw [lN_add]; congr 1; unfold tst; omega) ?_
        refine lv_lstore (lv' := [(6, .long (lN (tst n1 k1 x))), (1, .long (lN n1)), (3, .int (nI k1))]) hx hb dX3_turn_63 hl (by decide) rfl (fun ls hl => ?_)
        refine lv_goto (tgt := 35) hx hb dX3_turn_65 (by decide) ?_
        exact ih_35 (tst n1 k1 x, f) _ (by show f < f + 1; omega) ⟨lv_sub hl [1, 2, 0] rfl, tst_le1 hk1 c_42 hxk, by rw [← hg]; simp [tIt, c_42]⟩
    · have c_22 := zb_0.mp c_22
      refine lv_ldc2 (v := (-1)) hx hb hown (hts (.constantLong RX3 70 (-1)) (by decide +kernel)) dX3_turn_25 ?_
      have hP9 := hP.sub (ws' := [(h0, .inr (3, [.int 0, .long tr, .int pe, .ref a3, .ref a4, .ref a5, .int st, .int kd, .int wd, .ref a9, .int tn, .ref a11, .ref a12, .int sd, .ref a14, .ref a15, .ref a16]))]) [0] rfl
      have hD9 := hD.sub (ws' := [(h0, .inr (3, [.int 0, .long tr, .int pe, .ref a3, .ref a4, .ref a5, .int st, .int kd, .int wd, .ref a9, .int tn, .ref a11, .ref a12, .int sd, .ref a14, .ref a15, .ref a16]))]) [0] (by decide) rfl
      exact W.lret (v := (-1)) hx hb hr (fun t ht hW => ⟨⟨_, (), rfl, by unfold spTurn; first | (rw [c_10, Bool.false_and, if_neg (by decide)]) | (rw [c_10, c_22, Bool.true_and, if_neg (by decide)]), ⟨by rw [ht]; exact hP9, va_K.moved hW.alike hK, hD9⟩⟩, hS.F ht⟩) hS.2.2 dX3_turn_28
end
section
theorem isF_cnt (h p : Nat) : bc h.testBit p + h / 2 ^ p % 2 = bc h.testBit (p + 1) := by
  have hlt : h / 2 ^ p % 2 < 2 := Nat.mod_lt _ (by decide)
  rw [bc, Nat.testBit_eq_decide_div_mod_eq]
  by_cases hz : h / 2 ^ p % 2 = 1
  · simp [hz]
  · simp [hz]; omega
theorem isF_move {m0 p2 a : Nat} {Rg Rg2 : Nat → Int32} (hp : p2 < m0 + 1) (ha : a ≤ p2) (hc : p2 + 1 < m0 + 1) (hR : ∀ q, q < m0 + 1 → Rg2 q = if q < p2 then (if q < a then Rg q else Rg (q + 1)) else Rg q) :
    ∀ q, q < m0 + 1 → upd Rg2 p2 (Rg2 (p2 + 1)) q = if q < p2 + 1 then (if q < a then Rg q else Rg (q + 1)) else Rg q := by
  intro q hq
  by_cases h : q = p2
  · subst h
    rw [pk_us, hR _ hc, if_neg (by omega), if_pos (by omega), if_neg (by omega)]
  · rw [pk_un h, hR q hq]
    by_cases h2 : q < p2
    · rw [if_pos h2, if_pos (show q < p2 + 1 by omega)]
    · rw [if_neg h2, if_neg (show ¬ q < p2 + 1 by omega)]
theorem isF_ring {n h b i m0 a p2 : Nat} {rg : Nat → Nat} {Rg Rg2 : Nat → Int32} (hm1 : n - (i + 1) = m0) (hm0 : n - i = m0 + 1) (ha : a < m0 + 1) (hR : ∀ q, q < m0 + 1 → Rg q = nI (rg q) ∧ rg q < n ∧ h.testBit (rg q) = b.testBit q)
    (hR2 : ∀ q, q < m0 + 1 → Rg2 q = if q < p2 then (if q < a then Rg q else Rg (q + 1)) else Rg q) (hp : m0 ≤ p2) :
    ∀ q, q < n - (i + 1) → Rg2 q = nI (if q < a then rg q else rg (q + 1)) ∧ (if q < a then rg q else rg (q + 1)) < n ∧ h.testBit (if q < a then rg q else rg (q + 1)) = (wob b a).testBit q := by
  intro q hq
  rw [hm1] at hq
  rw [hR2 q (by omega), if_pos (by omega), wob_tb]
  by_cases h2 : q < a
  · simp only [h2, if_true]; exact hR q (by omega)
  · simp only [h2, if_false]; exact hR (q + 1) (by omega)
set_option maxHeartbeats 4000000 in
set_option maxRecDepth 100000 in
theorem c_X2_isHeap (l : Launch) (dC : Nat → ClassId) (dI : Nat → Nat → Nat) (n h : Int32) : Met l yX2_isHeap wsX2_isHeap ({ frames := 1, cells := 0, slots := 0, locals := 25 }) (va_Pc [.int n, .int h] (fun _ => True)) (vp_Si (fun r => r = zb (isHp n h))) 0 0 (fun _ => False) := by
  refine Met.ofW (cc := cX2_isHeap) (maxL := 2) (ret := (some .boolean)) (by decide) rfl ?_
  intro p e s m args below meth c s₁ B hml hv
  obtain ⟨rfl, -⟩ := hv
  have hx := B.exec
  have hb := B.bytes
  have hr := B.returns
  have hts := atoms_spec (ws := wsX2_isHeap) B.pre
  have hown : s.vm.findClass RX2 = some m.cls := findClass_of_methodNamed B.named
  have hlocks := B.notSynchronized
  have hl := lv_entry ([.int n, .int h]) (n := 2) (Nat.le_of_ble_eq_true rfl)
  rw [lg_entry_eq]
  generalize (lg_sl ([.int n, .int h]) ++ List.replicate (2 - (lg_sl ([.int n, .int h])).length) Slot.unset).toArray = ls at hl ⊢
  have hl : lv_has ls 2 [(0, .int n), (1, .int h)] := hl
  refine lv_iload_n hx hb dX2_isHeap_0 rfl (lv_at hl 0 rfl) ?_
  refine lv_i2l (v := n.toInt64) hx hb dX2_isHeap_1 rfl ?_
  refine lv_ldc2 (v := 2) hx hb hown (hts (.constantLong RX2 80 (2)) (by decide +kernel)) dX2_isHeap_2 ?_
  refine lv_ldc2 (v := 20) hx hb hown (hts (.constantLong RX2 78 (20)) (by decide +kernel)) dX2_isHeap_5 ?_
  refine vp_callSi (va_Run.run (va_runS (As := [.long n.toInt64, .long 2, .long 20]) (rest := []) ⟨hx, hb, hml, hown, hts⟩ (c_X2_isWithin l dC dI n.toInt64 2 20) (va_cwS 3 hts gX2_isHeap_X2_isWithin rfl rfl rfl (by decide +kernel) ⟨Nat.le_of_ble_eq_true rfl, Nat.le_of_ble_eq_true rfl⟩) ⟨fun a U g mk q => ⟨q.1, trivial⟩, fun U hU hW => ⟨rfl, trivial⟩⟩ rfl rfl hl.1 rfl (lv_room (Nat.le_of_ble_eq_true rfl)) dX2_isHeap_8 ⟨Nat.zero_le _, Nat.zero_le _⟩)) (fun r_8 hr_8 => ?_)
  obtain rfl : r_8 = zb (wi n.toInt 2 20) := hr_8.trans (by rw [i2l_toInt]; rfl)
  refine lv_if_eq (tgt := 33) hx hb dX2_isHeap_11 (by decide) (fun c_11 => ?_) (fun c_11 => ?_)
  · have c_11 := zb_0.mp c_11
    refine lv_iconst (v := 0) hx hb dX2_isHeap_33 (by decide) ?_
    exact W.zret (v := 0) hx hb hr (rfl) (fun t ht hW => ⟨_, rfl, by unfold isHp; first | (rw [c_11, Bool.false_and]; rfl) | (rw [c_11, nI_toInt (by omega), Int.toNat_natCast, c_26]; rfl), ht⟩) (fun _ h => absurd h List.not_mem_nil) dX2_isHeap_34
  · have c_11 := zb_n.mp c_11
    obtain ⟨n1, hn1, hn2, rfl⟩ := nI_wi (a := 2) (b := 20) c_11
    have hp1 : (2 : Nat) ^ 2 ≤ 2 ^ n1 := Nat.pow_le_pow_right (by decide) hn1
    have hp2 : (2 : Nat) ^ n1 ≤ 2 ^ 20 := Nat.pow_le_pow_right (by decide) hn2
    refine lv_iload_n hx hb dX2_isHeap_14 rfl (lv_at hl 1 rfl) ?_
    refine lv_i2l (v := h.toInt64) hx hb dX2_isHeap_15 rfl ?_
    refine lv_lconst (v := 1) hx hb dX2_isHeap_16 (by decide) ?_
    refine lv_iconst (v := 1) hx hb dX2_isHeap_17 (by decide) ?_
    refine lv_iload_n hx hb dX2_isHeap_18 rfl (lv_at hl 0 rfl) ?_
    refine lv_ishl hx hb dX2_isHeap_19 ?_
    refine z_i (y := nI (2 ^ n1)) (sh1 (by omega)) ?_
    refine lv_iconst (v := 2) hx hb dX2_isHeap_20 (by decide) ?_
    refine lv_isub hx hb dX2_isHeap_21 ?_
    refine z_i (y := nI (2 ^ n1 - 2)) (pk_sub (b := 2) (by omega)) ?_
    refine lv_i2l (v := (nI (2 ^ n1 - 2)).toInt64) hx hb dX2_isHeap_22 rfl ?_
    refine vp_callSi (va_Run.run (va_runS (As := [.long h.toInt64, .long 1, .long ((nI (2 ^ n1 - 2)).toInt64)]) (rest := []) ⟨hx, hb, hml, hown, hts⟩ (c_X2_isWithin l dC dI h.toInt64 1 ((nI (2 ^ n1 - 2)).toInt64)) (va_cwS 3 hts gX2_isHeap_X2_isWithin rfl rfl rfl (by decide +kernel) ⟨Nat.le_of_ble_eq_true rfl, Nat.le_of_ble_eq_true rfl⟩) ⟨fun a U g mk q => ⟨q.1, trivial⟩, fun U hU hW => ⟨rfl, trivial⟩⟩ rfl rfl hl.1 rfl (lv_room (Nat.le_of_ble_eq_true rfl)) dX2_isHeap_23 ⟨Nat.zero_le _, Nat.zero_le _⟩)) (fun r_23 hr_23 => ?_)
    obtain rfl : r_23 = zb (wi h.toInt 1 ((2 : Int) ^ n1 - 2)) := hr_23.trans (by rw [i2l_toInt, i2l_toInt, nI_toInt (by omega), Int.ofNat_sub (by omega), Int.natCast_pow]; rfl)
    refine lv_if_eq (tgt := 33) hx hb dX2_isHeap_26 (by decide) (fun c_26 => ?_) (fun c_26 => ?_)
    · have c_26 := zb_0.mp c_26
      refine lv_iconst (v := 0) hx hb dX2_isHeap_33 (by decide) ?_
      exact W.zret (v := 0) hx hb hr (rfl) (fun t ht hW => ⟨_, rfl, by unfold isHp; first | (rw [c_11, Bool.false_and]; rfl) | (rw [c_11, nI_toInt (by omega), Int.toNat_natCast, c_26]; rfl), ht⟩) (fun _ h => absurd h List.not_mem_nil) dX2_isHeap_34
    · have c_26 := zb_n.mp c_26
      refine lv_iconst (v := 1) hx hb dX2_isHeap_29 (by decide) ?_
      refine lv_goto (tgt := 34) hx hb dX2_isHeap_30 (by decide) ?_
      exact W.zret (v := 1) hx hb hr (rfl) (fun t ht hW => ⟨_, rfl, by unfold isHp; first | (rw [c_11, Bool.false_and]; rfl) | (rw [c_11, nI_toInt (by omega), Int.toNat_natCast, c_26]; rfl), ht⟩) (fun _ h => absurd h List.not_mem_nil) dX2_isHeap_34

set_option maxHeartbeats 4000000 in
set_option maxRecDepth 100000 in
theorem c_X3_isHeap (l : Launch) (dC : Nat → ClassId) (dI : Nat → Nat → Nat) (n h : Int32) : Met l yX3_isHeap wsX3_isHeap ({ frames := 1, cells := 0, slots := 0, locals := 25 }) (va_Pc [.int n, .int h] (fun _ => True)) (vp_Si (fun r => r = zb (isHp n h))) 0 0 (fun _ => False) := by
  refine Met.ofW (cc := cX3_isHeap) (maxL := 2) (ret := (some .boolean)) (by decide) rfl ?_
  intro p e s m args below meth c s₁ B hml hv
  obtain ⟨rfl, -⟩ := hv
  have hx := B.exec
  have hb := B.bytes
  have hr := B.returns
  have hts := atoms_spec (ws := wsX3_isHeap) B.pre
  have hown : s.vm.findClass RX3 = some m.cls := findClass_of_methodNamed B.named
  have hlocks := B.notSynchronized
  have hl := lv_entry ([.int n, .int h]) (n := 2) (Nat.le_of_ble_eq_true rfl)
  rw [lg_entry_eq]
  generalize (lg_sl ([.int n, .int h]) ++ List.replicate (2 - (lg_sl ([.int n, .int h])).length) Slot.unset).toArray = ls at hl ⊢
  have hl : lv_has ls 2 [(0, .int n), (1, .int h)] := hl
  refine lv_iload_n hx hb dX3_isHeap_0 rfl (lv_at hl 0 rfl) ?_
  refine lv_i2l (v := n.toInt64) hx hb dX3_isHeap_1 rfl ?_
  refine lv_ldc2 (v := 2) hx hb hown (hts (.constantLong RX3 72 (2)) (by decide +kernel)) dX3_isHeap_2 ?_
  refine lv_ldc2 (v := 20) hx hb hown (hts (.constantLong RX3 74 (20)) (by decide +kernel)) dX3_isHeap_5 ?_
  refine vp_callSi (va_Run.run (va_runS (As := [.long n.toInt64, .long 2, .long 20]) (rest := []) ⟨hx, hb, hml, hown, hts⟩ (c_X3_in l dC dI n.toInt64 2 20) (va_cwS 3 hts gX3_isHeap_X3_in rfl rfl rfl (by decide +kernel) ⟨Nat.le_of_ble_eq_true rfl, Nat.le_of_ble_eq_true rfl⟩) ⟨fun a U g mk q => ⟨q.1, trivial⟩, fun U hU hW => ⟨rfl, trivial⟩⟩ rfl rfl hl.1 rfl (lv_room (Nat.le_of_ble_eq_true rfl)) dX3_isHeap_8 ⟨Nat.zero_le _, Nat.zero_le _⟩)) (fun r_8 hr_8 => ?_)
  obtain rfl : r_8 = zb (wi n.toInt 2 20) := hr_8.trans (by rw [i2l_toInt]; rfl)
  refine lv_if_eq (tgt := 33) hx hb dX3_isHeap_11 (by decide) (fun c_11 => ?_) (fun c_11 => ?_)
  · have c_11 := zb_0.mp c_11
    refine lv_iconst (v := 0) hx hb dX3_isHeap_33 (by decide) ?_
    exact W.zret (v := 0) hx hb hr (rfl) (fun t ht hW => ⟨_, rfl, by unfold isHp; first | (rw [c_11, Bool.false_and]; rfl) | (rw [c_11, nI_toInt (by omega), Int.toNat_natCast, c_26]; rfl), ht⟩) (fun _ h => absurd h List.not_mem_nil) dX3_isHeap_34
  · have c_11 := zb_n.mp c_11
    obtain ⟨n1, hn1, hn2, rfl⟩ := nI_wi (a := 2) (b := 20) c_11
    have hp1 : (2 : Nat) ^ 2 ≤ 2 ^ n1 := Nat.pow_le_pow_right (by decide) hn1
    have hp2 : (2 : Nat) ^ n1 ≤ 2 ^ 20 := Nat.pow_le_pow_right (by decide) hn2
    refine lv_iload_n hx hb dX3_isHeap_14 rfl (lv_at hl 1 rfl) ?_
    refine lv_i2l (v := h.toInt64) hx hb dX3_isHeap_15 rfl ?_
    refine lv_lconst (v := 1) hx hb dX3_isHeap_16 (by decide) ?_
    refine lv_iconst (v := 1) hx hb dX3_isHeap_17 (by decide) ?_
    refine lv_iload_n hx hb dX3_isHeap_18 rfl (lv_at hl 0 rfl) ?_
    refine lv_ishl hx hb dX3_isHeap_19 ?_
    refine z_i (y := nI (2 ^ n1)) (sh1 (by omega)) ?_
    refine lv_iconst (v := 2) hx hb dX3_isHeap_20 (by decide) ?_
    refine lv_isub hx hb dX3_isHeap_21 ?_
    refine z_i (y := nI (2 ^ n1 - 2)) (pk_sub (b := 2) (by omega)) ?_
    refine lv_i2l (v := (nI (2 ^ n1 - 2)).toInt64) hx hb dX3_isHeap_22 rfl ?_
    refine vp_callSi (va_Run.run (va_runS (As := [.long h.toInt64, .long 1, .long ((nI (2 ^ n1 - 2)).toInt64)]) (rest := []) ⟨hx, hb, hml, hown, hts⟩ (c_X3_in l dC dI h.toInt64 1 ((nI (2 ^ n1 - 2)).toInt64)) (va_cwS 3 hts gX3_isHeap_X3_in rfl rfl rfl (by decide +kernel) ⟨Nat.le_of_ble_eq_true rfl, Nat.le_of_ble_eq_true rfl⟩) ⟨fun a U g mk q => ⟨q.1, trivial⟩, fun U hU hW => ⟨rfl, trivial⟩⟩ rfl rfl hl.1 rfl (lv_room (Nat.le_of_ble_eq_true rfl)) dX3_isHeap_23 ⟨Nat.zero_le _, Nat.zero_le _⟩)) (fun r_23 hr_23 => ?_)
    obtain rfl : r_23 = zb (wi h.toInt 1 ((2 : Int) ^ n1 - 2)) := hr_23.trans (by rw [i2l_toInt, i2l_toInt, nI_toInt (by omega), Int.ofNat_sub (by omega), Int.natCast_pow]; rfl)
    refine lv_if_eq (tgt := 33) hx hb dX3_isHeap_26 (by decide) (fun c_26 => ?_) (fun c_26 => ?_)
    · have c_26 := zb_0.mp c_26
      refine lv_iconst (v := 0) hx hb dX3_isHeap_33 (by decide) ?_
      exact W.zret (v := 0) hx hb hr (rfl) (fun t ht hW => ⟨_, rfl, by unfold isHp; first | (rw [c_11, Bool.false_and]; rfl) | (rw [c_11, nI_toInt (by omega), Int.toNat_natCast, c_26]; rfl), ht⟩) (fun _ h => absurd h List.not_mem_nil) dX3_isHeap_34
    · have c_26 := zb_n.mp c_26
      refine lv_iconst (v := 1) hx hb dX3_isHeap_29 (by decide) ?_
      refine lv_goto (tgt := 34) hx hb dX3_isHeap_30 (by decide) ?_
      exact W.zret (v := 1) hx hb hr (rfl) (fun t ht hW => ⟨_, rfl, by unfold isHp; first | (rw [c_11, Bool.false_and]; rfl) | (rw [c_11, nI_toInt (by omega), Int.toNat_natCast, c_26]; rfl), ht⟩) (fun _ h => absurd h List.not_mem_nil) dX3_isHeap_34

set_option maxHeartbeats 4000000 in
set_option maxRecDepth 100000 in
theorem c_X2_withoutBit (l : Launch) (dC : Nat → ClassId) (dI : Nat → Nat → Nat) (b a : Nat) (hbb : b < 2 ^ 31) (ha : a < 31) : Met l yX2_withoutBit wsX2_withoutBit ({ frames := 0, cells := 0, slots := 0, locals := 0 }) (va_Pc [.int (nI b), .int (nI a)] (fun _ => True)) (vp_Si (fun r => r = nI (wob b a))) 0 0 (fun _ => False) := by
  refine Met.ofW (cc := cX2_withoutBit) (maxL := 3) (ret := (some .int)) (by decide) rfl ?_
  intro p e s m args below meth c s₁ B hml hv
  obtain ⟨rfl, -⟩ := hv
  have hx := B.exec
  have hb := B.bytes
  have hr := B.returns
  have hts := atoms_spec (ws := wsX2_withoutBit) B.pre
  have hown : s.vm.findClass RX2 = some m.cls := findClass_of_methodNamed B.named
  have hlocks := B.notSynchronized
  have hl := lv_entry ([.int (nI b), .int (nI a)]) (n := 3) (Nat.le_of_ble_eq_true rfl)
  rw [lg_entry_eq]
  generalize (lg_sl ([.int (nI b), .int (nI a)]) ++ List.replicate (3 - (lg_sl ([.int (nI b), .int (nI a)])).length) Slot.unset).toArray = ls at hl ⊢
  have hl : lv_has ls 3 [(0, .int (nI b)), (1, .int (nI a))] := hl
  refine lv_iconst (v := 1) hx hb dX2_withoutBit_0 (by decide) ?_
  refine lv_iload_n hx hb dX2_withoutBit_1 rfl (lv_at hl 1 rfl) ?_
  refine lv_ishl hx hb dX2_withoutBit_2 ?_
  refine z_i (y := nI (2 ^ a)) (sh1 ha) ?_
  refine lv_iconst (v := 1) hx hb dX2_withoutBit_3 (by decide) ?_
  refine lv_isub hx hb dX2_withoutBit_4 ?_
  refine z_i (y := nI (2 ^ a - 1)) (pow_m1) ?_
  refine lv_istore_n (lv' := [(2, .int (nI (2 ^ a - 1))), (0, .int (nI b)), (1, .int (nI a))]) hx hb dX2_withoutBit_5 rfl hl (by decide) rfl (fun ls hl => ?_)
  refine lv_iload_n hx hb dX2_withoutBit_6 rfl (lv_at hl 1 rfl) ?_
  refine lv_iload_n hx hb dX2_withoutBit_7 rfl (lv_at hl 0 rfl) ?_
  refine lv_iand hx hb dX2_withoutBit_8 ?_
  refine lv_iload_n hx hb dX2_withoutBit_9 rfl (lv_at hl 1 rfl) ?_
  refine lv_iconst (v := 1) hx hb dX2_withoutBit_10 (by decide) ?_
  refine lv_ishr hx hb dX2_withoutBit_11 ?_
  refine lv_iload_n hx hb dX2_withoutBit_12 rfl (lv_at hl 0 rfl) ?_
  refine lv_iconst (v := (-1)) hx hb dX2_withoutBit_13 (by decide) ?_
  refine lv_ixor hx hb dX2_withoutBit_14 ?_
  refine lv_iand hx hb dX2_withoutBit_15 ?_
  refine lv_ior hx hb dX2_withoutBit_16 ?_
  refine z_i (y := nI (wob b a)) (wob_int hbb ha) ?_
  exact W.iret (v := nI (wob b a)) hx hb hr (fun t ht hW => ⟨_, rfl, rfl, ht⟩) (fun _ h => absurd h List.not_mem_nil) dX2_withoutBit_17

set_option maxHeartbeats 4000000 in
set_option maxRecDepth 100000 in
theorem c_X2_goesFirst (l : Launch) (dC : Nat → ClassId) (dI : Nat → Nat → Nat) (n h k : Nat) (hn : n ≤ 20) (hh : h < 2 ^ n) (hk1 : 1 ≤ k) (hk : k ≤ 10000) : Met l yX2_goesFirst wsX2_goesFirst ({ frames := 1, cells := 0, slots := 0, locals := 22 }) (va_Pc [.int (nI n), .int (nI h), .int (nI k)] (fun _ => True)) (vp_Si (fun r => r = zb (gF k n 0 h))) 0 0 (fun _ => False) := by
  refine Met.ofW (cc := cX2_goesFirst) (maxL := 6) (ret := (some .boolean)) (by decide) rfl ?_
  intro p e s m args below meth c s₁ B hml hv
  obtain ⟨rfl, -⟩ := hv
  have hx := B.exec
  have hb := B.bytes
  have hr := B.returns
  have hts := atoms_spec (ws := wsX2_goesFirst) B.pre
  have hown : s.vm.findClass RX2 = some m.cls := findClass_of_methodNamed B.named
  have hlocks := B.notSynchronized
  have hl := lv_entry ([.int (nI n), .int (nI h), .int (nI k)]) (n := 6) (Nat.le_of_ble_eq_true rfl)
  rw [lg_entry_eq]
  generalize (lg_sl ([.int (nI n), .int (nI h), .int (nI k)]) ++ List.replicate (6 - (lg_sl ([.int (nI n), .int (nI h), .int (nI k)])).length) Slot.unset).toArray = ls at hl ⊢
  have hl : lv_has ls 6 [(0, .int (nI n)), (1, .int (nI h)), (2, .int (nI k))] := hl
  have hp20 : (2 : Nat) ^ n ≤ 2 ^ 20 := Nat.pow_le_pow_right (by decide) hn
  refine lv_iload_n hx hb dX2_goesFirst_0 rfl (lv_at hl 1 rfl) ?_
  refine lv_istore_n (lv' := [(3, .int (nI h)), (0, .int (nI n)), (1, .int (nI h)), (2, .int (nI k))]) hx hb dX2_goesFirst_1 rfl hl (by decide) rfl (fun ls hl => ?_)
  refine lv_iconst (v := 0) hx hb dX2_goesFirst_2 (by decide) ?_
  refine lv_istore (lv' := [(4, .int 0), (3, .int (nI h)), (0, .int (nI n)), (1, .int (nI h)), (2, .int (nI k))]) hx hb dX2_goesFirst_3 hl (by decide) rfl (fun ls hl => ?_)
  refine lv_iload_n hx hb dX2_goesFirst_5 rfl (lv_at hl 2 rfl) ?_
  refine lv_istore (lv' := [(5, .int (nI n)), (4, .int 0), (3, .int (nI h)), (0, .int (nI n)), (1, .int (nI h)), (2, .int (nI k))]) hx hb dX2_goesFirst_6 hl (by decide) rfl (fun ls hl => ?_)
  refine W_loopR (σ := Nat × Nat × Nat) (fun xx ls => match xx with | (m1, a, b) => lv_has ls 6 [(2, .int (nI k)), (3, .int (nI b)), (4, .int (nI a)), (5, .int (nI m1))] ∧ m1 ≤ n ∧ a ≤ 20 ∧ b < 2 ^ m1 ∧ gF k m1 a b = gF k n 0 h) (fun xx => match xx with | (m1, a, b) => m1) ?_ (n, 0, h) ⟨lv_sub hl [5, 2, 1, 0] rfl, Nat.le_refl _, by omega, hh, rfl⟩
  rintro ⟨m1, a, b⟩ ls ⟨hl, hm, ha, hbm, hg⟩ ih_8
  have hpm : (2 : Nat) ^ m1 ≤ 2 ^ 20 := Nat.pow_le_pow_right (by decide) (by omega)
  refine lv_iload hx hb dX2_goesFirst_8 (lv_at hl 3 rfl) ?_
  refine lv_if_le (tgt := 52) hx hb dX2_goesFirst_10 (by decide) (fun c_10 => ?_) (fun c_10 => ?_)
  · have c_10 : m1 = 0 := by have h0 := (nI_leI (b := 0) (by omega) (by omega)).mp c_10; omega
    refine lv_iconst (v := 1) hx hb dX2_goesFirst_52 (by decide) ?_
    exact W.zret (v := 1) hx hb hr (rfl) (fun t ht hW => ⟨_, rfl, by first | (rw [← hg, c_10]; rfl) | (rw [← hg, c_14, gF_z]; rfl), ht⟩) (fun _ h => absurd h List.not_mem_nil) dX2_goesFirst_53
  · have c_10 : 0 < m1 := Nat.lt_of_not_le (fun h => c_10 ((nI_leI (b := 0) (by omega) (by omega)).mpr h))
    refine lv_iload_n hx hb dX2_goesFirst_13 rfl (lv_at hl 1 rfl) ?_
    refine lv_if_eq (tgt := 52) hx hb dX2_goesFirst_14 (by decide) (fun c_14 => ?_) (fun c_14 => ?_)
    · have c_14 : b = 0 := (nI_eq (b := 0) (by omega) (by omega)).mp c_14
      refine lv_iconst (v := 1) hx hb dX2_goesFirst_52 (by decide) ?_
      exact W.zret (v := 1) hx hb hr (rfl) (fun t ht hW => ⟨_, rfl, by first | (rw [← hg, c_10]; rfl) | (rw [← hg, c_14, gF_z]; rfl), ht⟩) (fun _ h => absurd h List.not_mem_nil) dX2_goesFirst_53
    · have c_14 : ¬ b = 0 := fun h => c_14 ((nI_eq (b := 0) (by omega) (by omega)).mpr h)
      obtain ⟨m0, rfl⟩ : ∃ m0, m1 = m0 + 1 := ⟨m1 - 1, by omega⟩
      have hr0 : (a + k - 1) % (m0 + 1) < m0 + 1 := Nat.mod_lt _ (by omega)
      refine lv_iload hx hb dX2_goesFirst_17 (lv_at hl 2 rfl) ?_
      refine lv_iload_n hx hb dX2_goesFirst_19 rfl (lv_at hl 0 rfl) ?_
      refine lv_iadd hx hb dX2_goesFirst_20 ?_
      refine lv_iconst (v := 1) hx hb dX2_goesFirst_21 (by decide) ?_
      refine lv_isub hx hb dX2_goesFirst_22 ?_
      refine z_i (y := nI (a + k - 1)) (by rw [nI_add]; exact pk_sub (b := 1) (by omega)) ?_
      refine lv_iload hx hb dX2_goesFirst_23 (lv_at hl 3 rfl) ?_
      refine lv_irem hx hb dX2_goesFirst_25 (nI_ne0 (by omega) (by omega)) ?_
      refine z_i (y := nI ((a + k - 1) % (m0 + 1))) (pk_rem (by omega) (by omega) (by omega)) ?_
      refine lv_istore (lv' := [(4, .int (nI ((a + k - 1) % (m0 + 1)))), (2, .int (nI k)), (3, .int (nI b)), (5, .int (nI (m0 + 1)))]) hx hb dX2_goesFirst_26 hl (by decide) rfl (fun ls hl => ?_)
      refine lv_iload_n hx hb dX2_goesFirst_28 rfl (lv_at hl 2 rfl) ?_
      refine lv_iload hx hb dX2_goesFirst_29 (lv_at hl 0 rfl) ?_
      refine lv_ishr hx hb dX2_goesFirst_31 ?_
      refine z_i (y := nI (b / 2 ^ ((a + k - 1) % (m0 + 1)))) (shr_nI (by omega) (by omega)) ?_
      refine lv_iconst (v := 1) hx hb dX2_goesFirst_32 (by decide) ?_
      refine lv_iand hx hb dX2_goesFirst_33 ?_
      refine z_i (y := nI (b / 2 ^ ((a + k - 1) % (m0 + 1)) % 2)) (bit_nI _ _) ?_
      refine lv_if_ne (tgt := 39) hx hb dX2_goesFirst_34 (by decide) (fun c_34 => ?_) (fun c_34 => ?_)
      · have c_34 : b.testBit ((a + k - 1) % (m0 + 1)) = true := by cases hq : b.testBit ((a + k - 1) % (m0 + 1)) with | true => rfl | false => exact absurd (bit_0.mpr hq) c_34
        refine lv_iload_n hx hb dX2_goesFirst_39 rfl (lv_at hl 2 rfl) ?_
        refine lv_iload hx hb dX2_goesFirst_40 (lv_at hl 0 rfl) ?_
        refine vp_callSi (va_Run.run (va_runS (As := [.int (nI b), .int (nI ((a + k - 1) % (m0 + 1)))]) (rest := []) ⟨hx, hb, hml, hown, hts⟩ (c_X2_withoutBit l dC dI b ((a + k - 1) % (m0 + 1)) (by omega) (by omega)) (va_cwS 2 hts gX2_goesFirst_X2_withoutBit rfl rfl rfl (by decide +kernel) ⟨Nat.le_of_ble_eq_true rfl, Nat.le_of_ble_eq_true rfl⟩) ⟨fun a U g mk q => ⟨q.1, trivial⟩, fun U hU hW => ⟨rfl, trivial⟩⟩ rfl rfl hl.1 rfl (lv_room (Nat.le_of_ble_eq_true rfl)) dX2_goesFirst_42 ⟨Nat.zero_le _, Nat.zero_le _⟩)) (fun r_42 hr_42 => ?_)
        subst hr_42
        refine lv_istore_n (lv' := [(3, .int (nI (wob b ((a + k - 1) % (m0 + 1))))), (4, .int (nI ((a + k - 1) % (m0 + 1)))), (2, .int (nI k)), (5, .int (nI (m0 + 1)))]) hx hb dX2_goesFirst_45 rfl hl (by decide) rfl (fun ls hl => ?_)
        refine lv_iinc (v := nI m0) (lv' := [(5, .int (nI m0)), (3, .int (nI (wob b ((a + k - 1) % (m0 + 1))))), (4, .int (nI ((a + k - 1) % (m0 + 1)))), (2, .int (nI k))]) hx hb dX2_goesFirst_46 hl (k := 3) rfl (pk_m1 m0) (by decide) rfl (fun ls hl => ?_)
        refine lv_goto (tgt := 8) hx hb dX2_goesFirst_49 (by decide) ?_
        exact ih_8 (m0, (a + k - 1) % (m0 + 1), wob b ((a + k - 1) % (m0 + 1))) _ (by show m0 < m0 + 1; omega) ⟨lv_sub hl [3, 1, 2, 0] rfl, by omega, by omega, wob_lt hbm hr0, by rw [← hg, gF_s c_14 c_34]⟩
      · have c_34 := bit_0.mp c_34
        refine lv_iconst (v := 0) hx hb dX2_goesFirst_37 (by decide) ?_
        exact W.zret (v := 0) hx hb hr (rfl) (fun t ht hW => ⟨_, rfl, by rw [← hg, gF_n c_14 c_34]; rfl, ht⟩) (fun _ h => absurd h List.not_mem_nil) dX2_goesFirst_38

set_option maxHeartbeats 4000000 in
set_option maxRecDepth 100000 in
theorem c_X2_first (l : Launch) (dC : Nat → ClassId) (dI : Nat → Nat → Nat) (h0 : Nat) (n h k : Int32) : Met l yX2_first wsX2_first ({ frames := 2, cells := 0, slots := 0, locals := 47 }) (va_Pc [.ref h0, .int n, .int h, .int k] (fun _ => True)) (vp_Si (fun r => r = spFirst n h k)) 0 0 (fun _ => False) := by
  refine Met.ofW (cc := cX2_first) (maxL := 4) (ret := (some .int)) (by decide) rfl ?_
  intro p e s m args below meth c s₁ B hml hv
  obtain ⟨rfl, -⟩ := hv
  have hx := B.exec
  have hb := B.bytes
  have hr := B.returns
  have hts := atoms_spec (ws := wsX2_first) B.pre
  have hown : s.vm.findClass RX2 = some m.cls := findClass_of_methodNamed B.named
  have hlocks := B.notSynchronized
  have hl := lv_entry ([.ref h0, .int n, .int h, .int k]) (n := 4) (Nat.le_of_ble_eq_true rfl)
  rw [lg_entry_eq]
  generalize (lg_sl ([.ref h0, .int n, .int h, .int k]) ++ List.replicate (4 - (lg_sl ([.ref h0, .int n, .int h, .int k])).length) Slot.unset).toArray = ls at hl ⊢
  have hl : lv_has ls 4 [(0, .ref h0), (1, .int n), (2, .int h), (3, .int k)] := hl
  refine lv_iload_n hx hb dX2_first_0 rfl (lv_at hl 1 rfl) ?_
  refine lv_iload_n hx hb dX2_first_1 rfl (lv_at hl 2 rfl) ?_
  refine vp_callSi (va_Run.run (va_runS (As := [.int n, .int h]) (rest := []) ⟨hx, hb, hml, hown, hts⟩ (c_X2_isHeap l dC dI n h) (va_cwS 2 hts gX2_first_X2_isHeap rfl rfl rfl (by decide +kernel) ⟨Nat.le_of_ble_eq_true rfl, Nat.le_of_ble_eq_true rfl⟩) ⟨fun a U g mk q => ⟨q.1, trivial⟩, fun U hU hW => ⟨rfl, trivial⟩⟩ rfl rfl hl.1 rfl (lv_room (Nat.le_of_ble_eq_true rfl)) dX2_first_2 ⟨Nat.zero_le _, Nat.zero_le _⟩)) (fun r_2 hr_2 => ?_)
  subst hr_2
  refine lv_if_eq (tgt := 20) hx hb dX2_first_5 (by decide) (fun c_5 => ?_) (fun c_5 => ?_)
  · have c_5 := zb_0.mp c_5
    refine lv_iconst (v := (-1)) hx hb dX2_first_20 (by decide) ?_
    exact W.iret (v := (-1)) hx hb hr (fun t ht hW => ⟨_, rfl, by unfold spFirst; first | (rw [c_5, Bool.false_and, if_neg (by decide)]) | (rw [c_5, c_17, Bool.true_and, if_neg (by decide)]), ht⟩) (fun _ h => absurd h List.not_mem_nil) dX2_first_21
  · have c_5 := zb_n.mp c_5
    refine lv_iload_n hx hb dX2_first_8 rfl (lv_at hl 3 rfl) ?_
    refine lv_i2l (v := k.toInt64) hx hb dX2_first_9 rfl ?_
    refine lv_lconst (v := 1) hx hb dX2_first_10 (by decide) ?_
    refine lv_ldc2 (v := 10000) hx hb hown (hts (.constantLong RX2 48 (10000)) (by decide +kernel)) dX2_first_11 ?_
    refine vp_callSi (va_Run.run (va_runS (As := [.long k.toInt64, .long 1, .long 10000]) (rest := []) ⟨hx, hb, hml, hown, hts⟩ (c_X2_isWithin l dC dI k.toInt64 1 10000) (va_cwS 3 hts gX2_first_X2_isWithin rfl rfl rfl (by decide +kernel) ⟨Nat.le_of_ble_eq_true rfl, Nat.le_of_ble_eq_true rfl⟩) ⟨fun a U g mk q => ⟨q.1, trivial⟩, fun U hU hW => ⟨rfl, trivial⟩⟩ rfl rfl hl.1 rfl (lv_room (Nat.le_of_ble_eq_true rfl)) dX2_first_14 ⟨Nat.zero_le _, Nat.zero_le _⟩)) (fun r_14 hr_14 => ?_)
    obtain rfl : r_14 = zb (wi k.toInt 1 10000) := hr_14.trans (by rw [i2l_toInt]; rfl)
    refine lv_if_ne (tgt := 22) hx hb dX2_first_17 (by decide) (fun c_17 => ?_) (fun c_17 => ?_)
    · have c_17 := zb_n.mp c_17
      obtain ⟨n1, h1, rfl, rfl, hn1, hn2, hh1, hh2⟩ := isHp_t c_5
      have hp2 : (2 : Nat) ^ n1 ≤ 2 ^ 20 := Nat.pow_le_pow_right (by decide) hn2
      obtain ⟨k1, hk1, hk2, rfl⟩ := nI_wi (a := 1) (b := 10000) c_17
      refine lv_iload_n hx hb dX2_first_22 rfl (lv_at hl 1 rfl) ?_
      refine lv_iload_n hx hb dX2_first_23 rfl (lv_at hl 2 rfl) ?_
      refine lv_iload_n hx hb dX2_first_24 rfl (lv_at hl 3 rfl) ?_
      refine vp_callSi (va_Run.run (va_runS (As := [.int (nI n1), .int (nI h1), .int (nI k1)]) (rest := []) ⟨hx, hb, hml, hown, hts⟩ (c_X2_goesFirst l dC dI n1 h1 k1 hn2 (by omega) hk1 hk2) (va_cwS 3 hts gX2_first_X2_goesFirst rfl rfl rfl (by decide +kernel) ⟨Nat.le_of_ble_eq_true rfl, Nat.le_of_ble_eq_true rfl⟩) ⟨fun a U g mk q => ⟨q.1, trivial⟩, fun U hU hW => ⟨rfl, trivial⟩⟩ rfl rfl hl.1 rfl (lv_room (Nat.le_of_ble_eq_true rfl)) dX2_first_25 ⟨Nat.zero_le _, Nat.zero_le _⟩)) (fun r_25 hr_25 => ?_)
      subst hr_25
      refine lv_if_eq (tgt := 35) hx hb dX2_first_28 (by decide) (fun c_28 => ?_) (fun c_28 => ?_)
      · have c_28 := zb_0.mp c_28
        refine lv_iconst (v := 0) hx hb dX2_first_35 (by decide) ?_
        exact W.iret (v := 0) hx hb hr (fun t ht hW => ⟨_, rfl, by unfold spFirst; rw [c_5, c_17, Bool.true_and, if_pos rfl, nI_toInt (by omega), nI_toInt (by omega), nI_toInt (by omega), Int.toNat_natCast, Int.toNat_natCast, Int.toNat_natCast, c_28]; rfl, ht⟩) (fun _ h => absurd h List.not_mem_nil) dX2_first_36
      · have c_28 := zb_n.mp c_28
        refine lv_iconst (v := 1) hx hb dX2_first_31 (by decide) ?_
        refine lv_goto (tgt := 36) hx hb dX2_first_32 (by decide) ?_
        exact W.iret (v := 1) hx hb hr (fun t ht hW => ⟨_, rfl, by unfold spFirst; rw [c_5, c_17, Bool.true_and, if_pos rfl, nI_toInt (by omega), nI_toInt (by omega), nI_toInt (by omega), Int.toNat_natCast, Int.toNat_natCast, Int.toNat_natCast, c_28]; rfl, ht⟩) (fun _ h => absurd h List.not_mem_nil) dX2_first_36
    · have c_17 := zb_0.mp c_17
      refine lv_iconst (v := (-1)) hx hb dX2_first_20 (by decide) ?_
      exact W.iret (v := (-1)) hx hb hr (fun t ht hW => ⟨_, rfl, by unfold spFirst; first | (rw [c_5, Bool.false_and, if_neg (by decide)]) | (rw [c_5, c_17, Bool.true_and, if_neg (by decide)]), ht⟩) (fun _ h => absurd h List.not_mem_nil) dX2_first_21

set_option maxHeartbeats 4000000 in
set_option maxRecDepth 100000 in
theorem c_X2_least (l : Launch) (dC : Nat → ClassId) (dI : Nat → Nat → Nat) (h0 : Nat) (n h : Int32) : Met l yX2_least wsX2_least ({ frames := 2, cells := 0, slots := 0, locals := 47 }) (va_Pc [.ref h0, .int n, .int h] (fun _ => True)) (vp_Si (fun r => r = spLeast n h)) 0 0 (fun _ => False) := by
  refine Met.ofW (cc := cX2_least) (maxL := 4) (ret := (some .int)) (by decide) rfl ?_
  intro p e s m args below meth c s₁ B hml hv
  obtain ⟨rfl, -⟩ := hv
  have hx := B.exec
  have hb := B.bytes
  have hr := B.returns
  have hts := atoms_spec (ws := wsX2_least) B.pre
  have hown : s.vm.findClass RX2 = some m.cls := findClass_of_methodNamed B.named
  have hlocks := B.notSynchronized
  have hl := lv_entry ([.ref h0, .int n, .int h]) (n := 4) (Nat.le_of_ble_eq_true rfl)
  rw [lg_entry_eq]
  generalize (lg_sl ([.ref h0, .int n, .int h]) ++ List.replicate (4 - (lg_sl ([.ref h0, .int n, .int h])).length) Slot.unset).toArray = ls at hl ⊢
  have hl : lv_has ls 4 [(0, .ref h0), (1, .int n), (2, .int h)] := hl
  refine lv_iload_n hx hb dX2_least_0 rfl (lv_at hl 1 rfl) ?_
  refine lv_iload_n hx hb dX2_least_1 rfl (lv_at hl 2 rfl) ?_
  refine vp_callSi (va_Run.run (va_runS (As := [.int n, .int h]) (rest := []) ⟨hx, hb, hml, hown, hts⟩ (c_X2_isHeap l dC dI n h) (va_cwS 2 hts gX2_least_X2_isHeap rfl rfl rfl (by decide +kernel) ⟨Nat.le_of_ble_eq_true rfl, Nat.le_of_ble_eq_true rfl⟩) ⟨fun a U g mk q => ⟨q.1, trivial⟩, fun U hU hW => ⟨rfl, trivial⟩⟩ rfl rfl hl.1 rfl (lv_room (Nat.le_of_ble_eq_true rfl)) dX2_least_2 ⟨Nat.zero_le _, Nat.zero_le _⟩)) (fun r_2 hr_2 => ?_)
  subst hr_2
  refine lv_if_ne (tgt := 10) hx hb dX2_least_5 (by decide) (fun c_5 => ?_) (fun c_5 => ?_)
  · have c_5 := zb_n.mp c_5
    obtain ⟨n1, h1, rfl, rfl, hn1, hn2, hh1, hh2⟩ := isHp_t c_5
    have hp2 : (2 : Nat) ^ n1 ≤ 2 ^ 20 := Nat.pow_le_pow_right (by decide) hn2
    refine lv_iconst (v := 1) hx hb dX2_least_10 (by decide) ?_
    refine lv_istore_n (lv' := [(3, .int 1), (0, .ref h0), (1, .int (nI n1)), (2, .int (nI h1))]) hx hb dX2_least_11 rfl hl (by decide) rfl (fun ls hl => ?_)
    refine W_loopR (σ := Nat) (fun c0 ls => lv_has ls 4 [(0, .ref h0), (1, .int (nI n1)), (2, .int (nI h1)), (3, .int (nI c0))] ∧ 1 ≤ c0 ∧ c0 ≤ 10001 ∧ lstN n1 h1 (10001 - c0) c0 = lstN n1 h1 10000 1) (fun c0 => 10001 - c0) ?_ 1 ⟨lv_sub hl [1, 2, 3, 0] rfl, by omega, by omega, rfl⟩
    rintro c0 ls ⟨hl, hc1, hc2, hg⟩ ih_12
    refine lv_iload_n hx hb dX2_least_12 rfl (lv_at hl 3 rfl) ?_
    refine lv_sipush (v := 10000) hx hb dX2_least_13 (by decide) ?_
    refine lv_icmp_gt (tgt := 36) hx hb dX2_least_16 (by decide) (fun c_16 => ?_) (fun c_16 => ?_)
    · have c_16 : 10000 < c0 := (nI_ltI (a := 10000) (by omega) (by omega)).mp c_16
      refine lv_bipush (v := (-9)) hx hb dX2_least_36 (by decide) ?_
      exact W.iret (v := (-9)) hx hb hr (fun t ht hW => ⟨_, rfl, by unfold spLeast; rw [c_5, if_pos rfl, nI_toInt (by omega), nI_toInt (by omega), Int.toNat_natCast, Int.toNat_natCast, ← hg]; rw [show 10001 - c0 = 0 by omega]; rfl, ht⟩) (fun _ h => absurd h List.not_mem_nil) dX2_least_38
    · have c_16 : c0 ≤ 10000 := Nat.le_of_not_lt (fun h => c_16 ((nI_ltI (a := 10000) (by omega) (by omega)).mpr h))
      obtain ⟨f, hf⟩ : ∃ f, 10001 - c0 = f + 1 := ⟨10000 - c0, by omega⟩
      refine lv_iload_n hx hb dX2_least_19 rfl (lv_at hl 1 rfl) ?_
      refine lv_iload_n hx hb dX2_least_20 rfl (lv_at hl 2 rfl) ?_
      refine lv_iload_n hx hb dX2_least_21 rfl (lv_at hl 3 rfl) ?_
      refine vp_callSi (va_Run.run (va_runS (As := [.int (nI n1), .int (nI h1), .int (nI c0)]) (rest := []) ⟨hx, hb, hml, hown, hts⟩ (c_X2_goesFirst l dC dI n1 h1 c0 hn2 (by omega) hc1 (by omega)) (va_cwS 3 hts gX2_least_X2_goesFirst rfl rfl rfl (by decide +kernel) ⟨Nat.le_of_ble_eq_true rfl, Nat.le_of_ble_eq_true rfl⟩) ⟨fun a U g mk q => ⟨q.1, trivial⟩, fun U hU hW => ⟨rfl, trivial⟩⟩ rfl rfl hl.1 rfl (lv_room (Nat.le_of_ble_eq_true rfl)) dX2_least_22 ⟨Nat.zero_le _, Nat.zero_le _⟩)) (fun r_22 hr_22 => ?_)
      subst hr_22
      refine lv_if_eq (tgt := 30) hx hb dX2_least_25 (by decide) (fun c_25 => ?_) (fun c_25 => ?_)
      · have c_25 := zb_0.mp c_25
        refine lv_iinc (v := nI (c0 + 1)) (lv' := [(3, .int (nI (c0 + 1))), (0, .ref h0), (1, .int (nI n1)), (2, .int (nI h1))]) hx hb dX2_least_30 hl (k := 3) rfl (nI_1 c0) (by decide) rfl (fun ls hl => ?_)
        refine lv_goto (tgt := 12) hx hb dX2_least_33 (by decide) ?_
        exact ih_12 (c0 + 1) _ (by omega) ⟨lv_sub hl [1, 2, 3, 0] rfl, by omega, by omega, by rw [← hg, hf, show 10001 - (c0 + 1) = f by omega]; simp [lstN, c_25]⟩
      · have c_25 := zb_n.mp c_25
        refine lv_iload_n hx hb dX2_least_28 rfl (lv_at hl 3 rfl) ?_
        exact W.iret (v := nI c0) hx hb hr (fun t ht hW => ⟨_, rfl, by unfold spLeast; rw [c_5, if_pos rfl, nI_toInt (by omega), nI_toInt (by omega), Int.toNat_natCast, Int.toNat_natCast, ← hg]; rw [hf]; simp [lstN, c_25], ht⟩) (fun _ h => absurd h List.not_mem_nil) dX2_least_29
  · have c_5 := zb_0.mp c_5
    refine lv_iconst (v := (-1)) hx hb dX2_least_8 (by decide) ?_
    exact W.iret (v := (-1)) hx hb hr (fun t ht hW => ⟨_, rfl, by unfold spLeast; rw [c_5, if_neg (by decide)], ht⟩) (fun _ h => absurd h List.not_mem_nil) dX2_least_9

set_option maxHeartbeats 4000000 in
set_option maxRecDepth 100000 in
theorem c_X3_isFirst (l : Launch) (dC : Nat → ClassId) (dI : Nat → Nat → Nat) (sz : Nat) (cA : ClassId) (h0 a3 a4 a5 a9 a11 a12 a14 a15 a16 : Nat) (tr : Int64) (pe st kd wd tn sd : Int32) (n h k : Nat) (hn1 : 1 ≤ n) (hn : n ≤ 20) (hh : h < 2 ^ n) (hk1 : 1 ≤ k) (hk : k ≤ 10000) (Rg : Nat → Int32) : Met l yX3_isFirst wsX3_isFirst ({ frames := 0, cells := 0, slots := 0, locals := 0 }) (va_Pc [.ref h0, .int (nI n), .int (nI h), .int (nI k)] (fun U => U.heap.size = sz ∧ va_P (dC, dI) vwCl [(h0, .inr (3, [.int 0, .long tr, .int pe, .ref a3, .ref a4, .ref a5, .int st, .int kd, .int wd, .ref a9, .int tn, .ref a11, .ref a12, .int sd, .ref a14, .ref a15, .ref a16])), (a14, .inl (cA, 20, .inl Rg))] U.heap ∧ va_K (dC, dI) vwCl [(cA, .int)] U ∧ va_D (fun _ => True) [(h0, .inr (3, [.int 0, .long tr, .int pe, .ref a3, .ref a4, .ref a5, .int st, .int kd, .int wd, .ref a9, .int tn, .ref a11, .ref a12, .int sd, .ref a14, .ref a15, .ref a16])), (a14, .inl (cA, 20, .inl Rg))])) (va_Qi (S := Nat → Int32) (fun r _ => r = zb (gF k n 0 h)) (fun (u : Nat → Int32) (t : State) => va_P (dC, dI) vwCl [(h0, .inr (3, [.int 0, .long tr, .int pe, .ref a3, .ref a4, .ref a5, .int st, .int kd, .int wd, .ref a9, .int tn, .ref a11, .ref a12, .int sd, .ref a14, .ref a15, .ref a16])), (a14, .inl (cA, 20, .inl u))] t.heap ∧ va_K (dC, dI) vwCl [(cA, .int)] t ∧ va_D (va_A [(h0, .inr (3, [.int 0, .long tr, .int pe, .ref a3, .ref a4, .ref a5, .int st, .int kd, .int wd, .ref a9, .int tn, .ref a11, .ref a12, .int sd, .ref a14, .ref a15, .ref a16])), (a14, .inl (cA, 20, .inl Rg))] sz) [(h0, .inr (3, [.int 0, .long tr, .int pe, .ref a3, .ref a4, .ref a5, .int st, .int kd, .int wd, .ref a9, .int tn, .ref a11, .ref a12, .int sd, .ref a14, .ref a15, .ref a16])), (a14, .inl (cA, 20, .inl u))]) (va_A [(h0, .inr (3, [.int 0, .long tr, .int pe, .ref a3, .ref a4, .ref a5, .int st, .int kd, .int wd, .ref a9, .int tn, .ref a11, .ref a12, .int sd, .ref a14, .ref a15, .ref a16])), (a14, .inl (cA, 20, .inl Rg))] sz)) 0 0 (va_A [(h0, .inr (3, [.int 0, .long tr, .int pe, .ref a3, .ref a4, .ref a5, .int st, .int kd, .int wd, .ref a9, .int tn, .ref a11, .ref a12, .int sd, .ref a14, .ref a15, .ref a16])), (a14, .inl (cA, 20, .inl Rg))] sz) := by
  refine Met.ofW (cc := cX3_isFirst) (maxL := 9) (ret := (some .boolean)) (by decide) rfl ?_
  intro p e s m args below meth c s₁ B hml hv
  obtain ⟨rfl, hsz, hP, hK, hD0⟩ := hv
  have hx := B.exec
  have hb := B.bytes
  have hr := B.returns
  have hts := atoms_spec (ws := wsX3_isFirst) B.pre
  have hown : s.vm.findClass RX3 = some m.cls := findClass_of_methodNamed B.named
  have hlocks := B.notSynchronized
  subst hsz
  have hD := hD0.self (sz := s.heap.size)
  generalize hAe : va_A [(h0, .inr (3, [.int 0, .long tr, .int pe, .ref a3, .ref a4, .ref a5, .int st, .int kd, .int wd, .ref a9, .int tn, .ref a11, .ref a12, .int sd, .ref a14, .ref a15, .ref a16])), (a14, .inl (cA, 20, .inl Rg))] s.heap.size = A at hD ⊢
  have hA : ∀ q : Nat, s.heap.size ≤ q → A q := fun q h => by rw [← hAe]; exact Or.inr h
  have hS : va_S A s.heap s.heap [] := va_S.rf
  have hP : va_P (dC, dI) vwCl [(h0, .inr (3, [.int 0, .long tr, .int pe, .ref a3, .ref a4, .ref a5, .int st, .int kd, .int wd, .ref a9, .int tn, .ref a11, .ref a12, .int sd, .ref a14, .ref a15, .ref a16])), (a14, .inl (cA, 20, .inl Rg))] s.heap := hP
  have hl := lv_entry ([.ref h0, .int (nI n), .int (nI h), .int (nI k)]) (n := 9) (Nat.le_of_ble_eq_true rfl)
  rw [lg_entry_eq]
  generalize (lg_sl ([.ref h0, .int (nI n), .int (nI h), .int (nI k)]) ++ List.replicate (9 - (lg_sl ([.ref h0, .int (nI n), .int (nI h), .int (nI k)])).length) Slot.unset).toArray = ls at hl ⊢
  have hl : lv_has ls 9 [(0, .ref h0), (1, .int (nI n)), (2, .int (nI h)), (3, .int (nI k))] := hl
  have hp20 : (2 : Nat) ^ n ≤ 2 ^ 20 := Nat.pow_le_pow_right (by decide) hn
  have hbl := bc_le h.testBit n
  refine lv_iconst (v := 0) hx hb dX3_isFirst_0 (by decide) ?_
  refine lv_istore (lv' := [(4, .int 0), (0, .ref h0), (1, .int (nI n)), (2, .int (nI h)), (3, .int (nI k))]) hx hb dX3_isFirst_1 hl (by decide) rfl (fun ls hl => ?_)
  refine lv_iconst (v := 0) hx hb dX3_isFirst_3 (by decide) ?_
  refine lv_istore (lv' := [(5, .int 0), (4, .int 0), (0, .ref h0), (1, .int (nI n)), (2, .int (nI h)), (3, .int (nI k))]) hx hb dX3_isFirst_4 hl (by decide) rfl (fun ls hl => ?_)
  refine W_loop (σ := Nat × (Nat → Int32)) (fun xx ls H locs => match xx with | (p0, Rg) => lv_has ls 9 [(0, .ref h0), (1, .int (nI n)), (2, .int (nI h)), (3, .int (nI k)), (4, .int (nI (bc h.testBit p0))), (5, .int (nI p0))] ∧ va_P (dC, dI) vwCl [(h0, .inr (3, [.int 0, .long tr, .int pe, .ref a3, .ref a4, .ref a5, .int st, .int kd, .int wd, .ref a9, .int tn, .ref a11, .ref a12, .int sd, .ref a14, .ref a15, .ref a16])), (a14, .inl (cA, 20, .inl Rg))] H ∧ va_D A [(h0, .inr (3, [.int 0, .long tr, .int pe, .ref a3, .ref a4, .ref a5, .int st, .int kd, .int wd, .ref a9, .int tn, .ref a11, .ref a12, .int sd, .ref a14, .ref a15, .ref a16])), (a14, .inl (cA, 20, .inl Rg))] ∧ va_S A s.heap H locs ∧ p0 ≤ n ∧ (∀ q, q < p0 → Rg q = nI q)) (fun xx => match xx with | (p0, Rg) => n - p0) ?_ (0, Rg) ⟨lv_sub hl [2, 3, 4, 5, 1, 0] rfl, hP, hD, hS, by omega, fun q hq => absurd hq (Nat.not_lt_zero _)⟩
  rintro ⟨p0, Rg⟩ ls H locs ⟨hl, hP, hD, hS, hp, hR⟩ ih_6
  have hb0 := bc_le h.testBit p0
  refine lv_iload hx hb dX3_isFirst_6 (lv_at hl 5 rfl) ?_
  refine lv_iload_n hx hb dX3_isFirst_8 rfl (lv_at hl 1 rfl) ?_
  refine lv_icmp_ge (tgt := 38) hx hb dX3_isFirst_9 (by decide) (fun c_9 => ?_) (fun c_9 => ?_)
  · have c_9 : n ≤ p0 := (nI_leI (by omega) (by omega)).mp c_9
    have hpn : p0 = n := by omega
    rw [hpn] at hl hR
    refine lv_iconst (v := 0) hx hb dX3_isFirst_38 (by decide) ?_
    refine lv_istore (lv' := [(5, .int 0), (0, .ref h0), (1, .int (nI n)), (2, .int (nI h)), (3, .int (nI k)), (4, .int (nI (bc h.testBit n)))]) hx hb dX3_isFirst_39 hl (by decide) rfl (fun ls hl => ?_)
    refine lv_iconst (v := 0) hx hb dX3_isFirst_41 (by decide) ?_
    refine lv_istore (lv' := [(6, .int 0), (5, .int 0), (0, .ref h0), (1, .int (nI n)), (2, .int (nI h)), (3, .int (nI k)), (4, .int (nI (bc h.testBit n)))]) hx hb dX3_isFirst_42 hl (by decide) rfl (fun ls hl => ?_)
    refine W_loop (σ := Nat × Nat × Nat × (Nat → Nat) × (Nat → Int32)) (fun xx ls H locs => match xx with | (i, a, b, rg, Rg) => lv_has ls 9 [(0, .ref h0), (1, .int (nI n)), (2, .int (nI h)), (3, .int (nI k)), (4, .int (nI (bc h.testBit n))), (5, .int (nI a)), (6, .int (nI i))] ∧ va_P (dC, dI) vwCl [(h0, .inr (3, [.int 0, .long tr, .int pe, .ref a3, .ref a4, .ref a5, .int st, .int kd, .int wd, .ref a9, .int tn, .ref a11, .ref a12, .int sd, .ref a14, .ref a15, .ref a16])), (a14, .inl (cA, 20, .inl Rg))] H ∧ va_D A [(h0, .inr (3, [.int 0, .long tr, .int pe, .ref a3, .ref a4, .ref a5, .int st, .int kd, .int wd, .ref a9, .int tn, .ref a11, .ref a12, .int sd, .ref a14, .ref a15, .ref a16])), (a14, .inl (cA, 20, .inl Rg))] ∧ va_S A s.heap H locs ∧ i ≤ bc h.testBit n ∧ a ≤ 20 ∧ b < 2 ^ (n - i) ∧ bc b.testBit (n - i) + i = bc h.testBit n ∧ (∀ q, q < n - i → Rg q = nI (rg q) ∧ rg q < n ∧ h.testBit (rg q) = b.testBit q) ∧ gF k (n - i) a b = gF k n 0 h) (fun xx => match xx with | (i, a, b, rg, Rg) => n - i) ?_ (0, 0, h, fun q => q, Rg) ⟨lv_sub hl [2, 3, 4, 5, 6, 1, 0] rfl, hP, hD, hS, by omega, by omega, hh, rfl, fun q hq => ⟨hR q hq, hq, rfl⟩, rfl⟩
    rintro ⟨i, a, b, rg, Rg⟩ ls H locs ⟨hl, hP, hD, hS, hi, ha, hbm, hbc, hR, hg⟩ ih_44
    refine lv_iload hx hb dX3_isFirst_44 (lv_at hl 6 rfl) ?_
    refine lv_iload hx hb dX3_isFirst_46 (lv_at hl 4 rfl) ?_
    refine lv_icmp_ge (tgt := 125) hx hb dX3_isFirst_48 (by decide) (fun c_48 => ?_) (fun c_48 => ?_)
    · have c_48 : bc h.testBit n ≤ i := (nI_leI (by omega) (by omega)).mp c_48
      refine lv_iconst (v := 1) hx hb dX3_isFirst_125 (by decide) ?_
      have hP9 := hP.sub (ws' := [(h0, .inr (3, [.int 0, .long tr, .int pe, .ref a3, .ref a4, .ref a5, .int st, .int kd, .int wd, .ref a9, .int tn, .ref a11, .ref a12, .int sd, .ref a14, .ref a15, .ref a16])), (a14, .inl (cA, 20, .inl Rg))]) [0, 1] rfl
      have hD9 := hD.sub (ws' := [(h0, .inr (3, [.int 0, .long tr, .int pe, .ref a3, .ref a4, .ref a5, .int st, .int kd, .int wd, .ref a9, .int tn, .ref a11, .ref a12, .int sd, .ref a14, .ref a15, .ref a16])), (a14, .inl (cA, 20, .inl Rg))]) [0, 1] (by decide) rfl
      exact W.zret (v := 1) hx hb hr (rfl) (fun t ht hW => ⟨⟨_, _, rfl, by rw [← hg, tb_zero hbm (by omega), gF_z]; rfl, ⟨by rw [ht]; exact hP9, va_K.moved hW.alike hK, hD9⟩⟩, hS.F ht⟩) hS.2.2 dX3_isFirst_126
    · have c_48 : i < bc h.testBit n := Nat.lt_of_not_le (fun h => c_48 ((nI_leI (by omega) (by omega)).mpr h))
      obtain ⟨m0, hm0⟩ : ∃ m0, n - i = m0 + 1 := ⟨n - i - 1, by omega⟩
      have hm1 : n - (i + 1) = m0 := by omega
      have hb0 : ¬ b = 0 := fun h => by rw [h, bc_zero] at hbc; omega
      rw [hm0] at hbm hbc hR
      have hr0 : ((a + k - 1) % (m0 + 1)) < m0 + 1 := Nat.mod_lt _ (by omega)
      have hp22 : (2 : Nat) ^ (m0 + 1) ≤ 2 ^ 20 := Nat.pow_le_pow_right (by decide) (by omega)
      have hRa := hR _ hr0
      refine lv_iload_n hx hb dX3_isFirst_51 rfl (lv_at hl 1 rfl) ?_
      refine lv_iload hx hb dX3_isFirst_52 (lv_at hl 6 rfl) ?_
      refine lv_isub hx hb dX3_isFirst_54 ?_
      refine z_i (y := nI (m0 + 1)) (by rw [pk_sub (by omega), hm0]) ?_
      refine lv_istore (lv' := [(7, .int (nI (m0 + 1))), (0, .ref h0), (1, .int (nI n)), (2, .int (nI h)), (3, .int (nI k)), (4, .int (nI (bc h.testBit n))), (5, .int (nI a)), (6, .int (nI i))]) hx hb dX3_isFirst_55 hl (by decide) rfl (fun ls hl => ?_)
      refine lv_iload hx hb dX3_isFirst_57 (lv_at hl 6 rfl) ?_
      refine lv_iload_n hx hb dX3_isFirst_59 rfl (lv_at hl 4 rfl) ?_
      refine lv_iadd hx hb dX3_isFirst_60 ?_
      refine lv_iconst (v := 1) hx hb dX3_isFirst_61 (by decide) ?_
      refine lv_isub hx hb dX3_isFirst_62 ?_
      refine z_i (y := nI (a + k - 1)) (by rw [nI_add]; exact pk_sub (b := 1) (by omega)) ?_
      refine lv_iload hx hb dX3_isFirst_63 (lv_at hl 0 rfl) ?_
      refine lv_irem hx hb dX3_isFirst_65 (nI_ne0 (by omega) (by omega)) ?_
      refine z_i (y := nI ((a + k - 1) % (m0 + 1))) (pk_rem (by omega) (by omega) (by omega)) ?_
      refine lv_istore (lv' := [(5, .int (nI ((a + k - 1) % (m0 + 1)))), (7, .int (nI (m0 + 1))), (0, .ref h0), (1, .int (nI n)), (2, .int (nI h)), (3, .int (nI k)), (4, .int (nI (bc h.testBit n))), (6, .int (nI i))]) hx hb dX3_isFirst_66 hl (by decide) rfl (fun ls hl => ?_)
      refine lv_iload_n hx hb dX3_isFirst_68 rfl (lv_at hl 4 rfl) ?_
      refine lv_aload_n hx hb dX3_isFirst_69 rfl (lv_at hl 2 rfl) ?_
      refine va_get (D := (dC, dI)) (ci := 3) (v := .ref a14) (C := RX3) (T := TX3) (N := 17) hx hb hts (by decide +kernel) hown hK hP 0 rfl rfl 14 (by decide) (hts (.fieldLink RX3 38 "CountedOutModel" "ring" "[I") (by decide +kernel)) (fun _ h9 => h9) rfl dX3_isFirst_70 ?_
      refine lv_iload hx hb dX3_isFirst_73 (lv_at hl 0 rfl) ?_
      refine z_iald hx hb hK hP 1 0 rfl rfl (i := ((a + k - 1) % (m0 + 1))) (by omega) (by decide) dX3_isFirst_75 ?_
      refine z_i (y := nI (rg ((a + k - 1) % (m0 + 1)))) (hRa.1) ?_
      refine lv_ishr hx hb dX3_isFirst_76 ?_
      refine z_i (y := nI (h / 2 ^ (rg ((a + k - 1) % (m0 + 1))))) (shr_nI (by omega) (by omega)) ?_
      refine lv_iconst (v := 1) hx hb dX3_isFirst_77 (by decide) ?_
      refine lv_iand hx hb dX3_isFirst_78 ?_
      refine z_i (y := nI (h / 2 ^ (rg ((a + k - 1) % (m0 + 1))) % 2)) (bit_nI _ _) ?_
      refine lv_if_ne (tgt := 84) hx hb dX3_isFirst_79 (by decide) (fun c_79 => ?_) (fun c_79 => ?_)
      · have c_79 : b.testBit ((a + k - 1) % (m0 + 1)) = true := by cases hq : h.testBit (rg ((a + k - 1) % (m0 + 1))) with | true => exact hRa.2.2 ▸ hq | false => exact absurd (bit_0.mpr hq) c_79
        refine lv_iload hx hb dX3_isFirst_84 (lv_at hl 0 rfl) ?_
        refine lv_istore (lv' := [(8, .int (nI ((a + k - 1) % (m0 + 1)))), (5, .int (nI ((a + k - 1) % (m0 + 1)))), (7, .int (nI (m0 + 1))), (0, .ref h0), (1, .int (nI n)), (2, .int (nI h)), (3, .int (nI k)), (4, .int (nI (bc h.testBit n))), (6, .int (nI i))]) hx hb dX3_isFirst_86 hl (by decide) rfl (fun ls hl => ?_)
        refine W_loop (σ := Nat × (Nat → Int32)) (fun xx ls H locs => match xx with | (p2, Rg2) => lv_has ls 9 [(0, .ref h0), (1, .int (nI n)), (2, .int (nI h)), (3, .int (nI k)), (4, .int (nI (bc h.testBit n))), (5, .int (nI ((a + k - 1) % (m0 + 1)))), (6, .int (nI i)), (7, .int (nI (m0 + 1))), (8, .int (nI p2))] ∧ va_P (dC, dI) vwCl [(h0, .inr (3, [.int 0, .long tr, .int pe, .ref a3, .ref a4, .ref a5, .int st, .int kd, .int wd, .ref a9, .int tn, .ref a11, .ref a12, .int sd, .ref a14, .ref a15, .ref a16])), (a14, .inl (cA, 20, .inl Rg2))] H ∧ va_D A [(h0, .inr (3, [.int 0, .long tr, .int pe, .ref a3, .ref a4, .ref a5, .int st, .int kd, .int wd, .ref a9, .int tn, .ref a11, .ref a12, .int sd, .ref a14, .ref a15, .ref a16])), (a14, .inl (cA, 20, .inl Rg2))] ∧ va_S A s.heap H locs ∧ p2 < m0 + 1 ∧ ((a + k - 1) % (m0 + 1)) ≤ p2 ∧ (∀ q, q < m0 + 1 → Rg2 q = if q < p2 then (if q < ((a + k - 1) % (m0 + 1)) then Rg q else Rg (q + 1)) else Rg q)) (fun xx => match xx with | (p2, Rg2) => m0 + 1 - p2) ?_ (((a + k - 1) % (m0 + 1)), Rg) ⟨lv_sub hl [3, 4, 5, 6, 7, 1, 8, 2, 0] rfl, hP, hD, hS, hr0, Nat.le_refl _, fun q hq => by split <;> rfl⟩
        rintro ⟨p2, Rg2⟩ ls H locs ⟨hl, hP, hD, hS, hp2, hap, hR2⟩ ih_88
        refine lv_iload hx hb dX3_isFirst_88 (lv_at hl 8 rfl) ?_
        refine lv_iconst (v := 1) hx hb dX3_isFirst_90 (by decide) ?_
        refine lv_iadd hx hb dX3_isFirst_91 ?_
        refine z_i (y := nI (p2 + 1)) (nI_1 p2) ?_
        refine lv_iload hx hb dX3_isFirst_92 (lv_at hl 7 rfl) ?_
        refine lv_icmp_ge (tgt := 119) hx hb dX3_isFirst_94 (by decide) (fun c_94 => ?_) (fun c_94 => ?_)
        · have c_94 : m0 + 1 ≤ p2 + 1 := (nI_leI (by omega) (by omega)).mp c_94
          refine lv_iinc (v := nI (i + 1)) (lv' := [(6, .int (nI (i + 1))), (0, .ref h0), (1, .int (nI n)), (2, .int (nI h)), (3, .int (nI k)), (4, .int (nI (bc h.testBit n))), (5, .int (nI ((a + k - 1) % (m0 + 1)))), (7, .int (nI (m0 + 1))), (8, .int (nI p2))]) hx hb dX3_isFirst_119 hl (k := 6) rfl (nI_1 i) (by decide) rfl (fun ls hl => ?_)
          refine lv_goto (tgt := 44) hx hb dX3_isFirst_122 (by decide) ?_
          exact ih_44 (i + 1, ((a + k - 1) % (m0 + 1)), wob b ((a + k - 1) % (m0 + 1)), fun q => if q < ((a + k - 1) % (m0 + 1)) then rg q else rg (q + 1), Rg2) _ _ _ (by show n - (i + 1) < n - i; omega) ⟨lv_sub hl [1, 2, 3, 4, 5, 6, 0] rfl, hP, hD, hS, by omega, by omega, by rw [hm1]; exact wob_lt hbm hr0, by rw [hm1]; have := bc_wob hr0 c_79; omega, isF_ring hm1 hm0 hr0 hR hR2 (by omega), by rw [← hg, hm0, hm1, gF_s hb0 c_79]⟩
        · have c_94 : p2 + 1 < m0 + 1 := Nat.lt_of_not_le (fun h => c_94 ((nI_leI (by omega) (by omega)).mpr h))
          refine lv_aload_n hx hb dX3_isFirst_97 rfl (lv_at hl 0 rfl) ?_
          refine va_get (D := (dC, dI)) (ci := 3) (v := .ref a14) (C := RX3) (T := TX3) (N := 17) hx hb hts (by decide +kernel) hown hK hP 0 rfl rfl 14 (by decide) (hts (.fieldLink RX3 38 "CountedOutModel" "ring" "[I") (by decide +kernel)) (fun _ h9 => h9) rfl dX3_isFirst_98 ?_
          refine lv_iload hx hb dX3_isFirst_101 (lv_at hl 8 rfl) ?_
          refine lv_aload_n hx hb dX3_isFirst_103 rfl (lv_at hl 0 rfl) ?_
          refine va_get (D := (dC, dI)) (ci := 3) (v := .ref a14) (C := RX3) (T := TX3) (N := 17) hx hb hts (by decide +kernel) hown hK hP 0 rfl rfl 14 (by decide) (hts (.fieldLink RX3 38 "CountedOutModel" "ring" "[I") (by decide +kernel)) (fun _ h9 => h9) rfl dX3_isFirst_104 ?_
          refine lv_iload hx hb dX3_isFirst_107 (lv_at hl 8 rfl) ?_
          refine lv_iconst (v := 1) hx hb dX3_isFirst_109 (by decide) ?_
          refine lv_iadd hx hb dX3_isFirst_110 ?_
          refine z_i (y := nI (p2 + 1)) (nI_1 p2) ?_
          refine z_iald hx hb hK hP 1 0 rfl rfl (i := (p2 + 1)) (by omega) (by decide) dX3_isFirst_111 ?_
          refine z_iast hx hb hK hP hD hS 1 0 rfl rfl (i := p2) (by omega) (by decide) dX3_isFirst_112 (fun H locs hP hD hS => ?_)
          have hP : va_P (dC, dI) vwCl [(h0, .inr (3, [.int 0, .long tr, .int pe, .ref a3, .ref a4, .ref a5, .int st, .int kd, .int wd, .ref a9, .int tn, .ref a11, .ref a12, .int sd, .ref a14, .ref a15, .ref a16])), (a14, .inl (cA, 20, .inl (upd Rg2 p2 (Rg2 (p2 + 1)))))] H := hP
          have hD : va_D A [(h0, .inr (3, [.int 0, .long tr, .int pe, .ref a3, .ref a4, .ref a5, .int st, .int kd, .int wd, .ref a9, .int tn, .ref a11, .ref a12, .int sd, .ref a14, .ref a15, .ref a16])), (a14, .inl (cA, 20, .inl (upd Rg2 p2 (Rg2 (p2 + 1)))))] := hD
          refine lv_iinc (v := nI (p2 + 1)) (lv' := [(8, .int (nI (p2 + 1))), (0, .ref h0), (1, .int (nI n)), (2, .int (nI h)), (3, .int (nI k)), (4, .int (nI (bc h.testBit n))), (5, .int (nI ((a + k - 1) % (m0 + 1)))), (6, .int (nI i)), (7, .int (nI (m0 + 1)))]) hx hb dX3_isFirst_113 hl (k := 8) rfl (nI_1 p2) (by decide) rfl (fun ls hl => ?_)
          refine lv_goto (tgt := 88) hx hb dX3_isFirst_116 (by decide) ?_
          exact ih_88 (p2 + 1, upd Rg2 p2 (Rg2 (p2 + 1))) _ _ _ (by show m0 + 1 - (p2 + 1) < m0 + 1 - p2; omega) ⟨lv_sub hl [1, 2, 3, 4, 5, 6, 7, 8, 0] rfl, hP, hD, hS, by omega, by omega, isF_move hp2 hap c_94 hR2⟩
      · have c_79 : b.testBit ((a + k - 1) % (m0 + 1)) = false := hRa.2.2 ▸ bit_0.mp c_79
        refine lv_iconst (v := 0) hx hb dX3_isFirst_82 (by decide) ?_
        have hP9 := hP.sub (ws' := [(h0, .inr (3, [.int 0, .long tr, .int pe, .ref a3, .ref a4, .ref a5, .int st, .int kd, .int wd, .ref a9, .int tn, .ref a11, .ref a12, .int sd, .ref a14, .ref a15, .ref a16])), (a14, .inl (cA, 20, .inl Rg))]) [0, 1] rfl
        have hD9 := hD.sub (ws' := [(h0, .inr (3, [.int 0, .long tr, .int pe, .ref a3, .ref a4, .ref a5, .int st, .int kd, .int wd, .ref a9, .int tn, .ref a11, .ref a12, .int sd, .ref a14, .ref a15, .ref a16])), (a14, .inl (cA, 20, .inl Rg))]) [0, 1] (by decide) rfl
        exact W.zret (v := 0) hx hb hr (rfl) (fun t ht hW => ⟨⟨_, _, rfl, by rw [← hg, hm0, gF_n hb0 c_79]; rfl, ⟨by rw [ht]; exact hP9, va_K.moved hW.alike hK, hD9⟩⟩, hS.F ht⟩) hS.2.2 dX3_isFirst_83
  · have c_9 : p0 < n := Nat.lt_of_not_le (fun h => c_9 ((nI_leI (by omega) (by omega)).mpr h))
    refine lv_aload_n hx hb dX3_isFirst_12 rfl (lv_at hl 0 rfl) ?_
    refine va_get (D := (dC, dI)) (ci := 3) (v := .ref a14) (C := RX3) (T := TX3) (N := 17) hx hb hts (by decide +kernel) hown hK hP 0 rfl rfl 14 (by decide) (hts (.fieldLink RX3 38 "CountedOutModel" "ring" "[I") (by decide +kernel)) (fun _ h9 => h9) rfl dX3_isFirst_13 ?_
    refine lv_iload hx hb dX3_isFirst_16 (lv_at hl 5 rfl) ?_
    refine lv_iload hx hb dX3_isFirst_18 (lv_at hl 5 rfl) ?_
    refine z_iast hx hb hK hP hD hS 1 0 rfl rfl (i := p0) (by omega) (by decide) dX3_isFirst_20 (fun H locs hP hD hS => ?_)
    have hP : va_P (dC, dI) vwCl [(h0, .inr (3, [.int 0, .long tr, .int pe, .ref a3, .ref a4, .ref a5, .int st, .int kd, .int wd, .ref a9, .int tn, .ref a11, .ref a12, .int sd, .ref a14, .ref a15, .ref a16])), (a14, .inl (cA, 20, .inl (upd Rg p0 (nI p0))))] H := hP
    have hD : va_D A [(h0, .inr (3, [.int 0, .long tr, .int pe, .ref a3, .ref a4, .ref a5, .int st, .int kd, .int wd, .ref a9, .int tn, .ref a11, .ref a12, .int sd, .ref a14, .ref a15, .ref a16])), (a14, .inl (cA, 20, .inl (upd Rg p0 (nI p0))))] := hD
    refine lv_iload hx hb dX3_isFirst_21 (lv_at hl 4 rfl) ?_
    refine lv_iload_n hx hb dX3_isFirst_23 rfl (lv_at hl 2 rfl) ?_
    refine lv_iload hx hb dX3_isFirst_24 (lv_at hl 5 rfl) ?_
    refine lv_ishr hx hb dX3_isFirst_26 ?_
    refine z_i (y := nI (h / 2 ^ p0)) (shr_nI (by omega) (by omega)) ?_
    refine lv_iconst (v := 1) hx hb dX3_isFirst_27 (by decide) ?_
    refine lv_iand hx hb dX3_isFirst_28 ?_
    refine z_i (y := nI (h / 2 ^ p0 % 2)) (bit_nI _ _) ?_
    refine lv_iadd hx hb dX3_isFirst_29 ?_
    refine z_i (y := nI (bc h.testBit (p0 + 1))) (by rw [nI_add]; exact congrArg nI (isF_cnt h p0)) ?_
    refine lv_istore (lv' := [(4, .int (nI (bc h.testBit (p0 + 1)))), (0, .ref h0), (1, .int (nI n)), (2, .int (nI h)), (3, .int (nI k)), (5, .int (nI p0))]) hx hb dX3_isFirst_30 hl (by decide) rfl (fun ls hl => ?_)
    refine lv_iinc (v := nI (p0 + 1)) (lv' := [(5, .int (nI (p0 + 1))), (4, .int (nI (bc h.testBit (p0 + 1)))), (0, .ref h0), (1, .int (nI n)), (2, .int (nI h)), (3, .int (nI k))]) hx hb dX3_isFirst_32 hl (k := 5) rfl (nI_1 p0) (by decide) rfl (fun ls hl => ?_)
    refine lv_goto (tgt := 6) hx hb dX3_isFirst_35 (by decide) ?_
    exact ih_6 (p0 + 1, upd Rg p0 (nI p0)) _ _ _ (by show n - (p0 + 1) < n - p0; omega) ⟨lv_sub hl [2, 3, 4, 5, 1, 0] rfl, hP, hD, hS, by omega, fun q hq => by rcases Nat.lt_or_ge q p0 with h5 | h5 <;> first | (rw [pk_un (by omega)]; exact hR q h5) | (rw [show q = p0 by omega, pk_us])⟩

set_option maxHeartbeats 4000000 in
set_option maxRecDepth 100000 in
theorem c_X3_first (l : Launch) (dC : Nat → ClassId) (dI : Nat → Nat → Nat) (sz : Nat) (cA : ClassId) (h0 a3 a4 a5 a9 a11 a12 a14 a15 a16 : Nat) (tr : Int64) (pe st kd wd tn sd : Int32) (n h k : Int32) (Rg : Nat → Int32) : Met l yX3_first wsX3_first ({ frames := 2, cells := 0, slots := 0, locals := 46 }) (va_Pc [.ref h0, .int n, .int h, .int k] (fun U => U.heap.size = sz ∧ va_P (dC, dI) vwCl [(h0, .inr (3, [.int 0, .long tr, .int pe, .ref a3, .ref a4, .ref a5, .int st, .int kd, .int wd, .ref a9, .int tn, .ref a11, .ref a12, .int sd, .ref a14, .ref a15, .ref a16])), (a14, .inl (cA, 20, .inl Rg))] U.heap ∧ va_K (dC, dI) vwCl [(cA, .int)] U ∧ va_D (fun _ => True) [(h0, .inr (3, [.int 0, .long tr, .int pe, .ref a3, .ref a4, .ref a5, .int st, .int kd, .int wd, .ref a9, .int tn, .ref a11, .ref a12, .int sd, .ref a14, .ref a15, .ref a16])), (a14, .inl (cA, 20, .inl Rg))])) (va_Qi (S := Nat → Int32) (fun r _ => r = spFirst n h k) (fun (u : Nat → Int32) (t : State) => va_P (dC, dI) vwCl [(h0, .inr (3, [.int 0, .long tr, .int pe, .ref a3, .ref a4, .ref a5, .int st, .int kd, .int wd, .ref a9, .int tn, .ref a11, .ref a12, .int sd, .ref a14, .ref a15, .ref a16])), (a14, .inl (cA, 20, .inl u))] t.heap ∧ va_K (dC, dI) vwCl [(cA, .int)] t ∧ va_D (va_A [(h0, .inr (3, [.int 0, .long tr, .int pe, .ref a3, .ref a4, .ref a5, .int st, .int kd, .int wd, .ref a9, .int tn, .ref a11, .ref a12, .int sd, .ref a14, .ref a15, .ref a16])), (a14, .inl (cA, 20, .inl Rg))] sz) [(h0, .inr (3, [.int 0, .long tr, .int pe, .ref a3, .ref a4, .ref a5, .int st, .int kd, .int wd, .ref a9, .int tn, .ref a11, .ref a12, .int sd, .ref a14, .ref a15, .ref a16])), (a14, .inl (cA, 20, .inl u))]) (va_A [(h0, .inr (3, [.int 0, .long tr, .int pe, .ref a3, .ref a4, .ref a5, .int st, .int kd, .int wd, .ref a9, .int tn, .ref a11, .ref a12, .int sd, .ref a14, .ref a15, .ref a16])), (a14, .inl (cA, 20, .inl Rg))] sz)) 0 0 (va_A [(h0, .inr (3, [.int 0, .long tr, .int pe, .ref a3, .ref a4, .ref a5, .int st, .int kd, .int wd, .ref a9, .int tn, .ref a11, .ref a12, .int sd, .ref a14, .ref a15, .ref a16])), (a14, .inl (cA, 20, .inl Rg))] sz) := by
  refine Met.ofW (cc := cX3_first) (maxL := 4) (ret := (some .int)) (by decide) rfl ?_
  intro p e s m args below meth c s₁ B hml hv
  obtain ⟨rfl, hsz, hP, hK, hD0⟩ := hv
  have hx := B.exec
  have hb := B.bytes
  have hr := B.returns
  have hts := atoms_spec (ws := wsX3_first) B.pre
  have hown : s.vm.findClass RX3 = some m.cls := findClass_of_methodNamed B.named
  have hlocks := B.notSynchronized
  subst hsz
  have hD := hD0.self (sz := s.heap.size)
  generalize hAe : va_A [(h0, .inr (3, [.int 0, .long tr, .int pe, .ref a3, .ref a4, .ref a5, .int st, .int kd, .int wd, .ref a9, .int tn, .ref a11, .ref a12, .int sd, .ref a14, .ref a15, .ref a16])), (a14, .inl (cA, 20, .inl Rg))] s.heap.size = A at hD ⊢
  have hA : ∀ q : Nat, s.heap.size ≤ q → A q := fun q h => by rw [← hAe]; exact Or.inr h
  have hS : va_S A s.heap s.heap [] := va_S.rf
  have hP : va_P (dC, dI) vwCl [(h0, .inr (3, [.int 0, .long tr, .int pe, .ref a3, .ref a4, .ref a5, .int st, .int kd, .int wd, .ref a9, .int tn, .ref a11, .ref a12, .int sd, .ref a14, .ref a15, .ref a16])), (a14, .inl (cA, 20, .inl Rg))] s.heap := hP
  have hl := lv_entry ([.ref h0, .int n, .int h, .int k]) (n := 4) (Nat.le_of_ble_eq_true rfl)
  rw [lg_entry_eq]
  generalize (lg_sl ([.ref h0, .int n, .int h, .int k]) ++ List.replicate (4 - (lg_sl ([.ref h0, .int n, .int h, .int k])).length) Slot.unset).toArray = ls at hl ⊢
  have hl : lv_has ls 4 [(0, .ref h0), (1, .int n), (2, .int h), (3, .int k)] := hl
  refine lv_aload_n hx hb dX3_first_0 rfl (lv_at hl 0 rfl) ?_
  refine lv_iconst (v := 0) hx hb dX3_first_1 (by decide) ?_
  refine va_put (D := (dC, dI)) (ci := 3) (v := .int 0) (ty := .int) (C := RX3) (T := TX3) (N := 17) hx hb hts (by decide +kernel) tyX3 tyX3_ok nmX3 hown hK hP hD hS 0 rfl rfl 0 (by decide) (hts (.fieldLink RX3 51 "CountedOutModel" "thrown" "I") (by decide +kernel)) (fun _ h9 => h9) rfl (by decide +kernel) rfl rfl (Nat.le_of_ble_eq_true rfl) dX3_first_2 (fun H locs hP hD hS => ?_)
  have hP : va_P (dC, dI) vwCl [(h0, .inr (3, [.int 0, .long tr, .int pe, .ref a3, .ref a4, .ref a5, .int st, .int kd, .int wd, .ref a9, .int tn, .ref a11, .ref a12, .int sd, .ref a14, .ref a15, .ref a16])), (a14, .inl (cA, 20, .inl Rg))] H := hP
  have hD : va_D A [(h0, .inr (3, [.int 0, .long tr, .int pe, .ref a3, .ref a4, .ref a5, .int st, .int kd, .int wd, .ref a9, .int tn, .ref a11, .ref a12, .int sd, .ref a14, .ref a15, .ref a16])), (a14, .inl (cA, 20, .inl Rg))] := hD
  refine lv_iload_n hx hb dX3_first_5 rfl (lv_at hl 1 rfl) ?_
  refine lv_iload_n hx hb dX3_first_6 rfl (lv_at hl 2 rfl) ?_
  refine vp_callSi (va_Run.run (va_runS (As := [.int n, .int h]) (rest := []) ⟨hx, hb, hml, hown, hts⟩ (c_X3_isHeap l dC dI n h) (va_cwS 2 hts gX3_first_X3_isHeap rfl rfl rfl (by decide +kernel) ⟨Nat.le_of_ble_eq_true rfl, Nat.le_of_ble_eq_true rfl⟩) ⟨fun a U g mk q => ⟨q.1, trivial⟩, fun U hU hW => ⟨rfl, trivial⟩⟩ rfl rfl hl.1 rfl (lv_room (Nat.le_of_ble_eq_true rfl)) dX3_first_7 ⟨Nat.zero_le _, Nat.zero_le _⟩)) (fun r_7 hr_7 => ?_)
  subst hr_7
  refine lv_if_eq (tgt := 25) hx hb dX3_first_10 (by decide) (fun c_10 => ?_) (fun c_10 => ?_)
  · have c_10 := zb_0.mp c_10
    refine lv_iconst (v := (-1)) hx hb dX3_first_25 (by decide) ?_
    refine lv_goto (tgt := 44) hx hb dX3_first_26 (by decide) ?_
    have hP9 := hP.sub (ws' := [(h0, .inr (3, [.int 0, .long tr, .int pe, .ref a3, .ref a4, .ref a5, .int st, .int kd, .int wd, .ref a9, .int tn, .ref a11, .ref a12, .int sd, .ref a14, .ref a15, .ref a16])), (a14, .inl (cA, 20, .inl Rg))]) [0, 1] rfl
    have hD9 := hD.sub (ws' := [(h0, .inr (3, [.int 0, .long tr, .int pe, .ref a3, .ref a4, .ref a5, .int st, .int kd, .int wd, .ref a9, .int tn, .ref a11, .ref a12, .int sd, .ref a14, .ref a15, .ref a16])), (a14, .inl (cA, 20, .inl Rg))]) [0, 1] (by decide) rfl
    exact W.iret (v := (-1)) hx hb hr (fun t ht hW => ⟨⟨_, _, rfl, by first | (unfold spFirst; rw [c_10, c_22, Bool.true_and, if_pos rfl, nI_toInt (by omega), nI_toInt (by omega), nI_toInt (by omega), Int.toNat_natCast, Int.toNat_natCast, Int.toNat_natCast, c_36]; rfl) | (unfold spFirst; first | (rw [c_10, Bool.false_and, if_neg (by decide)]) | (rw [c_10, c_22, Bool.true_and, if_neg (by decide)])), ⟨by rw [ht]; exact hP9, va_K.moved hW.alike hK, hD9⟩⟩, hS.F ht⟩) hS.2.2 dX3_first_44
  · have c_10 := zb_n.mp c_10
    refine lv_iload_n hx hb dX3_first_13 rfl (lv_at hl 3 rfl) ?_
    refine lv_i2l (v := k.toInt64) hx hb dX3_first_14 rfl ?_
    refine lv_lconst (v := 1) hx hb dX3_first_15 (by decide) ?_
    refine lv_ldc2 (v := 10000) hx hb hown (hts (.constantLong RX3 80 (10000)) (by decide +kernel)) dX3_first_16 ?_
    refine vp_callSi (va_Run.run (va_runS (As := [.long k.toInt64, .long 1, .long 10000]) (rest := []) ⟨hx, hb, hml, hown, hts⟩ (c_X3_in l dC dI k.toInt64 1 10000) (va_cwS 3 hts gX3_first_X3_in rfl rfl rfl (by decide +kernel) ⟨Nat.le_of_ble_eq_true rfl, Nat.le_of_ble_eq_true rfl⟩) ⟨fun a U g mk q => ⟨q.1, trivial⟩, fun U hU hW => ⟨rfl, trivial⟩⟩ rfl rfl hl.1 rfl (lv_room (Nat.le_of_ble_eq_true rfl)) dX3_first_19 ⟨Nat.zero_le _, Nat.zero_le _⟩)) (fun r_19 hr_19 => ?_)
    obtain rfl : r_19 = zb (wi k.toInt 1 10000) := hr_19.trans (by rw [i2l_toInt]; rfl)
    refine lv_if_ne (tgt := 29) hx hb dX3_first_22 (by decide) (fun c_22 => ?_) (fun c_22 => ?_)
    · have c_22 := zb_n.mp c_22
      obtain ⟨n1, h1, rfl, rfl, hn1, hn2, hh1, hh2⟩ := isHp_t c_10
      have hp2 : (2 : Nat) ^ n1 ≤ 2 ^ 20 := Nat.pow_le_pow_right (by decide) hn2
      obtain ⟨k1, hk1, hk2, rfl⟩ := nI_wi (a := 1) (b := 10000) c_22
      refine lv_aload_n hx hb dX3_first_29 rfl (lv_at hl 0 rfl) ?_
      refine lv_iload_n hx hb dX3_first_30 rfl (lv_at hl 1 rfl) ?_
      refine lv_iload_n hx hb dX3_first_31 rfl (lv_at hl 2 rfl) ?_
      refine lv_iload_n hx hb dX3_first_32 rfl (lv_at hl 3 rfl) ?_
      have hPc := hP.sub (ws' := [(h0, .inr (3, [.int 0, .long tr, .int pe, .ref a3, .ref a4, .ref a5, .int st, .int kd, .int wd, .ref a9, .int tn, .ref a11, .ref a12, .int sd, .ref a14, .ref a15, .ref a16])), (a14, .inl (cA, 20, .inl Rg))]) [0, 1] rfl
      have hDc := hD.sub (ws' := [(h0, .inr (3, [.int 0, .long tr, .int pe, .ref a3, .ref a4, .ref a5, .int st, .int kd, .int wd, .ref a9, .int tn, .ref a11, .ref a12, .int sd, .ref a14, .ref a15, .ref a16])), (a14, .inl (cA, 20, .inl Rg))]) [0, 1] (by decide) rfl
      have hFc := va_free (wc := [(h0, .inr (3, [.int 0, .long tr, .int pe, .ref a3, .ref a4, .ref a5, .int st, .int kd, .int wd, .ref a9, .int tn, .ref a11, .ref a12, .int sd, .ref a14, .ref a15, .ref a16])), (a14, .inl (cA, 20, .inl Rg))]) hD hS hA [0, 1] rfl
      refine va_calli (va_runV (As := [.int (nI n1), .int (nI h1), .int (nI k1)]) (rest := []) ⟨hx, hb, hml, hown, hts⟩ (c_X3_isFirst l dC dI H.size cA h0 a3 a4 a5 a9 a11 a12 a14 a15 a16 tr pe st kd wd tn sd n1 h1 k1 (by omega) hn2 (by omega) hk1 hk2 Rg) (cwV 3 hts gX3_first_X3_isFirst rfl rfl rfl (by decide +kernel) ⟨Nat.le_of_ble_eq_true rfl, Nat.le_of_ble_eq_true rfl⟩) ⟨fun a U g mk q => by obtain ⟨q0, q1, qP, qK, qD⟩ := q; exact ⟨q0, q1, qP, va_K.moved (u := U) (U := U.calling g mk a) (Vm.Alike.refl U.vm) qK, qD⟩, va_recv hK hP (ci := 3) (q0 := 0) rfl rfl, fun U hU hW => ⟨rfl, by rw [hU], by rw [hU]; exact hPc, va_K.moved hW.alike hK, hDc.weaken (fun _ _ _ _ => trivial)⟩⟩ rfl rfl hl.1 rfl (lv_room (Nat.le_of_ble_eq_true rfl)) dX3_first_33 ⟨Nat.zero_le _, Nat.zero_le _⟩) hS (fun q _ h => hFc q h) hFc (fun r_33 u_33 t_33 H1 locs ht_33 hvm_33 hw_33 hB_33 hz1 hk1 hS => ?_)
      obtain ⟨Rg3, rfl⟩ : ∃ z, z = u_33 := ⟨_, rfl⟩
      obtain ⟨hP1, hK1, hD1⟩ := hB_33
      rw [ht_33] at hP1
      obtain ⟨hP, hD⟩ := va_join (wr := []) (w1 := [(h0, .inr (3, [.int 0, .long tr, .int pe, .ref a3, .ref a4, .ref a5, .int st, .int kd, .int wd, .ref a9, .int tn, .ref a11, .ref a12, .int sd, .ref a14, .ref a15, .ref a16])), (a14, .inl (cA, 20, .inl Rg3))]) hP hD [0, 1] [] rfl rfl (by decide) (by decide) hk1 hFc hP1 hD1
      generalize H1 = H at hP hS ⊢
      have hP := hP.sub (ws' := [(h0, .inr (3, [.int 0, .long tr, .int pe, .ref a3, .ref a4, .ref a5, .int st, .int kd, .int wd, .ref a9, .int tn, .ref a11, .ref a12, .int sd, .ref a14, .ref a15, .ref a16])), (a14, .inl (cA, 20, .inl Rg3))]) [0, 1] rfl
      have hD := hD.sub (ws' := [(h0, .inr (3, [.int 0, .long tr, .int pe, .ref a3, .ref a4, .ref a5, .int st, .int kd, .int wd, .ref a9, .int tn, .ref a11, .ref a12, .int sd, .ref a14, .ref a15, .ref a16])), (a14, .inl (cA, 20, .inl Rg3))]) [0, 1] (by decide) rfl
      subst hw_33
      refine lv_if_eq (tgt := 43) hx hb dX3_first_36 (by decide) (fun c_36 => ?_) (fun c_36 => ?_)
      · have c_36 := zb_0.mp c_36
        refine lv_iconst (v := 0) hx hb dX3_first_43 (by decide) ?_
        have hP9 := hP.sub (ws' := [(h0, .inr (3, [.int 0, .long tr, .int pe, .ref a3, .ref a4, .ref a5, .int st, .int kd, .int wd, .ref a9, .int tn, .ref a11, .ref a12, .int sd, .ref a14, .ref a15, .ref a16])), (a14, .inl (cA, 20, .inl Rg3))]) [0, 1] rfl
        have hD9 := hD.sub (ws' := [(h0, .inr (3, [.int 0, .long tr, .int pe, .ref a3, .ref a4, .ref a5, .int st, .int kd, .int wd, .ref a9, .int tn, .ref a11, .ref a12, .int sd, .ref a14, .ref a15, .ref a16])), (a14, .inl (cA, 20, .inl Rg3))]) [0, 1] (by decide) rfl
        exact W.iret (v := 0) hx hb hr (fun t ht hW => ⟨⟨_, _, rfl, by first | (unfold spFirst; rw [c_10, c_22, Bool.true_and, if_pos rfl, nI_toInt (by omega), nI_toInt (by omega), nI_toInt (by omega), Int.toNat_natCast, Int.toNat_natCast, Int.toNat_natCast, c_36]; rfl) | (unfold spFirst; first | (rw [c_10, Bool.false_and, if_neg (by decide)]) | (rw [c_10, c_22, Bool.true_and, if_neg (by decide)])), ⟨by rw [ht]; exact hP9, va_K.moved hW.alike hK, hD9⟩⟩, hS.F ht⟩) hS.2.2 dX3_first_44
      · have c_36 := zb_n.mp c_36
        refine lv_iconst (v := 1) hx hb dX3_first_39 (by decide) ?_
        refine lv_goto (tgt := 44) hx hb dX3_first_40 (by decide) ?_
        have hP9 := hP.sub (ws' := [(h0, .inr (3, [.int 0, .long tr, .int pe, .ref a3, .ref a4, .ref a5, .int st, .int kd, .int wd, .ref a9, .int tn, .ref a11, .ref a12, .int sd, .ref a14, .ref a15, .ref a16])), (a14, .inl (cA, 20, .inl Rg3))]) [0, 1] rfl
        have hD9 := hD.sub (ws' := [(h0, .inr (3, [.int 0, .long tr, .int pe, .ref a3, .ref a4, .ref a5, .int st, .int kd, .int wd, .ref a9, .int tn, .ref a11, .ref a12, .int sd, .ref a14, .ref a15, .ref a16])), (a14, .inl (cA, 20, .inl Rg3))]) [0, 1] (by decide) rfl
        exact W.iret (v := 1) hx hb hr (fun t ht hW => ⟨⟨_, _, rfl, by first | (unfold spFirst; rw [c_10, c_22, Bool.true_and, if_pos rfl, nI_toInt (by omega), nI_toInt (by omega), nI_toInt (by omega), Int.toNat_natCast, Int.toNat_natCast, Int.toNat_natCast, c_36]; rfl) | (unfold spFirst; first | (rw [c_10, Bool.false_and, if_neg (by decide)]) | (rw [c_10, c_22, Bool.true_and, if_neg (by decide)])), ⟨by rw [ht]; exact hP9, va_K.moved hW.alike hK, hD9⟩⟩, hS.F ht⟩) hS.2.2 dX3_first_44
    · have c_22 := zb_0.mp c_22
      refine lv_iconst (v := (-1)) hx hb dX3_first_25 (by decide) ?_
      refine lv_goto (tgt := 44) hx hb dX3_first_26 (by decide) ?_
      have hP9 := hP.sub (ws' := [(h0, .inr (3, [.int 0, .long tr, .int pe, .ref a3, .ref a4, .ref a5, .int st, .int kd, .int wd, .ref a9, .int tn, .ref a11, .ref a12, .int sd, .ref a14, .ref a15, .ref a16])), (a14, .inl (cA, 20, .inl Rg))]) [0, 1] rfl
      have hD9 := hD.sub (ws' := [(h0, .inr (3, [.int 0, .long tr, .int pe, .ref a3, .ref a4, .ref a5, .int st, .int kd, .int wd, .ref a9, .int tn, .ref a11, .ref a12, .int sd, .ref a14, .ref a15, .ref a16])), (a14, .inl (cA, 20, .inl Rg))]) [0, 1] (by decide) rfl
      exact W.iret (v := (-1)) hx hb hr (fun t ht hW => ⟨⟨_, _, rfl, by first | (unfold spFirst; rw [c_10, c_22, Bool.true_and, if_pos rfl, nI_toInt (by omega), nI_toInt (by omega), nI_toInt (by omega), Int.toNat_natCast, Int.toNat_natCast, Int.toNat_natCast, c_36]; rfl) | (unfold spFirst; first | (rw [c_10, Bool.false_and, if_neg (by decide)]) | (rw [c_10, c_22, Bool.true_and, if_neg (by decide)])), ⟨by rw [ht]; exact hP9, va_K.moved hW.alike hK, hD9⟩⟩, hS.F ht⟩) hS.2.2 dX3_first_44

set_option maxHeartbeats 4000000 in
set_option maxRecDepth 100000 in
theorem c_X3_least (l : Launch) (dC : Nat → ClassId) (dI : Nat → Nat → Nat) (sz : Nat) (cA : ClassId) (h0 a3 a4 a5 a9 a11 a12 a14 a15 a16 : Nat) (tr : Int64) (pe st kd wd tn sd : Int32) (n h : Int32) (Rg : Nat → Int32) : Met l yX3_least wsX3_least ({ frames := 2, cells := 0, slots := 0, locals := 46 }) (va_Pc [.ref h0, .int n, .int h] (fun U => U.heap.size = sz ∧ va_P (dC, dI) vwCl [(h0, .inr (3, [.int 0, .long tr, .int pe, .ref a3, .ref a4, .ref a5, .int st, .int kd, .int wd, .ref a9, .int tn, .ref a11, .ref a12, .int sd, .ref a14, .ref a15, .ref a16])), (a14, .inl (cA, 20, .inl Rg))] U.heap ∧ va_K (dC, dI) vwCl [(cA, .int)] U ∧ va_D (fun _ => True) [(h0, .inr (3, [.int 0, .long tr, .int pe, .ref a3, .ref a4, .ref a5, .int st, .int kd, .int wd, .ref a9, .int tn, .ref a11, .ref a12, .int sd, .ref a14, .ref a15, .ref a16])), (a14, .inl (cA, 20, .inl Rg))])) (va_Qi (S := Nat → Int32) (fun r _ => r = spLeast n h) (fun (u : Nat → Int32) (t : State) => va_P (dC, dI) vwCl [(h0, .inr (3, [.int 0, .long tr, .int pe, .ref a3, .ref a4, .ref a5, .int st, .int kd, .int wd, .ref a9, .int tn, .ref a11, .ref a12, .int sd, .ref a14, .ref a15, .ref a16])), (a14, .inl (cA, 20, .inl u))] t.heap ∧ va_K (dC, dI) vwCl [(cA, .int)] t ∧ va_D (va_A [(h0, .inr (3, [.int 0, .long tr, .int pe, .ref a3, .ref a4, .ref a5, .int st, .int kd, .int wd, .ref a9, .int tn, .ref a11, .ref a12, .int sd, .ref a14, .ref a15, .ref a16])), (a14, .inl (cA, 20, .inl Rg))] sz) [(h0, .inr (3, [.int 0, .long tr, .int pe, .ref a3, .ref a4, .ref a5, .int st, .int kd, .int wd, .ref a9, .int tn, .ref a11, .ref a12, .int sd, .ref a14, .ref a15, .ref a16])), (a14, .inl (cA, 20, .inl u))]) (va_A [(h0, .inr (3, [.int 0, .long tr, .int pe, .ref a3, .ref a4, .ref a5, .int st, .int kd, .int wd, .ref a9, .int tn, .ref a11, .ref a12, .int sd, .ref a14, .ref a15, .ref a16])), (a14, .inl (cA, 20, .inl Rg))] sz)) 0 0 (va_A [(h0, .inr (3, [.int 0, .long tr, .int pe, .ref a3, .ref a4, .ref a5, .int st, .int kd, .int wd, .ref a9, .int tn, .ref a11, .ref a12, .int sd, .ref a14, .ref a15, .ref a16])), (a14, .inl (cA, 20, .inl Rg))] sz) := by
  refine Met.ofW (cc := cX3_least) (maxL := 4) (ret := (some .int)) (by decide) rfl ?_
  intro p e s m args below meth c s₁ B hml hv
  obtain ⟨rfl, hsz, hP, hK, hD0⟩ := hv
  have hx := B.exec
  have hb := B.bytes
  have hr := B.returns
  have hts := atoms_spec (ws := wsX3_least) B.pre
  have hown : s.vm.findClass RX3 = some m.cls := findClass_of_methodNamed B.named
  have hlocks := B.notSynchronized
  subst hsz
  have hD := hD0.self (sz := s.heap.size)
  generalize hAe : va_A [(h0, .inr (3, [.int 0, .long tr, .int pe, .ref a3, .ref a4, .ref a5, .int st, .int kd, .int wd, .ref a9, .int tn, .ref a11, .ref a12, .int sd, .ref a14, .ref a15, .ref a16])), (a14, .inl (cA, 20, .inl Rg))] s.heap.size = A at hD ⊢
  have hA : ∀ q : Nat, s.heap.size ≤ q → A q := fun q h => by rw [← hAe]; exact Or.inr h
  have hS : va_S A s.heap s.heap [] := va_S.rf
  have hP : va_P (dC, dI) vwCl [(h0, .inr (3, [.int 0, .long tr, .int pe, .ref a3, .ref a4, .ref a5, .int st, .int kd, .int wd, .ref a9, .int tn, .ref a11, .ref a12, .int sd, .ref a14, .ref a15, .ref a16])), (a14, .inl (cA, 20, .inl Rg))] s.heap := hP
  have hl := lv_entry ([.ref h0, .int n, .int h]) (n := 4) (Nat.le_of_ble_eq_true rfl)
  rw [lg_entry_eq]
  generalize (lg_sl ([.ref h0, .int n, .int h]) ++ List.replicate (4 - (lg_sl ([.ref h0, .int n, .int h])).length) Slot.unset).toArray = ls at hl ⊢
  have hl : lv_has ls 4 [(0, .ref h0), (1, .int n), (2, .int h)] := hl
  refine lv_aload_n hx hb dX3_least_0 rfl (lv_at hl 0 rfl) ?_
  refine lv_iconst (v := 0) hx hb dX3_least_1 (by decide) ?_
  refine va_put (D := (dC, dI)) (ci := 3) (v := .int 0) (ty := .int) (C := RX3) (T := TX3) (N := 17) hx hb hts (by decide +kernel) tyX3 tyX3_ok nmX3 hown hK hP hD hS 0 rfl rfl 0 (by decide) (hts (.fieldLink RX3 51 "CountedOutModel" "thrown" "I") (by decide +kernel)) (fun _ h9 => h9) rfl (by decide +kernel) rfl rfl (Nat.le_of_ble_eq_true rfl) dX3_least_2 (fun H locs hP hD hS => ?_)
  have hP : va_P (dC, dI) vwCl [(h0, .inr (3, [.int 0, .long tr, .int pe, .ref a3, .ref a4, .ref a5, .int st, .int kd, .int wd, .ref a9, .int tn, .ref a11, .ref a12, .int sd, .ref a14, .ref a15, .ref a16])), (a14, .inl (cA, 20, .inl Rg))] H := hP
  have hD : va_D A [(h0, .inr (3, [.int 0, .long tr, .int pe, .ref a3, .ref a4, .ref a5, .int st, .int kd, .int wd, .ref a9, .int tn, .ref a11, .ref a12, .int sd, .ref a14, .ref a15, .ref a16])), (a14, .inl (cA, 20, .inl Rg))] := hD
  refine lv_iload_n hx hb dX3_least_5 rfl (lv_at hl 1 rfl) ?_
  refine lv_iload_n hx hb dX3_least_6 rfl (lv_at hl 2 rfl) ?_
  refine vp_callSi (va_Run.run (va_runS (As := [.int n, .int h]) (rest := []) ⟨hx, hb, hml, hown, hts⟩ (c_X3_isHeap l dC dI n h) (va_cwS 2 hts gX3_least_X3_isHeap rfl rfl rfl (by decide +kernel) ⟨Nat.le_of_ble_eq_true rfl, Nat.le_of_ble_eq_true rfl⟩) ⟨fun a U g mk q => ⟨q.1, trivial⟩, fun U hU hW => ⟨rfl, trivial⟩⟩ rfl rfl hl.1 rfl (lv_room (Nat.le_of_ble_eq_true rfl)) dX3_least_7 ⟨Nat.zero_le _, Nat.zero_le _⟩)) (fun r_7 hr_7 => ?_)
  subst hr_7
  refine lv_if_ne (tgt := 15) hx hb dX3_least_10 (by decide) (fun c_10 => ?_) (fun c_10 => ?_)
  · have c_10 := zb_n.mp c_10
    obtain ⟨n1, h1, rfl, rfl, hn1, hn2, hh1, hh2⟩ := isHp_t c_10
    have hp2 : (2 : Nat) ^ n1 ≤ 2 ^ 20 := Nat.pow_le_pow_right (by decide) hn2
    refine lv_iconst (v := 1) hx hb dX3_least_15 (by decide) ?_
    refine lv_istore_n (lv' := [(3, .int 1), (0, .ref h0), (1, .int (nI n1)), (2, .int (nI h1))]) hx hb dX3_least_16 rfl hl (by decide) rfl (fun ls hl => ?_)
    refine W_loop (σ := Nat × (Nat → Int32)) (fun xx ls H locs => match xx with | (c0, Rg) => lv_has ls 4 [(0, .ref h0), (1, .int (nI n1)), (2, .int (nI h1)), (3, .int (nI c0))] ∧ va_P (dC, dI) vwCl [(h0, .inr (3, [.int 0, .long tr, .int pe, .ref a3, .ref a4, .ref a5, .int st, .int kd, .int wd, .ref a9, .int tn, .ref a11, .ref a12, .int sd, .ref a14, .ref a15, .ref a16])), (a14, .inl (cA, 20, .inl Rg))] H ∧ va_D A [(h0, .inr (3, [.int 0, .long tr, .int pe, .ref a3, .ref a4, .ref a5, .int st, .int kd, .int wd, .ref a9, .int tn, .ref a11, .ref a12, .int sd, .ref a14, .ref a15, .ref a16])), (a14, .inl (cA, 20, .inl Rg))] ∧ va_S A s.heap H locs ∧ 1 ≤ c0 ∧ c0 ≤ 10001 ∧ lstN n1 h1 (10001 - c0) c0 = lstN n1 h1 10000 1) (fun xx => match xx with | (c0, Rg) => 10001 - c0) ?_ (1, Rg) ⟨lv_sub hl [1, 2, 3, 0] rfl, hP, hD, hS, by omega, by omega, rfl⟩
    rintro ⟨c0, Rg⟩ ls H locs ⟨hl, hP, hD, hS, hc1, hc2, hg⟩ ih_17
    refine lv_iload_n hx hb dX3_least_17 rfl (lv_at hl 3 rfl) ?_
    refine lv_sipush (v := 10000) hx hb dX3_least_18 (by decide) ?_
    refine lv_icmp_gt (tgt := 42) hx hb dX3_least_21 (by decide) (fun c_21 => ?_) (fun c_21 => ?_)
    · have c_21 : 10000 < c0 := (nI_ltI (a := 10000) (by omega) (by omega)).mp c_21
      refine lv_bipush (v := (-9)) hx hb dX3_least_42 (by decide) ?_
      have hP9 := hP.sub (ws' := [(h0, .inr (3, [.int 0, .long tr, .int pe, .ref a3, .ref a4, .ref a5, .int st, .int kd, .int wd, .ref a9, .int tn, .ref a11, .ref a12, .int sd, .ref a14, .ref a15, .ref a16])), (a14, .inl (cA, 20, .inl Rg))]) [0, 1] rfl
      have hD9 := hD.sub (ws' := [(h0, .inr (3, [.int 0, .long tr, .int pe, .ref a3, .ref a4, .ref a5, .int st, .int kd, .int wd, .ref a9, .int tn, .ref a11, .ref a12, .int sd, .ref a14, .ref a15, .ref a16])), (a14, .inl (cA, 20, .inl Rg))]) [0, 1] (by decide) rfl
      exact W.iret (v := (-9)) hx hb hr (fun t ht hW => ⟨⟨_, _, rfl, by unfold spLeast; rw [c_10, if_pos rfl, nI_toInt (by omega), nI_toInt (by omega), Int.toNat_natCast, Int.toNat_natCast, ← hg]; rw [show 10001 - c0 = 0 by omega]; rfl, ⟨by rw [ht]; exact hP9, va_K.moved hW.alike hK, hD9⟩⟩, hS.F ht⟩) hS.2.2 dX3_least_44
    · have c_21 : c0 ≤ 10000 := Nat.le_of_not_lt (fun h => c_21 ((nI_ltI (a := 10000) (by omega) (by omega)).mpr h))
      obtain ⟨f, hf⟩ : ∃ f, 10001 - c0 = f + 1 := ⟨10000 - c0, by omega⟩
      refine lv_aload_n hx hb dX3_least_24 rfl (lv_at hl 0 rfl) ?_
      refine lv_iload_n hx hb dX3_least_25 rfl (lv_at hl 1 rfl) ?_
      refine lv_iload_n hx hb dX3_least_26 rfl (lv_at hl 2 rfl) ?_
      refine lv_iload_n hx hb dX3_least_27 rfl (lv_at hl 3 rfl) ?_
      have hPc := hP.sub (ws' := [(h0, .inr (3, [.int 0, .long tr, .int pe, .ref a3, .ref a4, .ref a5, .int st, .int kd, .int wd, .ref a9, .int tn, .ref a11, .ref a12, .int sd, .ref a14, .ref a15, .ref a16])), (a14, .inl (cA, 20, .inl Rg))]) [0, 1] rfl
      have hDc := hD.sub (ws' := [(h0, .inr (3, [.int 0, .long tr, .int pe, .ref a3, .ref a4, .ref a5, .int st, .int kd, .int wd, .ref a9, .int tn, .ref a11, .ref a12, .int sd, .ref a14, .ref a15, .ref a16])), (a14, .inl (cA, 20, .inl Rg))]) [0, 1] (by decide) rfl
      have hFc := va_free (wc := [(h0, .inr (3, [.int 0, .long tr, .int pe, .ref a3, .ref a4, .ref a5, .int st, .int kd, .int wd, .ref a9, .int tn, .ref a11, .ref a12, .int sd, .ref a14, .ref a15, .ref a16])), (a14, .inl (cA, 20, .inl Rg))]) hD hS hA [0, 1] rfl
      refine va_calli (va_runV (As := [.int (nI n1), .int (nI h1), .int (nI c0)]) (rest := []) ⟨hx, hb, hml, hown, hts⟩ (c_X3_isFirst l dC dI H.size cA h0 a3 a4 a5 a9 a11 a12 a14 a15 a16 tr pe st kd wd tn sd n1 h1 c0 (by omega) hn2 (by omega) hc1 (by omega) Rg) (cwV 3 hts gX3_least_X3_isFirst rfl rfl rfl (by decide +kernel) ⟨Nat.le_of_ble_eq_true rfl, Nat.le_of_ble_eq_true rfl⟩) ⟨fun a U g mk q => by obtain ⟨q0, q1, qP, qK, qD⟩ := q; exact ⟨q0, q1, qP, va_K.moved (u := U) (U := U.calling g mk a) (Vm.Alike.refl U.vm) qK, qD⟩, va_recv hK hP (ci := 3) (q0 := 0) rfl rfl, fun U hU hW => ⟨rfl, by rw [hU], by rw [hU]; exact hPc, va_K.moved hW.alike hK, hDc.weaken (fun _ _ _ _ => trivial)⟩⟩ rfl rfl hl.1 rfl (lv_room (Nat.le_of_ble_eq_true rfl)) dX3_least_28 ⟨Nat.zero_le _, Nat.zero_le _⟩) hS (fun q _ h => hFc q h) hFc (fun r_28 u_28 t_28 H1 locs ht_28 hvm_28 hw_28 hB_28 hz1 hk1 hS => ?_)
      obtain ⟨Rg3, rfl⟩ : ∃ z, z = u_28 := ⟨_, rfl⟩
      obtain ⟨hP1, hK1, hD1⟩ := hB_28
      rw [ht_28] at hP1
      obtain ⟨hP, hD⟩ := va_join (wr := []) (w1 := [(h0, .inr (3, [.int 0, .long tr, .int pe, .ref a3, .ref a4, .ref a5, .int st, .int kd, .int wd, .ref a9, .int tn, .ref a11, .ref a12, .int sd, .ref a14, .ref a15, .ref a16])), (a14, .inl (cA, 20, .inl Rg3))]) hP hD [0, 1] [] rfl rfl (by decide) (by decide) hk1 hFc hP1 hD1
      generalize H1 = H at hP hS ⊢
      have hP := hP.sub (ws' := [(h0, .inr (3, [.int 0, .long tr, .int pe, .ref a3, .ref a4, .ref a5, .int st, .int kd, .int wd, .ref a9, .int tn, .ref a11, .ref a12, .int sd, .ref a14, .ref a15, .ref a16])), (a14, .inl (cA, 20, .inl Rg3))]) [0, 1] rfl
      have hD := hD.sub (ws' := [(h0, .inr (3, [.int 0, .long tr, .int pe, .ref a3, .ref a4, .ref a5, .int st, .int kd, .int wd, .ref a9, .int tn, .ref a11, .ref a12, .int sd, .ref a14, .ref a15, .ref a16])), (a14, .inl (cA, 20, .inl Rg3))]) [0, 1] (by decide) rfl
      subst hw_28
      refine lv_if_eq (tgt := 36) hx hb dX3_least_31 (by decide) (fun c_31 => ?_) (fun c_31 => ?_)
      · have c_31 := zb_0.mp c_31
        refine lv_iinc (v := nI (c0 + 1)) (lv' := [(3, .int (nI (c0 + 1))), (0, .ref h0), (1, .int (nI n1)), (2, .int (nI h1))]) hx hb dX3_least_36 hl (k := 3) rfl (nI_1 c0) (by decide) rfl (fun ls hl => ?_)
        refine lv_goto (tgt := 17) hx hb dX3_least_39 (by decide) ?_
        exact ih_17 (c0 + 1, Rg3) _ _ _ (by show 10001 - (c0 + 1) < 10001 - c0; omega) ⟨lv_sub hl [1, 2, 3, 0] rfl, hP, hD, hS, by omega, by omega, by rw [← hg, hf, show 10001 - (c0 + 1) = f by omega]; simp [lstN, c_31]⟩
      · have c_31 := zb_n.mp c_31
        refine lv_iload_n hx hb dX3_least_34 rfl (lv_at hl 3 rfl) ?_
        have hP9 := hP.sub (ws' := [(h0, .inr (3, [.int 0, .long tr, .int pe, .ref a3, .ref a4, .ref a5, .int st, .int kd, .int wd, .ref a9, .int tn, .ref a11, .ref a12, .int sd, .ref a14, .ref a15, .ref a16])), (a14, .inl (cA, 20, .inl Rg3))]) [0, 1] rfl
        have hD9 := hD.sub (ws' := [(h0, .inr (3, [.int 0, .long tr, .int pe, .ref a3, .ref a4, .ref a5, .int st, .int kd, .int wd, .ref a9, .int tn, .ref a11, .ref a12, .int sd, .ref a14, .ref a15, .ref a16])), (a14, .inl (cA, 20, .inl Rg3))]) [0, 1] (by decide) rfl
        exact W.iret (v := nI c0) hx hb hr (fun t ht hW => ⟨⟨_, _, rfl, by unfold spLeast; rw [c_10, if_pos rfl, nI_toInt (by omega), nI_toInt (by omega), Int.toNat_natCast, Int.toNat_natCast, ← hg]; rw [hf]; simp [lstN, c_31], ⟨by rw [ht]; exact hP9, va_K.moved hW.alike hK, hD9⟩⟩, hS.F ht⟩) hS.2.2 dX3_least_35
  · have c_10 := zb_0.mp c_10
    refine lv_iconst (v := (-1)) hx hb dX3_least_13 (by decide) ?_
    have hP9 := hP.sub (ws' := [(h0, .inr (3, [.int 0, .long tr, .int pe, .ref a3, .ref a4, .ref a5, .int st, .int kd, .int wd, .ref a9, .int tn, .ref a11, .ref a12, .int sd, .ref a14, .ref a15, .ref a16])), (a14, .inl (cA, 20, .inl Rg))]) [0, 1] rfl
    have hD9 := hD.sub (ws' := [(h0, .inr (3, [.int 0, .long tr, .int pe, .ref a3, .ref a4, .ref a5, .int st, .int kd, .int wd, .ref a9, .int tn, .ref a11, .ref a12, .int sd, .ref a14, .ref a15, .ref a16])), (a14, .inl (cA, 20, .inl Rg))]) [0, 1] (by decide) rfl
    exact W.iret (v := (-1)) hx hb hr (fun t ht hW => ⟨⟨_, _, rfl, by unfold spLeast; rw [c_10, if_neg (by decide)], ⟨by rw [ht]; exact hP9, va_K.moved hW.alike hK, hD9⟩⟩, hS.F ht⟩) hS.2.2 dX3_least_14
end
section
theorem tb_n1 {b a : Nat} (h : ¬ nI (b / 2 ^ a % 2) = 1) : b.testBit a = false := by
  cases hq : b.testBit a with
  | true => exact absurd (bit_1.mpr hq) h
  | false => rfl
theorem tb_n0 {b a : Nat} (h : ¬ nI (b / 2 ^ a % 2) = 0) : b.testBit a = true := by
  cases hq : b.testBit a with
  | false => exact absurd (bit_0.mpr hq) h
  | true => rfl
theorem canK_0 {n own foe : Nat} : canK n own foe 0 = 1 := by unfold canK; split <;> rfl
theorem sTo_int {p a m : Nat} (h : a ≤ p + m) : nI p - nI a + nI m = nI (p + m - a) := by
  rw [Int32.sub_eq_add_neg, Int32.add_assoc, Int32.add_comm (-nI a), ← Int32.add_assoc, ← Int32.sub_eq_add_neg, nI_add, pk_sub h]
theorem zb_or (a b : Bool) : zb a ||| zb b = zb (a || b) := by cases a <;> cases b <;> decide
theorem zb_and (a b : Bool) : zb a &&& zb b = zb (a && b) := by cases a <;> cases b <;> decide
set_option maxHeartbeats 4000000 in
set_option maxRecDepth 100000 in
theorem c_X2_isChosenSet (l : Launch) (dC : Nat → ClassId) (dI : Nat → Nat → Nat) (v : Int32) : Met l yX2_isChosenSet wsX2_isChosenSet ({ frames := 1, cells := 0, slots := 0, locals := 25 }) (va_Pc [.int v] (fun _ => True)) (vp_Si (fun r => r = zb (wi v.toInt 1 63))) 0 0 (fun _ => False) := by
  refine Met.ofW (cc := cX2_isChosenSet) (maxL := 1) (ret := (some .boolean)) (by decide) rfl ?_
  intro p e s m args below meth c s₁ B hml hv
  obtain ⟨rfl, -⟩ := hv
  have hx := B.exec
  have hb := B.bytes
  have hr := B.returns
  have hts := atoms_spec (ws := wsX2_isChosenSet) B.pre
  have hown : s.vm.findClass RX2 = some m.cls := findClass_of_methodNamed B.named
  have hlocks := B.notSynchronized
  have hl := lv_entry ([.int v]) (n := 1) (Nat.le_of_ble_eq_true rfl)
  rw [lg_entry_eq]
  generalize (lg_sl ([.int v]) ++ List.replicate (1 - (lg_sl ([.int v])).length) Slot.unset).toArray = ls at hl ⊢
  have hl : lv_has ls 1 [(0, .int v)] := hl
  refine lv_iload_n hx hb dX2_isChosenSet_0 rfl (lv_at hl 0 rfl) ?_
  refine lv_i2l (v := v.toInt64) hx hb dX2_isChosenSet_1 rfl ?_
  refine lv_lconst (v := 1) hx hb dX2_isChosenSet_2 (by decide) ?_
  refine lv_ldc2 (v := 63) hx hb hown (hts (.constantLong RX2 161 (63)) (by decide +kernel)) dX2_isChosenSet_3 ?_
  refine vp_callSi (va_Run.run (va_runS (As := [.long v.toInt64, .long 1, .long 63]) (rest := []) ⟨hx, hb, hml, hown, hts⟩ (c_X2_isWithin l dC dI v.toInt64 1 63) (va_cwS 3 hts gX2_isChosenSet_X2_isWithin rfl rfl rfl (by decide +kernel) ⟨Nat.le_of_ble_eq_true rfl, Nat.le_of_ble_eq_true rfl⟩) ⟨fun a U g mk q => ⟨q.1, trivial⟩, fun U hU hW => ⟨rfl, trivial⟩⟩ rfl rfl hl.1 rfl (lv_room (Nat.le_of_ble_eq_true rfl)) dX2_isChosenSet_6 ⟨Nat.zero_le _, Nat.zero_le _⟩)) (fun r_6 hr_6 => ?_)
  obtain rfl : r_6 = zb (wi v.toInt 1 63) := hr_6.trans (by rw [i2l_toInt]; rfl)
  exact W.zret (v := zb (wi v.toInt 1 63)) hx hb hr (narrow_zb _) (fun t ht hW => ⟨_, rfl, rfl, ht⟩) (fun _ h => absurd h List.not_mem_nil) dX2_isChosenSet_9

set_option maxHeartbeats 4000000 in
set_option maxRecDepth 100000 in
theorem c_X3_isSet (l : Launch) (dC : Nat → ClassId) (dI : Nat → Nat → Nat) (v : Int32) : Met l yX3_isSet wsX3_isSet ({ frames := 1, cells := 0, slots := 0, locals := 25 }) (va_Pc [.int v] (fun _ => True)) (vp_Si (fun r => r = zb (wi v.toInt 1 63))) 0 0 (fun _ => False) := by
  refine Met.ofW (cc := cX3_isSet) (maxL := 1) (ret := (some .boolean)) (by decide) rfl ?_
  intro p e s m args below meth c s₁ B hml hv
  obtain ⟨rfl, -⟩ := hv
  have hx := B.exec
  have hb := B.bytes
  have hr := B.returns
  have hts := atoms_spec (ws := wsX3_isSet) B.pre
  have hown : s.vm.findClass RX3 = some m.cls := findClass_of_methodNamed B.named
  have hlocks := B.notSynchronized
  have hl := lv_entry ([.int v]) (n := 1) (Nat.le_of_ble_eq_true rfl)
  rw [lg_entry_eq]
  generalize (lg_sl ([.int v]) ++ List.replicate (1 - (lg_sl ([.int v])).length) Slot.unset).toArray = ls at hl ⊢
  have hl : lv_has ls 1 [(0, .int v)] := hl
  refine lv_iload_n hx hb dX3_isSet_0 rfl (lv_at hl 0 rfl) ?_
  refine lv_i2l (v := v.toInt64) hx hb dX3_isSet_1 rfl ?_
  refine lv_lconst (v := 1) hx hb dX3_isSet_2 (by decide) ?_
  refine lv_ldc2 (v := 63) hx hb hown (hts (.constantLong RX3 137 (63)) (by decide +kernel)) dX3_isSet_3 ?_
  refine vp_callSi (va_Run.run (va_runS (As := [.long v.toInt64, .long 1, .long 63]) (rest := []) ⟨hx, hb, hml, hown, hts⟩ (c_X3_in l dC dI v.toInt64 1 63) (va_cwS 3 hts gX3_isSet_X3_in rfl rfl rfl (by decide +kernel) ⟨Nat.le_of_ble_eq_true rfl, Nat.le_of_ble_eq_true rfl⟩) ⟨fun a U g mk q => ⟨q.1, trivial⟩, fun U hU hW => ⟨rfl, trivial⟩⟩ rfl rfl hl.1 rfl (lv_room (Nat.le_of_ble_eq_true rfl)) dX3_isSet_6 ⟨Nat.zero_le _, Nat.zero_le _⟩)) (fun r_6 hr_6 => ?_)
  obtain rfl : r_6 = zb (wi v.toInt 1 63) := hr_6.trans (by rw [i2l_toInt]; rfl)
  exact W.zret (v := zb (wi v.toInt 1 63)) hx hb hr (narrow_zb _) (fun t ht hW => ⟨_, rfl, rfl, ht⟩) (fun _ h => absurd h List.not_mem_nil) dX3_isSet_9

set_option maxHeartbeats 4000000 in
set_option maxRecDepth 100000 in
theorem c_X2_isChosen (l : Launch) (dC : Nat → ClassId) (dI : Nat → Nat → Nat) (set c0 : Nat) (hs : set < 64) (hc : c0 < 6) : Met l yX2_isChosen wsX2_isChosen ({ frames := 0, cells := 0, slots := 0, locals := 0 }) (va_Pc [.int (nI set), .int (nI (c0 + 1))] (fun _ => True)) (vp_Si (fun r => r = zb (set.testBit c0))) 0 0 (fun _ => False) := by
  refine Met.ofW (cc := cX2_isChosen) (maxL := 2) (ret := (some .boolean)) (by decide) rfl ?_
  intro p e s m args below meth c s₁ B hml hv
  obtain ⟨rfl, -⟩ := hv
  have hx := B.exec
  have hb := B.bytes
  have hr := B.returns
  have hts := atoms_spec (ws := wsX2_isChosen) B.pre
  have hown : s.vm.findClass RX2 = some m.cls := findClass_of_methodNamed B.named
  have hlocks := B.notSynchronized
  have hl := lv_entry ([.int (nI set), .int (nI (c0 + 1))]) (n := 2) (Nat.le_of_ble_eq_true rfl)
  rw [lg_entry_eq]
  generalize (lg_sl ([.int (nI set), .int (nI (c0 + 1))]) ++ List.replicate (2 - (lg_sl ([.int (nI set), .int (nI (c0 + 1))])).length) Slot.unset).toArray = ls at hl ⊢
  have hl : lv_has ls 2 [(0, .int (nI set)), (1, .int (nI (c0 + 1)))] := hl
  refine lv_iload_n hx hb dX2_isChosen_0 rfl (lv_at hl 0 rfl) ?_
  refine lv_iload_n hx hb dX2_isChosen_1 rfl (lv_at hl 1 rfl) ?_
  refine lv_iconst (v := 1) hx hb dX2_isChosen_2 (by decide) ?_
  refine lv_isub hx hb dX2_isChosen_3 ?_
  refine z_i (y := nI c0) (nI_pred c0) ?_
  refine lv_ishr hx hb dX2_isChosen_4 ?_
  refine z_i (y := nI (set / 2 ^ c0)) (shr_nI (by omega) (by omega)) ?_
  refine lv_iconst (v := 1) hx hb dX2_isChosen_5 (by decide) ?_
  refine lv_iand hx hb dX2_isChosen_6 ?_
  refine z_i (y := nI (set / 2 ^ c0 % 2)) (bit_nI _ _) ?_
  refine lv_iconst (v := 1) hx hb dX2_isChosen_7 (by decide) ?_
  refine lv_icmp_ne (tgt := 15) hx hb dX2_isChosen_8 (by decide) (fun c_8 => ?_) (fun c_8 => ?_)
  · have c_8 := tb_n1 c_8
    refine lv_iconst (v := 0) hx hb dX2_isChosen_15 (by decide) ?_
    exact W.zret (v := 0) hx hb hr (rfl) (fun t ht hW => ⟨_, rfl, by rw [c_8]; rfl, ht⟩) (fun _ h => absurd h List.not_mem_nil) dX2_isChosen_16
  · have c_8 := bit_1.mp c_8
    refine lv_iconst (v := 1) hx hb dX2_isChosen_11 (by decide) ?_
    refine lv_goto (tgt := 16) hx hb dX2_isChosen_12 (by decide) ?_
    exact W.zret (v := 1) hx hb hr (rfl) (fun t ht hW => ⟨_, rfl, by rw [c_8]; rfl, ht⟩) (fun _ h => absurd h List.not_mem_nil) dX2_isChosen_16

set_option maxHeartbeats 4000000 in
set_option maxRecDepth 100000 in
theorem c_X2_stayingBehind (l : Launch) (dC : Nat → ClassId) (dI : Nat → Nat → Nat) (m0 c0 b : Nat) (hm1 : 1 ≤ m0) (hm : m0 ≤ 12) (hc : c0 ≤ 6) (hbb : b < 4096) : Met l yX2_stayingBehind wsX2_stayingBehind ({ frames := 0, cells := 0, slots := 0, locals := 0 }) (va_Pc [.int (nI m0), .int (nI c0), .int (nI b)] (fun _ => True)) (vp_Si (fun r => r = nI (sBh m0 c0 b))) 0 0 (fun _ => False) := by
  refine Met.ofW (cc := cX2_stayingBehind) (maxL := 5) (ret := (some .int)) (by decide) rfl ?_
  intro p e s m args below meth c s₁ B hml hv
  obtain ⟨rfl, -⟩ := hv
  have hx := B.exec
  have hb := B.bytes
  have hr := B.returns
  have hts := atoms_spec (ws := wsX2_stayingBehind) B.pre
  have hown : s.vm.findClass RX2 = some m.cls := findClass_of_methodNamed B.named
  have hlocks := B.notSynchronized
  have hl := lv_entry ([.int (nI m0), .int (nI c0), .int (nI b)]) (n := 5) (Nat.le_of_ble_eq_true rfl)
  rw [lg_entry_eq]
  generalize (lg_sl ([.int (nI m0), .int (nI c0), .int (nI b)]) ++ List.replicate (5 - (lg_sl ([.int (nI m0), .int (nI c0), .int (nI b)])).length) Slot.unset).toArray = ls at hl ⊢
  have hl : lv_has ls 5 [(0, .int (nI m0)), (1, .int (nI c0)), (2, .int (nI b))] := hl
  have hcm : c0 % m0 ≤ 6 := Nat.le_trans (Nat.mod_le _ _) hc
  have hpw : (2 : Nat) ^ (c0 % m0) ≤ 2 ^ 6 := Nat.pow_le_pow_right (by decide) hcm
  have hmv : b * 2 ^ (c0 % m0) ≤ 4095 * 2 ^ 6 := Nat.mul_le_mul (by omega) hpw
  refine lv_iload_n hx hb dX2_stayingBehind_0 rfl (lv_at hl 0 rfl) ?_
  refine lv_iconst (v := 1) hx hb dX2_stayingBehind_1 (by decide) ?_
  refine lv_icmp_ge (tgt := 7) hx hb dX2_stayingBehind_2 (by decide) (fun c_2 => ?_) (fun c_2 => ?_)
  · refine lv_iload_n hx hb dX2_stayingBehind_7 rfl (lv_at hl 1 rfl) ?_
    refine lv_iload_n hx hb dX2_stayingBehind_8 rfl (lv_at hl 0 rfl) ?_
    refine lv_irem hx hb dX2_stayingBehind_9 (nI_ne0 (by omega) (by omega)) ?_
    refine z_i (y := nI (c0 % m0)) (pk_rem (by omega) (by omega) (by omega)) ?_
    refine lv_istore_n (lv' := [(3, .int (nI (c0 % m0))), (0, .int (nI m0)), (1, .int (nI c0)), (2, .int (nI b))]) hx hb dX2_stayingBehind_10 rfl hl (by decide) rfl (fun ls hl => ?_)
    refine lv_iload_n hx hb dX2_stayingBehind_11 rfl (lv_at hl 3 rfl) ?_
    refine lv_iload_n hx hb dX2_stayingBehind_12 rfl (lv_at hl 0 rfl) ?_
    refine lv_ishl hx hb dX2_stayingBehind_13 ?_
    refine z_i (y := nI (b * 2 ^ (c0 % m0))) (shl_nI (by omega) (by omega)) ?_
    refine lv_istore (lv' := [(4, .int (nI (b * 2 ^ (c0 % m0)))), (3, .int (nI (c0 % m0))), (0, .int (nI m0)), (1, .int (nI c0)), (2, .int (nI b))]) hx hb dX2_stayingBehind_14 hl (by decide) rfl (fun ls hl => ?_)
    refine lv_iload hx hb dX2_stayingBehind_16 (lv_at hl 0 rfl) ?_
    refine lv_iload hx hb dX2_stayingBehind_18 (lv_at hl 0 rfl) ?_
    refine lv_iload_n hx hb dX2_stayingBehind_20 rfl (lv_at hl 2 rfl) ?_
    refine lv_ishr hx hb dX2_stayingBehind_21 ?_
    refine z_i (y := nI (b * 2 ^ (c0 % m0) / 2 ^ m0)) (shr_nI (by omega) (by omega)) ?_
    refine lv_ior hx hb dX2_stayingBehind_22 ?_
    refine z_i (y := nI (b * 2 ^ (c0 % m0) ||| b * 2 ^ (c0 % m0) / 2 ^ m0)) (fa_or _ _) ?_
    refine lv_iconst (v := 1) hx hb dX2_stayingBehind_23 (by decide) ?_
    refine lv_iload_n hx hb dX2_stayingBehind_24 rfl (lv_at hl 2 rfl) ?_
    refine lv_ishl hx hb dX2_stayingBehind_25 ?_
    refine z_i (y := nI (2 ^ m0)) (sh1 (by omega)) ?_
    refine lv_iconst (v := 1) hx hb dX2_stayingBehind_26 (by decide) ?_
    refine lv_isub hx hb dX2_stayingBehind_27 ?_
    refine z_i (y := nI (2 ^ m0 - 1)) (pow_m1) ?_
    refine lv_iand hx hb dX2_stayingBehind_28 ?_
    refine z_i (y := nI (sBh m0 c0 b)) (fa_mask _ _) ?_
    exact W.iret (v := nI (sBh m0 c0 b)) hx hb hr (fun t ht hW => ⟨_, rfl, rfl, ht⟩) (fun _ h => absurd h List.not_mem_nil) dX2_stayingBehind_29
  · exact absurd ((nI_leI (a := 1) (b := m0) (by omega) (by omega)).mpr hm1) c_2

set_option maxHeartbeats 4000000 in
set_option maxRecDepth 100000 in
theorem c_X2_stayingBySome (l : Launch) (dC : Nat → ClassId) (dI : Nat → Nat → Nat) (m0 set b : Nat) (hm1 : 1 ≤ m0) (hm : m0 ≤ 12) (hs : set < 64) (hbb : b < 2 ^ (m0 - 1)) : Met l yX2_stayingBySome wsX2_stayingBySome ({ frames := 1, cells := 0, slots := 0, locals := 24 }) (va_Pc [.int (nI m0), .int (nI set), .int (nI b)] (fun _ => True)) (vp_Si (fun r => r = nI (sBS m0 set b 6))) 0 0 (fun _ => False) := by
  refine Met.ofW (cc := cX2_stayingBySome) (maxL := 5) (ret := (some .int)) (by decide) rfl ?_
  intro p e s m args below meth c s₁ B hml hv
  obtain ⟨rfl, -⟩ := hv
  have hx := B.exec
  have hb := B.bytes
  have hr := B.returns
  have hts := atoms_spec (ws := wsX2_stayingBySome) B.pre
  have hown : s.vm.findClass RX2 = some m.cls := findClass_of_methodNamed B.named
  have hlocks := B.notSynchronized
  have hl := lv_entry ([.int (nI m0), .int (nI set), .int (nI b)]) (n := 5) (Nat.le_of_ble_eq_true rfl)
  rw [lg_entry_eq]
  generalize (lg_sl ([.int (nI m0), .int (nI set), .int (nI b)]) ++ List.replicate (5 - (lg_sl ([.int (nI m0), .int (nI set), .int (nI b)])).length) Slot.unset).toArray = ls at hl ⊢
  have hl : lv_has ls 5 [(0, .int (nI m0)), (1, .int (nI set)), (2, .int (nI b))] := hl
  have hp12 : (2 : Nat) ^ (m0 - 1) ≤ 2 ^ 11 := Nat.pow_le_pow_right (by decide) (by omega)
  refine lv_iconst (v := 0) hx hb dX2_stayingBySome_0 (by decide) ?_
  refine lv_istore_n (lv' := [(3, .int 0), (0, .int (nI m0)), (1, .int (nI set)), (2, .int (nI b))]) hx hb dX2_stayingBySome_1 rfl hl (by decide) rfl (fun ls hl => ?_)
  refine lv_iconst (v := 1) hx hb dX2_stayingBySome_2 (by decide) ?_
  refine lv_istore (lv' := [(4, .int 1), (3, .int 0), (0, .int (nI m0)), (1, .int (nI set)), (2, .int (nI b))]) hx hb dX2_stayingBySome_3 hl (by decide) rfl (fun ls hl => ?_)
  refine W_loopR (σ := Nat) (fun c0 ls => lv_has ls 5 [(0, .int (nI m0)), (1, .int (nI set)), (2, .int (nI b)), (3, .int (nI (sBS m0 set b c0))), (4, .int (nI (c0 + 1)))] ∧ c0 ≤ 6) (fun c0 => 6 - c0) ?_ 0 ⟨lv_sub hl [2, 3, 4, 1, 0] rfl, by omega⟩
  rintro c0 ls ⟨hl, hc⟩ ih_5
  refine lv_iload hx hb dX2_stayingBySome_5 (lv_at hl 4 rfl) ?_
  refine lv_bipush (v := 6) hx hb dX2_stayingBySome_7 (by decide) ?_
  refine lv_icmp_gt (tgt := 37) hx hb dX2_stayingBySome_9 (by decide) (fun c_9 => ?_) (fun c_9 => ?_)
  · have c_9 : 6 < c0 + 1 := (nI_ltI (a := 6) (b := c0 + 1) (by omega) (by omega)).mp c_9
    refine lv_iload_n hx hb dX2_stayingBySome_37 rfl (lv_at hl 3 rfl) ?_
    exact W.iret (v := nI (sBS m0 set b c0)) hx hb hr (fun t ht hW => ⟨_, rfl, by rw [show c0 = 6 by omega], ht⟩) (fun _ h => absurd h List.not_mem_nil) dX2_stayingBySome_38
  · have c_9 : c0 + 1 ≤ 6 := Nat.le_of_not_lt (fun h => c_9 ((nI_ltI (a := 6) (b := c0 + 1) (by omega) (by omega)).mpr h))
    refine lv_iload_n hx hb dX2_stayingBySome_12 rfl (lv_at hl 1 rfl) ?_
    refine lv_iload hx hb dX2_stayingBySome_13 (lv_at hl 4 rfl) ?_
    refine vp_callSi (va_Run.run (va_runS (As := [.int (nI set), .int (nI (c0 + 1))]) (rest := []) ⟨hx, hb, hml, hown, hts⟩ (c_X2_isChosen l dC dI set c0 hs (by omega)) (va_cwS 2 hts gX2_stayingBySome_X2_isChosen rfl rfl rfl (by decide +kernel) ⟨Nat.le_of_ble_eq_true rfl, Nat.le_of_ble_eq_true rfl⟩) ⟨fun a U g mk q => ⟨q.1, trivial⟩, fun U hU hW => ⟨rfl, trivial⟩⟩ rfl rfl hl.1 rfl (lv_room (Nat.le_of_ble_eq_true rfl)) dX2_stayingBySome_15 ⟨Nat.zero_le _, Nat.zero_le _⟩)) (fun r_15 hr_15 => ?_)
    subst hr_15
    refine lv_if_eq (tgt := 31) hx hb dX2_stayingBySome_18 (by decide) (fun c_18 => ?_) (fun c_18 => ?_)
    · have c_18 := zb_0.mp c_18
      rw [show sBS m0 set b c0 = sBS m0 set b (c0 + 1) by simp [sBS, c_18]] at hl
      refine lv_iinc (v := nI (c0 + 1 + 1)) (lv' := [(4, .int (nI (c0 + 1 + 1))), (0, .int (nI m0)), (1, .int (nI set)), (2, .int (nI b)), (3, .int (nI (sBS m0 set b (c0 + 1))))]) hx hb dX2_stayingBySome_31 hl (k := 4) rfl (nI_1 _) (by decide) rfl (fun ls hl => ?_)
      refine lv_goto (tgt := 5) hx hb dX2_stayingBySome_34 (by decide) ?_
      exact ih_5 (c0 + 1) _ (by omega) ⟨lv_sub hl [1, 2, 3, 4, 0] rfl, by omega⟩
    · have c_18 := zb_n.mp c_18
      refine lv_iload_n hx hb dX2_stayingBySome_21 rfl (lv_at hl 3 rfl) ?_
      refine lv_iload_n hx hb dX2_stayingBySome_22 rfl (lv_at hl 0 rfl) ?_
      refine lv_iload hx hb dX2_stayingBySome_23 (lv_at hl 4 rfl) ?_
      refine lv_iload_n hx hb dX2_stayingBySome_25 rfl (lv_at hl 2 rfl) ?_
      refine vp_callSi (va_Run.run (va_runS (As := [.int (nI m0), .int (nI (c0 + 1)), .int (nI b)]) (rest := [.int (nI (sBS m0 set b c0))]) ⟨hx, hb, hml, hown, hts⟩ (c_X2_stayingBehind l dC dI m0 (c0 + 1) b hm1 hm (by omega) (by omega)) (va_cwS 3 hts gX2_stayingBySome_X2_stayingBehind rfl rfl rfl (by decide +kernel) ⟨Nat.le_of_ble_eq_true rfl, Nat.le_of_ble_eq_true rfl⟩) ⟨fun a U g mk q => ⟨q.1, trivial⟩, fun U hU hW => ⟨rfl, trivial⟩⟩ rfl rfl hl.1 rfl (lv_room (Nat.le_of_ble_eq_true rfl)) dX2_stayingBySome_26 ⟨Nat.zero_le _, Nat.zero_le _⟩)) (fun r_26 hr_26 => ?_)
      subst hr_26
      refine lv_ior hx hb dX2_stayingBySome_29 ?_
      refine z_i (y := nI (sBS m0 set b (c0 + 1))) (by rw [fa_or]; simp [sBS, c_18]) ?_
      refine lv_istore_n (lv' := [(3, .int (nI (sBS m0 set b (c0 + 1)))), (0, .int (nI m0)), (1, .int (nI set)), (2, .int (nI b)), (4, .int (nI (c0 + 1)))]) hx hb dX2_stayingBySome_30 rfl hl (by decide) rfl (fun ls hl => ?_)
      refine lv_iinc (v := nI (c0 + 1 + 1)) (lv' := [(4, .int (nI (c0 + 1 + 1))), (3, .int (nI (sBS m0 set b (c0 + 1)))), (0, .int (nI m0)), (1, .int (nI set)), (2, .int (nI b))]) hx hb dX2_stayingBySome_31 hl (k := 4) rfl (nI_1 _) (by decide) rfl (fun ls hl => ?_)
      refine lv_goto (tgt := 5) hx hb dX2_stayingBySome_34 (by decide) ?_
      exact ih_5 (c0 + 1) _ (by omega) ⟨lv_sub hl [2, 3, 4, 1, 0] rfl, by omega⟩

set_option maxHeartbeats 4000000 in
set_option maxRecDepth 100000 in
theorem c_X2_stayingByAll (l : Launch) (dC : Nat → ClassId) (dI : Nat → Nat → Nat) (m0 set b : Nat) (hm1 : 1 ≤ m0) (hm : m0 ≤ 12) (hs : set < 64) (hbb : b < 2 ^ (m0 - 1)) : Met l yX2_stayingByAll wsX2_stayingByAll ({ frames := 1, cells := 0, slots := 0, locals := 24 }) (va_Pc [.int (nI m0), .int (nI set), .int (nI b)] (fun _ => True)) (vp_Si (fun r => r = nI (sBA m0 set b 6))) 0 0 (fun _ => False) := by
  refine Met.ofW (cc := cX2_stayingByAll) (maxL := 5) (ret := (some .int)) (by decide) rfl ?_
  intro p e s m args below meth c s₁ B hml hv
  obtain ⟨rfl, -⟩ := hv
  have hx := B.exec
  have hb := B.bytes
  have hr := B.returns
  have hts := atoms_spec (ws := wsX2_stayingByAll) B.pre
  have hown : s.vm.findClass RX2 = some m.cls := findClass_of_methodNamed B.named
  have hlocks := B.notSynchronized
  have hl := lv_entry ([.int (nI m0), .int (nI set), .int (nI b)]) (n := 5) (Nat.le_of_ble_eq_true rfl)
  rw [lg_entry_eq]
  generalize (lg_sl ([.int (nI m0), .int (nI set), .int (nI b)]) ++ List.replicate (5 - (lg_sl ([.int (nI m0), .int (nI set), .int (nI b)])).length) Slot.unset).toArray = ls at hl ⊢
  have hl : lv_has ls 5 [(0, .int (nI m0)), (1, .int (nI set)), (2, .int (nI b))] := hl
  have hp12 : (2 : Nat) ^ (m0 - 1) ≤ 2 ^ 11 := Nat.pow_le_pow_right (by decide) (by omega)
  refine lv_iconst (v := 1) hx hb dX2_stayingByAll_0 (by decide) ?_
  refine lv_iload_n hx hb dX2_stayingByAll_1 rfl (lv_at hl 0 rfl) ?_
  refine lv_ishl hx hb dX2_stayingByAll_2 ?_
  refine z_i (y := nI (2 ^ m0)) (sh1 (by omega)) ?_
  refine lv_iconst (v := 1) hx hb dX2_stayingByAll_3 (by decide) ?_
  refine lv_isub hx hb dX2_stayingByAll_4 ?_
  refine z_i (y := nI (2 ^ m0 - 1)) (pow_m1) ?_
  refine lv_istore_n (lv' := [(3, .int (nI (2 ^ m0 - 1))), (0, .int (nI m0)), (1, .int (nI set)), (2, .int (nI b))]) hx hb dX2_stayingByAll_5 rfl hl (by decide) rfl (fun ls hl => ?_)
  refine lv_iconst (v := 1) hx hb dX2_stayingByAll_6 (by decide) ?_
  refine lv_istore (lv' := [(4, .int 1), (3, .int (nI (2 ^ m0 - 1))), (0, .int (nI m0)), (1, .int (nI set)), (2, .int (nI b))]) hx hb dX2_stayingByAll_7 hl (by decide) rfl (fun ls hl => ?_)
  refine W_loopR (σ := Nat) (fun c0 ls => lv_has ls 5 [(0, .int (nI m0)), (1, .int (nI set)), (2, .int (nI b)), (3, .int (nI (sBA m0 set b c0))), (4, .int (nI (c0 + 1)))] ∧ c0 ≤ 6) (fun c0 => 6 - c0) ?_ 0 ⟨lv_sub hl [2, 3, 4, 1, 0] rfl, by omega⟩
  rintro c0 ls ⟨hl, hc⟩ ih_9
  refine lv_iload hx hb dX2_stayingByAll_9 (lv_at hl 4 rfl) ?_
  refine lv_bipush (v := 6) hx hb dX2_stayingByAll_11 (by decide) ?_
  refine lv_icmp_gt (tgt := 41) hx hb dX2_stayingByAll_13 (by decide) (fun c_13 => ?_) (fun c_13 => ?_)
  · have c_13 : 6 < c0 + 1 := (nI_ltI (a := 6) (b := c0 + 1) (by omega) (by omega)).mp c_13
    refine lv_iload_n hx hb dX2_stayingByAll_41 rfl (lv_at hl 3 rfl) ?_
    exact W.iret (v := nI (sBA m0 set b c0)) hx hb hr (fun t ht hW => ⟨_, rfl, by rw [show c0 = 6 by omega], ht⟩) (fun _ h => absurd h List.not_mem_nil) dX2_stayingByAll_42
  · have c_13 : c0 + 1 ≤ 6 := Nat.le_of_not_lt (fun h => c_13 ((nI_ltI (a := 6) (b := c0 + 1) (by omega) (by omega)).mpr h))
    refine lv_iload_n hx hb dX2_stayingByAll_16 rfl (lv_at hl 1 rfl) ?_
    refine lv_iload hx hb dX2_stayingByAll_17 (lv_at hl 4 rfl) ?_
    refine vp_callSi (va_Run.run (va_runS (As := [.int (nI set), .int (nI (c0 + 1))]) (rest := []) ⟨hx, hb, hml, hown, hts⟩ (c_X2_isChosen l dC dI set c0 hs (by omega)) (va_cwS 2 hts gX2_stayingByAll_X2_isChosen rfl rfl rfl (by decide +kernel) ⟨Nat.le_of_ble_eq_true rfl, Nat.le_of_ble_eq_true rfl⟩) ⟨fun a U g mk q => ⟨q.1, trivial⟩, fun U hU hW => ⟨rfl, trivial⟩⟩ rfl rfl hl.1 rfl (lv_room (Nat.le_of_ble_eq_true rfl)) dX2_stayingByAll_19 ⟨Nat.zero_le _, Nat.zero_le _⟩)) (fun r_19 hr_19 => ?_)
    subst hr_19
    refine lv_if_eq (tgt := 35) hx hb dX2_stayingByAll_22 (by decide) (fun c_22 => ?_) (fun c_22 => ?_)
    · have c_22 := zb_0.mp c_22
      rw [show sBA m0 set b c0 = sBA m0 set b (c0 + 1) by simp [sBA, c_22]] at hl
      refine lv_iinc (v := nI (c0 + 1 + 1)) (lv' := [(4, .int (nI (c0 + 1 + 1))), (0, .int (nI m0)), (1, .int (nI set)), (2, .int (nI b)), (3, .int (nI (sBA m0 set b (c0 + 1))))]) hx hb dX2_stayingByAll_35 hl (k := 4) rfl (nI_1 _) (by decide) rfl (fun ls hl => ?_)
      refine lv_goto (tgt := 9) hx hb dX2_stayingByAll_38 (by decide) ?_
      exact ih_9 (c0 + 1) _ (by omega) ⟨lv_sub hl [1, 2, 3, 4, 0] rfl, by omega⟩
    · have c_22 := zb_n.mp c_22
      refine lv_iload_n hx hb dX2_stayingByAll_25 rfl (lv_at hl 3 rfl) ?_
      refine lv_iload_n hx hb dX2_stayingByAll_26 rfl (lv_at hl 0 rfl) ?_
      refine lv_iload hx hb dX2_stayingByAll_27 (lv_at hl 4 rfl) ?_
      refine lv_iload_n hx hb dX2_stayingByAll_29 rfl (lv_at hl 2 rfl) ?_
      refine vp_callSi (va_Run.run (va_runS (As := [.int (nI m0), .int (nI (c0 + 1)), .int (nI b)]) (rest := [.int (nI (sBA m0 set b c0))]) ⟨hx, hb, hml, hown, hts⟩ (c_X2_stayingBehind l dC dI m0 (c0 + 1) b hm1 hm (by omega) (by omega)) (va_cwS 3 hts gX2_stayingByAll_X2_stayingBehind rfl rfl rfl (by decide +kernel) ⟨Nat.le_of_ble_eq_true rfl, Nat.le_of_ble_eq_true rfl⟩) ⟨fun a U g mk q => ⟨q.1, trivial⟩, fun U hU hW => ⟨rfl, trivial⟩⟩ rfl rfl hl.1 rfl (lv_room (Nat.le_of_ble_eq_true rfl)) dX2_stayingByAll_30 ⟨Nat.zero_le _, Nat.zero_le _⟩)) (fun r_30 hr_30 => ?_)
      subst hr_30
      refine lv_iand hx hb dX2_stayingByAll_33 ?_
      refine z_i (y := nI (sBA m0 set b (c0 + 1))) (by rw [fa_and]; simp [sBA, c_22]) ?_
      refine lv_istore_n (lv' := [(3, .int (nI (sBA m0 set b (c0 + 1)))), (0, .int (nI m0)), (1, .int (nI set)), (2, .int (nI b)), (4, .int (nI (c0 + 1)))]) hx hb dX2_stayingByAll_34 rfl hl (by decide) rfl (fun ls hl => ?_)
      refine lv_iinc (v := nI (c0 + 1 + 1)) (lv' := [(4, .int (nI (c0 + 1 + 1))), (3, .int (nI (sBA m0 set b (c0 + 1)))), (0, .int (nI m0)), (1, .int (nI set)), (2, .int (nI b))]) hx hb dX2_stayingByAll_35 hl (k := 4) rfl (nI_1 _) (by decide) rfl (fun ls hl => ?_)
      refine lv_goto (tgt := 9) hx hb dX2_stayingByAll_38 (by decide) ?_
      exact ih_9 (c0 + 1) _ (by omega) ⟨lv_sub hl [2, 3, 4, 1, 0] rfl, by omega⟩

set_option maxHeartbeats 4000000 in
set_option maxRecDepth 100000 in
theorem c_X2_may (l : Launch) (dC : Nat → ClassId) (dI : Nat → Nat → Nat) (h0 : Nat) (n set : Int32) : Met l yX2_may wsX2_may ({ frames := 2, cells := 0, slots := 0, locals := 48 }) (va_Pc [.ref h0, .int n, .int set] (fun _ => True)) (vp_Si (fun r => r = spMay n set)) 0 0 (fun _ => False) := by
  refine Met.ofW (cc := cX2_may) (maxL := 5) (ret := (some .int)) (by decide) rfl ?_
  intro p e s m args below meth c s₁ B hml hv
  obtain ⟨rfl, -⟩ := hv
  have hx := B.exec
  have hb := B.bytes
  have hr := B.returns
  have hts := atoms_spec (ws := wsX2_may) B.pre
  have hown : s.vm.findClass RX2 = some m.cls := findClass_of_methodNamed B.named
  have hlocks := B.notSynchronized
  have hl := lv_entry ([.ref h0, .int n, .int set]) (n := 5) (Nat.le_of_ble_eq_true rfl)
  rw [lg_entry_eq]
  generalize (lg_sl ([.ref h0, .int n, .int set]) ++ List.replicate (5 - (lg_sl ([.ref h0, .int n, .int set])).length) Slot.unset).toArray = ls at hl ⊢
  have hl : lv_has ls 5 [(0, .ref h0), (1, .int n), (2, .int set)] := hl
  refine lv_iload_n hx hb dX2_may_0 rfl (lv_at hl 1 rfl) ?_
  refine lv_i2l (v := n.toInt64) hx hb dX2_may_1 rfl ?_
  refine lv_lconst (v := 1) hx hb dX2_may_2 (by decide) ?_
  refine lv_ldc2 (v := 12) hx hb hown (hts (.constantLong RX2 143 (12)) (by decide +kernel)) dX2_may_3 ?_
  refine vp_callSi (va_Run.run (va_runS (As := [.long n.toInt64, .long 1, .long 12]) (rest := []) ⟨hx, hb, hml, hown, hts⟩ (c_X2_isWithin l dC dI n.toInt64 1 12) (va_cwS 3 hts gX2_may_X2_isWithin rfl rfl rfl (by decide +kernel) ⟨Nat.le_of_ble_eq_true rfl, Nat.le_of_ble_eq_true rfl⟩) ⟨fun a U g mk q => ⟨q.1, trivial⟩, fun U hU hW => ⟨rfl, trivial⟩⟩ rfl rfl hl.1 rfl (lv_room (Nat.le_of_ble_eq_true rfl)) dX2_may_6 ⟨Nat.zero_le _, Nat.zero_le _⟩)) (fun r_6 hr_6 => ?_)
  obtain rfl : r_6 = zb (wi n.toInt 1 12) := hr_6.trans (by rw [i2l_toInt]; rfl)
  refine lv_if_eq (tgt := 19) hx hb dX2_may_9 (by decide) (fun c_9 => ?_) (fun c_9 => ?_)
  · have c_9 := zb_0.mp c_9
    refine lv_iconst (v := (-1)) hx hb dX2_may_19 (by decide) ?_
    exact W.iret (v := (-1)) hx hb hr (fun t ht hW => ⟨_, rfl, by unfold spMay; first | (rw [c_9, Bool.false_and, if_neg (by decide)]) | (rw [c_9, c_16, Bool.true_and, if_neg (by decide)]), ht⟩) (fun _ h => absurd h List.not_mem_nil) dX2_may_20
  · have c_9 := zb_n.mp c_9
    refine lv_iload_n hx hb dX2_may_12 rfl (lv_at hl 2 rfl) ?_
    refine vp_callSi (va_Run.run (va_runS (As := [.int set]) (rest := []) ⟨hx, hb, hml, hown, hts⟩ (c_X2_isChosenSet l dC dI set) (va_cwS 1 hts gX2_may_X2_isChosenSet rfl rfl rfl (by decide +kernel) ⟨Nat.le_of_ble_eq_true rfl, Nat.le_of_ble_eq_true rfl⟩) ⟨fun a U g mk q => ⟨q.1, trivial⟩, fun U hU hW => ⟨rfl, trivial⟩⟩ rfl rfl hl.1 rfl (lv_room (Nat.le_of_ble_eq_true rfl)) dX2_may_13 ⟨Nat.zero_le _, Nat.zero_le _⟩)) (fun r_13 hr_13 => ?_)
    subst hr_13
    refine lv_if_ne (tgt := 21) hx hb dX2_may_16 (by decide) (fun c_16 => ?_) (fun c_16 => ?_)
    · have c_16 := zb_n.mp c_16
      obtain ⟨n1, hn1, hn2, rfl⟩ := nI_wi (a := 1) (b := 12) c_9
      obtain ⟨set1, hset1, hset2, rfl⟩ := nI_wi (a := 1) (b := 63) c_16
      refine lv_iconst (v := 1) hx hb dX2_may_21 (by decide) ?_
      refine lv_istore_n (lv' := [(3, .int 1), (0, .ref h0), (1, .int (nI n1)), (2, .int (nI set1))]) hx hb dX2_may_22 rfl hl (by decide) rfl (fun ls hl => ?_)
      refine lv_iconst (v := 2) hx hb dX2_may_23 (by decide) ?_
      refine lv_istore (lv' := [(4, .int 2), (3, .int 1), (0, .ref h0), (1, .int (nI n1)), (2, .int (nI set1))]) hx hb dX2_may_24 hl (by decide) rfl (fun ls hl => ?_)
      refine W_loopR (σ := Nat) (fun k ls => lv_has ls 5 [(1, .int (nI n1)), (2, .int (nI set1)), (3, .int (nI (mayN set1 k))), (4, .int (nI (k + 2)))] ∧ k + 1 ≤ n1) (fun k => n1 - k) ?_ 0 ⟨lv_sub hl [3, 4, 1, 0] rfl, hn1⟩
      rintro k ls ⟨hl, hk⟩ ih_26
      refine lv_iload hx hb dX2_may_26 (lv_at hl 3 rfl) ?_
      refine lv_iload_n hx hb dX2_may_28 rfl (lv_at hl 0 rfl) ?_
      refine lv_icmp_gt (tgt := 46) hx hb dX2_may_29 (by decide) (fun c_29 => ?_) (fun c_29 => ?_)
      · have c_29 : n1 < k + 2 := (nI_ltI (a := n1) (b := k + 2) (by omega) (by omega)).mp c_29
        refine lv_iload_n hx hb dX2_may_46 rfl (lv_at hl 2 rfl) ?_
        exact W.iret (v := nI (mayN set1 k)) hx hb hr (fun t ht hW => ⟨_, rfl, by rw [← spMay_t hn1 hn2 hset1 hset2, show n1 - 1 = k by omega], ht⟩) (fun _ h => absurd h List.not_mem_nil) dX2_may_47
      · have c_29 : k + 2 ≤ n1 := Nat.le_of_not_lt (fun h => c_29 ((nI_ltI (a := n1) (b := k + 2) (by omega) (by omega)).mpr h))
        refine lv_iload hx hb dX2_may_32 (lv_at hl 3 rfl) ?_
        refine lv_iload_n hx hb dX2_may_34 rfl (lv_at hl 1 rfl) ?_
        refine lv_iload_n hx hb dX2_may_35 rfl (lv_at hl 2 rfl) ?_
        refine vp_callSi (va_Run.run (va_runS (As := [.int (nI (k + 2)), .int (nI set1), .int (nI (mayN set1 k))]) (rest := []) ⟨hx, hb, hml, hown, hts⟩ (c_X2_stayingBySome l dC dI (k + 2) set1 (mayN set1 k) (by omega) (by omega) (by omega) (mayN_lt set1 k)) (va_cwS 3 hts gX2_may_X2_stayingBySome rfl rfl rfl (by decide +kernel) ⟨Nat.le_of_ble_eq_true rfl, Nat.le_of_ble_eq_true rfl⟩) ⟨fun a U g mk q => ⟨q.1, trivial⟩, fun U hU hW => ⟨rfl, trivial⟩⟩ rfl rfl hl.1 rfl (lv_room (Nat.le_of_ble_eq_true rfl)) dX2_may_36 ⟨Nat.zero_le _, Nat.zero_le _⟩)) (fun r_36 hr_36 => ?_)
        obtain rfl : r_36 = nI (mayN set1 (k + 1)) := hr_36
        refine lv_istore_n (lv' := [(3, .int (nI (mayN set1 (k + 1)))), (1, .int (nI n1)), (2, .int (nI set1)), (4, .int (nI (k + 2)))]) hx hb dX2_may_39 rfl hl (by decide) rfl (fun ls hl => ?_)
        refine lv_iinc (v := nI (k + 1 + 2)) (lv' := [(4, .int (nI (k + 1 + 2))), (3, .int (nI (mayN set1 (k + 1)))), (1, .int (nI n1)), (2, .int (nI set1))]) hx hb dX2_may_40 hl (k := 3) rfl (nI_1 (k + 2)) (by decide) rfl (fun ls hl => ?_)
        refine lv_goto (tgt := 26) hx hb dX2_may_43 (by decide) ?_
        exact ih_26 (k + 1) _ (by omega) ⟨lv_sub hl [2, 3, 1, 0] rfl, by omega⟩
    · have c_16 := zb_0.mp c_16
      refine lv_iconst (v := (-1)) hx hb dX2_may_19 (by decide) ?_
      exact W.iret (v := (-1)) hx hb hr (fun t ht hW => ⟨_, rfl, by unfold spMay; first | (rw [c_9, Bool.false_and, if_neg (by decide)]) | (rw [c_9, c_16, Bool.true_and, if_neg (by decide)]), ht⟩) (fun _ h => absurd h List.not_mem_nil) dX2_may_20

set_option maxHeartbeats 4000000 in
set_option maxRecDepth 100000 in
theorem c_X2_can (l : Launch) (dC : Nat → ClassId) (dI : Nat → Nat → Nat) (h0 : Nat) (n own foe : Int32) : Met l yX2_can wsX2_can ({ frames := 2, cells := 0, slots := 0, locals := 48 }) (va_Pc [.ref h0, .int n, .int own, .int foe] (fun _ => True)) (vp_Si (fun r => r = spCan n own foe)) 0 0 (fun _ => False) := by
  refine Met.ofW (cc := cX2_can) (maxL := 7) (ret := (some .int)) (by decide) rfl ?_
  intro p e s m args below meth c s₁ B hml hv
  obtain ⟨rfl, -⟩ := hv
  have hx := B.exec
  have hb := B.bytes
  have hr := B.returns
  have hts := atoms_spec (ws := wsX2_can) B.pre
  have hown : s.vm.findClass RX2 = some m.cls := findClass_of_methodNamed B.named
  have hlocks := B.notSynchronized
  have hl := lv_entry ([.ref h0, .int n, .int own, .int foe]) (n := 7) (Nat.le_of_ble_eq_true rfl)
  rw [lg_entry_eq]
  generalize (lg_sl ([.ref h0, .int n, .int own, .int foe]) ++ List.replicate (7 - (lg_sl ([.ref h0, .int n, .int own, .int foe])).length) Slot.unset).toArray = ls at hl ⊢
  have hl : lv_has ls 7 [(0, .ref h0), (1, .int n), (2, .int own), (3, .int foe)] := hl
  refine lv_iload_n hx hb dX2_can_0 rfl (lv_at hl 1 rfl) ?_
  refine lv_i2l (v := n.toInt64) hx hb dX2_can_1 rfl ?_
  refine lv_lconst (v := 1) hx hb dX2_can_2 (by decide) ?_
  refine lv_ldc2 (v := 12) hx hb hown (hts (.constantLong RX2 143 (12)) (by decide +kernel)) dX2_can_3 ?_
  refine vp_callSi (va_Run.run (va_runS (As := [.long n.toInt64, .long 1, .long 12]) (rest := []) ⟨hx, hb, hml, hown, hts⟩ (c_X2_isWithin l dC dI n.toInt64 1 12) (va_cwS 3 hts gX2_can_X2_isWithin rfl rfl rfl (by decide +kernel) ⟨Nat.le_of_ble_eq_true rfl, Nat.le_of_ble_eq_true rfl⟩) ⟨fun a U g mk q => ⟨q.1, trivial⟩, fun U hU hW => ⟨rfl, trivial⟩⟩ rfl rfl hl.1 rfl (lv_room (Nat.le_of_ble_eq_true rfl)) dX2_can_6 ⟨Nat.zero_le _, Nat.zero_le _⟩)) (fun r_6 hr_6 => ?_)
  obtain rfl : r_6 = zb (wi n.toInt 1 12) := hr_6.trans (by rw [i2l_toInt]; rfl)
  refine lv_if_eq (tgt := 26) hx hb dX2_can_9 (by decide) (fun c_9 => ?_) (fun c_9 => ?_)
  · have c_9 := zb_0.mp c_9
    refine lv_iconst (v := (-1)) hx hb dX2_can_26 (by decide) ?_
    exact W.iret (v := (-1)) hx hb hr (fun t ht hW => ⟨_, rfl, by unfold spCan; first | (rw [c_9, Bool.false_and, Bool.false_and, if_neg (by decide)]) | (rw [c_9, c_16, Bool.true_and, Bool.false_and, if_neg (by decide)]) | (rw [c_9, c_16, c_23, Bool.true_and, Bool.true_and, if_neg (by decide)]), ht⟩) (fun _ h => absurd h List.not_mem_nil) dX2_can_27
  · have c_9 := zb_n.mp c_9
    refine lv_iload_n hx hb dX2_can_12 rfl (lv_at hl 2 rfl) ?_
    refine vp_callSi (va_Run.run (va_runS (As := [.int own]) (rest := []) ⟨hx, hb, hml, hown, hts⟩ (c_X2_isChosenSet l dC dI own) (va_cwS 1 hts gX2_can_X2_isChosenSet rfl rfl rfl (by decide +kernel) ⟨Nat.le_of_ble_eq_true rfl, Nat.le_of_ble_eq_true rfl⟩) ⟨fun a U g mk q => ⟨q.1, trivial⟩, fun U hU hW => ⟨rfl, trivial⟩⟩ rfl rfl hl.1 rfl (lv_room (Nat.le_of_ble_eq_true rfl)) dX2_can_13 ⟨Nat.zero_le _, Nat.zero_le _⟩)) (fun r_13 hr_13 => ?_)
    subst hr_13
    refine lv_if_eq (tgt := 26) hx hb dX2_can_16 (by decide) (fun c_16 => ?_) (fun c_16 => ?_)
    · have c_16 := zb_0.mp c_16
      refine lv_iconst (v := (-1)) hx hb dX2_can_26 (by decide) ?_
      exact W.iret (v := (-1)) hx hb hr (fun t ht hW => ⟨_, rfl, by unfold spCan; first | (rw [c_9, Bool.false_and, Bool.false_and, if_neg (by decide)]) | (rw [c_9, c_16, Bool.true_and, Bool.false_and, if_neg (by decide)]) | (rw [c_9, c_16, c_23, Bool.true_and, Bool.true_and, if_neg (by decide)]), ht⟩) (fun _ h => absurd h List.not_mem_nil) dX2_can_27
    · have c_16 := zb_n.mp c_16
      refine lv_iload_n hx hb dX2_can_19 rfl (lv_at hl 3 rfl) ?_
      refine vp_callSi (va_Run.run (va_runS (As := [.int foe]) (rest := []) ⟨hx, hb, hml, hown, hts⟩ (c_X2_isChosenSet l dC dI foe) (va_cwS 1 hts gX2_can_X2_isChosenSet rfl rfl rfl (by decide +kernel) ⟨Nat.le_of_ble_eq_true rfl, Nat.le_of_ble_eq_true rfl⟩) ⟨fun a U g mk q => ⟨q.1, trivial⟩, fun U hU hW => ⟨rfl, trivial⟩⟩ rfl rfl hl.1 rfl (lv_room (Nat.le_of_ble_eq_true rfl)) dX2_can_20 ⟨Nat.zero_le _, Nat.zero_le _⟩)) (fun r_20 hr_20 => ?_)
      subst hr_20
      refine lv_if_ne (tgt := 28) hx hb dX2_can_23 (by decide) (fun c_23 => ?_) (fun c_23 => ?_)
      · have c_23 := zb_n.mp c_23
        obtain ⟨n1, hn1, hn2, rfl⟩ := nI_wi (a := 1) (b := 12) c_9
        obtain ⟨own1, hown1, hown2, rfl⟩ := nI_wi (a := 1) (b := 63) c_16
        obtain ⟨foe1, hfoe1, hfoe2, rfl⟩ := nI_wi (a := 1) (b := 63) c_23
        refine lv_iconst (v := 1) hx hb dX2_can_28 (by decide) ?_
        refine lv_istore (lv' := [(4, .int 1), (0, .ref h0), (1, .int (nI n1)), (2, .int (nI own1)), (3, .int (nI foe1))]) hx hb dX2_can_29 hl (by decide) rfl (fun ls hl => ?_)
        rw [show (1 : Int32) = nI (canK n1 own1 foe1 0) by rw [canK_0]; rfl] at hl
        refine lv_iconst (v := 2) hx hb dX2_can_31 (by decide) ?_
        refine lv_istore (lv' := [(5, .int 2), (4, .int (nI (canK n1 own1 foe1 0))), (0, .ref h0), (1, .int (nI n1)), (2, .int (nI own1)), (3, .int (nI foe1))]) hx hb dX2_can_32 hl (by decide) rfl (fun ls hl => ?_)
        refine W_loopR (σ := Nat) (fun k ls => lv_has ls 7 [(1, .int (nI n1)), (2, .int (nI own1)), (3, .int (nI foe1)), (4, .int (nI (canK n1 own1 foe1 k))), (5, .int (nI (k + 2)))] ∧ k + 1 ≤ n1) (fun k => n1 - k) ?_ 0 ⟨lv_sub hl [3, 4, 5, 1, 0] rfl, hn1⟩
        rintro k ls ⟨hl, hk⟩ ih_34
        refine lv_iload hx hb dX2_can_34 (lv_at hl 4 rfl) ?_
        refine lv_iload_n hx hb dX2_can_36 rfl (lv_at hl 0 rfl) ?_
        refine lv_icmp_gt (tgt := 88) hx hb dX2_can_37 (by decide) (fun c_37 => ?_) (fun c_37 => ?_)
        · have c_37 : n1 < k + 2 := (nI_ltI (a := n1) (b := k + 2) (by omega) (by omega)).mp c_37
          refine lv_iload hx hb dX2_can_88 (lv_at hl 3 rfl) ?_
          exact W.iret (v := nI (canK n1 own1 foe1 k)) hx hb hr (fun t ht hW => ⟨_, rfl, by rw [← spCan_t hn1 hn2 hown1 hown2 hfoe1 hfoe2, show n1 - 1 = k by omega]; unfold canK; rw [show n1 - (k + 1) = 0 by omega]; rfl, ht⟩) (fun _ h => absurd h List.not_mem_nil) dX2_can_90
        · have c_37 : k + 2 ≤ n1 := Nat.le_of_not_lt (fun h => c_37 ((nI_ltI (a := n1) (b := k + 2) (by omega) (by omega)).mpr h))
          refine lv_iload_n hx hb dX2_can_40 rfl (lv_at hl 0 rfl) ?_
          refine lv_iload hx hb dX2_can_41 (lv_at hl 4 rfl) ?_
          refine lv_isub hx hb dX2_can_43 ?_
          refine z_i (y := nI (n1 - (k + 2))) (pk_sub (by omega)) ?_
          refine lv_iconst (v := 2) hx hb dX2_can_44 (by decide) ?_
          refine lv_irem hx hb dX2_can_45 (by decide) ?_
          refine z_i (y := nI ((n1 - (k + 2)) % 2)) (pk_rem (d := 2) (by omega) (by omega) (by omega)) ?_
          refine lv_if_ne (tgt := 53) hx hb dX2_can_46 (by decide) (fun c_46 => ?_) (fun c_46 => ?_)
          · have c_46 : ¬ (n1 - (k + 2)) % 2 = 0 := fun h => c_46 ((nI_eq (b := 0) (by omega) (by omega)).mpr h)
            refine lv_iconst (v := 0) hx hb dX2_can_53 (by decide) ?_
            refine lv_istore (lv' := [(6, .int 0), (1, .int (nI n1)), (2, .int (nI own1)), (3, .int (nI foe1)), (4, .int (nI (canK n1 own1 foe1 k))), (5, .int (nI (k + 2)))]) hx hb dX2_can_54 hl (by decide) rfl (fun ls hl => ?_)
            refine lv_iload hx hb dX2_can_56 (lv_at hl 0 rfl) ?_
            refine lv_if_eq (tgt := 72) hx hb dX2_can_58 (by decide) (fun c_58 => ?_) (fun c_58 => ?_)
            · refine lv_iload hx hb dX2_can_72 (lv_at hl 5 rfl) ?_
              refine lv_iload_n hx hb dX2_can_74 rfl (lv_at hl 3 rfl) ?_
              refine lv_iload hx hb dX2_can_75 (lv_at hl 4 rfl) ?_
              refine vp_callSi (va_Run.run (va_runS (As := [.int (nI (k + 2)), .int (nI foe1), .int (nI (canK n1 own1 foe1 k))]) (rest := []) ⟨hx, hb, hml, hown, hts⟩ (c_X2_stayingByAll l dC dI (k + 2) foe1 (canK n1 own1 foe1 k) (by omega) (by omega) (by omega) (canK_lt n1 own1 foe1 k)) (va_cwS 3 hts gX2_can_X2_stayingByAll rfl rfl rfl (by decide +kernel) ⟨Nat.le_of_ble_eq_true rfl, Nat.le_of_ble_eq_true rfl⟩) ⟨fun a U g mk q => ⟨q.1, trivial⟩, fun U hU hW => ⟨rfl, trivial⟩⟩ rfl rfl hl.1 rfl (lv_room (Nat.le_of_ble_eq_true rfl)) dX2_can_77 ⟨Nat.zero_le _, Nat.zero_le _⟩)) (fun r_77 hr_77 => ?_)
              obtain rfl : r_77 = nI (canK n1 own1 foe1 (k + 1)) := hr_77.trans (congrArg nI (canK_foe c_37 c_46))
              refine lv_istore (lv' := [(4, .int (nI (canK n1 own1 foe1 (k + 1)))), (6, .int 0), (1, .int (nI n1)), (2, .int (nI own1)), (3, .int (nI foe1)), (5, .int (nI (k + 2)))]) hx hb dX2_can_80 hl (by decide) rfl (fun ls hl => ?_)
              refine lv_iinc (v := nI (k + 1 + 2)) (lv' := [(5, .int (nI (k + 1 + 2))), (4, .int (nI (canK n1 own1 foe1 (k + 1)))), (6, .int 0), (1, .int (nI n1)), (2, .int (nI own1)), (3, .int (nI foe1))]) hx hb dX2_can_82 hl (k := 5) rfl (nI_1 (k + 2)) (by decide) rfl (fun ls hl => ?_)
              refine lv_goto (tgt := 34) hx hb dX2_can_85 (by decide) ?_
              exact ih_34 (k + 1) _ (by omega) ⟨lv_sub hl [3, 4, 5, 1, 0] rfl, by omega⟩
            · exact absurd rfl c_58
          · have c_46 : (n1 - (k + 2)) % 2 = 0 := (nI_eq (b := 0) (by omega) (by omega)).mp c_46
            refine lv_iconst (v := 1) hx hb dX2_can_49 (by decide) ?_
            refine lv_goto (tgt := 54) hx hb dX2_can_50 (by decide) ?_
            refine lv_istore (lv' := [(6, .int 1), (1, .int (nI n1)), (2, .int (nI own1)), (3, .int (nI foe1)), (4, .int (nI (canK n1 own1 foe1 k))), (5, .int (nI (k + 2)))]) hx hb dX2_can_54 hl (by decide) rfl (fun ls hl => ?_)
            refine lv_iload hx hb dX2_can_56 (lv_at hl 0 rfl) ?_
            refine lv_if_eq (tgt := 72) hx hb dX2_can_58 (by decide) (fun c_58 => ?_) (fun c_58 => ?_)
            · exact absurd c_58 (by decide)
            · refine lv_iload hx hb dX2_can_61 (lv_at hl 5 rfl) ?_
              refine lv_iload_n hx hb dX2_can_63 rfl (lv_at hl 2 rfl) ?_
              refine lv_iload hx hb dX2_can_64 (lv_at hl 4 rfl) ?_
              refine vp_callSi (va_Run.run (va_runS (As := [.int (nI (k + 2)), .int (nI own1), .int (nI (canK n1 own1 foe1 k))]) (rest := []) ⟨hx, hb, hml, hown, hts⟩ (c_X2_stayingBySome l dC dI (k + 2) own1 (canK n1 own1 foe1 k) (by omega) (by omega) (by omega) (canK_lt n1 own1 foe1 k)) (va_cwS 3 hts gX2_can_X2_stayingBySome rfl rfl rfl (by decide +kernel) ⟨Nat.le_of_ble_eq_true rfl, Nat.le_of_ble_eq_true rfl⟩) ⟨fun a U g mk q => ⟨q.1, trivial⟩, fun U hU hW => ⟨rfl, trivial⟩⟩ rfl rfl hl.1 rfl (lv_room (Nat.le_of_ble_eq_true rfl)) dX2_can_66 ⟨Nat.zero_le _, Nat.zero_le _⟩)) (fun r_66 hr_66 => ?_)
              obtain rfl : r_66 = nI (canK n1 own1 foe1 (k + 1)) := hr_66.trans (congrArg nI (canK_own c_37 c_46))
              refine lv_goto (tgt := 80) hx hb dX2_can_69 (by decide) ?_
              refine lv_istore (lv' := [(4, .int (nI (canK n1 own1 foe1 (k + 1)))), (6, .int 1), (1, .int (nI n1)), (2, .int (nI own1)), (3, .int (nI foe1)), (5, .int (nI (k + 2)))]) hx hb dX2_can_80 hl (by decide) rfl (fun ls hl => ?_)
              refine lv_iinc (v := nI (k + 1 + 2)) (lv' := [(5, .int (nI (k + 1 + 2))), (4, .int (nI (canK n1 own1 foe1 (k + 1)))), (6, .int 1), (1, .int (nI n1)), (2, .int (nI own1)), (3, .int (nI foe1))]) hx hb dX2_can_82 hl (k := 5) rfl (nI_1 (k + 2)) (by decide) rfl (fun ls hl => ?_)
              refine lv_goto (tgt := 34) hx hb dX2_can_85 (by decide) ?_
              exact ih_34 (k + 1) _ (by omega) ⟨lv_sub hl [3, 4, 5, 1, 0] rfl, by omega⟩
      · have c_23 := zb_0.mp c_23
        refine lv_iconst (v := (-1)) hx hb dX2_can_26 (by decide) ?_
        exact W.iret (v := (-1)) hx hb hr (fun t ht hW => ⟨_, rfl, by unfold spCan; first | (rw [c_9, Bool.false_and, Bool.false_and, if_neg (by decide)]) | (rw [c_9, c_16, Bool.true_and, Bool.false_and, if_neg (by decide)]) | (rw [c_9, c_16, c_23, Bool.true_and, Bool.true_and, if_neg (by decide)]), ht⟩) (fun _ h => absurd h List.not_mem_nil) dX2_can_27

set_option maxHeartbeats 4000000 in
set_option maxRecDepth 100000 in
theorem c_X3_may (l : Launch) (dC : Nat → ClassId) (dI : Nat → Nat → Nat) (sz : Nat) (cA : ClassId) (h0 a3 a4 a5 a9 a11 a12 a14 a15 a16 : Nat) (tr : Int64) (pe st kd wd tn sd : Int32) (n set : Int32) : Met l yX3_may wsX3_may ({ frames := 2, cells := 0, slots := 0, locals := 45 }) (va_Pc [.ref h0, .int n, .int set] (fun U => U.heap.size = sz ∧ va_P (dC, dI) vwCl [(h0, .inr (3, [.int 0, .long tr, .int pe, .ref a3, .ref a4, .ref a5, .int st, .int kd, .int wd, .ref a9, .int tn, .ref a11, .ref a12, .int sd, .ref a14, .ref a15, .ref a16]))] U.heap ∧ va_K (dC, dI) vwCl [(cA, .int)] U ∧ va_D (fun _ => True) [(h0, .inr (3, [.int 0, .long tr, .int pe, .ref a3, .ref a4, .ref a5, .int st, .int kd, .int wd, .ref a9, .int tn, .ref a11, .ref a12, .int sd, .ref a14, .ref a15, .ref a16]))])) (va_Qi (S := Unit) (fun r _ => r = spMay n set) (fun (_ : Unit) (t : State) => va_P (dC, dI) vwCl [(h0, .inr (3, [.int 0, .long tr, .int pe, .ref a3, .ref a4, .ref a5, .int st, .int kd, .int wd, .ref a9, .int tn, .ref a11, .ref a12, .int sd, .ref a14, .ref a15, .ref a16]))] t.heap ∧ va_K (dC, dI) vwCl [(cA, .int)] t ∧ va_D (va_A [(h0, .inr (3, [.int 0, .long tr, .int pe, .ref a3, .ref a4, .ref a5, .int st, .int kd, .int wd, .ref a9, .int tn, .ref a11, .ref a12, .int sd, .ref a14, .ref a15, .ref a16]))] sz) [(h0, .inr (3, [.int 0, .long tr, .int pe, .ref a3, .ref a4, .ref a5, .int st, .int kd, .int wd, .ref a9, .int tn, .ref a11, .ref a12, .int sd, .ref a14, .ref a15, .ref a16]))]) (va_A [(h0, .inr (3, [.int 0, .long tr, .int pe, .ref a3, .ref a4, .ref a5, .int st, .int kd, .int wd, .ref a9, .int tn, .ref a11, .ref a12, .int sd, .ref a14, .ref a15, .ref a16]))] sz)) 0 0 (va_A [(h0, .inr (3, [.int 0, .long tr, .int pe, .ref a3, .ref a4, .ref a5, .int st, .int kd, .int wd, .ref a9, .int tn, .ref a11, .ref a12, .int sd, .ref a14, .ref a15, .ref a16]))] sz) := by
  refine Met.ofW (cc := cX3_may) (maxL := 8) (ret := (some .int)) (by decide) rfl ?_
  intro p e s m args below meth c s₁ B hml hv
  obtain ⟨rfl, hsz, hP, hK, hD0⟩ := hv
  have hx := B.exec
  have hb := B.bytes
  have hr := B.returns
  have hts := atoms_spec (ws := wsX3_may) B.pre
  have hown : s.vm.findClass RX3 = some m.cls := findClass_of_methodNamed B.named
  have hlocks := B.notSynchronized
  subst hsz
  have hD := hD0.self (sz := s.heap.size)
  generalize hAe : va_A [(h0, .inr (3, [.int 0, .long tr, .int pe, .ref a3, .ref a4, .ref a5, .int st, .int kd, .int wd, .ref a9, .int tn, .ref a11, .ref a12, .int sd, .ref a14, .ref a15, .ref a16]))] s.heap.size = A at hD ⊢
  have hA : ∀ q : Nat, s.heap.size ≤ q → A q := fun q h => by rw [← hAe]; exact Or.inr h
  have hS : va_S A s.heap s.heap [] := va_S.rf
  have hP : va_P (dC, dI) vwCl [(h0, .inr (3, [.int 0, .long tr, .int pe, .ref a3, .ref a4, .ref a5, .int st, .int kd, .int wd, .ref a9, .int tn, .ref a11, .ref a12, .int sd, .ref a14, .ref a15, .ref a16]))] s.heap := hP
  have hl := lv_entry ([.ref h0, .int n, .int set]) (n := 8) (Nat.le_of_ble_eq_true rfl)
  rw [lg_entry_eq]
  generalize (lg_sl ([.ref h0, .int n, .int set]) ++ List.replicate (8 - (lg_sl ([.ref h0, .int n, .int set])).length) Slot.unset).toArray = ls at hl ⊢
  have hl : lv_has ls 8 [(0, .ref h0), (1, .int n), (2, .int set)] := hl
  refine lv_aload_n hx hb dX3_may_0 rfl (lv_at hl 0 rfl) ?_
  refine lv_iconst (v := 0) hx hb dX3_may_1 (by decide) ?_
  refine va_put (D := (dC, dI)) (ci := 3) (v := .int 0) (ty := .int) (C := RX3) (T := TX3) (N := 17) hx hb hts (by decide +kernel) tyX3 tyX3_ok nmX3 hown hK hP hD hS 0 rfl rfl 0 (by decide) (hts (.fieldLink RX3 51 "CountedOutModel" "thrown" "I") (by decide +kernel)) (fun _ h9 => h9) rfl (by decide +kernel) rfl rfl (Nat.le_of_ble_eq_true rfl) dX3_may_2 (fun H locs hP hD hS => ?_)
  have hP : va_P (dC, dI) vwCl [(h0, .inr (3, [.int 0, .long tr, .int pe, .ref a3, .ref a4, .ref a5, .int st, .int kd, .int wd, .ref a9, .int tn, .ref a11, .ref a12, .int sd, .ref a14, .ref a15, .ref a16]))] H := hP
  have hD : va_D A [(h0, .inr (3, [.int 0, .long tr, .int pe, .ref a3, .ref a4, .ref a5, .int st, .int kd, .int wd, .ref a9, .int tn, .ref a11, .ref a12, .int sd, .ref a14, .ref a15, .ref a16]))] := hD
  refine lv_iload_n hx hb dX3_may_5 rfl (lv_at hl 1 rfl) ?_
  refine lv_i2l (v := n.toInt64) hx hb dX3_may_6 rfl ?_
  refine lv_lconst (v := 1) hx hb dX3_may_7 (by decide) ?_
  refine lv_ldc2 (v := 12) hx hb hown (hts (.constantLong RX3 139 (12)) (by decide +kernel)) dX3_may_8 ?_
  refine vp_callSi (va_Run.run (va_runS (As := [.long n.toInt64, .long 1, .long 12]) (rest := []) ⟨hx, hb, hml, hown, hts⟩ (c_X3_in l dC dI n.toInt64 1 12) (va_cwS 3 hts gX3_may_X3_in rfl rfl rfl (by decide +kernel) ⟨Nat.le_of_ble_eq_true rfl, Nat.le_of_ble_eq_true rfl⟩) ⟨fun a U g mk q => ⟨q.1, trivial⟩, fun U hU hW => ⟨rfl, trivial⟩⟩ rfl rfl hl.1 rfl (lv_room (Nat.le_of_ble_eq_true rfl)) dX3_may_11 ⟨Nat.zero_le _, Nat.zero_le _⟩)) (fun r_11 hr_11 => ?_)
  obtain rfl : r_11 = zb (wi n.toInt 1 12) := hr_11.trans (by rw [i2l_toInt]; rfl)
  refine lv_if_eq (tgt := 24) hx hb dX3_may_14 (by decide) (fun c_14 => ?_) (fun c_14 => ?_)
  · have c_14 := zb_0.mp c_14
    refine lv_iconst (v := (-1)) hx hb dX3_may_24 (by decide) ?_
    have hP9 := hP.sub (ws' := [(h0, .inr (3, [.int 0, .long tr, .int pe, .ref a3, .ref a4, .ref a5, .int st, .int kd, .int wd, .ref a9, .int tn, .ref a11, .ref a12, .int sd, .ref a14, .ref a15, .ref a16]))]) [0] rfl
    have hD9 := hD.sub (ws' := [(h0, .inr (3, [.int 0, .long tr, .int pe, .ref a3, .ref a4, .ref a5, .int st, .int kd, .int wd, .ref a9, .int tn, .ref a11, .ref a12, .int sd, .ref a14, .ref a15, .ref a16]))]) [0] (by decide) rfl
    exact W.iret (v := (-1)) hx hb hr (fun t ht hW => ⟨⟨_, (), rfl, by unfold spMay; first | (rw [c_14, Bool.false_and, if_neg (by decide)]) | (rw [c_14, c_21, Bool.true_and, if_neg (by decide)]), ⟨by rw [ht]; exact hP9, va_K.moved hW.alike hK, hD9⟩⟩, hS.F ht⟩) hS.2.2 dX3_may_25
  · have c_14 := zb_n.mp c_14
    refine lv_iload_n hx hb dX3_may_17 rfl (lv_at hl 2 rfl) ?_
    refine vp_callSi (va_Run.run (va_runS (As := [.int set]) (rest := []) ⟨hx, hb, hml, hown, hts⟩ (c_X3_isSet l dC dI set) (va_cwS 1 hts gX3_may_X3_isSet rfl rfl rfl (by decide +kernel) ⟨Nat.le_of_ble_eq_true rfl, Nat.le_of_ble_eq_true rfl⟩) ⟨fun a U g mk q => ⟨q.1, trivial⟩, fun U hU hW => ⟨rfl, trivial⟩⟩ rfl rfl hl.1 rfl (lv_room (Nat.le_of_ble_eq_true rfl)) dX3_may_18 ⟨Nat.zero_le _, Nat.zero_le _⟩)) (fun r_18 hr_18 => ?_)
    subst hr_18
    refine lv_if_ne (tgt := 26) hx hb dX3_may_21 (by decide) (fun c_21 => ?_) (fun c_21 => ?_)
    · have c_21 := zb_n.mp c_21
      obtain ⟨n1, hn1, hn2, rfl⟩ := nI_wi (a := 1) (b := 12) c_14
      obtain ⟨set1, hset1, hset2, rfl⟩ := nI_wi (a := 1) (b := 63) c_21
      refine lv_iconst (v := 1) hx hb dX3_may_26 (by decide) ?_
      refine lv_istore_n (lv' := [(3, .int 1), (0, .ref h0), (1, .int (nI n1)), (2, .int (nI set1))]) hx hb dX3_may_27 rfl hl (by decide) rfl (fun ls hl => ?_)
      refine lv_iconst (v := 2) hx hb dX3_may_28 (by decide) ?_
      refine lv_istore (lv' := [(4, .int 2), (3, .int 1), (0, .ref h0), (1, .int (nI n1)), (2, .int (nI set1))]) hx hb dX3_may_29 hl (by decide) rfl (fun ls hl => ?_)
      refine W_loopR (σ := Nat) (fun k ls => lv_has ls 8 [(1, .int (nI n1)), (2, .int (nI set1)), (3, .int (nI (mayN set1 k))), (4, .int (nI (k + 2)))] ∧ k + 1 ≤ n1) (fun k => n1 - k) ?_ 0 ⟨lv_sub hl [3, 4, 1, 0] rfl, hn1⟩
      rintro k ls ⟨hl, hk⟩ ih_31
      have hml9 := mayN_lt set1 k
      have hp12 : (2 : Nat) ^ (k + 1) ≤ 2 ^ 12 := Nat.pow_le_pow_right (by decide) (by omega)
      refine lv_iload hx hb dX3_may_31 (lv_at hl 3 rfl) ?_
      refine lv_iload_n hx hb dX3_may_33 rfl (lv_at hl 0 rfl) ?_
      refine lv_icmp_gt (tgt := 120) hx hb dX3_may_34 (by decide) (fun c_34 => ?_) (fun c_34 => ?_)
      · have c_34 : n1 < k + 2 := (nI_ltI (a := n1) (b := k + 2) (by omega) (by omega)).mp c_34
        refine lv_iload_n hx hb dX3_may_120 rfl (lv_at hl 2 rfl) ?_
        have hP9 := hP.sub (ws' := [(h0, .inr (3, [.int 0, .long tr, .int pe, .ref a3, .ref a4, .ref a5, .int st, .int kd, .int wd, .ref a9, .int tn, .ref a11, .ref a12, .int sd, .ref a14, .ref a15, .ref a16]))]) [0] rfl
        have hD9 := hD.sub (ws' := [(h0, .inr (3, [.int 0, .long tr, .int pe, .ref a3, .ref a4, .ref a5, .int st, .int kd, .int wd, .ref a9, .int tn, .ref a11, .ref a12, .int sd, .ref a14, .ref a15, .ref a16]))]) [0] (by decide) rfl
        exact W.iret (v := nI (mayN set1 k)) hx hb hr (fun t ht hW => ⟨⟨_, (), rfl, by rw [← spMay_t hn1 hn2 hset1 hset2, show n1 - 1 = k by omega], ⟨by rw [ht]; exact hP9, va_K.moved hW.alike hK, hD9⟩⟩, hS.F ht⟩) hS.2.2 dX3_may_121
      · have c_34 : k + 2 ≤ n1 := Nat.le_of_not_lt (fun h => c_34 ((nI_ltI (a := n1) (b := k + 2) (by omega) (by omega)).mpr h))
        refine lv_iconst (v := 0) hx hb dX3_may_37 (by decide) ?_
        refine lv_istore (lv' := [(5, .int 0), (1, .int (nI n1)), (2, .int (nI set1)), (3, .int (nI (mayN set1 k))), (4, .int (nI (k + 2)))]) hx hb dX3_may_38 hl (by decide) rfl (fun ls hl => ?_)
        refine lv_iconst (v := 0) hx hb dX3_may_40 (by decide) ?_
        refine lv_istore (lv' := [(6, .int 0), (5, .int 0), (1, .int (nI n1)), (2, .int (nI set1)), (3, .int (nI (mayN set1 k))), (4, .int (nI (k + 2)))]) hx hb dX3_may_41 hl (by decide) rfl (fun ls hl => ?_)
        refine W_loopR (σ := Nat) (fun x ls => lv_has ls 8 [(1, .int (nI n1)), (2, .int (nI set1)), (3, .int (nI (mayN set1 k))), (4, .int (nI (k + 2))), (5, .int (nI (moO (k + 2) set1 (mayN set1 k) x))), (6, .int (nI x))] ∧ x ≤ k + 1) (fun x => k + 1 - x) ?_ 0 ⟨lv_sub hl [2, 3, 4, 5, 1, 0] rfl, by omega⟩
        rintro x ls ⟨hl, hxx⟩ ih_43
        refine lv_iload hx hb dX3_may_43 (lv_at hl 5 rfl) ?_
        refine lv_iload hx hb dX3_may_45 (lv_at hl 3 rfl) ?_
        refine lv_iconst (v := 1) hx hb dX3_may_47 (by decide) ?_
        refine lv_isub hx hb dX3_may_48 ?_
        refine z_i (y := nI (k + 1)) (nI_pred (k + 1)) ?_
        refine lv_icmp_ge (tgt := 111) hx hb dX3_may_49 (by decide) (fun c_49 => ?_) (fun c_49 => ?_)
        · have c_49 : k + 1 ≤ x := (nI_leI (a := k + 1) (b := x) (by omega) (by omega)).mp c_49
          refine lv_iload hx hb dX3_may_111 (lv_at hl 4 rfl) ?_
          refine z_i (y := nI (mayN set1 (k + 1))) (congrArg nI (by rw [show x = k + 2 - 1 by omega]; exact moO_eq (by omega) (by omega) hml9)) ?_
          refine lv_istore_n (lv' := [(3, .int (nI (mayN set1 (k + 1)))), (1, .int (nI n1)), (2, .int (nI set1)), (4, .int (nI (k + 2))), (5, .int (nI (moO (k + 2) set1 (mayN set1 k) x))), (6, .int (nI x))]) hx hb dX3_may_113 rfl hl (by decide) rfl (fun ls hl => ?_)
          refine lv_iinc (v := nI (k + 1 + 2)) (lv' := [(4, .int (nI (k + 1 + 2))), (3, .int (nI (mayN set1 (k + 1)))), (1, .int (nI n1)), (2, .int (nI set1)), (5, .int (nI (moO (k + 2) set1 (mayN set1 k) x))), (6, .int (nI x))]) hx hb dX3_may_114 hl (k := 3) rfl (nI_1 (k + 2)) (by decide) rfl (fun ls hl => ?_)
          refine lv_goto (tgt := 31) hx hb dX3_may_117 (by decide) ?_
          exact ih_31 (k + 1) _ (by omega) ⟨lv_sub hl [2, 3, 1, 0] rfl, by omega⟩
        · have c_49 : x < k + 1 := Nat.lt_of_not_le (fun h => c_49 ((nI_leI (a := k + 1) (b := x) (by omega) (by omega)).mpr h))
          refine lv_iconst (v := 1) hx hb dX3_may_52 (by decide) ?_
          refine lv_istore (lv' := [(7, .int 1), (1, .int (nI n1)), (2, .int (nI set1)), (3, .int (nI (mayN set1 k))), (4, .int (nI (k + 2))), (5, .int (nI (moO (k + 2) set1 (mayN set1 k) x))), (6, .int (nI x))]) hx hb dX3_may_53 hl (by decide) rfl (fun ls hl => ?_)
          refine W_loopR (σ := Nat) (fun c0 ls => lv_has ls 8 [(1, .int (nI n1)), (2, .int (nI set1)), (3, .int (nI (mayN set1 k))), (4, .int (nI (k + 2))), (5, .int (nI (moI (k + 2) set1 x (moO (k + 2) set1 (mayN set1 k) x) ((mayN set1 k).testBit x) c0))), (6, .int (nI x)), (7, .int (nI (c0 + 1)))] ∧ c0 ≤ 6) (fun c0 => 6 - c0) ?_ 0 ⟨lv_sub hl [1, 2, 3, 4, 5, 6, 0] rfl, by omega⟩
          rintro c0 ls ⟨hl, hc⟩ ih_55
          refine lv_iload hx hb dX3_may_55 (lv_at hl 6 rfl) ?_
          refine lv_bipush (v := 7) hx hb dX3_may_57 (by decide) ?_
          refine lv_icmp_ge (tgt := 105) hx hb dX3_may_59 (by decide) (fun c_59 => ?_) (fun c_59 => ?_)
          · have c_59 : 7 ≤ c0 + 1 := (nI_leI (a := 7) (b := c0 + 1) (by omega) (by omega)).mp c_59
            obtain rfl : c0 = 6 := by omega
            refine lv_iinc (v := nI (x + 1)) (lv' := [(6, .int (nI (x + 1))), (1, .int (nI n1)), (2, .int (nI set1)), (3, .int (nI (mayN set1 k))), (4, .int (nI (k + 2))), (5, .int (nI (moI (k + 2) set1 x (moO (k + 2) set1 (mayN set1 k) x) ((mayN set1 k).testBit x) 6))), (7, .int (nI (6 + 1)))]) hx hb dX3_may_105 hl (k := 5) rfl (nI_1 _) (by decide) rfl (fun ls hl => ?_)
            refine lv_goto (tgt := 43) hx hb dX3_may_108 (by decide) ?_
            exact ih_43 (x + 1) _ (by omega) ⟨lv_sub hl [1, 2, 3, 4, 5, 0] rfl, by omega⟩
          · have c_59 : c0 + 1 < 7 := Nat.lt_of_not_le (fun h => c_59 ((nI_leI (a := 7) (b := c0 + 1) (by omega) (by omega)).mpr h))
            refine lv_iload_n hx hb dX3_may_62 rfl (lv_at hl 2 rfl) ?_
            refine lv_iload hx hb dX3_may_63 (lv_at hl 5 rfl) ?_
            refine lv_ishr hx hb dX3_may_65 ?_
            refine z_i (y := nI (mayN set1 k / 2 ^ x)) (shr_nI (by omega) (by omega)) ?_
            refine lv_iconst (v := 1) hx hb dX3_may_66 (by decide) ?_
            refine lv_iand hx hb dX3_may_67 ?_
            refine z_i (y := nI (mayN set1 k / 2 ^ x % 2)) (bit_nI _ _) ?_
            refine lv_iconst (v := 1) hx hb dX3_may_68 (by decide) ?_
            refine lv_icmp_ne (tgt := 99) hx hb dX3_may_69 (by decide) (fun c_69 => ?_) (fun c_69 => ?_)
            · have c_69 := tb_n1 c_69
              rw [show moI (k + 2) set1 x (moO (k + 2) set1 (mayN set1 k) x) ((mayN set1 k).testBit x) c0 = moI (k + 2) set1 x (moO (k + 2) set1 (mayN set1 k) x) ((mayN set1 k).testBit x) (c0 + 1) by simp [moI, c_69]] at hl
              refine lv_iinc (v := nI (c0 + 1 + 1)) (lv' := [(7, .int (nI (c0 + 1 + 1))), (1, .int (nI n1)), (2, .int (nI set1)), (3, .int (nI (mayN set1 k))), (4, .int (nI (k + 2))), (5, .int (nI (moI (k + 2) set1 x (moO (k + 2) set1 (mayN set1 k) x) ((mayN set1 k).testBit x) (c0 + 1)))), (6, .int (nI x))]) hx hb dX3_may_99 hl (k := 6) rfl (nI_1 _) (by decide) rfl (fun ls hl => ?_)
              refine lv_goto (tgt := 55) hx hb dX3_may_102 (by decide) ?_
              exact ih_55 (c0 + 1) _ (by omega) ⟨lv_sub hl [1, 2, 3, 4, 5, 6, 0] rfl, by omega⟩
            · have c_69 := bit_1.mp c_69
              refine lv_iload_n hx hb dX3_may_72 rfl (lv_at hl 1 rfl) ?_
              refine lv_iload hx hb dX3_may_73 (lv_at hl 6 rfl) ?_
              refine lv_iconst (v := 1) hx hb dX3_may_75 (by decide) ?_
              refine lv_isub hx hb dX3_may_76 ?_
              refine z_i (y := nI c0) (nI_pred c0) ?_
              refine lv_ishr hx hb dX3_may_77 ?_
              refine z_i (y := nI (set1 / 2 ^ c0)) (shr_nI (by omega) (by omega)) ?_
              refine lv_iconst (v := 1) hx hb dX3_may_78 (by decide) ?_
              refine lv_iand hx hb dX3_may_79 ?_
              refine z_i (y := nI (set1 / 2 ^ c0 % 2)) (bit_nI _ _) ?_
              refine lv_iconst (v := 1) hx hb dX3_may_80 (by decide) ?_
              refine lv_icmp_ne (tgt := 99) hx hb dX3_may_81 (by decide) (fun c_81 => ?_) (fun c_81 => ?_)
              · have c_81 := tb_n1 c_81
                rw [show moI (k + 2) set1 x (moO (k + 2) set1 (mayN set1 k) x) ((mayN set1 k).testBit x) c0 = moI (k + 2) set1 x (moO (k + 2) set1 (mayN set1 k) x) ((mayN set1 k).testBit x) (c0 + 1) by simp [moI, c_69, c_81]] at hl
                refine lv_iinc (v := nI (c0 + 1 + 1)) (lv' := [(7, .int (nI (c0 + 1 + 1))), (1, .int (nI n1)), (2, .int (nI set1)), (3, .int (nI (mayN set1 k))), (4, .int (nI (k + 2))), (5, .int (nI (moI (k + 2) set1 x (moO (k + 2) set1 (mayN set1 k) x) ((mayN set1 k).testBit x) (c0 + 1)))), (6, .int (nI x))]) hx hb dX3_may_99 hl (k := 6) rfl (nI_1 _) (by decide) rfl (fun ls hl => ?_)
                refine lv_goto (tgt := 55) hx hb dX3_may_102 (by decide) ?_
                exact ih_55 (c0 + 1) _ (by omega) ⟨lv_sub hl [1, 2, 3, 4, 5, 6, 0] rfl, by omega⟩
              · have c_81 := bit_1.mp c_81
                refine lv_iload hx hb dX3_may_84 (lv_at hl 4 rfl) ?_
                refine lv_iconst (v := 1) hx hb dX3_may_86 (by decide) ?_
                refine lv_iload hx hb dX3_may_87 (lv_at hl 5 rfl) ?_
                refine lv_iload hx hb dX3_may_89 (lv_at hl 6 rfl) ?_
                refine lv_iadd hx hb dX3_may_91 ?_
                refine z_i (y := nI (x + (c0 + 1))) (nI_add _ _) ?_
                refine lv_iload hx hb dX3_may_92 (lv_at hl 3 rfl) ?_
                refine lv_irem hx hb dX3_may_94 (nI_ne0 (by omega) (by omega)) ?_
                refine z_i (y := nI ((x + (c0 + 1)) % (k + 2))) (pk_rem (by omega) (by omega) (by omega)) ?_
                refine lv_ishl hx hb dX3_may_95 ?_
                refine z_i (y := nI (2 ^ ((x + (c0 + 1)) % (k + 2)))) (sh1 (by have := Nat.mod_lt (x + (c0 + 1)) (show 0 < k + 2 by omega); omega)) ?_
                refine lv_ior hx hb dX3_may_96 ?_
                refine z_i (y := nI (moI (k + 2) set1 x (moO (k + 2) set1 (mayN set1 k) x) ((mayN set1 k).testBit x) (c0 + 1))) (by rw [fa_or]; simp [moI, c_69, c_81]) ?_
                refine lv_istore (lv' := [(5, .int (nI (moI (k + 2) set1 x (moO (k + 2) set1 (mayN set1 k) x) ((mayN set1 k).testBit x) (c0 + 1)))), (1, .int (nI n1)), (2, .int (nI set1)), (3, .int (nI (mayN set1 k))), (4, .int (nI (k + 2))), (6, .int (nI x)), (7, .int (nI (c0 + 1)))]) hx hb dX3_may_97 hl (by decide) rfl (fun ls hl => ?_)
                refine lv_iinc (v := nI (c0 + 1 + 1)) (lv' := [(7, .int (nI (c0 + 1 + 1))), (5, .int (nI (moI (k + 2) set1 x (moO (k + 2) set1 (mayN set1 k) x) ((mayN set1 k).testBit x) (c0 + 1)))), (1, .int (nI n1)), (2, .int (nI set1)), (3, .int (nI (mayN set1 k))), (4, .int (nI (k + 2))), (6, .int (nI x))]) hx hb dX3_may_99 hl (k := 6) rfl (nI_1 _) (by decide) rfl (fun ls hl => ?_)
                refine lv_goto (tgt := 55) hx hb dX3_may_102 (by decide) ?_
                exact ih_55 (c0 + 1) _ (by omega) ⟨lv_sub hl [2, 3, 4, 5, 1, 6, 0] rfl, by omega⟩
    · have c_21 := zb_0.mp c_21
      refine lv_iconst (v := (-1)) hx hb dX3_may_24 (by decide) ?_
      have hP9 := hP.sub (ws' := [(h0, .inr (3, [.int 0, .long tr, .int pe, .ref a3, .ref a4, .ref a5, .int st, .int kd, .int wd, .ref a9, .int tn, .ref a11, .ref a12, .int sd, .ref a14, .ref a15, .ref a16]))]) [0] rfl
      have hD9 := hD.sub (ws' := [(h0, .inr (3, [.int 0, .long tr, .int pe, .ref a3, .ref a4, .ref a5, .int st, .int kd, .int wd, .ref a9, .int tn, .ref a11, .ref a12, .int sd, .ref a14, .ref a15, .ref a16]))]) [0] (by decide) rfl
      exact W.iret (v := (-1)) hx hb hr (fun t ht hW => ⟨⟨_, (), rfl, by unfold spMay; first | (rw [c_14, Bool.false_and, if_neg (by decide)]) | (rw [c_14, c_21, Bool.true_and, if_neg (by decide)]), ⟨by rw [ht]; exact hP9, va_K.moved hW.alike hK, hD9⟩⟩, hS.F ht⟩) hS.2.2 dX3_may_25

set_option maxHeartbeats 4000000 in
set_option maxRecDepth 100000 in
theorem c_X3_can (l : Launch) (dC : Nat → ClassId) (dI : Nat → Nat → Nat) (sz : Nat) (cA : ClassId) (h0 a3 a4 a5 a9 a11 a12 a14 a15 a16 : Nat) (tr : Int64) (pe st kd wd tn sd : Int32) (n own foe : Int32) (Mi Fo : Nat → Int32) : Met l yX3_can wsX3_can ({ frames := 2, cells := 0, slots := 0, locals := 45 }) (va_Pc [.ref h0, .int n, .int own, .int foe] (fun U => U.heap.size = sz ∧ va_P (dC, dI) vwCl [(h0, .inr (3, [.int 0, .long tr, .int pe, .ref a3, .ref a4, .ref a5, .int st, .int kd, .int wd, .ref a9, .int tn, .ref a11, .ref a12, .int sd, .ref a14, .ref a15, .ref a16])), (a15, .inl (cA, 13, .inl Mi)), (a16, .inl (cA, 13, .inl Fo))] U.heap ∧ va_K (dC, dI) vwCl [(cA, .int)] U ∧ va_D (fun _ => True) [(h0, .inr (3, [.int 0, .long tr, .int pe, .ref a3, .ref a4, .ref a5, .int st, .int kd, .int wd, .ref a9, .int tn, .ref a11, .ref a12, .int sd, .ref a14, .ref a15, .ref a16])), (a15, .inl (cA, 13, .inl Mi)), (a16, .inl (cA, 13, .inl Fo))])) (va_Qi (S := (Nat → Int32) × (Nat → Int32)) (fun r _ => r = spCan n own foe) (fun (u : (Nat → Int32) × (Nat → Int32)) (t : State) => va_P (dC, dI) vwCl [(h0, .inr (3, [.int 0, .long tr, .int pe, .ref a3, .ref a4, .ref a5, .int st, .int kd, .int wd, .ref a9, .int tn, .ref a11, .ref a12, .int sd, .ref a14, .ref a15, .ref a16])), (a15, .inl (cA, 13, .inl u.1)), (a16, .inl (cA, 13, .inl u.2))] t.heap ∧ va_K (dC, dI) vwCl [(cA, .int)] t ∧ va_D (va_A [(h0, .inr (3, [.int 0, .long tr, .int pe, .ref a3, .ref a4, .ref a5, .int st, .int kd, .int wd, .ref a9, .int tn, .ref a11, .ref a12, .int sd, .ref a14, .ref a15, .ref a16])), (a15, .inl (cA, 13, .inl Mi)), (a16, .inl (cA, 13, .inl Fo))] sz) [(h0, .inr (3, [.int 0, .long tr, .int pe, .ref a3, .ref a4, .ref a5, .int st, .int kd, .int wd, .ref a9, .int tn, .ref a11, .ref a12, .int sd, .ref a14, .ref a15, .ref a16])), (a15, .inl (cA, 13, .inl u.1)), (a16, .inl (cA, 13, .inl u.2))]) (va_A [(h0, .inr (3, [.int 0, .long tr, .int pe, .ref a3, .ref a4, .ref a5, .int st, .int kd, .int wd, .ref a9, .int tn, .ref a11, .ref a12, .int sd, .ref a14, .ref a15, .ref a16])), (a15, .inl (cA, 13, .inl Mi)), (a16, .inl (cA, 13, .inl Fo))] sz)) 0 0 (va_A [(h0, .inr (3, [.int 0, .long tr, .int pe, .ref a3, .ref a4, .ref a5, .int st, .int kd, .int wd, .ref a9, .int tn, .ref a11, .ref a12, .int sd, .ref a14, .ref a15, .ref a16])), (a15, .inl (cA, 13, .inl Mi)), (a16, .inl (cA, 13, .inl Fo))] sz) := by
  refine Met.ofW (cc := cX3_can) (maxL := 11) (ret := (some .int)) (by decide) rfl ?_
  intro p e s m args below meth c s₁ B hml hv
  obtain ⟨rfl, hsz, hP, hK, hD0⟩ := hv
  have hx := B.exec
  have hb := B.bytes
  have hr := B.returns
  have hts := atoms_spec (ws := wsX3_can) B.pre
  have hown : s.vm.findClass RX3 = some m.cls := findClass_of_methodNamed B.named
  have hlocks := B.notSynchronized
  subst hsz
  have hD := hD0.self (sz := s.heap.size)
  generalize hAe : va_A [(h0, .inr (3, [.int 0, .long tr, .int pe, .ref a3, .ref a4, .ref a5, .int st, .int kd, .int wd, .ref a9, .int tn, .ref a11, .ref a12, .int sd, .ref a14, .ref a15, .ref a16])), (a15, .inl (cA, 13, .inl Mi)), (a16, .inl (cA, 13, .inl Fo))] s.heap.size = A at hD ⊢
  have hA : ∀ q : Nat, s.heap.size ≤ q → A q := fun q h => by rw [← hAe]; exact Or.inr h
  have hS : va_S A s.heap s.heap [] := va_S.rf
  have hP : va_P (dC, dI) vwCl [(h0, .inr (3, [.int 0, .long tr, .int pe, .ref a3, .ref a4, .ref a5, .int st, .int kd, .int wd, .ref a9, .int tn, .ref a11, .ref a12, .int sd, .ref a14, .ref a15, .ref a16])), (a15, .inl (cA, 13, .inl Mi)), (a16, .inl (cA, 13, .inl Fo))] s.heap := hP
  have hl := lv_entry ([.ref h0, .int n, .int own, .int foe]) (n := 11) (Nat.le_of_ble_eq_true rfl)
  rw [lg_entry_eq]
  generalize (lg_sl ([.ref h0, .int n, .int own, .int foe]) ++ List.replicate (11 - (lg_sl ([.ref h0, .int n, .int own, .int foe])).length) Slot.unset).toArray = ls at hl ⊢
  have hl : lv_has ls 11 [(0, .ref h0), (1, .int n), (2, .int own), (3, .int foe)] := hl
  refine lv_aload_n hx hb dX3_can_0 rfl (lv_at hl 0 rfl) ?_
  refine lv_iconst (v := 0) hx hb dX3_can_1 (by decide) ?_
  refine va_put (D := (dC, dI)) (ci := 3) (v := .int 0) (ty := .int) (C := RX3) (T := TX3) (N := 17) hx hb hts (by decide +kernel) tyX3 tyX3_ok nmX3 hown hK hP hD hS 0 rfl rfl 0 (by decide) (hts (.fieldLink RX3 51 "CountedOutModel" "thrown" "I") (by decide +kernel)) (fun _ h9 => h9) rfl (by decide +kernel) rfl rfl (Nat.le_of_ble_eq_true rfl) dX3_can_2 (fun H locs hP hD hS => ?_)
  have hP : va_P (dC, dI) vwCl [(h0, .inr (3, [.int 0, .long tr, .int pe, .ref a3, .ref a4, .ref a5, .int st, .int kd, .int wd, .ref a9, .int tn, .ref a11, .ref a12, .int sd, .ref a14, .ref a15, .ref a16])), (a15, .inl (cA, 13, .inl Mi)), (a16, .inl (cA, 13, .inl Fo))] H := hP
  have hD : va_D A [(h0, .inr (3, [.int 0, .long tr, .int pe, .ref a3, .ref a4, .ref a5, .int st, .int kd, .int wd, .ref a9, .int tn, .ref a11, .ref a12, .int sd, .ref a14, .ref a15, .ref a16])), (a15, .inl (cA, 13, .inl Mi)), (a16, .inl (cA, 13, .inl Fo))] := hD
  refine lv_iload_n hx hb dX3_can_5 rfl (lv_at hl 1 rfl) ?_
  refine lv_i2l (v := n.toInt64) hx hb dX3_can_6 rfl ?_
  refine lv_lconst (v := 1) hx hb dX3_can_7 (by decide) ?_
  refine lv_ldc2 (v := 12) hx hb hown (hts (.constantLong RX3 139 (12)) (by decide +kernel)) dX3_can_8 ?_
  refine vp_callSi (va_Run.run (va_runS (As := [.long n.toInt64, .long 1, .long 12]) (rest := []) ⟨hx, hb, hml, hown, hts⟩ (c_X3_in l dC dI n.toInt64 1 12) (va_cwS 3 hts gX3_can_X3_in rfl rfl rfl (by decide +kernel) ⟨Nat.le_of_ble_eq_true rfl, Nat.le_of_ble_eq_true rfl⟩) ⟨fun a U g mk q => ⟨q.1, trivial⟩, fun U hU hW => ⟨rfl, trivial⟩⟩ rfl rfl hl.1 rfl (lv_room (Nat.le_of_ble_eq_true rfl)) dX3_can_11 ⟨Nat.zero_le _, Nat.zero_le _⟩)) (fun r_11 hr_11 => ?_)
  obtain rfl : r_11 = zb (wi n.toInt 1 12) := hr_11.trans (by rw [i2l_toInt]; rfl)
  refine lv_if_eq (tgt := 31) hx hb dX3_can_14 (by decide) (fun c_14 => ?_) (fun c_14 => ?_)
  · have c_14 := zb_0.mp c_14
    refine lv_iconst (v := (-1)) hx hb dX3_can_31 (by decide) ?_
    have hP9 := hP.sub (ws' := [(h0, .inr (3, [.int 0, .long tr, .int pe, .ref a3, .ref a4, .ref a5, .int st, .int kd, .int wd, .ref a9, .int tn, .ref a11, .ref a12, .int sd, .ref a14, .ref a15, .ref a16])), (a15, .inl (cA, 13, .inl Mi)), (a16, .inl (cA, 13, .inl Fo))]) [0, 1, 2] rfl
    have hD9 := hD.sub (ws' := [(h0, .inr (3, [.int 0, .long tr, .int pe, .ref a3, .ref a4, .ref a5, .int st, .int kd, .int wd, .ref a9, .int tn, .ref a11, .ref a12, .int sd, .ref a14, .ref a15, .ref a16])), (a15, .inl (cA, 13, .inl Mi)), (a16, .inl (cA, 13, .inl Fo))]) [0, 1, 2] (by decide) rfl
    exact W.iret (v := (-1)) hx hb hr (fun t ht hW => ⟨⟨_, (_, _), rfl, by unfold spCan; first | (rw [c_14, Bool.false_and, Bool.false_and, if_neg (by decide)]) | (rw [c_14, c_21, Bool.true_and, Bool.false_and, if_neg (by decide)]) | (rw [c_14, c_21, c_28, Bool.true_and, Bool.true_and, if_neg (by decide)]), ⟨by rw [ht]; exact hP9, va_K.moved hW.alike hK, hD9⟩⟩, hS.F ht⟩) hS.2.2 dX3_can_32
  · have c_14 := zb_n.mp c_14
    refine lv_iload_n hx hb dX3_can_17 rfl (lv_at hl 2 rfl) ?_
    refine vp_callSi (va_Run.run (va_runS (As := [.int own]) (rest := []) ⟨hx, hb, hml, hown, hts⟩ (c_X3_isSet l dC dI own) (va_cwS 1 hts gX3_can_X3_isSet rfl rfl rfl (by decide +kernel) ⟨Nat.le_of_ble_eq_true rfl, Nat.le_of_ble_eq_true rfl⟩) ⟨fun a U g mk q => ⟨q.1, trivial⟩, fun U hU hW => ⟨rfl, trivial⟩⟩ rfl rfl hl.1 rfl (lv_room (Nat.le_of_ble_eq_true rfl)) dX3_can_18 ⟨Nat.zero_le _, Nat.zero_le _⟩)) (fun r_18 hr_18 => ?_)
    subst hr_18
    refine lv_if_eq (tgt := 31) hx hb dX3_can_21 (by decide) (fun c_21 => ?_) (fun c_21 => ?_)
    · have c_21 := zb_0.mp c_21
      refine lv_iconst (v := (-1)) hx hb dX3_can_31 (by decide) ?_
      have hP9 := hP.sub (ws' := [(h0, .inr (3, [.int 0, .long tr, .int pe, .ref a3, .ref a4, .ref a5, .int st, .int kd, .int wd, .ref a9, .int tn, .ref a11, .ref a12, .int sd, .ref a14, .ref a15, .ref a16])), (a15, .inl (cA, 13, .inl Mi)), (a16, .inl (cA, 13, .inl Fo))]) [0, 1, 2] rfl
      have hD9 := hD.sub (ws' := [(h0, .inr (3, [.int 0, .long tr, .int pe, .ref a3, .ref a4, .ref a5, .int st, .int kd, .int wd, .ref a9, .int tn, .ref a11, .ref a12, .int sd, .ref a14, .ref a15, .ref a16])), (a15, .inl (cA, 13, .inl Mi)), (a16, .inl (cA, 13, .inl Fo))]) [0, 1, 2] (by decide) rfl
      exact W.iret (v := (-1)) hx hb hr (fun t ht hW => ⟨⟨_, (_, _), rfl, by unfold spCan; first | (rw [c_14, Bool.false_and, Bool.false_and, if_neg (by decide)]) | (rw [c_14, c_21, Bool.true_and, Bool.false_and, if_neg (by decide)]) | (rw [c_14, c_21, c_28, Bool.true_and, Bool.true_and, if_neg (by decide)]), ⟨by rw [ht]; exact hP9, va_K.moved hW.alike hK, hD9⟩⟩, hS.F ht⟩) hS.2.2 dX3_can_32
    · have c_21 := zb_n.mp c_21
      refine lv_iload_n hx hb dX3_can_24 rfl (lv_at hl 3 rfl) ?_
      refine vp_callSi (va_Run.run (va_runS (As := [.int foe]) (rest := []) ⟨hx, hb, hml, hown, hts⟩ (c_X3_isSet l dC dI foe) (va_cwS 1 hts gX3_can_X3_isSet rfl rfl rfl (by decide +kernel) ⟨Nat.le_of_ble_eq_true rfl, Nat.le_of_ble_eq_true rfl⟩) ⟨fun a U g mk q => ⟨q.1, trivial⟩, fun U hU hW => ⟨rfl, trivial⟩⟩ rfl rfl hl.1 rfl (lv_room (Nat.le_of_ble_eq_true rfl)) dX3_can_25 ⟨Nat.zero_le _, Nat.zero_le _⟩)) (fun r_25 hr_25 => ?_)
      subst hr_25
      refine lv_if_ne (tgt := 33) hx hb dX3_can_28 (by decide) (fun c_28 => ?_) (fun c_28 => ?_)
      · have c_28 := zb_n.mp c_28
        obtain ⟨n1, hn1, hn2, rfl⟩ := nI_wi (a := 1) (b := 12) c_14
        obtain ⟨own1, hown1, hown2, rfl⟩ := nI_wi (a := 1) (b := 63) c_21
        obtain ⟨foe1, hfoe1, hfoe2, rfl⟩ := nI_wi (a := 1) (b := 63) c_28
        refine lv_aload_n hx hb dX3_can_33 rfl (lv_at hl 0 rfl) ?_
        refine va_get (D := (dC, dI)) (ci := 3) (v := .ref a15) (C := RX3) (T := TX3) (N := 17) hx hb hts (by decide +kernel) hown hK hP 0 rfl rfl 15 (by decide) (hts (.fieldLink RX3 41 "CountedOutModel" "mine" "[I") (by decide +kernel)) (fun _ h9 => h9) rfl dX3_can_34 ?_
        refine lv_iconst (v := 1) hx hb dX3_can_37 (by decide) ?_
        refine lv_iconst (v := 1) hx hb dX3_can_38 (by decide) ?_
        refine z_iast hx hb hK hP hD hS 1 0 rfl rfl (i := 1) (by decide) (by decide) dX3_can_39 (fun H locs hP hD hS => ?_)
        have hP : va_P (dC, dI) vwCl [(h0, .inr (3, [.int 0, .long tr, .int pe, .ref a3, .ref a4, .ref a5, .int st, .int kd, .int wd, .ref a9, .int tn, .ref a11, .ref a12, .int sd, .ref a14, .ref a15, .ref a16])), (a15, .inl (cA, 13, .inl (upd Mi 1 1))), (a16, .inl (cA, 13, .inl Fo))] H := hP
        have hD : va_D A [(h0, .inr (3, [.int 0, .long tr, .int pe, .ref a3, .ref a4, .ref a5, .int st, .int kd, .int wd, .ref a9, .int tn, .ref a11, .ref a12, .int sd, .ref a14, .ref a15, .ref a16])), (a15, .inl (cA, 13, .inl (upd Mi 1 1))), (a16, .inl (cA, 13, .inl Fo))] := hD
        refine lv_aload_n hx hb dX3_can_40 rfl (lv_at hl 0 rfl) ?_
        refine va_get (D := (dC, dI)) (ci := 3) (v := .ref a16) (C := RX3) (T := TX3) (N := 17) hx hb hts (by decide +kernel) hown hK hP 0 rfl rfl 16 (by decide) (hts (.fieldLink RX3 44 "CountedOutModel" "foes" "[I") (by decide +kernel)) (fun _ h9 => h9) rfl dX3_can_41 ?_
        refine lv_iconst (v := 1) hx hb dX3_can_44 (by decide) ?_
        refine lv_iconst (v := 1) hx hb dX3_can_45 (by decide) ?_
        refine z_iast hx hb hK hP hD hS 2 0 rfl rfl (i := 1) (by decide) (by decide) dX3_can_46 (fun H locs hP hD hS => ?_)
        have hP : va_P (dC, dI) vwCl [(h0, .inr (3, [.int 0, .long tr, .int pe, .ref a3, .ref a4, .ref a5, .int st, .int kd, .int wd, .ref a9, .int tn, .ref a11, .ref a12, .int sd, .ref a14, .ref a15, .ref a16])), (a15, .inl (cA, 13, .inl (upd Mi 1 1))), (a16, .inl (cA, 13, .inl (upd Fo 1 1)))] H := hP
        have hD : va_D A [(h0, .inr (3, [.int 0, .long tr, .int pe, .ref a3, .ref a4, .ref a5, .int st, .int kd, .int wd, .ref a9, .int tn, .ref a11, .ref a12, .int sd, .ref a14, .ref a15, .ref a16])), (a15, .inl (cA, 13, .inl (upd Mi 1 1))), (a16, .inl (cA, 13, .inl (upd Fo 1 1)))] := hD
        refine lv_iconst (v := 2) hx hb dX3_can_47 (by decide) ?_
        refine lv_istore (lv' := [(4, .int 2), (0, .ref h0), (1, .int (nI n1)), (2, .int (nI own1)), (3, .int (nI foe1))]) hx hb dX3_can_48 hl (by decide) rfl (fun ls hl => ?_)
        refine W_loop (σ := Nat × (Nat → Int32) × (Nat → Int32)) (fun xx ls H locs => match xx with | (k, Mi, Fo) => lv_has ls 11 [(0, .ref h0), (1, .int (nI n1)), (2, .int (nI own1)), (3, .int (nI foe1)), (4, .int (nI (k + 2)))] ∧ va_P (dC, dI) vwCl [(h0, .inr (3, [.int 0, .long tr, .int pe, .ref a3, .ref a4, .ref a5, .int st, .int kd, .int wd, .ref a9, .int tn, .ref a11, .ref a12, .int sd, .ref a14, .ref a15, .ref a16])), (a15, .inl (cA, 13, .inl Mi)), (a16, .inl (cA, 13, .inl Fo))] H ∧ va_D A [(h0, .inr (3, [.int 0, .long tr, .int pe, .ref a3, .ref a4, .ref a5, .int st, .int kd, .int wd, .ref a9, .int tn, .ref a11, .ref a12, .int sd, .ref a14, .ref a15, .ref a16])), (a15, .inl (cA, 13, .inl Mi)), (a16, .inl (cA, 13, .inl Fo))] ∧ va_S A s.heap H locs ∧ k + 1 ≤ n1 ∧ Mi (k + 1) = nI (mfN own1 foe1 k).1 ∧ Fo (k + 1) = nI (mfN own1 foe1 k).2) (fun xx => match xx with | (k, Mi, Fo) => n1 - k) ?_ (0, upd Mi 1 1, upd Fo 1 1) ⟨lv_sub hl [1, 2, 3, 4, 0] rfl, hP, hD, hS, hn1, pk_us, pk_us⟩
        rintro ⟨k, Mi, Fo⟩ ls H locs ⟨hl, hP, hD, hS, hk, hM, hF⟩ ih_50
        have hml9 := mfN_lt own1 foe1 k
        have hp12 : (2 : Nat) ^ (k + 1) ≤ 2 ^ 12 := Nat.pow_le_pow_right (by decide) (by omega)
        refine lv_iload hx hb dX3_can_50 (lv_at hl 4 rfl) ?_
        refine lv_iload_n hx hb dX3_can_52 rfl (lv_at hl 1 rfl) ?_
        refine lv_icmp_gt (tgt := 286) hx hb dX3_can_53 (by decide) (fun c_53 => ?_) (fun c_53 => ?_)
        · have c_53 : n1 < k + 2 := (nI_ltI (a := n1) (b := k + 2) (by omega) (by omega)).mp c_53
          refine lv_aload_n hx hb dX3_can_286 rfl (lv_at hl 0 rfl) ?_
          refine va_get (D := (dC, dI)) (ci := 3) (v := .ref a15) (C := RX3) (T := TX3) (N := 17) hx hb hts (by decide +kernel) hown hK hP 0 rfl rfl 15 (by decide) (hts (.fieldLink RX3 41 "CountedOutModel" "mine" "[I") (by decide +kernel)) (fun _ h9 => h9) rfl dX3_can_287 ?_
          refine lv_iload_n hx hb dX3_can_290 rfl (lv_at hl 1 rfl) ?_
          refine z_iald hx hb hK hP 1 0 rfl rfl (i := n1) (by omega) (by decide) dX3_can_291 ?_
          refine z_i (y := nI (mfN own1 foe1 k).1) (by rw [show n1 = k + 1 by omega]; exact hM) ?_
          have hP9 := hP.sub (ws' := [(h0, .inr (3, [.int 0, .long tr, .int pe, .ref a3, .ref a4, .ref a5, .int st, .int kd, .int wd, .ref a9, .int tn, .ref a11, .ref a12, .int sd, .ref a14, .ref a15, .ref a16])), (a15, .inl (cA, 13, .inl Mi)), (a16, .inl (cA, 13, .inl Fo))]) [0, 1, 2] rfl
          have hD9 := hD.sub (ws' := [(h0, .inr (3, [.int 0, .long tr, .int pe, .ref a3, .ref a4, .ref a5, .int st, .int kd, .int wd, .ref a9, .int tn, .ref a11, .ref a12, .int sd, .ref a14, .ref a15, .ref a16])), (a15, .inl (cA, 13, .inl Mi)), (a16, .inl (cA, 13, .inl Fo))]) [0, 1, 2] (by decide) rfl
          exact W.iret (v := nI (mfN own1 foe1 k).1) hx hb hr (fun t ht hW => ⟨⟨_, (_, _), rfl, by rw [← spCan_t hn1 hn2 hown1 hown2 hfoe1 hfoe2, show n1 - 1 = k by omega], ⟨by rw [ht]; exact hP9, va_K.moved hW.alike hK, hD9⟩⟩, hS.F ht⟩) hS.2.2 dX3_can_292
        · have c_53 : k + 2 ≤ n1 := Nat.le_of_not_lt (fun h => c_53 ((nI_ltI (a := n1) (b := k + 2) (by omega) (by omega)).mpr h))
          refine lv_aload_n hx hb dX3_can_56 rfl (lv_at hl 0 rfl) ?_
          refine va_get (D := (dC, dI)) (ci := 3) (v := .ref a15) (C := RX3) (T := TX3) (N := 17) hx hb hts (by decide +kernel) hown hK hP 0 rfl rfl 15 (by decide) (hts (.fieldLink RX3 41 "CountedOutModel" "mine" "[I") (by decide +kernel)) (fun _ h9 => h9) rfl dX3_can_57 ?_
          refine lv_iload hx hb dX3_can_60 (lv_at hl 4 rfl) ?_
          refine lv_iconst (v := 0) hx hb dX3_can_62 (by decide) ?_
          refine z_iast hx hb hK hP hD hS 1 0 rfl rfl (i := (k + 2)) (by omega) (by decide) dX3_can_63 (fun H locs hP hD hS => ?_)
          have hP : va_P (dC, dI) vwCl [(h0, .inr (3, [.int 0, .long tr, .int pe, .ref a3, .ref a4, .ref a5, .int st, .int kd, .int wd, .ref a9, .int tn, .ref a11, .ref a12, .int sd, .ref a14, .ref a15, .ref a16])), (a15, .inl (cA, 13, .inl (upd Mi (k + 2) 0))), (a16, .inl (cA, 13, .inl Fo))] H := hP
          have hD : va_D A [(h0, .inr (3, [.int 0, .long tr, .int pe, .ref a3, .ref a4, .ref a5, .int st, .int kd, .int wd, .ref a9, .int tn, .ref a11, .ref a12, .int sd, .ref a14, .ref a15, .ref a16])), (a15, .inl (cA, 13, .inl (upd Mi (k + 2) 0))), (a16, .inl (cA, 13, .inl Fo))] := hD
          refine lv_aload_n hx hb dX3_can_64 rfl (lv_at hl 0 rfl) ?_
          refine va_get (D := (dC, dI)) (ci := 3) (v := .ref a16) (C := RX3) (T := TX3) (N := 17) hx hb hts (by decide +kernel) hown hK hP 0 rfl rfl 16 (by decide) (hts (.fieldLink RX3 44 "CountedOutModel" "foes" "[I") (by decide +kernel)) (fun _ h9 => h9) rfl dX3_can_65 ?_
          refine lv_iload hx hb dX3_can_68 (lv_at hl 4 rfl) ?_
          refine lv_iconst (v := 0) hx hb dX3_can_70 (by decide) ?_
          refine z_iast hx hb hK hP hD hS 2 0 rfl rfl (i := (k + 2)) (by omega) (by decide) dX3_can_71 (fun H locs hP hD hS => ?_)
          have hP : va_P (dC, dI) vwCl [(h0, .inr (3, [.int 0, .long tr, .int pe, .ref a3, .ref a4, .ref a5, .int st, .int kd, .int wd, .ref a9, .int tn, .ref a11, .ref a12, .int sd, .ref a14, .ref a15, .ref a16])), (a15, .inl (cA, 13, .inl (upd Mi (k + 2) 0))), (a16, .inl (cA, 13, .inl (upd Fo (k + 2) 0)))] H := hP
          have hD : va_D A [(h0, .inr (3, [.int 0, .long tr, .int pe, .ref a3, .ref a4, .ref a5, .int st, .int kd, .int wd, .ref a9, .int tn, .ref a11, .ref a12, .int sd, .ref a14, .ref a15, .ref a16])), (a15, .inl (cA, 13, .inl (upd Mi (k + 2) 0))), (a16, .inl (cA, 13, .inl (upd Fo (k + 2) 0)))] := hD
          refine lv_iconst (v := 0) hx hb dX3_can_72 (by decide) ?_
          refine lv_istore (lv' := [(5, .int 0), (0, .ref h0), (1, .int (nI n1)), (2, .int (nI own1)), (3, .int (nI foe1)), (4, .int (nI (k + 2)))]) hx hb dX3_can_73 hl (by decide) rfl (fun ls hl => ?_)
          refine W_loop (σ := Nat × (Nat → Int32) × (Nat → Int32)) (fun xx ls H locs => match xx with | (p0, Mi, Fo) => lv_has ls 11 [(0, .ref h0), (1, .int (nI n1)), (2, .int (nI own1)), (3, .int (nI foe1)), (4, .int (nI (k + 2))), (5, .int (nI p0))] ∧ va_P (dC, dI) vwCl [(h0, .inr (3, [.int 0, .long tr, .int pe, .ref a3, .ref a4, .ref a5, .int st, .int kd, .int wd, .ref a9, .int tn, .ref a11, .ref a12, .int sd, .ref a14, .ref a15, .ref a16])), (a15, .inl (cA, 13, .inl Mi)), (a16, .inl (cA, 13, .inl Fo))] H ∧ va_D A [(h0, .inr (3, [.int 0, .long tr, .int pe, .ref a3, .ref a4, .ref a5, .int st, .int kd, .int wd, .ref a9, .int tn, .ref a11, .ref a12, .int sd, .ref a14, .ref a15, .ref a16])), (a15, .inl (cA, 13, .inl Mi)), (a16, .inl (cA, 13, .inl Fo))] ∧ va_S A s.heap H locs ∧ p0 ≤ k + 2 ∧ Mi (k + 2) = nI (acc (fun p0 => mSm (k + 2) own1 (mfN own1 foe1 k).2 p0 6) p0) ∧ Fo (k + 2) = nI (acc (fun p0 => mAl (k + 2) foe1 (mfN own1 foe1 k).1 p0 6) p0) ∧ Mi (k + 1) = nI (mfN own1 foe1 k).1 ∧ Fo (k + 1) = nI (mfN own1 foe1 k).2) (fun xx => match xx with | (p0, Mi, Fo) => k + 2 - p0) ?_ (0, upd Mi (k + 2) 0, upd Fo (k + 2) 0) ⟨lv_sub hl [1, 2, 3, 4, 5, 0] rfl, hP, hD, hS, by omega, pk_us, pk_us, by rw [pk_un (by omega)]; exact hM, by rw [pk_un (by omega)]; exact hF⟩
          rintro ⟨p0, Mi, Fo⟩ ls H locs ⟨hl, hP, hD, hS, hp0, hM2, hF2, hM, hF⟩ ih_75
          refine lv_iload hx hb dX3_can_75 (lv_at hl 5 rfl) ?_
          refine lv_iload hx hb dX3_can_77 (lv_at hl 4 rfl) ?_
          refine lv_icmp_ge (tgt := 280) hx hb dX3_can_79 (by decide) (fun c_79 => ?_) (fun c_79 => ?_)
          · have c_79 : k + 2 ≤ p0 := (nI_leI (a := k + 2) (b := p0) (by omega) (by omega)).mp c_79
            refine lv_iinc (v := nI (k + 1 + 2)) (lv' := [(4, .int (nI (k + 1 + 2))), (0, .ref h0), (1, .int (nI n1)), (2, .int (nI own1)), (3, .int (nI foe1)), (5, .int (nI p0))]) hx hb dX3_can_280 hl (k := 4) rfl (nI_1 (k + 2)) (by decide) rfl (fun ls hl => ?_)
            refine lv_goto (tgt := 50) hx hb dX3_can_283 (by decide) ?_
            exact ih_50 (k + 1, Mi, Fo) _ _ _ (by show n1 - (k + 1) < n1 - k; omega) ⟨lv_sub hl [1, 2, 3, 4, 0] rfl, hP, hD, hS, by omega, hM2.trans (congrArg nI (by rw [show p0 = k + 2 by omega]; exact acc_S (by omega) (by omega) hml9.2)), hF2.trans (congrArg nI (by rw [show p0 = k + 2 by omega]; exact acc_A (by omega) (by omega) hml9.1))⟩
          · have c_79 : p0 < k + 2 := Nat.lt_of_not_le (fun h => c_79 ((nI_leI (a := k + 2) (b := p0) (by omega) (by omega)).mpr h))
            refine lv_iconst (v := 0) hx hb dX3_can_82 (by decide) ?_
            refine lv_istore (lv' := [(6, .int 0), (0, .ref h0), (1, .int (nI n1)), (2, .int (nI own1)), (3, .int (nI foe1)), (4, .int (nI (k + 2))), (5, .int (nI p0))]) hx hb dX3_can_83 hl (by decide) rfl (fun ls hl => ?_)
            refine lv_iconst (v := 1) hx hb dX3_can_85 (by decide) ?_
            refine lv_istore (lv' := [(7, .int 1), (6, .int 0), (0, .ref h0), (1, .int (nI n1)), (2, .int (nI own1)), (3, .int (nI foe1)), (4, .int (nI (k + 2))), (5, .int (nI p0))]) hx hb dX3_can_86 hl (by decide) rfl (fun ls hl => ?_)
            refine lv_iconst (v := 1) hx hb dX3_can_88 (by decide) ?_
            refine lv_istore (lv' := [(8, .int 1), (7, .int 1), (6, .int 0), (0, .ref h0), (1, .int (nI n1)), (2, .int (nI own1)), (3, .int (nI foe1)), (4, .int (nI (k + 2))), (5, .int (nI p0))]) hx hb dX3_can_89 hl (by decide) rfl (fun ls hl => ?_)
            refine W_loopR (σ := Nat) (fun c0 ls => lv_has ls 11 [(0, .ref h0), (1, .int (nI n1)), (2, .int (nI own1)), (3, .int (nI foe1)), (4, .int (nI (k + 2))), (5, .int (nI p0)), (6, .int (zb (mSm (k + 2) own1 (mfN own1 foe1 k).2 p0 c0))), (7, .int (zb (mAl (k + 2) foe1 (mfN own1 foe1 k).1 p0 c0))), (8, .int (nI (c0 + 1)))] ∧ c0 ≤ 6) (fun c0 => 6 - c0) ?_ 0 ⟨lv_sub hl [3, 4, 5, 6, 7, 8, 2, 1, 0] rfl, by omega⟩
            rintro c0 ls ⟨hl, hc⟩ ih_91
            refine lv_iload hx hb dX3_can_91 (lv_at hl 8 rfl) ?_
            refine lv_bipush (v := 7) hx hb dX3_can_93 (by decide) ?_
            refine lv_icmp_ge (tgt := 228) hx hb dX3_can_95 (by decide) (fun c_95 => ?_) (fun c_95 => ?_)
            · have c_95 : 7 ≤ c0 + 1 := (nI_leI (a := 7) (b := c0 + 1) (by omega) (by omega)).mp c_95
              obtain rfl : c0 = 6 := by omega
              refine lv_aload_n hx hb dX3_can_228 rfl (lv_at hl 0 rfl) ?_
              refine va_get (D := (dC, dI)) (ci := 3) (v := .ref a15) (C := RX3) (T := TX3) (N := 17) hx hb hts (by decide +kernel) hown hK hP 0 rfl rfl 15 (by decide) (hts (.fieldLink RX3 41 "CountedOutModel" "mine" "[I") (by decide +kernel)) (fun _ h9 => h9) rfl dX3_can_229 ?_
              refine lv_iload hx hb dX3_can_232 (lv_at hl 4 rfl) ?_
              refine lv_dup2_11 hx hb dX3_can_234 rfl rfl ?_
              refine z_iald hx hb hK hP 1 0 rfl rfl (i := (k + 2)) (by omega) (by decide) dX3_can_235 ?_
              refine z_i (y := nI (acc (fun p0 => mSm (k + 2) own1 (mfN own1 foe1 k).2 p0 6) p0)) (hM2) ?_
              refine W_join (α := Int32) (pc' := 249) (ls' := ls) (st' := fun v => [.int v, .int (nI (acc (fun p0 => mSm (k + 2) own1 (mfN own1 foe1 k).2 p0 6) p0)), .int (nI (k + 2)), .ref a15]) (Pj := fun v => v = nI (if mSm (k + 2) own1 (mfN own1 foe1 k).2 p0 6 = true then 2 ^ p0 else 0)) (fun J_249 => ?_) (fun v_249 hv_249 => ?_)
              · refine lv_iload hx hb dX3_can_236 (lv_at hl 6 rfl) ?_
                refine lv_if_eq (tgt := 248) hx hb dX3_can_238 (by decide) (fun c_238 => ?_) (fun c_238 => ?_)
                · have c_238 := zb_0.mp c_238
                  refine lv_iconst (v := 0) hx hb dX3_can_248 (by decide) ?_
                  exact J_249 _ (by first | (rw [if_pos c_238]) | (rw [if_neg (by rw [c_238]; decide)]; rfl))
                · have c_238 := zb_n.mp c_238
                  refine lv_iconst (v := 1) hx hb dX3_can_241 (by decide) ?_
                  refine lv_iload hx hb dX3_can_242 (lv_at hl 5 rfl) ?_
                  refine lv_ishl hx hb dX3_can_244 ?_
                  refine z_i (y := nI (2 ^ p0)) (sh1 (by omega)) ?_
                  refine lv_goto (tgt := 249) hx hb dX3_can_245 (by decide) ?_
                  exact J_249 _ (by first | (rw [if_pos c_238]) | (rw [if_neg (by rw [c_238]; decide)]; rfl))
              subst hv_249
              refine lv_ior hx hb dX3_can_249 ?_
              refine z_i (y := nI (acc (fun p0 => mSm (k + 2) own1 (mfN own1 foe1 k).2 p0 6) (p0 + 1))) (fa_or _ _) ?_
              refine z_iast hx hb hK hP hD hS 1 0 rfl rfl (i := (k + 2)) (by omega) (by decide) dX3_can_250 (fun H locs hP hD hS => ?_)
              have hP : va_P (dC, dI) vwCl [(h0, .inr (3, [.int 0, .long tr, .int pe, .ref a3, .ref a4, .ref a5, .int st, .int kd, .int wd, .ref a9, .int tn, .ref a11, .ref a12, .int sd, .ref a14, .ref a15, .ref a16])), (a15, .inl (cA, 13, .inl (upd Mi (k + 2) (nI (acc (fun p0 => mSm (k + 2) own1 (mfN own1 foe1 k).2 p0 6) (p0 + 1)))))), (a16, .inl (cA, 13, .inl Fo))] H := hP
              have hD : va_D A [(h0, .inr (3, [.int 0, .long tr, .int pe, .ref a3, .ref a4, .ref a5, .int st, .int kd, .int wd, .ref a9, .int tn, .ref a11, .ref a12, .int sd, .ref a14, .ref a15, .ref a16])), (a15, .inl (cA, 13, .inl (upd Mi (k + 2) (nI (acc (fun p0 => mSm (k + 2) own1 (mfN own1 foe1 k).2 p0 6) (p0 + 1)))))), (a16, .inl (cA, 13, .inl Fo))] := hD
              refine lv_aload_n hx hb dX3_can_251 rfl (lv_at hl 0 rfl) ?_
              refine va_get (D := (dC, dI)) (ci := 3) (v := .ref a16) (C := RX3) (T := TX3) (N := 17) hx hb hts (by decide +kernel) hown hK hP 0 rfl rfl 16 (by decide) (hts (.fieldLink RX3 44 "CountedOutModel" "foes" "[I") (by decide +kernel)) (fun _ h9 => h9) rfl dX3_can_252 ?_
              refine lv_iload hx hb dX3_can_255 (lv_at hl 4 rfl) ?_
              refine lv_dup2_11 hx hb dX3_can_257 rfl rfl ?_
              refine z_iald hx hb hK hP 2 0 rfl rfl (i := (k + 2)) (by omega) (by decide) dX3_can_258 ?_
              refine z_i (y := nI (acc (fun p0 => mAl (k + 2) foe1 (mfN own1 foe1 k).1 p0 6) p0)) (hF2) ?_
              refine W_join (α := Int32) (pc' := 272) (ls' := ls) (st' := fun v => [.int v, .int (nI (acc (fun p0 => mAl (k + 2) foe1 (mfN own1 foe1 k).1 p0 6) p0)), .int (nI (k + 2)), .ref a16]) (Pj := fun v => v = nI (if mAl (k + 2) foe1 (mfN own1 foe1 k).1 p0 6 = true then 2 ^ p0 else 0)) (fun J_272 => ?_) (fun v_272 hv_272 => ?_)
              · refine lv_iload hx hb dX3_can_259 (lv_at hl 7 rfl) ?_
                refine lv_if_eq (tgt := 271) hx hb dX3_can_261 (by decide) (fun c_261 => ?_) (fun c_261 => ?_)
                · have c_261 := zb_0.mp c_261
                  refine lv_iconst (v := 0) hx hb dX3_can_271 (by decide) ?_
                  exact J_272 _ (by first | (rw [if_pos c_261]) | (rw [if_neg (by rw [c_261]; decide)]; rfl))
                · have c_261 := zb_n.mp c_261
                  refine lv_iconst (v := 1) hx hb dX3_can_264 (by decide) ?_
                  refine lv_iload hx hb dX3_can_265 (lv_at hl 5 rfl) ?_
                  refine lv_ishl hx hb dX3_can_267 ?_
                  refine z_i (y := nI (2 ^ p0)) (sh1 (by omega)) ?_
                  refine lv_goto (tgt := 272) hx hb dX3_can_268 (by decide) ?_
                  exact J_272 _ (by first | (rw [if_pos c_261]) | (rw [if_neg (by rw [c_261]; decide)]; rfl))
              subst hv_272
              refine lv_ior hx hb dX3_can_272 ?_
              refine z_i (y := nI (acc (fun p0 => mAl (k + 2) foe1 (mfN own1 foe1 k).1 p0 6) (p0 + 1))) (fa_or _ _) ?_
              refine z_iast hx hb hK hP hD hS 2 0 rfl rfl (i := (k + 2)) (by omega) (by decide) dX3_can_273 (fun H locs hP hD hS => ?_)
              have hP : va_P (dC, dI) vwCl [(h0, .inr (3, [.int 0, .long tr, .int pe, .ref a3, .ref a4, .ref a5, .int st, .int kd, .int wd, .ref a9, .int tn, .ref a11, .ref a12, .int sd, .ref a14, .ref a15, .ref a16])), (a15, .inl (cA, 13, .inl (upd Mi (k + 2) (nI (acc (fun p0 => mSm (k + 2) own1 (mfN own1 foe1 k).2 p0 6) (p0 + 1)))))), (a16, .inl (cA, 13, .inl (upd Fo (k + 2) (nI (acc (fun p0 => mAl (k + 2) foe1 (mfN own1 foe1 k).1 p0 6) (p0 + 1))))))] H := hP
              have hD : va_D A [(h0, .inr (3, [.int 0, .long tr, .int pe, .ref a3, .ref a4, .ref a5, .int st, .int kd, .int wd, .ref a9, .int tn, .ref a11, .ref a12, .int sd, .ref a14, .ref a15, .ref a16])), (a15, .inl (cA, 13, .inl (upd Mi (k + 2) (nI (acc (fun p0 => mSm (k + 2) own1 (mfN own1 foe1 k).2 p0 6) (p0 + 1)))))), (a16, .inl (cA, 13, .inl (upd Fo (k + 2) (nI (acc (fun p0 => mAl (k + 2) foe1 (mfN own1 foe1 k).1 p0 6) (p0 + 1))))))] := hD
              refine lv_iinc (v := nI (p0 + 1)) (lv' := [(5, .int (nI (p0 + 1))), (0, .ref h0), (1, .int (nI n1)), (2, .int (nI own1)), (3, .int (nI foe1)), (4, .int (nI (k + 2))), (6, .int (zb (mSm (k + 2) own1 (mfN own1 foe1 k).2 p0 6))), (7, .int (zb (mAl (k + 2) foe1 (mfN own1 foe1 k).1 p0 6))), (8, .int (nI (6 + 1)))]) hx hb dX3_can_274 hl (k := 5) rfl (nI_1 _) (by decide) rfl (fun ls hl => ?_)
              refine lv_goto (tgt := 75) hx hb dX3_can_277 (by decide) ?_
              exact ih_75 (p0 + 1, upd Mi (k + 2) (nI (acc (fun p0 => mSm (k + 2) own1 (mfN own1 foe1 k).2 p0 6) (p0 + 1))), upd Fo (k + 2) (nI (acc (fun p0 => mAl (k + 2) foe1 (mfN own1 foe1 k).1 p0 6) (p0 + 1)))) _ _ _ (by show k + 2 - (p0 + 1) < k + 2 - p0; omega) ⟨lv_sub hl [1, 2, 3, 4, 5, 0] rfl, hP, hD, hS, by omega, pk_us, pk_us, by rw [pk_un (by omega)]; exact hM, by rw [pk_un (by omega)]; exact hF⟩
            · have c_95 : c0 + 1 < 7 := Nat.lt_of_not_le (fun h => c_95 ((nI_leI (a := 7) (b := c0 + 1) (by omega) (by omega)).mpr h))
              have hr1 := Nat.mod_lt c0 (show 0 < k + 2 by omega)
              have hr2 := Nat.mod_lt (c0 + 1) (show 0 < k + 2 by omega)
              refine W_join (α := Int32) (pc' := 115) (ls' := ls) (st' := fun v => [.int v]) (Pj := fun v => v = zb (decide (c0 % (k + 2) = p0))) (fun J_115 => ?_) (fun v_115 hv_115 => ?_)
              · refine lv_iload hx hb dX3_can_98 (lv_at hl 8 rfl) ?_
                refine lv_iconst (v := 1) hx hb dX3_can_100 (by decide) ?_
                refine lv_isub hx hb dX3_can_101 ?_
                refine z_i (y := nI c0) (nI_pred c0) ?_
                refine lv_iload hx hb dX3_can_102 (lv_at hl 4 rfl) ?_
                refine lv_irem hx hb dX3_can_104 (nI_ne0 (by omega) (by omega)) ?_
                refine z_i (y := nI (c0 % (k + 2))) (pk_rem (by omega) (by omega) (by omega)) ?_
                refine lv_iload hx hb dX3_can_105 (lv_at hl 5 rfl) ?_
                refine lv_icmp_ne (tgt := 114) hx hb dX3_can_107 (by decide) (fun c_107 => ?_) (fun c_107 => ?_)
                · have c_107 : ¬ c0 % (k + 2) = p0 := fun h => c_107 ((nI_eq (a := c0 % (k + 2)) (b := p0) (by omega) (by omega)).mpr h)
                  refine lv_iconst (v := 0) hx hb dX3_can_114 (by decide) ?_
                  exact J_115 _ (by first | (rw [decide_eq_true c_107]; rfl) | (rw [decide_eq_false c_107]; rfl))
                · have c_107 : c0 % (k + 2) = p0 := (nI_eq (a := c0 % (k + 2)) (b := p0) (by omega) (by omega)).mp c_107
                  refine lv_iconst (v := 1) hx hb dX3_can_110 (by decide) ?_
                  refine lv_goto (tgt := 115) hx hb dX3_can_111 (by decide) ?_
                  exact J_115 _ (by first | (rw [decide_eq_true c_107]; rfl) | (rw [decide_eq_false c_107]; rfl))
              subst hv_115
              refine lv_istore (lv' := [(9, .int (zb (decide (c0 % (k + 2) = p0)))), (0, .ref h0), (1, .int (nI n1)), (2, .int (nI own1)), (3, .int (nI foe1)), (4, .int (nI (k + 2))), (5, .int (nI p0)), (6, .int (zb (mSm (k + 2) own1 (mfN own1 foe1 k).2 p0 c0))), (7, .int (zb (mAl (k + 2) foe1 (mfN own1 foe1 k).1 p0 c0))), (8, .int (nI (c0 + 1)))]) hx hb dX3_can_115 hl (by decide) rfl (fun ls hl => ?_)
              refine lv_iload hx hb dX3_can_117 (lv_at hl 6 rfl) ?_
              refine lv_iload hx hb dX3_can_119 (lv_at hl 9 rfl) ?_
              refine lv_iload hx hb dX3_can_121 (lv_at hl 5 rfl) ?_
              refine lv_irem hx hb dX3_can_123 (nI_ne0 (by omega) (by omega)) ?_
              refine z_i (y := nI ((c0 + 1) % (k + 2))) (pk_rem (by omega) (by omega) (by omega)) ?_
              refine lv_isub hx hb dX3_can_124 ?_
              refine lv_iload hx hb dX3_can_125 (lv_at hl 5 rfl) ?_
              refine lv_iadd hx hb dX3_can_127 ?_
              refine z_i (y := nI (p0 + (k + 2) - (c0 + 1) % (k + 2))) (sTo_int (by omega)) ?_
              refine lv_iload hx hb dX3_can_128 (lv_at hl 5 rfl) ?_
              refine lv_irem hx hb dX3_can_130 (nI_ne0 (by omega) (by omega)) ?_
              refine z_i (y := nI (sTo (k + 2) (c0 + 1) p0)) (pk_rem (by omega) (by omega) (by omega)) ?_
              refine lv_istore (lv' := [(10, .int (nI (sTo (k + 2) (c0 + 1) p0))), (9, .int (zb (decide (c0 % (k + 2) = p0)))), (0, .ref h0), (1, .int (nI n1)), (2, .int (nI own1)), (3, .int (nI foe1)), (4, .int (nI (k + 2))), (5, .int (nI p0)), (6, .int (zb (mSm (k + 2) own1 (mfN own1 foe1 k).2 p0 c0))), (7, .int (zb (mAl (k + 2) foe1 (mfN own1 foe1 k).1 p0 c0))), (8, .int (nI (c0 + 1)))]) hx hb dX3_can_131 hl (by decide) rfl (fun ls hl => ?_)
              have hto : (sTo (k + 2) (c0 + 1) p0) < k + 2 := Nat.mod_lt _ (by omega)
              refine lv_iload hx hb dX3_can_133 (lv_at hl 8 rfl) ?_
              refine W_join (α := Int32) (pc' := 175) (ls' := ls) (st' := fun v => [.int v, .int (zb (mSm (k + 2) own1 (mfN own1 foe1 k).2 p0 c0))]) (Pj := fun v => v = zb (own1.testBit c0 && !decide (c0 % (k + 2) = p0) && (mfN own1 foe1 k).2.testBit (sTo (k + 2) (c0 + 1) p0))) (fun J_175 => ?_) (fun v_175 hv_175 => ?_)
              · refine lv_iload_n hx hb dX3_can_135 rfl (lv_at hl 4 rfl) ?_
                refine lv_iload hx hb dX3_can_136 (lv_at hl 10 rfl) ?_
                refine lv_iconst (v := 1) hx hb dX3_can_138 (by decide) ?_
                refine lv_isub hx hb dX3_can_139 ?_
                refine z_i (y := nI c0) (nI_pred c0) ?_
                refine lv_ishr hx hb dX3_can_140 ?_
                refine z_i (y := nI (own1 / 2 ^ c0)) (shr_nI (by omega) (by omega)) ?_
                refine lv_iconst (v := 1) hx hb dX3_can_141 (by decide) ?_
                refine lv_iand hx hb dX3_can_142 ?_
                refine z_i (y := nI (own1 / 2 ^ c0 % 2)) (bit_nI _ _) ?_
                refine lv_iconst (v := 1) hx hb dX3_can_143 (by decide) ?_
                refine lv_icmp_ne (tgt := 174) hx hb dX3_can_144 (by decide) (fun c_144 => ?_) (fun c_144 => ?_)
                · have c_144 := tb_n1 c_144
                  refine lv_iconst (v := 0) hx hb dX3_can_174 (by decide) ?_
                  exact J_175 _ (by first | (rw [c_144, c_149, c_167]; rfl) | (rw [c_144, c_149]; rfl) | (rw [c_144]; rfl))
                · have c_144 := bit_1.mp c_144
                  refine lv_iload hx hb dX3_can_147 (lv_at hl 1 rfl) ?_
                  refine lv_if_ne (tgt := 174) hx hb dX3_can_149 (by decide) (fun c_149 => ?_) (fun c_149 => ?_)
                  · have c_149 := zb_n.mp c_149
                    refine lv_iconst (v := 0) hx hb dX3_can_174 (by decide) ?_
                    exact J_175 _ (by first | (rw [c_144, c_149, c_167]; rfl) | (rw [c_144, c_149]; rfl) | (rw [c_144]; rfl))
                  · have c_149 := zb_0.mp c_149
                    refine lv_aload_n hx hb dX3_can_152 rfl (lv_at hl 2 rfl) ?_
                    refine va_get (D := (dC, dI)) (ci := 3) (v := .ref a16) (C := RX3) (T := TX3) (N := 17) hx hb hts (by decide +kernel) hown hK hP 0 rfl rfl 16 (by decide) (hts (.fieldLink RX3 44 "CountedOutModel" "foes" "[I") (by decide +kernel)) (fun _ h9 => h9) rfl dX3_can_153 ?_
                    refine lv_iload hx hb dX3_can_156 (lv_at hl 6 rfl) ?_
                    refine lv_iconst (v := 1) hx hb dX3_can_158 (by decide) ?_
                    refine lv_isub hx hb dX3_can_159 ?_
                    refine z_i (y := nI (k + 1)) (nI_pred (k + 1)) ?_
                    refine z_iald hx hb hK hP 2 0 rfl rfl (i := (k + 1)) (by omega) (by decide) dX3_can_160 ?_
                    refine z_i (y := nI (mfN own1 foe1 k).2) (hF) ?_
                    refine lv_iload hx hb dX3_can_161 (lv_at hl 0 rfl) ?_
                    refine lv_ishr hx hb dX3_can_163 ?_
                    refine z_i (y := nI ((mfN own1 foe1 k).2 / 2 ^ (sTo (k + 2) (c0 + 1) p0))) (shr_nI (by omega) (by omega)) ?_
                    refine lv_iconst (v := 1) hx hb dX3_can_164 (by decide) ?_
                    refine lv_iand hx hb dX3_can_165 ?_
                    refine z_i (y := nI ((mfN own1 foe1 k).2 / 2 ^ (sTo (k + 2) (c0 + 1) p0) % 2)) (bit_nI _ _) ?_
                    refine lv_iconst (v := 1) hx hb dX3_can_166 (by decide) ?_
                    refine lv_icmp_ne (tgt := 174) hx hb dX3_can_167 (by decide) (fun c_167 => ?_) (fun c_167 => ?_)
                    · have c_167 := tb_n1 c_167
                      refine lv_iconst (v := 0) hx hb dX3_can_174 (by decide) ?_
                      exact J_175 _ (by first | (rw [c_144, c_149, c_167]; rfl) | (rw [c_144, c_149]; rfl) | (rw [c_144]; rfl))
                    · have c_167 := bit_1.mp c_167
                      refine lv_iconst (v := 1) hx hb dX3_can_170 (by decide) ?_
                      refine lv_goto (tgt := 175) hx hb dX3_can_171 (by decide) ?_
                      exact J_175 _ (by first | (rw [c_144, c_149, c_167]; rfl) | (rw [c_144, c_149]; rfl) | (rw [c_144]; rfl))
              subst hv_175
              refine lv_ior hx hb dX3_can_175 ?_
              refine z_i (y := zb (mSm (k + 2) own1 (mfN own1 foe1 k).2 p0 (c0 + 1))) (by rw [zb_or]; rfl) ?_
              refine lv_istore (lv' := [(6, .int (zb (mSm (k + 2) own1 (mfN own1 foe1 k).2 p0 (c0 + 1)))), (10, .int (nI (sTo (k + 2) (c0 + 1) p0))), (9, .int (zb (decide (c0 % (k + 2) = p0)))), (0, .ref h0), (1, .int (nI n1)), (2, .int (nI own1)), (3, .int (nI foe1)), (4, .int (nI (k + 2))), (5, .int (nI p0)), (7, .int (zb (mAl (k + 2) foe1 (mfN own1 foe1 k).1 p0 c0))), (8, .int (nI (c0 + 1)))]) hx hb dX3_can_176 hl (by decide) rfl (fun ls hl => ?_)
              refine lv_iload hx hb dX3_can_178 (lv_at hl 9 rfl) ?_
              refine W_join (α := Int32) (pc' := 219) (ls' := ls) (st' := fun v => [.int v, .int (zb (mAl (k + 2) foe1 (mfN own1 foe1 k).1 p0 c0))]) (Pj := fun v => v = zb (!foe1.testBit c0 || (!decide (c0 % (k + 2) = p0) && (mfN own1 foe1 k).1.testBit (sTo (k + 2) (c0 + 1) p0)))) (fun J_219 => ?_) (fun v_219 hv_219 => ?_)
              · refine lv_iload_n hx hb dX3_can_180 rfl (lv_at hl 6 rfl) ?_
                refine lv_iload hx hb dX3_can_181 (lv_at hl 10 rfl) ?_
                refine lv_iconst (v := 1) hx hb dX3_can_183 (by decide) ?_
                refine lv_isub hx hb dX3_can_184 ?_
                refine z_i (y := nI c0) (nI_pred c0) ?_
                refine lv_ishr hx hb dX3_can_185 ?_
                refine z_i (y := nI (foe1 / 2 ^ c0)) (shr_nI (by omega) (by omega)) ?_
                refine lv_iconst (v := 1) hx hb dX3_can_186 (by decide) ?_
                refine lv_iand hx hb dX3_can_187 ?_
                refine z_i (y := nI (foe1 / 2 ^ c0 % 2)) (bit_nI _ _) ?_
                refine lv_if_eq (tgt := 214) hx hb dX3_can_188 (by decide) (fun c_188 => ?_) (fun c_188 => ?_)
                · have c_188 := bit_0.mp c_188
                  refine lv_iconst (v := 1) hx hb dX3_can_214 (by decide) ?_
                  refine lv_goto (tgt := 219) hx hb dX3_can_215 (by decide) ?_
                  exact J_219 _ (by first | (rw [c_188, c_193, c_211]; rfl) | (rw [c_188, c_193]; rfl) | (rw [c_188]; rfl))
                · have c_188 := tb_n0 c_188
                  refine lv_iload hx hb dX3_can_191 (lv_at hl 2 rfl) ?_
                  refine lv_if_ne (tgt := 218) hx hb dX3_can_193 (by decide) (fun c_193 => ?_) (fun c_193 => ?_)
                  · have c_193 := zb_n.mp c_193
                    refine lv_iconst (v := 0) hx hb dX3_can_218 (by decide) ?_
                    exact J_219 _ (by first | (rw [c_188, c_193, c_211]; rfl) | (rw [c_188, c_193]; rfl) | (rw [c_188]; rfl))
                  · have c_193 := zb_0.mp c_193
                    refine lv_aload_n hx hb dX3_can_196 rfl (lv_at hl 3 rfl) ?_
                    refine va_get (D := (dC, dI)) (ci := 3) (v := .ref a15) (C := RX3) (T := TX3) (N := 17) hx hb hts (by decide +kernel) hown hK hP 0 rfl rfl 15 (by decide) (hts (.fieldLink RX3 41 "CountedOutModel" "mine" "[I") (by decide +kernel)) (fun _ h9 => h9) rfl dX3_can_197 ?_
                    refine lv_iload hx hb dX3_can_200 (lv_at hl 7 rfl) ?_
                    refine lv_iconst (v := 1) hx hb dX3_can_202 (by decide) ?_
                    refine lv_isub hx hb dX3_can_203 ?_
                    refine z_i (y := nI (k + 1)) (nI_pred (k + 1)) ?_
                    refine z_iald hx hb hK hP 1 0 rfl rfl (i := (k + 1)) (by omega) (by decide) dX3_can_204 ?_
                    refine z_i (y := nI (mfN own1 foe1 k).1) (hM) ?_
                    refine lv_iload hx hb dX3_can_205 (lv_at hl 1 rfl) ?_
                    refine lv_ishr hx hb dX3_can_207 ?_
                    refine z_i (y := nI ((mfN own1 foe1 k).1 / 2 ^ (sTo (k + 2) (c0 + 1) p0))) (shr_nI (by omega) (by omega)) ?_
                    refine lv_iconst (v := 1) hx hb dX3_can_208 (by decide) ?_
                    refine lv_iand hx hb dX3_can_209 ?_
                    refine z_i (y := nI ((mfN own1 foe1 k).1 / 2 ^ (sTo (k + 2) (c0 + 1) p0) % 2)) (bit_nI _ _) ?_
                    refine lv_iconst (v := 1) hx hb dX3_can_210 (by decide) ?_
                    refine lv_icmp_ne (tgt := 218) hx hb dX3_can_211 (by decide) (fun c_211 => ?_) (fun c_211 => ?_)
                    · have c_211 := tb_n1 c_211
                      refine lv_iconst (v := 0) hx hb dX3_can_218 (by decide) ?_
                      exact J_219 _ (by first | (rw [c_188, c_193, c_211]; rfl) | (rw [c_188, c_193]; rfl) | (rw [c_188]; rfl))
                    · have c_211 := bit_1.mp c_211
                      refine lv_iconst (v := 1) hx hb dX3_can_214 (by decide) ?_
                      refine lv_goto (tgt := 219) hx hb dX3_can_215 (by decide) ?_
                      exact J_219 _ (by first | (rw [c_188, c_193, c_211]; rfl) | (rw [c_188, c_193]; rfl) | (rw [c_188]; rfl))
              subst hv_219
              refine lv_iand hx hb dX3_can_219 ?_
              refine z_i (y := zb (mAl (k + 2) foe1 (mfN own1 foe1 k).1 p0 (c0 + 1))) (by rw [zb_and]; rfl) ?_
              refine lv_istore (lv' := [(7, .int (zb (mAl (k + 2) foe1 (mfN own1 foe1 k).1 p0 (c0 + 1)))), (6, .int (zb (mSm (k + 2) own1 (mfN own1 foe1 k).2 p0 (c0 + 1)))), (10, .int (nI (sTo (k + 2) (c0 + 1) p0))), (9, .int (zb (decide (c0 % (k + 2) = p0)))), (0, .ref h0), (1, .int (nI n1)), (2, .int (nI own1)), (3, .int (nI foe1)), (4, .int (nI (k + 2))), (5, .int (nI p0)), (8, .int (nI (c0 + 1)))]) hx hb dX3_can_220 hl (by decide) rfl (fun ls hl => ?_)
              refine lv_iinc (v := nI (c0 + 1 + 1)) (lv' := [(8, .int (nI (c0 + 1 + 1))), (7, .int (zb (mAl (k + 2) foe1 (mfN own1 foe1 k).1 p0 (c0 + 1)))), (6, .int (zb (mSm (k + 2) own1 (mfN own1 foe1 k).2 p0 (c0 + 1)))), (10, .int (nI (sTo (k + 2) (c0 + 1) p0))), (9, .int (zb (decide (c0 % (k + 2) = p0)))), (0, .ref h0), (1, .int (nI n1)), (2, .int (nI own1)), (3, .int (nI foe1)), (4, .int (nI (k + 2))), (5, .int (nI p0))]) hx hb dX3_can_222 hl (k := 10) rfl (nI_1 _) (by decide) rfl (fun ls hl => ?_)
              refine lv_goto (tgt := 91) hx hb dX3_can_225 (by decide) ?_
              exact ih_91 (c0 + 1) _ (by omega) ⟨lv_sub hl [5, 6, 7, 8, 9, 10, 2, 1, 0] rfl, by omega⟩
      · have c_28 := zb_0.mp c_28
        refine lv_iconst (v := (-1)) hx hb dX3_can_31 (by decide) ?_
        have hP9 := hP.sub (ws' := [(h0, .inr (3, [.int 0, .long tr, .int pe, .ref a3, .ref a4, .ref a5, .int st, .int kd, .int wd, .ref a9, .int tn, .ref a11, .ref a12, .int sd, .ref a14, .ref a15, .ref a16])), (a15, .inl (cA, 13, .inl Mi)), (a16, .inl (cA, 13, .inl Fo))]) [0, 1, 2] rfl
        have hD9 := hD.sub (ws' := [(h0, .inr (3, [.int 0, .long tr, .int pe, .ref a3, .ref a4, .ref a5, .int st, .int kd, .int wd, .ref a9, .int tn, .ref a11, .ref a12, .int sd, .ref a14, .ref a15, .ref a16])), (a15, .inl (cA, 13, .inl Mi)), (a16, .inl (cA, 13, .inl Fo))]) [0, 1, 2] (by decide) rfl
        exact W.iret (v := (-1)) hx hb hr (fun t ht hW => ⟨⟨_, (_, _), rfl, by unfold spCan; first | (rw [c_14, Bool.false_and, Bool.false_and, if_neg (by decide)]) | (rw [c_14, c_21, Bool.true_and, Bool.false_and, if_neg (by decide)]) | (rw [c_14, c_21, c_28, Bool.true_and, Bool.true_and, if_neg (by decide)]), ⟨by rw [ht]; exact hP9, va_K.moved hW.alike hK, hD9⟩⟩, hS.F ht⟩) hS.2.2 dX3_can_32
end
section
/-- a contract of a method of a class of the JDK's that no entry runs instead -/
theorem Met_ofWF {l : Launch} {y : MethodName} {ws ws' : List Cond} {rm : Room} {Pc : Array Value → State → Prop} {Qc : Array Value → State → Outcome → State → Prop} {mc ms : Nat} {free : Addr → Prop} {cc : ByteArray} {maxL : Nat} {ret : Option FieldType}
    (hy : plainFor y = true) (hw : ws = Cond.code y cc maxL ret :: ws')
    (body : ∀ p e s m args below meth c s₁, BodyLoose p l y (headSpec ws rm) cc maxL ret e s m args below meth c s₁ → c.maxLocals = maxL → Pc args s →
      W p l e (headSpec ws rm).room s m args below meth c s.heap [] 0 0 (MQ below Qc args s mc ms free) (entryFrame m args maxL)) : Met l y ws rm Pc Qc mc ms free := by
  refine MetFree.of_bodySF (code := cc) (maxLocals := maxL) (ret := ret) hy ?_ ?_
  · intro args s m h hn
    obtain ⟨meth, c, h1, h2, h3, h4, h5, h6, -, -⟩ := Cond.code_spec hn (atoms_spec (ws := ws) h _ (by rw [hw]; exact List.mem_cons_self))
    exact ⟨meth, c, h1, h2, h3, h4, h5, h6⟩
  · intro p e s m args below meth c s₁ B hml hP _
    have hh0 : s₁.heap = s.heap := by rw [B.state]; rfl
    obtain ⟨t, a1, o, b1, b2, b3⟩ := body p e s m args below meth c s₁ B hml hP s₁ hh0 (Stand.of_body B)
    exact ⟨t, o, a1, b1, b2, ⟨b3.1, b3.2⟩⟩
theorem mir_step {n k r0 : Nat} {V WR : Nat → Int32} (hk : k + (r0 + 1) = 2 * n) (hr : r0 + 1 ≤ n) (hV : ∀ i, i < k → V i = if i < n then WR i else WR (2 * n - 1 - i)) : ∀ i, i < k + 1 → upd V k (V r0) i = if i < n then WR i else WR (2 * n - 1 - i) := by
  intro i hi
  by_cases h : i = k
  · subst h
    rw [pk_us, hV r0 (by omega), if_pos (by omega), if_neg (by omega)]
    congr 1
    omega
  · rw [pk_un h]; exact hV i (by omega)
def tollN (k : Nat) : Int32 := if k = 0 then 1 else if k = 1 then 11 else 111
set_option maxHeartbeats 4000000 in
set_option maxRecDepth 100000 in
theorem c_J9_floorMod_7cf53 (l : Launch) (dC : Nat → ClassId) (dI : Nat → Nat → Nat) (x y : Int32) (hy : ¬ y = 0) : Met l yJ9_floorMod_7cf53 wsJ9_floorMod_7cf53 ({ frames := 0, cells := 0, slots := 0, locals := 0 }) (va_Pc [.int x, .int y] (fun _ => True)) (vp_Si (fun r => r = fmI x y)) 0 0 (fun _ => False) := by
  refine Met_ofWF (cc := cJ9_floorMod_7cf53) (maxL := 3) (ret := (some .int)) (by decide +kernel) rfl ?_
  intro p e s m args below meth c s₁ B hml hv
  obtain ⟨rfl, -⟩ := hv
  have hx := B.exec
  have hb := B.bytes
  have hr := B.returns
  have hts := atoms_spec (ws := wsJ9_floorMod_7cf53) B.pre
  have hown : s.vm.findClass RJ9 = some m.cls := findClass_of_methodNamed B.named
  have hlocks := B.notSynchronized
  have hl := lv_entry ([.int x, .int y]) (n := 3) (Nat.le_of_ble_eq_true rfl)
  rw [lg_entry_eq]
  generalize (lg_sl ([.int x, .int y]) ++ List.replicate (3 - (lg_sl ([.int x, .int y])).length) Slot.unset).toArray = ls at hl ⊢
  have hl : lv_has ls 3 [(0, .int x), (1, .int y)] := hl
  refine lv_iload_n hx hb dJ9_floorMod_7cf53_0 rfl (lv_at hl 0 rfl) ?_
  refine lv_iload_n hx hb dJ9_floorMod_7cf53_1 rfl (lv_at hl 1 rfl) ?_
  refine lv_irem hx hb dJ9_floorMod_7cf53_2 (hy) ?_
  refine lv_istore_n (lv' := [(2, .int (x - x / y * y)), (0, .int x), (1, .int y)]) hx hb dJ9_floorMod_7cf53_3 rfl hl (by decide) rfl (fun ls hl => ?_)
  refine lv_iload_n hx hb dJ9_floorMod_7cf53_4 rfl (lv_at hl 1 rfl) ?_
  refine lv_iload_n hx hb dJ9_floorMod_7cf53_5 rfl (lv_at hl 2 rfl) ?_
  refine lv_ixor hx hb dJ9_floorMod_7cf53_6 ?_
  refine lv_if_ge (tgt := 18) hx hb dJ9_floorMod_7cf53_7 (by decide) (fun c_7 => ?_) (fun c_7 => ?_)
  · have c_7 : ¬ x ^^^ y < 0 := fun h => by rw [lt32] at h; rw [le32] at c_7; omega
    refine lv_iload_n hx hb dJ9_floorMod_7cf53_18 rfl (lv_at hl 0 rfl) ?_
    exact W.iret (v := x - x / y * y) hx hb hr (fun t ht hW => ⟨_, rfl, by unfold fmI; first | (rw [if_neg (fun h => c_7 h.1)]) | (rw [if_neg (fun h => h.2 c_11)]), ht⟩) (fun _ h => absurd h List.not_mem_nil) dJ9_floorMod_7cf53_19
  · have c_7 : x ^^^ y < 0 := by rw [lt32]; rw [le32] at c_7; omega
    refine lv_iload_n hx hb dJ9_floorMod_7cf53_10 rfl (lv_at hl 0 rfl) ?_
    refine lv_if_eq (tgt := 18) hx hb dJ9_floorMod_7cf53_11 (by decide) (fun c_11 => ?_) (fun c_11 => ?_)
    · refine lv_iload_n hx hb dJ9_floorMod_7cf53_18 rfl (lv_at hl 0 rfl) ?_
      exact W.iret (v := x - x / y * y) hx hb hr (fun t ht hW => ⟨_, rfl, by unfold fmI; first | (rw [if_neg (fun h => c_7 h.1)]) | (rw [if_neg (fun h => h.2 c_11)]), ht⟩) (fun _ h => absurd h List.not_mem_nil) dJ9_floorMod_7cf53_19
    · refine lv_iload_n hx hb dJ9_floorMod_7cf53_14 rfl (lv_at hl 0 rfl) ?_
      refine lv_iload_n hx hb dJ9_floorMod_7cf53_15 rfl (lv_at hl 2 rfl) ?_
      refine lv_iadd hx hb dJ9_floorMod_7cf53_16 ?_
      exact W.iret (v := (x - x / y * y) + y) hx hb hr (fun t ht hW => ⟨_, rfl, by unfold fmI; rw [if_pos ⟨c_7, c_11⟩], ht⟩) (fun _ h => absurd h List.not_mem_nil) dJ9_floorMod_7cf53_17

set_option maxHeartbeats 4000000 in
set_option maxRecDepth 100000 in
theorem c_X0_changeStep (l : Launch) (dC : Nat → ClassId) (dI : Nat → Nat → Nat) (sz : Nat) (cA : ClassId) (h1 b0 : Nat) (wc sv kv v : Int32) : Met l yX0_changeStep wsX0_changeStep ({ frames := 0, cells := 0, slots := 0, locals := 0 }) (va_Pc [.ref h1, .int v] (fun U => U.heap.size = sz ∧ va_P (dC, dI) vwCl [(h1, .inr (0, [.ref b0, .int wc, .int sv, .int kv]))] U.heap ∧ va_K (dC, dI) vwCl [(cA, .int)] U ∧ va_D (fun _ => True) [(h1, .inr (0, [.ref b0, .int wc, .int sv, .int kv]))])) (va_Qi (S := Unit) (fun r _ => r = sv) (fun (_ : Unit) (t : State) => va_P (dC, dI) vwCl [(h1, .inr (0, [.ref b0, .int wc, .int v, .int kv]))] t.heap ∧ va_K (dC, dI) vwCl [(cA, .int)] t ∧ va_D (va_A [(h1, .inr (0, [.ref b0, .int wc, .int sv, .int kv]))] sz) [(h1, .inr (0, [.ref b0, .int wc, .int v, .int kv]))]) (va_A [(h1, .inr (0, [.ref b0, .int wc, .int sv, .int kv]))] sz)) 0 0 (va_A [(h1, .inr (0, [.ref b0, .int wc, .int sv, .int kv]))] sz) := by
  refine Met.ofW (cc := cX0_changeStep) (maxL := 3) (ret := (some .int)) (by decide) rfl ?_
  intro p e s m args below meth c s₁ B hml hv
  obtain ⟨rfl, hsz, hP, hK, hD0⟩ := hv
  have hx := B.exec
  have hb := B.bytes
  have hr := B.returns
  have hts := atoms_spec (ws := wsX0_changeStep) B.pre
  have hown : s.vm.findClass RX0 = some m.cls := findClass_of_methodNamed B.named
  have hlocks := B.notSynchronized
  subst hsz
  have hD := hD0.self (sz := s.heap.size)
  generalize hAe : va_A [(h1, .inr (0, [.ref b0, .int wc, .int sv, .int kv]))] s.heap.size = A at hD ⊢
  have hA : ∀ q : Nat, s.heap.size ≤ q → A q := fun q h => by rw [← hAe]; exact Or.inr h
  have hS : va_S A s.heap s.heap [] := va_S.rf
  have hP : va_P (dC, dI) vwCl [(h1, .inr (0, [.ref b0, .int wc, .int sv, .int kv]))] s.heap := hP
  have hl := lv_entry ([.ref h1, .int v]) (n := 3) (Nat.le_of_ble_eq_true rfl)
  rw [lg_entry_eq]
  generalize (lg_sl ([.ref h1, .int v]) ++ List.replicate (3 - (lg_sl ([.ref h1, .int v])).length) Slot.unset).toArray = ls at hl ⊢
  have hl : lv_has ls 3 [(0, .ref h1), (1, .int v)] := hl
  refine lv_aload_n hx hb dX0_changeStep_0 rfl (lv_at hl 0 rfl) ?_
  refine va_get (D := (dC, dI)) (ci := 0) (v := .int sv) (C := RX0) (T := TX0) (N := 4) hx hb hts (by decide +kernel) hown hK hP 0 rfl rfl 2 (by decide) (hts (.fieldLink RX0 19 "CountedOut$Counts" "step" "I") (by decide +kernel)) (fun _ h9 => h9) rfl dX0_changeStep_1 ?_
  refine lv_istore_n (lv' := [(2, .int sv), (0, .ref h1), (1, .int v)]) hx hb dX0_changeStep_4 rfl hl (by decide) rfl (fun ls hl => ?_)
  refine lv_aload_n hx hb dX0_changeStep_5 rfl (lv_at hl 1 rfl) ?_
  refine lv_iload_n hx hb dX0_changeStep_6 rfl (lv_at hl 2 rfl) ?_
  refine va_put (D := (dC, dI)) (ci := 0) (v := .int v) (ty := .int) (C := RX0) (T := TX0) (N := 4) hx hb hts (by decide +kernel) tyX0 tyX0_ok nmX0 hown hK hP hD hS 0 rfl rfl 2 (by decide) (hts (.fieldLink RX0 19 "CountedOut$Counts" "step" "I") (by decide +kernel)) (fun _ h9 => h9) rfl (by decide +kernel) rfl rfl (Nat.le_of_ble_eq_true rfl) dX0_changeStep_7 (fun H locs hP hD hS => ?_)
  have hP : va_P (dC, dI) vwCl [(h1, .inr (0, [.ref b0, .int wc, .int v, .int kv]))] H := hP
  have hD : va_D A [(h1, .inr (0, [.ref b0, .int wc, .int v, .int kv]))] := hD
  refine lv_iload_n hx hb dX0_changeStep_10 rfl (lv_at hl 0 rfl) ?_
  have hP9 := hP.sub (ws' := [(h1, .inr (0, [.ref b0, .int wc, .int v, .int kv]))]) [0] rfl
  have hD9 := hD.sub (ws' := [(h1, .inr (0, [.ref b0, .int wc, .int v, .int kv]))]) [0] (by decide) rfl
  exact W.iret (v := sv) hx hb hr (fun t ht hW => ⟨⟨_, (), rfl, rfl, ⟨by rw [ht]; exact hP9, va_K.moved hW.alike hK, hD9⟩⟩, hS.F ht⟩) hS.2.2 dX0_changeStep_11

set_option maxHeartbeats 4000000 in
set_option maxRecDepth 100000 in
theorem c_X0_changeKind (l : Launch) (dC : Nat → ClassId) (dI : Nat → Nat → Nat) (sz : Nat) (cA : ClassId) (h1 b0 : Nat) (wc sv kv v : Int32) : Met l yX0_changeKind wsX0_changeKind ({ frames := 0, cells := 0, slots := 0, locals := 0 }) (va_Pc [.ref h1, .int v] (fun U => U.heap.size = sz ∧ va_P (dC, dI) vwCl [(h1, .inr (0, [.ref b0, .int wc, .int sv, .int kv]))] U.heap ∧ va_K (dC, dI) vwCl [(cA, .int)] U ∧ va_D (fun _ => True) [(h1, .inr (0, [.ref b0, .int wc, .int sv, .int kv]))])) (va_Qi (S := Unit) (fun r _ => r = kv) (fun (_ : Unit) (t : State) => va_P (dC, dI) vwCl [(h1, .inr (0, [.ref b0, .int wc, .int sv, .int v]))] t.heap ∧ va_K (dC, dI) vwCl [(cA, .int)] t ∧ va_D (va_A [(h1, .inr (0, [.ref b0, .int wc, .int sv, .int kv]))] sz) [(h1, .inr (0, [.ref b0, .int wc, .int sv, .int v]))]) (va_A [(h1, .inr (0, [.ref b0, .int wc, .int sv, .int kv]))] sz)) 0 0 (va_A [(h1, .inr (0, [.ref b0, .int wc, .int sv, .int kv]))] sz) := by
  refine Met.ofW (cc := cX0_changeKind) (maxL := 3) (ret := (some .int)) (by decide) rfl ?_
  intro p e s m args below meth c s₁ B hml hv
  obtain ⟨rfl, hsz, hP, hK, hD0⟩ := hv
  have hx := B.exec
  have hb := B.bytes
  have hr := B.returns
  have hts := atoms_spec (ws := wsX0_changeKind) B.pre
  have hown : s.vm.findClass RX0 = some m.cls := findClass_of_methodNamed B.named
  have hlocks := B.notSynchronized
  subst hsz
  have hD := hD0.self (sz := s.heap.size)
  generalize hAe : va_A [(h1, .inr (0, [.ref b0, .int wc, .int sv, .int kv]))] s.heap.size = A at hD ⊢
  have hA : ∀ q : Nat, s.heap.size ≤ q → A q := fun q h => by rw [← hAe]; exact Or.inr h
  have hS : va_S A s.heap s.heap [] := va_S.rf
  have hP : va_P (dC, dI) vwCl [(h1, .inr (0, [.ref b0, .int wc, .int sv, .int kv]))] s.heap := hP
  have hl := lv_entry ([.ref h1, .int v]) (n := 3) (Nat.le_of_ble_eq_true rfl)
  rw [lg_entry_eq]
  generalize (lg_sl ([.ref h1, .int v]) ++ List.replicate (3 - (lg_sl ([.ref h1, .int v])).length) Slot.unset).toArray = ls at hl ⊢
  have hl : lv_has ls 3 [(0, .ref h1), (1, .int v)] := hl
  refine lv_aload_n hx hb dX0_changeKind_0 rfl (lv_at hl 0 rfl) ?_
  refine va_get (D := (dC, dI)) (ci := 0) (v := .int kv) (C := RX0) (T := TX0) (N := 4) hx hb hts (by decide +kernel) hown hK hP 0 rfl rfl 3 (by decide) (hts (.fieldLink RX0 22 "CountedOut$Counts" "kind" "I") (by decide +kernel)) (fun _ h9 => h9) rfl dX0_changeKind_1 ?_
  refine lv_istore_n (lv' := [(2, .int kv), (0, .ref h1), (1, .int v)]) hx hb dX0_changeKind_4 rfl hl (by decide) rfl (fun ls hl => ?_)
  refine lv_aload_n hx hb dX0_changeKind_5 rfl (lv_at hl 1 rfl) ?_
  refine lv_iload_n hx hb dX0_changeKind_6 rfl (lv_at hl 2 rfl) ?_
  refine va_put (D := (dC, dI)) (ci := 0) (v := .int v) (ty := .int) (C := RX0) (T := TX0) (N := 4) hx hb hts (by decide +kernel) tyX0 tyX0_ok nmX0 hown hK hP hD hS 0 rfl rfl 3 (by decide) (hts (.fieldLink RX0 22 "CountedOut$Counts" "kind" "I") (by decide +kernel)) (fun _ h9 => h9) rfl (by decide +kernel) rfl rfl (Nat.le_of_ble_eq_true rfl) dX0_changeKind_7 (fun H locs hP hD hS => ?_)
  have hP : va_P (dC, dI) vwCl [(h1, .inr (0, [.ref b0, .int wc, .int sv, .int v]))] H := hP
  have hD : va_D A [(h1, .inr (0, [.ref b0, .int wc, .int sv, .int v]))] := hD
  refine lv_iload_n hx hb dX0_changeKind_10 rfl (lv_at hl 0 rfl) ?_
  have hP9 := hP.sub (ws' := [(h1, .inr (0, [.ref b0, .int wc, .int sv, .int v]))]) [0] rfl
  have hD9 := hD.sub (ws' := [(h1, .inr (0, [.ref b0, .int wc, .int sv, .int v]))]) [0] (by decide) rfl
  exact W.iret (v := kv) hx hb hr (fun t ht hW => ⟨⟨_, (), rfl, rfl, ⟨by rw [ht]; exact hP9, va_K.moved hW.alike hK, hD9⟩⟩, hS.F ht⟩) hS.2.2 dX0_changeKind_11

set_option maxHeartbeats 4000000 in
set_option maxRecDepth 100000 in
theorem c_X0_takeWords (l : Launch) (dC : Nat → ClassId) (dI : Nat → Nat → Nat) (sz : Nat) (cA : ClassId) (h1 b0 : Nat) (wc sv kv n a b c0 d : Int32) (WR : Nat → Int32) : Met l yX0_takeWords wsX0_takeWords ({ frames := 0, cells := 0, slots := 0, locals := 0 }) (va_Pc [.ref h1, .int n, .int a, .int b, .int c0, .int d] (fun U => U.heap.size = sz ∧ va_P (dC, dI) vwCl [(h1, .inr (0, [.ref b0, .int wc, .int sv, .int kv])), (b0, .inl (cA, 8, .inl WR))] U.heap ∧ va_K (dC, dI) vwCl [(cA, .int)] U ∧ va_D (fun _ => True) [(h1, .inr (0, [.ref b0, .int wc, .int sv, .int kv])), (b0, .inl (cA, 8, .inl WR))])) (va_Qv (S := Unit) (fun _ => True) (fun (_ : Unit) (t : State) => va_P (dC, dI) vwCl [(h1, .inr (0, [.ref b0, .int n, .int sv, .int kv])), (b0, .inl (cA, 8, .inl (upd (upd (upd (upd WR 0 a) 1 b) 2 c0) 3 d)))] t.heap ∧ va_K (dC, dI) vwCl [(cA, .int)] t ∧ va_D (va_A [(h1, .inr (0, [.ref b0, .int wc, .int sv, .int kv])), (b0, .inl (cA, 8, .inl WR))] sz) [(h1, .inr (0, [.ref b0, .int n, .int sv, .int kv])), (b0, .inl (cA, 8, .inl (upd (upd (upd (upd WR 0 a) 1 b) 2 c0) 3 d)))]) (va_A [(h1, .inr (0, [.ref b0, .int wc, .int sv, .int kv])), (b0, .inl (cA, 8, .inl WR))] sz)) 0 0 (va_A [(h1, .inr (0, [.ref b0, .int wc, .int sv, .int kv])), (b0, .inl (cA, 8, .inl WR))] sz) := by
  refine Met.ofW (cc := cX0_takeWords) (maxL := 6) (ret := none) (by decide) rfl ?_
  intro p e s m args below meth c s₁ B hml hv
  obtain ⟨rfl, hsz, hP, hK, hD0⟩ := hv
  have hx := B.exec
  have hb := B.bytes
  have hr := B.returns
  have hts := atoms_spec (ws := wsX0_takeWords) B.pre
  have hown : s.vm.findClass RX0 = some m.cls := findClass_of_methodNamed B.named
  have hlocks := B.notSynchronized
  subst hsz
  have hD := hD0.self (sz := s.heap.size)
  generalize hAe : va_A [(h1, .inr (0, [.ref b0, .int wc, .int sv, .int kv])), (b0, .inl (cA, 8, .inl WR))] s.heap.size = A at hD ⊢
  have hA : ∀ q : Nat, s.heap.size ≤ q → A q := fun q h => by rw [← hAe]; exact Or.inr h
  have hS : va_S A s.heap s.heap [] := va_S.rf
  have hP : va_P (dC, dI) vwCl [(h1, .inr (0, [.ref b0, .int wc, .int sv, .int kv])), (b0, .inl (cA, 8, .inl WR))] s.heap := hP
  have hl := lv_entry ([.ref h1, .int n, .int a, .int b, .int c0, .int d]) (n := 6) (Nat.le_of_ble_eq_true rfl)
  rw [lg_entry_eq]
  generalize (lg_sl ([.ref h1, .int n, .int a, .int b, .int c0, .int d]) ++ List.replicate (6 - (lg_sl ([.ref h1, .int n, .int a, .int b, .int c0, .int d])).length) Slot.unset).toArray = ls at hl ⊢
  have hl : lv_has ls 6 [(0, .ref h1), (1, .int n), (2, .int a), (3, .int b), (4, .int c0), (5, .int d)] := hl
  refine lv_aload_n hx hb dX0_takeWords_0 rfl (lv_at hl 0 rfl) ?_
  refine va_get (D := (dC, dI)) (ci := 0) (v := .ref b0) (C := RX0) (T := TX0) (N := 4) hx hb hts (by decide +kernel) hown hK hP 0 rfl rfl 0 (by decide) (hts (.fieldLink RX0 9 "CountedOut$Counts" "wordRow" "[I") (by decide +kernel)) (fun _ h9 => h9) rfl dX0_takeWords_1 ?_
  refine lv_iconst (v := 0) hx hb dX0_takeWords_4 (by decide) ?_
  refine lv_iload_n hx hb dX0_takeWords_5 rfl (lv_at hl 2 rfl) ?_
  refine z_iast hx hb hK hP hD hS 1 0 rfl rfl (i := 0) (by decide) (by decide) dX0_takeWords_6 (fun H locs hP hD hS => ?_)
  have hP : va_P (dC, dI) vwCl [(h1, .inr (0, [.ref b0, .int wc, .int sv, .int kv])), (b0, .inl (cA, 8, .inl (upd WR 0 a)))] H := hP
  have hD : va_D A [(h1, .inr (0, [.ref b0, .int wc, .int sv, .int kv])), (b0, .inl (cA, 8, .inl (upd WR 0 a)))] := hD
  refine lv_aload_n hx hb dX0_takeWords_7 rfl (lv_at hl 0 rfl) ?_
  refine va_get (D := (dC, dI)) (ci := 0) (v := .ref b0) (C := RX0) (T := TX0) (N := 4) hx hb hts (by decide +kernel) hown hK hP 0 rfl rfl 0 (by decide) (hts (.fieldLink RX0 9 "CountedOut$Counts" "wordRow" "[I") (by decide +kernel)) (fun _ h9 => h9) rfl dX0_takeWords_8 ?_
  refine lv_iconst (v := 1) hx hb dX0_takeWords_11 (by decide) ?_
  refine lv_iload_n hx hb dX0_takeWords_12 rfl (lv_at hl 3 rfl) ?_
  refine z_iast hx hb hK hP hD hS 1 0 rfl rfl (i := 1) (by decide) (by decide) dX0_takeWords_13 (fun H locs hP hD hS => ?_)
  have hP : va_P (dC, dI) vwCl [(h1, .inr (0, [.ref b0, .int wc, .int sv, .int kv])), (b0, .inl (cA, 8, .inl (upd (upd WR 0 a) 1 b)))] H := hP
  have hD : va_D A [(h1, .inr (0, [.ref b0, .int wc, .int sv, .int kv])), (b0, .inl (cA, 8, .inl (upd (upd WR 0 a) 1 b)))] := hD
  refine lv_aload_n hx hb dX0_takeWords_14 rfl (lv_at hl 0 rfl) ?_
  refine va_get (D := (dC, dI)) (ci := 0) (v := .ref b0) (C := RX0) (T := TX0) (N := 4) hx hb hts (by decide +kernel) hown hK hP 0 rfl rfl 0 (by decide) (hts (.fieldLink RX0 9 "CountedOut$Counts" "wordRow" "[I") (by decide +kernel)) (fun _ h9 => h9) rfl dX0_takeWords_15 ?_
  refine lv_iconst (v := 2) hx hb dX0_takeWords_18 (by decide) ?_
  refine lv_iload hx hb dX0_takeWords_19 (lv_at hl 4 rfl) ?_
  refine z_iast hx hb hK hP hD hS 1 0 rfl rfl (i := 2) (by decide) (by decide) dX0_takeWords_21 (fun H locs hP hD hS => ?_)
  have hP : va_P (dC, dI) vwCl [(h1, .inr (0, [.ref b0, .int wc, .int sv, .int kv])), (b0, .inl (cA, 8, .inl (upd (upd (upd WR 0 a) 1 b) 2 c0)))] H := hP
  have hD : va_D A [(h1, .inr (0, [.ref b0, .int wc, .int sv, .int kv])), (b0, .inl (cA, 8, .inl (upd (upd (upd WR 0 a) 1 b) 2 c0)))] := hD
  refine lv_aload_n hx hb dX0_takeWords_22 rfl (lv_at hl 0 rfl) ?_
  refine va_get (D := (dC, dI)) (ci := 0) (v := .ref b0) (C := RX0) (T := TX0) (N := 4) hx hb hts (by decide +kernel) hown hK hP 0 rfl rfl 0 (by decide) (hts (.fieldLink RX0 9 "CountedOut$Counts" "wordRow" "[I") (by decide +kernel)) (fun _ h9 => h9) rfl dX0_takeWords_23 ?_
  refine lv_iconst (v := 3) hx hb dX0_takeWords_26 (by decide) ?_
  refine lv_iload hx hb dX0_takeWords_27 (lv_at hl 5 rfl) ?_
  refine z_iast hx hb hK hP hD hS 1 0 rfl rfl (i := 3) (by decide) (by decide) dX0_takeWords_29 (fun H locs hP hD hS => ?_)
  have hP : va_P (dC, dI) vwCl [(h1, .inr (0, [.ref b0, .int wc, .int sv, .int kv])), (b0, .inl (cA, 8, .inl (upd (upd (upd (upd WR 0 a) 1 b) 2 c0) 3 d)))] H := hP
  have hD : va_D A [(h1, .inr (0, [.ref b0, .int wc, .int sv, .int kv])), (b0, .inl (cA, 8, .inl (upd (upd (upd (upd WR 0 a) 1 b) 2 c0) 3 d)))] := hD
  refine lv_aload_n hx hb dX0_takeWords_30 rfl (lv_at hl 0 rfl) ?_
  refine lv_iload_n hx hb dX0_takeWords_31 rfl (lv_at hl 1 rfl) ?_
  refine va_put (D := (dC, dI)) (ci := 0) (v := .int n) (ty := .int) (C := RX0) (T := TX0) (N := 4) hx hb hts (by decide +kernel) tyX0 tyX0_ok nmX0 hown hK hP hD hS 0 rfl rfl 1 (by decide) (hts (.fieldLink RX0 15 "CountedOut$Counts" "wordCount" "I") (by decide +kernel)) (fun _ h9 => h9) rfl (by decide +kernel) rfl rfl (Nat.le_of_ble_eq_true rfl) dX0_takeWords_32 (fun H locs hP hD hS => ?_)
  have hP : va_P (dC, dI) vwCl [(h1, .inr (0, [.ref b0, .int n, .int sv, .int kv])), (b0, .inl (cA, 8, .inl (upd (upd (upd (upd WR 0 a) 1 b) 2 c0) 3 d)))] H := hP
  have hD : va_D A [(h1, .inr (0, [.ref b0, .int n, .int sv, .int kv])), (b0, .inl (cA, 8, .inl (upd (upd (upd (upd WR 0 a) 1 b) 2 c0) 3 d)))] := hD
  have hP9 := hP.sub (ws' := [(h1, .inr (0, [.ref b0, .int n, .int sv, .int kv])), (b0, .inl (cA, 8, .inl (upd (upd (upd (upd WR 0 a) 1 b) 2 c0) 3 d)))]) [0, 1] rfl
  have hD9 := hD.sub (ws' := [(h1, .inr (0, [.ref b0, .int n, .int sv, .int kv])), (b0, .inl (cA, 8, .inl (upd (upd (upd (upd WR 0 a) 1 b) 2 c0) 3 d)))]) [0, 1] (by decide) rfl
  exact W.vret hx hb hr (fun t ht hW => ⟨⟨(), rfl, trivial, ⟨by rw [ht]; exact hP9, va_K.moved hW.alike hK, hD9⟩⟩, hS.F ht⟩) hS.2.2 dX0_takeWords_35

set_option maxHeartbeats 4000000 in
set_option maxRecDepth 100000 in
theorem c_X0_mirrorWords (l : Launch) (dC : Nat → ClassId) (dI : Nat → Nat → Nat) (sz : Nat) (cA : ClassId) (h1 b0 : Nat) (n : Nat) (hn1 : 1 ≤ n) (hn : n ≤ 4) (sv kv : Int32) (WR : Nat → Int32) : Met l yX0_mirrorWords wsX0_mirrorWords ({ frames := 0, cells := 0, slots := 0, locals := 0 }) (va_Pc [.ref h1] (fun U => U.heap.size = sz ∧ va_P (dC, dI) vwCl [(h1, .inr (0, [.ref b0, .int (nI n), .int sv, .int kv])), (b0, .inl (cA, 8, .inl WR))] U.heap ∧ va_K (dC, dI) vwCl [(cA, .int)] U ∧ va_D (fun _ => True) [(h1, .inr (0, [.ref b0, .int (nI n), .int sv, .int kv])), (b0, .inl (cA, 8, .inl WR))])) (va_Qv (S := Nat → Int32) (fun u => ∀ i, i < 2 * n → u i = if i < n then WR i else WR (2 * n - 1 - i)) (fun (u : Nat → Int32) (t : State) => va_P (dC, dI) vwCl [(h1, .inr (0, [.ref b0, .int (nI (2 * n)), .int sv, .int kv])), (b0, .inl (cA, 8, .inl u))] t.heap ∧ va_K (dC, dI) vwCl [(cA, .int)] t ∧ va_D (va_A [(h1, .inr (0, [.ref b0, .int (nI n), .int sv, .int kv])), (b0, .inl (cA, 8, .inl WR))] sz) [(h1, .inr (0, [.ref b0, .int (nI (2 * n)), .int sv, .int kv])), (b0, .inl (cA, 8, .inl u))]) (va_A [(h1, .inr (0, [.ref b0, .int (nI n), .int sv, .int kv])), (b0, .inl (cA, 8, .inl WR))] sz)) 0 0 (va_A [(h1, .inr (0, [.ref b0, .int (nI n), .int sv, .int kv])), (b0, .inl (cA, 8, .inl WR))] sz) := by
  refine Met.ofW (cc := cX0_mirrorWords) (maxL := 2) (ret := none) (by decide) rfl ?_
  intro p e s m args below meth c s₁ B hml hv
  obtain ⟨rfl, hsz, hP, hK, hD0⟩ := hv
  have hx := B.exec
  have hb := B.bytes
  have hr := B.returns
  have hts := atoms_spec (ws := wsX0_mirrorWords) B.pre
  have hown : s.vm.findClass RX0 = some m.cls := findClass_of_methodNamed B.named
  have hlocks := B.notSynchronized
  subst hsz
  have hD := hD0.self (sz := s.heap.size)
  generalize hAe : va_A [(h1, .inr (0, [.ref b0, .int (nI n), .int sv, .int kv])), (b0, .inl (cA, 8, .inl WR))] s.heap.size = A at hD ⊢
  have hA : ∀ q : Nat, s.heap.size ≤ q → A q := fun q h => by rw [← hAe]; exact Or.inr h
  have hS : va_S A s.heap s.heap [] := va_S.rf
  have hP : va_P (dC, dI) vwCl [(h1, .inr (0, [.ref b0, .int (nI n), .int sv, .int kv])), (b0, .inl (cA, 8, .inl WR))] s.heap := hP
  have hl := lv_entry ([.ref h1]) (n := 2) (Nat.le_of_ble_eq_true rfl)
  rw [lg_entry_eq]
  generalize (lg_sl ([.ref h1]) ++ List.replicate (2 - (lg_sl ([.ref h1])).length) Slot.unset).toArray = ls at hl ⊢
  have hl : lv_has ls 2 [(0, .ref h1)] := hl
  refine lv_aload_n hx hb dX0_mirrorWords_0 rfl (lv_at hl 0 rfl) ?_
  refine va_get (D := (dC, dI)) (ci := 0) (v := .int (nI n)) (C := RX0) (T := TX0) (N := 4) hx hb hts (by decide +kernel) hown hK hP 0 rfl rfl 1 (by decide) (hts (.fieldLink RX0 15 "CountedOut$Counts" "wordCount" "I") (by decide +kernel)) (fun _ h9 => h9) rfl dX0_mirrorWords_1 ?_
  refine lv_iconst (v := 1) hx hb dX0_mirrorWords_4 (by decide) ?_
  refine lv_isub hx hb dX0_mirrorWords_5 ?_
  refine lv_istore_n (lv' := [(1, .int ((nI n) - 1)), (0, .ref h1)]) hx hb dX0_mirrorWords_6 rfl hl (by decide) rfl (fun ls hl => ?_)
  refine W_loop (σ := Nat × Nat × (Nat → Int32)) (fun xx ls H locs => match xx with | (r, k, V) => lv_has ls 2 [(0, .ref h1), (1, .int (nI r - 1))] ∧ va_P (dC, dI) vwCl [(h1, .inr (0, [.ref b0, .int (nI k), .int sv, .int kv])), (b0, .inl (cA, 8, .inl V))] H ∧ va_D A [(h1, .inr (0, [.ref b0, .int (nI k), .int sv, .int kv])), (b0, .inl (cA, 8, .inl V))] ∧ va_S A s.heap H locs ∧ r ≤ n ∧ k + r = 2 * n ∧ (∀ i, i < k → V i = if i < n then WR i else WR (2 * n - 1 - i))) (fun xx => match xx with | (r, k, V) => r) ?_ (n, n, WR) ⟨lv_sub hl [1, 0] rfl, hP, hD, hS, Nat.le_refl _, by omega, fun i hi => by rw [if_pos hi]⟩
  rintro ⟨r, k, V⟩ ls H locs ⟨hl, hP, hD, hS, hr0, hk, hV⟩ ih_7
  refine lv_iload_n hx hb dX0_mirrorWords_7 rfl (lv_at hl 1 rfl) ?_
  refine lv_if_lt (tgt := 51) hx hb dX0_mirrorWords_8 (by decide) (fun c_8 => ?_) (fun c_8 => ?_)
  · have c_8 : r = 0 := by rcases Nat.eq_zero_or_pos r with h | h <;> first | exact h | exact absurd (by rw [show r = (r - 1) + 1 by omega, nI_pred] at c_8; exact c_8) (nI_pos (by omega))
    obtain rfl : k = 2 * n := by omega
    have hP9 := hP.sub (ws' := [(h1, .inr (0, [.ref b0, .int (nI (2 * n)), .int sv, .int kv])), (b0, .inl (cA, 8, .inl V))]) [0, 1] rfl
    have hD9 := hD.sub (ws' := [(h1, .inr (0, [.ref b0, .int (nI (2 * n)), .int sv, .int kv])), (b0, .inl (cA, 8, .inl V))]) [0, 1] (by decide) rfl
    exact W.vret hx hb hr (fun t ht hW => ⟨⟨_, rfl, hV, ⟨by rw [ht]; exact hP9, va_K.moved hW.alike hK, hD9⟩⟩, hS.F ht⟩) hS.2.2 dX0_mirrorWords_51
  · obtain ⟨r0, rfl⟩ : ∃ r0, r = r0 + 1 := Nat.exists_eq_succ_of_ne_zero (fun h => c_8 (by rw [h]; decide))
    rw [nI_pred] at hl
    refine lv_aload_n hx hb dX0_mirrorWords_11 rfl (lv_at hl 0 rfl) ?_
    refine va_get (D := (dC, dI)) (ci := 0) (v := .int (nI k)) (C := RX0) (T := TX0) (N := 4) hx hb hts (by decide +kernel) hown hK hP 0 rfl rfl 1 (by decide) (hts (.fieldLink RX0 15 "CountedOut$Counts" "wordCount" "I") (by decide +kernel)) (fun _ h9 => h9) rfl dX0_mirrorWords_12 ?_
    refine lv_bipush (v := 8) hx hb dX0_mirrorWords_15 (by decide) ?_
    refine lv_icmp_ge (tgt := 51) hx hb dX0_mirrorWords_17 (by decide) (fun c_17 => ?_) (fun c_17 => ?_)
    · exact absurd ((nI_leI (a := 8) (b := k) (by omega) (by omega)).mp c_17) (by omega)
    · refine lv_aload_n hx hb dX0_mirrorWords_20 rfl (lv_at hl 0 rfl) ?_
      refine va_get (D := (dC, dI)) (ci := 0) (v := .ref b0) (C := RX0) (T := TX0) (N := 4) hx hb hts (by decide +kernel) hown hK hP 0 rfl rfl 0 (by decide) (hts (.fieldLink RX0 9 "CountedOut$Counts" "wordRow" "[I") (by decide +kernel)) (fun _ h9 => h9) rfl dX0_mirrorWords_21 ?_
      refine lv_aload_n hx hb dX0_mirrorWords_24 rfl (lv_at hl 0 rfl) ?_
      refine va_get (D := (dC, dI)) (ci := 0) (v := .int (nI k)) (C := RX0) (T := TX0) (N := 4) hx hb hts (by decide +kernel) hown hK hP 0 rfl rfl 1 (by decide) (hts (.fieldLink RX0 15 "CountedOut$Counts" "wordCount" "I") (by decide +kernel)) (fun _ h9 => h9) rfl dX0_mirrorWords_25 ?_
      refine lv_aload_n hx hb dX0_mirrorWords_28 rfl (lv_at hl 0 rfl) ?_
      refine va_get (D := (dC, dI)) (ci := 0) (v := .ref b0) (C := RX0) (T := TX0) (N := 4) hx hb hts (by decide +kernel) hown hK hP 0 rfl rfl 0 (by decide) (hts (.fieldLink RX0 9 "CountedOut$Counts" "wordRow" "[I") (by decide +kernel)) (fun _ h9 => h9) rfl dX0_mirrorWords_29 ?_
      refine lv_iload_n hx hb dX0_mirrorWords_32 rfl (lv_at hl 1 rfl) ?_
      refine z_iald hx hb hK hP 1 0 rfl rfl (i := r0) (by omega) (by decide) dX0_mirrorWords_33 ?_
      refine z_iast hx hb hK hP hD hS 1 0 rfl rfl (i := k) (by omega) (by decide) dX0_mirrorWords_34 (fun H locs hP hD hS => ?_)
      have hP : va_P (dC, dI) vwCl [(h1, .inr (0, [.ref b0, .int (nI k), .int sv, .int kv])), (b0, .inl (cA, 8, .inl (upd V k (V r0))))] H := hP
      have hD : va_D A [(h1, .inr (0, [.ref b0, .int (nI k), .int sv, .int kv])), (b0, .inl (cA, 8, .inl (upd V k (V r0))))] := hD
      refine lv_aload_n hx hb dX0_mirrorWords_35 rfl (lv_at hl 0 rfl) ?_
      refine lv_dup hx hb dX0_mirrorWords_36 rfl ?_
      refine va_get (D := (dC, dI)) (ci := 0) (v := .int (nI k)) (C := RX0) (T := TX0) (N := 4) hx hb hts (by decide +kernel) hown hK hP 0 rfl rfl 1 (by decide) (hts (.fieldLink RX0 15 "CountedOut$Counts" "wordCount" "I") (by decide +kernel)) (fun _ h9 => h9) rfl dX0_mirrorWords_37 ?_
      refine lv_iconst (v := 1) hx hb dX0_mirrorWords_40 (by decide) ?_
      refine lv_iadd hx hb dX0_mirrorWords_41 ?_
      refine z_i (y := nI (k + 1)) (nI_1 k) ?_
      refine va_put (D := (dC, dI)) (ci := 0) (v := .int (nI (k + 1))) (ty := .int) (C := RX0) (T := TX0) (N := 4) hx hb hts (by decide +kernel) tyX0 tyX0_ok nmX0 hown hK hP hD hS 0 rfl rfl 1 (by decide) (hts (.fieldLink RX0 15 "CountedOut$Counts" "wordCount" "I") (by decide +kernel)) (fun _ h9 => h9) rfl (by decide +kernel) rfl rfl (Nat.le_of_ble_eq_true rfl) dX0_mirrorWords_42 (fun H locs hP hD hS => ?_)
      have hP : va_P (dC, dI) vwCl [(h1, .inr (0, [.ref b0, .int (nI (k + 1)), .int sv, .int kv])), (b0, .inl (cA, 8, .inl (upd V k (V r0))))] H := hP
      have hD : va_D A [(h1, .inr (0, [.ref b0, .int (nI (k + 1)), .int sv, .int kv])), (b0, .inl (cA, 8, .inl (upd V k (V r0))))] := hD
      refine lv_iinc (v := nI r0 - 1) (lv' := [(1, .int (nI r0 - 1)), (0, .ref h1)]) hx hb dX0_mirrorWords_45 hl (k := 1) rfl (by rw [Int32.sub_eq_add_neg]; rfl) (by decide) rfl (fun ls hl => ?_)
      refine lv_goto (tgt := 7) hx hb dX0_mirrorWords_48 (by decide) ?_
      exact ih_7 (r0, k + 1, upd V k (V r0)) _ _ _ (by show r0 < r0 + 1; omega) ⟨lv_sub hl [1, 0] rfl, hP, hD, hS, by omega, by omega, mir_step hk hr0 hV⟩

set_option maxHeartbeats 4000000 in
set_option maxRecDepth 100000 in
theorem c_X0_wordOf (l : Launch) (dC : Nat → ClassId) (dI : Nat → Nat → Nat) (cA : ClassId) (h1 b0 : Nat) (st kd nw : Nat) (wd : Nat → Nat) (WR : Nat → Int32) (hCS : CS st kd nw wd) (hCR : CR nw wd WR) (t : Nat) (ht : t < 2 ^ 31) : Met l yX0_wordOf wsX0_wordOf ({ frames := 0, cells := 0, slots := 0, locals := 0 }) (va_Pc [.ref h1, .int (nI t)] (fun U => va_P (dC, dI) vwCl [(h1, .inr (0, [.ref b0, .int (nI nw), .int (nI st), .int (nI kd)])), (b0, .inl (cA, 8, .inl WR))] U.heap ∧ va_K (dC, dI) vwCl [(cA, .int)] U)) (vp_Si (fun r => r = nI (wd (t % nw)))) 0 0 (fun _ => False) := by
  refine Met.ofW (cc := cX0_wordOf) (maxL := 2) (ret := (some .int)) (by decide) rfl ?_
  intro p e s m args below meth c s₁ B hml hv
  obtain ⟨rfl, hP, hK⟩ := hv
  have hx := B.exec
  have hb := B.bytes
  have hr := B.returns
  have hts := atoms_spec (ws := wsX0_wordOf) B.pre
  have hown : s.vm.findClass RX0 = some m.cls := findClass_of_methodNamed B.named
  have hlocks := B.notSynchronized
  have hl := lv_entry ([.ref h1, .int (nI t)]) (n := 2) (Nat.le_of_ble_eq_true rfl)
  rw [lg_entry_eq]
  generalize (lg_sl ([.ref h1, .int (nI t)]) ++ List.replicate (2 - (lg_sl ([.ref h1, .int (nI t)])).length) Slot.unset).toArray = ls at hl ⊢
  have hl : lv_has ls 2 [(0, .ref h1), (1, .int (nI t))] := hl
  obtain ⟨hs1, hs2, hk2, hw1, hw2, hwd⟩ := id hCS
  have htm := Nat.mod_lt t (show 0 < nw by omega)
  have hwt := hwd _ htm
  refine lv_iload_n hx hb dX0_wordOf_0 rfl (lv_at hl 1 rfl) ?_
  refine lv_if_lt (tgt := 12) hx hb dX0_wordOf_1 (by decide) (fun c_1 => ?_) (fun c_1 => ?_)
  · exact absurd c_1 (nI_pos ht)
  · refine lv_aload_n hx hb dX0_wordOf_4 rfl (lv_at hl 0 rfl) ?_
    refine va_get (D := (dC, dI)) (ci := 0) (v := .int (nI nw)) (C := RX0) (T := TX0) (N := 4) hx hb hts (by decide +kernel) hown hK hP 0 rfl rfl 1 (by decide) (hts (.fieldLink RX0 15 "CountedOut$Counts" "wordCount" "I") (by decide +kernel)) (fun _ h9 => h9) rfl dX0_wordOf_5 ?_
    refine lv_iconst (v := 1) hx hb dX0_wordOf_8 (by decide) ?_
    refine lv_icmp_ge (tgt := 16) hx hb dX0_wordOf_9 (by decide) (fun c_9 => ?_) (fun c_9 => ?_)
    · refine lv_aload_n hx hb dX0_wordOf_16 rfl (lv_at hl 0 rfl) ?_
      refine va_get (D := (dC, dI)) (ci := 0) (v := .ref b0) (C := RX0) (T := TX0) (N := 4) hx hb hts (by decide +kernel) hown hK hP 0 rfl rfl 0 (by decide) (hts (.fieldLink RX0 9 "CountedOut$Counts" "wordRow" "[I") (by decide +kernel)) (fun _ h9 => h9) rfl dX0_wordOf_17 ?_
      refine lv_iload_n hx hb dX0_wordOf_20 rfl (lv_at hl 1 rfl) ?_
      refine lv_aload_n hx hb dX0_wordOf_21 rfl (lv_at hl 0 rfl) ?_
      refine va_get (D := (dC, dI)) (ci := 0) (v := .int (nI nw)) (C := RX0) (T := TX0) (N := 4) hx hb hts (by decide +kernel) hown hK hP 0 rfl rfl 1 (by decide) (hts (.fieldLink RX0 15 "CountedOut$Counts" "wordCount" "I") (by decide +kernel)) (fun _ h9 => h9) rfl dX0_wordOf_22 ?_
      refine lv_irem hx hb dX0_wordOf_25 (nI_ne0 (by omega) (by omega)) ?_
      refine z_i (y := nI (t % nw)) (pk_rem ht (by omega) (by omega)) ?_
      refine z_iald hx hb hK hP 1 0 rfl rfl (i := (t % nw)) (by omega) (by decide) dX0_wordOf_26 ?_
      refine z_i (y := nI (wd (t % nw))) (hCR _ htm) ?_
      exact W.iret (v := nI (wd (t % nw))) hx hb hr (fun t ht hW => ⟨_, rfl, rfl, ht⟩) (fun _ h => absurd h List.not_mem_nil) dX0_wordOf_27
    · exact absurd ((nI_leI (a := 1) (b := nw) (by omega) (by omega)).mpr hw1) c_9

set_option maxHeartbeats 4000000 in
set_option maxRecDepth 100000 in
theorem c_X0_wordy (l : Launch) (dC : Nat → ClassId) (dI : Nat → Nat → Nat) (cA : ClassId) (h1 b0 : Nat) (st kd nw : Nat) (wd : Nat → Nat) (WR : Nat → Int32) (hCS : CS st kd nw wd) (hCR : CR nw wd WR) (t : Nat) (ht : t < 2 ^ 31) : Met l yX0_wordy wsX0_wordy ({ frames := 1, cells := 0, slots := 0, locals := 21 }) (va_Pc [.ref h1, .int (nI t)] (fun U => va_P (dC, dI) vwCl [(h1, .inr (0, [.ref b0, .int (nI nw), .int (nI st), .int (nI kd)])), (b0, .inl (cA, 8, .inl WR))] U.heap ∧ va_K (dC, dI) vwCl [(cA, .int)] U)) (vp_Si (fun r => r = nI (st + wd (t % nw)))) 0 0 (fun _ => False) := by
  refine Met.ofW (cc := cX0_wordy) (maxL := 2) (ret := (some .int)) (by decide) rfl ?_
  intro p e s m args below meth c s₁ B hml hv
  obtain ⟨rfl, hP, hK⟩ := hv
  have hx := B.exec
  have hb := B.bytes
  have hr := B.returns
  have hts := atoms_spec (ws := wsX0_wordy) B.pre
  have hown : s.vm.findClass RX0 = some m.cls := findClass_of_methodNamed B.named
  have hlocks := B.notSynchronized
  have hl := lv_entry ([.ref h1, .int (nI t)]) (n := 2) (Nat.le_of_ble_eq_true rfl)
  rw [lg_entry_eq]
  generalize (lg_sl ([.ref h1, .int (nI t)]) ++ List.replicate (2 - (lg_sl ([.ref h1, .int (nI t)])).length) Slot.unset).toArray = ls at hl ⊢
  have hl : lv_has ls 2 [(0, .ref h1), (1, .int (nI t))] := hl
  obtain ⟨hs1, hs2, hk2, hw1, hw2, hwd⟩ := id hCS
  have htm := Nat.mod_lt t (show 0 < nw by omega)
  have hwt := hwd _ htm
  refine lv_aload_n hx hb dX0_wordy_0 rfl (lv_at hl 0 rfl) ?_
  refine va_get (D := (dC, dI)) (ci := 0) (v := .int (nI st)) (C := RX0) (T := TX0) (N := 4) hx hb hts (by decide +kernel) hown hK hP 0 rfl rfl 2 (by decide) (hts (.fieldLink RX0 19 "CountedOut$Counts" "step" "I") (by decide +kernel)) (fun _ h9 => h9) rfl dX0_wordy_1 ?_
  refine lv_aload_n hx hb dX0_wordy_4 rfl (lv_at hl 0 rfl) ?_
  refine lv_iload_n hx hb dX0_wordy_5 rfl (lv_at hl 1 rfl) ?_
  have hPc := hP.sub (ws' := [(h1, .inr (0, [.ref b0, .int (nI nw), .int (nI st), .int (nI kd)])), (b0, .inl (cA, 8, .inl WR))]) [0, 1] rfl
  refine vp_callSi (va_Run.run (va_runV (As := [.int (nI t)]) (rest := [.int (nI st)]) ⟨hx, hb, hml, hown, hts⟩ (c_X0_wordOf l dC dI cA h1 b0 st kd nw wd WR hCS hCR t ht) (cwV 1 hts gX0_wordy_X0_wordOf rfl rfl rfl (by decide +kernel) ⟨Nat.le_of_ble_eq_true rfl, Nat.le_of_ble_eq_true rfl⟩) ⟨fun a U g mk q => by obtain ⟨q0, qP, qK⟩ := q; exact ⟨q0, qP, va_K.moved (u := U) (U := U.calling g mk a) (Vm.Alike.refl U.vm) qK⟩, va_recv hK hP (ci := 0) (q0 := 0) rfl rfl, fun U hU hW => ⟨rfl, by rw [hU]; exact hPc, va_K.moved hW.alike hK⟩⟩ rfl rfl hl.1 rfl (lv_room (Nat.le_of_ble_eq_true rfl)) dX0_wordy_6 ⟨Nat.zero_le _, Nat.zero_le _⟩)) (fun r_6 hr_6 => ?_)
  subst hr_6
  refine lv_iadd hx hb dX0_wordy_9 ?_
  refine z_i (y := nI (st + wd (t % nw))) (nI_add _ _) ?_
  exact W.iret (v := nI (st + wd (t % nw))) hx hb hr (fun t ht hW => ⟨_, rfl, rfl, ht⟩) (fun _ h => absurd h List.not_mem_nil) dX0_wordy_10

set_option maxHeartbeats 4000000 in
set_option maxRecDepth 100000 in
theorem c_X0_turning (l : Launch) (dC : Nat → ClassId) (dI : Nat → Nat → Nat) (cA : ClassId) (h1 b0 : Nat) (st kd nw : Nat) (wd : Nat → Nat) (WR : Nat → Int32) (hCS : CS st kd nw wd) (hCR : CR nw wd WR) (t : Nat) (ht : t < 2 ^ 31) : Met l yX0_turning wsX0_turning ({ frames := 2, cells := 0, slots := 0, locals := 42 }) (va_Pc [.ref h1, .int (nI t)] (fun U => va_P (dC, dI) vwCl [(h1, .inr (0, [.ref b0, .int (nI nw), .int (nI st), .int (nI kd)])), (b0, .inl (cA, 8, .inl WR))] U.heap ∧ va_K (dC, dI) vwCl [(cA, .int)] U)) (vp_Si (fun r => r = cI (decide (t % 2 = 1)) (st + wd (t % nw)))) 0 0 (fun _ => False) := by
  refine Met.ofW (cc := cX0_turning) (maxL := 2) (ret := (some .int)) (by decide) rfl ?_
  intro p e s m args below meth c s₁ B hml hv
  obtain ⟨rfl, hP, hK⟩ := hv
  have hx := B.exec
  have hb := B.bytes
  have hr := B.returns
  have hts := atoms_spec (ws := wsX0_turning) B.pre
  have hown : s.vm.findClass RX0 = some m.cls := findClass_of_methodNamed B.named
  have hlocks := B.notSynchronized
  have hl := lv_entry ([.ref h1, .int (nI t)]) (n := 2) (Nat.le_of_ble_eq_true rfl)
  rw [lg_entry_eq]
  generalize (lg_sl ([.ref h1, .int (nI t)]) ++ List.replicate (2 - (lg_sl ([.ref h1, .int (nI t)])).length) Slot.unset).toArray = ls at hl ⊢
  have hl : lv_has ls 2 [(0, .ref h1), (1, .int (nI t))] := hl
  obtain ⟨hs1, hs2, hk2, hw1, hw2, hwd⟩ := id hCS
  have htm := Nat.mod_lt t (show 0 < nw by omega)
  have hwt := hwd _ htm
  have ht2 := Nat.mod_lt t (show 0 < 2 by decide)
  refine lv_iload_n hx hb dX0_turning_0 rfl (lv_at hl 1 rfl) ?_
  refine lv_iconst (v := 2) hx hb dX0_turning_1 (by decide) ?_
  refine lv_irem hx hb dX0_turning_2 (by decide) ?_
  refine z_i (y := nI (t % 2)) (pk_rem (d := 2) ht (by omega) (by omega)) ?_
  refine lv_if_ne (tgt := 14) hx hb dX0_turning_3 (by decide) (fun c_3 => ?_) (fun c_3 => ?_)
  · have c_3 : ¬ t % 2 = 0 := fun h => c_3 ((nI_eq (a := t % 2) (b := 0) (by omega) (by omega)).mpr h)
    refine lv_aload_n hx hb dX0_turning_14 rfl (lv_at hl 0 rfl) ?_
    refine lv_iload_n hx hb dX0_turning_15 rfl (lv_at hl 1 rfl) ?_
    have hPc := hP.sub (ws' := [(h1, .inr (0, [.ref b0, .int (nI nw), .int (nI st), .int (nI kd)])), (b0, .inl (cA, 8, .inl WR))]) [0, 1] rfl
    refine vp_callSi (va_Run.run (va_runV (As := [.int (nI t)]) (rest := []) ⟨hx, hb, hml, hown, hts⟩ (c_X0_wordy l dC dI cA h1 b0 st kd nw wd WR hCS hCR t ht) (cwV 1 hts gX0_turning_X0_wordy rfl rfl rfl (by decide +kernel) ⟨Nat.le_of_ble_eq_true rfl, Nat.le_of_ble_eq_true rfl⟩) ⟨fun a U g mk q => by obtain ⟨q0, qP, qK⟩ := q; exact ⟨q0, qP, va_K.moved (u := U) (U := U.calling g mk a) (Vm.Alike.refl U.vm) qK⟩, va_recv hK hP (ci := 0) (q0 := 0) rfl rfl, fun U hU hW => ⟨rfl, by rw [hU]; exact hPc, va_K.moved hW.alike hK⟩⟩ rfl rfl hl.1 rfl (lv_room (Nat.le_of_ble_eq_true rfl)) dX0_turning_16 ⟨Nat.zero_le _, Nat.zero_le _⟩)) (fun r_16 hr_16 => ?_)
    subst hr_16
    refine lv_ineg hx hb dX0_turning_19 ?_
    exact W.iret (v := -(nI (st + wd (t % nw)))) hx hb hr (fun t ht hW => ⟨_, rfl, by first | (rw [decide_eq_false (by omega)]; rfl) | (rw [decide_eq_true (by omega)]; rfl), ht⟩) (fun _ h => absurd h List.not_mem_nil) dX0_turning_20
  · have c_3 : t % 2 = 0 := (nI_eq (a := t % 2) (b := 0) (by omega) (by omega)).mp c_3
    refine lv_aload_n hx hb dX0_turning_6 rfl (lv_at hl 0 rfl) ?_
    refine lv_iload_n hx hb dX0_turning_7 rfl (lv_at hl 1 rfl) ?_
    have hPc := hP.sub (ws' := [(h1, .inr (0, [.ref b0, .int (nI nw), .int (nI st), .int (nI kd)])), (b0, .inl (cA, 8, .inl WR))]) [0, 1] rfl
    refine vp_callSi (va_Run.run (va_runV (As := [.int (nI t)]) (rest := []) ⟨hx, hb, hml, hown, hts⟩ (c_X0_wordy l dC dI cA h1 b0 st kd nw wd WR hCS hCR t ht) (cwV 1 hts gX0_turning_X0_wordy rfl rfl rfl (by decide +kernel) ⟨Nat.le_of_ble_eq_true rfl, Nat.le_of_ble_eq_true rfl⟩) ⟨fun a U g mk q => by obtain ⟨q0, qP, qK⟩ := q; exact ⟨q0, qP, va_K.moved (u := U) (U := U.calling g mk a) (Vm.Alike.refl U.vm) qK⟩, va_recv hK hP (ci := 0) (q0 := 0) rfl rfl, fun U hU hW => ⟨rfl, by rw [hU]; exact hPc, va_K.moved hW.alike hK⟩⟩ rfl rfl hl.1 rfl (lv_room (Nat.le_of_ble_eq_true rfl)) dX0_turning_8 ⟨Nat.zero_le _, Nat.zero_le _⟩)) (fun r_8 hr_8 => ?_)
    subst hr_8
    refine lv_goto (tgt := 20) hx hb dX0_turning_11 (by decide) ?_
    exact W.iret (v := nI (st + wd (t % nw))) hx hb hr (fun t ht hW => ⟨_, rfl, by first | (rw [decide_eq_false (by omega)]; rfl) | (rw [decide_eq_true (by omega)]; rfl), ht⟩) (fun _ h => absurd h List.not_mem_nil) dX0_turning_20

set_option maxHeartbeats 4000000 in
set_option maxRecDepth 100000 in
theorem c_X0_ofTurn (l : Launch) (dC : Nat → ClassId) (dI : Nat → Nat → Nat) (cA : ClassId) (h1 b0 : Nat) (st kd nw : Nat) (wd : Nat → Nat) (WR : Nat → Int32) (hCS : CS st kd nw wd) (hCR : CR nw wd WR) (t : Nat) (ht : t < 2 ^ 31) : Met l yX0_ofTurn wsX0_ofTurn ({ frames := 3, cells := 0, slots := 0, locals := 63 }) (va_Pc [.ref h1, .int (nI t)] (fun U => va_P (dC, dI) vwCl [(h1, .inr (0, [.ref b0, .int (nI nw), .int (nI st), .int (nI kd)])), (b0, .inl (cA, 8, .inl WR))] U.heap ∧ va_K (dC, dI) vwCl [(cA, .int)] U)) (vp_Si (fun r => r = cI (cNeg kd t) (cK st kd nw wd t))) 0 0 (fun _ => False) := by
  refine Met.ofW (cc := cX0_ofTurn) (maxL := 2) (ret := (some .int)) (by decide) rfl ?_
  intro p e s m args below meth c s₁ B hml hv
  obtain ⟨rfl, hP, hK⟩ := hv
  have hx := B.exec
  have hb := B.bytes
  have hr := B.returns
  have hts := atoms_spec (ws := wsX0_ofTurn) B.pre
  have hown : s.vm.findClass RX0 = some m.cls := findClass_of_methodNamed B.named
  have hlocks := B.notSynchronized
  have hl := lv_entry ([.ref h1, .int (nI t)]) (n := 2) (Nat.le_of_ble_eq_true rfl)
  rw [lg_entry_eq]
  generalize (lg_sl ([.ref h1, .int (nI t)]) ++ List.replicate (2 - (lg_sl ([.ref h1, .int (nI t)])).length) Slot.unset).toArray = ls at hl ⊢
  have hl : lv_has ls 2 [(0, .ref h1), (1, .int (nI t))] := hl
  obtain ⟨hs1, hs2, hk2, hw1, hw2, hwd⟩ := id hCS
  have htm := Nat.mod_lt t (show 0 < nw by omega)
  have hwt := hwd _ htm
  refine lv_aload_n hx hb dX0_ofTurn_0 rfl (lv_at hl 0 rfl) ?_
  refine va_get (D := (dC, dI)) (ci := 0) (v := .int (nI kd)) (C := RX0) (T := TX0) (N := 4) hx hb hts (by decide +kernel) hown hK hP 0 rfl rfl 3 (by decide) (hts (.fieldLink RX0 22 "CountedOut$Counts" "kind" "I") (by decide +kernel)) (fun _ h9 => h9) rfl dX0_ofTurn_1 ?_
  rcases (show kd = 0 ∨ kd = 1 ∨ kd = 2 by omega) with e9 | e9 | e9
  · refine lv_lookup (off := 40) (tgt := 44) hx hb dX0_ofTurn_4 (by decide) (by rw [e9]; decide) (by decide) ?_
    refine lv_aload_n hx hb dX0_ofTurn_44 rfl (lv_at hl 0 rfl) ?_
    refine va_get (D := (dC, dI)) (ci := 0) (v := .int (nI st)) (C := RX0) (T := TX0) (N := 4) hx hb hts (by decide +kernel) hown hK hP 0 rfl rfl 2 (by decide) (hts (.fieldLink RX0 19 "CountedOut$Counts" "step" "I") (by decide +kernel)) (fun _ h9 => h9) rfl dX0_ofTurn_45 ?_
    exact W.iret (v := nI st) hx hb hr (fun t ht hW => ⟨_, rfl, by rw [cNeg, cK, e9]; rfl, ht⟩) (fun _ h => absurd h List.not_mem_nil) dX0_ofTurn_48
  · refine lv_lookup (off := 28) (tgt := 32) hx hb dX0_ofTurn_4 (by decide) (by rw [e9]; decide) (by decide) ?_
    refine lv_aload_n hx hb dX0_ofTurn_32 rfl (lv_at hl 0 rfl) ?_
    refine lv_iload_n hx hb dX0_ofTurn_33 rfl (lv_at hl 1 rfl) ?_
    have hPc := hP.sub (ws' := [(h1, .inr (0, [.ref b0, .int (nI nw), .int (nI st), .int (nI kd)])), (b0, .inl (cA, 8, .inl WR))]) [0, 1] rfl
    refine vp_callSi (va_Run.run (va_runV (As := [.int (nI t)]) (rest := []) ⟨hx, hb, hml, hown, hts⟩ (c_X0_wordy l dC dI cA h1 b0 st kd nw wd WR hCS hCR t ht) (cwV 1 hts gX0_ofTurn_X0_wordy rfl rfl rfl (by decide +kernel) ⟨Nat.le_of_ble_eq_true rfl, Nat.le_of_ble_eq_true rfl⟩) ⟨fun a U g mk q => by obtain ⟨q0, qP, qK⟩ := q; exact ⟨q0, qP, va_K.moved (u := U) (U := U.calling g mk a) (Vm.Alike.refl U.vm) qK⟩, va_recv hK hP (ci := 0) (q0 := 0) rfl rfl, fun U hU hW => ⟨rfl, by rw [hU]; exact hPc, va_K.moved hW.alike hK⟩⟩ rfl rfl hl.1 rfl (lv_room (Nat.le_of_ble_eq_true rfl)) dX0_ofTurn_34 ⟨Nat.zero_le _, Nat.zero_le _⟩)) (fun r_34 hr_34 => ?_)
    subst hr_34
    exact W.iret (v := nI (st + wd (t % nw))) hx hb hr (fun t ht hW => ⟨_, rfl, by rw [cNeg, cK, e9]; rfl, ht⟩) (fun _ h => absurd h List.not_mem_nil) dX0_ofTurn_37
  · refine lv_lookup (off := 34) (tgt := 38) hx hb dX0_ofTurn_4 (by decide) (by rw [e9]; decide) (by decide) ?_
    refine lv_aload_n hx hb dX0_ofTurn_38 rfl (lv_at hl 0 rfl) ?_
    refine lv_iload_n hx hb dX0_ofTurn_39 rfl (lv_at hl 1 rfl) ?_
    have hPc := hP.sub (ws' := [(h1, .inr (0, [.ref b0, .int (nI nw), .int (nI st), .int (nI kd)])), (b0, .inl (cA, 8, .inl WR))]) [0, 1] rfl
    refine vp_callSi (va_Run.run (va_runV (As := [.int (nI t)]) (rest := []) ⟨hx, hb, hml, hown, hts⟩ (c_X0_turning l dC dI cA h1 b0 st kd nw wd WR hCS hCR t ht) (cwV 1 hts gX0_ofTurn_X0_turning rfl rfl rfl (by decide +kernel) ⟨Nat.le_of_ble_eq_true rfl, Nat.le_of_ble_eq_true rfl⟩) ⟨fun a U g mk q => by obtain ⟨q0, qP, qK⟩ := q; exact ⟨q0, qP, va_K.moved (u := U) (U := U.calling g mk a) (Vm.Alike.refl U.vm) qK⟩, va_recv hK hP (ci := 0) (q0 := 0) rfl rfl, fun U hU hW => ⟨rfl, by rw [hU]; exact hPc, va_K.moved hW.alike hK⟩⟩ rfl rfl hl.1 rfl (lv_room (Nat.le_of_ble_eq_true rfl)) dX0_ofTurn_40 ⟨Nat.zero_le _, Nat.zero_le _⟩)) (fun r_40 hr_40 => ?_)
    subst hr_40
    exact W.iret (v := cI (decide (t % 2 = 1)) (st + wd (t % nw))) hx hb hr (fun t ht hW => ⟨_, rfl, by rw [cNeg, cK, e9]; rfl, ht⟩) (fun _ h => absurd h List.not_mem_nil) dX0_ofTurn_43

set_option maxHeartbeats 4000000 in
set_option maxRecDepth 100000 in
theorem c_X0_toll (l : Launch) (dC : Nat → ClassId) (dI : Nat → Nat → Nat) (cA : ClassId) (h1 b0 : Nat) (tt : Nat) (kd : Nat) (hkd : kd ≤ 2) (wc sv : Int32) : Met l yX0_toll wsX0_toll ({ frames := 0, cells := 0, slots := 0, locals := 0 }) (va_Pc [.ref h1] (fun U => va_P (dC, dI) vwCl [(h1, .inr (0, [.ref b0, .int wc, .int sv, .int (nI kd)]))] U.heap ∧ va_K (dC, dI) vwCl [(cA, .int)] U ∧ va_Z "CountedOut$Counts" "TOLLS" "[I" (.ref tt) (fun _ => False) U U.heap ∧ va_T .int tt 3 (fun j => .int (tollN j)) (fun _ => False) U U.heap)) (vp_Si (fun r => r = tollN kd)) 0 0 (fun _ => False) := by
  refine Met.ofW (cc := cX0_toll) (maxL := 1) (ret := (some .int)) (by decide) rfl ?_
  intro p e s m args below meth c s₁ B hml hv
  obtain ⟨rfl, hP, hK, hX⟩ := hv
  have hx := B.exec
  have hb := B.bytes
  have hr := B.returns
  have hts := atoms_spec (ws := wsX0_toll) B.pre
  have hown : s.vm.findClass RX0 = some m.cls := findClass_of_methodNamed B.named
  have hlocks := B.notSynchronized
  have hl := lv_entry ([.ref h1]) (n := 1) (Nat.le_of_ble_eq_true rfl)
  rw [lg_entry_eq]
  generalize (lg_sl ([.ref h1]) ++ List.replicate (1 - (lg_sl ([.ref h1])).length) Slot.unset).toArray = ls at hl ⊢
  have hl : lv_has ls 1 [(0, .ref h1)] := hl
  refine lv_aload_n hx hb dX0_toll_0 rfl (lv_at hl 0 rfl) ?_
  refine va_get (D := (dC, dI)) (ci := 0) (v := .int (nI kd)) (C := RX0) (T := TX0) (N := 4) hx hb hts (by decide +kernel) hown hK hP 0 rfl rfl 3 (by decide) (hts (.fieldLink RX0 22 "CountedOut$Counts" "kind" "I") (by decide +kernel)) (fun _ h9 => h9) rfl dX0_toll_1 ?_
  refine lv_if_lt (tgt := 18) hx hb dX0_toll_4 (by decide) (fun c_4 => ?_) (fun c_4 => ?_)
  · exact absurd c_4 (nI_pos (by omega))
  · refine lv_aload_n hx hb dX0_toll_7 rfl (lv_at hl 0 rfl) ?_
    refine va_get (D := (dC, dI)) (ci := 0) (v := .int (nI kd)) (C := RX0) (T := TX0) (N := 4) hx hb hts (by decide +kernel) hown hK hP 0 rfl rfl 3 (by decide) (hts (.fieldLink RX0 22 "CountedOut$Counts" "kind" "I") (by decide +kernel)) (fun _ h9 => h9) rfl dX0_toll_8 ?_
    refine va_gets (C := "CountedOut$Counts") (n := "TOLLS") (d := "[I") (v := .ref tt) hx hb hX.1 va_S.rf hown (hts (.fieldLink RX0 35 "CountedOut$Counts" "TOLLS" "[I") (by decide +kernel)) (fun _ h9 => h9) dX0_toll_11 ?_
    refine va_tlen hx hb hX.2 va_S.rf (v := 3) rfl dX0_toll_14 ?_
    refine lv_icmp_lt (tgt := 22) hx hb dX0_toll_15 (by decide) (fun c_15 => ?_) (fun c_15 => ?_)
    · refine va_gets (C := "CountedOut$Counts") (n := "TOLLS") (d := "[I") (v := .ref tt) hx hb hX.1 va_S.rf hown (hts (.fieldLink RX0 35 "CountedOut$Counts" "TOLLS" "[I") (by decide +kernel)) (fun _ h9 => h9) dX0_toll_22 ?_
      refine lv_aload_n hx hb dX0_toll_25 rfl (lv_at hl 0 rfl) ?_
      refine va_get (D := (dC, dI)) (ci := 0) (v := .int (nI kd)) (C := RX0) (T := TX0) (N := 4) hx hb hts (by decide +kernel) hown hK hP 0 rfl rfl 3 (by decide) (hts (.fieldLink RX0 22 "CountedOut$Counts" "kind" "I") (by decide +kernel)) (fun _ h9 => h9) rfl dX0_toll_26 ?_
      refine va_ti (v := .int (tollN kd)) hx hb hX.2 va_S.rf (vp_in_nI (show kd < 3 by omega) (by decide)) (by rw [nI_clamp (by omega)]) dX0_toll_29 ?_
      exact W.iret (v := tollN kd) hx hb hr (fun t ht hW => ⟨_, rfl, rfl, ht⟩) (fun _ h => absurd h List.not_mem_nil) dX0_toll_30
    · exact absurd ((nI_ltI (a := kd) (b := 3) (by omega) (by omega)).mpr (by omega)) c_15
end
section
theorem lose_W {N p0 M w : Nat} {WA : Nat → Int32} (h : w = 1) : ∀ q, q < N → upd WA p0 (nI M) q = if q = p0 ∧ w = 1 then nI M else WA q := by
  intro q hq
  by_cases e : q = p0
  · subst e; rw [pk_us, if_pos ⟨rfl, h⟩]
  · rw [pk_un e, if_neg (fun h => e h.1)]
theorem back_W1 {N q : Nat} {WA : Nat → Int32} (h : WA q = -9) : ∀ p, p < N → WA p = if p = q then -9 else WA p := by
  intro p hp
  by_cases e : p = q
  · subst e; rw [if_pos rfl]; exact h
  · rw [if_neg e]
theorem back_W2 {N q : Nat} {WA : Nat → Int32} : ∀ p, p < N → upd WA q (-9) p = if p = q then -9 else WA p := by
  intro p hp
  by_cases e : p = q
  · subst e; rw [if_pos rfl, pk_us]
  · rw [if_neg e, pk_un e]
theorem beg_step {p0 : Nat} {V U : Nat → Int32} (h : ∀ q, q < p0 → V q = 1 ∧ U q = -9) : ∀ q, q < p0 + 1 → upd V p0 1 q = 1 ∧ upd U p0 (-9) q = -9 := by
  intro q hq
  by_cases e : q = p0
  · subst e; exact ⟨pk_us, pk_us⟩
  · rw [pk_un e, pk_un e]; exact h q (by omega)
def bk1 (Z : AS) : AS := match Z.1 with
  | [] => Z
  | (q, a) :: t => bS q a t Z
theorem nI_n9 {m : Nat} (h : m ≤ 40) : ¬ (-9 : Int32) = nI m := (by decide +kernel : ∀ m, m ≤ 40 → ¬ (-9 : Int32) = nI m) m h
theorem wI_eq {w m : Nat} (hw : w ≤ 40) (hm : m ≤ 40) : wI w = nI m ↔ (w = m ∧ 0 < m) := by
  unfold wI
  by_cases h : w = 0
  · rw [if_pos h]
    exact ⟨fun e => absurd e (nI_n9 hm), fun e => by omega⟩
  · rw [if_neg h, nI_eq (by omega) (by omega)]
    exact ⟨fun e => by omega, fun e => e.1⟩
set_option maxHeartbeats 4000000 in
set_option maxRecDepth 100000 in
theorem c_X1_has (l : Launch) (dC : Nat → ClassId) (dI : Nat → Nat → Nat) (cA : ClassId) (h2 a0 a1 a2 a3 : Nat) (N : Nat) (hN : N ≤ 40) (lf av dv p0 : Int32) : Met l yX1_has wsX1_has ({ frames := 0, cells := 0, slots := 0, locals := 0 }) (va_Pc [.ref h2, .int p0] (fun U => va_P (dC, dI) vwCl [(h2, .inr (1, [.ref a0, .ref a1, .ref a2, .ref a3, .int (nI N), .int lf, .int av, .int dv]))] U.heap ∧ va_K (dC, dI) vwCl [(cA, .int)] U)) (vp_Si (fun r => r = zb (wi p0.toInt 0 ((N : Int) - 1)))) 0 0 (fun _ => False) := by
  refine Met.ofW (cc := cX1_has) (maxL := 2) (ret := (some .boolean)) (by decide) rfl ?_
  intro p e s m args below meth c s₁ B hml hv
  obtain ⟨rfl, hP, hK⟩ := hv
  have hx := B.exec
  have hb := B.bytes
  have hr := B.returns
  have hts := atoms_spec (ws := wsX1_has) B.pre
  have hown : s.vm.findClass RX1 = some m.cls := findClass_of_methodNamed B.named
  have hlocks := B.notSynchronized
  have hl := lv_entry ([.ref h2, .int p0]) (n := 2) (Nat.le_of_ble_eq_true rfl)
  rw [lg_entry_eq]
  generalize (lg_sl ([.ref h2, .int p0]) ++ List.replicate (2 - (lg_sl ([.ref h2, .int p0])).length) Slot.unset).toArray = ls at hl ⊢
  have hl : lv_has ls 2 [(0, .ref h2), (1, .int p0)] := hl
  have e0 : (0 : Int32).toInt = 0 := rfl
  refine lv_iload_n hx hb dX1_has_0 rfl (lv_at hl 1 rfl) ?_
  refine lv_if_lt (tgt := 16) hx hb dX1_has_1 (by decide) (fun c_1 => ?_) (fun c_1 => ?_)
  · have c_1 : p0.toInt < 0 := by have h := (lt32 _ _).mp c_1; omega
    refine lv_iconst (v := 0) hx hb dX1_has_16 (by decide) ?_
    exact W.zret (v := 0) hx hb hr (rfl) (fun t ht hW => ⟨_, rfl, by first | (rw [zb_t (wi_t.mpr (by omega))]) | (rw [zb_f (wi_f.mpr (by omega))]), ht⟩) (fun _ h => absurd h List.not_mem_nil) dX1_has_17
  · have c_1 : 0 ≤ p0.toInt := by have h := mt (lt32 p0 0).mpr c_1; omega
    refine lv_iload_n hx hb dX1_has_4 rfl (lv_at hl 1 rfl) ?_
    refine lv_aload_n hx hb dX1_has_5 rfl (lv_at hl 0 rfl) ?_
    refine va_get (D := (dC, dI)) (ci := 1) (v := .int (nI N)) (C := RX1) (T := TX1) (N := 8) hx hb hts (by decide +kernel) hown hK hP 0 rfl rfl 4 (by decide) (hts (.fieldLink RX1 34 "CountedOut$Ring" "size" "I") (by decide +kernel)) (fun _ h9 => h9) rfl dX1_has_6 ?_
    refine lv_icmp_ge (tgt := 16) hx hb dX1_has_9 (by decide) (fun c_9 => ?_) (fun c_9 => ?_)
    · have c_9 : (N : Int) ≤ p0.toInt := by have h := (le32 _ _).mp c_9; rw [nI_toInt (by omega)] at h; exact h
      refine lv_iconst (v := 0) hx hb dX1_has_16 (by decide) ?_
      exact W.zret (v := 0) hx hb hr (rfl) (fun t ht hW => ⟨_, rfl, by first | (rw [zb_t (wi_t.mpr (by omega))]) | (rw [zb_f (wi_f.mpr (by omega))]), ht⟩) (fun _ h => absurd h List.not_mem_nil) dX1_has_17
    · have c_9 : p0.toInt < N := by have h := mt (le32 (nI N) p0).mpr c_9; rw [nI_toInt (by omega)] at h; omega
      refine lv_iconst (v := 1) hx hb dX1_has_12 (by decide) ?_
      refine lv_goto (tgt := 17) hx hb dX1_has_13 (by decide) ?_
      exact W.zret (v := 1) hx hb hr (rfl) (fun t ht hW => ⟨_, rfl, by first | (rw [zb_t (wi_t.mpr (by omega))]) | (rw [zb_f (wi_f.mpr (by omega))]), ht⟩) (fun _ h => absurd h List.not_mem_nil) dX1_has_17

set_option maxHeartbeats 4000000 in
set_option maxRecDepth 100000 in
theorem c_X1_hasBegun (l : Launch) (dC : Nat → ClassId) (dI : Nat → Nat → Nat) (cA : ClassId) (h2 a0 a1 a2 a3 : Nat) (d : Nat) (hd : d < 2 ^ 31) (sz0 lf av : Int32) : Met l yX1_hasBegun wsX1_hasBegun ({ frames := 0, cells := 0, slots := 0, locals := 0 }) (va_Pc [.ref h2] (fun U => va_P (dC, dI) vwCl [(h2, .inr (1, [.ref a0, .ref a1, .ref a2, .ref a3, .int sz0, .int lf, .int av, .int (nI d)]))] U.heap ∧ va_K (dC, dI) vwCl [(cA, .int)] U)) (vp_Si (fun r => r = zb (decide (0 < d)))) 0 0 (fun _ => False) := by
  refine Met.ofW (cc := cX1_hasBegun) (maxL := 1) (ret := (some .boolean)) (by decide) rfl ?_
  intro p e s m args below meth c s₁ B hml hv
  obtain ⟨rfl, hP, hK⟩ := hv
  have hx := B.exec
  have hb := B.bytes
  have hr := B.returns
  have hts := atoms_spec (ws := wsX1_hasBegun) B.pre
  have hown : s.vm.findClass RX1 = some m.cls := findClass_of_methodNamed B.named
  have hlocks := B.notSynchronized
  have hl := lv_entry ([.ref h2]) (n := 1) (Nat.le_of_ble_eq_true rfl)
  rw [lg_entry_eq]
  generalize (lg_sl ([.ref h2]) ++ List.replicate (1 - (lg_sl ([.ref h2])).length) Slot.unset).toArray = ls at hl ⊢
  have hl : lv_has ls 1 [(0, .ref h2)] := hl
  refine lv_aload_n hx hb dX1_hasBegun_0 rfl (lv_at hl 0 rfl) ?_
  refine va_get (D := (dC, dI)) (ci := 1) (v := .int (nI d)) (C := RX1) (T := TX1) (N := 8) hx hb hts (by decide +kernel) hown hK hP 0 rfl rfl 7 (by decide) (hts (.fieldLink RX1 44 "CountedOut$Ring" "done" "I") (by decide +kernel)) (fun _ h9 => h9) rfl dX1_hasBegun_1 ?_
  refine lv_if_le (tgt := 11) hx hb dX1_hasBegun_4 (by decide) (fun c_4 => ?_) (fun c_4 => ?_)
  · have c_4 : d ≤ 0 := (nI_leI (a := d) (b := 0) (by omega) (by omega)).mp c_4
    refine lv_iconst (v := 0) hx hb dX1_hasBegun_11 (by decide) ?_
    exact W.zret (v := 0) hx hb hr (rfl) (fun t ht hW => ⟨_, rfl, by first | (rw [decide_eq_true (by omega)]; rfl) | (rw [decide_eq_false (by omega)]; rfl), ht⟩) (fun _ h => absurd h List.not_mem_nil) dX1_hasBegun_12
  · have c_4 : 0 < d := Nat.lt_of_not_le (fun h => c_4 ((nI_leI (a := d) (b := 0) (by omega) (by omega)).mpr h))
    refine lv_iconst (v := 1) hx hb dX1_hasBegun_7 (by decide) ?_
    refine lv_goto (tgt := 12) hx hb dX1_hasBegun_8 (by decide) ?_
    exact W.zret (v := 1) hx hb hr (rfl) (fun t ht hW => ⟨_, rfl, by first | (rw [decide_eq_true (by omega)]; rfl) | (rw [decide_eq_false (by omega)]; rfl), ht⟩) (fun _ h => absurd h List.not_mem_nil) dX1_hasBegun_12

set_option maxHeartbeats 4000000 in
set_option maxRecDepth 100000 in
theorem c_X1_giveLives (l : Launch) (dC : Nat → ClassId) (dI : Nat → Nat → Nat) (sz : Nat) (cA : ClassId) (h2 a0 a1 a2 a3 : Nat) (sz0 lf av dv v : Int32) (p0 : Nat) (hp : p0 < 40) (LA : Nat → Int32) : Met l yX1_giveLives wsX1_giveLives ({ frames := 0, cells := 0, slots := 0, locals := 0 }) (va_Pc [.ref h2, .int (nI p0), .int v] (fun U => U.heap.size = sz ∧ va_P (dC, dI) vwCl [(h2, .inr (1, [.ref a0, .ref a1, .ref a2, .ref a3, .int sz0, .int lf, .int av, .int dv])), (a0, .inl (cA, 40, .inl LA))] U.heap ∧ va_K (dC, dI) vwCl [(cA, .int)] U ∧ va_D (fun _ => True) [(h2, .inr (1, [.ref a0, .ref a1, .ref a2, .ref a3, .int sz0, .int lf, .int av, .int dv])), (a0, .inl (cA, 40, .inl LA))])) (va_Qi (S := Unit) (fun r _ => r = LA p0) (fun (_ : Unit) (t : State) => va_P (dC, dI) vwCl [(h2, .inr (1, [.ref a0, .ref a1, .ref a2, .ref a3, .int sz0, .int lf, .int av, .int dv])), (a0, .inl (cA, 40, .inl (upd LA p0 v)))] t.heap ∧ va_K (dC, dI) vwCl [(cA, .int)] t ∧ va_D (va_A [(h2, .inr (1, [.ref a0, .ref a1, .ref a2, .ref a3, .int sz0, .int lf, .int av, .int dv])), (a0, .inl (cA, 40, .inl LA))] sz) [(h2, .inr (1, [.ref a0, .ref a1, .ref a2, .ref a3, .int sz0, .int lf, .int av, .int dv])), (a0, .inl (cA, 40, .inl (upd LA p0 v)))]) (va_A [(h2, .inr (1, [.ref a0, .ref a1, .ref a2, .ref a3, .int sz0, .int lf, .int av, .int dv])), (a0, .inl (cA, 40, .inl LA))] sz)) 0 0 (va_A [(h2, .inr (1, [.ref a0, .ref a1, .ref a2, .ref a3, .int sz0, .int lf, .int av, .int dv])), (a0, .inl (cA, 40, .inl LA))] sz) := by
  refine Met.ofW (cc := cX1_giveLives) (maxL := 4) (ret := (some .int)) (by decide) rfl ?_
  intro p e s m args below meth c s₁ B hml hv
  obtain ⟨rfl, hsz, hP, hK, hD0⟩ := hv
  have hx := B.exec
  have hb := B.bytes
  have hr := B.returns
  have hts := atoms_spec (ws := wsX1_giveLives) B.pre
  have hown : s.vm.findClass RX1 = some m.cls := findClass_of_methodNamed B.named
  have hlocks := B.notSynchronized
  subst hsz
  have hD := hD0.self (sz := s.heap.size)
  generalize hAe : va_A [(h2, .inr (1, [.ref a0, .ref a1, .ref a2, .ref a3, .int sz0, .int lf, .int av, .int dv])), (a0, .inl (cA, 40, .inl LA))] s.heap.size = A at hD ⊢
  have hA : ∀ q : Nat, s.heap.size ≤ q → A q := fun q h => by rw [← hAe]; exact Or.inr h
  have hS : va_S A s.heap s.heap [] := va_S.rf
  have hP : va_P (dC, dI) vwCl [(h2, .inr (1, [.ref a0, .ref a1, .ref a2, .ref a3, .int sz0, .int lf, .int av, .int dv])), (a0, .inl (cA, 40, .inl LA))] s.heap := hP
  have hl := lv_entry ([.ref h2, .int (nI p0), .int v]) (n := 4) (Nat.le_of_ble_eq_true rfl)
  rw [lg_entry_eq]
  generalize (lg_sl ([.ref h2, .int (nI p0), .int v]) ++ List.replicate (4 - (lg_sl ([.ref h2, .int (nI p0), .int v])).length) Slot.unset).toArray = ls at hl ⊢
  have hl : lv_has ls 4 [(0, .ref h2), (1, .int (nI p0)), (2, .int v)] := hl
  refine lv_aload_n hx hb dX1_giveLives_0 rfl (lv_at hl 0 rfl) ?_
  refine va_get (D := (dC, dI)) (ci := 1) (v := .ref a0) (C := RX1) (T := TX1) (N := 8) hx hb hts (by decide +kernel) hown hK hP 0 rfl rfl 0 (by decide) (hts (.fieldLink RX1 9 "CountedOut$Ring" "livesLeft" "[I") (by decide +kernel)) (fun _ h9 => h9) rfl dX1_giveLives_1 ?_
  refine lv_iload_n hx hb dX1_giveLives_4 rfl (lv_at hl 1 rfl) ?_
  refine z_iald hx hb hK hP 1 0 rfl rfl (i := p0) (hp) (by decide) dX1_giveLives_5 ?_
  refine lv_istore_n (lv' := [(3, .int (LA p0)), (0, .ref h2), (1, .int (nI p0)), (2, .int v)]) hx hb dX1_giveLives_6 rfl hl (by decide) rfl (fun ls hl => ?_)
  refine lv_aload_n hx hb dX1_giveLives_7 rfl (lv_at hl 1 rfl) ?_
  refine va_get (D := (dC, dI)) (ci := 1) (v := .ref a0) (C := RX1) (T := TX1) (N := 8) hx hb hts (by decide +kernel) hown hK hP 0 rfl rfl 0 (by decide) (hts (.fieldLink RX1 9 "CountedOut$Ring" "livesLeft" "[I") (by decide +kernel)) (fun _ h9 => h9) rfl dX1_giveLives_8 ?_
  refine lv_iload_n hx hb dX1_giveLives_11 rfl (lv_at hl 2 rfl) ?_
  refine lv_iload_n hx hb dX1_giveLives_12 rfl (lv_at hl 3 rfl) ?_
  refine z_iast hx hb hK hP hD hS 1 0 rfl rfl (i := p0) (hp) (by decide) dX1_giveLives_13 (fun H locs hP hD hS => ?_)
  have hP : va_P (dC, dI) vwCl [(h2, .inr (1, [.ref a0, .ref a1, .ref a2, .ref a3, .int sz0, .int lf, .int av, .int dv])), (a0, .inl (cA, 40, .inl (upd LA p0 v)))] H := hP
  have hD : va_D A [(h2, .inr (1, [.ref a0, .ref a1, .ref a2, .ref a3, .int sz0, .int lf, .int av, .int dv])), (a0, .inl (cA, 40, .inl (upd LA p0 v)))] := hD
  refine lv_iload_n hx hb dX1_giveLives_14 rfl (lv_at hl 0 rfl) ?_
  have hP9 := hP.sub (ws' := [(h2, .inr (1, [.ref a0, .ref a1, .ref a2, .ref a3, .int sz0, .int lf, .int av, .int dv])), (a0, .inl (cA, 40, .inl (upd LA p0 v)))]) [0, 1] rfl
  have hD9 := hD.sub (ws' := [(h2, .inr (1, [.ref a0, .ref a1, .ref a2, .ref a3, .int sz0, .int lf, .int av, .int dv])), (a0, .inl (cA, 40, .inl (upd LA p0 v)))]) [0, 1] (by decide) rfl
  exact W.iret (v := LA p0) hx hb hr (fun t ht hW => ⟨⟨_, (), rfl, rfl, ⟨by rw [ht]; exact hP9, va_K.moved hW.alike hK, hD9⟩⟩, hS.F ht⟩) hS.2.2 dX1_giveLives_15

set_option maxHeartbeats 4000000 in
set_option maxRecDepth 100000 in
theorem c_X1_begin (l : Launch) (dC : Nat → ClassId) (dI : Nat → Nat → Nat) (sz : Nat) (cA : ClassId) (h2 a0 a1 a2 a3 : Nat) (n : Nat) (hn1 : 1 ≤ n) (hn : n ≤ 40) (sz0 lf av dv : Int32) (LA WA : Nat → Int32) : Met l yX1_begin wsX1_begin ({ frames := 1, cells := 0, slots := 0, locals := 15 }) (va_Pc [.ref h2, .int (nI n)] (fun U => U.heap.size = sz ∧ va_P (dC, dI) vwCl [(h2, .inr (1, [.ref a0, .ref a1, .ref a2, .ref a3, .int sz0, .int lf, .int av, .int dv])), (a0, .inl (cA, 40, .inl LA)), (a1, .inl (cA, 40, .inl WA))] U.heap ∧ va_K (dC, dI) vwCl [(cA, .int)] U ∧ va_D (fun _ => True) [(h2, .inr (1, [.ref a0, .ref a1, .ref a2, .ref a3, .int sz0, .int lf, .int av, .int dv])), (a0, .inl (cA, 40, .inl LA)), (a1, .inl (cA, 40, .inl WA))])) (va_Qv (S := (Nat → Int32) × (Nat → Int32)) (fun u => ∀ q, q < n → u.1 q = 1 ∧ u.2 q = -9) (fun (u : (Nat → Int32) × (Nat → Int32)) (t : State) => va_P (dC, dI) vwCl [(h2, .inr (1, [.ref a0, .ref a1, .ref a2, .ref a3, .int (nI n), .int (nI n), .int 0, .int 0])), (a0, .inl (cA, 40, .inl u.1)), (a1, .inl (cA, 40, .inl u.2))] t.heap ∧ va_K (dC, dI) vwCl [(cA, .int)] t ∧ va_D (va_A [(h2, .inr (1, [.ref a0, .ref a1, .ref a2, .ref a3, .int sz0, .int lf, .int av, .int dv])), (a0, .inl (cA, 40, .inl LA)), (a1, .inl (cA, 40, .inl WA))] sz) [(h2, .inr (1, [.ref a0, .ref a1, .ref a2, .ref a3, .int (nI n), .int (nI n), .int 0, .int 0])), (a0, .inl (cA, 40, .inl u.1)), (a1, .inl (cA, 40, .inl u.2))]) (va_A [(h2, .inr (1, [.ref a0, .ref a1, .ref a2, .ref a3, .int sz0, .int lf, .int av, .int dv])), (a0, .inl (cA, 40, .inl LA)), (a1, .inl (cA, 40, .inl WA))] sz)) 0 0 (va_A [(h2, .inr (1, [.ref a0, .ref a1, .ref a2, .ref a3, .int sz0, .int lf, .int av, .int dv])), (a0, .inl (cA, 40, .inl LA)), (a1, .inl (cA, 40, .inl WA))] sz) := by
  refine Met.ofW (cc := cX1_begin) (maxL := 3) (ret := none) (by decide) rfl ?_
  intro p e s m args below meth c s₁ B hml hv
  obtain ⟨rfl, hsz, hP, hK, hD0⟩ := hv
  have hx := B.exec
  have hb := B.bytes
  have hr := B.returns
  have hts := atoms_spec (ws := wsX1_begin) B.pre
  have hown : s.vm.findClass RX1 = some m.cls := findClass_of_methodNamed B.named
  have hlocks := B.notSynchronized
  subst hsz
  have hD := hD0.self (sz := s.heap.size)
  generalize hAe : va_A [(h2, .inr (1, [.ref a0, .ref a1, .ref a2, .ref a3, .int sz0, .int lf, .int av, .int dv])), (a0, .inl (cA, 40, .inl LA)), (a1, .inl (cA, 40, .inl WA))] s.heap.size = A at hD ⊢
  have hA : ∀ q : Nat, s.heap.size ≤ q → A q := fun q h => by rw [← hAe]; exact Or.inr h
  have hS : va_S A s.heap s.heap [] := va_S.rf
  have hP : va_P (dC, dI) vwCl [(h2, .inr (1, [.ref a0, .ref a1, .ref a2, .ref a3, .int sz0, .int lf, .int av, .int dv])), (a0, .inl (cA, 40, .inl LA)), (a1, .inl (cA, 40, .inl WA))] s.heap := hP
  have hl := lv_entry ([.ref h2, .int (nI n)]) (n := 3) (Nat.le_of_ble_eq_true rfl)
  rw [lg_entry_eq]
  generalize (lg_sl ([.ref h2, .int (nI n)]) ++ List.replicate (3 - (lg_sl ([.ref h2, .int (nI n)])).length) Slot.unset).toArray = ls at hl ⊢
  have hl : lv_has ls 3 [(0, .ref h2), (1, .int (nI n))] := hl
  refine lv_aload_n hx hb dX1_begin_0 rfl (lv_at hl 0 rfl) ?_
  refine lv_iload_n hx hb dX1_begin_1 rfl (lv_at hl 1 rfl) ?_
  refine lv_bipush (v := 40) hx hb dX1_begin_2 (by decide) ?_
  refine va_mmin hx hb (hml.trans hl.1.symm) hown (hts (.methodLink RX1 28 Lib.Math.min.name) (by decide +kernel)) (hts (.static Lib.Math.min.name) (by decide +kernel)) (hts (.initialized "java/lang/Math") (by decide +kernel)) (hts _ (List.mem_cons_of_mem _ (List.mem_append_left _ (List.mem_of_getElem? (i := 3) rfl)))) (Nat.le_of_ble_eq_true rfl) (Nat.le_of_ble_eq_true rfl) (Nat.zero_le _) (Nat.zero_le _) dX1_begin_4 ?_
  refine z_i (y := nI n) (if_neg (fun h => by have := (nI_ltI (a := 40) (b := n) (by omega) (by omega)).mp h; omega)) ?_
  refine va_put (D := (dC, dI)) (ci := 1) (v := .int (nI n)) (ty := .int) (C := RX1) (T := TX1) (N := 8) hx hb hts (by decide +kernel) tyX1 tyX1_ok nmX1 hown hK hP hD hS 0 rfl rfl 4 (by decide) (hts (.fieldLink RX1 34 "CountedOut$Ring" "size" "I") (by decide +kernel)) (fun _ h9 => h9) rfl (by decide +kernel) rfl rfl (Nat.le_of_ble_eq_true rfl) dX1_begin_7 (fun H locs hP hD hS => ?_)
  have hP : va_P (dC, dI) vwCl [(h2, .inr (1, [.ref a0, .ref a1, .ref a2, .ref a3, .int (nI n), .int lf, .int av, .int dv])), (a0, .inl (cA, 40, .inl LA)), (a1, .inl (cA, 40, .inl WA))] H := hP
  have hD : va_D A [(h2, .inr (1, [.ref a0, .ref a1, .ref a2, .ref a3, .int (nI n), .int lf, .int av, .int dv])), (a0, .inl (cA, 40, .inl LA)), (a1, .inl (cA, 40, .inl WA))] := hD
  refine lv_aload_n hx hb dX1_begin_10 rfl (lv_at hl 0 rfl) ?_
  refine lv_aload_n hx hb dX1_begin_11 rfl (lv_at hl 0 rfl) ?_
  refine va_get (D := (dC, dI)) (ci := 1) (v := .int (nI n)) (C := RX1) (T := TX1) (N := 8) hx hb hts (by decide +kernel) hown hK hP 0 rfl rfl 4 (by decide) (hts (.fieldLink RX1 34 "CountedOut$Ring" "size" "I") (by decide +kernel)) (fun _ h9 => h9) rfl dX1_begin_12 ?_
  refine va_put (D := (dC, dI)) (ci := 1) (v := .int (nI n)) (ty := .int) (C := RX1) (T := TX1) (N := 8) hx hb hts (by decide +kernel) tyX1 tyX1_ok nmX1 hown hK hP hD hS 0 rfl rfl 5 (by decide) (hts (.fieldLink RX1 38 "CountedOut$Ring" "left" "I") (by decide +kernel)) (fun _ h9 => h9) rfl (by decide +kernel) rfl rfl (Nat.le_of_ble_eq_true rfl) dX1_begin_15 (fun H locs hP hD hS => ?_)
  have hP : va_P (dC, dI) vwCl [(h2, .inr (1, [.ref a0, .ref a1, .ref a2, .ref a3, .int (nI n), .int (nI n), .int av, .int dv])), (a0, .inl (cA, 40, .inl LA)), (a1, .inl (cA, 40, .inl WA))] H := hP
  have hD : va_D A [(h2, .inr (1, [.ref a0, .ref a1, .ref a2, .ref a3, .int (nI n), .int (nI n), .int av, .int dv])), (a0, .inl (cA, 40, .inl LA)), (a1, .inl (cA, 40, .inl WA))] := hD
  refine lv_aload_n hx hb dX1_begin_18 rfl (lv_at hl 0 rfl) ?_
  refine lv_iconst (v := 0) hx hb dX1_begin_19 (by decide) ?_
  refine va_put (D := (dC, dI)) (ci := 1) (v := .int 0) (ty := .int) (C := RX1) (T := TX1) (N := 8) hx hb hts (by decide +kernel) tyX1 tyX1_ok nmX1 hown hK hP hD hS 0 rfl rfl 6 (by decide) (hts (.fieldLink RX1 41 "CountedOut$Ring" "ahead" "I") (by decide +kernel)) (fun _ h9 => h9) rfl (by decide +kernel) rfl rfl (Nat.le_of_ble_eq_true rfl) dX1_begin_20 (fun H locs hP hD hS => ?_)
  have hP : va_P (dC, dI) vwCl [(h2, .inr (1, [.ref a0, .ref a1, .ref a2, .ref a3, .int (nI n), .int (nI n), .int 0, .int dv])), (a0, .inl (cA, 40, .inl LA)), (a1, .inl (cA, 40, .inl WA))] H := hP
  have hD : va_D A [(h2, .inr (1, [.ref a0, .ref a1, .ref a2, .ref a3, .int (nI n), .int (nI n), .int 0, .int dv])), (a0, .inl (cA, 40, .inl LA)), (a1, .inl (cA, 40, .inl WA))] := hD
  refine lv_aload_n hx hb dX1_begin_23 rfl (lv_at hl 0 rfl) ?_
  refine lv_iconst (v := 0) hx hb dX1_begin_24 (by decide) ?_
  refine va_put (D := (dC, dI)) (ci := 1) (v := .int 0) (ty := .int) (C := RX1) (T := TX1) (N := 8) hx hb hts (by decide +kernel) tyX1 tyX1_ok nmX1 hown hK hP hD hS 0 rfl rfl 7 (by decide) (hts (.fieldLink RX1 44 "CountedOut$Ring" "done" "I") (by decide +kernel)) (fun _ h9 => h9) rfl (by decide +kernel) rfl rfl (Nat.le_of_ble_eq_true rfl) dX1_begin_25 (fun H locs hP hD hS => ?_)
  have hP : va_P (dC, dI) vwCl [(h2, .inr (1, [.ref a0, .ref a1, .ref a2, .ref a3, .int (nI n), .int (nI n), .int 0, .int 0])), (a0, .inl (cA, 40, .inl LA)), (a1, .inl (cA, 40, .inl WA))] H := hP
  have hD : va_D A [(h2, .inr (1, [.ref a0, .ref a1, .ref a2, .ref a3, .int (nI n), .int (nI n), .int 0, .int 0])), (a0, .inl (cA, 40, .inl LA)), (a1, .inl (cA, 40, .inl WA))] := hD
  refine lv_iconst (v := 0) hx hb dX1_begin_28 (by decide) ?_
  refine lv_istore_n (lv' := [(2, .int 0), (0, .ref h2), (1, .int (nI n))]) hx hb dX1_begin_29 rfl hl (by decide) rfl (fun ls hl => ?_)
  refine W_loop (σ := Nat × (Nat → Int32) × (Nat → Int32)) (fun xx ls H locs => match xx with | (p0, V, U) => lv_has ls 3 [(0, .ref h2), (2, .int (nI p0))] ∧ va_P (dC, dI) vwCl [(h2, .inr (1, [.ref a0, .ref a1, .ref a2, .ref a3, .int (nI n), .int (nI n), .int 0, .int 0])), (a0, .inl (cA, 40, .inl V)), (a1, .inl (cA, 40, .inl U))] H ∧ va_D A [(h2, .inr (1, [.ref a0, .ref a1, .ref a2, .ref a3, .int (nI n), .int (nI n), .int 0, .int 0])), (a0, .inl (cA, 40, .inl V)), (a1, .inl (cA, 40, .inl U))] ∧ va_S A s.heap H locs ∧ p0 ≤ n ∧ (∀ q, q < p0 → V q = 1 ∧ U q = -9)) (fun xx => match xx with | (p0, V, U) => n - p0) ?_ (0, LA, WA) ⟨lv_sub hl [1, 0] rfl, hP, hD, hS, by omega, fun q hq => absurd hq (Nat.not_lt_zero _)⟩
  rintro ⟨p0, V, U⟩ ls H locs ⟨hl, hP, hD, hS, hp, hV⟩ ih_30
  refine lv_iload_n hx hb dX1_begin_30 rfl (lv_at hl 1 rfl) ?_
  refine lv_aload_n hx hb dX1_begin_31 rfl (lv_at hl 0 rfl) ?_
  refine va_get (D := (dC, dI)) (ci := 1) (v := .int (nI n)) (C := RX1) (T := TX1) (N := 8) hx hb hts (by decide +kernel) hown hK hP 0 rfl rfl 4 (by decide) (hts (.fieldLink RX1 34 "CountedOut$Ring" "size" "I") (by decide +kernel)) (fun _ h9 => h9) rfl dX1_begin_32 ?_
  refine lv_icmp_ge (tgt := 59) hx hb dX1_begin_35 (by decide) (fun c_35 => ?_) (fun c_35 => ?_)
  · have c_35 : n ≤ p0 := (nI_leI (a := n) (b := p0) (by omega) (by omega)).mp c_35
    have hP9 := hP.sub (ws' := [(h2, .inr (1, [.ref a0, .ref a1, .ref a2, .ref a3, .int (nI n), .int (nI n), .int 0, .int 0])), (a0, .inl (cA, 40, .inl V)), (a1, .inl (cA, 40, .inl U))]) [0, 1, 2] rfl
    have hD9 := hD.sub (ws' := [(h2, .inr (1, [.ref a0, .ref a1, .ref a2, .ref a3, .int (nI n), .int (nI n), .int 0, .int 0])), (a0, .inl (cA, 40, .inl V)), (a1, .inl (cA, 40, .inl U))]) [0, 1, 2] (by decide) rfl
    exact W.vret hx hb hr (fun t ht hW => ⟨⟨(_, _), rfl, fun q hq => hV q (by omega), ⟨by rw [ht]; exact hP9, va_K.moved hW.alike hK, hD9⟩⟩, hS.F ht⟩) hS.2.2 dX1_begin_59
  · have c_35 : p0 < n := Nat.lt_of_not_le (fun h => c_35 ((nI_leI (a := n) (b := p0) (by omega) (by omega)).mpr h))
    refine lv_aload_n hx hb dX1_begin_38 rfl (lv_at hl 0 rfl) ?_
    refine va_get (D := (dC, dI)) (ci := 1) (v := .ref a0) (C := RX1) (T := TX1) (N := 8) hx hb hts (by decide +kernel) hown hK hP 0 rfl rfl 0 (by decide) (hts (.fieldLink RX1 9 "CountedOut$Ring" "livesLeft" "[I") (by decide +kernel)) (fun _ h9 => h9) rfl dX1_begin_39 ?_
    refine lv_iload_n hx hb dX1_begin_42 rfl (lv_at hl 1 rfl) ?_
    refine lv_iconst (v := 1) hx hb dX1_begin_43 (by decide) ?_
    refine z_iast hx hb hK hP hD hS 1 0 rfl rfl (i := p0) (by omega) (by decide) dX1_begin_44 (fun H locs hP hD hS => ?_)
    have hP : va_P (dC, dI) vwCl [(h2, .inr (1, [.ref a0, .ref a1, .ref a2, .ref a3, .int (nI n), .int (nI n), .int 0, .int 0])), (a0, .inl (cA, 40, .inl (upd V p0 1))), (a1, .inl (cA, 40, .inl U))] H := hP
    have hD : va_D A [(h2, .inr (1, [.ref a0, .ref a1, .ref a2, .ref a3, .int (nI n), .int (nI n), .int 0, .int 0])), (a0, .inl (cA, 40, .inl (upd V p0 1))), (a1, .inl (cA, 40, .inl U))] := hD
    refine lv_aload_n hx hb dX1_begin_45 rfl (lv_at hl 0 rfl) ?_
    refine va_get (D := (dC, dI)) (ci := 1) (v := .ref a1) (C := RX1) (T := TX1) (N := 8) hx hb hts (by decide +kernel) hown hK hP 0 rfl rfl 1 (by decide) (hts (.fieldLink RX1 15 "CountedOut$Ring" "wentAs" "[I") (by decide +kernel)) (fun _ h9 => h9) rfl dX1_begin_46 ?_
    refine lv_iload_n hx hb dX1_begin_49 rfl (lv_at hl 1 rfl) ?_
    refine lv_bipush (v := (-9)) hx hb dX1_begin_50 (by decide) ?_
    refine z_iast hx hb hK hP hD hS 2 0 rfl rfl (i := p0) (by omega) (by decide) dX1_begin_52 (fun H locs hP hD hS => ?_)
    have hP : va_P (dC, dI) vwCl [(h2, .inr (1, [.ref a0, .ref a1, .ref a2, .ref a3, .int (nI n), .int (nI n), .int 0, .int 0])), (a0, .inl (cA, 40, .inl (upd V p0 1))), (a1, .inl (cA, 40, .inl (upd U p0 (-9))))] H := hP
    have hD : va_D A [(h2, .inr (1, [.ref a0, .ref a1, .ref a2, .ref a3, .int (nI n), .int (nI n), .int 0, .int 0])), (a0, .inl (cA, 40, .inl (upd V p0 1))), (a1, .inl (cA, 40, .inl (upd U p0 (-9))))] := hD
    refine lv_iinc (v := nI (p0 + 1)) (lv' := [(2, .int (nI (p0 + 1))), (0, .ref h2)]) hx hb dX1_begin_53 hl (k := 1) rfl (nI_1 p0) (by decide) rfl (fun ls hl => ?_)
    refine lv_goto (tgt := 30) hx hb dX1_begin_56 (by decide) ?_
    exact ih_30 (p0 + 1, upd V p0 1, upd U p0 (-9)) _ _ _ (by show n - (p0 + 1) < n - p0; omega) ⟨lv_sub hl [1, 0] rfl, hP, hD, hS, by omega, beg_step hV⟩

set_option maxHeartbeats 4000000 in
set_option maxRecDepth 100000 in
theorem c_X1_nextLeft (l : Launch) (dC : Nat → ClassId) (dI : Nat → Nat → Nat) (cA : ClassId) (h2 a0 a1 a2 a3 : Nat) (N : Nat) (hN1 : 1 ≤ N) (hN : N ≤ 40) (L : Nat → Nat) (LA : Nat → Int32) (hLA : ∀ q, q < N → LA q = nI (L q)) (hL5 : ∀ q, q < N → L q ≤ 5) (lf av dv : Int32) (p0 : Nat) (hp : p0 < N) : Met l yX1_nextLeft wsX1_nextLeft ({ frames := 0, cells := 0, slots := 0, locals := 0 }) (va_Pc [.ref h2, .int (nI p0)] (fun U => va_P (dC, dI) vwCl [(h2, .inr (1, [.ref a0, .ref a1, .ref a2, .ref a3, .int (nI N), .int lf, .int av, .int dv])), (a0, .inl (cA, 40, .inl LA))] U.heap ∧ va_K (dC, dI) vwCl [(cA, .int)] U)) (vp_Si (fun r => r = nI (nextP (alv L) N p0))) 0 0 (fun _ => False) := by
  refine Met.ofW (cc := cX1_nextLeft) (maxL := 4) (ret := (some .int)) (by decide) rfl ?_
  intro p e s m args below meth c s₁ B hml hv
  obtain ⟨rfl, hP, hK⟩ := hv
  have hx := B.exec
  have hb := B.bytes
  have hr := B.returns
  have hts := atoms_spec (ws := wsX1_nextLeft) B.pre
  have hown : s.vm.findClass RX1 = some m.cls := findClass_of_methodNamed B.named
  have hlocks := B.notSynchronized
  have hl := lv_entry ([.ref h2, .int (nI p0)]) (n := 4) (Nat.le_of_ble_eq_true rfl)
  rw [lg_entry_eq]
  generalize (lg_sl ([.ref h2, .int (nI p0)]) ++ List.replicate (4 - (lg_sl ([.ref h2, .int (nI p0)])).length) Slot.unset).toArray = ls at hl ⊢
  have hl : lv_has ls 4 [(0, .ref h2), (1, .int (nI p0))] := hl
  refine lv_iload_n hx hb dX1_nextLeft_0 rfl (lv_at hl 1 rfl) ?_
  refine lv_istore_n (lv' := [(2, .int (nI p0)), (0, .ref h2), (1, .int (nI p0))]) hx hb dX1_nextLeft_1 rfl hl (by decide) rfl (fun ls hl => ?_)
  refine lv_iconst (v := 0) hx hb dX1_nextLeft_2 (by decide) ?_
  refine lv_istore_n (lv' := [(3, .int 0), (2, .int (nI p0)), (0, .ref h2), (1, .int (nI p0))]) hx hb dX1_nextLeft_3 rfl hl (by decide) rfl (fun ls hl => ?_)
  refine W_loopR (σ := Nat × Nat) (fun xx ls => match xx with | (i, b) => lv_has ls 4 [(0, .ref h2), (1, .int (nI p0)), (2, .int (nI b)), (3, .int (nI i))] ∧ i ≤ N ∧ b < N ∧ sr (alv L) N 1 (N - i) b p0 = nextP (alv L) N p0) (fun xx => match xx with | (i, b) => N - i) ?_ (0, p0) ⟨lv_sub hl [2, 3, 1, 0] rfl, by omega, hp, rfl⟩
  rintro ⟨i, b⟩ ls ⟨hl, hi, hb1, hg⟩ ih_4
  refine lv_iload_n hx hb dX1_nextLeft_4 rfl (lv_at hl 3 rfl) ?_
  refine lv_aload_n hx hb dX1_nextLeft_5 rfl (lv_at hl 0 rfl) ?_
  refine va_get (D := (dC, dI)) (ci := 1) (v := .int (nI N)) (C := RX1) (T := TX1) (N := 8) hx hb hts (by decide +kernel) hown hK hP 0 rfl rfl 4 (by decide) (hts (.fieldLink RX1 34 "CountedOut$Ring" "size" "I") (by decide +kernel)) (fun _ h9 => h9) rfl dX1_nextLeft_6 ?_
  refine lv_icmp_ge (tgt := 47) hx hb dX1_nextLeft_9 (by decide) (fun c_9 => ?_) (fun c_9 => ?_)
  · have c_9 : N ≤ i := (nI_leI (a := N) (b := i) (by omega) (by omega)).mp c_9
    refine lv_iload_n hx hb dX1_nextLeft_47 rfl (lv_at hl 1 rfl) ?_
    exact W.iret (v := nI p0) hx hb hr (fun t ht hW => ⟨_, rfl, by rw [← hg, show N - i = 0 by omega]; rfl, ht⟩) (fun _ h => absurd h List.not_mem_nil) dX1_nextLeft_48
  · have c_9 : i < N := Nat.lt_of_not_le (fun h => c_9 ((nI_leI (a := N) (b := i) (by omega) (by omega)).mpr h))
    have hm := Nat.mod_lt (b + 1) (show 0 < N by omega)
    refine W_join (α := Int32) (pc' := 29) (ls' := ls) (st' := fun v => [.int v]) (Pj := fun v => v = nI ((b + 1) % N)) (fun J_29 => ?_) (fun v_29 hv_29 => ?_)
    · refine lv_iload_n hx hb dX1_nextLeft_12 rfl (lv_at hl 2 rfl) ?_
      refine lv_iconst (v := 1) hx hb dX1_nextLeft_13 (by decide) ?_
      refine lv_iadd hx hb dX1_nextLeft_14 ?_
      refine z_i (y := nI (b + 1)) (nI_1 b) ?_
      refine lv_aload_n hx hb dX1_nextLeft_15 rfl (lv_at hl 0 rfl) ?_
      refine va_get (D := (dC, dI)) (ci := 1) (v := .int (nI N)) (C := RX1) (T := TX1) (N := 8) hx hb hts (by decide +kernel) hown hK hP 0 rfl rfl 4 (by decide) (hts (.fieldLink RX1 34 "CountedOut$Ring" "size" "I") (by decide +kernel)) (fun _ h9 => h9) rfl dX1_nextLeft_16 ?_
      refine lv_icmp_ge (tgt := 28) hx hb dX1_nextLeft_19 (by decide) (fun c_19 => ?_) (fun c_19 => ?_)
      · have c_19 : N ≤ b + 1 := (nI_leI (a := N) (b := b + 1) (by omega) (by omega)).mp c_19
        refine lv_iconst (v := 0) hx hb dX1_nextLeft_28 (by decide) ?_
        exact J_29 _ (by first | (rw [Nat.mod_eq_of_lt c_19]) | (rw [show b + 1 = N by omega, Nat.mod_self]; rfl))
      · have c_19 : b + 1 < N := Nat.lt_of_not_le (fun h => c_19 ((nI_leI (a := N) (b := b + 1) (by omega) (by omega)).mpr h))
        refine lv_iload_n hx hb dX1_nextLeft_22 rfl (lv_at hl 2 rfl) ?_
        refine lv_iconst (v := 1) hx hb dX1_nextLeft_23 (by decide) ?_
        refine lv_iadd hx hb dX1_nextLeft_24 ?_
        refine z_i (y := nI (b + 1)) (nI_1 b) ?_
        refine lv_goto (tgt := 29) hx hb dX1_nextLeft_25 (by decide) ?_
        exact J_29 _ (by first | (rw [Nat.mod_eq_of_lt c_19]) | (rw [show b + 1 = N by omega, Nat.mod_self]; rfl))
    subst hv_29
    refine lv_istore_n (lv' := [(2, .int (nI ((b + 1) % N))), (0, .ref h2), (1, .int (nI p0)), (3, .int (nI i))]) hx hb dX1_nextLeft_29 rfl hl (by decide) rfl (fun ls hl => ?_)
    refine lv_aload_n hx hb dX1_nextLeft_30 rfl (lv_at hl 1 rfl) ?_
    refine va_get (D := (dC, dI)) (ci := 1) (v := .ref a0) (C := RX1) (T := TX1) (N := 8) hx hb hts (by decide +kernel) hown hK hP 0 rfl rfl 0 (by decide) (hts (.fieldLink RX1 9 "CountedOut$Ring" "livesLeft" "[I") (by decide +kernel)) (fun _ h9 => h9) rfl dX1_nextLeft_31 ?_
    refine lv_iload_n hx hb dX1_nextLeft_34 rfl (lv_at hl 0 rfl) ?_
    refine z_iald hx hb hK hP 1 0 rfl rfl (i := ((b + 1) % N)) (by omega) (by decide) dX1_nextLeft_35 ?_
    refine z_i (y := nI (L ((b + 1) % N))) (hLA _ hm) ?_
    have h5 := hL5 _ hm
    refine lv_if_le (tgt := 41) hx hb dX1_nextLeft_36 (by decide) (fun c_36 => ?_) (fun c_36 => ?_)
    · have c_36 : alv L ((b + 1) % N) = false := by have h := (nI_leI (b := 0) (by omega) (by omega)).mp c_36; simp only [alv, decide_eq_false_iff_not]; omega
      refine lv_iinc (v := nI (i + 1)) (lv' := [(3, .int (nI (i + 1))), (2, .int (nI ((b + 1) % N))), (0, .ref h2), (1, .int (nI p0))]) hx hb dX1_nextLeft_41 hl (k := 3) rfl (nI_1 i) (by decide) rfl (fun ls hl => ?_)
      refine lv_goto (tgt := 4) hx hb dX1_nextLeft_44 (by decide) ?_
      exact ih_4 (i + 1, (b + 1) % N) _ (by show N - (i + 1) < N - i; omega) ⟨lv_sub hl [2, 3, 1, 0] rfl, by omega, hm, by rw [← hg, show N - i = (N - (i + 1)) + 1 by omega, sr, if_neg (by rw [c_36]; decide)]⟩
    · have c_36 : alv L ((b + 1) % N) = true := by simp only [alv, decide_eq_true_eq]; exact Nat.pos_of_ne_zero (fun h => c_36 (by rw [h]; decide))
      refine lv_iload_n hx hb dX1_nextLeft_39 rfl (lv_at hl 0 rfl) ?_
      exact W.iret (v := nI ((b + 1) % N)) hx hb hr (fun t ht hW => ⟨_, rfl, by rw [← hg, show N - i = (N - (i + 1)) + 1 by omega, sr, if_pos c_36], ht⟩) (fun _ h => absurd h List.not_mem_nil) dX1_nextLeft_40

set_option maxHeartbeats 4000000 in
set_option maxRecDepth 100000 in
theorem c_X1_countedBy (l : Launch) (dC : Nat → ClassId) (dI : Nat → Nat → Nat) (cA : ClassId) (h2 a0 a1 a2 a3 : Nat) (N : Nat) (hN1 : 1 ≤ N) (hN : N ≤ 40) (L : Nat → Nat) (LA : Nat → Int32) (hLA : ∀ q, q < N → LA q = nI (L q)) (hL5 : ∀ q, q < N → L q ≤ 5) (ah : Nat) (hah : ah < N) (hal : 0 < L ah) (dv : Int32) (neg : Bool) (k : Nat) (hk1 : 1 ≤ k) (hk : k < 120) : Met l yX1_countedBy wsX1_countedBy ({ frames := 1, cells := 0, slots := 0, locals := 23 }) (va_Pc [.ref h2, .int (cI neg k)] (fun U => va_P (dC, dI) vwCl [(h2, .inr (1, [.ref a0, .ref a1, .ref a2, .ref a3, .int (nI N), .int (nI (bc (alv L) N)), .int (nI ah), .int dv])), (a0, .inl (cA, 40, .inl LA))] U.heap ∧ va_K (dC, dI) vwCl [(cA, .int)] U)) (vp_Si (fun r => r = nI (pick (alv L) N neg k ah))) 0 0 (fun _ => False) := by
  refine Met.ofW (cc := cX1_countedBy) (maxL := 5) (ret := (some .int)) (by decide) rfl ?_
  intro p e s m args below meth c s₁ B hml hv
  obtain ⟨rfl, hP, hK⟩ := hv
  have hx := B.exec
  have hb := B.bytes
  have hr := B.returns
  have hts := atoms_spec (ws := wsX1_countedBy) B.pre
  have hown : s.vm.findClass RX1 = some m.cls := findClass_of_methodNamed B.named
  have hlocks := B.notSynchronized
  have hl := lv_entry ([.ref h2, .int (cI neg k)]) (n := 5) (Nat.le_of_ble_eq_true rfl)
  rw [lg_entry_eq]
  generalize (lg_sl ([.ref h2, .int (cI neg k)]) ++ List.replicate (5 - (lg_sl ([.ref h2, .int (cI neg k)])).length) Slot.unset).toArray = ls at hl ⊢
  have hl : lv_has ls 5 [(0, .ref h2), (1, .int (cI neg k))] := hl
  have hcl := bc_le (alv L) N
  have hf : alv L ah = true := by simp only [alv, decide_eq_true_eq]; exact hal
  have hc1 := rk_lt hah hf
  refine lv_aload_n hx hb dX1_countedBy_0 rfl (lv_at hl 0 rfl) ?_
  refine va_get (D := (dC, dI)) (ci := 1) (v := .int (nI (bc (alv L) N))) (C := RX1) (T := TX1) (N := 8) hx hb hts (by decide +kernel) hown hK hP 0 rfl rfl 5 (by decide) (hts (.fieldLink RX1 38 "CountedOut$Ring" "left" "I") (by decide +kernel)) (fun _ h9 => h9) rfl dX1_countedBy_1 ?_
  refine lv_iconst (v := 1) hx hb dX1_countedBy_4 (by decide) ?_
  refine lv_icmp_ge (tgt := 13) hx hb dX1_countedBy_5 (by decide) (fun c_5 => ?_) (fun c_5 => ?_)
  · refine W_join (α := Int32) (pc' := 24) (ls' := ls) (st' := fun v => [.int v]) (Pj := fun v => v = (if neg = true then -nI k else nI (k - 1))) (fun J_24 => ?_) (fun v_24 hv_24 => ?_)
    · refine lv_iload_n hx hb dX1_countedBy_13 rfl (lv_at hl 1 rfl) ?_
      refine lv_if_le (tgt := 23) hx hb dX1_countedBy_14 (by decide) (fun c_14 => ?_) (fun c_14 => ?_)
      · refine lv_iload_n hx hb dX1_countedBy_23 rfl (lv_at hl 1 rfl) ?_
        exact J_24 _ (by cases neg with | true => (first | exact absurd (neg_le k hk) c_14 | rfl) | false => (first | exact pk_sub (b := 1) hk1 | exact absurd c_14 (nI_nle (by omega) (by omega))))
      · refine lv_iload_n hx hb dX1_countedBy_17 rfl (lv_at hl 1 rfl) ?_
        refine lv_iconst (v := 1) hx hb dX1_countedBy_18 (by decide) ?_
        refine lv_isub hx hb dX1_countedBy_19 ?_
        refine lv_goto (tgt := 24) hx hb dX1_countedBy_20 (by decide) ?_
        exact J_24 _ (by cases neg with | true => (first | exact absurd (neg_le k hk) c_14 | rfl) | false => (first | exact pk_sub (b := 1) hk1 | exact absurd c_14 (nI_nle (by omega) (by omega))))
    subst hv_24
    refine lv_aload_n hx hb dX1_countedBy_24 rfl (lv_at hl 0 rfl) ?_
    refine va_get (D := (dC, dI)) (ci := 1) (v := .int (nI (bc (alv L) N))) (C := RX1) (T := TX1) (N := 8) hx hb hts (by decide +kernel) hown hK hP 0 rfl rfl 5 (by decide) (hts (.fieldLink RX1 38 "CountedOut$Ring" "left" "I") (by decide +kernel)) (fun _ h9 => h9) rfl dX1_countedBy_25 ?_
    refine vp_callSi (va_Run.run (va_runS (As := [.int (if neg = true then -nI k else nI (k - 1)), .int (nI (bc (alv L) N))]) (rest := []) ⟨hx, hb, hml, hown, hts⟩ (c_J9_floorMod_7cf53 l dC dI (if neg = true then -nI k else nI (k - 1)) (nI (bc (alv L) N)) (nI_ne0 (by omega) (by omega))) (va_cwS 2 hts gX1_countedBy_J9_floorMod_7cf53 rfl rfl rfl (by decide +kernel) ⟨Nat.le_of_ble_eq_true rfl, Nat.le_of_ble_eq_true rfl⟩) ⟨fun a U g mk q => ⟨q.1, trivial⟩, fun U hU hW => ⟨rfl, trivial⟩⟩ rfl rfl hl.1 rfl (lv_room (Nat.le_of_ble_eq_true rfl)) dX1_countedBy_28 ⟨Nat.zero_le _, Nat.zero_le _⟩)) (fun r_28 hr_28 => ?_)
    obtain rfl : r_28 = nI (if neg = true then (bc (alv L) N - k % bc (alv L) N) % bc (alv L) N else (k - 1) % bc (alv L) N) := hr_28.trans (by cases neg with | true => exact fmI_neg k hk _ (by omega) (by omega) | false => exact fmI_pos (k - 1) (by omega) _ (by omega) (by omega))
    refine lv_istore_n (lv' := [(2, .int (nI (if neg = true then (bc (alv L) N - k % bc (alv L) N) % bc (alv L) N else (k - 1) % bc (alv L) N))), (0, .ref h2), (1, .int (cI neg k))]) hx hb dX1_countedBy_31 rfl hl (by decide) rfl (fun ls hl => ?_)
    have hsl : (if neg = true then (bc (alv L) N - k % bc (alv L) N) % bc (alv L) N else (k - 1) % bc (alv L) N) < 41 := by split <;> exact Nat.lt_of_lt_of_le (Nat.mod_lt _ (by omega)) (by omega)
    refine lv_aload_n hx hb dX1_countedBy_32 rfl (lv_at hl 1 rfl) ?_
    refine va_get (D := (dC, dI)) (ci := 1) (v := .int (nI ah)) (C := RX1) (T := TX1) (N := 8) hx hb hts (by decide +kernel) hown hK hP 0 rfl rfl 6 (by decide) (hts (.fieldLink RX1 41 "CountedOut$Ring" "ahead" "I") (by decide +kernel)) (fun _ h9 => h9) rfl dX1_countedBy_33 ?_
    refine lv_istore_n (lv' := [(3, .int (nI ah)), (2, .int (nI (if neg = true then (bc (alv L) N - k % bc (alv L) N) % bc (alv L) N else (k - 1) % bc (alv L) N))), (0, .ref h2), (1, .int (cI neg k))]) hx hb dX1_countedBy_36 rfl hl (by decide) rfl (fun ls hl => ?_)
    refine lv_iconst (v := 0) hx hb dX1_countedBy_37 (by decide) ?_
    refine lv_istore (lv' := [(4, .int 0), (3, .int (nI ah)), (2, .int (nI (if neg = true then (bc (alv L) N - k % bc (alv L) N) % bc (alv L) N else (k - 1) % bc (alv L) N))), (0, .ref h2), (1, .int (cI neg k))]) hx hb dX1_countedBy_38 hl (by decide) rfl (fun ls hl => ?_)
    refine W_loopR (σ := Nat × Nat) (fun xx ls => match xx with | (i, b) => lv_has ls 5 [(0, .ref h2), (2, .int (nI (if neg = true then (bc (alv L) N - k % bc (alv L) N) % bc (alv L) N else (k - 1) % bc (alv L) N))), (3, .int (nI b)), (4, .int (nI i))] ∧ i ≤ (if neg = true then (bc (alv L) N - k % bc (alv L) N) % bc (alv L) N else (k - 1) % bc (alv L) N) ∧ b < N ∧ alv L b = true ∧ itF (alv L) N ((if neg = true then (bc (alv L) N - k % bc (alv L) N) % bc (alv L) N else (k - 1) % bc (alv L) N) - i) b = itF (alv L) N (if neg = true then (bc (alv L) N - k % bc (alv L) N) % bc (alv L) N else (k - 1) % bc (alv L) N) ah) (fun xx => match xx with | (i, b) => (if neg = true then (bc (alv L) N - k % bc (alv L) N) % bc (alv L) N else (k - 1) % bc (alv L) N) - i) ?_ (0, ah) ⟨lv_sub hl [3, 2, 1, 0] rfl, Nat.zero_le _, hah, hf, rfl⟩
    rintro ⟨i, b⟩ ls ⟨hl, hi, hb1, hb2, hg⟩ ih_40
    refine lv_iload hx hb dX1_countedBy_40 (lv_at hl 3 rfl) ?_
    refine lv_iload_n hx hb dX1_countedBy_42 rfl (lv_at hl 1 rfl) ?_
    refine lv_icmp_ge (tgt := 58) hx hb dX1_countedBy_43 (by decide) (fun c_43 => ?_) (fun c_43 => ?_)
    · have c_43 : (if neg = true then (bc (alv L) N - k % bc (alv L) N) % bc (alv L) N else (k - 1) % bc (alv L) N) ≤ i := (nI_leI (a := (if neg = true then (bc (alv L) N - k % bc (alv L) N) % bc (alv L) N else (k - 1) % bc (alv L) N)) (b := i) (by omega) (by omega)).mp c_43
      refine lv_iload_n hx hb dX1_countedBy_58 rfl (lv_at hl 2 rfl) ?_
      exact W.iret (v := nI b) hx hb hr (fun t ht hW => ⟨_, rfl, congrArg nI (by rw [show (if neg = true then (bc (alv L) N - k % bc (alv L) N) % bc (alv L) N else (k - 1) % bc (alv L) N) - i = 0 by omega] at hg; rw [show b = itF (alv L) N (if neg = true then (bc (alv L) N - k % bc (alv L) N) % bc (alv L) N else (k - 1) % bc (alv L) N) ah from hg]; unfold pick; cases neg with | true => exact itB_mod hah hf k | false => exact itF_mod hah hf (k - 1)), ht⟩) (fun _ h => absurd h List.not_mem_nil) dX1_countedBy_59
    · have c_43 : i < (if neg = true then (bc (alv L) N - k % bc (alv L) N) % bc (alv L) N else (k - 1) % bc (alv L) N) := Nat.lt_of_not_le (fun h => c_43 ((nI_leI (a := (if neg = true then (bc (alv L) N - k % bc (alv L) N) % bc (alv L) N else (k - 1) % bc (alv L) N)) (b := i) (by omega) (by omega)).mpr h))
      refine lv_aload_n hx hb dX1_countedBy_46 rfl (lv_at hl 0 rfl) ?_
      refine lv_iload_n hx hb dX1_countedBy_47 rfl (lv_at hl 2 rfl) ?_
      have hPc := hP.sub (ws' := [(h2, .inr (1, [.ref a0, .ref a1, .ref a2, .ref a3, .int (nI N), .int (nI (bc (alv L) N)), .int (nI ah), .int dv])), (a0, .inl (cA, 40, .inl LA))]) [0, 1] rfl
      refine vp_callSi (va_Run.run (va_runV (As := [.int (nI b)]) (rest := []) ⟨hx, hb, hml, hown, hts⟩ (c_X1_nextLeft l dC dI cA h2 a0 a1 a2 a3 N hN1 hN L LA hLA hL5 (nI (bc (alv L) N)) (nI ah) dv b hb1) (cwV 1 hts gX1_countedBy_X1_nextLeft rfl rfl rfl (by decide +kernel) ⟨Nat.le_of_ble_eq_true rfl, Nat.le_of_ble_eq_true rfl⟩) ⟨fun a U g mk q => by obtain ⟨q0, qP, qK⟩ := q; exact ⟨q0, qP, va_K.moved (u := U) (U := U.calling g mk a) (Vm.Alike.refl U.vm) qK⟩, va_recv hK hP (ci := 1) (q0 := 0) rfl rfl, fun U hU hW => ⟨rfl, by rw [hU]; exact hPc, va_K.moved hW.alike hK⟩⟩ rfl rfl hl.1 rfl (lv_room (Nat.le_of_ble_eq_true rfl)) dX1_countedBy_48 ⟨Nat.zero_le _, Nat.zero_le _⟩)) (fun r_48 hr_48 => ?_)
      subst hr_48
      refine lv_istore_n (lv' := [(3, .int (nI (nextP (alv L) N b))), (0, .ref h2), (2, .int (nI (if neg = true then (bc (alv L) N - k % bc (alv L) N) % bc (alv L) N else (k - 1) % bc (alv L) N))), (4, .int (nI i))]) hx hb dX1_countedBy_51 rfl hl (by decide) rfl (fun ls hl => ?_)
      refine lv_iinc (v := nI (i + 1)) (lv' := [(4, .int (nI (i + 1))), (3, .int (nI (nextP (alv L) N b))), (0, .ref h2), (2, .int (nI (if neg = true then (bc (alv L) N - k % bc (alv L) N) % bc (alv L) N else (k - 1) % bc (alv L) N)))]) hx hb dX1_countedBy_52 hl (k := 3) rfl (nI_1 i) (by decide) rfl (fun ls hl => ?_)
      refine lv_goto (tgt := 40) hx hb dX1_countedBy_55 (by decide) ?_
      exact ih_40 (i + 1, nextP (alv L) N b) _ (by show (if neg = true then (bc (alv L) N - k % bc (alv L) N) % bc (alv L) N else (k - 1) % bc (alv L) N) - (i + 1) < (if neg = true then (bc (alv L) N - k % bc (alv L) N) % bc (alv L) N else (k - 1) % bc (alv L) N) - i; omega) ⟨lv_sub hl [2, 3, 1, 0] rfl, by omega, (next_rk hb1 hb2).2.1, (next_rk hb1 hb2).2.2, by rw [← hg, show (if neg = true then (bc (alv L) N - k % bc (alv L) N) % bc (alv L) N else (k - 1) % bc (alv L) N) - i = ((if neg = true then (bc (alv L) N - k % bc (alv L) N) % bc (alv L) N else (k - 1) % bc (alv L) N) - (i + 1)) + 1 by omega]; rfl⟩
  · exact absurd ((nI_leI (a := 1) (b := bc (alv L) N) (by omega) (by omega)).mpr (by omega)) c_5

set_option maxHeartbeats 4000000 in
set_option maxRecDepth 100000 in
theorem c_X1_loseLife (l : Launch) (dC : Nat → ClassId) (dI : Nat → Nat → Nat) (sz : Nat) (cA : ClassId) (h2 a0 a1 a2 a3 : Nat) (N : Nat) (hN1 : 1 ≤ N) (hN : N ≤ 40) (L : Nat → Nat) (LA : Nat → Int32) (hLA : ∀ q, q < N → LA q = nI (L q)) (hL5 : ∀ q, q < N → L q ≤ 5) (av dv : Int32) (WA : Nat → Int32) (p0 : Nat) (hp : p0 < N) (hl1 : 0 < L p0) : Met l yX1_loseLife wsX1_loseLife ({ frames := 0, cells := 0, slots := 0, locals := 0 }) (va_Pc [.ref h2, .int (nI p0)] (fun U => U.heap.size = sz ∧ va_P (dC, dI) vwCl [(h2, .inr (1, [.ref a0, .ref a1, .ref a2, .ref a3, .int (nI N), .int (nI (bc (alv L) N)), .int av, .int dv])), (a0, .inl (cA, 40, .inl LA)), (a1, .inl (cA, 40, .inl WA))] U.heap ∧ va_K (dC, dI) vwCl [(cA, .int)] U ∧ va_D (fun _ => True) [(h2, .inr (1, [.ref a0, .ref a1, .ref a2, .ref a3, .int (nI N), .int (nI (bc (alv L) N)), .int av, .int dv])), (a0, .inl (cA, 40, .inl LA)), (a1, .inl (cA, 40, .inl WA))])) (va_Qv (S := Nat → Int32) (fun u => ∀ q, q < N → u q = if q = p0 ∧ L p0 = 1 then nI (N - bc (alv (tL L p0)) N) else WA q) (fun (u : Nat → Int32) (t : State) => va_P (dC, dI) vwCl [(h2, .inr (1, [.ref a0, .ref a1, .ref a2, .ref a3, .int (nI N), .int (nI (bc (alv (tL L p0)) N)), .int av, .int dv])), (a0, .inl (cA, 40, .inl (upd LA p0 (nI (L p0 - 1))))), (a1, .inl (cA, 40, .inl u))] t.heap ∧ va_K (dC, dI) vwCl [(cA, .int)] t ∧ va_D (va_A [(h2, .inr (1, [.ref a0, .ref a1, .ref a2, .ref a3, .int (nI N), .int (nI (bc (alv L) N)), .int av, .int dv])), (a0, .inl (cA, 40, .inl LA)), (a1, .inl (cA, 40, .inl WA))] sz) [(h2, .inr (1, [.ref a0, .ref a1, .ref a2, .ref a3, .int (nI N), .int (nI (bc (alv (tL L p0)) N)), .int av, .int dv])), (a0, .inl (cA, 40, .inl (upd LA p0 (nI (L p0 - 1))))), (a1, .inl (cA, 40, .inl u))]) (va_A [(h2, .inr (1, [.ref a0, .ref a1, .ref a2, .ref a3, .int (nI N), .int (nI (bc (alv L) N)), .int av, .int dv])), (a0, .inl (cA, 40, .inl LA)), (a1, .inl (cA, 40, .inl WA))] sz)) 0 0 (va_A [(h2, .inr (1, [.ref a0, .ref a1, .ref a2, .ref a3, .int (nI N), .int (nI (bc (alv L) N)), .int av, .int dv])), (a0, .inl (cA, 40, .inl LA)), (a1, .inl (cA, 40, .inl WA))] sz) := by
  refine Met.ofW (cc := cX1_loseLife) (maxL := 2) (ret := none) (by decide) rfl ?_
  intro p e s m args below meth c s₁ B hml hv
  obtain ⟨rfl, hsz, hP, hK, hD0⟩ := hv
  have hx := B.exec
  have hb := B.bytes
  have hr := B.returns
  have hts := atoms_spec (ws := wsX1_loseLife) B.pre
  have hown : s.vm.findClass RX1 = some m.cls := findClass_of_methodNamed B.named
  have hlocks := B.notSynchronized
  subst hsz
  have hD := hD0.self (sz := s.heap.size)
  generalize hAe : va_A [(h2, .inr (1, [.ref a0, .ref a1, .ref a2, .ref a3, .int (nI N), .int (nI (bc (alv L) N)), .int av, .int dv])), (a0, .inl (cA, 40, .inl LA)), (a1, .inl (cA, 40, .inl WA))] s.heap.size = A at hD ⊢
  have hA : ∀ q : Nat, s.heap.size ≤ q → A q := fun q h => by rw [← hAe]; exact Or.inr h
  have hS : va_S A s.heap s.heap [] := va_S.rf
  have hP : va_P (dC, dI) vwCl [(h2, .inr (1, [.ref a0, .ref a1, .ref a2, .ref a3, .int (nI N), .int (nI (bc (alv L) N)), .int av, .int dv])), (a0, .inl (cA, 40, .inl LA)), (a1, .inl (cA, 40, .inl WA))] s.heap := hP
  have hl := lv_entry ([.ref h2, .int (nI p0)]) (n := 2) (Nat.le_of_ble_eq_true rfl)
  rw [lg_entry_eq]
  generalize (lg_sl ([.ref h2, .int (nI p0)]) ++ List.replicate (2 - (lg_sl ([.ref h2, .int (nI p0)])).length) Slot.unset).toArray = ls at hl ⊢
  have hl : lv_has ls 2 [(0, .ref h2), (1, .int (nI p0))] := hl
  have hcl := bc_le (alv L) N
  have h5 := hL5 _ hp
  have hct := tL_cnt hp hl1
  refine lv_aload_n hx hb dX1_loseLife_0 rfl (lv_at hl 0 rfl) ?_
  refine va_get (D := (dC, dI)) (ci := 1) (v := .ref a0) (C := RX1) (T := TX1) (N := 8) hx hb hts (by decide +kernel) hown hK hP 0 rfl rfl 0 (by decide) (hts (.fieldLink RX1 9 "CountedOut$Ring" "livesLeft" "[I") (by decide +kernel)) (fun _ h9 => h9) rfl dX1_loseLife_1 ?_
  refine lv_iload_n hx hb dX1_loseLife_4 rfl (lv_at hl 1 rfl) ?_
  refine lv_dup2_11 hx hb dX1_loseLife_5 rfl rfl ?_
  refine z_iald hx hb hK hP 1 0 rfl rfl (i := p0) (by omega) (by decide) dX1_loseLife_6 ?_
  refine z_i (y := nI (L p0)) (hLA _ hp) ?_
  refine lv_iconst (v := 1) hx hb dX1_loseLife_7 (by decide) ?_
  refine lv_isub hx hb dX1_loseLife_8 ?_
  refine z_i (y := nI (L p0 - 1)) (pk_sub (b := 1) hl1) ?_
  refine z_iast hx hb hK hP hD hS 1 0 rfl rfl (i := p0) (by omega) (by decide) dX1_loseLife_9 (fun H locs hP hD hS => ?_)
  have hP : va_P (dC, dI) vwCl [(h2, .inr (1, [.ref a0, .ref a1, .ref a2, .ref a3, .int (nI N), .int (nI (bc (alv L) N)), .int av, .int dv])), (a0, .inl (cA, 40, .inl (upd LA p0 (nI (L p0 - 1))))), (a1, .inl (cA, 40, .inl WA))] H := hP
  have hD : va_D A [(h2, .inr (1, [.ref a0, .ref a1, .ref a2, .ref a3, .int (nI N), .int (nI (bc (alv L) N)), .int av, .int dv])), (a0, .inl (cA, 40, .inl (upd LA p0 (nI (L p0 - 1))))), (a1, .inl (cA, 40, .inl WA))] := hD
  refine lv_aload_n hx hb dX1_loseLife_10 rfl (lv_at hl 0 rfl) ?_
  refine va_get (D := (dC, dI)) (ci := 1) (v := .ref a0) (C := RX1) (T := TX1) (N := 8) hx hb hts (by decide +kernel) hown hK hP 0 rfl rfl 0 (by decide) (hts (.fieldLink RX1 9 "CountedOut$Ring" "livesLeft" "[I") (by decide +kernel)) (fun _ h9 => h9) rfl dX1_loseLife_11 ?_
  refine lv_iload_n hx hb dX1_loseLife_14 rfl (lv_at hl 1 rfl) ?_
  refine z_iald hx hb hK hP 1 0 rfl rfl (i := p0) (by omega) (by decide) dX1_loseLife_15 ?_
  refine z_i (y := nI (L p0 - 1)) (pk_us) ?_
  refine lv_if_ne (tgt := 44) hx hb dX1_loseLife_16 (by decide) (fun c_16 => ?_) (fun c_16 => ?_)
  · have c_16 : ¬ L p0 - 1 = 0 := fun h => c_16 ((nI_eq (a := L p0 - 1) (b := 0) (by omega) (by omega)).mpr h)
    rw [if_neg (by omega), Nat.add_zero] at hct
    rw [← hct] at hP hD
    have hP9 := hP.sub (ws' := [(h2, .inr (1, [.ref a0, .ref a1, .ref a2, .ref a3, .int (nI N), .int (nI (bc (alv (tL L p0)) N)), .int av, .int dv])), (a0, .inl (cA, 40, .inl (upd LA p0 (nI (L p0 - 1))))), (a1, .inl (cA, 40, .inl WA))]) [0, 1, 2] rfl
    have hD9 := hD.sub (ws' := [(h2, .inr (1, [.ref a0, .ref a1, .ref a2, .ref a3, .int (nI N), .int (nI (bc (alv (tL L p0)) N)), .int av, .int dv])), (a0, .inl (cA, 40, .inl (upd LA p0 (nI (L p0 - 1))))), (a1, .inl (cA, 40, .inl WA))]) [0, 1, 2] (by decide) rfl
    exact W.vret hx hb hr (fun t ht hW => ⟨⟨_, rfl, fun q hq => by rw [if_neg (by omega)], ⟨by rw [ht]; exact hP9, va_K.moved hW.alike hK, hD9⟩⟩, hS.F ht⟩) hS.2.2 dX1_loseLife_44
  · have c_16 : L p0 - 1 = 0 := (nI_eq (a := L p0 - 1) (b := 0) (by omega) (by omega)).mp c_16
    rw [if_pos (by omega)] at hct
    refine lv_aload_n hx hb dX1_loseLife_19 rfl (lv_at hl 0 rfl) ?_
    refine lv_dup hx hb dX1_loseLife_20 rfl ?_
    refine va_get (D := (dC, dI)) (ci := 1) (v := .int (nI (bc (alv L) N))) (C := RX1) (T := TX1) (N := 8) hx hb hts (by decide +kernel) hown hK hP 0 rfl rfl 5 (by decide) (hts (.fieldLink RX1 38 "CountedOut$Ring" "left" "I") (by decide +kernel)) (fun _ h9 => h9) rfl dX1_loseLife_21 ?_
    refine lv_iconst (v := 1) hx hb dX1_loseLife_24 (by decide) ?_
    refine lv_isub hx hb dX1_loseLife_25 ?_
    refine z_i (y := nI (bc (alv (tL L p0)) N)) (by rw [← hct]; exact nI_pred _) ?_
    refine va_put (D := (dC, dI)) (ci := 1) (v := .int (nI (bc (alv (tL L p0)) N))) (ty := .int) (C := RX1) (T := TX1) (N := 8) hx hb hts (by decide +kernel) tyX1 tyX1_ok nmX1 hown hK hP hD hS 0 rfl rfl 5 (by decide) (hts (.fieldLink RX1 38 "CountedOut$Ring" "left" "I") (by decide +kernel)) (fun _ h9 => h9) rfl (by decide +kernel) rfl rfl (Nat.le_of_ble_eq_true rfl) dX1_loseLife_26 (fun H locs hP hD hS => ?_)
    have hP : va_P (dC, dI) vwCl [(h2, .inr (1, [.ref a0, .ref a1, .ref a2, .ref a3, .int (nI N), .int (nI (bc (alv (tL L p0)) N)), .int av, .int dv])), (a0, .inl (cA, 40, .inl (upd LA p0 (nI (L p0 - 1))))), (a1, .inl (cA, 40, .inl WA))] H := hP
    have hD : va_D A [(h2, .inr (1, [.ref a0, .ref a1, .ref a2, .ref a3, .int (nI N), .int (nI (bc (alv (tL L p0)) N)), .int av, .int dv])), (a0, .inl (cA, 40, .inl (upd LA p0 (nI (L p0 - 1))))), (a1, .inl (cA, 40, .inl WA))] := hD
    refine lv_aload_n hx hb dX1_loseLife_29 rfl (lv_at hl 0 rfl) ?_
    refine va_get (D := (dC, dI)) (ci := 1) (v := .ref a1) (C := RX1) (T := TX1) (N := 8) hx hb hts (by decide +kernel) hown hK hP 0 rfl rfl 1 (by decide) (hts (.fieldLink RX1 15 "CountedOut$Ring" "wentAs" "[I") (by decide +kernel)) (fun _ h9 => h9) rfl dX1_loseLife_30 ?_
    refine lv_iload_n hx hb dX1_loseLife_33 rfl (lv_at hl 1 rfl) ?_
    refine lv_aload_n hx hb dX1_loseLife_34 rfl (lv_at hl 0 rfl) ?_
    refine va_get (D := (dC, dI)) (ci := 1) (v := .int (nI N)) (C := RX1) (T := TX1) (N := 8) hx hb hts (by decide +kernel) hown hK hP 0 rfl rfl 4 (by decide) (hts (.fieldLink RX1 34 "CountedOut$Ring" "size" "I") (by decide +kernel)) (fun _ h9 => h9) rfl dX1_loseLife_35 ?_
    refine lv_aload_n hx hb dX1_loseLife_38 rfl (lv_at hl 0 rfl) ?_
    refine va_get (D := (dC, dI)) (ci := 1) (v := .int (nI (bc (alv (tL L p0)) N))) (C := RX1) (T := TX1) (N := 8) hx hb hts (by decide +kernel) hown hK hP 0 rfl rfl 5 (by decide) (hts (.fieldLink RX1 38 "CountedOut$Ring" "left" "I") (by decide +kernel)) (fun _ h9 => h9) rfl dX1_loseLife_39 ?_
    refine lv_isub hx hb dX1_loseLife_42 ?_
    refine z_i (y := nI (N - bc (alv (tL L p0)) N)) (pk_sub (by omega)) ?_
    refine z_iast hx hb hK hP hD hS 2 0 rfl rfl (i := p0) (by omega) (by decide) dX1_loseLife_43 (fun H locs hP hD hS => ?_)
    have hP : va_P (dC, dI) vwCl [(h2, .inr (1, [.ref a0, .ref a1, .ref a2, .ref a3, .int (nI N), .int (nI (bc (alv (tL L p0)) N)), .int av, .int dv])), (a0, .inl (cA, 40, .inl (upd LA p0 (nI (L p0 - 1))))), (a1, .inl (cA, 40, .inl (upd WA p0 (nI (N - bc (alv (tL L p0)) N)))))] H := hP
    have hD : va_D A [(h2, .inr (1, [.ref a0, .ref a1, .ref a2, .ref a3, .int (nI N), .int (nI (bc (alv (tL L p0)) N)), .int av, .int dv])), (a0, .inl (cA, 40, .inl (upd LA p0 (nI (L p0 - 1))))), (a1, .inl (cA, 40, .inl (upd WA p0 (nI (N - bc (alv (tL L p0)) N)))))] := hD
    have hP9 := hP.sub (ws' := [(h2, .inr (1, [.ref a0, .ref a1, .ref a2, .ref a3, .int (nI N), .int (nI (bc (alv (tL L p0)) N)), .int av, .int dv])), (a0, .inl (cA, 40, .inl (upd LA p0 (nI (L p0 - 1))))), (a1, .inl (cA, 40, .inl (upd WA p0 (nI (N - bc (alv (tL L p0)) N)))))]) [0, 1, 2] rfl
    have hD9 := hD.sub (ws' := [(h2, .inr (1, [.ref a0, .ref a1, .ref a2, .ref a3, .int (nI N), .int (nI (bc (alv (tL L p0)) N)), .int av, .int dv])), (a0, .inl (cA, 40, .inl (upd LA p0 (nI (L p0 - 1))))), (a1, .inl (cA, 40, .inl (upd WA p0 (nI (N - bc (alv (tL L p0)) N)))))]) [0, 1, 2] (by decide) rfl
    exact W.vret hx hb hr (fun t ht hW => ⟨⟨_, rfl, lose_W (by omega), ⟨by rw [ht]; exact hP9, va_K.moved hW.alike hK, hD9⟩⟩, hS.F ht⟩) hS.2.2 dX1_loseLife_44

set_option maxHeartbeats 4000000 in
set_option maxRecDepth 100000 in
theorem c_X1_takeTurn (l : Launch) (dC : Nat → ClassId) (dI : Nat → Nat → Nat) (sz : Nat) (cA : ClassId) (h2 a0 a1 a2 a3 : Nat) (B : Nat → Nat) (N : Nat) (Z : AS) (LA WA CA AA : Nat → Int32) (hG : GA B N Z) (hR : RA N Z LA WA CA AA) (neg : Bool) (k : Nat) (hk1 : 1 ≤ k) (hk : k < 120) : Met l yX1_takeTurn wsX1_takeTurn ({ frames := 2, cells := 0, slots := 0, locals := 47 }) (va_Pc [.ref h2, .int (cI neg k)] (fun U => U.heap.size = sz ∧ va_P (dC, dI) vwCl [(h2, .inr (1, [.ref a0, .ref a1, .ref a2, .ref a3, .int (nI N), .int (nI (bc (alv Z.2.1) N)), .int (nI Z.2.2.2), .int (nI Z.1.length)])), (a0, .inl (cA, 40, .inl LA)), (a1, .inl (cA, 40, .inl WA)), (a2, .inl (cA, 200, .inl CA)), (a3, .inl (cA, 200, .inl AA))] U.heap ∧ va_K (dC, dI) vwCl [(cA, .int)] U ∧ va_D (fun _ => True) [(h2, .inr (1, [.ref a0, .ref a1, .ref a2, .ref a3, .int (nI N), .int (nI (bc (alv Z.2.1) N)), .int (nI Z.2.2.2), .int (nI Z.1.length)])), (a0, .inl (cA, 40, .inl LA)), (a1, .inl (cA, 40, .inl WA)), (a2, .inl (cA, 200, .inl CA)), (a3, .inl (cA, 200, .inl AA))])) (va_Qi (S := AS × (Nat → Int32) × (Nat → Int32) × (Nat → Int32) × (Nat → Int32)) (fun r u => r = zb (decide (2 ≤ bc (alv Z.2.1) N)) ∧ u.1 = (if bc (alv Z.2.1) N < 2 then Z else tS N neg k Z) ∧ RA N u.1 u.2.1 u.2.2.1 u.2.2.2.1 u.2.2.2.2) (fun (u : AS × (Nat → Int32) × (Nat → Int32) × (Nat → Int32) × (Nat → Int32)) (t : State) => va_P (dC, dI) vwCl [(h2, .inr (1, [.ref a0, .ref a1, .ref a2, .ref a3, .int (nI N), .int (nI (bc (alv u.1.2.1) N)), .int (nI u.1.2.2.2), .int (nI u.1.1.length)])), (a0, .inl (cA, 40, .inl u.2.1)), (a1, .inl (cA, 40, .inl u.2.2.1)), (a2, .inl (cA, 200, .inl u.2.2.2.1)), (a3, .inl (cA, 200, .inl u.2.2.2.2))] t.heap ∧ va_K (dC, dI) vwCl [(cA, .int)] t ∧ va_D (va_A [(h2, .inr (1, [.ref a0, .ref a1, .ref a2, .ref a3, .int (nI N), .int (nI (bc (alv Z.2.1) N)), .int (nI Z.2.2.2), .int (nI Z.1.length)])), (a0, .inl (cA, 40, .inl LA)), (a1, .inl (cA, 40, .inl WA)), (a2, .inl (cA, 200, .inl CA)), (a3, .inl (cA, 200, .inl AA))] sz) [(h2, .inr (1, [.ref a0, .ref a1, .ref a2, .ref a3, .int (nI N), .int (nI (bc (alv u.1.2.1) N)), .int (nI u.1.2.2.2), .int (nI u.1.1.length)])), (a0, .inl (cA, 40, .inl u.2.1)), (a1, .inl (cA, 40, .inl u.2.2.1)), (a2, .inl (cA, 200, .inl u.2.2.2.1)), (a3, .inl (cA, 200, .inl u.2.2.2.2))]) (va_A [(h2, .inr (1, [.ref a0, .ref a1, .ref a2, .ref a3, .int (nI N), .int (nI (bc (alv Z.2.1) N)), .int (nI Z.2.2.2), .int (nI Z.1.length)])), (a0, .inl (cA, 40, .inl LA)), (a1, .inl (cA, 40, .inl WA)), (a2, .inl (cA, 200, .inl CA)), (a3, .inl (cA, 200, .inl AA))] sz)) 0 0 (va_A [(h2, .inr (1, [.ref a0, .ref a1, .ref a2, .ref a3, .int (nI N), .int (nI (bc (alv Z.2.1) N)), .int (nI Z.2.2.2), .int (nI Z.1.length)])), (a0, .inl (cA, 40, .inl LA)), (a1, .inl (cA, 40, .inl WA)), (a2, .inl (cA, 200, .inl CA)), (a3, .inl (cA, 200, .inl AA))] sz) := by
  refine Met.ofW (cc := cX1_takeTurn) (maxL := 3) (ret := (some .boolean)) (by decide) rfl ?_
  intro p e s m args below meth c s₁ B hml hv
  obtain ⟨rfl, hsz, hP, hK, hD0⟩ := hv
  have hx := B.exec
  have hb := B.bytes
  have hr := B.returns
  have hts := atoms_spec (ws := wsX1_takeTurn) B.pre
  have hown : s.vm.findClass RX1 = some m.cls := findClass_of_methodNamed B.named
  have hlocks := B.notSynchronized
  subst hsz
  have hD := hD0.self (sz := s.heap.size)
  generalize hAe : va_A [(h2, .inr (1, [.ref a0, .ref a1, .ref a2, .ref a3, .int (nI N), .int (nI (bc (alv Z.2.1) N)), .int (nI Z.2.2.2), .int (nI Z.1.length)])), (a0, .inl (cA, 40, .inl LA)), (a1, .inl (cA, 40, .inl WA)), (a2, .inl (cA, 200, .inl CA)), (a3, .inl (cA, 200, .inl AA))] s.heap.size = A at hD ⊢
  have hA : ∀ q : Nat, s.heap.size ≤ q → A q := fun q h => by rw [← hAe]; exact Or.inr h
  have hS : va_S A s.heap s.heap [] := va_S.rf
  have hP : va_P (dC, dI) vwCl [(h2, .inr (1, [.ref a0, .ref a1, .ref a2, .ref a3, .int (nI N), .int (nI (bc (alv Z.2.1) N)), .int (nI Z.2.2.2), .int (nI Z.1.length)])), (a0, .inl (cA, 40, .inl LA)), (a1, .inl (cA, 40, .inl WA)), (a2, .inl (cA, 200, .inl CA)), (a3, .inl (cA, 200, .inl AA))] s.heap := hP
  have hl := lv_entry ([.ref h2, .int (cI neg k)]) (n := 3) (Nat.le_of_ble_eq_true rfl)
  rw [lg_entry_eq]
  generalize (lg_sl ([.ref h2, .int (cI neg k)]) ++ List.replicate (3 - (lg_sl ([.ref h2, .int (cI neg k)])).length) Slot.unset).toArray = ls at hl ⊢
  have hl : lv_has ls 3 [(0, .ref h2), (1, .int (cI neg k))] := hl
  obtain ⟨hN1, hN, hah, hal, hL5, hWL, hWc, hWi, hWe⟩ := hG.rb
  have hlen := hG.len
  have hcl := bc_le (alv Z.2.1) N
  refine lv_aload_n hx hb dX1_takeTurn_0 rfl (lv_at hl 0 rfl) ?_
  refine va_get (D := (dC, dI)) (ci := 1) (v := .int (nI (bc (alv Z.2.1) N))) (C := RX1) (T := TX1) (N := 8) hx hb hts (by decide +kernel) hown hK hP 0 rfl rfl 5 (by decide) (hts (.fieldLink RX1 38 "CountedOut$Ring" "left" "I") (by decide +kernel)) (fun _ h9 => h9) rfl dX1_takeTurn_1 ?_
  refine lv_iconst (v := 2) hx hb dX1_takeTurn_4 (by decide) ?_
  refine lv_icmp_lt (tgt := 18) hx hb dX1_takeTurn_5 (by decide) (fun c_5 => ?_) (fun c_5 => ?_)
  · have c_5 : bc (alv Z.2.1) N < 2 := (nI_ltI (a := bc (alv Z.2.1) N) (b := 2) (by omega) (by omega)).mp c_5
    refine lv_iconst (v := 0) hx hb dX1_takeTurn_18 (by decide) ?_
    have hP9 := hP.sub (ws' := [(h2, .inr (1, [.ref a0, .ref a1, .ref a2, .ref a3, .int (nI N), .int (nI (bc (alv Z.2.1) N)), .int (nI Z.2.2.2), .int (nI Z.1.length)])), (a0, .inl (cA, 40, .inl LA)), (a1, .inl (cA, 40, .inl WA)), (a2, .inl (cA, 200, .inl CA)), (a3, .inl (cA, 200, .inl AA))]) [0, 1, 2, 3, 4] rfl
    have hD9 := hD.sub (ws' := [(h2, .inr (1, [.ref a0, .ref a1, .ref a2, .ref a3, .int (nI N), .int (nI (bc (alv Z.2.1) N)), .int (nI Z.2.2.2), .int (nI Z.1.length)])), (a0, .inl (cA, 40, .inl LA)), (a1, .inl (cA, 40, .inl WA)), (a2, .inl (cA, 200, .inl CA)), (a3, .inl (cA, 200, .inl AA))]) [0, 1, 2, 3, 4] (by decide) rfl
    exact W.zret (v := 0) hx hb hr (rfl) (fun t ht hW => ⟨⟨_, (Z, LA, WA, CA, AA), rfl, ⟨by rw [decide_eq_false (by omega)]; rfl, by rw [if_pos c_5], hR⟩, ⟨by rw [ht]; exact hP9, va_K.moved hW.alike hK, hD9⟩⟩, hS.F ht⟩) hS.2.2 dX1_takeTurn_19
  · have c_5 : 2 ≤ bc (alv Z.2.1) N := Nat.le_of_not_lt (fun h => c_5 ((nI_ltI (a := bc (alv Z.2.1) N) (b := 2) (by omega) (by omega)).mpr h))
    refine lv_aload_n hx hb dX1_takeTurn_8 rfl (lv_at hl 0 rfl) ?_
    refine va_get (D := (dC, dI)) (ci := 1) (v := .int (nI Z.1.length)) (C := RX1) (T := TX1) (N := 8) hx hb hts (by decide +kernel) hown hK hP 0 rfl rfl 7 (by decide) (hts (.fieldLink RX1 44 "CountedOut$Ring" "done" "I") (by decide +kernel)) (fun _ h9 => h9) rfl dX1_takeTurn_9 ?_
    refine lv_sipush (v := 200) hx hb dX1_takeTurn_12 (by decide) ?_
    refine lv_icmp_lt (tgt := 20) hx hb dX1_takeTurn_15 (by decide) (fun c_15 => ?_) (fun c_15 => ?_)
    · obtain ⟨hq1, hq2⟩ := tQ_ok hG neg k
      have hq5 := hL5 _ hq1
      have hct := tL_cnt hq1 hq2
      refine lv_aload_n hx hb dX1_takeTurn_20 rfl (lv_at hl 0 rfl) ?_
      refine lv_iload_n hx hb dX1_takeTurn_21 rfl (lv_at hl 1 rfl) ?_
      have hPc := hP.sub (ws' := [(h2, .inr (1, [.ref a0, .ref a1, .ref a2, .ref a3, .int (nI N), .int (nI (bc (alv Z.2.1) N)), .int (nI Z.2.2.2), .int (nI Z.1.length)])), (a0, .inl (cA, 40, .inl LA))]) [0, 1] rfl
      refine vp_callSi (va_Run.run (va_runV (As := [.int (cI neg k)]) (rest := []) ⟨hx, hb, hml, hown, hts⟩ (c_X1_countedBy l dC dI cA h2 a0 a1 a2 a3 N hN1 hN Z.2.1 LA hR.1 hL5 Z.2.2.2 hah hal (nI Z.1.length) neg k hk1 hk) (cwV 1 hts gX1_takeTurn_X1_countedBy rfl rfl rfl (by decide +kernel) ⟨Nat.le_of_ble_eq_true rfl, Nat.le_of_ble_eq_true rfl⟩) ⟨fun a U g mk q => by obtain ⟨q0, qP, qK⟩ := q; exact ⟨q0, qP, va_K.moved (u := U) (U := U.calling g mk a) (Vm.Alike.refl U.vm) qK⟩, va_recv hK hP (ci := 1) (q0 := 0) rfl rfl, fun U hU hW => ⟨rfl, by rw [hU]; exact hPc, va_K.moved hW.alike hK⟩⟩ rfl rfl hl.1 rfl (lv_room (Nat.le_of_ble_eq_true rfl)) dX1_takeTurn_22 ⟨Nat.zero_le _, Nat.zero_le _⟩)) (fun r_22 hr_22 => ?_)
      subst hr_22
      refine lv_istore_n (lv' := [(2, .int (nI (tQ N neg k Z))), (0, .ref h2), (1, .int (cI neg k))]) hx hb dX1_takeTurn_25 rfl hl (by decide) rfl (fun ls hl => ?_)
      refine lv_aload_n hx hb dX1_takeTurn_26 rfl (lv_at hl 1 rfl) ?_
      refine va_get (D := (dC, dI)) (ci := 1) (v := .ref a2) (C := RX1) (T := TX1) (N := 8) hx hb hts (by decide +kernel) hown hK hP 0 rfl rfl 2 (by decide) (hts (.fieldLink RX1 18 "CountedOut$Ring" "loggedCounted" "[I") (by decide +kernel)) (fun _ h9 => h9) rfl dX1_takeTurn_27 ?_
      refine lv_aload_n hx hb dX1_takeTurn_30 rfl (lv_at hl 1 rfl) ?_
      refine va_get (D := (dC, dI)) (ci := 1) (v := .int (nI Z.1.length)) (C := RX1) (T := TX1) (N := 8) hx hb hts (by decide +kernel) hown hK hP 0 rfl rfl 7 (by decide) (hts (.fieldLink RX1 44 "CountedOut$Ring" "done" "I") (by decide +kernel)) (fun _ h9 => h9) rfl dX1_takeTurn_31 ?_
      refine lv_iload_n hx hb dX1_takeTurn_34 rfl (lv_at hl 0 rfl) ?_
      refine z_iast hx hb hK hP hD hS 3 0 rfl rfl (i := Z.1.length) (hlen) (by decide) dX1_takeTurn_35 (fun H locs hP hD hS => ?_)
      have hP : va_P (dC, dI) vwCl [(h2, .inr (1, [.ref a0, .ref a1, .ref a2, .ref a3, .int (nI N), .int (nI (bc (alv Z.2.1) N)), .int (nI Z.2.2.2), .int (nI Z.1.length)])), (a0, .inl (cA, 40, .inl LA)), (a1, .inl (cA, 40, .inl WA)), (a2, .inl (cA, 200, .inl (upd CA Z.1.length (nI (tQ N neg k Z))))), (a3, .inl (cA, 200, .inl AA))] H := hP
      have hD : va_D A [(h2, .inr (1, [.ref a0, .ref a1, .ref a2, .ref a3, .int (nI N), .int (nI (bc (alv Z.2.1) N)), .int (nI Z.2.2.2), .int (nI Z.1.length)])), (a0, .inl (cA, 40, .inl LA)), (a1, .inl (cA, 40, .inl WA)), (a2, .inl (cA, 200, .inl (upd CA Z.1.length (nI (tQ N neg k Z))))), (a3, .inl (cA, 200, .inl AA))] := hD
      refine lv_aload_n hx hb dX1_takeTurn_36 rfl (lv_at hl 1 rfl) ?_
      refine va_get (D := (dC, dI)) (ci := 1) (v := .ref a3) (C := RX1) (T := TX1) (N := 8) hx hb hts (by decide +kernel) hown hK hP 0 rfl rfl 3 (by decide) (hts (.fieldLink RX1 21 "CountedOut$Ring" "loggedAhead" "[I") (by decide +kernel)) (fun _ h9 => h9) rfl dX1_takeTurn_37 ?_
      refine lv_aload_n hx hb dX1_takeTurn_40 rfl (lv_at hl 1 rfl) ?_
      refine va_get (D := (dC, dI)) (ci := 1) (v := .int (nI Z.1.length)) (C := RX1) (T := TX1) (N := 8) hx hb hts (by decide +kernel) hown hK hP 0 rfl rfl 7 (by decide) (hts (.fieldLink RX1 44 "CountedOut$Ring" "done" "I") (by decide +kernel)) (fun _ h9 => h9) rfl dX1_takeTurn_41 ?_
      refine lv_aload_n hx hb dX1_takeTurn_44 rfl (lv_at hl 1 rfl) ?_
      refine va_get (D := (dC, dI)) (ci := 1) (v := .int (nI Z.2.2.2)) (C := RX1) (T := TX1) (N := 8) hx hb hts (by decide +kernel) hown hK hP 0 rfl rfl 6 (by decide) (hts (.fieldLink RX1 41 "CountedOut$Ring" "ahead" "I") (by decide +kernel)) (fun _ h9 => h9) rfl dX1_takeTurn_45 ?_
      refine z_iast hx hb hK hP hD hS 4 0 rfl rfl (i := Z.1.length) (hlen) (by decide) dX1_takeTurn_48 (fun H locs hP hD hS => ?_)
      have hP : va_P (dC, dI) vwCl [(h2, .inr (1, [.ref a0, .ref a1, .ref a2, .ref a3, .int (nI N), .int (nI (bc (alv Z.2.1) N)), .int (nI Z.2.2.2), .int (nI Z.1.length)])), (a0, .inl (cA, 40, .inl LA)), (a1, .inl (cA, 40, .inl WA)), (a2, .inl (cA, 200, .inl (upd CA Z.1.length (nI (tQ N neg k Z))))), (a3, .inl (cA, 200, .inl (upd AA Z.1.length (nI Z.2.2.2))))] H := hP
      have hD : va_D A [(h2, .inr (1, [.ref a0, .ref a1, .ref a2, .ref a3, .int (nI N), .int (nI (bc (alv Z.2.1) N)), .int (nI Z.2.2.2), .int (nI Z.1.length)])), (a0, .inl (cA, 40, .inl LA)), (a1, .inl (cA, 40, .inl WA)), (a2, .inl (cA, 200, .inl (upd CA Z.1.length (nI (tQ N neg k Z))))), (a3, .inl (cA, 200, .inl (upd AA Z.1.length (nI Z.2.2.2))))] := hD
      refine lv_aload_n hx hb dX1_takeTurn_49 rfl (lv_at hl 1 rfl) ?_
      refine lv_dup hx hb dX1_takeTurn_50 rfl ?_
      refine va_get (D := (dC, dI)) (ci := 1) (v := .int (nI Z.1.length)) (C := RX1) (T := TX1) (N := 8) hx hb hts (by decide +kernel) hown hK hP 0 rfl rfl 7 (by decide) (hts (.fieldLink RX1 44 "CountedOut$Ring" "done" "I") (by decide +kernel)) (fun _ h9 => h9) rfl dX1_takeTurn_51 ?_
      refine lv_iconst (v := 1) hx hb dX1_takeTurn_54 (by decide) ?_
      refine lv_iadd hx hb dX1_takeTurn_55 ?_
      refine z_i (y := nI (Z.1.length + 1)) (nI_1 _) ?_
      refine va_put (D := (dC, dI)) (ci := 1) (v := .int (nI (Z.1.length + 1))) (ty := .int) (C := RX1) (T := TX1) (N := 8) hx hb hts (by decide +kernel) tyX1 tyX1_ok nmX1 hown hK hP hD hS 0 rfl rfl 7 (by decide) (hts (.fieldLink RX1 44 "CountedOut$Ring" "done" "I") (by decide +kernel)) (fun _ h9 => h9) rfl (by decide +kernel) rfl rfl (Nat.le_of_ble_eq_true rfl) dX1_takeTurn_56 (fun H locs hP hD hS => ?_)
      have hP : va_P (dC, dI) vwCl [(h2, .inr (1, [.ref a0, .ref a1, .ref a2, .ref a3, .int (nI N), .int (nI (bc (alv Z.2.1) N)), .int (nI Z.2.2.2), .int (nI (Z.1.length + 1))])), (a0, .inl (cA, 40, .inl LA)), (a1, .inl (cA, 40, .inl WA)), (a2, .inl (cA, 200, .inl (upd CA Z.1.length (nI (tQ N neg k Z))))), (a3, .inl (cA, 200, .inl (upd AA Z.1.length (nI Z.2.2.2))))] H := hP
      have hD : va_D A [(h2, .inr (1, [.ref a0, .ref a1, .ref a2, .ref a3, .int (nI N), .int (nI (bc (alv Z.2.1) N)), .int (nI Z.2.2.2), .int (nI (Z.1.length + 1))])), (a0, .inl (cA, 40, .inl LA)), (a1, .inl (cA, 40, .inl WA)), (a2, .inl (cA, 200, .inl (upd CA Z.1.length (nI (tQ N neg k Z))))), (a3, .inl (cA, 200, .inl (upd AA Z.1.length (nI Z.2.2.2))))] := hD
      refine lv_aload_n hx hb dX1_takeTurn_59 rfl (lv_at hl 1 rfl) ?_
      refine lv_iload_n hx hb dX1_takeTurn_60 rfl (lv_at hl 0 rfl) ?_
      have hPc := hP.sub (ws' := [(h2, .inr (1, [.ref a0, .ref a1, .ref a2, .ref a3, .int (nI N), .int (nI (bc (alv Z.2.1) N)), .int (nI Z.2.2.2), .int (nI (Z.1.length + 1))])), (a0, .inl (cA, 40, .inl LA)), (a1, .inl (cA, 40, .inl WA))]) [0, 1, 2] rfl
      have hDc := hD.sub (ws' := [(h2, .inr (1, [.ref a0, .ref a1, .ref a2, .ref a3, .int (nI N), .int (nI (bc (alv Z.2.1) N)), .int (nI Z.2.2.2), .int (nI (Z.1.length + 1))])), (a0, .inl (cA, 40, .inl LA)), (a1, .inl (cA, 40, .inl WA))]) [0, 1, 2] (by decide) rfl
      have hFc := va_free (wc := [(h2, .inr (1, [.ref a0, .ref a1, .ref a2, .ref a3, .int (nI N), .int (nI (bc (alv Z.2.1) N)), .int (nI Z.2.2.2), .int (nI (Z.1.length + 1))])), (a0, .inl (cA, 40, .inl LA)), (a1, .inl (cA, 40, .inl WA))]) hD hS hA [0, 1, 2] rfl
      refine va_callv (va_runV (As := [.int (nI (tQ N neg k Z))]) (rest := []) ⟨hx, hb, hml, hown, hts⟩ (c_X1_loseLife l dC dI H.size cA h2 a0 a1 a2 a3 N hN1 hN Z.2.1 LA hR.1 hL5 (nI Z.2.2.2) (nI (Z.1.length + 1)) WA (tQ N neg k Z) hq1 hq2) (cwV 1 hts gX1_takeTurn_X1_loseLife rfl rfl rfl (by decide +kernel) ⟨Nat.le_of_ble_eq_true rfl, Nat.le_of_ble_eq_true rfl⟩) ⟨fun a U g mk q => by obtain ⟨q0, q1, qP, qK, qD⟩ := q; exact ⟨q0, q1, qP, va_K.moved (u := U) (U := U.calling g mk a) (Vm.Alike.refl U.vm) qK, qD⟩, va_recv hK hP (ci := 1) (q0 := 0) rfl rfl, fun U hU hW => ⟨rfl, by rw [hU], by rw [hU]; exact hPc, va_K.moved hW.alike hK, hDc.weaken (fun _ _ _ _ => trivial)⟩⟩ rfl rfl hl.1 rfl (lv_room (Nat.le_of_ble_eq_true rfl)) dX1_takeTurn_61 ⟨Nat.zero_le _, Nat.zero_le _⟩) hS (fun q _ h => hFc q h) hFc (fun u_61 t_61 H1 locs ht_61 hvm_61 hw_61 hB_61 hz1 hk1 hS => ?_)
      obtain ⟨W1, rfl⟩ : ∃ z, z = u_61 := ⟨_, rfl⟩
      obtain ⟨hP1, hK1, hD1⟩ := hB_61
      rw [ht_61] at hP1
      obtain ⟨hP, hD⟩ := va_join (wr := [(a2, .inl (cA, 200, .inl (upd CA Z.1.length (nI (tQ N neg k Z))))), (a3, .inl (cA, 200, .inl (upd AA Z.1.length (nI Z.2.2.2))))]) (w1 := [(h2, .inr (1, [.ref a0, .ref a1, .ref a2, .ref a3, .int (nI N), .int (nI (bc (alv (tL Z.2.1 (tQ N neg k Z))) N)), .int (nI Z.2.2.2), .int (nI (Z.1.length + 1))])), (a0, .inl (cA, 40, .inl (upd LA (tQ N neg k Z) (nI (Z.2.1 (tQ N neg k Z) - 1))))), (a1, .inl (cA, 40, .inl W1))]) hP hD [0, 1, 2] [3, 4] rfl rfl (by decide) (by decide) hk1 hFc hP1 hD1
      generalize H1 = H at hP hS ⊢
      have hP := hP.sub (ws' := [(h2, .inr (1, [.ref a0, .ref a1, .ref a2, .ref a3, .int (nI N), .int (nI (bc (alv (tL Z.2.1 (tQ N neg k Z))) N)), .int (nI Z.2.2.2), .int (nI (Z.1.length + 1))])), (a0, .inl (cA, 40, .inl (upd LA (tQ N neg k Z) (nI (Z.2.1 (tQ N neg k Z) - 1))))), (a1, .inl (cA, 40, .inl W1)), (a2, .inl (cA, 200, .inl (upd CA Z.1.length (nI (tQ N neg k Z))))), (a3, .inl (cA, 200, .inl (upd AA Z.1.length (nI Z.2.2.2))))]) [2, 3, 4, 0, 1] rfl
      have hD := hD.sub (ws' := [(h2, .inr (1, [.ref a0, .ref a1, .ref a2, .ref a3, .int (nI N), .int (nI (bc (alv (tL Z.2.1 (tQ N neg k Z))) N)), .int (nI Z.2.2.2), .int (nI (Z.1.length + 1))])), (a0, .inl (cA, 40, .inl (upd LA (tQ N neg k Z) (nI (Z.2.1 (tQ N neg k Z) - 1))))), (a1, .inl (cA, 40, .inl W1)), (a2, .inl (cA, 200, .inl (upd CA Z.1.length (nI (tQ N neg k Z))))), (a3, .inl (cA, 200, .inl (upd AA Z.1.length (nI Z.2.2.2))))]) [2, 3, 4, 0, 1] (by decide) rfl
      have hR1 := RX_turn (ah := Z.2.2.2) hR hq1 (by split at hct <;> omega) hw_61
      refine lv_aload_n hx hb dX1_takeTurn_64 rfl (lv_at hl 1 rfl) ?_
      refine lv_aload_n hx hb dX1_takeTurn_65 rfl (lv_at hl 1 rfl) ?_
      refine lv_iload_n hx hb dX1_takeTurn_66 rfl (lv_at hl 0 rfl) ?_
      have hPc := hP.sub (ws' := [(h2, .inr (1, [.ref a0, .ref a1, .ref a2, .ref a3, .int (nI N), .int (nI (bc (alv (tL Z.2.1 (tQ N neg k Z))) N)), .int (nI Z.2.2.2), .int (nI (Z.1.length + 1))])), (a0, .inl (cA, 40, .inl (upd LA (tQ N neg k Z) (nI (Z.2.1 (tQ N neg k Z) - 1)))))]) [0, 1] rfl
      refine vp_callSi (va_Run.run (va_runV (As := [.int (nI (tQ N neg k Z))]) (rest := [.ref h2]) ⟨hx, hb, hml, hown, hts⟩ (c_X1_nextLeft l dC dI cA h2 a0 a1 a2 a3 N hN1 hN (tL Z.2.1 (tQ N neg k Z)) (upd LA (tQ N neg k Z) (nI (Z.2.1 (tQ N neg k Z) - 1))) hR1.1 (GA_tS hG neg k c_5).rb.2.2.2.2.1 (nI (bc (alv (tL Z.2.1 (tQ N neg k Z))) N)) (nI Z.2.2.2) (nI (Z.1.length + 1)) (tQ N neg k Z) hq1) (cwV 1 hts gX1_takeTurn_X1_nextLeft rfl rfl rfl (by decide +kernel) ⟨Nat.le_of_ble_eq_true rfl, Nat.le_of_ble_eq_true rfl⟩) ⟨fun a U g mk q => by obtain ⟨q0, qP, qK⟩ := q; exact ⟨q0, qP, va_K.moved (u := U) (U := U.calling g mk a) (Vm.Alike.refl U.vm) qK⟩, va_recv hK hP (ci := 1) (q0 := 0) rfl rfl, fun U hU hW => ⟨rfl, by rw [hU]; exact hPc, va_K.moved hW.alike hK⟩⟩ rfl rfl hl.1 rfl (lv_room (Nat.le_of_ble_eq_true rfl)) dX1_takeTurn_67 ⟨Nat.zero_le _, Nat.zero_le _⟩)) (fun r_67 hr_67 => ?_)
      subst hr_67
      refine va_put (D := (dC, dI)) (ci := 1) (v := .int (nI (nextP (alv (tL Z.2.1 (tQ N neg k Z))) N (tQ N neg k Z)))) (ty := .int) (C := RX1) (T := TX1) (N := 8) hx hb hts (by decide +kernel) tyX1 tyX1_ok nmX1 hown hK hP hD hS 0 rfl rfl 6 (by decide) (hts (.fieldLink RX1 41 "CountedOut$Ring" "ahead" "I") (by decide +kernel)) (fun _ h9 => h9) rfl (by decide +kernel) rfl rfl (Nat.le_of_ble_eq_true rfl) dX1_takeTurn_70 (fun H locs hP hD hS => ?_)
      have hP : va_P (dC, dI) vwCl [(h2, .inr (1, [.ref a0, .ref a1, .ref a2, .ref a3, .int (nI N), .int (nI (bc (alv (tL Z.2.1 (tQ N neg k Z))) N)), .int (nI (nextP (alv (tL Z.2.1 (tQ N neg k Z))) N (tQ N neg k Z))), .int (nI (Z.1.length + 1))])), (a0, .inl (cA, 40, .inl (upd LA (tQ N neg k Z) (nI (Z.2.1 (tQ N neg k Z) - 1))))), (a1, .inl (cA, 40, .inl W1)), (a2, .inl (cA, 200, .inl (upd CA Z.1.length (nI (tQ N neg k Z))))), (a3, .inl (cA, 200, .inl (upd AA Z.1.length (nI Z.2.2.2))))] H := hP
      have hD : va_D A [(h2, .inr (1, [.ref a0, .ref a1, .ref a2, .ref a3, .int (nI N), .int (nI (bc (alv (tL Z.2.1 (tQ N neg k Z))) N)), .int (nI (nextP (alv (tL Z.2.1 (tQ N neg k Z))) N (tQ N neg k Z))), .int (nI (Z.1.length + 1))])), (a0, .inl (cA, 40, .inl (upd LA (tQ N neg k Z) (nI (Z.2.1 (tQ N neg k Z) - 1))))), (a1, .inl (cA, 40, .inl W1)), (a2, .inl (cA, 200, .inl (upd CA Z.1.length (nI (tQ N neg k Z))))), (a3, .inl (cA, 200, .inl (upd AA Z.1.length (nI Z.2.2.2))))] := hD
      refine lv_iconst (v := 1) hx hb dX1_takeTurn_73 (by decide) ?_
      have hP9 := hP.sub (ws' := [(h2, .inr (1, [.ref a0, .ref a1, .ref a2, .ref a3, .int (nI N), .int (nI (bc (alv (tL Z.2.1 (tQ N neg k Z))) N)), .int (nI (nextP (alv (tL Z.2.1 (tQ N neg k Z))) N (tQ N neg k Z))), .int (nI (Z.1.length + 1))])), (a0, .inl (cA, 40, .inl (upd LA (tQ N neg k Z) (nI (Z.2.1 (tQ N neg k Z) - 1))))), (a1, .inl (cA, 40, .inl W1)), (a2, .inl (cA, 200, .inl (upd CA Z.1.length (nI (tQ N neg k Z))))), (a3, .inl (cA, 200, .inl (upd AA Z.1.length (nI Z.2.2.2))))]) [0, 1, 2, 3, 4] rfl
      have hD9 := hD.sub (ws' := [(h2, .inr (1, [.ref a0, .ref a1, .ref a2, .ref a3, .int (nI N), .int (nI (bc (alv (tL Z.2.1 (tQ N neg k Z))) N)), .int (nI (nextP (alv (tL Z.2.1 (tQ N neg k Z))) N (tQ N neg k Z))), .int (nI (Z.1.length + 1))])), (a0, .inl (cA, 40, .inl (upd LA (tQ N neg k Z) (nI (Z.2.1 (tQ N neg k Z) - 1))))), (a1, .inl (cA, 40, .inl W1)), (a2, .inl (cA, 200, .inl (upd CA Z.1.length (nI (tQ N neg k Z))))), (a3, .inl (cA, 200, .inl (upd AA Z.1.length (nI Z.2.2.2))))]) [0, 1, 2, 3, 4] (by decide) rfl
      exact W.zret (v := 1) hx hb hr (rfl) (fun t ht hW => ⟨⟨_, (tS N neg k Z, _, _, _, _), rfl, ⟨by rw [decide_eq_true c_5]; rfl, by rw [if_neg (by omega)], hR1⟩, ⟨by rw [ht]; exact hP9, va_K.moved hW.alike hK, hD9⟩⟩, hS.F ht⟩) hS.2.2 dX1_takeTurn_74
    · exact absurd ((nI_ltI (a := Z.1.length) (b := 200) (by omega) (by omega)).mpr hlen) c_15

set_option maxHeartbeats 4000000 in
set_option maxRecDepth 100000 in
theorem c_X1_takeBack (l : Launch) (dC : Nat → ClassId) (dI : Nat → Nat → Nat) (sz : Nat) (cA : ClassId) (h2 a0 a1 a2 a3 : Nat) (B : Nat → Nat) (N : Nat) (lg : List (Nat × Nat)) (L Wn : Nat → Nat) (ah : Nat) (LA WA CA AA : Nat → Int32) (hG : Rg B N lg L Wn ah) (hR : RX N lg L Wn LA WA CA AA) : Met l yX1_takeBack wsX1_takeBack ({ frames := 0, cells := 0, slots := 0, locals := 0 }) (va_Pc [.ref h2] (fun U => U.heap.size = sz ∧ va_P (dC, dI) vwCl [(h2, .inr (1, [.ref a0, .ref a1, .ref a2, .ref a3, .int (nI N), .int (nI (bc (alv L) N)), .int (nI ah), .int (nI lg.length)])), (a0, .inl (cA, 40, .inl LA)), (a1, .inl (cA, 40, .inl WA)), (a2, .inl (cA, 200, .inl CA)), (a3, .inl (cA, 200, .inl AA))] U.heap ∧ va_K (dC, dI) vwCl [(cA, .int)] U ∧ va_D (fun _ => True) [(h2, .inr (1, [.ref a0, .ref a1, .ref a2, .ref a3, .int (nI N), .int (nI (bc (alv L) N)), .int (nI ah), .int (nI lg.length)])), (a0, .inl (cA, 40, .inl LA)), (a1, .inl (cA, 40, .inl WA)), (a2, .inl (cA, 200, .inl CA)), (a3, .inl (cA, 200, .inl AA))])) (va_Qi (S := AS × (Nat → Int32) × (Nat → Int32) × (Nat → Int32) × (Nat → Int32)) (fun r u => r = zb (decide (0 < lg.length)) ∧ u.1 = bk1 (lg, L, Wn, ah) ∧ RA N u.1 u.2.1 u.2.2.1 u.2.2.2.1 u.2.2.2.2) (fun (u : AS × (Nat → Int32) × (Nat → Int32) × (Nat → Int32) × (Nat → Int32)) (t : State) => va_P (dC, dI) vwCl [(h2, .inr (1, [.ref a0, .ref a1, .ref a2, .ref a3, .int (nI N), .int (nI (bc (alv u.1.2.1) N)), .int (nI u.1.2.2.2), .int (nI u.1.1.length)])), (a0, .inl (cA, 40, .inl u.2.1)), (a1, .inl (cA, 40, .inl u.2.2.1)), (a2, .inl (cA, 200, .inl u.2.2.2.1)), (a3, .inl (cA, 200, .inl u.2.2.2.2))] t.heap ∧ va_K (dC, dI) vwCl [(cA, .int)] t ∧ va_D (va_A [(h2, .inr (1, [.ref a0, .ref a1, .ref a2, .ref a3, .int (nI N), .int (nI (bc (alv L) N)), .int (nI ah), .int (nI lg.length)])), (a0, .inl (cA, 40, .inl LA)), (a1, .inl (cA, 40, .inl WA)), (a2, .inl (cA, 200, .inl CA)), (a3, .inl (cA, 200, .inl AA))] sz) [(h2, .inr (1, [.ref a0, .ref a1, .ref a2, .ref a3, .int (nI N), .int (nI (bc (alv u.1.2.1) N)), .int (nI u.1.2.2.2), .int (nI u.1.1.length)])), (a0, .inl (cA, 40, .inl u.2.1)), (a1, .inl (cA, 40, .inl u.2.2.1)), (a2, .inl (cA, 200, .inl u.2.2.2.1)), (a3, .inl (cA, 200, .inl u.2.2.2.2))]) (va_A [(h2, .inr (1, [.ref a0, .ref a1, .ref a2, .ref a3, .int (nI N), .int (nI (bc (alv L) N)), .int (nI ah), .int (nI lg.length)])), (a0, .inl (cA, 40, .inl LA)), (a1, .inl (cA, 40, .inl WA)), (a2, .inl (cA, 200, .inl CA)), (a3, .inl (cA, 200, .inl AA))] sz)) 0 0 (va_A [(h2, .inr (1, [.ref a0, .ref a1, .ref a2, .ref a3, .int (nI N), .int (nI (bc (alv L) N)), .int (nI ah), .int (nI lg.length)])), (a0, .inl (cA, 40, .inl LA)), (a1, .inl (cA, 40, .inl WA)), (a2, .inl (cA, 200, .inl CA)), (a3, .inl (cA, 200, .inl AA))] sz) := by
  refine Met.ofW (cc := cX1_takeBack) (maxL := 2) (ret := (some .boolean)) (by decide) rfl ?_
  intro p e s m args below meth c s₁ B hml hv
  obtain ⟨rfl, hsz, hP, hK, hD0⟩ := hv
  have hx := B.exec
  have hb := B.bytes
  have hr := B.returns
  have hts := atoms_spec (ws := wsX1_takeBack) B.pre
  have hown : s.vm.findClass RX1 = some m.cls := findClass_of_methodNamed B.named
  have hlocks := B.notSynchronized
  subst hsz
  have hD := hD0.self (sz := s.heap.size)
  generalize hAe : va_A [(h2, .inr (1, [.ref a0, .ref a1, .ref a2, .ref a3, .int (nI N), .int (nI (bc (alv L) N)), .int (nI ah), .int (nI lg.length)])), (a0, .inl (cA, 40, .inl LA)), (a1, .inl (cA, 40, .inl WA)), (a2, .inl (cA, 200, .inl CA)), (a3, .inl (cA, 200, .inl AA))] s.heap.size = A at hD ⊢
  have hA : ∀ q : Nat, s.heap.size ≤ q → A q := fun q h => by rw [← hAe]; exact Or.inr h
  have hS : va_S A s.heap s.heap [] := va_S.rf
  have hP : va_P (dC, dI) vwCl [(h2, .inr (1, [.ref a0, .ref a1, .ref a2, .ref a3, .int (nI N), .int (nI (bc (alv L) N)), .int (nI ah), .int (nI lg.length)])), (a0, .inl (cA, 40, .inl LA)), (a1, .inl (cA, 40, .inl WA)), (a2, .inl (cA, 200, .inl CA)), (a3, .inl (cA, 200, .inl AA))] s.heap := hP
  have hl := lv_entry ([.ref h2]) (n := 2) (Nat.le_of_ble_eq_true rfl)
  rw [lg_entry_eq]
  generalize (lg_sl ([.ref h2]) ++ List.replicate (2 - (lg_sl ([.ref h2])).length) Slot.unset).toArray = ls at hl ⊢
  have hl : lv_has ls 2 [(0, .ref h2)] := hl
  obtain ⟨hN1, hN, hah, hal, hL5, hWL, hWc, hWi, hWe⟩ := hG.rb
  have hlen := hG.len
  have hcl := bc_le (alv L) N
  refine lv_aload_n hx hb dX1_takeBack_0 rfl (lv_at hl 0 rfl) ?_
  refine va_get (D := (dC, dI)) (ci := 1) (v := .int (nI lg.length)) (C := RX1) (T := TX1) (N := 8) hx hb hts (by decide +kernel) hown hK hP 0 rfl rfl 7 (by decide) (hts (.fieldLink RX1 44 "CountedOut$Ring" "done" "I") (by decide +kernel)) (fun _ h9 => h9) rfl dX1_takeBack_1 ?_
  refine lv_iconst (v := 1) hx hb dX1_takeBack_4 (by decide) ?_
  refine lv_icmp_ge (tgt := 10) hx hb dX1_takeBack_5 (by decide) (fun c_5 => ?_) (fun c_5 => ?_)
  · obtain ⟨q0, b0, tl, rfl⟩ : ∃ q0 b0 tl, lg = (q0, b0) :: tl := by cases lg with | nil => exact absurd c_5 (by decide) | cons x tl => exact ⟨x.1, x.2, tl, rfl⟩
    obtain ⟨hq1, ha1, hq4, hG0, hcb, hWq⟩ := GA_back hG
    have hlen2 : tl.length + 1 < 200 := hlen
    refine lv_aload_n hx hb dX1_takeBack_10 rfl (lv_at hl 0 rfl) ?_
    refine lv_dup hx hb dX1_takeBack_11 rfl ?_
    refine va_get (D := (dC, dI)) (ci := 1) (v := .int (nI ((q0, b0) :: tl).length)) (C := RX1) (T := TX1) (N := 8) hx hb hts (by decide +kernel) hown hK hP 0 rfl rfl 7 (by decide) (hts (.fieldLink RX1 44 "CountedOut$Ring" "done" "I") (by decide +kernel)) (fun _ h9 => h9) rfl dX1_takeBack_12 ?_
    refine lv_iconst (v := 1) hx hb dX1_takeBack_15 (by decide) ?_
    refine lv_isub hx hb dX1_takeBack_16 ?_
    refine z_i (y := nI tl.length) (nI_pred tl.length) ?_
    refine va_put (D := (dC, dI)) (ci := 1) (v := .int (nI tl.length)) (ty := .int) (C := RX1) (T := TX1) (N := 8) hx hb hts (by decide +kernel) tyX1 tyX1_ok nmX1 hown hK hP hD hS 0 rfl rfl 7 (by decide) (hts (.fieldLink RX1 44 "CountedOut$Ring" "done" "I") (by decide +kernel)) (fun _ h9 => h9) rfl (by decide +kernel) rfl rfl (Nat.le_of_ble_eq_true rfl) dX1_takeBack_17 (fun H locs hP hD hS => ?_)
    have hP : va_P (dC, dI) vwCl [(h2, .inr (1, [.ref a0, .ref a1, .ref a2, .ref a3, .int (nI N), .int (nI (bc (alv L) N)), .int (nI ah), .int (nI tl.length)])), (a0, .inl (cA, 40, .inl LA)), (a1, .inl (cA, 40, .inl WA)), (a2, .inl (cA, 200, .inl CA)), (a3, .inl (cA, 200, .inl AA))] H := hP
    have hD : va_D A [(h2, .inr (1, [.ref a0, .ref a1, .ref a2, .ref a3, .int (nI N), .int (nI (bc (alv L) N)), .int (nI ah), .int (nI tl.length)])), (a0, .inl (cA, 40, .inl LA)), (a1, .inl (cA, 40, .inl WA)), (a2, .inl (cA, 200, .inl CA)), (a3, .inl (cA, 200, .inl AA))] := hD
    refine lv_aload_n hx hb dX1_takeBack_20 rfl (lv_at hl 0 rfl) ?_
    refine va_get (D := (dC, dI)) (ci := 1) (v := .ref a2) (C := RX1) (T := TX1) (N := 8) hx hb hts (by decide +kernel) hown hK hP 0 rfl rfl 2 (by decide) (hts (.fieldLink RX1 18 "CountedOut$Ring" "loggedCounted" "[I") (by decide +kernel)) (fun _ h9 => h9) rfl dX1_takeBack_21 ?_
    refine lv_aload_n hx hb dX1_takeBack_24 rfl (lv_at hl 0 rfl) ?_
    refine va_get (D := (dC, dI)) (ci := 1) (v := .int (nI tl.length)) (C := RX1) (T := TX1) (N := 8) hx hb hts (by decide +kernel) hown hK hP 0 rfl rfl 7 (by decide) (hts (.fieldLink RX1 44 "CountedOut$Ring" "done" "I") (by decide +kernel)) (fun _ h9 => h9) rfl dX1_takeBack_25 ?_
    refine z_iald hx hb hK hP 3 0 rfl rfl (i := tl.length) (by omega) (by decide) dX1_takeBack_28 ?_
    refine z_i (y := nI q0) (hR.2.2.1) ?_
    refine lv_istore_n (lv' := [(1, .int (nI q0)), (0, .ref h2)]) hx hb dX1_takeBack_29 rfl hl (by decide) rfl (fun ls hl => ?_)
    refine lv_aload_n hx hb dX1_takeBack_30 rfl (lv_at hl 1 rfl) ?_
    refine va_get (D := (dC, dI)) (ci := 1) (v := .ref a0) (C := RX1) (T := TX1) (N := 8) hx hb hts (by decide +kernel) hown hK hP 0 rfl rfl 0 (by decide) (hts (.fieldLink RX1 9 "CountedOut$Ring" "livesLeft" "[I") (by decide +kernel)) (fun _ h9 => h9) rfl dX1_takeBack_31 ?_
    refine lv_iload_n hx hb dX1_takeBack_34 rfl (lv_at hl 0 rfl) ?_
    refine z_iald hx hb hK hP 1 0 rfl rfl (i := q0) (by omega) (by decide) dX1_takeBack_35 ?_
    refine z_i (y := nI (L q0)) (hR.1 _ hq1) ?_
    refine lv_if_ne (tgt := 57) hx hb dX1_takeBack_36 (by decide) (fun c_36 => ?_) (fun c_36 => ?_)
    · have c_36 : ¬ L q0 = 0 := fun h => c_36 ((nI_eq (a := L q0) (b := 0) (by omega) (by omega)).mpr h)
      rw [if_neg c_36, Nat.add_zero] at hcb
      rw [← hcb] at hP hD
      refine lv_aload_n hx hb dX1_takeBack_57 rfl (lv_at hl 1 rfl) ?_
      refine va_get (D := (dC, dI)) (ci := 1) (v := .ref a0) (C := RX1) (T := TX1) (N := 8) hx hb hts (by decide +kernel) hown hK hP 0 rfl rfl 0 (by decide) (hts (.fieldLink RX1 9 "CountedOut$Ring" "livesLeft" "[I") (by decide +kernel)) (fun _ h9 => h9) rfl dX1_takeBack_58 ?_
      refine lv_iload_n hx hb dX1_takeBack_61 rfl (lv_at hl 0 rfl) ?_
      refine lv_dup2_11 hx hb dX1_takeBack_62 rfl rfl ?_
      refine z_iald hx hb hK hP 1 0 rfl rfl (i := q0) (by omega) (by decide) dX1_takeBack_63 ?_
      refine z_i (y := nI (L q0)) (hR.1 _ hq1) ?_
      refine lv_iconst (v := 1) hx hb dX1_takeBack_64 (by decide) ?_
      refine lv_iadd hx hb dX1_takeBack_65 ?_
      refine z_i (y := nI (L q0 + 1)) (nI_1 _) ?_
      refine z_iast hx hb hK hP hD hS 1 0 rfl rfl (i := q0) (by omega) (by decide) dX1_takeBack_66 (fun H locs hP hD hS => ?_)
      have hP : va_P (dC, dI) vwCl [(h2, .inr (1, [.ref a0, .ref a1, .ref a2, .ref a3, .int (nI N), .int (nI (bc (alv (bL L q0)) N)), .int (nI ah), .int (nI tl.length)])), (a0, .inl (cA, 40, .inl (upd LA q0 (nI (L q0 + 1))))), (a1, .inl (cA, 40, .inl WA)), (a2, .inl (cA, 200, .inl CA)), (a3, .inl (cA, 200, .inl AA))] H := hP
      have hD : va_D A [(h2, .inr (1, [.ref a0, .ref a1, .ref a2, .ref a3, .int (nI N), .int (nI (bc (alv (bL L q0)) N)), .int (nI ah), .int (nI tl.length)])), (a0, .inl (cA, 40, .inl (upd LA q0 (nI (L q0 + 1))))), (a1, .inl (cA, 40, .inl WA)), (a2, .inl (cA, 200, .inl CA)), (a3, .inl (cA, 200, .inl AA))] := hD
      refine lv_aload_n hx hb dX1_takeBack_67 rfl (lv_at hl 1 rfl) ?_
      refine lv_aload_n hx hb dX1_takeBack_68 rfl (lv_at hl 1 rfl) ?_
      refine va_get (D := (dC, dI)) (ci := 1) (v := .ref a3) (C := RX1) (T := TX1) (N := 8) hx hb hts (by decide +kernel) hown hK hP 0 rfl rfl 3 (by decide) (hts (.fieldLink RX1 21 "CountedOut$Ring" "loggedAhead" "[I") (by decide +kernel)) (fun _ h9 => h9) rfl dX1_takeBack_69 ?_
      refine lv_aload_n hx hb dX1_takeBack_72 rfl (lv_at hl 1 rfl) ?_
      refine va_get (D := (dC, dI)) (ci := 1) (v := .int (nI tl.length)) (C := RX1) (T := TX1) (N := 8) hx hb hts (by decide +kernel) hown hK hP 0 rfl rfl 7 (by decide) (hts (.fieldLink RX1 44 "CountedOut$Ring" "done" "I") (by decide +kernel)) (fun _ h9 => h9) rfl dX1_takeBack_73 ?_
      refine z_iald hx hb hK hP 4 0 rfl rfl (i := tl.length) (by omega) (by decide) dX1_takeBack_76 ?_
      refine z_i (y := nI b0) (hR.2.2.2.1) ?_
      refine va_put (D := (dC, dI)) (ci := 1) (v := .int (nI b0)) (ty := .int) (C := RX1) (T := TX1) (N := 8) hx hb hts (by decide +kernel) tyX1 tyX1_ok nmX1 hown hK hP hD hS 0 rfl rfl 6 (by decide) (hts (.fieldLink RX1 41 "CountedOut$Ring" "ahead" "I") (by decide +kernel)) (fun _ h9 => h9) rfl (by decide +kernel) rfl rfl (Nat.le_of_ble_eq_true rfl) dX1_takeBack_77 (fun H locs hP hD hS => ?_)
      have hP : va_P (dC, dI) vwCl [(h2, .inr (1, [.ref a0, .ref a1, .ref a2, .ref a3, .int (nI N), .int (nI (bc (alv (bL L q0)) N)), .int (nI b0), .int (nI tl.length)])), (a0, .inl (cA, 40, .inl (upd LA q0 (nI (L q0 + 1))))), (a1, .inl (cA, 40, .inl WA)), (a2, .inl (cA, 200, .inl CA)), (a3, .inl (cA, 200, .inl AA))] H := hP
      have hD : va_D A [(h2, .inr (1, [.ref a0, .ref a1, .ref a2, .ref a3, .int (nI N), .int (nI (bc (alv (bL L q0)) N)), .int (nI b0), .int (nI tl.length)])), (a0, .inl (cA, 40, .inl (upd LA q0 (nI (L q0 + 1))))), (a1, .inl (cA, 40, .inl WA)), (a2, .inl (cA, 200, .inl CA)), (a3, .inl (cA, 200, .inl AA))] := hD
      refine lv_iconst (v := 1) hx hb dX1_takeBack_80 (by decide) ?_
      have hP9 := hP.sub (ws' := [(h2, .inr (1, [.ref a0, .ref a1, .ref a2, .ref a3, .int (nI N), .int (nI (bc (alv (bL L q0)) N)), .int (nI b0), .int (nI tl.length)])), (a0, .inl (cA, 40, .inl (upd LA q0 (nI (L q0 + 1))))), (a1, .inl (cA, 40, .inl WA)), (a2, .inl (cA, 200, .inl CA)), (a3, .inl (cA, 200, .inl AA))]) [0, 1, 2, 3, 4] rfl
      have hD9 := hD.sub (ws' := [(h2, .inr (1, [.ref a0, .ref a1, .ref a2, .ref a3, .int (nI N), .int (nI (bc (alv (bL L q0)) N)), .int (nI b0), .int (nI tl.length)])), (a0, .inl (cA, 40, .inl (upd LA q0 (nI (L q0 + 1))))), (a1, .inl (cA, 40, .inl WA)), (a2, .inl (cA, 200, .inl CA)), (a3, .inl (cA, 200, .inl AA))]) [0, 1, 2, 3, 4] (by decide) rfl
      exact W.zret (v := 1) hx hb hr (rfl) (fun t ht hW => ⟨⟨_, ((tl, bL L q0, bW Wn q0, b0), _, _, _, _), rfl, ⟨rfl, rfl, RX_back hR (back_W1 (show WA q0 = -9 by rw [hR.2.1 _ hq1, hWq (by omega)]; rfl))⟩, ⟨by rw [ht]; exact hP9, va_K.moved hW.alike hK, hD9⟩⟩, hS.F ht⟩) hS.2.2 dX1_takeBack_81
    · have c_36 : L q0 = 0 := (nI_eq (a := L q0) (b := 0) (by omega) (by omega)).mp c_36
      rw [if_pos c_36] at hcb
      refine lv_aload_n hx hb dX1_takeBack_39 rfl (lv_at hl 1 rfl) ?_
      refine lv_dup hx hb dX1_takeBack_40 rfl ?_
      refine va_get (D := (dC, dI)) (ci := 1) (v := .int (nI (bc (alv L) N))) (C := RX1) (T := TX1) (N := 8) hx hb hts (by decide +kernel) hown hK hP 0 rfl rfl 5 (by decide) (hts (.fieldLink RX1 38 "CountedOut$Ring" "left" "I") (by decide +kernel)) (fun _ h9 => h9) rfl dX1_takeBack_41 ?_
      refine lv_iconst (v := 1) hx hb dX1_takeBack_44 (by decide) ?_
      refine lv_iadd hx hb dX1_takeBack_45 ?_
      refine z_i (y := nI (bc (alv (bL L q0)) N)) (by rw [hcb]; exact nI_1 _) ?_
      refine va_put (D := (dC, dI)) (ci := 1) (v := .int (nI (bc (alv (bL L q0)) N))) (ty := .int) (C := RX1) (T := TX1) (N := 8) hx hb hts (by decide +kernel) tyX1 tyX1_ok nmX1 hown hK hP hD hS 0 rfl rfl 5 (by decide) (hts (.fieldLink RX1 38 "CountedOut$Ring" "left" "I") (by decide +kernel)) (fun _ h9 => h9) rfl (by decide +kernel) rfl rfl (Nat.le_of_ble_eq_true rfl) dX1_takeBack_46 (fun H locs hP hD hS => ?_)
      have hP : va_P (dC, dI) vwCl [(h2, .inr (1, [.ref a0, .ref a1, .ref a2, .ref a3, .int (nI N), .int (nI (bc (alv (bL L q0)) N)), .int (nI ah), .int (nI tl.length)])), (a0, .inl (cA, 40, .inl LA)), (a1, .inl (cA, 40, .inl WA)), (a2, .inl (cA, 200, .inl CA)), (a3, .inl (cA, 200, .inl AA))] H := hP
      have hD : va_D A [(h2, .inr (1, [.ref a0, .ref a1, .ref a2, .ref a3, .int (nI N), .int (nI (bc (alv (bL L q0)) N)), .int (nI ah), .int (nI tl.length)])), (a0, .inl (cA, 40, .inl LA)), (a1, .inl (cA, 40, .inl WA)), (a2, .inl (cA, 200, .inl CA)), (a3, .inl (cA, 200, .inl AA))] := hD
      refine lv_aload_n hx hb dX1_takeBack_49 rfl (lv_at hl 1 rfl) ?_
      refine va_get (D := (dC, dI)) (ci := 1) (v := .ref a1) (C := RX1) (T := TX1) (N := 8) hx hb hts (by decide +kernel) hown hK hP 0 rfl rfl 1 (by decide) (hts (.fieldLink RX1 15 "CountedOut$Ring" "wentAs" "[I") (by decide +kernel)) (fun _ h9 => h9) rfl dX1_takeBack_50 ?_
      refine lv_iload_n hx hb dX1_takeBack_53 rfl (lv_at hl 0 rfl) ?_
      refine lv_bipush (v := (-9)) hx hb dX1_takeBack_54 (by decide) ?_
      refine z_iast hx hb hK hP hD hS 2 0 rfl rfl (i := q0) (by omega) (by decide) dX1_takeBack_56 (fun H locs hP hD hS => ?_)
      have hP : va_P (dC, dI) vwCl [(h2, .inr (1, [.ref a0, .ref a1, .ref a2, .ref a3, .int (nI N), .int (nI (bc (alv (bL L q0)) N)), .int (nI ah), .int (nI tl.length)])), (a0, .inl (cA, 40, .inl LA)), (a1, .inl (cA, 40, .inl (upd WA q0 (-9)))), (a2, .inl (cA, 200, .inl CA)), (a3, .inl (cA, 200, .inl AA))] H := hP
      have hD : va_D A [(h2, .inr (1, [.ref a0, .ref a1, .ref a2, .ref a3, .int (nI N), .int (nI (bc (alv (bL L q0)) N)), .int (nI ah), .int (nI tl.length)])), (a0, .inl (cA, 40, .inl LA)), (a1, .inl (cA, 40, .inl (upd WA q0 (-9)))), (a2, .inl (cA, 200, .inl CA)), (a3, .inl (cA, 200, .inl AA))] := hD
      refine lv_aload_n hx hb dX1_takeBack_57 rfl (lv_at hl 1 rfl) ?_
      refine va_get (D := (dC, dI)) (ci := 1) (v := .ref a0) (C := RX1) (T := TX1) (N := 8) hx hb hts (by decide +kernel) hown hK hP 0 rfl rfl 0 (by decide) (hts (.fieldLink RX1 9 "CountedOut$Ring" "livesLeft" "[I") (by decide +kernel)) (fun _ h9 => h9) rfl dX1_takeBack_58 ?_
      refine lv_iload_n hx hb dX1_takeBack_61 rfl (lv_at hl 0 rfl) ?_
      refine lv_dup2_11 hx hb dX1_takeBack_62 rfl rfl ?_
      refine z_iald hx hb hK hP 1 0 rfl rfl (i := q0) (by omega) (by decide) dX1_takeBack_63 ?_
      refine z_i (y := nI (L q0)) (hR.1 _ hq1) ?_
      refine lv_iconst (v := 1) hx hb dX1_takeBack_64 (by decide) ?_
      refine lv_iadd hx hb dX1_takeBack_65 ?_
      refine z_i (y := nI (L q0 + 1)) (nI_1 _) ?_
      refine z_iast hx hb hK hP hD hS 1 0 rfl rfl (i := q0) (by omega) (by decide) dX1_takeBack_66 (fun H locs hP hD hS => ?_)
      have hP : va_P (dC, dI) vwCl [(h2, .inr (1, [.ref a0, .ref a1, .ref a2, .ref a3, .int (nI N), .int (nI (bc (alv (bL L q0)) N)), .int (nI ah), .int (nI tl.length)])), (a0, .inl (cA, 40, .inl (upd LA q0 (nI (L q0 + 1))))), (a1, .inl (cA, 40, .inl (upd WA q0 (-9)))), (a2, .inl (cA, 200, .inl CA)), (a3, .inl (cA, 200, .inl AA))] H := hP
      have hD : va_D A [(h2, .inr (1, [.ref a0, .ref a1, .ref a2, .ref a3, .int (nI N), .int (nI (bc (alv (bL L q0)) N)), .int (nI ah), .int (nI tl.length)])), (a0, .inl (cA, 40, .inl (upd LA q0 (nI (L q0 + 1))))), (a1, .inl (cA, 40, .inl (upd WA q0 (-9)))), (a2, .inl (cA, 200, .inl CA)), (a3, .inl (cA, 200, .inl AA))] := hD
      refine lv_aload_n hx hb dX1_takeBack_67 rfl (lv_at hl 1 rfl) ?_
      refine lv_aload_n hx hb dX1_takeBack_68 rfl (lv_at hl 1 rfl) ?_
      refine va_get (D := (dC, dI)) (ci := 1) (v := .ref a3) (C := RX1) (T := TX1) (N := 8) hx hb hts (by decide +kernel) hown hK hP 0 rfl rfl 3 (by decide) (hts (.fieldLink RX1 21 "CountedOut$Ring" "loggedAhead" "[I") (by decide +kernel)) (fun _ h9 => h9) rfl dX1_takeBack_69 ?_
      refine lv_aload_n hx hb dX1_takeBack_72 rfl (lv_at hl 1 rfl) ?_
      refine va_get (D := (dC, dI)) (ci := 1) (v := .int (nI tl.length)) (C := RX1) (T := TX1) (N := 8) hx hb hts (by decide +kernel) hown hK hP 0 rfl rfl 7 (by decide) (hts (.fieldLink RX1 44 "CountedOut$Ring" "done" "I") (by decide +kernel)) (fun _ h9 => h9) rfl dX1_takeBack_73 ?_
      refine z_iald hx hb hK hP 4 0 rfl rfl (i := tl.length) (by omega) (by decide) dX1_takeBack_76 ?_
      refine z_i (y := nI b0) (hR.2.2.2.1) ?_
      refine va_put (D := (dC, dI)) (ci := 1) (v := .int (nI b0)) (ty := .int) (C := RX1) (T := TX1) (N := 8) hx hb hts (by decide +kernel) tyX1 tyX1_ok nmX1 hown hK hP hD hS 0 rfl rfl 6 (by decide) (hts (.fieldLink RX1 41 "CountedOut$Ring" "ahead" "I") (by decide +kernel)) (fun _ h9 => h9) rfl (by decide +kernel) rfl rfl (Nat.le_of_ble_eq_true rfl) dX1_takeBack_77 (fun H locs hP hD hS => ?_)
      have hP : va_P (dC, dI) vwCl [(h2, .inr (1, [.ref a0, .ref a1, .ref a2, .ref a3, .int (nI N), .int (nI (bc (alv (bL L q0)) N)), .int (nI b0), .int (nI tl.length)])), (a0, .inl (cA, 40, .inl (upd LA q0 (nI (L q0 + 1))))), (a1, .inl (cA, 40, .inl (upd WA q0 (-9)))), (a2, .inl (cA, 200, .inl CA)), (a3, .inl (cA, 200, .inl AA))] H := hP
      have hD : va_D A [(h2, .inr (1, [.ref a0, .ref a1, .ref a2, .ref a3, .int (nI N), .int (nI (bc (alv (bL L q0)) N)), .int (nI b0), .int (nI tl.length)])), (a0, .inl (cA, 40, .inl (upd LA q0 (nI (L q0 + 1))))), (a1, .inl (cA, 40, .inl (upd WA q0 (-9)))), (a2, .inl (cA, 200, .inl CA)), (a3, .inl (cA, 200, .inl AA))] := hD
      refine lv_iconst (v := 1) hx hb dX1_takeBack_80 (by decide) ?_
      have hP9 := hP.sub (ws' := [(h2, .inr (1, [.ref a0, .ref a1, .ref a2, .ref a3, .int (nI N), .int (nI (bc (alv (bL L q0)) N)), .int (nI b0), .int (nI tl.length)])), (a0, .inl (cA, 40, .inl (upd LA q0 (nI (L q0 + 1))))), (a1, .inl (cA, 40, .inl (upd WA q0 (-9)))), (a2, .inl (cA, 200, .inl CA)), (a3, .inl (cA, 200, .inl AA))]) [0, 1, 2, 3, 4] rfl
      have hD9 := hD.sub (ws' := [(h2, .inr (1, [.ref a0, .ref a1, .ref a2, .ref a3, .int (nI N), .int (nI (bc (alv (bL L q0)) N)), .int (nI b0), .int (nI tl.length)])), (a0, .inl (cA, 40, .inl (upd LA q0 (nI (L q0 + 1))))), (a1, .inl (cA, 40, .inl (upd WA q0 (-9)))), (a2, .inl (cA, 200, .inl CA)), (a3, .inl (cA, 200, .inl AA))]) [0, 1, 2, 3, 4] (by decide) rfl
      exact W.zret (v := 1) hx hb hr (rfl) (fun t ht hW => ⟨⟨_, ((tl, bL L q0, bW Wn q0, b0), _, _, _, _), rfl, ⟨rfl, rfl, RX_back hR (back_W2)⟩, ⟨by rw [ht]; exact hP9, va_K.moved hW.alike hK, hD9⟩⟩, hS.F ht⟩) hS.2.2 dX1_takeBack_81
  · obtain rfl : lg = [] := by cases lg with | nil => rfl | cons x tl => exact absurd ((nI_leI (a := 1) (by omega) (by omega)).mpr (by show 1 ≤ tl.length + 1; omega)) c_5
    refine lv_iconst (v := 0) hx hb dX1_takeBack_8 (by decide) ?_
    have hP9 := hP.sub (ws' := [(h2, .inr (1, [.ref a0, .ref a1, .ref a2, .ref a3, .int (nI N), .int (nI (bc (alv L) N)), .int (nI ah), .int (nI ([] : List (Nat × Nat)).length)])), (a0, .inl (cA, 40, .inl LA)), (a1, .inl (cA, 40, .inl WA)), (a2, .inl (cA, 200, .inl CA)), (a3, .inl (cA, 200, .inl AA))]) [0, 1, 2, 3, 4] rfl
    have hD9 := hD.sub (ws' := [(h2, .inr (1, [.ref a0, .ref a1, .ref a2, .ref a3, .int (nI N), .int (nI (bc (alv L) N)), .int (nI ah), .int (nI ([] : List (Nat × Nat)).length)])), (a0, .inl (cA, 40, .inl LA)), (a1, .inl (cA, 40, .inl WA)), (a2, .inl (cA, 200, .inl CA)), (a3, .inl (cA, 200, .inl AA))]) [0, 1, 2, 3, 4] (by decide) rfl
    exact W.zret (v := 0) hx hb hr (rfl) (fun t ht hW => ⟨⟨_, (([], L, Wn, ah), LA, WA, CA, AA), rfl, ⟨rfl, rfl, hR⟩, ⟨by rw [ht]; exact hP9, va_K.moved hW.alike hK, hD9⟩⟩, hS.F ht⟩) hS.2.2 dX1_takeBack_9

set_option maxHeartbeats 4000000 in
set_option maxRecDepth 100000 in
theorem c_X1_latestCounted (l : Launch) (dC : Nat → ClassId) (dI : Nat → Nat → Nat) (cA : ClassId) (h2 a0 a1 a2 a3 : Nat) (lg : List (Nat × Nat)) (hlen : lg.length < 200) (sz0 lf av : Int32) (CA AA : Nat → Int32) (hR : LR lg CA AA) (L Wn : Nat → Nat) (ah : Nat) : Met l yX1_latestCounted wsX1_latestCounted ({ frames := 0, cells := 0, slots := 0, locals := 0 }) (va_Pc [.ref h2] (fun U => va_P (dC, dI) vwCl [(h2, .inr (1, [.ref a0, .ref a1, .ref a2, .ref a3, .int sz0, .int lf, .int av, .int (nI lg.length)])), (a2, .inl (cA, 200, .inl CA))] U.heap ∧ va_K (dC, dI) vwCl [(cA, .int)] U)) (vp_Si (fun r => r = lcI (lg, L, Wn, ah))) 0 0 (fun _ => False) := by
  refine Met.ofW (cc := cX1_latestCounted) (maxL := 1) (ret := (some .int)) (by decide) rfl ?_
  intro p e s m args below meth c s₁ B hml hv
  obtain ⟨rfl, hP, hK⟩ := hv
  have hx := B.exec
  have hb := B.bytes
  have hr := B.returns
  have hts := atoms_spec (ws := wsX1_latestCounted) B.pre
  have hown : s.vm.findClass RX1 = some m.cls := findClass_of_methodNamed B.named
  have hlocks := B.notSynchronized
  have hl := lv_entry ([.ref h2]) (n := 1) (Nat.le_of_ble_eq_true rfl)
  rw [lg_entry_eq]
  generalize (lg_sl ([.ref h2]) ++ List.replicate (1 - (lg_sl ([.ref h2])).length) Slot.unset).toArray = ls at hl ⊢
  have hl : lv_has ls 1 [(0, .ref h2)] := hl
  refine lv_aload_n hx hb dX1_latestCounted_0 rfl (lv_at hl 0 rfl) ?_
  refine va_get (D := (dC, dI)) (ci := 1) (v := .int (nI lg.length)) (C := RX1) (T := TX1) (N := 8) hx hb hts (by decide +kernel) hown hK hP 0 rfl rfl 7 (by decide) (hts (.fieldLink RX1 44 "CountedOut$Ring" "done" "I") (by decide +kernel)) (fun _ h9 => h9) rfl dX1_latestCounted_1 ?_
  refine lv_iconst (v := 1) hx hb dX1_latestCounted_4 (by decide) ?_
  refine lv_icmp_ge (tgt := 13) hx hb dX1_latestCounted_5 (by decide) (fun c_5 => ?_) (fun c_5 => ?_)
  · obtain ⟨q0, b0, tl, rfl⟩ : ∃ q0 b0 tl, lg = (q0, b0) :: tl := by cases lg with | nil => exact absurd c_5 (by decide) | cons x tl => exact ⟨x.1, x.2, tl, rfl⟩
    refine lv_aload_n hx hb dX1_latestCounted_13 rfl (lv_at hl 0 rfl) ?_
    refine va_get (D := (dC, dI)) (ci := 1) (v := .ref a2) (C := RX1) (T := TX1) (N := 8) hx hb hts (by decide +kernel) hown hK hP 0 rfl rfl 2 (by decide) (hts (.fieldLink RX1 18 "CountedOut$Ring" "loggedCounted" "[I") (by decide +kernel)) (fun _ h9 => h9) rfl dX1_latestCounted_14 ?_
    refine lv_aload_n hx hb dX1_latestCounted_17 rfl (lv_at hl 0 rfl) ?_
    refine va_get (D := (dC, dI)) (ci := 1) (v := .int (nI ((q0, b0) :: tl).length)) (C := RX1) (T := TX1) (N := 8) hx hb hts (by decide +kernel) hown hK hP 0 rfl rfl 7 (by decide) (hts (.fieldLink RX1 44 "CountedOut$Ring" "done" "I") (by decide +kernel)) (fun _ h9 => h9) rfl dX1_latestCounted_18 ?_
    refine lv_iconst (v := 1) hx hb dX1_latestCounted_21 (by decide) ?_
    refine lv_isub hx hb dX1_latestCounted_22 ?_
    refine z_i (y := nI tl.length) (nI_pred tl.length) ?_
    refine z_iald hx hb hK hP 1 0 rfl rfl (i := tl.length) (by have : tl.length + 1 < 200 := hlen; omega) (by decide) dX1_latestCounted_23 ?_
    refine z_i (y := nI q0) (hR.1) ?_
    exact W.iret (v := nI q0) hx hb hr (fun t ht hW => ⟨_, rfl, rfl, ht⟩) (fun _ h => absurd h List.not_mem_nil) dX1_latestCounted_24
  · obtain rfl : lg = [] := by cases lg with | nil => rfl | cons x tl => exact absurd ((nI_leI (a := 1) (by omega) (by omega)).mpr (by show 1 ≤ tl.length + 1; omega)) c_5
    refine lv_bipush (v := (-9)) hx hb dX1_latestCounted_8 (by decide) ?_
    refine lv_goto (tgt := 24) hx hb dX1_latestCounted_10 (by decide) ?_
    exact W.iret (v := (-9)) hx hb hr (fun t ht hW => ⟨_, rfl, rfl, ht⟩) (fun _ h => absurd h List.not_mem_nil) dX1_latestCounted_24

set_option maxHeartbeats 4000000 in
set_option maxRecDepth 100000 in
theorem c_X1_latestOut (l : Launch) (dC : Nat → ClassId) (dI : Nat → Nat → Nat) (cA : ClassId) (h2 a0 a1 a2 a3 : Nat) (N : Nat) (hN : N ≤ 40) (Wn : Nat → Nat) (WA : Nat → Int32) (hWA : ∀ p, p < N → WA p = wI (Wn p)) (hW40 : ∀ p, p < N → Wn p ≤ 40) (cn : Nat) (hcn : cn ≤ N) (av dv : Int32) : Met l yX1_latestOut wsX1_latestOut ({ frames := 0, cells := 0, slots := 0, locals := 0 }) (va_Pc [.ref h2] (fun U => va_P (dC, dI) vwCl [(h2, .inr (1, [.ref a0, .ref a1, .ref a2, .ref a3, .int (nI N), .int (nI cn), .int av, .int dv])), (a1, .inl (cA, 40, .inl WA))] U.heap ∧ va_K (dC, dI) vwCl [(cA, .int)] U)) (vp_Si (fun r => r = lo N Wn (N - cn) N 0)) 0 0 (fun _ => False) := by
  refine Met.ofW (cc := cX1_latestOut) (maxL := 2) (ret := (some .int)) (by decide) rfl ?_
  intro p e s m args below meth c s₁ B hml hv
  obtain ⟨rfl, hP, hK⟩ := hv
  have hx := B.exec
  have hb := B.bytes
  have hr := B.returns
  have hts := atoms_spec (ws := wsX1_latestOut) B.pre
  have hown : s.vm.findClass RX1 = some m.cls := findClass_of_methodNamed B.named
  have hlocks := B.notSynchronized
  have hl := lv_entry ([.ref h2]) (n := 2) (Nat.le_of_ble_eq_true rfl)
  rw [lg_entry_eq]
  generalize (lg_sl ([.ref h2]) ++ List.replicate (2 - (lg_sl ([.ref h2])).length) Slot.unset).toArray = ls at hl ⊢
  have hl : lv_has ls 2 [(0, .ref h2)] := hl
  refine lv_iconst (v := 0) hx hb dX1_latestOut_0 (by decide) ?_
  refine lv_istore_n (lv' := [(1, .int 0), (0, .ref h2)]) hx hb dX1_latestOut_1 rfl hl (by decide) rfl (fun ls hl => ?_)
  refine W_loopR (σ := Nat) (fun p0 ls => lv_has ls 2 [(0, .ref h2), (1, .int (nI p0))] ∧ p0 ≤ N ∧ lo N Wn (N - cn) (N - p0) p0 = lo N Wn (N - cn) N 0) (fun p0 => N - p0) ?_ 0 ⟨lv_sub hl [1, 0] rfl, by omega, rfl⟩
  rintro p0 ls ⟨hl, hp, hg⟩ ih_2
  refine lv_iload_n hx hb dX1_latestOut_2 rfl (lv_at hl 1 rfl) ?_
  refine lv_aload_n hx hb dX1_latestOut_3 rfl (lv_at hl 0 rfl) ?_
  refine va_get (D := (dC, dI)) (ci := 1) (v := .int (nI N)) (C := RX1) (T := TX1) (N := 8) hx hb hts (by decide +kernel) hown hK hP 0 rfl rfl 4 (by decide) (hts (.fieldLink RX1 34 "CountedOut$Ring" "size" "I") (by decide +kernel)) (fun _ h9 => h9) rfl dX1_latestOut_4 ?_
  refine lv_icmp_ge (tgt := 36) hx hb dX1_latestOut_7 (by decide) (fun c_7 => ?_) (fun c_7 => ?_)
  · have c_7 : N ≤ p0 := (nI_leI (a := N) (b := p0) (by omega) (by omega)).mp c_7
    refine lv_bipush (v := (-9)) hx hb dX1_latestOut_36 (by decide) ?_
    exact W.iret (v := (-9)) hx hb hr (fun t ht hW => ⟨_, rfl, by rw [← hg, show N - p0 = 0 by omega]; rfl, ht⟩) (fun _ h => absurd h List.not_mem_nil) dX1_latestOut_38
  · have c_7 : p0 < N := Nat.lt_of_not_le (fun h => c_7 ((nI_leI (a := N) (b := p0) (by omega) (by omega)).mpr h))
    refine lv_aload_n hx hb dX1_latestOut_10 rfl (lv_at hl 0 rfl) ?_
    refine va_get (D := (dC, dI)) (ci := 1) (v := .ref a1) (C := RX1) (T := TX1) (N := 8) hx hb hts (by decide +kernel) hown hK hP 0 rfl rfl 1 (by decide) (hts (.fieldLink RX1 15 "CountedOut$Ring" "wentAs" "[I") (by decide +kernel)) (fun _ h9 => h9) rfl dX1_latestOut_11 ?_
    refine lv_iload_n hx hb dX1_latestOut_14 rfl (lv_at hl 1 rfl) ?_
    refine z_iald hx hb hK hP 1 0 rfl rfl (i := p0) (by omega) (by decide) dX1_latestOut_15 ?_
    refine z_i (y := wI (Wn p0)) (hWA _ c_7) ?_
    refine lv_aload_n hx hb dX1_latestOut_16 rfl (lv_at hl 0 rfl) ?_
    refine va_get (D := (dC, dI)) (ci := 1) (v := .int (nI N)) (C := RX1) (T := TX1) (N := 8) hx hb hts (by decide +kernel) hown hK hP 0 rfl rfl 4 (by decide) (hts (.fieldLink RX1 34 "CountedOut$Ring" "size" "I") (by decide +kernel)) (fun _ h9 => h9) rfl dX1_latestOut_17 ?_
    refine lv_aload_n hx hb dX1_latestOut_20 rfl (lv_at hl 0 rfl) ?_
    refine va_get (D := (dC, dI)) (ci := 1) (v := .int (nI cn)) (C := RX1) (T := TX1) (N := 8) hx hb hts (by decide +kernel) hown hK hP 0 rfl rfl 5 (by decide) (hts (.fieldLink RX1 38 "CountedOut$Ring" "left" "I") (by decide +kernel)) (fun _ h9 => h9) rfl dX1_latestOut_21 ?_
    refine lv_isub hx hb dX1_latestOut_24 ?_
    refine z_i (y := nI (N - cn)) (pk_sub hcn) ?_
    refine lv_icmp_ne (tgt := 30) hx hb dX1_latestOut_25 (by decide) (fun c_25 => ?_) (fun c_25 => ?_)
    · have c_25 : ¬ (Wn p0 = N - cn ∧ 0 < N - cn) := fun h => c_25 ((wI_eq (hW40 _ c_7) (by omega)).mpr h)
      refine lv_iinc (v := nI (p0 + 1)) (lv' := [(1, .int (nI (p0 + 1))), (0, .ref h2)]) hx hb dX1_latestOut_30 hl (k := 1) rfl (nI_1 p0) (by decide) rfl (fun ls hl => ?_)
      refine lv_goto (tgt := 2) hx hb dX1_latestOut_33 (by decide) ?_
      exact ih_2 (p0 + 1) _ (by omega) ⟨lv_sub hl [1, 0] rfl, by omega, by rw [← hg, show N - p0 = (N - (p0 + 1)) + 1 by omega, lo, if_neg c_25]⟩
    · have c_25 : Wn p0 = N - cn ∧ 0 < N - cn := (wI_eq (hW40 _ c_7) (by omega)).mp c_25
      refine lv_iload_n hx hb dX1_latestOut_28 rfl (lv_at hl 1 rfl) ?_
      exact W.iret (v := nI p0) hx hb hr (fun t ht hW => ⟨_, rfl, by rw [← hg, show N - p0 = (N - (p0 + 1)) + 1 by omega, lo, if_pos c_25], ht⟩) (fun _ h => absurd h List.not_mem_nil) dX1_latestOut_29
end
