set_option maxHeartbeats 4000000 in
set_option maxRecDepth 100000 in
/-- THE LAW'S LOOP -/
theorem law_loop {p : Program} {l : Launch} {e : Env} {s : State} {m : MethodId} {below : List Frame} {meth : Method} {c : Code} {dC : Nat → ClassId} {dI : Nat → Nat → Nat} {b L : Nat} {xs : Nat → Int32} {A : Nat → Prop} {tt : Nat} {cA : ClassId} {x0 h1 h2 b0 a0 a1 a2 a3 m0 b3 b4 b5 b9 b11 b12 b14 b15 b16 : Nat} {ls : Array Slot} {H : Heap} {locs : List Loc} (hL : L ≤ 3584) (C0 : lw_At p s m meth c b L xs) (hA : ∀ q : Nat, s.heap.size ≤ q → A q) (hA2 : ∀ q : Nat, A q → s.heap.size ≤ q) (hZ : va_Z "CountedOut$Counts" "TOLLS" "[I" (.ref tt) A s s.heap) (hT : va_T .int tt 3 (fun j => .int (tollN j)) A s s.heap) (hK : va_K (dC, dI) vwCl [(cA, .int)] s) (h : LI s dC dI A b cA x0 h1 h2 b0 a0 a1 a2 a3 m0 b3 b4 b5 b9 b11 b12 b14 b15 b16 0 ls H locs) : W p l e room_1 s m #[Value.ref b] below meth c H locs 18 1094 (lw_Z below #[Value.ref b] s) (F0 m 18 ls []) := by
  obtain ⟨hx, hb, hr, hml, hown0, hts0, hX, hbl, hlocks, hgv⟩ := C0
  have hts : ∀ w ∈ wsL_law, w.before #[Value.ref b] s = true := fun w h => hts0 w (wsL_law_in w h)
  have hown : s.vm.findClass RL = some m.cls := hown0
  have hbA : ¬ A b := fun h => absurd (hA2 b h) (Nat.not_le.mpr hbl)
  refine W_loop (σ := Nat) (fun j ls H locs => 7 * j ≤ L ∧ LI s dC dI A b cA x0 h1 h2 b0 a0 a1 a2 a3 m0 b3 b4 b5 b9 b11 b12 b14 b15 b16 j ls H locs) (fun j => L + 7 - 7 * j) ?_ 0 ⟨Nat.zero_le _, h⟩
  rintro j ls H locs ⟨hjL, h⟩ ih
  obtain ⟨N, Bl, Z, st, kd, nw, wd, tr, LA, WA, CA, AA, WR, LV, LM, WM, CM, AM, VR, Rg, Mi, Fo, hG, hCS, hRX, hCX, hRM, hB, hCM, hl, hP, hD, hS⟩ := id h
  refine lv_iload_n hx hb dL_law_18 rfl (lv_at hl 3 rfl) ?_
  refine lv_aload_n hx hb dL_law_19 rfl (lv_at hl 0 rfl) ?_
  refine va_slen hx hb hX hbl hbA hS dL_law_20 ?_
  refine lv_bipush (v := 7) hx hb dL_law_21 (by decide) ?_
  refine lv_isub hx hb dL_law_23 ?_
  refine lv_icmp_gt (tgt := 865) hx hb dL_law_24 (by decide) (fun c_24 => ?_) (fun c_24 => ?_)
  · refine lv_iconst (v := 1) hx hb dL_law_865 (by decide) ?_
    refine va_forget (fun q hq => hA2 _ (hS.2.2 q hq)) ?_
    exact lw_ret hx hb hr hlocks dL_law_866
  · have hj : 7 * j + 7 ≤ L := by
      have h9 := mt (lt32 (nI L - nI 7) (nI (7 * j))).mpr c_24
      rw [pk_sub_toInt (by omega) (by omega), nI_toInt (by omega)] at h9
      omega
    refine lv_aload_n hx hb dL_law_27 rfl (lv_at hl 0 rfl) ?_
    refine lv_iload_n hx hb dL_law_28 rfl (lv_at hl 3 rfl) ?_
    refine z_sld hx hb hX hbl hbA hS (i := 7 * j) (by omega) (by omega) dL_law_29 ?_
    refine lv_bipush (v := 31) hx hb dL_law_30 (by decide) ?_
    refine lv_iand hx hb dL_law_32 ?_
    obtain ⟨k, hk, ek⟩ := pk_andE (xs (7 * j)) (m := 31) 5 (by decide)
    refine z_i (y := nI k) ek ?_
    have kk : ∀ (ls : Array Slot) (H : Heap) (locs : List Loc), LI s dC dI A b cA x0 h1 h2 b0 a0 a1 a2 a3 m0 b3 b4 b5 b9 b11 b12 b14 b15 b16 j ls H locs → W p l e room_1 s m #[Value.ref b] below meth c H locs 18 1094 (lw_Z below #[Value.ref b] s) (F0 m 859 ls []) := by
      intro ls H locs h
      obtain ⟨N, Bl, Z, st, kd, nw, wd, tr, LA, WA, CA, AA, WR, LV, LM, WM, CM, AM, VR, Rg, Mi, Fo, hG, hCS, hRX, hCX, hRM, hB, hCM, hl, hP, hD, hS⟩ := h
      refine lv_iinc (v := nI (7 * (j + 1))) (lv' := [(3, .int (nI (7 * (j + 1)))), (0, .ref b), (1, .ref x0), (2, .ref m0)]) hx hb dL_law_859 hl (k := 3) rfl (by rw [show 7 * (j + 1) = 7 * j + 7 by omega, ← nI_add]; rfl) (by decide) rfl (fun ls hl => ?_)
      refine lv_goto (tgt := 18) hx hb dL_law_862 (by decide) ?_
      exact ih (j + 1) _ _ _ (by show L + 7 - 7 * (j + 1) < L + 7 - 7 * j; omega) ⟨by omega, N, Bl, Z, st, kd, nw, wd, tr, LA, WA, CA, AA, WR, LV, LM, WM, CM, AM, VR, Rg, Mi, Fo, hG, hCS, hRX, hCX, hRM, hB, hCM, lv_sub hl [1, 2, 3, 0] rfl, hP, hD, hS⟩
    rcases (show k = 0 ∨ k = 1 ∨ k = 2 ∨ k = 3 ∨ k = 4 ∨ k = 5 ∨ k = 6 ∨ k = 7 ∨ k = 8 ∨ k = 9 ∨ k = 10 ∨ k = 11 ∨ k = 12 ∨ k = 13 ∨ k = 14 ∨ k = 15 ∨ k = 16 ∨ 17 ≤ k by omega) with rfl | rfl | rfl | rfl | rfl | rfl | rfl | rfl | rfl | rfl | rfl | rfl | rfl | rfl | rfl | rfl | rfl | h17
    · refine lv_tableIn (off := 83) (tgt := 116) hx hb dL_law_33 (by decide) (by decide) rfl (by decide) ?_
      exact law_goes hL hj hx hb hml hown hts hX hbl hbA hA hZ hT hK h kk
    · refine lv_tableIn (off := 187) (tgt := 220) hx hb dL_law_33 (by decide) (by decide) rfl (by decide) ?_
      exact law_turn hL hj hx hb hml hown hts hX hbl hbA hA hZ hT hK h kk
    · refine lv_tableIn (off := 291) (tgt := 324) hx hb dL_law_33 (by decide) (by decide) rfl (by decide) ?_
      exact law_last hL hj hx hb hml hown hts hX hbl hbA hA hZ hT hK h kk
    · refine lv_tableIn (off := 355) (tgt := 388) hx hb dL_law_33 (by decide) (by decide) rfl (by decide) ?_
      exact law_first hL hj hx hb hml hown hts hX hbl hbA hA hZ hT hK h kk
    · refine lv_tableIn (off := 398) (tgt := 431) hx hb dL_law_33 (by decide) (by decide) rfl (by decide) ?_
      exact law_least hL hj hx hb hml hown hts hX hbl hbA hA hZ hT hK h kk
    · refine lv_tableIn (off := 431) (tgt := 464) hx hb dL_law_33 (by decide) (by decide) rfl (by decide) ?_
      exact law_ring hL hj hx hb hml hown hts hX hbl hbA hA hZ hT hK h kk
    · refine lv_tableIn (off := 454) (tgt := 487) hx hb dL_law_33 (by decide) (by decide) rfl (by decide) ?_
      exact law_lives hL hj hx hb hml hown hts hX hbl hbA hA hZ hT hK h kk
    · refine lv_tableIn (off := 487) (tgt := 520) hx hb dL_law_33 (by decide) (by decide) rfl (by decide) ?_
      exact law_set hL hj hx hb hml hown hts hX hbl hbA hA hZ hT hK h kk
    · refine lv_tableIn (off := 520) (tgt := 553) hx hb dL_law_33 (by decide) (by decide) rfl (by decide) ?_
      exact law_words hL hj hx hb hml hown hts hX hbl hbA hA hZ hT hK h kk
    · refine lv_tableIn (off := 611) (tgt := 644) hx hb dL_law_33 (by decide) (by decide) rfl (by decide) ?_
      exact law_count hL hj hx hb hml hown hts hX hbl hbA hA hZ hT hK h kk
    · refine lv_tableIn (off := 634) (tgt := 667) hx hb dL_law_33 (by decide) (by decide) rfl (by decide) ?_
      exact law_turns hL hj hx hb hml hown hts hX hbl hbA hA hZ hT hK h kk
    · refine lv_tableIn (off := 657) (tgt := 690) hx hb dL_law_33 (by decide) (by decide) rfl (by decide) ?_
      exact law_back hL hj hx hb hml hown hts hX hbl hbA hA hZ hT hK h kk
    · refine lv_tableIn (off := 680) (tgt := 713) hx hb dL_law_33 (by decide) (by decide) rfl (by decide) ?_
      exact law_about hL hj hx hb hml hown hts hX hbl hbA hA hZ hT hK h kk
    · refine lv_tableIn (off := 713) (tgt := 746) hx hb dL_law_33 (by decide) (by decide) rfl (by decide) ?_
      exact law_told hL hj hx hb hml hown hts hX hbl hbA hA hZ hT hK h kk
    · refine lv_tableIn (off := 736) (tgt := 769) hx hb dL_law_33 (by decide) (by decide) rfl (by decide) ?_
      exact law_may hL hj hx hb hml hown hts hX hbl hbA hA hZ hT hK h kk
    · refine lv_tableIn (off := 769) (tgt := 802) hx hb dL_law_33 (by decide) (by decide) rfl (by decide) ?_
      exact law_can hL hj hx hb hml hown hts hX hbl hbA hA hZ hT hK h kk
    · refine lv_tableIn (off := 812) (tgt := 845) hx hb dL_law_33 (by decide) (by decide) rfl (by decide) ?_
      exact law_trace hL hj hx hb hml hown hts hX hbl hbA hA hZ hT hK h kk
    · refine lv_tableOut (tgt := 859) hx hb dL_law_33 (Or.inr (by rw [nI_toInt (by omega)]; omega)) (by decide) ?_
      exact kk ls H locs h
