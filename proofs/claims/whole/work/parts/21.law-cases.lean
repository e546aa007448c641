set_option maxHeartbeats 4000000 in
set_option maxRecDepth 100000 in
theorem law_goes {p : Program} {l : Launch} {e : Env} {s : State} {m : MethodId} {below : List Frame} {meth : Method} {c : Code} {dC : Nat → ClassId} {dI : Nat → Nat → Nat} {b L : Nat} {xs : Nat → Int32} {A : Nat → Prop} {tt : Nat} {cA : ClassId} {x0 h1 h2 b0 a0 a1 a2 a3 m0 b3 b4 b5 b9 b11 b12 b14 b15 b16 j : Nat} {Q : State → Prop} {ls : Array Slot} {H : Heap} {locs : List Loc} (hL : L ≤ 3584) (hj : 7 * j + 7 ≤ L) (hx : p.tables.exec = Jvm.exec) (hb : c.code = code) (hml : c.maxLocals = 4) (hown : s.vm.findClass RL = some m.cls) (hts : ∀ w ∈ wsL_law, w.before #[Value.ref b] s = true) (hX : va_X b L xs s s.heap) (hbl : b < s.heap.size) (hbA : ¬ A b) (hA : ∀ q : Nat, s.heap.size ≤ q → A q) (hZ : va_Z "CountedOut$Counts" "TOLLS" "[I" (.ref tt) A s s.heap) (hT : va_T .int tt 3 (fun j => .int (tollN j)) A s s.heap) (hK : va_K (dC, dI) vwCl [(cA, .int)] s) (h : LI s dC dI A b cA x0 h1 h2 b0 a0 a1 a2 a3 m0 b3 b4 b5 b9 b11 b12 b14 b15 b16 j ls H locs) (kk : ∀ (ls : Array Slot) (H : Heap) (locs : List Loc), LI s dC dI A b cA x0 h1 h2 b0 a0 a1 a2 a3 m0 b3 b4 b5 b9 b11 b12 b14 b15 b16 j ls H locs → W p l e room_1 s m #[Value.ref b] below meth c H locs 18 1094 Q (F0 m 859 ls [])) : W p l e room_1 s m #[Value.ref b] below meth c H locs 18 1094 Q (F0 m 116 ls []) := by
  obtain ⟨N, Bl, Z, st, kd, nw, wd, tr, LA, WA, CA, AA, WR, LV, LM, WM, CM, AM, VR, Rg, Mi, Fo, hG, hCS, hRX, hCX, hRM, hB, hCM, hl, hP, hD, hS⟩ := h
  refine lv_aload_n hx hb dL_law_116 rfl (lv_at hl 1 rfl) ?_
  refine lv_aload_n hx hb dL_law_117 rfl (lv_at hl 0 rfl) ?_
  refine lv_iload_n hx hb dL_law_118 rfl (lv_at hl 3 rfl) ?_
  refine lv_iconst (v := 1) hx hb dL_law_119 (by decide) ?_
  refine lv_iadd hx hb dL_law_120 ?_
  refine z_i2 (y := nI (7 * j + 1)) (nI_add _ _) ?_
  refine z_sld hx hb hX hbl hbA hS (i := (7 * j + 1)) (by omega) (by omega) dL_law_121 ?_
  refine lv_i2l (v := (xs (7 * j + 1)).toInt64) hx hb dL_law_122 rfl ?_
  refine lv_bipush (v := 32) hx hb dL_law_123 (by decide) ?_
  refine lv_lshl (v := ((xs (7 * j + 1)).toInt64) <<< ((32 : Int32).toInt64 &&& 63)) hx hb dL_law_125 rfl ?_
  refine lv_aload_n hx hb dL_law_126 rfl (lv_at hl 0 rfl) ?_
  refine lv_iload_n hx hb dL_law_127 rfl (lv_at hl 3 rfl) ?_
  refine lv_iconst (v := 2) hx hb dL_law_128 (by decide) ?_
  refine lv_iadd hx hb dL_law_129 ?_
  refine z_i2 (y := nI (7 * j + 2)) (nI_add _ _) ?_
  refine z_sld hx hb hX hbl hbA hS (i := (7 * j + 2)) (by omega) (by omega) dL_law_130 ?_
  refine lv_i2l (v := (xs (7 * j + 2)).toInt64) hx hb dL_law_131 rfl ?_
  refine lv_ldc2 (v := 4294967295) hx hb hown (hts (.constantLong RL 13 (4294967295)) (by decide +kernel)) dL_law_132 ?_
  refine lv_land hx hb dL_law_135 ?_
  refine lv_lor hx hb dL_law_136 ?_
  refine lv_aload_n hx hb dL_law_137 rfl (lv_at hl 0 rfl) ?_
  refine lv_iload_n hx hb dL_law_138 rfl (lv_at hl 3 rfl) ?_
  refine lv_iconst (v := 3) hx hb dL_law_139 (by decide) ?_
  refine lv_iadd hx hb dL_law_140 ?_
  refine z_i2 (y := nI (7 * j + 3)) (nI_add _ _) ?_
  refine z_sld hx hb hX hbl hbA hS (i := (7 * j + 3)) (by omega) (by omega) dL_law_141 ?_
  refine lv_aload_n hx hb dL_law_142 rfl (lv_at hl 0 rfl) ?_
  refine lv_iload_n hx hb dL_law_143 rfl (lv_at hl 3 rfl) ?_
  refine lv_iconst (v := 4) hx hb dL_law_144 (by decide) ?_
  refine lv_iadd hx hb dL_law_145 ?_
  refine z_i2 (y := nI (7 * j + 4)) (nI_add _ _) ?_
  refine z_sld hx hb hX hbl hbA hS (i := (7 * j + 4)) (by omega) (by omega) dL_law_146 ?_
  refine lv_i2l (v := (xs (7 * j + 4)).toInt64) hx hb dL_law_147 rfl ?_
  refine lv_bipush (v := 32) hx hb dL_law_148 (by decide) ?_
  refine lv_lshl (v := ((xs (7 * j + 4)).toInt64) <<< ((32 : Int32).toInt64 &&& 63)) hx hb dL_law_150 rfl ?_
  refine lv_aload_n hx hb dL_law_151 rfl (lv_at hl 0 rfl) ?_
  refine lv_iload_n hx hb dL_law_152 rfl (lv_at hl 3 rfl) ?_
  refine lv_iconst (v := 5) hx hb dL_law_153 (by decide) ?_
  refine lv_iadd hx hb dL_law_154 ?_
  refine z_i2 (y := nI (7 * j + 5)) (nI_add _ _) ?_
  refine z_sld hx hb hX hbl hbA hS (i := (7 * j + 5)) (by omega) (by omega) dL_law_155 ?_
  refine lv_i2l (v := (xs (7 * j + 5)).toInt64) hx hb dL_law_156 rfl ?_
  refine lv_ldc2 (v := 4294967295) hx hb hown (hts (.constantLong RL 13 (4294967295)) (by decide +kernel)) dL_law_157 ?_
  refine lv_land hx hb dL_law_160 ?_
  refine lv_lor hx hb dL_law_161 ?_
  refine vp_callSl (va_Run.run (va_runV (As := [.long ((((xs (7 * j + 1)).toInt64) <<< ((32 : Int32).toInt64 &&& 63)) ||| (((xs (7 * j + 2)).toInt64) &&& 4294967295)), .int (xs (7 * j + 3)), .long ((((xs (7 * j + 4)).toInt64) <<< ((32 : Int32).toInt64 &&& 63)) ||| (((xs (7 * j + 5)).toInt64) &&& 4294967295))]) (rest := []) ⟨hx, hb, hml, hown, hts⟩ (c_X2_goes l dC dI x0 ((((xs (7 * j + 1)).toInt64) <<< ((32 : Int32).toInt64 &&& 63)) ||| (((xs (7 * j + 2)).toInt64) &&& 4294967295)) (xs (7 * j + 3)) ((((xs (7 * j + 4)).toInt64) <<< ((32 : Int32).toInt64 &&& 63)) ||| (((xs (7 * j + 5)).toInt64) &&& 4294967295))) (cwV 3 hts gL_law_X2_goes rfl rfl rfl (by decide +kernel) ⟨Nat.le_of_ble_eq_true rfl, Nat.le_of_ble_eq_true rfl⟩) ⟨fun a U g mk q => ⟨q.1, trivial⟩, va_recv hK hP (ci := 2) (q0 := 0) rfl rfl, fun U hU hW => ⟨rfl, trivial⟩⟩ rfl rfl hl.1 rfl (lv_room (Nat.le_of_ble_eq_true rfl)) dL_law_162 ⟨Nat.le_of_ble_eq_true rfl, Nat.le_of_ble_eq_true rfl⟩)) (fun r_162 hr_162 => ?_)
  subst hr_162
  refine lv_aload_n hx hb dL_law_165 rfl (lv_at hl 2 rfl) ?_
  refine lv_aload_n hx hb dL_law_166 rfl (lv_at hl 0 rfl) ?_
  refine lv_iload_n hx hb dL_law_167 rfl (lv_at hl 3 rfl) ?_
  refine lv_iconst (v := 1) hx hb dL_law_168 (by decide) ?_
  refine lv_iadd hx hb dL_law_169 ?_
  refine z_i2 (y := nI (7 * j + 1)) (nI_add _ _) ?_
  refine z_sld hx hb hX hbl hbA hS (i := (7 * j + 1)) (by omega) (by omega) dL_law_170 ?_
  refine lv_i2l (v := (xs (7 * j + 1)).toInt64) hx hb dL_law_171 rfl ?_
  refine lv_bipush (v := 32) hx hb dL_law_172 (by decide) ?_
  refine lv_lshl (v := ((xs (7 * j + 1)).toInt64) <<< ((32 : Int32).toInt64 &&& 63)) hx hb dL_law_174 rfl ?_
  refine lv_aload_n hx hb dL_law_175 rfl (lv_at hl 0 rfl) ?_
  refine lv_iload_n hx hb dL_law_176 rfl (lv_at hl 3 rfl) ?_
  refine lv_iconst (v := 2) hx hb dL_law_177 (by decide) ?_
  refine lv_iadd hx hb dL_law_178 ?_
  refine z_i2 (y := nI (7 * j + 2)) (nI_add _ _) ?_
  refine z_sld hx hb hX hbl hbA hS (i := (7 * j + 2)) (by omega) (by omega) dL_law_179 ?_
  refine lv_i2l (v := (xs (7 * j + 2)).toInt64) hx hb dL_law_180 rfl ?_
  refine lv_ldc2 (v := 4294967295) hx hb hown (hts (.constantLong RL 13 (4294967295)) (by decide +kernel)) dL_law_181 ?_
  refine lv_land hx hb dL_law_184 ?_
  refine lv_lor hx hb dL_law_185 ?_
  refine lv_aload_n hx hb dL_law_186 rfl (lv_at hl 0 rfl) ?_
  refine lv_iload_n hx hb dL_law_187 rfl (lv_at hl 3 rfl) ?_
  refine lv_iconst (v := 3) hx hb dL_law_188 (by decide) ?_
  refine lv_iadd hx hb dL_law_189 ?_
  refine z_i2 (y := nI (7 * j + 3)) (nI_add _ _) ?_
  refine z_sld hx hb hX hbl hbA hS (i := (7 * j + 3)) (by omega) (by omega) dL_law_190 ?_
  refine lv_aload_n hx hb dL_law_191 rfl (lv_at hl 0 rfl) ?_
  refine lv_iload_n hx hb dL_law_192 rfl (lv_at hl 3 rfl) ?_
  refine lv_iconst (v := 4) hx hb dL_law_193 (by decide) ?_
  refine lv_iadd hx hb dL_law_194 ?_
  refine z_i2 (y := nI (7 * j + 4)) (nI_add _ _) ?_
  refine z_sld hx hb hX hbl hbA hS (i := (7 * j + 4)) (by omega) (by omega) dL_law_195 ?_
  refine lv_i2l (v := (xs (7 * j + 4)).toInt64) hx hb dL_law_196 rfl ?_
  refine lv_bipush (v := 32) hx hb dL_law_197 (by decide) ?_
  refine lv_lshl (v := ((xs (7 * j + 4)).toInt64) <<< ((32 : Int32).toInt64 &&& 63)) hx hb dL_law_199 rfl ?_
  refine lv_aload_n hx hb dL_law_200 rfl (lv_at hl 0 rfl) ?_
  refine lv_iload_n hx hb dL_law_201 rfl (lv_at hl 3 rfl) ?_
  refine lv_iconst (v := 5) hx hb dL_law_202 (by decide) ?_
  refine lv_iadd hx hb dL_law_203 ?_
  refine z_i2 (y := nI (7 * j + 5)) (nI_add _ _) ?_
  refine z_sld hx hb hX hbl hbA hS (i := (7 * j + 5)) (by omega) (by omega) dL_law_204 ?_
  refine lv_i2l (v := (xs (7 * j + 5)).toInt64) hx hb dL_law_205 rfl ?_
  refine lv_ldc2 (v := 4294967295) hx hb hown (hts (.constantLong RL 13 (4294967295)) (by decide +kernel)) dL_law_206 ?_
  refine lv_land hx hb dL_law_209 ?_
  refine lv_lor hx hb dL_law_210 ?_
  have hPc := hP.sub (ws' := [(m0, .inr (3, [.int 0, .long tr, .int (nI N), .ref b3, .ref b4, .ref b5, .int (nI st), .int (nI kd), .int (nI nw), .ref b9, .int (nI Z.1.length), .ref b11, .ref b12, .int (nI Z.2.2.2), .ref b14, .ref b15, .ref b16]))]) [8] rfl
  have hDc := hD.sub (ws' := [(m0, .inr (3, [.int 0, .long tr, .int (nI N), .ref b3, .ref b4, .ref b5, .int (nI st), .int (nI kd), .int (nI nw), .ref b9, .int (nI Z.1.length), .ref b11, .ref b12, .int (nI Z.2.2.2), .ref b14, .ref b15, .ref b16]))]) [8] (by decide) rfl
  have hFc := va_free (wc := [(m0, .inr (3, [.int 0, .long tr, .int (nI N), .ref b3, .ref b4, .ref b5, .int (nI st), .int (nI kd), .int (nI nw), .ref b9, .int (nI Z.1.length), .ref b11, .ref b12, .int (nI Z.2.2.2), .ref b14, .ref b15, .ref b16]))]) hD hS hA [8] rfl
  refine va_calll (va_runV (As := [.long ((((xs (7 * j + 1)).toInt64) <<< ((32 : Int32).toInt64 &&& 63)) ||| (((xs (7 * j + 2)).toInt64) &&& 4294967295)), .int (xs (7 * j + 3)), .long ((((xs (7 * j + 4)).toInt64) <<< ((32 : Int32).toInt64 &&& 63)) ||| (((xs (7 * j + 5)).toInt64) &&& 4294967295))]) (rest := [.long (spGoes ((((xs (7 * j + 1)).toInt64) <<< ((32 : Int32).toInt64 &&& 63)) ||| (((xs (7 * j + 2)).toInt64) &&& 4294967295)) (xs (7 * j + 3)) ((((xs (7 * j + 4)).toInt64) <<< ((32 : Int32).toInt64 &&& 63)) ||| (((xs (7 * j + 5)).toInt64) &&& 4294967295)))]) ⟨hx, hb, hml, hown, hts⟩ (c_X3_goes l dC dI H.size cA m0 b3 b4 b5 b9 b11 b12 b14 b15 b16 tr (nI N) (nI st) (nI kd) (nI nw) (nI Z.1.length) (nI Z.2.2.2) ((((xs (7 * j + 1)).toInt64) <<< ((32 : Int32).toInt64 &&& 63)) ||| (((xs (7 * j + 2)).toInt64) &&& 4294967295)) (xs (7 * j + 3)) ((((xs (7 * j + 4)).toInt64) <<< ((32 : Int32).toInt64 &&& 63)) ||| (((xs (7 * j + 5)).toInt64) &&& 4294967295))) (cwV 3 hts gL_law_X3_goes rfl rfl rfl (by decide +kernel) ⟨Nat.le_of_ble_eq_true rfl, Nat.le_of_ble_eq_true rfl⟩) ⟨fun a U g mk q => by obtain ⟨q0, q1, qP, qK, qD⟩ := q; exact ⟨q0, q1, qP, va_K.moved (u := U) (U := U.calling g mk a) (Vm.Alike.refl U.vm) qK, qD⟩, va_recv hK hP (ci := 3) (q0 := 8) rfl rfl, fun U hU hW => ⟨rfl, by rw [hU], by rw [hU]; exact hPc, va_K.moved hW.alike hK, hDc.weaken (fun _ _ _ _ => trivial)⟩⟩ rfl rfl hl.1 rfl (lv_room (Nat.le_of_ble_eq_true rfl)) dL_law_211 ⟨Nat.le_of_ble_eq_true rfl, Nat.le_of_ble_eq_true rfl⟩) hS (fun q _ h => hFc q h) hFc (fun r_211 u_211 t_211 H1 locs ht_211 hvm_211 hw_211 hB_211 hz1 hk1 hS => ?_)
  obtain ⟨hP1, hK1, hD1⟩ := hB_211
  rw [ht_211] at hP1
  obtain ⟨hP, hD⟩ := va_join (wr := [(x0, .inr (2, [.ref h1, .ref h2, .long tr])), (h1, .inr (0, [.ref b0, .int (nI nw), .int (nI st), .int (nI kd)])), (b0, .inl (cA, 8, .inl WR)), (h2, .inr (1, [.ref a0, .ref a1, .ref a2, .ref a3, .int (nI N), .int (nI (bc (alv Z.2.1) N)), .int (nI Z.2.2.2), .int (nI Z.1.length)])), (a0, .inl (cA, 40, .inl LA)), (a1, .inl (cA, 40, .inl WA)), (a2, .inl (cA, 200, .inl CA)), (a3, .inl (cA, 200, .inl AA)), (b3, .inl (cA, 40, .inl LV)), (b4, .inl (cA, 40, .inl LM)), (b5, .inl (cA, 40, .inl WM)), (b9, .inl (cA, 8, .inl VR)), (b11, .inl (cA, 200, .inl CM)), (b12, .inl (cA, 200, .inl AM)), (b14, .inl (cA, 20, .inl Rg)), (b15, .inl (cA, 13, .inl Mi)), (b16, .inl (cA, 13, .inl Fo))]) (w1 := [(m0, .inr (3, [.int 0, .long tr, .int (nI N), .ref b3, .ref b4, .ref b5, .int (nI st), .int (nI kd), .int (nI nw), .ref b9, .int (nI Z.1.length), .ref b11, .ref b12, .int (nI Z.2.2.2), .ref b14, .ref b15, .ref b16]))]) hP hD [8] [0, 1, 2, 3, 4, 5, 6, 7, 9, 10, 11, 12, 13, 14, 15, 16, 17] rfl rfl (by decide) (by decide) hk1 hFc hP1 hD1
  generalize H1 = H at hP hS ⊢
  have hP := hP.sub (ws' := [(x0, .inr (2, [.ref h1, .ref h2, .long tr])), (h1, .inr (0, [.ref b0, .int (nI nw), .int (nI st), .int (nI kd)])), (b0, .inl (cA, 8, .inl WR)), (h2, .inr (1, [.ref a0, .ref a1, .ref a2, .ref a3, .int (nI N), .int (nI (bc (alv Z.2.1) N)), .int (nI Z.2.2.2), .int (nI Z.1.length)])), (a0, .inl (cA, 40, .inl LA)), (a1, .inl (cA, 40, .inl WA)), (a2, .inl (cA, 200, .inl CA)), (a3, .inl (cA, 200, .inl AA)), (m0, .inr (3, [.int 0, .long tr, .int (nI N), .ref b3, .ref b4, .ref b5, .int (nI st), .int (nI kd), .int (nI nw), .ref b9, .int (nI Z.1.length), .ref b11, .ref b12, .int (nI Z.2.2.2), .ref b14, .ref b15, .ref b16])), (b3, .inl (cA, 40, .inl LV)), (b4, .inl (cA, 40, .inl LM)), (b5, .inl (cA, 40, .inl WM)), (b9, .inl (cA, 8, .inl VR)), (b11, .inl (cA, 200, .inl CM)), (b12, .inl (cA, 200, .inl AM)), (b14, .inl (cA, 20, .inl Rg)), (b15, .inl (cA, 13, .inl Mi)), (b16, .inl (cA, 13, .inl Fo))]) [0, 1, 2, 3, 4, 5, 6, 7, 17, 8, 9, 10, 11, 12, 13, 14, 15, 16] rfl
  have hD := hD.sub (ws' := [(x0, .inr (2, [.ref h1, .ref h2, .long tr])), (h1, .inr (0, [.ref b0, .int (nI nw), .int (nI st), .int (nI kd)])), (b0, .inl (cA, 8, .inl WR)), (h2, .inr (1, [.ref a0, .ref a1, .ref a2, .ref a3, .int (nI N), .int (nI (bc (alv Z.2.1) N)), .int (nI Z.2.2.2), .int (nI Z.1.length)])), (a0, .inl (cA, 40, .inl LA)), (a1, .inl (cA, 40, .inl WA)), (a2, .inl (cA, 200, .inl CA)), (a3, .inl (cA, 200, .inl AA)), (m0, .inr (3, [.int 0, .long tr, .int (nI N), .ref b3, .ref b4, .ref b5, .int (nI st), .int (nI kd), .int (nI nw), .ref b9, .int (nI Z.1.length), .ref b11, .ref b12, .int (nI Z.2.2.2), .ref b14, .ref b15, .ref b16])), (b3, .inl (cA, 40, .inl LV)), (b4, .inl (cA, 40, .inl LM)), (b5, .inl (cA, 40, .inl WM)), (b9, .inl (cA, 8, .inl VR)), (b11, .inl (cA, 200, .inl CM)), (b12, .inl (cA, 200, .inl AM)), (b14, .inl (cA, 20, .inl Rg)), (b15, .inl (cA, 13, .inl Mi)), (b16, .inl (cA, 13, .inl Fo))]) [0, 1, 2, 3, 4, 5, 6, 7, 17, 8, 9, 10, 11, 12, 13, 14, 15, 16] (by decide) rfl
  subst hw_211
  refine W.lcmp hx hb dL_law_214 ?_
  refine lv_if_eq (tgt := 859) hx hb dL_law_215 (by decide) (fun c_215 => ?_) (fun c_215 => ?_)
  · exact kk ls _ _ ⟨N, Bl, Z, st, kd, nw, wd, tr, LA, WA, CA, AA, WR, LV, LM, WM, CM, AM, VR, Rg, Mi, Fo, hG, hCS, hRX, hCX, hRM, hB, hCM, lv_sub hl [0, 1, 2, 3] rfl, hP, hD, hS⟩
  · exact absurd ((lg_cmp_eq _ _).mpr rfl) c_215

set_option maxHeartbeats 4000000 in
set_option maxRecDepth 100000 in
theorem law_turn {p : Program} {l : Launch} {e : Env} {s : State} {m : MethodId} {below : List Frame} {meth : Method} {c : Code} {dC : Nat → ClassId} {dI : Nat → Nat → Nat} {b L : Nat} {xs : Nat → Int32} {A : Nat → Prop} {tt : Nat} {cA : ClassId} {x0 h1 h2 b0 a0 a1 a2 a3 m0 b3 b4 b5 b9 b11 b12 b14 b15 b16 j : Nat} {Q : State → Prop} {ls : Array Slot} {H : Heap} {locs : List Loc} (hL : L ≤ 3584) (hj : 7 * j + 7 ≤ L) (hx : p.tables.exec = Jvm.exec) (hb : c.code = code) (hml : c.maxLocals = 4) (hown : s.vm.findClass RL = some m.cls) (hts : ∀ w ∈ wsL_law, w.before #[Value.ref b] s = true) (hX : va_X b L xs s s.heap) (hbl : b < s.heap.size) (hbA : ¬ A b) (hA : ∀ q : Nat, s.heap.size ≤ q → A q) (hZ : va_Z "CountedOut$Counts" "TOLLS" "[I" (.ref tt) A s s.heap) (hT : va_T .int tt 3 (fun j => .int (tollN j)) A s s.heap) (hK : va_K (dC, dI) vwCl [(cA, .int)] s) (h : LI s dC dI A b cA x0 h1 h2 b0 a0 a1 a2 a3 m0 b3 b4 b5 b9 b11 b12 b14 b15 b16 j ls H locs) (kk : ∀ (ls : Array Slot) (H : Heap) (locs : List Loc), LI s dC dI A b cA x0 h1 h2 b0 a0 a1 a2 a3 m0 b3 b4 b5 b9 b11 b12 b14 b15 b16 j ls H locs → W p l e room_1 s m #[Value.ref b] below meth c H locs 18 1094 Q (F0 m 859 ls [])) : W p l e room_1 s m #[Value.ref b] below meth c H locs 18 1094 Q (F0 m 220 ls []) := by
  obtain ⟨N, Bl, Z, st, kd, nw, wd, tr, LA, WA, CA, AA, WR, LV, LM, WM, CM, AM, VR, Rg, Mi, Fo, hG, hCS, hRX, hCX, hRM, hB, hCM, hl, hP, hD, hS⟩ := h
  refine lv_aload_n hx hb dL_law_220 rfl (lv_at hl 1 rfl) ?_
  refine lv_aload_n hx hb dL_law_221 rfl (lv_at hl 0 rfl) ?_
  refine lv_iload_n hx hb dL_law_222 rfl (lv_at hl 3 rfl) ?_
  refine lv_iconst (v := 1) hx hb dL_law_223 (by decide) ?_
  refine lv_iadd hx hb dL_law_224 ?_
  refine z_i2 (y := nI (7 * j + 1)) (nI_add _ _) ?_
  refine z_sld hx hb hX hbl hbA hS (i := (7 * j + 1)) (by omega) (by omega) dL_law_225 ?_
  refine lv_i2l (v := (xs (7 * j + 1)).toInt64) hx hb dL_law_226 rfl ?_
  refine lv_bipush (v := 32) hx hb dL_law_227 (by decide) ?_
  refine lv_lshl (v := ((xs (7 * j + 1)).toInt64) <<< ((32 : Int32).toInt64 &&& 63)) hx hb dL_law_229 rfl ?_
  refine lv_aload_n hx hb dL_law_230 rfl (lv_at hl 0 rfl) ?_
  refine lv_iload_n hx hb dL_law_231 rfl (lv_at hl 3 rfl) ?_
  refine lv_iconst (v := 2) hx hb dL_law_232 (by decide) ?_
  refine lv_iadd hx hb dL_law_233 ?_
  refine z_i2 (y := nI (7 * j + 2)) (nI_add _ _) ?_
  refine z_sld hx hb hX hbl hbA hS (i := (7 * j + 2)) (by omega) (by omega) dL_law_234 ?_
  refine lv_i2l (v := (xs (7 * j + 2)).toInt64) hx hb dL_law_235 rfl ?_
  refine lv_ldc2 (v := 4294967295) hx hb hown (hts (.constantLong RL 13 (4294967295)) (by decide +kernel)) dL_law_236 ?_
  refine lv_land hx hb dL_law_239 ?_
  refine lv_lor hx hb dL_law_240 ?_
  refine lv_aload_n hx hb dL_law_241 rfl (lv_at hl 0 rfl) ?_
  refine lv_iload_n hx hb dL_law_242 rfl (lv_at hl 3 rfl) ?_
  refine lv_iconst (v := 3) hx hb dL_law_243 (by decide) ?_
  refine lv_iadd hx hb dL_law_244 ?_
  refine z_i2 (y := nI (7 * j + 3)) (nI_add _ _) ?_
  refine z_sld hx hb hX hbl hbA hS (i := (7 * j + 3)) (by omega) (by omega) dL_law_245 ?_
  refine lv_aload_n hx hb dL_law_246 rfl (lv_at hl 0 rfl) ?_
  refine lv_iload_n hx hb dL_law_247 rfl (lv_at hl 3 rfl) ?_
  refine lv_iconst (v := 4) hx hb dL_law_248 (by decide) ?_
  refine lv_iadd hx hb dL_law_249 ?_
  refine z_i2 (y := nI (7 * j + 4)) (nI_add _ _) ?_
  refine z_sld hx hb hX hbl hbA hS (i := (7 * j + 4)) (by omega) (by omega) dL_law_250 ?_
  refine lv_i2l (v := (xs (7 * j + 4)).toInt64) hx hb dL_law_251 rfl ?_
  refine lv_bipush (v := 32) hx hb dL_law_252 (by decide) ?_
  refine lv_lshl (v := ((xs (7 * j + 4)).toInt64) <<< ((32 : Int32).toInt64 &&& 63)) hx hb dL_law_254 rfl ?_
  refine lv_aload_n hx hb dL_law_255 rfl (lv_at hl 0 rfl) ?_
  refine lv_iload_n hx hb dL_law_256 rfl (lv_at hl 3 rfl) ?_
  refine lv_iconst (v := 5) hx hb dL_law_257 (by decide) ?_
  refine lv_iadd hx hb dL_law_258 ?_
  refine z_i2 (y := nI (7 * j + 5)) (nI_add _ _) ?_
  refine z_sld hx hb hX hbl hbA hS (i := (7 * j + 5)) (by omega) (by omega) dL_law_259 ?_
  refine lv_i2l (v := (xs (7 * j + 5)).toInt64) hx hb dL_law_260 rfl ?_
  refine lv_ldc2 (v := 4294967295) hx hb hown (hts (.constantLong RL 13 (4294967295)) (by decide +kernel)) dL_law_261 ?_
  refine lv_land hx hb dL_law_264 ?_
  refine lv_lor hx hb dL_law_265 ?_
  refine vp_callSl (va_Run.run (va_runV (As := [.long ((((xs (7 * j + 1)).toInt64) <<< ((32 : Int32).toInt64 &&& 63)) ||| (((xs (7 * j + 2)).toInt64) &&& 4294967295)), .int (xs (7 * j + 3)), .long ((((xs (7 * j + 4)).toInt64) <<< ((32 : Int32).toInt64 &&& 63)) ||| (((xs (7 * j + 5)).toInt64) &&& 4294967295))]) (rest := []) ⟨hx, hb, hml, hown, hts⟩ (c_X2_turn l dC dI x0 ((((xs (7 * j + 1)).toInt64) <<< ((32 : Int32).toInt64 &&& 63)) ||| (((xs (7 * j + 2)).toInt64) &&& 4294967295)) (xs (7 * j + 3)) ((((xs (7 * j + 4)).toInt64) <<< ((32 : Int32).toInt64 &&& 63)) ||| (((xs (7 * j + 5)).toInt64) &&& 4294967295))) (cwV 3 hts gL_law_X2_turn rfl rfl rfl (by decide +kernel) ⟨Nat.le_of_ble_eq_true rfl, Nat.le_of_ble_eq_true rfl⟩) ⟨fun a U g mk q => ⟨q.1, trivial⟩, va_recv hK hP (ci := 2) (q0 := 0) rfl rfl, fun U hU hW => ⟨rfl, trivial⟩⟩ rfl rfl hl.1 rfl (lv_room (Nat.le_of_ble_eq_true rfl)) dL_law_266 ⟨Nat.le_of_ble_eq_true rfl, Nat.le_of_ble_eq_true rfl⟩)) (fun r_266 hr_266 => ?_)
  subst hr_266
  refine lv_aload_n hx hb dL_law_269 rfl (lv_at hl 2 rfl) ?_
  refine lv_aload_n hx hb dL_law_270 rfl (lv_at hl 0 rfl) ?_
  refine lv_iload_n hx hb dL_law_271 rfl (lv_at hl 3 rfl) ?_
  refine lv_iconst (v := 1) hx hb dL_law_272 (by decide) ?_
  refine lv_iadd hx hb dL_law_273 ?_
  refine z_i2 (y := nI (7 * j + 1)) (nI_add _ _) ?_
  refine z_sld hx hb hX hbl hbA hS (i := (7 * j + 1)) (by omega) (by omega) dL_law_274 ?_
  refine lv_i2l (v := (xs (7 * j + 1)).toInt64) hx hb dL_law_275 rfl ?_
  refine lv_bipush (v := 32) hx hb dL_law_276 (by decide) ?_
  refine lv_lshl (v := ((xs (7 * j + 1)).toInt64) <<< ((32 : Int32).toInt64 &&& 63)) hx hb dL_law_278 rfl ?_
  refine lv_aload_n hx hb dL_law_279 rfl (lv_at hl 0 rfl) ?_
  refine lv_iload_n hx hb dL_law_280 rfl (lv_at hl 3 rfl) ?_
  refine lv_iconst (v := 2) hx hb dL_law_281 (by decide) ?_
  refine lv_iadd hx hb dL_law_282 ?_
  refine z_i2 (y := nI (7 * j + 2)) (nI_add _ _) ?_
  refine z_sld hx hb hX hbl hbA hS (i := (7 * j + 2)) (by omega) (by omega) dL_law_283 ?_
  refine lv_i2l (v := (xs (7 * j + 2)).toInt64) hx hb dL_law_284 rfl ?_
  refine lv_ldc2 (v := 4294967295) hx hb hown (hts (.constantLong RL 13 (4294967295)) (by decide +kernel)) dL_law_285 ?_
  refine lv_land hx hb dL_law_288 ?_
  refine lv_lor hx hb dL_law_289 ?_
  refine lv_aload_n hx hb dL_law_290 rfl (lv_at hl 0 rfl) ?_
  refine lv_iload_n hx hb dL_law_291 rfl (lv_at hl 3 rfl) ?_
  refine lv_iconst (v := 3) hx hb dL_law_292 (by decide) ?_
  refine lv_iadd hx hb dL_law_293 ?_
  refine z_i2 (y := nI (7 * j + 3)) (nI_add _ _) ?_
  refine z_sld hx hb hX hbl hbA hS (i := (7 * j + 3)) (by omega) (by omega) dL_law_294 ?_
  refine lv_aload_n hx hb dL_law_295 rfl (lv_at hl 0 rfl) ?_
  refine lv_iload_n hx hb dL_law_296 rfl (lv_at hl 3 rfl) ?_
  refine lv_iconst (v := 4) hx hb dL_law_297 (by decide) ?_
  refine lv_iadd hx hb dL_law_298 ?_
  refine z_i2 (y := nI (7 * j + 4)) (nI_add _ _) ?_
  refine z_sld hx hb hX hbl hbA hS (i := (7 * j + 4)) (by omega) (by omega) dL_law_299 ?_
  refine lv_i2l (v := (xs (7 * j + 4)).toInt64) hx hb dL_law_300 rfl ?_
  refine lv_bipush (v := 32) hx hb dL_law_301 (by decide) ?_
  refine lv_lshl (v := ((xs (7 * j + 4)).toInt64) <<< ((32 : Int32).toInt64 &&& 63)) hx hb dL_law_303 rfl ?_
  refine lv_aload_n hx hb dL_law_304 rfl (lv_at hl 0 rfl) ?_
  refine lv_iload_n hx hb dL_law_305 rfl (lv_at hl 3 rfl) ?_
  refine lv_iconst (v := 5) hx hb dL_law_306 (by decide) ?_
  refine lv_iadd hx hb dL_law_307 ?_
  refine z_i2 (y := nI (7 * j + 5)) (nI_add _ _) ?_
  refine z_sld hx hb hX hbl hbA hS (i := (7 * j + 5)) (by omega) (by omega) dL_law_308 ?_
  refine lv_i2l (v := (xs (7 * j + 5)).toInt64) hx hb dL_law_309 rfl ?_
  refine lv_ldc2 (v := 4294967295) hx hb hown (hts (.constantLong RL 13 (4294967295)) (by decide +kernel)) dL_law_310 ?_
  refine lv_land hx hb dL_law_313 ?_
  refine lv_lor hx hb dL_law_314 ?_
  have hPc := hP.sub (ws' := [(m0, .inr (3, [.int 0, .long tr, .int (nI N), .ref b3, .ref b4, .ref b5, .int (nI st), .int (nI kd), .int (nI nw), .ref b9, .int (nI Z.1.length), .ref b11, .ref b12, .int (nI Z.2.2.2), .ref b14, .ref b15, .ref b16]))]) [8] rfl
  have hDc := hD.sub (ws' := [(m0, .inr (3, [.int 0, .long tr, .int (nI N), .ref b3, .ref b4, .ref b5, .int (nI st), .int (nI kd), .int (nI nw), .ref b9, .int (nI Z.1.length), .ref b11, .ref b12, .int (nI Z.2.2.2), .ref b14, .ref b15, .ref b16]))]) [8] (by decide) rfl
  have hFc := va_free (wc := [(m0, .inr (3, [.int 0, .long tr, .int (nI N), .ref b3, .ref b4, .ref b5, .int (nI st), .int (nI kd), .int (nI nw), .ref b9, .int (nI Z.1.length), .ref b11, .ref b12, .int (nI Z.2.2.2), .ref b14, .ref b15, .ref b16]))]) hD hS hA [8] rfl
  refine va_calll (va_runV (As := [.long ((((xs (7 * j + 1)).toInt64) <<< ((32 : Int32).toInt64 &&& 63)) ||| (((xs (7 * j + 2)).toInt64) &&& 4294967295)), .int (xs (7 * j + 3)), .long ((((xs (7 * j + 4)).toInt64) <<< ((32 : Int32).toInt64 &&& 63)) ||| (((xs (7 * j + 5)).toInt64) &&& 4294967295))]) (rest := [.long (spTurn ((((xs (7 * j + 1)).toInt64) <<< ((32 : Int32).toInt64 &&& 63)) ||| (((xs (7 * j + 2)).toInt64) &&& 4294967295)) (xs (7 * j + 3)) ((((xs (7 * j + 4)).toInt64) <<< ((32 : Int32).toInt64 &&& 63)) ||| (((xs (7 * j + 5)).toInt64) &&& 4294967295)))]) ⟨hx, hb, hml, hown, hts⟩ (c_X3_turn l dC dI H.size cA m0 b3 b4 b5 b9 b11 b12 b14 b15 b16 tr (nI N) (nI st) (nI kd) (nI nw) (nI Z.1.length) (nI Z.2.2.2) ((((xs (7 * j + 1)).toInt64) <<< ((32 : Int32).toInt64 &&& 63)) ||| (((xs (7 * j + 2)).toInt64) &&& 4294967295)) (xs (7 * j + 3)) ((((xs (7 * j + 4)).toInt64) <<< ((32 : Int32).toInt64 &&& 63)) ||| (((xs (7 * j + 5)).toInt64) &&& 4294967295))) (cwV 3 hts gL_law_X3_turn rfl rfl rfl (by decide +kernel) ⟨Nat.le_of_ble_eq_true rfl, Nat.le_of_ble_eq_true rfl⟩) ⟨fun a U g mk q => by obtain ⟨q0, q1, qP, qK, qD⟩ := q; exact ⟨q0, q1, qP, va_K.moved (u := U) (U := U.calling g mk a) (Vm.Alike.refl U.vm) qK, qD⟩, va_recv hK hP (ci := 3) (q0 := 8) rfl rfl, fun U hU hW => ⟨rfl, by rw [hU], by rw [hU]; exact hPc, va_K.moved hW.alike hK, hDc.weaken (fun _ _ _ _ => trivial)⟩⟩ rfl rfl hl.1 rfl (lv_room (Nat.le_of_ble_eq_true rfl)) dL_law_315 ⟨Nat.le_of_ble_eq_true rfl, Nat.le_of_ble_eq_true rfl⟩) hS (fun q _ h => hFc q h) hFc (fun r_315 u_315 t_315 H1 locs ht_315 hvm_315 hw_315 hB_315 hz1 hk1 hS => ?_)
  obtain ⟨hP1, hK1, hD1⟩ := hB_315
  rw [ht_315] at hP1
  obtain ⟨hP, hD⟩ := va_join (wr := [(x0, .inr (2, [.ref h1, .ref h2, .long tr])), (h1, .inr (0, [.ref b0, .int (nI nw), .int (nI st), .int (nI kd)])), (b0, .inl (cA, 8, .inl WR)), (h2, .inr (1, [.ref a0, .ref a1, .ref a2, .ref a3, .int (nI N), .int (nI (bc (alv Z.2.1) N)), .int (nI Z.2.2.2), .int (nI Z.1.length)])), (a0, .inl (cA, 40, .inl LA)), (a1, .inl (cA, 40, .inl WA)), (a2, .inl (cA, 200, .inl CA)), (a3, .inl (cA, 200, .inl AA)), (b3, .inl (cA, 40, .inl LV)), (b4, .inl (cA, 40, .inl LM)), (b5, .inl (cA, 40, .inl WM)), (b9, .inl (cA, 8, .inl VR)), (b11, .inl (cA, 200, .inl CM)), (b12, .inl (cA, 200, .inl AM)), (b14, .inl (cA, 20, .inl Rg)), (b15, .inl (cA, 13, .inl Mi)), (b16, .inl (cA, 13, .inl Fo))]) (w1 := [(m0, .inr (3, [.int 0, .long tr, .int (nI N), .ref b3, .ref b4, .ref b5, .int (nI st), .int (nI kd), .int (nI nw), .ref b9, .int (nI Z.1.length), .ref b11, .ref b12, .int (nI Z.2.2.2), .ref b14, .ref b15, .ref b16]))]) hP hD [8] [0, 1, 2, 3, 4, 5, 6, 7, 9, 10, 11, 12, 13, 14, 15, 16, 17] rfl rfl (by decide) (by decide) hk1 hFc hP1 hD1
  generalize H1 = H at hP hS ⊢
  have hP := hP.sub (ws' := [(x0, .inr (2, [.ref h1, .ref h2, .long tr])), (h1, .inr (0, [.ref b0, .int (nI nw), .int (nI st), .int (nI kd)])), (b0, .inl (cA, 8, .inl WR)), (h2, .inr (1, [.ref a0, .ref a1, .ref a2, .ref a3, .int (nI N), .int (nI (bc (alv Z.2.1) N)), .int (nI Z.2.2.2), .int (nI Z.1.length)])), (a0, .inl (cA, 40, .inl LA)), (a1, .inl (cA, 40, .inl WA)), (a2, .inl (cA, 200, .inl CA)), (a3, .inl (cA, 200, .inl AA)), (m0, .inr (3, [.int 0, .long tr, .int (nI N), .ref b3, .ref b4, .ref b5, .int (nI st), .int (nI kd), .int (nI nw), .ref b9, .int (nI Z.1.length), .ref b11, .ref b12, .int (nI Z.2.2.2), .ref b14, .ref b15, .ref b16])), (b3, .inl (cA, 40, .inl LV)), (b4, .inl (cA, 40, .inl LM)), (b5, .inl (cA, 40, .inl WM)), (b9, .inl (cA, 8, .inl VR)), (b11, .inl (cA, 200, .inl CM)), (b12, .inl (cA, 200, .inl AM)), (b14, .inl (cA, 20, .inl Rg)), (b15, .inl (cA, 13, .inl Mi)), (b16, .inl (cA, 13, .inl Fo))]) [0, 1, 2, 3, 4, 5, 6, 7, 17, 8, 9, 10, 11, 12, 13, 14, 15, 16] rfl
  have hD := hD.sub (ws' := [(x0, .inr (2, [.ref h1, .ref h2, .long tr])), (h1, .inr (0, [.ref b0, .int (nI nw), .int (nI st), .int (nI kd)])), (b0, .inl (cA, 8, .inl WR)), (h2, .inr (1, [.ref a0, .ref a1, .ref a2, .ref a3, .int (nI N), .int (nI (bc (alv Z.2.1) N)), .int (nI Z.2.2.2), .int (nI Z.1.length)])), (a0, .inl (cA, 40, .inl LA)), (a1, .inl (cA, 40, .inl WA)), (a2, .inl (cA, 200, .inl CA)), (a3, .inl (cA, 200, .inl AA)), (m0, .inr (3, [.int 0, .long tr, .int (nI N), .ref b3, .ref b4, .ref b5, .int (nI st), .int (nI kd), .int (nI nw), .ref b9, .int (nI Z.1.length), .ref b11, .ref b12, .int (nI Z.2.2.2), .ref b14, .ref b15, .ref b16])), (b3, .inl (cA, 40, .inl LV)), (b4, .inl (cA, 40, .inl LM)), (b5, .inl (cA, 40, .inl WM)), (b9, .inl (cA, 8, .inl VR)), (b11, .inl (cA, 200, .inl CM)), (b12, .inl (cA, 200, .inl AM)), (b14, .inl (cA, 20, .inl Rg)), (b15, .inl (cA, 13, .inl Mi)), (b16, .inl (cA, 13, .inl Fo))]) [0, 1, 2, 3, 4, 5, 6, 7, 17, 8, 9, 10, 11, 12, 13, 14, 15, 16] (by decide) rfl
  subst hw_315
  refine W.lcmp hx hb dL_law_318 ?_
  refine lv_if_eq (tgt := 859) hx hb dL_law_319 (by decide) (fun c_319 => ?_) (fun c_319 => ?_)
  · exact kk ls _ _ ⟨N, Bl, Z, st, kd, nw, wd, tr, LA, WA, CA, AA, WR, LV, LM, WM, CM, AM, VR, Rg, Mi, Fo, hG, hCS, hRX, hCX, hRM, hB, hCM, lv_sub hl [0, 1, 2, 3] rfl, hP, hD, hS⟩
  · exact absurd ((lg_cmp_eq _ _).mpr rfl) c_319

set_option maxHeartbeats 4000000 in
set_option maxRecDepth 100000 in
theorem law_last {p : Program} {l : Launch} {e : Env} {s : State} {m : MethodId} {below : List Frame} {meth : Method} {c : Code} {dC : Nat → ClassId} {dI : Nat → Nat → Nat} {b L : Nat} {xs : Nat → Int32} {A : Nat → Prop} {tt : Nat} {cA : ClassId} {x0 h1 h2 b0 a0 a1 a2 a3 m0 b3 b4 b5 b9 b11 b12 b14 b15 b16 j : Nat} {Q : State → Prop} {ls : Array Slot} {H : Heap} {locs : List Loc} (hL : L ≤ 3584) (hj : 7 * j + 7 ≤ L) (hx : p.tables.exec = Jvm.exec) (hb : c.code = code) (hml : c.maxLocals = 4) (hown : s.vm.findClass RL = some m.cls) (hts : ∀ w ∈ wsL_law, w.before #[Value.ref b] s = true) (hX : va_X b L xs s s.heap) (hbl : b < s.heap.size) (hbA : ¬ A b) (hA : ∀ q : Nat, s.heap.size ≤ q → A q) (hZ : va_Z "CountedOut$Counts" "TOLLS" "[I" (.ref tt) A s s.heap) (hT : va_T .int tt 3 (fun j => .int (tollN j)) A s s.heap) (hK : va_K (dC, dI) vwCl [(cA, .int)] s) (h : LI s dC dI A b cA x0 h1 h2 b0 a0 a1 a2 a3 m0 b3 b4 b5 b9 b11 b12 b14 b15 b16 j ls H locs) (kk : ∀ (ls : Array Slot) (H : Heap) (locs : List Loc), LI s dC dI A b cA x0 h1 h2 b0 a0 a1 a2 a3 m0 b3 b4 b5 b9 b11 b12 b14 b15 b16 j ls H locs → W p l e room_1 s m #[Value.ref b] below meth c H locs 18 1094 Q (F0 m 859 ls [])) : W p l e room_1 s m #[Value.ref b] below meth c H locs 18 1094 Q (F0 m 324 ls []) := by
  obtain ⟨N, Bl, Z, st, kd, nw, wd, tr, LA, WA, CA, AA, WR, LV, LM, WM, CM, AM, VR, Rg, Mi, Fo, hG, hCS, hRX, hCX, hRM, hB, hCM, hl, hP, hD, hS⟩ := h
  refine lv_aload_n hx hb dL_law_324 rfl (lv_at hl 1 rfl) ?_
  refine lv_aload_n hx hb dL_law_325 rfl (lv_at hl 0 rfl) ?_
  refine lv_iload_n hx hb dL_law_326 rfl (lv_at hl 3 rfl) ?_
  refine lv_iconst (v := 1) hx hb dL_law_327 (by decide) ?_
  refine lv_iadd hx hb dL_law_328 ?_
  refine z_i2 (y := nI (7 * j + 1)) (nI_add _ _) ?_
  refine z_sld hx hb hX hbl hbA hS (i := (7 * j + 1)) (by omega) (by omega) dL_law_329 ?_
  refine lv_i2l (v := (xs (7 * j + 1)).toInt64) hx hb dL_law_330 rfl ?_
  refine lv_bipush (v := 32) hx hb dL_law_331 (by decide) ?_
  refine lv_lshl (v := ((xs (7 * j + 1)).toInt64) <<< ((32 : Int32).toInt64 &&& 63)) hx hb dL_law_333 rfl ?_
  refine lv_aload_n hx hb dL_law_334 rfl (lv_at hl 0 rfl) ?_
  refine lv_iload_n hx hb dL_law_335 rfl (lv_at hl 3 rfl) ?_
  refine lv_iconst (v := 2) hx hb dL_law_336 (by decide) ?_
  refine lv_iadd hx hb dL_law_337 ?_
  refine z_i2 (y := nI (7 * j + 2)) (nI_add _ _) ?_
  refine z_sld hx hb hX hbl hbA hS (i := (7 * j + 2)) (by omega) (by omega) dL_law_338 ?_
  refine lv_i2l (v := (xs (7 * j + 2)).toInt64) hx hb dL_law_339 rfl ?_
  refine lv_ldc2 (v := 4294967295) hx hb hown (hts (.constantLong RL 13 (4294967295)) (by decide +kernel)) dL_law_340 ?_
  refine lv_land hx hb dL_law_343 ?_
  refine lv_lor hx hb dL_law_344 ?_
  refine lv_aload_n hx hb dL_law_345 rfl (lv_at hl 0 rfl) ?_
  refine lv_iload_n hx hb dL_law_346 rfl (lv_at hl 3 rfl) ?_
  refine lv_iconst (v := 3) hx hb dL_law_347 (by decide) ?_
  refine lv_iadd hx hb dL_law_348 ?_
  refine z_i2 (y := nI (7 * j + 3)) (nI_add _ _) ?_
  refine z_sld hx hb hX hbl hbA hS (i := (7 * j + 3)) (by omega) (by omega) dL_law_349 ?_
  refine vp_callSl (va_Run.run (va_runV (As := [.long ((((xs (7 * j + 1)).toInt64) <<< ((32 : Int32).toInt64 &&& 63)) ||| (((xs (7 * j + 2)).toInt64) &&& 4294967295)), .int (xs (7 * j + 3))]) (rest := []) ⟨hx, hb, hml, hown, hts⟩ (c_X2_last l dC dI x0 ((((xs (7 * j + 1)).toInt64) <<< ((32 : Int32).toInt64 &&& 63)) ||| (((xs (7 * j + 2)).toInt64) &&& 4294967295)) (xs (7 * j + 3))) (cwV 2 hts gL_law_X2_last rfl rfl rfl (by decide +kernel) ⟨Nat.le_of_ble_eq_true rfl, Nat.le_of_ble_eq_true rfl⟩) ⟨fun a U g mk q => ⟨q.1, trivial⟩, va_recv hK hP (ci := 2) (q0 := 0) rfl rfl, fun U hU hW => ⟨rfl, trivial⟩⟩ rfl rfl hl.1 rfl (lv_room (Nat.le_of_ble_eq_true rfl)) dL_law_350 ⟨Nat.le_of_ble_eq_true rfl, Nat.le_of_ble_eq_true rfl⟩)) (fun r_350 hr_350 => ?_)
  subst hr_350
  refine lv_aload_n hx hb dL_law_353 rfl (lv_at hl 2 rfl) ?_
  refine lv_aload_n hx hb dL_law_354 rfl (lv_at hl 0 rfl) ?_
  refine lv_iload_n hx hb dL_law_355 rfl (lv_at hl 3 rfl) ?_
  refine lv_iconst (v := 1) hx hb dL_law_356 (by decide) ?_
  refine lv_iadd hx hb dL_law_357 ?_
  refine z_i2 (y := nI (7 * j + 1)) (nI_add _ _) ?_
  refine z_sld hx hb hX hbl hbA hS (i := (7 * j + 1)) (by omega) (by omega) dL_law_358 ?_
  refine lv_i2l (v := (xs (7 * j + 1)).toInt64) hx hb dL_law_359 rfl ?_
  refine lv_bipush (v := 32) hx hb dL_law_360 (by decide) ?_
  refine lv_lshl (v := ((xs (7 * j + 1)).toInt64) <<< ((32 : Int32).toInt64 &&& 63)) hx hb dL_law_362 rfl ?_
  refine lv_aload_n hx hb dL_law_363 rfl (lv_at hl 0 rfl) ?_
  refine lv_iload_n hx hb dL_law_364 rfl (lv_at hl 3 rfl) ?_
  refine lv_iconst (v := 2) hx hb dL_law_365 (by decide) ?_
  refine lv_iadd hx hb dL_law_366 ?_
  refine z_i2 (y := nI (7 * j + 2)) (nI_add _ _) ?_
  refine z_sld hx hb hX hbl hbA hS (i := (7 * j + 2)) (by omega) (by omega) dL_law_367 ?_
  refine lv_i2l (v := (xs (7 * j + 2)).toInt64) hx hb dL_law_368 rfl ?_
  refine lv_ldc2 (v := 4294967295) hx hb hown (hts (.constantLong RL 13 (4294967295)) (by decide +kernel)) dL_law_369 ?_
  refine lv_land hx hb dL_law_372 ?_
  refine lv_lor hx hb dL_law_373 ?_
  refine lv_aload_n hx hb dL_law_374 rfl (lv_at hl 0 rfl) ?_
  refine lv_iload_n hx hb dL_law_375 rfl (lv_at hl 3 rfl) ?_
  refine lv_iconst (v := 3) hx hb dL_law_376 (by decide) ?_
  refine lv_iadd hx hb dL_law_377 ?_
  refine z_i2 (y := nI (7 * j + 3)) (nI_add _ _) ?_
  refine z_sld hx hb hX hbl hbA hS (i := (7 * j + 3)) (by omega) (by omega) dL_law_378 ?_
  have hPc := hP.sub (ws' := [(m0, .inr (3, [.int 0, .long tr, .int (nI N), .ref b3, .ref b4, .ref b5, .int (nI st), .int (nI kd), .int (nI nw), .ref b9, .int (nI Z.1.length), .ref b11, .ref b12, .int (nI Z.2.2.2), .ref b14, .ref b15, .ref b16]))]) [8] rfl
  have hDc := hD.sub (ws' := [(m0, .inr (3, [.int 0, .long tr, .int (nI N), .ref b3, .ref b4, .ref b5, .int (nI st), .int (nI kd), .int (nI nw), .ref b9, .int (nI Z.1.length), .ref b11, .ref b12, .int (nI Z.2.2.2), .ref b14, .ref b15, .ref b16]))]) [8] (by decide) rfl
  have hFc := va_free (wc := [(m0, .inr (3, [.int 0, .long tr, .int (nI N), .ref b3, .ref b4, .ref b5, .int (nI st), .int (nI kd), .int (nI nw), .ref b9, .int (nI Z.1.length), .ref b11, .ref b12, .int (nI Z.2.2.2), .ref b14, .ref b15, .ref b16]))]) hD hS hA [8] rfl
  refine va_calll (va_runV (As := [.long ((((xs (7 * j + 1)).toInt64) <<< ((32 : Int32).toInt64 &&& 63)) ||| (((xs (7 * j + 2)).toInt64) &&& 4294967295)), .int (xs (7 * j + 3))]) (rest := [.long (spLast ((((xs (7 * j + 1)).toInt64) <<< ((32 : Int32).toInt64 &&& 63)) ||| (((xs (7 * j + 2)).toInt64) &&& 4294967295)) (xs (7 * j + 3)))]) ⟨hx, hb, hml, hown, hts⟩ (c_X3_last l dC dI H.size cA m0 b3 b4 b5 b9 b11 b12 b14 b15 b16 tr (nI N) (nI st) (nI kd) (nI nw) (nI Z.1.length) (nI Z.2.2.2) ((((xs (7 * j + 1)).toInt64) <<< ((32 : Int32).toInt64 &&& 63)) ||| (((xs (7 * j + 2)).toInt64) &&& 4294967295)) (xs (7 * j + 3))) (cwV 2 hts gL_law_X3_last rfl rfl rfl (by decide +kernel) ⟨Nat.le_of_ble_eq_true rfl, Nat.le_of_ble_eq_true rfl⟩) ⟨fun a U g mk q => by obtain ⟨q0, q1, qP, qK, qD⟩ := q; exact ⟨q0, q1, qP, va_K.moved (u := U) (U := U.calling g mk a) (Vm.Alike.refl U.vm) qK, qD⟩, va_recv hK hP (ci := 3) (q0 := 8) rfl rfl, fun U hU hW => ⟨rfl, by rw [hU], by rw [hU]; exact hPc, va_K.moved hW.alike hK, hDc.weaken (fun _ _ _ _ => trivial)⟩⟩ rfl rfl hl.1 rfl (lv_room (Nat.le_of_ble_eq_true rfl)) dL_law_379 ⟨Nat.le_of_ble_eq_true rfl, Nat.le_of_ble_eq_true rfl⟩) hS (fun q _ h => hFc q h) hFc (fun r_379 u_379 t_379 H1 locs ht_379 hvm_379 hw_379 hB_379 hz1 hk1 hS => ?_)
  obtain ⟨hP1, hK1, hD1⟩ := hB_379
  rw [ht_379] at hP1
  obtain ⟨hP, hD⟩ := va_join (wr := [(x0, .inr (2, [.ref h1, .ref h2, .long tr])), (h1, .inr (0, [.ref b0, .int (nI nw), .int (nI st), .int (nI kd)])), (b0, .inl (cA, 8, .inl WR)), (h2, .inr (1, [.ref a0, .ref a1, .ref a2, .ref a3, .int (nI N), .int (nI (bc (alv Z.2.1) N)), .int (nI Z.2.2.2), .int (nI Z.1.length)])), (a0, .inl (cA, 40, .inl LA)), (a1, .inl (cA, 40, .inl WA)), (a2, .inl (cA, 200, .inl CA)), (a3, .inl (cA, 200, .inl AA)), (b3, .inl (cA, 40, .inl LV)), (b4, .inl (cA, 40, .inl LM)), (b5, .inl (cA, 40, .inl WM)), (b9, .inl (cA, 8, .inl VR)), (b11, .inl (cA, 200, .inl CM)), (b12, .inl (cA, 200, .inl AM)), (b14, .inl (cA, 20, .inl Rg)), (b15, .inl (cA, 13, .inl Mi)), (b16, .inl (cA, 13, .inl Fo))]) (w1 := [(m0, .inr (3, [.int 0, .long tr, .int (nI N), .ref b3, .ref b4, .ref b5, .int (nI st), .int (nI kd), .int (nI nw), .ref b9, .int (nI Z.1.length), .ref b11, .ref b12, .int (nI Z.2.2.2), .ref b14, .ref b15, .ref b16]))]) hP hD [8] [0, 1, 2, 3, 4, 5, 6, 7, 9, 10, 11, 12, 13, 14, 15, 16, 17] rfl rfl (by decide) (by decide) hk1 hFc hP1 hD1
  generalize H1 = H at hP hS ⊢
  have hP := hP.sub (ws' := [(x0, .inr (2, [.ref h1, .ref h2, .long tr])), (h1, .inr (0, [.ref b0, .int (nI nw), .int (nI st), .int (nI kd)])), (b0, .inl (cA, 8, .inl WR)), (h2, .inr (1, [.ref a0, .ref a1, .ref a2, .ref a3, .int (nI N), .int (nI (bc (alv Z.2.1) N)), .int (nI Z.2.2.2), .int (nI Z.1.length)])), (a0, .inl (cA, 40, .inl LA)), (a1, .inl (cA, 40, .inl WA)), (a2, .inl (cA, 200, .inl CA)), (a3, .inl (cA, 200, .inl AA)), (m0, .inr (3, [.int 0, .long tr, .int (nI N), .ref b3, .ref b4, .ref b5, .int (nI st), .int (nI kd), .int (nI nw), .ref b9, .int (nI Z.1.length), .ref b11, .ref b12, .int (nI Z.2.2.2), .ref b14, .ref b15, .ref b16])), (b3, .inl (cA, 40, .inl LV)), (b4, .inl (cA, 40, .inl LM)), (b5, .inl (cA, 40, .inl WM)), (b9, .inl (cA, 8, .inl VR)), (b11, .inl (cA, 200, .inl CM)), (b12, .inl (cA, 200, .inl AM)), (b14, .inl (cA, 20, .inl Rg)), (b15, .inl (cA, 13, .inl Mi)), (b16, .inl (cA, 13, .inl Fo))]) [0, 1, 2, 3, 4, 5, 6, 7, 17, 8, 9, 10, 11, 12, 13, 14, 15, 16] rfl
  have hD := hD.sub (ws' := [(x0, .inr (2, [.ref h1, .ref h2, .long tr])), (h1, .inr (0, [.ref b0, .int (nI nw), .int (nI st), .int (nI kd)])), (b0, .inl (cA, 8, .inl WR)), (h2, .inr (1, [.ref a0, .ref a1, .ref a2, .ref a3, .int (nI N), .int (nI (bc (alv Z.2.1) N)), .int (nI Z.2.2.2), .int (nI Z.1.length)])), (a0, .inl (cA, 40, .inl LA)), (a1, .inl (cA, 40, .inl WA)), (a2, .inl (cA, 200, .inl CA)), (a3, .inl (cA, 200, .inl AA)), (m0, .inr (3, [.int 0, .long tr, .int (nI N), .ref b3, .ref b4, .ref b5, .int (nI st), .int (nI kd), .int (nI nw), .ref b9, .int (nI Z.1.length), .ref b11, .ref b12, .int (nI Z.2.2.2), .ref b14, .ref b15, .ref b16])), (b3, .inl (cA, 40, .inl LV)), (b4, .inl (cA, 40, .inl LM)), (b5, .inl (cA, 40, .inl WM)), (b9, .inl (cA, 8, .inl VR)), (b11, .inl (cA, 200, .inl CM)), (b12, .inl (cA, 200, .inl AM)), (b14, .inl (cA, 20, .inl Rg)), (b15, .inl (cA, 13, .inl Mi)), (b16, .inl (cA, 13, .inl Fo))]) [0, 1, 2, 3, 4, 5, 6, 7, 17, 8, 9, 10, 11, 12, 13, 14, 15, 16] (by decide) rfl
  subst hw_379
  refine W.lcmp hx hb dL_law_382 ?_
  refine lv_if_eq (tgt := 859) hx hb dL_law_383 (by decide) (fun c_383 => ?_) (fun c_383 => ?_)
  · exact kk ls _ _ ⟨N, Bl, Z, st, kd, nw, wd, tr, LA, WA, CA, AA, WR, LV, LM, WM, CM, AM, VR, Rg, Mi, Fo, hG, hCS, hRX, hCX, hRM, hB, hCM, lv_sub hl [0, 1, 2, 3] rfl, hP, hD, hS⟩
  · exact absurd ((lg_cmp_eq _ _).mpr rfl) c_383

set_option maxHeartbeats 4000000 in
set_option maxRecDepth 100000 in
theorem law_first {p : Program} {l : Launch} {e : Env} {s : State} {m : MethodId} {below : List Frame} {meth : Method} {c : Code} {dC : Nat → ClassId} {dI : Nat → Nat → Nat} {b L : Nat} {xs : Nat → Int32} {A : Nat → Prop} {tt : Nat} {cA : ClassId} {x0 h1 h2 b0 a0 a1 a2 a3 m0 b3 b4 b5 b9 b11 b12 b14 b15 b16 j : Nat} {Q : State → Prop} {ls : Array Slot} {H : Heap} {locs : List Loc} (hL : L ≤ 3584) (hj : 7 * j + 7 ≤ L) (hx : p.tables.exec = Jvm.exec) (hb : c.code = code) (hml : c.maxLocals = 4) (hown : s.vm.findClass RL = some m.cls) (hts : ∀ w ∈ wsL_law, w.before #[Value.ref b] s = true) (hX : va_X b L xs s s.heap) (hbl : b < s.heap.size) (hbA : ¬ A b) (hA : ∀ q : Nat, s.heap.size ≤ q → A q) (hZ : va_Z "CountedOut$Counts" "TOLLS" "[I" (.ref tt) A s s.heap) (hT : va_T .int tt 3 (fun j => .int (tollN j)) A s s.heap) (hK : va_K (dC, dI) vwCl [(cA, .int)] s) (h : LI s dC dI A b cA x0 h1 h2 b0 a0 a1 a2 a3 m0 b3 b4 b5 b9 b11 b12 b14 b15 b16 j ls H locs) (kk : ∀ (ls : Array Slot) (H : Heap) (locs : List Loc), LI s dC dI A b cA x0 h1 h2 b0 a0 a1 a2 a3 m0 b3 b4 b5 b9 b11 b12 b14 b15 b16 j ls H locs → W p l e room_1 s m #[Value.ref b] below meth c H locs 18 1094 Q (F0 m 859 ls [])) : W p l e room_1 s m #[Value.ref b] below meth c H locs 18 1094 Q (F0 m 388 ls []) := by
  obtain ⟨N, Bl, Z, st, kd, nw, wd, tr, LA, WA, CA, AA, WR, LV, LM, WM, CM, AM, VR, Rg, Mi, Fo, hG, hCS, hRX, hCX, hRM, hB, hCM, hl, hP, hD, hS⟩ := h
  refine lv_aload_n hx hb dL_law_388 rfl (lv_at hl 1 rfl) ?_
  refine lv_aload_n hx hb dL_law_389 rfl (lv_at hl 0 rfl) ?_
  refine lv_iload_n hx hb dL_law_390 rfl (lv_at hl 3 rfl) ?_
  refine lv_iconst (v := 1) hx hb dL_law_391 (by decide) ?_
  refine lv_iadd hx hb dL_law_392 ?_
  refine z_i2 (y := nI (7 * j + 1)) (nI_add _ _) ?_
  refine z_sld hx hb hX hbl hbA hS (i := (7 * j + 1)) (by omega) (by omega) dL_law_393 ?_
  refine lv_aload_n hx hb dL_law_394 rfl (lv_at hl 0 rfl) ?_
  refine lv_iload_n hx hb dL_law_395 rfl (lv_at hl 3 rfl) ?_
  refine lv_iconst (v := 2) hx hb dL_law_396 (by decide) ?_
  refine lv_iadd hx hb dL_law_397 ?_
  refine z_i2 (y := nI (7 * j + 2)) (nI_add _ _) ?_
  refine z_sld hx hb hX hbl hbA hS (i := (7 * j + 2)) (by omega) (by omega) dL_law_398 ?_
  refine lv_aload_n hx hb dL_law_399 rfl (lv_at hl 0 rfl) ?_
  refine lv_iload_n hx hb dL_law_400 rfl (lv_at hl 3 rfl) ?_
  refine lv_iconst (v := 3) hx hb dL_law_401 (by decide) ?_
  refine lv_iadd hx hb dL_law_402 ?_
  refine z_i2 (y := nI (7 * j + 3)) (nI_add _ _) ?_
  refine z_sld hx hb hX hbl hbA hS (i := (7 * j + 3)) (by omega) (by omega) dL_law_403 ?_
  refine vp_callSi (va_Run.run (va_runV (As := [.int (xs (7 * j + 1)), .int (xs (7 * j + 2)), .int (xs (7 * j + 3))]) (rest := []) ⟨hx, hb, hml, hown, hts⟩ (c_X2_first l dC dI x0 (xs (7 * j + 1)) (xs (7 * j + 2)) (xs (7 * j + 3))) (cwV 3 hts gL_law_X2_first rfl rfl rfl (by decide +kernel) ⟨Nat.le_of_ble_eq_true rfl, Nat.le_of_ble_eq_true rfl⟩) ⟨fun a U g mk q => ⟨q.1, trivial⟩, va_recv hK hP (ci := 2) (q0 := 0) rfl rfl, fun U hU hW => ⟨rfl, trivial⟩⟩ rfl rfl hl.1 rfl (lv_room (Nat.le_of_ble_eq_true rfl)) dL_law_404 ⟨Nat.le_of_ble_eq_true rfl, Nat.le_of_ble_eq_true rfl⟩)) (fun r_404 hr_404 => ?_)
  subst hr_404
  refine lv_aload_n hx hb dL_law_407 rfl (lv_at hl 2 rfl) ?_
  refine lv_aload_n hx hb dL_law_408 rfl (lv_at hl 0 rfl) ?_
  refine lv_iload_n hx hb dL_law_409 rfl (lv_at hl 3 rfl) ?_
  refine lv_iconst (v := 1) hx hb dL_law_410 (by decide) ?_
  refine lv_iadd hx hb dL_law_411 ?_
  refine z_i2 (y := nI (7 * j + 1)) (nI_add _ _) ?_
  refine z_sld hx hb hX hbl hbA hS (i := (7 * j + 1)) (by omega) (by omega) dL_law_412 ?_
  refine lv_aload_n hx hb dL_law_413 rfl (lv_at hl 0 rfl) ?_
  refine lv_iload_n hx hb dL_law_414 rfl (lv_at hl 3 rfl) ?_
  refine lv_iconst (v := 2) hx hb dL_law_415 (by decide) ?_
  refine lv_iadd hx hb dL_law_416 ?_
  refine z_i2 (y := nI (7 * j + 2)) (nI_add _ _) ?_
  refine z_sld hx hb hX hbl hbA hS (i := (7 * j + 2)) (by omega) (by omega) dL_law_417 ?_
  refine lv_aload_n hx hb dL_law_418 rfl (lv_at hl 0 rfl) ?_
  refine lv_iload_n hx hb dL_law_419 rfl (lv_at hl 3 rfl) ?_
  refine lv_iconst (v := 3) hx hb dL_law_420 (by decide) ?_
  refine lv_iadd hx hb dL_law_421 ?_
  refine z_i2 (y := nI (7 * j + 3)) (nI_add _ _) ?_
  refine z_sld hx hb hX hbl hbA hS (i := (7 * j + 3)) (by omega) (by omega) dL_law_422 ?_
  have hPc := hP.sub (ws' := [(m0, .inr (3, [.int 0, .long tr, .int (nI N), .ref b3, .ref b4, .ref b5, .int (nI st), .int (nI kd), .int (nI nw), .ref b9, .int (nI Z.1.length), .ref b11, .ref b12, .int (nI Z.2.2.2), .ref b14, .ref b15, .ref b16])), (b14, .inl (cA, 20, .inl Rg))]) [8, 15] rfl
  have hDc := hD.sub (ws' := [(m0, .inr (3, [.int 0, .long tr, .int (nI N), .ref b3, .ref b4, .ref b5, .int (nI st), .int (nI kd), .int (nI nw), .ref b9, .int (nI Z.1.length), .ref b11, .ref b12, .int (nI Z.2.2.2), .ref b14, .ref b15, .ref b16])), (b14, .inl (cA, 20, .inl Rg))]) [8, 15] (by decide) rfl
  have hFc := va_free (wc := [(m0, .inr (3, [.int 0, .long tr, .int (nI N), .ref b3, .ref b4, .ref b5, .int (nI st), .int (nI kd), .int (nI nw), .ref b9, .int (nI Z.1.length), .ref b11, .ref b12, .int (nI Z.2.2.2), .ref b14, .ref b15, .ref b16])), (b14, .inl (cA, 20, .inl Rg))]) hD hS hA [8, 15] rfl
  refine va_calli (va_runV (As := [.int (xs (7 * j + 1)), .int (xs (7 * j + 2)), .int (xs (7 * j + 3))]) (rest := [.int (spFirst (xs (7 * j + 1)) (xs (7 * j + 2)) (xs (7 * j + 3)))]) ⟨hx, hb, hml, hown, hts⟩ (c_X3_first l dC dI H.size cA m0 b3 b4 b5 b9 b11 b12 b14 b15 b16 tr (nI N) (nI st) (nI kd) (nI nw) (nI Z.1.length) (nI Z.2.2.2) (xs (7 * j + 1)) (xs (7 * j + 2)) (xs (7 * j + 3)) Rg) (cwV 3 hts gL_law_X3_first rfl rfl rfl (by decide +kernel) ⟨Nat.le_of_ble_eq_true rfl, Nat.le_of_ble_eq_true rfl⟩) ⟨fun a U g mk q => by obtain ⟨q0, q1, qP, qK, qD⟩ := q; exact ⟨q0, q1, qP, va_K.moved (u := U) (U := U.calling g mk a) (Vm.Alike.refl U.vm) qK, qD⟩, va_recv hK hP (ci := 3) (q0 := 8) rfl rfl, fun U hU hW => ⟨rfl, by rw [hU], by rw [hU]; exact hPc, va_K.moved hW.alike hK, hDc.weaken (fun _ _ _ _ => trivial)⟩⟩ rfl rfl hl.1 rfl (lv_room (Nat.le_of_ble_eq_true rfl)) dL_law_423 ⟨Nat.le_of_ble_eq_true rfl, Nat.le_of_ble_eq_true rfl⟩) hS (fun q _ h => hFc q h) hFc (fun r_423 u_423 t_423 H1 locs ht_423 hvm_423 hw_423 hB_423 hz1 hk1 hS => ?_)
  obtain ⟨Rg1, eRg⟩ : ∃ z, z = u_423 := ⟨_, rfl⟩
  subst eRg
  obtain ⟨hP1, hK1, hD1⟩ := hB_423
  rw [ht_423] at hP1
  obtain ⟨hP, hD⟩ := va_join (wr := [(x0, .inr (2, [.ref h1, .ref h2, .long tr])), (h1, .inr (0, [.ref b0, .int (nI nw), .int (nI st), .int (nI kd)])), (b0, .inl (cA, 8, .inl WR)), (h2, .inr (1, [.ref a0, .ref a1, .ref a2, .ref a3, .int (nI N), .int (nI (bc (alv Z.2.1) N)), .int (nI Z.2.2.2), .int (nI Z.1.length)])), (a0, .inl (cA, 40, .inl LA)), (a1, .inl (cA, 40, .inl WA)), (a2, .inl (cA, 200, .inl CA)), (a3, .inl (cA, 200, .inl AA)), (b3, .inl (cA, 40, .inl LV)), (b4, .inl (cA, 40, .inl LM)), (b5, .inl (cA, 40, .inl WM)), (b9, .inl (cA, 8, .inl VR)), (b11, .inl (cA, 200, .inl CM)), (b12, .inl (cA, 200, .inl AM)), (b15, .inl (cA, 13, .inl Mi)), (b16, .inl (cA, 13, .inl Fo))]) (w1 := [(m0, .inr (3, [.int 0, .long tr, .int (nI N), .ref b3, .ref b4, .ref b5, .int (nI st), .int (nI kd), .int (nI nw), .ref b9, .int (nI Z.1.length), .ref b11, .ref b12, .int (nI Z.2.2.2), .ref b14, .ref b15, .ref b16])), (b14, .inl (cA, 20, .inl Rg1))]) hP hD [8, 15] [0, 1, 2, 3, 4, 5, 6, 7, 9, 10, 11, 12, 13, 14, 16, 17] rfl rfl (by decide) (by decide) hk1 hFc hP1 hD1
  generalize H1 = H at hP hS ⊢
  have hP := hP.sub (ws' := [(x0, .inr (2, [.ref h1, .ref h2, .long tr])), (h1, .inr (0, [.ref b0, .int (nI nw), .int (nI st), .int (nI kd)])), (b0, .inl (cA, 8, .inl WR)), (h2, .inr (1, [.ref a0, .ref a1, .ref a2, .ref a3, .int (nI N), .int (nI (bc (alv Z.2.1) N)), .int (nI Z.2.2.2), .int (nI Z.1.length)])), (a0, .inl (cA, 40, .inl LA)), (a1, .inl (cA, 40, .inl WA)), (a2, .inl (cA, 200, .inl CA)), (a3, .inl (cA, 200, .inl AA)), (m0, .inr (3, [.int 0, .long tr, .int (nI N), .ref b3, .ref b4, .ref b5, .int (nI st), .int (nI kd), .int (nI nw), .ref b9, .int (nI Z.1.length), .ref b11, .ref b12, .int (nI Z.2.2.2), .ref b14, .ref b15, .ref b16])), (b3, .inl (cA, 40, .inl LV)), (b4, .inl (cA, 40, .inl LM)), (b5, .inl (cA, 40, .inl WM)), (b9, .inl (cA, 8, .inl VR)), (b11, .inl (cA, 200, .inl CM)), (b12, .inl (cA, 200, .inl AM)), (b14, .inl (cA, 20, .inl Rg1)), (b15, .inl (cA, 13, .inl Mi)), (b16, .inl (cA, 13, .inl Fo))]) [0, 1, 2, 3, 4, 5, 6, 7, 16, 8, 9, 10, 11, 12, 13, 17, 14, 15] rfl
  have hD := hD.sub (ws' := [(x0, .inr (2, [.ref h1, .ref h2, .long tr])), (h1, .inr (0, [.ref b0, .int (nI nw), .int (nI st), .int (nI kd)])), (b0, .inl (cA, 8, .inl WR)), (h2, .inr (1, [.ref a0, .ref a1, .ref a2, .ref a3, .int (nI N), .int (nI (bc (alv Z.2.1) N)), .int (nI Z.2.2.2), .int (nI Z.1.length)])), (a0, .inl (cA, 40, .inl LA)), (a1, .inl (cA, 40, .inl WA)), (a2, .inl (cA, 200, .inl CA)), (a3, .inl (cA, 200, .inl AA)), (m0, .inr (3, [.int 0, .long tr, .int (nI N), .ref b3, .ref b4, .ref b5, .int (nI st), .int (nI kd), .int (nI nw), .ref b9, .int (nI Z.1.length), .ref b11, .ref b12, .int (nI Z.2.2.2), .ref b14, .ref b15, .ref b16])), (b3, .inl (cA, 40, .inl LV)), (b4, .inl (cA, 40, .inl LM)), (b5, .inl (cA, 40, .inl WM)), (b9, .inl (cA, 8, .inl VR)), (b11, .inl (cA, 200, .inl CM)), (b12, .inl (cA, 200, .inl AM)), (b14, .inl (cA, 20, .inl Rg1)), (b15, .inl (cA, 13, .inl Mi)), (b16, .inl (cA, 13, .inl Fo))]) [0, 1, 2, 3, 4, 5, 6, 7, 16, 8, 9, 10, 11, 12, 13, 17, 14, 15] (by decide) rfl
  subst hw_423
  refine lv_icmp_eq (tgt := 859) hx hb dL_law_426 (by decide) (fun c_426 => ?_) (fun c_426 => ?_)
  · exact kk ls _ _ ⟨N, Bl, Z, st, kd, nw, wd, tr, LA, WA, CA, AA, WR, LV, LM, WM, CM, AM, VR, Rg1, Mi, Fo, hG, hCS, hRX, hCX, hRM, hB, hCM, lv_sub hl [0, 1, 2, 3] rfl, hP, hD, hS⟩
  · exact absurd rfl c_426

set_option maxHeartbeats 4000000 in
set_option maxRecDepth 100000 in
theorem law_least {p : Program} {l : Launch} {e : Env} {s : State} {m : MethodId} {below : List Frame} {meth : Method} {c : Code} {dC : Nat → ClassId} {dI : Nat → Nat → Nat} {b L : Nat} {xs : Nat → Int32} {A : Nat → Prop} {tt : Nat} {cA : ClassId} {x0 h1 h2 b0 a0 a1 a2 a3 m0 b3 b4 b5 b9 b11 b12 b14 b15 b16 j : Nat} {Q : State → Prop} {ls : Array Slot} {H : Heap} {locs : List Loc} (hL : L ≤ 3584) (hj : 7 * j + 7 ≤ L) (hx : p.tables.exec = Jvm.exec) (hb : c.code = code) (hml : c.maxLocals = 4) (hown : s.vm.findClass RL = some m.cls) (hts : ∀ w ∈ wsL_law, w.before #[Value.ref b] s = true) (hX : va_X b L xs s s.heap) (hbl : b < s.heap.size) (hbA : ¬ A b) (hA : ∀ q : Nat, s.heap.size ≤ q → A q) (hZ : va_Z "CountedOut$Counts" "TOLLS" "[I" (.ref tt) A s s.heap) (hT : va_T .int tt 3 (fun j => .int (tollN j)) A s s.heap) (hK : va_K (dC, dI) vwCl [(cA, .int)] s) (h : LI s dC dI A b cA x0 h1 h2 b0 a0 a1 a2 a3 m0 b3 b4 b5 b9 b11 b12 b14 b15 b16 j ls H locs) (kk : ∀ (ls : Array Slot) (H : Heap) (locs : List Loc), LI s dC dI A b cA x0 h1 h2 b0 a0 a1 a2 a3 m0 b3 b4 b5 b9 b11 b12 b14 b15 b16 j ls H locs → W p l e room_1 s m #[Value.ref b] below meth c H locs 18 1094 Q (F0 m 859 ls [])) : W p l e room_1 s m #[Value.ref b] below meth c H locs 18 1094 Q (F0 m 431 ls []) := by
  obtain ⟨N, Bl, Z, st, kd, nw, wd, tr, LA, WA, CA, AA, WR, LV, LM, WM, CM, AM, VR, Rg, Mi, Fo, hG, hCS, hRX, hCX, hRM, hB, hCM, hl, hP, hD, hS⟩ := h
  refine lv_aload_n hx hb dL_law_431 rfl (lv_at hl 1 rfl) ?_
  refine lv_aload_n hx hb dL_law_432 rfl (lv_at hl 0 rfl) ?_
  refine lv_iload_n hx hb dL_law_433 rfl (lv_at hl 3 rfl) ?_
  refine lv_iconst (v := 1) hx hb dL_law_434 (by decide) ?_
  refine lv_iadd hx hb dL_law_435 ?_
  refine z_i2 (y := nI (7 * j + 1)) (nI_add _ _) ?_
  refine z_sld hx hb hX hbl hbA hS (i := (7 * j + 1)) (by omega) (by omega) dL_law_436 ?_
  refine lv_aload_n hx hb dL_law_437 rfl (lv_at hl 0 rfl) ?_
  refine lv_iload_n hx hb dL_law_438 rfl (lv_at hl 3 rfl) ?_
  refine lv_iconst (v := 2) hx hb dL_law_439 (by decide) ?_
  refine lv_iadd hx hb dL_law_440 ?_
  refine z_i2 (y := nI (7 * j + 2)) (nI_add _ _) ?_
  refine z_sld hx hb hX hbl hbA hS (i := (7 * j + 2)) (by omega) (by omega) dL_law_441 ?_
  refine vp_callSi (va_Run.run (va_runV (As := [.int (xs (7 * j + 1)), .int (xs (7 * j + 2))]) (rest := []) ⟨hx, hb, hml, hown, hts⟩ (c_X2_least l dC dI x0 (xs (7 * j + 1)) (xs (7 * j + 2))) (cwV 2 hts gL_law_X2_least rfl rfl rfl (by decide +kernel) ⟨Nat.le_of_ble_eq_true rfl, Nat.le_of_ble_eq_true rfl⟩) ⟨fun a U g mk q => ⟨q.1, trivial⟩, va_recv hK hP (ci := 2) (q0 := 0) rfl rfl, fun U hU hW => ⟨rfl, trivial⟩⟩ rfl rfl hl.1 rfl (lv_room (Nat.le_of_ble_eq_true rfl)) dL_law_442 ⟨Nat.le_of_ble_eq_true rfl, Nat.le_of_ble_eq_true rfl⟩)) (fun r_442 hr_442 => ?_)
  subst hr_442
  refine lv_aload_n hx hb dL_law_445 rfl (lv_at hl 2 rfl) ?_
  refine lv_aload_n hx hb dL_law_446 rfl (lv_at hl 0 rfl) ?_
  refine lv_iload_n hx hb dL_law_447 rfl (lv_at hl 3 rfl) ?_
  refine lv_iconst (v := 1) hx hb dL_law_448 (by decide) ?_
  refine lv_iadd hx hb dL_law_449 ?_
  refine z_i2 (y := nI (7 * j + 1)) (nI_add _ _) ?_
  refine z_sld hx hb hX hbl hbA hS (i := (7 * j + 1)) (by omega) (by omega) dL_law_450 ?_
  refine lv_aload_n hx hb dL_law_451 rfl (lv_at hl 0 rfl) ?_
  refine lv_iload_n hx hb dL_law_452 rfl (lv_at hl 3 rfl) ?_
  refine lv_iconst (v := 2) hx hb dL_law_453 (by decide) ?_
  refine lv_iadd hx hb dL_law_454 ?_
  refine z_i2 (y := nI (7 * j + 2)) (nI_add _ _) ?_
  refine z_sld hx hb hX hbl hbA hS (i := (7 * j + 2)) (by omega) (by omega) dL_law_455 ?_
  have hPc := hP.sub (ws' := [(m0, .inr (3, [.int 0, .long tr, .int (nI N), .ref b3, .ref b4, .ref b5, .int (nI st), .int (nI kd), .int (nI nw), .ref b9, .int (nI Z.1.length), .ref b11, .ref b12, .int (nI Z.2.2.2), .ref b14, .ref b15, .ref b16])), (b14, .inl (cA, 20, .inl Rg))]) [8, 15] rfl
  have hDc := hD.sub (ws' := [(m0, .inr (3, [.int 0, .long tr, .int (nI N), .ref b3, .ref b4, .ref b5, .int (nI st), .int (nI kd), .int (nI nw), .ref b9, .int (nI Z.1.length), .ref b11, .ref b12, .int (nI Z.2.2.2), .ref b14, .ref b15, .ref b16])), (b14, .inl (cA, 20, .inl Rg))]) [8, 15] (by decide) rfl
  have hFc := va_free (wc := [(m0, .inr (3, [.int 0, .long tr, .int (nI N), .ref b3, .ref b4, .ref b5, .int (nI st), .int (nI kd), .int (nI nw), .ref b9, .int (nI Z.1.length), .ref b11, .ref b12, .int (nI Z.2.2.2), .ref b14, .ref b15, .ref b16])), (b14, .inl (cA, 20, .inl Rg))]) hD hS hA [8, 15] rfl
  refine va_calli (va_runV (As := [.int (xs (7 * j + 1)), .int (xs (7 * j + 2))]) (rest := [.int (spLeast (xs (7 * j + 1)) (xs (7 * j + 2)))]) ⟨hx, hb, hml, hown, hts⟩ (c_X3_least l dC dI H.size cA m0 b3 b4 b5 b9 b11 b12 b14 b15 b16 tr (nI N) (nI st) (nI kd) (nI nw) (nI Z.1.length) (nI Z.2.2.2) (xs (7 * j + 1)) (xs (7 * j + 2)) Rg) (cwV 2 hts gL_law_X3_least rfl rfl rfl (by decide +kernel) ⟨Nat.le_of_ble_eq_true rfl, Nat.le_of_ble_eq_true rfl⟩) ⟨fun a U g mk q => by obtain ⟨q0, q1, qP, qK, qD⟩ := q; exact ⟨q0, q1, qP, va_K.moved (u := U) (U := U.calling g mk a) (Vm.Alike.refl U.vm) qK, qD⟩, va_recv hK hP (ci := 3) (q0 := 8) rfl rfl, fun U hU hW => ⟨rfl, by rw [hU], by rw [hU]; exact hPc, va_K.moved hW.alike hK, hDc.weaken (fun _ _ _ _ => trivial)⟩⟩ rfl rfl hl.1 rfl (lv_room (Nat.le_of_ble_eq_true rfl)) dL_law_456 ⟨Nat.le_of_ble_eq_true rfl, Nat.le_of_ble_eq_true rfl⟩) hS (fun q _ h => hFc q h) hFc (fun r_456 u_456 t_456 H1 locs ht_456 hvm_456 hw_456 hB_456 hz1 hk1 hS => ?_)
  obtain ⟨Rg1, eRg⟩ : ∃ z, z = u_456 := ⟨_, rfl⟩
  subst eRg
  obtain ⟨hP1, hK1, hD1⟩ := hB_456
  rw [ht_456] at hP1
  obtain ⟨hP, hD⟩ := va_join (wr := [(x0, .inr (2, [.ref h1, .ref h2, .long tr])), (h1, .inr (0, [.ref b0, .int (nI nw), .int (nI st), .int (nI kd)])), (b0, .inl (cA, 8, .inl WR)), (h2, .inr (1, [.ref a0, .ref a1, .ref a2, .ref a3, .int (nI N), .int (nI (bc (alv Z.2.1) N)), .int (nI Z.2.2.2), .int (nI Z.1.length)])), (a0, .inl (cA, 40, .inl LA)), (a1, .inl (cA, 40, .inl WA)), (a2, .inl (cA, 200, .inl CA)), (a3, .inl (cA, 200, .inl AA)), (b3, .inl (cA, 40, .inl LV)), (b4, .inl (cA, 40, .inl LM)), (b5, .inl (cA, 40, .inl WM)), (b9, .inl (cA, 8, .inl VR)), (b11, .inl (cA, 200, .inl CM)), (b12, .inl (cA, 200, .inl AM)), (b15, .inl (cA, 13, .inl Mi)), (b16, .inl (cA, 13, .inl Fo))]) (w1 := [(m0, .inr (3, [.int 0, .long tr, .int (nI N), .ref b3, .ref b4, .ref b5, .int (nI st), .int (nI kd), .int (nI nw), .ref b9, .int (nI Z.1.length), .ref b11, .ref b12, .int (nI Z.2.2.2), .ref b14, .ref b15, .ref b16])), (b14, .inl (cA, 20, .inl Rg1))]) hP hD [8, 15] [0, 1, 2, 3, 4, 5, 6, 7, 9, 10, 11, 12, 13, 14, 16, 17] rfl rfl (by decide) (by decide) hk1 hFc hP1 hD1
  generalize H1 = H at hP hS ⊢
  have hP := hP.sub (ws' := [(x0, .inr (2, [.ref h1, .ref h2, .long tr])), (h1, .inr (0, [.ref b0, .int (nI nw), .int (nI st), .int (nI kd)])), (b0, .inl (cA, 8, .inl WR)), (h2, .inr (1, [.ref a0, .ref a1, .ref a2, .ref a3, .int (nI N), .int (nI (bc (alv Z.2.1) N)), .int (nI Z.2.2.2), .int (nI Z.1.length)])), (a0, .inl (cA, 40, .inl LA)), (a1, .inl (cA, 40, .inl WA)), (a2, .inl (cA, 200, .inl CA)), (a3, .inl (cA, 200, .inl AA)), (m0, .inr (3, [.int 0, .long tr, .int (nI N), .ref b3, .ref b4, .ref b5, .int (nI st), .int (nI kd), .int (nI nw), .ref b9, .int (nI Z.1.length), .ref b11, .ref b12, .int (nI Z.2.2.2), .ref b14, .ref b15, .ref b16])), (b3, .inl (cA, 40, .inl LV)), (b4, .inl (cA, 40, .inl LM)), (b5, .inl (cA, 40, .inl WM)), (b9, .inl (cA, 8, .inl VR)), (b11, .inl (cA, 200, .inl CM)), (b12, .inl (cA, 200, .inl AM)), (b14, .inl (cA, 20, .inl Rg1)), (b15, .inl (cA, 13, .inl Mi)), (b16, .inl (cA, 13, .inl Fo))]) [0, 1, 2, 3, 4, 5, 6, 7, 16, 8, 9, 10, 11, 12, 13, 17, 14, 15] rfl
  have hD := hD.sub (ws' := [(x0, .inr (2, [.ref h1, .ref h2, .long tr])), (h1, .inr (0, [.ref b0, .int (nI nw), .int (nI st), .int (nI kd)])), (b0, .inl (cA, 8, .inl WR)), (h2, .inr (1, [.ref a0, .ref a1, .ref a2, .ref a3, .int (nI N), .int (nI (bc (alv Z.2.1) N)), .int (nI Z.2.2.2), .int (nI Z.1.length)])), (a0, .inl (cA, 40, .inl LA)), (a1, .inl (cA, 40, .inl WA)), (a2, .inl (cA, 200, .inl CA)), (a3, .inl (cA, 200, .inl AA)), (m0, .inr (3, [.int 0, .long tr, .int (nI N), .ref b3, .ref b4, .ref b5, .int (nI st), .int (nI kd), .int (nI nw), .ref b9, .int (nI Z.1.length), .ref b11, .ref b12, .int (nI Z.2.2.2), .ref b14, .ref b15, .ref b16])), (b3, .inl (cA, 40, .inl LV)), (b4, .inl (cA, 40, .inl LM)), (b5, .inl (cA, 40, .inl WM)), (b9, .inl (cA, 8, .inl VR)), (b11, .inl (cA, 200, .inl CM)), (b12, .inl (cA, 200, .inl AM)), (b14, .inl (cA, 20, .inl Rg1)), (b15, .inl (cA, 13, .inl Mi)), (b16, .inl (cA, 13, .inl Fo))]) [0, 1, 2, 3, 4, 5, 6, 7, 16, 8, 9, 10, 11, 12, 13, 17, 14, 15] (by decide) rfl
  subst hw_456
  refine lv_icmp_eq (tgt := 859) hx hb dL_law_459 (by decide) (fun c_459 => ?_) (fun c_459 => ?_)
  · exact kk ls _ _ ⟨N, Bl, Z, st, kd, nw, wd, tr, LA, WA, CA, AA, WR, LV, LM, WM, CM, AM, VR, Rg1, Mi, Fo, hG, hCS, hRX, hCX, hRM, hB, hCM, lv_sub hl [0, 1, 2, 3] rfl, hP, hD, hS⟩
  · exact absurd rfl c_459

set_option maxHeartbeats 4000000 in
set_option maxRecDepth 100000 in
theorem law_ring {p : Program} {l : Launch} {e : Env} {s : State} {m : MethodId} {below : List Frame} {meth : Method} {c : Code} {dC : Nat → ClassId} {dI : Nat → Nat → Nat} {b L : Nat} {xs : Nat → Int32} {A : Nat → Prop} {tt : Nat} {cA : ClassId} {x0 h1 h2 b0 a0 a1 a2 a3 m0 b3 b4 b5 b9 b11 b12 b14 b15 b16 j : Nat} {Q : State → Prop} {ls : Array Slot} {H : Heap} {locs : List Loc} (hL : L ≤ 3584) (hj : 7 * j + 7 ≤ L) (hx : p.tables.exec = Jvm.exec) (hb : c.code = code) (hml : c.maxLocals = 4) (hown : s.vm.findClass RL = some m.cls) (hts : ∀ w ∈ wsL_law, w.before #[Value.ref b] s = true) (hX : va_X b L xs s s.heap) (hbl : b < s.heap.size) (hbA : ¬ A b) (hA : ∀ q : Nat, s.heap.size ≤ q → A q) (hZ : va_Z "CountedOut$Counts" "TOLLS" "[I" (.ref tt) A s s.heap) (hT : va_T .int tt 3 (fun j => .int (tollN j)) A s s.heap) (hK : va_K (dC, dI) vwCl [(cA, .int)] s) (h : LI s dC dI A b cA x0 h1 h2 b0 a0 a1 a2 a3 m0 b3 b4 b5 b9 b11 b12 b14 b15 b16 j ls H locs) (kk : ∀ (ls : Array Slot) (H : Heap) (locs : List Loc), LI s dC dI A b cA x0 h1 h2 b0 a0 a1 a2 a3 m0 b3 b4 b5 b9 b11 b12 b14 b15 b16 j ls H locs → W p l e room_1 s m #[Value.ref b] below meth c H locs 18 1094 Q (F0 m 859 ls [])) : W p l e room_1 s m #[Value.ref b] below meth c H locs 18 1094 Q (F0 m 464 ls []) := by
  obtain ⟨N, Bl, Z, st, kd, nw, wd, tr, LA, WA, CA, AA, WR, LV, LM, WM, CM, AM, VR, Rg, Mi, Fo, hG, hCS, hRX, hCX, hRM, hB, hCM, hl, hP, hD, hS⟩ := h
  refine lv_aload_n hx hb dL_law_464 rfl (lv_at hl 1 rfl) ?_
  refine lv_aload_n hx hb dL_law_465 rfl (lv_at hl 0 rfl) ?_
  refine lv_iload_n hx hb dL_law_466 rfl (lv_at hl 3 rfl) ?_
  refine lv_iconst (v := 1) hx hb dL_law_467 (by decide) ?_
  refine lv_iadd hx hb dL_law_468 ?_
  refine z_i2 (y := nI (7 * j + 1)) (nI_add _ _) ?_
  refine z_sld hx hb hX hbl hbA hS (i := (7 * j + 1)) (by omega) (by omega) dL_law_469 ?_
  have hPc := hP.sub (ws' := [(x0, .inr (2, [.ref h1, .ref h2, .long tr])), (h2, .inr (1, [.ref a0, .ref a1, .ref a2, .ref a3, .int (nI N), .int (nI (bc (alv Z.2.1) N)), .int (nI Z.2.2.2), .int (nI Z.1.length)])), (a0, .inl (cA, 40, .inl LA)), (a1, .inl (cA, 40, .inl WA)), (a2, .inl (cA, 200, .inl CA)), (a3, .inl (cA, 200, .inl AA))]) [0, 3, 4, 5, 6, 7] rfl
  have hDc := hD.sub (ws' := [(x0, .inr (2, [.ref h1, .ref h2, .long tr])), (h2, .inr (1, [.ref a0, .ref a1, .ref a2, .ref a3, .int (nI N), .int (nI (bc (alv Z.2.1) N)), .int (nI Z.2.2.2), .int (nI Z.1.length)])), (a0, .inl (cA, 40, .inl LA)), (a1, .inl (cA, 40, .inl WA)), (a2, .inl (cA, 200, .inl CA)), (a3, .inl (cA, 200, .inl AA))]) [0, 3, 4, 5, 6, 7] (by decide) rfl
  have hFc := va_free (wc := [(x0, .inr (2, [.ref h1, .ref h2, .long tr])), (h2, .inr (1, [.ref a0, .ref a1, .ref a2, .ref a3, .int (nI N), .int (nI (bc (alv Z.2.1) N)), .int (nI Z.2.2.2), .int (nI Z.1.length)])), (a0, .inl (cA, 40, .inl LA)), (a1, .inl (cA, 40, .inl WA)), (a2, .inl (cA, 200, .inl CA)), (a3, .inl (cA, 200, .inl AA))]) hD hS hA [0, 3, 4, 5, 6, 7] rfl
  refine va_calli (va_runV (As := [.int (xs (7 * j + 1))]) (rest := []) ⟨hx, hb, hml, hown, hts⟩ (c_X2_ring l dC dI H.size cA x0 h1 h2 b0 a0 a1 a2 a3 tr Bl N Z LA WA CA AA hG hRX (xs (7 * j + 1))) (cwV 1 hts gL_law_X2_ring rfl rfl rfl (by decide +kernel) ⟨Nat.le_of_ble_eq_true rfl, Nat.le_of_ble_eq_true rfl⟩) ⟨fun a U g mk q => by obtain ⟨q0, q1, qP, qK, qD⟩ := q; exact ⟨q0, q1, qP, va_K.moved (u := U) (U := U.calling g mk a) (Vm.Alike.refl U.vm) qK, qD⟩, va_recv hK hP (ci := 2) (q0 := 0) rfl rfl, fun U hU hW => ⟨rfl, by rw [hU], by rw [hU]; exact hPc, va_K.moved hW.alike hK, hDc.weaken (fun _ _ _ _ => trivial)⟩⟩ rfl rfl hl.1 rfl (lv_room (Nat.le_of_ble_eq_true rfl)) dL_law_470 ⟨Nat.le_of_ble_eq_true rfl, Nat.le_of_ble_eq_true rfl⟩) hS (fun q _ h => hFc q h) hFc (fun r_470 u_470 t_470 H1 locs ht_470 hvm_470 hw_470 hB_470 hz1 hk1 hS => ?_)
  obtain ⟨N1, B1, Z1, LA1, WA1, CA1, AA1⟩ := u_470
  obtain ⟨e1, hG1, hRX1⟩ := hw_470
  obtain ⟨hP1, hK1, hD1⟩ := hB_470
  rw [ht_470] at hP1
  obtain ⟨hP, hD⟩ := va_join (wr := [(h1, .inr (0, [.ref b0, .int (nI nw), .int (nI st), .int (nI kd)])), (b0, .inl (cA, 8, .inl WR)), (m0, .inr (3, [.int 0, .long tr, .int (nI N), .ref b3, .ref b4, .ref b5, .int (nI st), .int (nI kd), .int (nI nw), .ref b9, .int (nI Z.1.length), .ref b11, .ref b12, .int (nI Z.2.2.2), .ref b14, .ref b15, .ref b16])), (b3, .inl (cA, 40, .inl LV)), (b4, .inl (cA, 40, .inl LM)), (b5, .inl (cA, 40, .inl WM)), (b9, .inl (cA, 8, .inl VR)), (b11, .inl (cA, 200, .inl CM)), (b12, .inl (cA, 200, .inl AM)), (b14, .inl (cA, 20, .inl Rg)), (b15, .inl (cA, 13, .inl Mi)), (b16, .inl (cA, 13, .inl Fo))]) (w1 := [(x0, .inr (2, [.ref h1, .ref h2, .long tr])), (h2, .inr (1, [.ref a0, .ref a1, .ref a2, .ref a3, .int (nI N1), .int (nI (bc (alv Z1.2.1) N1)), .int (nI Z1.2.2.2), .int (nI Z1.1.length)])), (a0, .inl (cA, 40, .inl LA1)), (a1, .inl (cA, 40, .inl WA1)), (a2, .inl (cA, 200, .inl CA1)), (a3, .inl (cA, 200, .inl AA1))]) hP hD [0, 3, 4, 5, 6, 7] [1, 2, 8, 9, 10, 11, 12, 13, 14, 15, 16, 17] rfl rfl (by decide) (by decide) hk1 hFc hP1 hD1
  generalize H1 = H at hP hS ⊢
  have hP := hP.sub (ws' := [(x0, .inr (2, [.ref h1, .ref h2, .long tr])), (h1, .inr (0, [.ref b0, .int (nI nw), .int (nI st), .int (nI kd)])), (b0, .inl (cA, 8, .inl WR)), (h2, .inr (1, [.ref a0, .ref a1, .ref a2, .ref a3, .int (nI N1), .int (nI (bc (alv Z1.2.1) N1)), .int (nI Z1.2.2.2), .int (nI Z1.1.length)])), (a0, .inl (cA, 40, .inl LA1)), (a1, .inl (cA, 40, .inl WA1)), (a2, .inl (cA, 200, .inl CA1)), (a3, .inl (cA, 200, .inl AA1)), (m0, .inr (3, [.int 0, .long tr, .int (nI N), .ref b3, .ref b4, .ref b5, .int (nI st), .int (nI kd), .int (nI nw), .ref b9, .int (nI Z.1.length), .ref b11, .ref b12, .int (nI Z.2.2.2), .ref b14, .ref b15, .ref b16])), (b3, .inl (cA, 40, .inl LV)), (b4, .inl (cA, 40, .inl LM)), (b5, .inl (cA, 40, .inl WM)), (b9, .inl (cA, 8, .inl VR)), (b11, .inl (cA, 200, .inl CM)), (b12, .inl (cA, 200, .inl AM)), (b14, .inl (cA, 20, .inl Rg)), (b15, .inl (cA, 13, .inl Mi)), (b16, .inl (cA, 13, .inl Fo))]) [12, 0, 1, 13, 14, 15, 16, 17, 2, 3, 4, 5, 6, 7, 8, 9, 10, 11] rfl
  have hD := hD.sub (ws' := [(x0, .inr (2, [.ref h1, .ref h2, .long tr])), (h1, .inr (0, [.ref b0, .int (nI nw), .int (nI st), .int (nI kd)])), (b0, .inl (cA, 8, .inl WR)), (h2, .inr (1, [.ref a0, .ref a1, .ref a2, .ref a3, .int (nI N1), .int (nI (bc (alv Z1.2.1) N1)), .int (nI Z1.2.2.2), .int (nI Z1.1.length)])), (a0, .inl (cA, 40, .inl LA1)), (a1, .inl (cA, 40, .inl WA1)), (a2, .inl (cA, 200, .inl CA1)), (a3, .inl (cA, 200, .inl AA1)), (m0, .inr (3, [.int 0, .long tr, .int (nI N), .ref b3, .ref b4, .ref b5, .int (nI st), .int (nI kd), .int (nI nw), .ref b9, .int (nI Z.1.length), .ref b11, .ref b12, .int (nI Z.2.2.2), .ref b14, .ref b15, .ref b16])), (b3, .inl (cA, 40, .inl LV)), (b4, .inl (cA, 40, .inl LM)), (b5, .inl (cA, 40, .inl WM)), (b9, .inl (cA, 8, .inl VR)), (b11, .inl (cA, 200, .inl CM)), (b12, .inl (cA, 200, .inl AM)), (b14, .inl (cA, 20, .inl Rg)), (b15, .inl (cA, 13, .inl Mi)), (b16, .inl (cA, 13, .inl Fo))]) [12, 0, 1, 13, 14, 15, 16, 17, 2, 3, 4, 5, 6, 7, 8, 9, 10, 11] (by decide) rfl
  refine lv_aload_n hx hb dL_law_473 rfl (lv_at hl 2 rfl) ?_
  refine lv_aload_n hx hb dL_law_474 rfl (lv_at hl 0 rfl) ?_
  refine lv_iload_n hx hb dL_law_475 rfl (lv_at hl 3 rfl) ?_
  refine lv_iconst (v := 1) hx hb dL_law_476 (by decide) ?_
  refine lv_iadd hx hb dL_law_477 ?_
  refine z_i2 (y := nI (7 * j + 1)) (nI_add _ _) ?_
  refine z_sld hx hb hX hbl hbA hS (i := (7 * j + 1)) (by omega) (by omega) dL_law_478 ?_
  have hPc := hP.sub (ws' := [(m0, .inr (3, [.int 0, .long tr, .int (nI N), .ref b3, .ref b4, .ref b5, .int (nI st), .int (nI kd), .int (nI nw), .ref b9, .int (nI Z.1.length), .ref b11, .ref b12, .int (nI Z.2.2.2), .ref b14, .ref b15, .ref b16])), (b3, .inl (cA, 40, .inl LV)), (b4, .inl (cA, 40, .inl LM)), (b5, .inl (cA, 40, .inl WM)), (b11, .inl (cA, 200, .inl CM)), (b12, .inl (cA, 200, .inl AM))]) [8, 9, 10, 11, 13, 14] rfl
  have hDc := hD.sub (ws' := [(m0, .inr (3, [.int 0, .long tr, .int (nI N), .ref b3, .ref b4, .ref b5, .int (nI st), .int (nI kd), .int (nI nw), .ref b9, .int (nI Z.1.length), .ref b11, .ref b12, .int (nI Z.2.2.2), .ref b14, .ref b15, .ref b16])), (b3, .inl (cA, 40, .inl LV)), (b4, .inl (cA, 40, .inl LM)), (b5, .inl (cA, 40, .inl WM)), (b11, .inl (cA, 200, .inl CM)), (b12, .inl (cA, 200, .inl AM))]) [8, 9, 10, 11, 13, 14] (by decide) rfl
  have hFc := va_free (wc := [(m0, .inr (3, [.int 0, .long tr, .int (nI N), .ref b3, .ref b4, .ref b5, .int (nI st), .int (nI kd), .int (nI nw), .ref b9, .int (nI Z.1.length), .ref b11, .ref b12, .int (nI Z.2.2.2), .ref b14, .ref b15, .ref b16])), (b3, .inl (cA, 40, .inl LV)), (b4, .inl (cA, 40, .inl LM)), (b5, .inl (cA, 40, .inl WM)), (b11, .inl (cA, 200, .inl CM)), (b12, .inl (cA, 200, .inl AM))]) hD hS hA [8, 9, 10, 11, 13, 14] rfl
  refine va_calli (va_runV (As := [.int (xs (7 * j + 1))]) (rest := [.int r_470]) ⟨hx, hb, hml, hown, hts⟩ (c_X3_ring l dC dI H.size cA m0 b3 b4 b5 b9 b11 b12 b14 b15 b16 tr Bl N Z LM WM CM AM hG hRM LV hB (nI st) (nI kd) (nI nw) (xs (7 * j + 1))) (cwV 1 hts gL_law_X3_ring rfl rfl rfl (by decide +kernel) ⟨Nat.le_of_ble_eq_true rfl, Nat.le_of_ble_eq_true rfl⟩) ⟨fun a U g mk q => by obtain ⟨q0, q1, qP, qK, qD⟩ := q; exact ⟨q0, q1, qP, va_K.moved (u := U) (U := U.calling g mk a) (Vm.Alike.refl U.vm) qK, qD⟩, va_recv hK hP (ci := 3) (q0 := 8) rfl rfl, fun U hU hW => ⟨rfl, by rw [hU], by rw [hU]; exact hPc, va_K.moved hW.alike hK, hDc.weaken (fun _ _ _ _ => trivial)⟩⟩ rfl rfl hl.1 rfl (lv_room (Nat.le_of_ble_eq_true rfl)) dL_law_479 ⟨Nat.le_of_ble_eq_true rfl, Nat.le_of_ble_eq_true rfl⟩) hS (fun q _ h => hFc q h) hFc (fun r_479 u_479 t_479 H1 locs ht_479 hvm_479 hw_479 hB_479 hz1 hk1 hS => ?_)
  obtain ⟨N2, B2, Z2, LV1, LM1, WM1, CM1, AM1⟩ := u_479
  obtain ⟨e2, hRM1, hB1⟩ := hw_479
  obtain ⟨hP1, hK1, hD1⟩ := hB_479
  rw [ht_479] at hP1
  obtain ⟨hP, hD⟩ := va_join (wr := [(x0, .inr (2, [.ref h1, .ref h2, .long tr])), (h1, .inr (0, [.ref b0, .int (nI nw), .int (nI st), .int (nI kd)])), (b0, .inl (cA, 8, .inl WR)), (h2, .inr (1, [.ref a0, .ref a1, .ref a2, .ref a3, .int (nI N1), .int (nI (bc (alv Z1.2.1) N1)), .int (nI Z1.2.2.2), .int (nI Z1.1.length)])), (a0, .inl (cA, 40, .inl LA1)), (a1, .inl (cA, 40, .inl WA1)), (a2, .inl (cA, 200, .inl CA1)), (a3, .inl (cA, 200, .inl AA1)), (b9, .inl (cA, 8, .inl VR)), (b14, .inl (cA, 20, .inl Rg)), (b15, .inl (cA, 13, .inl Mi)), (b16, .inl (cA, 13, .inl Fo))]) (w1 := [(m0, .inr (3, [.int 0, .long tr, .int (nI N2), .ref b3, .ref b4, .ref b5, .int (nI st), .int (nI kd), .int (nI nw), .ref b9, .int (nI Z2.1.length), .ref b11, .ref b12, .int (nI Z2.2.2.2), .ref b14, .ref b15, .ref b16])), (b3, .inl (cA, 40, .inl LV1)), (b4, .inl (cA, 40, .inl LM1)), (b5, .inl (cA, 40, .inl WM1)), (b11, .inl (cA, 200, .inl CM1)), (b12, .inl (cA, 200, .inl AM1))]) hP hD [8, 9, 10, 11, 13, 14] [0, 1, 2, 3, 4, 5, 6, 7, 12, 15, 16, 17] rfl rfl (by decide) (by decide) hk1 hFc hP1 hD1
  generalize H1 = H at hP hS ⊢
  have hP := hP.sub (ws' := [(x0, .inr (2, [.ref h1, .ref h2, .long tr])), (h1, .inr (0, [.ref b0, .int (nI nw), .int (nI st), .int (nI kd)])), (b0, .inl (cA, 8, .inl WR)), (h2, .inr (1, [.ref a0, .ref a1, .ref a2, .ref a3, .int (nI N1), .int (nI (bc (alv Z1.2.1) N1)), .int (nI Z1.2.2.2), .int (nI Z1.1.length)])), (a0, .inl (cA, 40, .inl LA1)), (a1, .inl (cA, 40, .inl WA1)), (a2, .inl (cA, 200, .inl CA1)), (a3, .inl (cA, 200, .inl AA1)), (m0, .inr (3, [.int 0, .long tr, .int (nI N2), .ref b3, .ref b4, .ref b5, .int (nI st), .int (nI kd), .int (nI nw), .ref b9, .int (nI Z2.1.length), .ref b11, .ref b12, .int (nI Z2.2.2.2), .ref b14, .ref b15, .ref b16])), (b3, .inl (cA, 40, .inl LV1)), (b4, .inl (cA, 40, .inl LM1)), (b5, .inl (cA, 40, .inl WM1)), (b9, .inl (cA, 8, .inl VR)), (b11, .inl (cA, 200, .inl CM1)), (b12, .inl (cA, 200, .inl AM1)), (b14, .inl (cA, 20, .inl Rg)), (b15, .inl (cA, 13, .inl Mi)), (b16, .inl (cA, 13, .inl Fo))]) [0, 1, 2, 3, 4, 5, 6, 7, 12, 13, 14, 15, 8, 16, 17, 9, 10, 11] rfl
  have hD := hD.sub (ws' := [(x0, .inr (2, [.ref h1, .ref h2, .long tr])), (h1, .inr (0, [.ref b0, .int (nI nw), .int (nI st), .int (nI kd)])), (b0, .inl (cA, 8, .inl WR)), (h2, .inr (1, [.ref a0, .ref a1, .ref a2, .ref a3, .int (nI N1), .int (nI (bc (alv Z1.2.1) N1)), .int (nI Z1.2.2.2), .int (nI Z1.1.length)])), (a0, .inl (cA, 40, .inl LA1)), (a1, .inl (cA, 40, .inl WA1)), (a2, .inl (cA, 200, .inl CA1)), (a3, .inl (cA, 200, .inl AA1)), (m0, .inr (3, [.int 0, .long tr, .int (nI N2), .ref b3, .ref b4, .ref b5, .int (nI st), .int (nI kd), .int (nI nw), .ref b9, .int (nI Z2.1.length), .ref b11, .ref b12, .int (nI Z2.2.2.2), .ref b14, .ref b15, .ref b16])), (b3, .inl (cA, 40, .inl LV1)), (b4, .inl (cA, 40, .inl LM1)), (b5, .inl (cA, 40, .inl WM1)), (b9, .inl (cA, 8, .inl VR)), (b11, .inl (cA, 200, .inl CM1)), (b12, .inl (cA, 200, .inl AM1)), (b14, .inl (cA, 20, .inl Rg)), (b15, .inl (cA, 13, .inl Mi)), (b16, .inl (cA, 13, .inl Fo))]) [0, 1, 2, 3, 4, 5, 6, 7, 12, 13, 14, 15, 8, 16, 17, 9, 10, 11] (by decide) rfl
  have e9 := e1.trans e2.symm
  simp only [Prod.mk.injEq] at e9
  obtain ⟨rfl, rfl, rfl, rfl⟩ := e9
  refine lv_icmp_eq (tgt := 859) hx hb dL_law_482 (by decide) (fun c_482 => ?_) (fun c_482 => ?_)
  · exact kk ls _ _ ⟨N1, B1, Z1, st, kd, nw, wd, tr, LA1, WA1, CA1, AA1, WR, LV1, LM1, WM1, CM1, AM1, VR, Rg, Mi, Fo, hG1, hCS, hRX1, hCX, hRM1, hB1, hCM, lv_sub hl [0, 1, 2, 3] rfl, hP, hD, hS⟩
  · exact absurd rfl c_482

set_option maxHeartbeats 4000000 in
set_option maxRecDepth 100000 in
theorem law_lives {p : Program} {l : Launch} {e : Env} {s : State} {m : MethodId} {below : List Frame} {meth : Method} {c : Code} {dC : Nat → ClassId} {dI : Nat → Nat → Nat} {b L : Nat} {xs : Nat → Int32} {A : Nat → Prop} {tt : Nat} {cA : ClassId} {x0 h1 h2 b0 a0 a1 a2 a3 m0 b3 b4 b5 b9 b11 b12 b14 b15 b16 j : Nat} {Q : State → Prop} {ls : Array Slot} {H : Heap} {locs : List Loc} (hL : L ≤ 3584) (hj : 7 * j + 7 ≤ L) (hx : p.tables.exec = Jvm.exec) (hb : c.code = code) (hml : c.maxLocals = 4) (hown : s.vm.findClass RL = some m.cls) (hts : ∀ w ∈ wsL_law, w.before #[Value.ref b] s = true) (hX : va_X b L xs s s.heap) (hbl : b < s.heap.size) (hbA : ¬ A b) (hA : ∀ q : Nat, s.heap.size ≤ q → A q) (hZ : va_Z "CountedOut$Counts" "TOLLS" "[I" (.ref tt) A s s.heap) (hT : va_T .int tt 3 (fun j => .int (tollN j)) A s s.heap) (hK : va_K (dC, dI) vwCl [(cA, .int)] s) (h : LI s dC dI A b cA x0 h1 h2 b0 a0 a1 a2 a3 m0 b3 b4 b5 b9 b11 b12 b14 b15 b16 j ls H locs) (kk : ∀ (ls : Array Slot) (H : Heap) (locs : List Loc), LI s dC dI A b cA x0 h1 h2 b0 a0 a1 a2 a3 m0 b3 b4 b5 b9 b11 b12 b14 b15 b16 j ls H locs → W p l e room_1 s m #[Value.ref b] below meth c H locs 18 1094 Q (F0 m 859 ls [])) : W p l e room_1 s m #[Value.ref b] below meth c H locs 18 1094 Q (F0 m 487 ls []) := by
  obtain ⟨N, Bl, Z, st, kd, nw, wd, tr, LA, WA, CA, AA, WR, LV, LM, WM, CM, AM, VR, Rg, Mi, Fo, hG, hCS, hRX, hCX, hRM, hB, hCM, hl, hP, hD, hS⟩ := h
  refine lv_aload_n hx hb dL_law_487 rfl (lv_at hl 1 rfl) ?_
  refine lv_aload_n hx hb dL_law_488 rfl (lv_at hl 0 rfl) ?_
  refine lv_iload_n hx hb dL_law_489 rfl (lv_at hl 3 rfl) ?_
  refine lv_iconst (v := 1) hx hb dL_law_490 (by decide) ?_
  refine lv_iadd hx hb dL_law_491 ?_
  refine z_i2 (y := nI (7 * j + 1)) (nI_add _ _) ?_
  refine z_sld hx hb hX hbl hbA hS (i := (7 * j + 1)) (by omega) (by omega) dL_law_492 ?_
  refine lv_aload_n hx hb dL_law_493 rfl (lv_at hl 0 rfl) ?_
  refine lv_iload_n hx hb dL_law_494 rfl (lv_at hl 3 rfl) ?_
  refine lv_iconst (v := 2) hx hb dL_law_495 (by decide) ?_
  refine lv_iadd hx hb dL_law_496 ?_
  refine z_i2 (y := nI (7 * j + 2)) (nI_add _ _) ?_
  refine z_sld hx hb hX hbl hbA hS (i := (7 * j + 2)) (by omega) (by omega) dL_law_497 ?_
  have hPc := hP.sub (ws' := [(x0, .inr (2, [.ref h1, .ref h2, .long tr])), (h2, .inr (1, [.ref a0, .ref a1, .ref a2, .ref a3, .int (nI N), .int (nI (bc (alv Z.2.1) N)), .int (nI Z.2.2.2), .int (nI Z.1.length)])), (a0, .inl (cA, 40, .inl LA))]) [0, 3, 4] rfl
  have hDc := hD.sub (ws' := [(x0, .inr (2, [.ref h1, .ref h2, .long tr])), (h2, .inr (1, [.ref a0, .ref a1, .ref a2, .ref a3, .int (nI N), .int (nI (bc (alv Z.2.1) N)), .int (nI Z.2.2.2), .int (nI Z.1.length)])), (a0, .inl (cA, 40, .inl LA))]) [0, 3, 4] (by decide) rfl
  have hFc := va_free (wc := [(x0, .inr (2, [.ref h1, .ref h2, .long tr])), (h2, .inr (1, [.ref a0, .ref a1, .ref a2, .ref a3, .int (nI N), .int (nI (bc (alv Z.2.1) N)), .int (nI Z.2.2.2), .int (nI Z.1.length)])), (a0, .inl (cA, 40, .inl LA))]) hD hS hA [0, 3, 4] rfl
  refine va_calli (va_runV (As := [.int (xs (7 * j + 1)), .int (xs (7 * j + 2))]) (rest := []) ⟨hx, hb, hml, hown, hts⟩ (c_X2_lives l dC dI H.size cA x0 h1 h2 b0 a0 a1 a2 a3 tr Bl N Z.1 Z.2.1 Z.2.2.1 Z.2.2.2 LA WA CA AA hG hRX (xs (7 * j + 1)) (xs (7 * j + 2))) (cwV 2 hts gL_law_X2_lives rfl rfl rfl (by decide +kernel) ⟨Nat.le_of_ble_eq_true rfl, Nat.le_of_ble_eq_true rfl⟩) ⟨fun a U g mk q => by obtain ⟨q0, q1, qP, qK, qD⟩ := q; exact ⟨q0, q1, qP, va_K.moved (u := U) (U := U.calling g mk a) (Vm.Alike.refl U.vm) qK, qD⟩, va_recv hK hP (ci := 2) (q0 := 0) rfl rfl, fun U hU hW => ⟨rfl, by rw [hU], by rw [hU]; exact hPc, va_K.moved hW.alike hK, hDc.weaken (fun _ _ _ _ => trivial)⟩⟩ rfl rfl hl.1 rfl (lv_room (Nat.le_of_ble_eq_true rfl)) dL_law_498 ⟨Nat.le_of_ble_eq_true rfl, Nat.le_of_ble_eq_true rfl⟩) hS (fun q _ h => hFc q h) hFc (fun r_498 u_498 t_498 H1 locs ht_498 hvm_498 hw_498 hB_498 hz1 hk1 hS => ?_)
  obtain ⟨B1, Z1, LA1⟩ := u_498
  obtain ⟨e1, hG1, hRX1⟩ := hw_498
  obtain ⟨hP1, hK1, hD1⟩ := hB_498
  rw [ht_498] at hP1
  obtain ⟨hP, hD⟩ := va_join (wr := [(h1, .inr (0, [.ref b0, .int (nI nw), .int (nI st), .int (nI kd)])), (b0, .inl (cA, 8, .inl WR)), (a1, .inl (cA, 40, .inl WA)), (a2, .inl (cA, 200, .inl CA)), (a3, .inl (cA, 200, .inl AA)), (m0, .inr (3, [.int 0, .long tr, .int (nI N), .ref b3, .ref b4, .ref b5, .int (nI st), .int (nI kd), .int (nI nw), .ref b9, .int (nI Z.1.length), .ref b11, .ref b12, .int (nI Z.2.2.2), .ref b14, .ref b15, .ref b16])), (b3, .inl (cA, 40, .inl LV)), (b4, .inl (cA, 40, .inl LM)), (b5, .inl (cA, 40, .inl WM)), (b9, .inl (cA, 8, .inl VR)), (b11, .inl (cA, 200, .inl CM)), (b12, .inl (cA, 200, .inl AM)), (b14, .inl (cA, 20, .inl Rg)), (b15, .inl (cA, 13, .inl Mi)), (b16, .inl (cA, 13, .inl Fo))]) (w1 := [(x0, .inr (2, [.ref h1, .ref h2, .long tr])), (h2, .inr (1, [.ref a0, .ref a1, .ref a2, .ref a3, .int (nI N), .int (nI (bc (alv Z1.2.1) N)), .int (nI Z1.2.2.2), .int (nI Z1.1.length)])), (a0, .inl (cA, 40, .inl LA1))]) hP hD [0, 3, 4] [1, 2, 5, 6, 7, 8, 9, 10, 11, 12, 13, 14, 15, 16, 17] rfl rfl (by decide) (by decide) hk1 hFc hP1 hD1
  generalize H1 = H at hP hS ⊢
  have hP := hP.sub (ws' := [(x0, .inr (2, [.ref h1, .ref h2, .long tr])), (h1, .inr (0, [.ref b0, .int (nI nw), .int (nI st), .int (nI kd)])), (b0, .inl (cA, 8, .inl WR)), (h2, .inr (1, [.ref a0, .ref a1, .ref a2, .ref a3, .int (nI N), .int (nI (bc (alv Z1.2.1) N)), .int (nI Z1.2.2.2), .int (nI Z1.1.length)])), (a0, .inl (cA, 40, .inl LA1)), (a1, .inl (cA, 40, .inl WA)), (a2, .inl (cA, 200, .inl CA)), (a3, .inl (cA, 200, .inl AA)), (m0, .inr (3, [.int 0, .long tr, .int (nI N), .ref b3, .ref b4, .ref b5, .int (nI st), .int (nI kd), .int (nI nw), .ref b9, .int (nI Z.1.length), .ref b11, .ref b12, .int (nI Z.2.2.2), .ref b14, .ref b15, .ref b16])), (b3, .inl (cA, 40, .inl LV)), (b4, .inl (cA, 40, .inl LM)), (b5, .inl (cA, 40, .inl WM)), (b9, .inl (cA, 8, .inl VR)), (b11, .inl (cA, 200, .inl CM)), (b12, .inl (cA, 200, .inl AM)), (b14, .inl (cA, 20, .inl Rg)), (b15, .inl (cA, 13, .inl Mi)), (b16, .inl (cA, 13, .inl Fo))]) [15, 0, 1, 16, 17, 2, 3, 4, 5, 6, 7, 8, 9, 10, 11, 12, 13, 14] rfl
  have hD := hD.sub (ws' := [(x0, .inr (2, [.ref h1, .ref h2, .long tr])), (h1, .inr (0, [.ref b0, .int (nI nw), .int (nI st), .int (nI kd)])), (b0, .inl (cA, 8, .inl WR)), (h2, .inr (1, [.ref a0, .ref a1, .ref a2, .ref a3, .int (nI N), .int (nI (bc (alv Z1.2.1) N)), .int (nI Z1.2.2.2), .int (nI Z1.1.length)])), (a0, .inl (cA, 40, .inl LA1)), (a1, .inl (cA, 40, .inl WA)), (a2, .inl (cA, 200, .inl CA)), (a3, .inl (cA, 200, .inl AA)), (m0, .inr (3, [.int 0, .long tr, .int (nI N), .ref b3, .ref b4, .ref b5, .int (nI st), .int (nI kd), .int (nI nw), .ref b9, .int (nI Z.1.length), .ref b11, .ref b12, .int (nI Z.2.2.2), .ref b14, .ref b15, .ref b16])), (b3, .inl (cA, 40, .inl LV)), (b4, .inl (cA, 40, .inl LM)), (b5, .inl (cA, 40, .inl WM)), (b9, .inl (cA, 8, .inl VR)), (b11, .inl (cA, 200, .inl CM)), (b12, .inl (cA, 200, .inl AM)), (b14, .inl (cA, 20, .inl Rg)), (b15, .inl (cA, 13, .inl Mi)), (b16, .inl (cA, 13, .inl Fo))]) [15, 0, 1, 16, 17, 2, 3, 4, 5, 6, 7, 8, 9, 10, 11, 12, 13, 14] (by decide) rfl
  refine lv_aload_n hx hb dL_law_501 rfl (lv_at hl 2 rfl) ?_
  refine lv_aload_n hx hb dL_law_502 rfl (lv_at hl 0 rfl) ?_
  refine lv_iload_n hx hb dL_law_503 rfl (lv_at hl 3 rfl) ?_
  refine lv_iconst (v := 1) hx hb dL_law_504 (by decide) ?_
  refine lv_iadd hx hb dL_law_505 ?_
  refine z_i2 (y := nI (7 * j + 1)) (nI_add _ _) ?_
  refine z_sld hx hb hX hbl hbA hS (i := (7 * j + 1)) (by omega) (by omega) dL_law_506 ?_
  refine lv_aload_n hx hb dL_law_507 rfl (lv_at hl 0 rfl) ?_
  refine lv_iload_n hx hb dL_law_508 rfl (lv_at hl 3 rfl) ?_
  refine lv_iconst (v := 2) hx hb dL_law_509 (by decide) ?_
  refine lv_iadd hx hb dL_law_510 ?_
  refine z_i2 (y := nI (7 * j + 2)) (nI_add _ _) ?_
  refine z_sld hx hb hX hbl hbA hS (i := (7 * j + 2)) (by omega) (by omega) dL_law_511 ?_
  have hPc := hP.sub (ws' := [(m0, .inr (3, [.int 0, .long tr, .int (nI N), .ref b3, .ref b4, .ref b5, .int (nI st), .int (nI kd), .int (nI nw), .ref b9, .int (nI Z.1.length), .ref b11, .ref b12, .int (nI Z.2.2.2), .ref b14, .ref b15, .ref b16])), (b3, .inl (cA, 40, .inl LV)), (b4, .inl (cA, 40, .inl LM))]) [8, 9, 10] rfl
  have hDc := hD.sub (ws' := [(m0, .inr (3, [.int 0, .long tr, .int (nI N), .ref b3, .ref b4, .ref b5, .int (nI st), .int (nI kd), .int (nI nw), .ref b9, .int (nI Z.1.length), .ref b11, .ref b12, .int (nI Z.2.2.2), .ref b14, .ref b15, .ref b16])), (b3, .inl (cA, 40, .inl LV)), (b4, .inl (cA, 40, .inl LM))]) [8, 9, 10] (by decide) rfl
  have hFc := va_free (wc := [(m0, .inr (3, [.int 0, .long tr, .int (nI N), .ref b3, .ref b4, .ref b5, .int (nI st), .int (nI kd), .int (nI nw), .ref b9, .int (nI Z.1.length), .ref b11, .ref b12, .int (nI Z.2.2.2), .ref b14, .ref b15, .ref b16])), (b3, .inl (cA, 40, .inl LV)), (b4, .inl (cA, 40, .inl LM))]) hD hS hA [8, 9, 10] rfl
  refine va_calli (va_runV (As := [.int (xs (7 * j + 1)), .int (xs (7 * j + 2))]) (rest := [.int r_498]) ⟨hx, hb, hml, hown, hts⟩ (c_X3_lives l dC dI H.size cA m0 b3 b4 b5 b9 b11 b12 b14 b15 b16 tr Bl N Z.1 Z.2.1 Z.2.2.1 Z.2.2.2 LM WM CM AM hG hRM LV hB (nI st) (nI kd) (nI nw) (xs (7 * j + 1)) (xs (7 * j + 2))) (cwV 2 hts gL_law_X3_lives rfl rfl rfl (by decide +kernel) ⟨Nat.le_of_ble_eq_true rfl, Nat.le_of_ble_eq_true rfl⟩) ⟨fun a U g mk q => by obtain ⟨q0, q1, qP, qK, qD⟩ := q; exact ⟨q0, q1, qP, va_K.moved (u := U) (U := U.calling g mk a) (Vm.Alike.refl U.vm) qK, qD⟩, va_recv hK hP (ci := 3) (q0 := 8) rfl rfl, fun U hU hW => ⟨rfl, by rw [hU], by rw [hU]; exact hPc, va_K.moved hW.alike hK, hDc.weaken (fun _ _ _ _ => trivial)⟩⟩ rfl rfl hl.1 rfl (lv_room (Nat.le_of_ble_eq_true rfl)) dL_law_512 ⟨Nat.le_of_ble_eq_true rfl, Nat.le_of_ble_eq_true rfl⟩) hS (fun q _ h => hFc q h) hFc (fun r_512 u_512 t_512 H1 locs ht_512 hvm_512 hw_512 hB_512 hz1 hk1 hS => ?_)
  obtain ⟨B2, Z2, LV1, LM1⟩ := u_512
  obtain ⟨e2, hRM1, hB1⟩ := hw_512
  obtain ⟨hP1, hK1, hD1⟩ := hB_512
  rw [ht_512] at hP1
  obtain ⟨hP, hD⟩ := va_join (wr := [(x0, .inr (2, [.ref h1, .ref h2, .long tr])), (h1, .inr (0, [.ref b0, .int (nI nw), .int (nI st), .int (nI kd)])), (b0, .inl (cA, 8, .inl WR)), (h2, .inr (1, [.ref a0, .ref a1, .ref a2, .ref a3, .int (nI N), .int (nI (bc (alv Z1.2.1) N)), .int (nI Z1.2.2.2), .int (nI Z1.1.length)])), (a0, .inl (cA, 40, .inl LA1)), (a1, .inl (cA, 40, .inl WA)), (a2, .inl (cA, 200, .inl CA)), (a3, .inl (cA, 200, .inl AA)), (b5, .inl (cA, 40, .inl WM)), (b9, .inl (cA, 8, .inl VR)), (b11, .inl (cA, 200, .inl CM)), (b12, .inl (cA, 200, .inl AM)), (b14, .inl (cA, 20, .inl Rg)), (b15, .inl (cA, 13, .inl Mi)), (b16, .inl (cA, 13, .inl Fo))]) (w1 := [(m0, .inr (3, [.int 0, .long tr, .int (nI N), .ref b3, .ref b4, .ref b5, .int (nI st), .int (nI kd), .int (nI nw), .ref b9, .int (nI Z2.1.length), .ref b11, .ref b12, .int (nI Z2.2.2.2), .ref b14, .ref b15, .ref b16])), (b3, .inl (cA, 40, .inl LV1)), (b4, .inl (cA, 40, .inl LM1))]) hP hD [8, 9, 10] [0, 1, 2, 3, 4, 5, 6, 7, 11, 12, 13, 14, 15, 16, 17] rfl rfl (by decide) (by decide) hk1 hFc hP1 hD1
  generalize H1 = H at hP hS ⊢
  have hP := hP.sub (ws' := [(x0, .inr (2, [.ref h1, .ref h2, .long tr])), (h1, .inr (0, [.ref b0, .int (nI nw), .int (nI st), .int (nI kd)])), (b0, .inl (cA, 8, .inl WR)), (h2, .inr (1, [.ref a0, .ref a1, .ref a2, .ref a3, .int (nI N), .int (nI (bc (alv Z1.2.1) N)), .int (nI Z1.2.2.2), .int (nI Z1.1.length)])), (a0, .inl (cA, 40, .inl LA1)), (a1, .inl (cA, 40, .inl WA)), (a2, .inl (cA, 200, .inl CA)), (a3, .inl (cA, 200, .inl AA)), (m0, .inr (3, [.int 0, .long tr, .int (nI N), .ref b3, .ref b4, .ref b5, .int (nI st), .int (nI kd), .int (nI nw), .ref b9, .int (nI Z2.1.length), .ref b11, .ref b12, .int (nI Z2.2.2.2), .ref b14, .ref b15, .ref b16])), (b3, .inl (cA, 40, .inl LV1)), (b4, .inl (cA, 40, .inl LM1)), (b5, .inl (cA, 40, .inl WM)), (b9, .inl (cA, 8, .inl VR)), (b11, .inl (cA, 200, .inl CM)), (b12, .inl (cA, 200, .inl AM)), (b14, .inl (cA, 20, .inl Rg)), (b15, .inl (cA, 13, .inl Mi)), (b16, .inl (cA, 13, .inl Fo))]) [0, 1, 2, 3, 4, 5, 6, 7, 15, 16, 17, 8, 9, 10, 11, 12, 13, 14] rfl
  have hD := hD.sub (ws' := [(x0, .inr (2, [.ref h1, .ref h2, .long tr])), (h1, .inr (0, [.ref b0, .int (nI nw), .int (nI st), .int (nI kd)])), (b0, .inl (cA, 8, .inl WR)), (h2, .inr (1, [.ref a0, .ref a1, .ref a2, .ref a3, .int (nI N), .int (nI (bc (alv Z1.2.1) N)), .int (nI Z1.2.2.2), .int (nI Z1.1.length)])), (a0, .inl (cA, 40, .inl LA1)), (a1, .inl (cA, 40, .inl WA)), (a2, .inl (cA, 200, .inl CA)), (a3, .inl (cA, 200, .inl AA)), (m0, .inr (3, [.int 0, .long tr, .int (nI N), .ref b3, .ref b4, .ref b5, .int (nI st), .int (nI kd), .int (nI nw), .ref b9, .int (nI Z2.1.length), .ref b11, .ref b12, .int (nI Z2.2.2.2), .ref b14, .ref b15, .ref b16])), (b3, .inl (cA, 40, .inl LV1)), (b4, .inl (cA, 40, .inl LM1)), (b5, .inl (cA, 40, .inl WM)), (b9, .inl (cA, 8, .inl VR)), (b11, .inl (cA, 200, .inl CM)), (b12, .inl (cA, 200, .inl AM)), (b14, .inl (cA, 20, .inl Rg)), (b15, .inl (cA, 13, .inl Mi)), (b16, .inl (cA, 13, .inl Fo))]) [0, 1, 2, 3, 4, 5, 6, 7, 15, 16, 17, 8, 9, 10, 11, 12, 13, 14] (by decide) rfl
  have e9 := e1.trans e2.symm
  simp only [Prod.mk.injEq] at e9
  obtain ⟨rfl, rfl, rfl⟩ := e9
  refine lv_icmp_eq (tgt := 859) hx hb dL_law_515 (by decide) (fun c_515 => ?_) (fun c_515 => ?_)
  · exact kk ls _ _ ⟨N, B1, Z1, st, kd, nw, wd, tr, LA1, WA, CA, AA, WR, LV1, LM1, WM, CM, AM, VR, Rg, Mi, Fo, hG1, hCS, hRX1, hCX, hRM1, hB1, hCM, lv_sub hl [0, 1, 2, 3] rfl, hP, hD, hS⟩
  · exact absurd rfl c_515

set_option maxHeartbeats 4000000 in
set_option maxRecDepth 100000 in
theorem law_set {p : Program} {l : Launch} {e : Env} {s : State} {m : MethodId} {below : List Frame} {meth : Method} {c : Code} {dC : Nat → ClassId} {dI : Nat → Nat → Nat} {b L : Nat} {xs : Nat → Int32} {A : Nat → Prop} {tt : Nat} {cA : ClassId} {x0 h1 h2 b0 a0 a1 a2 a3 m0 b3 b4 b5 b9 b11 b12 b14 b15 b16 j : Nat} {Q : State → Prop} {ls : Array Slot} {H : Heap} {locs : List Loc} (hL : L ≤ 3584) (hj : 7 * j + 7 ≤ L) (hx : p.tables.exec = Jvm.exec) (hb : c.code = code) (hml : c.maxLocals = 4) (hown : s.vm.findClass RL = some m.cls) (hts : ∀ w ∈ wsL_law, w.before #[Value.ref b] s = true) (hX : va_X b L xs s s.heap) (hbl : b < s.heap.size) (hbA : ¬ A b) (hA : ∀ q : Nat, s.heap.size ≤ q → A q) (hZ : va_Z "CountedOut$Counts" "TOLLS" "[I" (.ref tt) A s s.heap) (hT : va_T .int tt 3 (fun j => .int (tollN j)) A s s.heap) (hK : va_K (dC, dI) vwCl [(cA, .int)] s) (h : LI s dC dI A b cA x0 h1 h2 b0 a0 a1 a2 a3 m0 b3 b4 b5 b9 b11 b12 b14 b15 b16 j ls H locs) (kk : ∀ (ls : Array Slot) (H : Heap) (locs : List Loc), LI s dC dI A b cA x0 h1 h2 b0 a0 a1 a2 a3 m0 b3 b4 b5 b9 b11 b12 b14 b15 b16 j ls H locs → W p l e room_1 s m #[Value.ref b] below meth c H locs 18 1094 Q (F0 m 859 ls [])) : W p l e room_1 s m #[Value.ref b] below meth c H locs 18 1094 Q (F0 m 520 ls []) := by
  obtain ⟨N, Bl, Z, st, kd, nw, wd, tr, LA, WA, CA, AA, WR, LV, LM, WM, CM, AM, VR, Rg, Mi, Fo, hG, hCS, hRX, hCX, hRM, hB, hCM, hl, hP, hD, hS⟩ := h
  refine lv_aload_n hx hb dL_law_520 rfl (lv_at hl 1 rfl) ?_
  refine lv_aload_n hx hb dL_law_521 rfl (lv_at hl 0 rfl) ?_
  refine lv_iload_n hx hb dL_law_522 rfl (lv_at hl 3 rfl) ?_
  refine lv_iconst (v := 1) hx hb dL_law_523 (by decide) ?_
  refine lv_iadd hx hb dL_law_524 ?_
  refine z_i2 (y := nI (7 * j + 1)) (nI_add _ _) ?_
  refine z_sld hx hb hX hbl hbA hS (i := (7 * j + 1)) (by omega) (by omega) dL_law_525 ?_
  refine lv_aload_n hx hb dL_law_526 rfl (lv_at hl 0 rfl) ?_
  refine lv_iload_n hx hb dL_law_527 rfl (lv_at hl 3 rfl) ?_
  refine lv_iconst (v := 2) hx hb dL_law_528 (by decide) ?_
  refine lv_iadd hx hb dL_law_529 ?_
  refine z_i2 (y := nI (7 * j + 2)) (nI_add _ _) ?_
  refine z_sld hx hb hX hbl hbA hS (i := (7 * j + 2)) (by omega) (by omega) dL_law_530 ?_
  have hPc := hP.sub (ws' := [(x0, .inr (2, [.ref h1, .ref h2, .long tr])), (h1, .inr (0, [.ref b0, .int (nI nw), .int (nI st), .int (nI kd)])), (h2, .inr (1, [.ref a0, .ref a1, .ref a2, .ref a3, .int (nI N), .int (nI (bc (alv Z.2.1) N)), .int (nI Z.2.2.2), .int (nI Z.1.length)]))]) [0, 1, 3] rfl
  have hDc := hD.sub (ws' := [(x0, .inr (2, [.ref h1, .ref h2, .long tr])), (h1, .inr (0, [.ref b0, .int (nI nw), .int (nI st), .int (nI kd)])), (h2, .inr (1, [.ref a0, .ref a1, .ref a2, .ref a3, .int (nI N), .int (nI (bc (alv Z.2.1) N)), .int (nI Z.2.2.2), .int (nI Z.1.length)]))]) [0, 1, 3] (by decide) rfl
  have hFc := va_free (wc := [(x0, .inr (2, [.ref h1, .ref h2, .long tr])), (h1, .inr (0, [.ref b0, .int (nI nw), .int (nI st), .int (nI kd)])), (h2, .inr (1, [.ref a0, .ref a1, .ref a2, .ref a3, .int (nI N), .int (nI (bc (alv Z.2.1) N)), .int (nI Z.2.2.2), .int (nI Z.1.length)]))]) hD hS hA [0, 1, 3] rfl
  refine va_calli (va_runV (As := [.int (xs (7 * j + 1)), .int (xs (7 * j + 2))]) (rest := []) ⟨hx, hb, hml, hown, hts⟩ (c_X2_set l dC dI H.size cA x0 h1 h2 b0 a0 a1 a2 a3 tr st kd nw wd hCS Z.1.length hG.len (nI N) (nI (bc (alv Z.2.1) N)) (nI Z.2.2.2) (xs (7 * j + 1)) (xs (7 * j + 2))) (cwV 2 hts gL_law_X2_set rfl rfl rfl (by decide +kernel) ⟨Nat.le_of_ble_eq_true rfl, Nat.le_of_ble_eq_true rfl⟩) ⟨fun a U g mk q => by obtain ⟨q0, q1, qP, qK, qD⟩ := q; exact ⟨q0, q1, qP, va_K.moved (u := U) (U := U.calling g mk a) (Vm.Alike.refl U.vm) qK, qD⟩, va_recv hK hP (ci := 2) (q0 := 0) rfl rfl, fun U hU hW => ⟨rfl, by rw [hU], by rw [hU]; exact hPc, va_K.moved hW.alike hK, hDc.weaken (fun _ _ _ _ => trivial)⟩⟩ rfl rfl hl.1 rfl (lv_room (Nat.le_of_ble_eq_true rfl)) dL_law_531 ⟨Nat.le_of_ble_eq_true rfl, Nat.le_of_ble_eq_true rfl⟩) hS (fun q _ h => hFc q h) hFc (fun r_531 u_531 t_531 H1 locs ht_531 hvm_531 hw_531 hB_531 hz1 hk1 hS => ?_)
  obtain ⟨st1, kd1⟩ := u_531
  obtain ⟨e1, hCS1⟩ := hw_531
  obtain ⟨hP1, hK1, hD1⟩ := hB_531
  rw [ht_531] at hP1
  obtain ⟨hP, hD⟩ := va_join (wr := [(b0, .inl (cA, 8, .inl WR)), (a0, .inl (cA, 40, .inl LA)), (a1, .inl (cA, 40, .inl WA)), (a2, .inl (cA, 200, .inl CA)), (a3, .inl (cA, 200, .inl AA)), (m0, .inr (3, [.int 0, .long tr, .int (nI N), .ref b3, .ref b4, .ref b5, .int (nI st), .int (nI kd), .int (nI nw), .ref b9, .int (nI Z.1.length), .ref b11, .ref b12, .int (nI Z.2.2.2), .ref b14, .ref b15, .ref b16])), (b3, .inl (cA, 40, .inl LV)), (b4, .inl (cA, 40, .inl LM)), (b5, .inl (cA, 40, .inl WM)), (b9, .inl (cA, 8, .inl VR)), (b11, .inl (cA, 200, .inl CM)), (b12, .inl (cA, 200, .inl AM)), (b14, .inl (cA, 20, .inl Rg)), (b15, .inl (cA, 13, .inl Mi)), (b16, .inl (cA, 13, .inl Fo))]) (w1 := [(x0, .inr (2, [.ref h1, .ref h2, .long tr])), (h1, .inr (0, [.ref b0, .int (nI nw), .int (nI st1), .int (nI kd1)])), (h2, .inr (1, [.ref a0, .ref a1, .ref a2, .ref a3, .int (nI N), .int (nI (bc (alv Z.2.1) N)), .int (nI Z.2.2.2), .int (nI Z.1.length)]))]) hP hD [0, 1, 3] [2, 4, 5, 6, 7, 8, 9, 10, 11, 12, 13, 14, 15, 16, 17] rfl rfl (by decide) (by decide) hk1 hFc hP1 hD1
  generalize H1 = H at hP hS ⊢
  have hP := hP.sub (ws' := [(x0, .inr (2, [.ref h1, .ref h2, .long tr])), (h1, .inr (0, [.ref b0, .int (nI nw), .int (nI st1), .int (nI kd1)])), (b0, .inl (cA, 8, .inl WR)), (h2, .inr (1, [.ref a0, .ref a1, .ref a2, .ref a3, .int (nI N), .int (nI (bc (alv Z.2.1) N)), .int (nI Z.2.2.2), .int (nI Z.1.length)])), (a0, .inl (cA, 40, .inl LA)), (a1, .inl (cA, 40, .inl WA)), (a2, .inl (cA, 200, .inl CA)), (a3, .inl (cA, 200, .inl AA)), (m0, .inr (3, [.int 0, .long tr, .int (nI N), .ref b3, .ref b4, .ref b5, .int (nI st), .int (nI kd), .int (nI nw), .ref b9, .int (nI Z.1.length), .ref b11, .ref b12, .int (nI Z.2.2.2), .ref b14, .ref b15, .ref b16])), (b3, .inl (cA, 40, .inl LV)), (b4, .inl (cA, 40, .inl LM)), (b5, .inl (cA, 40, .inl WM)), (b9, .inl (cA, 8, .inl VR)), (b11, .inl (cA, 200, .inl CM)), (b12, .inl (cA, 200, .inl AM)), (b14, .inl (cA, 20, .inl Rg)), (b15, .inl (cA, 13, .inl Mi)), (b16, .inl (cA, 13, .inl Fo))]) [15, 16, 0, 17, 1, 2, 3, 4, 5, 6, 7, 8, 9, 10, 11, 12, 13, 14] rfl
  have hD := hD.sub (ws' := [(x0, .inr (2, [.ref h1, .ref h2, .long tr])), (h1, .inr (0, [.ref b0, .int (nI nw), .int (nI st1), .int (nI kd1)])), (b0, .inl (cA, 8, .inl WR)), (h2, .inr (1, [.ref a0, .ref a1, .ref a2, .ref a3, .int (nI N), .int (nI (bc (alv Z.2.1) N)), .int (nI Z.2.2.2), .int (nI Z.1.length)])), (a0, .inl (cA, 40, .inl LA)), (a1, .inl (cA, 40, .inl WA)), (a2, .inl (cA, 200, .inl CA)), (a3, .inl (cA, 200, .inl AA)), (m0, .inr (3, [.int 0, .long tr, .int (nI N), .ref b3, .ref b4, .ref b5, .int (nI st), .int (nI kd), .int (nI nw), .ref b9, .int (nI Z.1.length), .ref b11, .ref b12, .int (nI Z.2.2.2), .ref b14, .ref b15, .ref b16])), (b3, .inl (cA, 40, .inl LV)), (b4, .inl (cA, 40, .inl LM)), (b5, .inl (cA, 40, .inl WM)), (b9, .inl (cA, 8, .inl VR)), (b11, .inl (cA, 200, .inl CM)), (b12, .inl (cA, 200, .inl AM)), (b14, .inl (cA, 20, .inl Rg)), (b15, .inl (cA, 13, .inl Mi)), (b16, .inl (cA, 13, .inl Fo))]) [15, 16, 0, 17, 1, 2, 3, 4, 5, 6, 7, 8, 9, 10, 11, 12, 13, 14] (by decide) rfl
  refine lv_aload_n hx hb dL_law_534 rfl (lv_at hl 2 rfl) ?_
  refine lv_aload_n hx hb dL_law_535 rfl (lv_at hl 0 rfl) ?_
  refine lv_iload_n hx hb dL_law_536 rfl (lv_at hl 3 rfl) ?_
  refine lv_iconst (v := 1) hx hb dL_law_537 (by decide) ?_
  refine lv_iadd hx hb dL_law_538 ?_
  refine z_i2 (y := nI (7 * j + 1)) (nI_add _ _) ?_
  refine z_sld hx hb hX hbl hbA hS (i := (7 * j + 1)) (by omega) (by omega) dL_law_539 ?_
  refine lv_aload_n hx hb dL_law_540 rfl (lv_at hl 0 rfl) ?_
  refine lv_iload_n hx hb dL_law_541 rfl (lv_at hl 3 rfl) ?_
  refine lv_iconst (v := 2) hx hb dL_law_542 (by decide) ?_
  refine lv_iadd hx hb dL_law_543 ?_
  refine z_i2 (y := nI (7 * j + 2)) (nI_add _ _) ?_
  refine z_sld hx hb hX hbl hbA hS (i := (7 * j + 2)) (by omega) (by omega) dL_law_544 ?_
  have hPc := hP.sub (ws' := [(m0, .inr (3, [.int 0, .long tr, .int (nI N), .ref b3, .ref b4, .ref b5, .int (nI st), .int (nI kd), .int (nI nw), .ref b9, .int (nI Z.1.length), .ref b11, .ref b12, .int (nI Z.2.2.2), .ref b14, .ref b15, .ref b16]))]) [8] rfl
  have hDc := hD.sub (ws' := [(m0, .inr (3, [.int 0, .long tr, .int (nI N), .ref b3, .ref b4, .ref b5, .int (nI st), .int (nI kd), .int (nI nw), .ref b9, .int (nI Z.1.length), .ref b11, .ref b12, .int (nI Z.2.2.2), .ref b14, .ref b15, .ref b16]))]) [8] (by decide) rfl
  have hFc := va_free (wc := [(m0, .inr (3, [.int 0, .long tr, .int (nI N), .ref b3, .ref b4, .ref b5, .int (nI st), .int (nI kd), .int (nI nw), .ref b9, .int (nI Z.1.length), .ref b11, .ref b12, .int (nI Z.2.2.2), .ref b14, .ref b15, .ref b16]))]) hD hS hA [8] rfl
  refine va_calli (va_runV (As := [.int (xs (7 * j + 1)), .int (xs (7 * j + 2))]) (rest := [.int r_531]) ⟨hx, hb, hml, hown, hts⟩ (c_X3_set l dC dI H.size cA m0 b3 b4 b5 b9 b11 b12 b14 b15 b16 tr st kd nw wd hCS Z.1.length hG.len (nI N) (nI nw) (nI Z.2.2.2) (xs (7 * j + 1)) (xs (7 * j + 2))) (cwV 2 hts gL_law_X3_set rfl rfl rfl (by decide +kernel) ⟨Nat.le_of_ble_eq_true rfl, Nat.le_of_ble_eq_true rfl⟩) ⟨fun a U g mk q => by obtain ⟨q0, q1, qP, qK, qD⟩ := q; exact ⟨q0, q1, qP, va_K.moved (u := U) (U := U.calling g mk a) (Vm.Alike.refl U.vm) qK, qD⟩, va_recv hK hP (ci := 3) (q0 := 8) rfl rfl, fun U hU hW => ⟨rfl, by rw [hU], by rw [hU]; exact hPc, va_K.moved hW.alike hK, hDc.weaken (fun _ _ _ _ => trivial)⟩⟩ rfl rfl hl.1 rfl (lv_room (Nat.le_of_ble_eq_true rfl)) dL_law_545 ⟨Nat.le_of_ble_eq_true rfl, Nat.le_of_ble_eq_true rfl⟩) hS (fun q _ h => hFc q h) hFc (fun r_545 u_545 t_545 H1 locs ht_545 hvm_545 hw_545 hB_545 hz1 hk1 hS => ?_)
  obtain ⟨st2, kd2⟩ := u_545
  obtain ⟨e2, -⟩ := hw_545
  obtain ⟨hP1, hK1, hD1⟩ := hB_545
  rw [ht_545] at hP1
  obtain ⟨hP, hD⟩ := va_join (wr := [(x0, .inr (2, [.ref h1, .ref h2, .long tr])), (h1, .inr (0, [.ref b0, .int (nI nw), .int (nI st1), .int (nI kd1)])), (b0, .inl (cA, 8, .inl WR)), (h2, .inr (1, [.ref a0, .ref a1, .ref a2, .ref a3, .int (nI N), .int (nI (bc (alv Z.2.1) N)), .int (nI Z.2.2.2), .int (nI Z.1.length)])), (a0, .inl (cA, 40, .inl LA)), (a1, .inl (cA, 40, .inl WA)), (a2, .inl (cA, 200, .inl CA)), (a3, .inl (cA, 200, .inl AA)), (b3, .inl (cA, 40, .inl LV)), (b4, .inl (cA, 40, .inl LM)), (b5, .inl (cA, 40, .inl WM)), (b9, .inl (cA, 8, .inl VR)), (b11, .inl (cA, 200, .inl CM)), (b12, .inl (cA, 200, .inl AM)), (b14, .inl (cA, 20, .inl Rg)), (b15, .inl (cA, 13, .inl Mi)), (b16, .inl (cA, 13, .inl Fo))]) (w1 := [(m0, .inr (3, [.int 0, .long tr, .int (nI N), .ref b3, .ref b4, .ref b5, .int (nI st2), .int (nI kd2), .int (nI nw), .ref b9, .int (nI Z.1.length), .ref b11, .ref b12, .int (nI Z.2.2.2), .ref b14, .ref b15, .ref b16]))]) hP hD [8] [0, 1, 2, 3, 4, 5, 6, 7, 9, 10, 11, 12, 13, 14, 15, 16, 17] rfl rfl (by decide) (by decide) hk1 hFc hP1 hD1
  generalize H1 = H at hP hS ⊢
  have hP := hP.sub (ws' := [(x0, .inr (2, [.ref h1, .ref h2, .long tr])), (h1, .inr (0, [.ref b0, .int (nI nw), .int (nI st1), .int (nI kd1)])), (b0, .inl (cA, 8, .inl WR)), (h2, .inr (1, [.ref a0, .ref a1, .ref a2, .ref a3, .int (nI N), .int (nI (bc (alv Z.2.1) N)), .int (nI Z.2.2.2), .int (nI Z.1.length)])), (a0, .inl (cA, 40, .inl LA)), (a1, .inl (cA, 40, .inl WA)), (a2, .inl (cA, 200, .inl CA)), (a3, .inl (cA, 200, .inl AA)), (m0, .inr (3, [.int 0, .long tr, .int (nI N), .ref b3, .ref b4, .ref b5, .int (nI st2), .int (nI kd2), .int (nI nw), .ref b9, .int (nI Z.1.length), .ref b11, .ref b12, .int (nI Z.2.2.2), .ref b14, .ref b15, .ref b16])), (b3, .inl (cA, 40, .inl LV)), (b4, .inl (cA, 40, .inl LM)), (b5, .inl (cA, 40, .inl WM)), (b9, .inl (cA, 8, .inl VR)), (b11, .inl (cA, 200, .inl CM)), (b12, .inl (cA, 200, .inl AM)), (b14, .inl (cA, 20, .inl Rg)), (b15, .inl (cA, 13, .inl Mi)), (b16, .inl (cA, 13, .inl Fo))]) [0, 1, 2, 3, 4, 5, 6, 7, 17, 8, 9, 10, 11, 12, 13, 14, 15, 16] rfl
  have hD := hD.sub (ws' := [(x0, .inr (2, [.ref h1, .ref h2, .long tr])), (h1, .inr (0, [.ref b0, .int (nI nw), .int (nI st1), .int (nI kd1)])), (b0, .inl (cA, 8, .inl WR)), (h2, .inr (1, [.ref a0, .ref a1, .ref a2, .ref a3, .int (nI N), .int (nI (bc (alv Z.2.1) N)), .int (nI Z.2.2.2), .int (nI Z.1.length)])), (a0, .inl (cA, 40, .inl LA)), (a1, .inl (cA, 40, .inl WA)), (a2, .inl (cA, 200, .inl CA)), (a3, .inl (cA, 200, .inl AA)), (m0, .inr (3, [.int 0, .long tr, .int (nI N), .ref b3, .ref b4, .ref b5, .int (nI st2), .int (nI kd2), .int (nI nw), .ref b9, .int (nI Z.1.length), .ref b11, .ref b12, .int (nI Z.2.2.2), .ref b14, .ref b15, .ref b16])), (b3, .inl (cA, 40, .inl LV)), (b4, .inl (cA, 40, .inl LM)), (b5, .inl (cA, 40, .inl WM)), (b9, .inl (cA, 8, .inl VR)), (b11, .inl (cA, 200, .inl CM)), (b12, .inl (cA, 200, .inl AM)), (b14, .inl (cA, 20, .inl Rg)), (b15, .inl (cA, 13, .inl Mi)), (b16, .inl (cA, 13, .inl Fo))]) [0, 1, 2, 3, 4, 5, 6, 7, 17, 8, 9, 10, 11, 12, 13, 14, 15, 16] (by decide) rfl
  have e9 := e1.trans e2.symm
  simp only [Prod.mk.injEq] at e9
  obtain ⟨rfl, rfl, rfl⟩ := e9
  refine lv_icmp_eq (tgt := 859) hx hb dL_law_548 (by decide) (fun c_548 => ?_) (fun c_548 => ?_)
  · exact kk ls _ _ ⟨N, Bl, Z, st1, kd1, nw, wd, tr, LA, WA, CA, AA, WR, LV, LM, WM, CM, AM, VR, Rg, Mi, Fo, hG, hCS1, hRX, hCX, hRM, hB, hCM, lv_sub hl [0, 1, 2, 3] rfl, hP, hD, hS⟩
  · exact absurd rfl c_548

set_option maxHeartbeats 4000000 in
set_option maxRecDepth 100000 in
theorem law_words {p : Program} {l : Launch} {e : Env} {s : State} {m : MethodId} {below : List Frame} {meth : Method} {c : Code} {dC : Nat → ClassId} {dI : Nat → Nat → Nat} {b L : Nat} {xs : Nat → Int32} {A : Nat → Prop} {tt : Nat} {cA : ClassId} {x0 h1 h2 b0 a0 a1 a2 a3 m0 b3 b4 b5 b9 b11 b12 b14 b15 b16 j : Nat} {Q : State → Prop} {ls : Array Slot} {H : Heap} {locs : List Loc} (hL : L ≤ 3584) (hj : 7 * j + 7 ≤ L) (hx : p.tables.exec = Jvm.exec) (hb : c.code = code) (hml : c.maxLocals = 4) (hown : s.vm.findClass RL = some m.cls) (hts : ∀ w ∈ wsL_law, w.before #[Value.ref b] s = true) (hX : va_X b L xs s s.heap) (hbl : b < s.heap.size) (hbA : ¬ A b) (hA : ∀ q : Nat, s.heap.size ≤ q → A q) (hZ : va_Z "CountedOut$Counts" "TOLLS" "[I" (.ref tt) A s s.heap) (hT : va_T .int tt 3 (fun j => .int (tollN j)) A s s.heap) (hK : va_K (dC, dI) vwCl [(cA, .int)] s) (h : LI s dC dI A b cA x0 h1 h2 b0 a0 a1 a2 a3 m0 b3 b4 b5 b9 b11 b12 b14 b15 b16 j ls H locs) (kk : ∀ (ls : Array Slot) (H : Heap) (locs : List Loc), LI s dC dI A b cA x0 h1 h2 b0 a0 a1 a2 a3 m0 b3 b4 b5 b9 b11 b12 b14 b15 b16 j ls H locs → W p l e room_1 s m #[Value.ref b] below meth c H locs 18 1094 Q (F0 m 859 ls [])) : W p l e room_1 s m #[Value.ref b] below meth c H locs 18 1094 Q (F0 m 553 ls []) := by
  obtain ⟨N, Bl, Z, st, kd, nw, wd, tr, LA, WA, CA, AA, WR, LV, LM, WM, CM, AM, VR, Rg, Mi, Fo, hG, hCS, hRX, hCX, hRM, hB, hCM, hl, hP, hD, hS⟩ := h
  refine lv_aload_n hx hb dL_law_553 rfl (lv_at hl 1 rfl) ?_
  refine lv_aload_n hx hb dL_law_554 rfl (lv_at hl 0 rfl) ?_
  refine lv_iload_n hx hb dL_law_555 rfl (lv_at hl 3 rfl) ?_
  refine lv_iconst (v := 1) hx hb dL_law_556 (by decide) ?_
  refine lv_iadd hx hb dL_law_557 ?_
  refine z_i2 (y := nI (7 * j + 1)) (nI_add _ _) ?_
  refine z_sld hx hb hX hbl hbA hS (i := (7 * j + 1)) (by omega) (by omega) dL_law_558 ?_
  refine lv_aload_n hx hb dL_law_559 rfl (lv_at hl 0 rfl) ?_
  refine lv_iload_n hx hb dL_law_560 rfl (lv_at hl 3 rfl) ?_
  refine lv_iconst (v := 2) hx hb dL_law_561 (by decide) ?_
  refine lv_iadd hx hb dL_law_562 ?_
  refine z_i2 (y := nI (7 * j + 2)) (nI_add _ _) ?_
  refine z_sld hx hb hX hbl hbA hS (i := (7 * j + 2)) (by omega) (by omega) dL_law_563 ?_
  refine lv_aload_n hx hb dL_law_564 rfl (lv_at hl 0 rfl) ?_
  refine lv_iload_n hx hb dL_law_565 rfl (lv_at hl 3 rfl) ?_
  refine lv_iconst (v := 3) hx hb dL_law_566 (by decide) ?_
  refine lv_iadd hx hb dL_law_567 ?_
  refine z_i2 (y := nI (7 * j + 3)) (nI_add _ _) ?_
  refine z_sld hx hb hX hbl hbA hS (i := (7 * j + 3)) (by omega) (by omega) dL_law_568 ?_
  refine lv_aload_n hx hb dL_law_569 rfl (lv_at hl 0 rfl) ?_
  refine lv_iload_n hx hb dL_law_570 rfl (lv_at hl 3 rfl) ?_
  refine lv_iconst (v := 4) hx hb dL_law_571 (by decide) ?_
  refine lv_iadd hx hb dL_law_572 ?_
  refine z_i2 (y := nI (7 * j + 4)) (nI_add _ _) ?_
  refine z_sld hx hb hX hbl hbA hS (i := (7 * j + 4)) (by omega) (by omega) dL_law_573 ?_
  refine lv_aload_n hx hb dL_law_574 rfl (lv_at hl 0 rfl) ?_
  refine lv_iload_n hx hb dL_law_575 rfl (lv_at hl 3 rfl) ?_
  refine lv_iconst (v := 5) hx hb dL_law_576 (by decide) ?_
  refine lv_iadd hx hb dL_law_577 ?_
  refine z_i2 (y := nI (7 * j + 5)) (nI_add _ _) ?_
  refine z_sld hx hb hX hbl hbA hS (i := (7 * j + 5)) (by omega) (by omega) dL_law_578 ?_
  refine W_join (α := Int32) (pc' := 593) (ls' := ls) (st' := fun vj => [.int vj, .int (xs (7 * j + 5)), .int (xs (7 * j + 4)), .int (xs (7 * j + 3)), .int (xs (7 * j + 2)), .int (xs (7 * j + 1)), .ref x0]) (Pj := fun vj => vj = zb (decide (¬ xs (7 * j + 6) = 0))) (fun J_593 => ?_) (fun v_593 hv_593 => ?_)
  · refine lv_aload_n hx hb dL_law_579 rfl (lv_at hl 0 rfl) ?_
    refine lv_iload_n hx hb dL_law_580 rfl (lv_at hl 3 rfl) ?_
    refine lv_bipush (v := 6) hx hb dL_law_581 (by decide) ?_
    refine lv_iadd hx hb dL_law_583 ?_
    refine z_i2 (y := nI (7 * j + 6)) (nI_add _ _) ?_
    refine z_sld hx hb hX hbl hbA hS (i := (7 * j + 6)) (by omega) (by omega) dL_law_584 ?_
    refine lv_if_eq (tgt := 592) hx hb dL_law_585 (by decide) (fun c_585 => ?_) (fun c_585 => ?_)
    · refine lv_iconst (v := 0) hx hb dL_law_592 (by decide) ?_
      exact J_593 _ (by first | (rw [decide_eq_false (fun h => h c_585)]; rfl) | (rw [decide_eq_true c_585]; rfl))
    · refine lv_iconst (v := 1) hx hb dL_law_588 (by decide) ?_
      refine lv_goto (tgt := 593) hx hb dL_law_589 (by decide) ?_
      exact J_593 _ (by first | (rw [decide_eq_false (fun h => h c_585)]; rfl) | (rw [decide_eq_true c_585]; rfl))
  subst hv_593
  have hPc := hP.sub (ws' := [(x0, .inr (2, [.ref h1, .ref h2, .long tr])), (h1, .inr (0, [.ref b0, .int (nI nw), .int (nI st), .int (nI kd)])), (b0, .inl (cA, 8, .inl WR)), (h2, .inr (1, [.ref a0, .ref a1, .ref a2, .ref a3, .int (nI N), .int (nI (bc (alv Z.2.1) N)), .int (nI Z.2.2.2), .int (nI Z.1.length)]))]) [0, 1, 2, 3] rfl
  have hDc := hD.sub (ws' := [(x0, .inr (2, [.ref h1, .ref h2, .long tr])), (h1, .inr (0, [.ref b0, .int (nI nw), .int (nI st), .int (nI kd)])), (b0, .inl (cA, 8, .inl WR)), (h2, .inr (1, [.ref a0, .ref a1, .ref a2, .ref a3, .int (nI N), .int (nI (bc (alv Z.2.1) N)), .int (nI Z.2.2.2), .int (nI Z.1.length)]))]) [0, 1, 2, 3] (by decide) rfl
  have hFc := va_free (wc := [(x0, .inr (2, [.ref h1, .ref h2, .long tr])), (h1, .inr (0, [.ref b0, .int (nI nw), .int (nI st), .int (nI kd)])), (b0, .inl (cA, 8, .inl WR)), (h2, .inr (1, [.ref a0, .ref a1, .ref a2, .ref a3, .int (nI N), .int (nI (bc (alv Z.2.1) N)), .int (nI Z.2.2.2), .int (nI Z.1.length)]))]) hD hS hA [0, 1, 2, 3] rfl
  refine va_calli (va_runV (As := [.int (xs (7 * j + 1)), .int (xs (7 * j + 2)), .int (xs (7 * j + 3)), .int (xs (7 * j + 4)), .int (xs (7 * j + 5)), .int (zb (decide (¬ xs (7 * j + 6) = 0)))]) (rest := []) ⟨hx, hb, hml, hown, hts⟩ (c_X2_words l dC dI H.size cA x0 h1 h2 b0 a0 a1 a2 a3 tr st kd nw wd hCS WR hCX Z.1.length hG.len (nI N) (nI (bc (alv Z.2.1) N)) (nI Z.2.2.2) (xs (7 * j + 1)) (xs (7 * j + 2)) (xs (7 * j + 3)) (xs (7 * j + 4)) (xs (7 * j + 5)) (decide (¬ xs (7 * j + 6) = 0))) (cwV 6 hts gL_law_X2_words rfl rfl rfl (by decide +kernel) ⟨Nat.le_of_ble_eq_true rfl, Nat.le_of_ble_eq_true rfl⟩) ⟨fun a U g mk q => by obtain ⟨q0, q1, qP, qK, qD⟩ := q; exact ⟨q0, q1, qP, va_K.moved (u := U) (U := U.calling g mk a) (Vm.Alike.refl U.vm) qK, qD⟩, va_recv hK hP (ci := 2) (q0 := 0) rfl rfl, fun U hU hW => ⟨rfl, by rw [hU], by rw [hU]; exact hPc, va_K.moved hW.alike hK, hDc.weaken (fun _ _ _ _ => trivial)⟩⟩ rfl rfl hl.1 rfl (lv_room (Nat.le_of_ble_eq_true rfl)) dL_law_593 ⟨Nat.le_of_ble_eq_true rfl, Nat.le_of_ble_eq_true rfl⟩) hS (fun q _ h => hFc q h) hFc (fun r_593 u_593 t_593 H1 locs ht_593 hvm_593 hw_593 hB_593 hz1 hk1 hS => ?_)
  obtain ⟨nw1, wd1, WR1⟩ := u_593
  obtain ⟨e1, hCS1, hCX1⟩ := hw_593
  obtain ⟨hP1, hK1, hD1⟩ := hB_593
  rw [ht_593] at hP1
  obtain ⟨hP, hD⟩ := va_join (wr := [(a0, .inl (cA, 40, .inl LA)), (a1, .inl (cA, 40, .inl WA)), (a2, .inl (cA, 200, .inl CA)), (a3, .inl (cA, 200, .inl AA)), (m0, .inr (3, [.int 0, .long tr, .int (nI N), .ref b3, .ref b4, .ref b5, .int (nI st), .int (nI kd), .int (nI nw), .ref b9, .int (nI Z.1.length), .ref b11, .ref b12, .int (nI Z.2.2.2), .ref b14, .ref b15, .ref b16])), (b3, .inl (cA, 40, .inl LV)), (b4, .inl (cA, 40, .inl LM)), (b5, .inl (cA, 40, .inl WM)), (b9, .inl (cA, 8, .inl VR)), (b11, .inl (cA, 200, .inl CM)), (b12, .inl (cA, 200, .inl AM)), (b14, .inl (cA, 20, .inl Rg)), (b15, .inl (cA, 13, .inl Mi)), (b16, .inl (cA, 13, .inl Fo))]) (w1 := [(x0, .inr (2, [.ref h1, .ref h2, .long tr])), (h1, .inr (0, [.ref b0, .int (nI nw1), .int (nI st), .int (nI kd)])), (b0, .inl (cA, 8, .inl WR1)), (h2, .inr (1, [.ref a0, .ref a1, .ref a2, .ref a3, .int (nI N), .int (nI (bc (alv Z.2.1) N)), .int (nI Z.2.2.2), .int (nI Z.1.length)]))]) hP hD [0, 1, 2, 3] [4, 5, 6, 7, 8, 9, 10, 11, 12, 13, 14, 15, 16, 17] rfl rfl (by decide) (by decide) hk1 hFc hP1 hD1
  generalize H1 = H at hP hS ⊢
  have hP := hP.sub (ws' := [(x0, .inr (2, [.ref h1, .ref h2, .long tr])), (h1, .inr (0, [.ref b0, .int (nI nw1), .int (nI st), .int (nI kd)])), (b0, .inl (cA, 8, .inl WR1)), (h2, .inr (1, [.ref a0, .ref a1, .ref a2, .ref a3, .int (nI N), .int (nI (bc (alv Z.2.1) N)), .int (nI Z.2.2.2), .int (nI Z.1.length)])), (a0, .inl (cA, 40, .inl LA)), (a1, .inl (cA, 40, .inl WA)), (a2, .inl (cA, 200, .inl CA)), (a3, .inl (cA, 200, .inl AA)), (m0, .inr (3, [.int 0, .long tr, .int (nI N), .ref b3, .ref b4, .ref b5, .int (nI st), .int (nI kd), .int (nI nw), .ref b9, .int (nI Z.1.length), .ref b11, .ref b12, .int (nI Z.2.2.2), .ref b14, .ref b15, .ref b16])), (b3, .inl (cA, 40, .inl LV)), (b4, .inl (cA, 40, .inl LM)), (b5, .inl (cA, 40, .inl WM)), (b9, .inl (cA, 8, .inl VR)), (b11, .inl (cA, 200, .inl CM)), (b12, .inl (cA, 200, .inl AM)), (b14, .inl (cA, 20, .inl Rg)), (b15, .inl (cA, 13, .inl Mi)), (b16, .inl (cA, 13, .inl Fo))]) [14, 15, 16, 17, 0, 1, 2, 3, 4, 5, 6, 7, 8, 9, 10, 11, 12, 13] rfl
  have hD := hD.sub (ws' := [(x0, .inr (2, [.ref h1, .ref h2, .long tr])), (h1, .inr (0, [.ref b0, .int (nI nw1), .int (nI st), .int (nI kd)])), (b0, .inl (cA, 8, .inl WR1)), (h2, .inr (1, [.ref a0, .ref a1, .ref a2, .ref a3, .int (nI N), .int (nI (bc (alv Z.2.1) N)), .int (nI Z.2.2.2), .int (nI Z.1.length)])), (a0, .inl (cA, 40, .inl LA)), (a1, .inl (cA, 40, .inl WA)), (a2, .inl (cA, 200, .inl CA)), (a3, .inl (cA, 200, .inl AA)), (m0, .inr (3, [.int 0, .long tr, .int (nI N), .ref b3, .ref b4, .ref b5, .int (nI st), .int (nI kd), .int (nI nw), .ref b9, .int (nI Z.1.length), .ref b11, .ref b12, .int (nI Z.2.2.2), .ref b14, .ref b15, .ref b16])), (b3, .inl (cA, 40, .inl LV)), (b4, .inl (cA, 40, .inl LM)), (b5, .inl (cA, 40, .inl WM)), (b9, .inl (cA, 8, .inl VR)), (b11, .inl (cA, 200, .inl CM)), (b12, .inl (cA, 200, .inl AM)), (b14, .inl (cA, 20, .inl Rg)), (b15, .inl (cA, 13, .inl Mi)), (b16, .inl (cA, 13, .inl Fo))]) [14, 15, 16, 17, 0, 1, 2, 3, 4, 5, 6, 7, 8, 9, 10, 11, 12, 13] (by decide) rfl
  refine lv_aload_n hx hb dL_law_596 rfl (lv_at hl 2 rfl) ?_
  refine lv_aload_n hx hb dL_law_597 rfl (lv_at hl 0 rfl) ?_
  refine lv_iload_n hx hb dL_law_598 rfl (lv_at hl 3 rfl) ?_
  refine lv_iconst (v := 1) hx hb dL_law_599 (by decide) ?_
  refine lv_iadd hx hb dL_law_600 ?_
  refine z_i2 (y := nI (7 * j + 1)) (nI_add _ _) ?_
  refine z_sld hx hb hX hbl hbA hS (i := (7 * j + 1)) (by omega) (by omega) dL_law_601 ?_
  refine lv_aload_n hx hb dL_law_602 rfl (lv_at hl 0 rfl) ?_
  refine lv_iload_n hx hb dL_law_603 rfl (lv_at hl 3 rfl) ?_
  refine lv_iconst (v := 2) hx hb dL_law_604 (by decide) ?_
  refine lv_iadd hx hb dL_law_605 ?_
  refine z_i2 (y := nI (7 * j + 2)) (nI_add _ _) ?_
  refine z_sld hx hb hX hbl hbA hS (i := (7 * j + 2)) (by omega) (by omega) dL_law_606 ?_
  refine lv_aload_n hx hb dL_law_607 rfl (lv_at hl 0 rfl) ?_
  refine lv_iload_n hx hb dL_law_608 rfl (lv_at hl 3 rfl) ?_
  refine lv_iconst (v := 3) hx hb dL_law_609 (by decide) ?_
  refine lv_iadd hx hb dL_law_610 ?_
  refine z_i2 (y := nI (7 * j + 3)) (nI_add _ _) ?_
  refine z_sld hx hb hX hbl hbA hS (i := (7 * j + 3)) (by omega) (by omega) dL_law_611 ?_
  refine lv_aload_n hx hb dL_law_612 rfl (lv_at hl 0 rfl) ?_
  refine lv_iload_n hx hb dL_law_613 rfl (lv_at hl 3 rfl) ?_
  refine lv_iconst (v := 4) hx hb dL_law_614 (by decide) ?_
  refine lv_iadd hx hb dL_law_615 ?_
  refine z_i2 (y := nI (7 * j + 4)) (nI_add _ _) ?_
  refine z_sld hx hb hX hbl hbA hS (i := (7 * j + 4)) (by omega) (by omega) dL_law_616 ?_
  refine lv_aload_n hx hb dL_law_617 rfl (lv_at hl 0 rfl) ?_
  refine lv_iload_n hx hb dL_law_618 rfl (lv_at hl 3 rfl) ?_
  refine lv_iconst (v := 5) hx hb dL_law_619 (by decide) ?_
  refine lv_iadd hx hb dL_law_620 ?_
  refine z_i2 (y := nI (7 * j + 5)) (nI_add _ _) ?_
  refine z_sld hx hb hX hbl hbA hS (i := (7 * j + 5)) (by omega) (by omega) dL_law_621 ?_
  refine W_join (α := Int32) (pc' := 636) (ls' := ls) (st' := fun vj => [.int vj, .int (xs (7 * j + 5)), .int (xs (7 * j + 4)), .int (xs (7 * j + 3)), .int (xs (7 * j + 2)), .int (xs (7 * j + 1)), .ref m0, .int r_593]) (Pj := fun vj => vj = zb (decide (¬ xs (7 * j + 6) = 0))) (fun J_636 => ?_) (fun v_636 hv_636 => ?_)
  · refine lv_aload_n hx hb dL_law_622 rfl (lv_at hl 0 rfl) ?_
    refine lv_iload_n hx hb dL_law_623 rfl (lv_at hl 3 rfl) ?_
    refine lv_bipush (v := 6) hx hb dL_law_624 (by decide) ?_
    refine lv_iadd hx hb dL_law_626 ?_
    refine z_i2 (y := nI (7 * j + 6)) (nI_add _ _) ?_
    refine z_sld hx hb hX hbl hbA hS (i := (7 * j + 6)) (by omega) (by omega) dL_law_627 ?_
    refine lv_if_eq (tgt := 635) hx hb dL_law_628 (by decide) (fun c_628 => ?_) (fun c_628 => ?_)
    · refine lv_iconst (v := 0) hx hb dL_law_635 (by decide) ?_
      exact J_636 _ (by first | (rw [decide_eq_false (fun h => h c_628)]; rfl) | (rw [decide_eq_true c_628]; rfl))
    · refine lv_iconst (v := 1) hx hb dL_law_631 (by decide) ?_
      refine lv_goto (tgt := 636) hx hb dL_law_632 (by decide) ?_
      exact J_636 _ (by first | (rw [decide_eq_false (fun h => h c_628)]; rfl) | (rw [decide_eq_true c_628]; rfl))
  subst hv_636
  have hPc := hP.sub (ws' := [(m0, .inr (3, [.int 0, .long tr, .int (nI N), .ref b3, .ref b4, .ref b5, .int (nI st), .int (nI kd), .int (nI nw), .ref b9, .int (nI Z.1.length), .ref b11, .ref b12, .int (nI Z.2.2.2), .ref b14, .ref b15, .ref b16])), (b9, .inl (cA, 8, .inl VR))]) [8, 12] rfl
  have hDc := hD.sub (ws' := [(m0, .inr (3, [.int 0, .long tr, .int (nI N), .ref b3, .ref b4, .ref b5, .int (nI st), .int (nI kd), .int (nI nw), .ref b9, .int (nI Z.1.length), .ref b11, .ref b12, .int (nI Z.2.2.2), .ref b14, .ref b15, .ref b16])), (b9, .inl (cA, 8, .inl VR))]) [8, 12] (by decide) rfl
  have hFc := va_free (wc := [(m0, .inr (3, [.int 0, .long tr, .int (nI N), .ref b3, .ref b4, .ref b5, .int (nI st), .int (nI kd), .int (nI nw), .ref b9, .int (nI Z.1.length), .ref b11, .ref b12, .int (nI Z.2.2.2), .ref b14, .ref b15, .ref b16])), (b9, .inl (cA, 8, .inl VR))]) hD hS hA [8, 12] rfl
  refine va_calli (va_runV (As := [.int (xs (7 * j + 1)), .int (xs (7 * j + 2)), .int (xs (7 * j + 3)), .int (xs (7 * j + 4)), .int (xs (7 * j + 5)), .int (zb (decide (¬ xs (7 * j + 6) = 0)))]) (rest := [.int r_593]) ⟨hx, hb, hml, hown, hts⟩ (c_X3_words l dC dI H.size cA m0 b3 b4 b5 b9 b11 b12 b14 b15 b16 tr st kd nw wd hCS VR hCM Z.1.length hG.len (nI N) (nI Z.2.2.2) (xs (7 * j + 1)) (xs (7 * j + 2)) (xs (7 * j + 3)) (xs (7 * j + 4)) (xs (7 * j + 5)) (decide (¬ xs (7 * j + 6) = 0))) (cwV 6 hts gL_law_X3_words rfl rfl rfl (by decide +kernel) ⟨Nat.le_of_ble_eq_true rfl, Nat.le_of_ble_eq_true rfl⟩) ⟨fun a U g mk q => by obtain ⟨q0, q1, qP, qK, qD⟩ := q; exact ⟨q0, q1, qP, va_K.moved (u := U) (U := U.calling g mk a) (Vm.Alike.refl U.vm) qK, qD⟩, va_recv hK hP (ci := 3) (q0 := 8) rfl rfl, fun U hU hW => ⟨rfl, by rw [hU], by rw [hU]; exact hPc, va_K.moved hW.alike hK, hDc.weaken (fun _ _ _ _ => trivial)⟩⟩ rfl rfl hl.1 rfl (lv_room (Nat.le_of_ble_eq_true rfl)) dL_law_636 ⟨Nat.le_of_ble_eq_true rfl, Nat.le_of_ble_eq_true rfl⟩) hS (fun q _ h => hFc q h) hFc (fun r_636 u_636 t_636 H1 locs ht_636 hvm_636 hw_636 hB_636 hz1 hk1 hS => ?_)
  obtain ⟨nw2, wd2, VR1⟩ := u_636
  obtain ⟨e2, hCM1⟩ := hw_636
  obtain ⟨hP1, hK1, hD1⟩ := hB_636
  rw [ht_636] at hP1
  obtain ⟨hP, hD⟩ := va_join (wr := [(x0, .inr (2, [.ref h1, .ref h2, .long tr])), (h1, .inr (0, [.ref b0, .int (nI nw1), .int (nI st), .int (nI kd)])), (b0, .inl (cA, 8, .inl WR1)), (h2, .inr (1, [.ref a0, .ref a1, .ref a2, .ref a3, .int (nI N), .int (nI (bc (alv Z.2.1) N)), .int (nI Z.2.2.2), .int (nI Z.1.length)])), (a0, .inl (cA, 40, .inl LA)), (a1, .inl (cA, 40, .inl WA)), (a2, .inl (cA, 200, .inl CA)), (a3, .inl (cA, 200, .inl AA)), (b3, .inl (cA, 40, .inl LV)), (b4, .inl (cA, 40, .inl LM)), (b5, .inl (cA, 40, .inl WM)), (b11, .inl (cA, 200, .inl CM)), (b12, .inl (cA, 200, .inl AM)), (b14, .inl (cA, 20, .inl Rg)), (b15, .inl (cA, 13, .inl Mi)), (b16, .inl (cA, 13, .inl Fo))]) (w1 := [(m0, .inr (3, [.int 0, .long tr, .int (nI N), .ref b3, .ref b4, .ref b5, .int (nI st), .int (nI kd), .int (nI nw2), .ref b9, .int (nI Z.1.length), .ref b11, .ref b12, .int (nI Z.2.2.2), .ref b14, .ref b15, .ref b16])), (b9, .inl (cA, 8, .inl VR1))]) hP hD [8, 12] [0, 1, 2, 3, 4, 5, 6, 7, 9, 10, 11, 13, 14, 15, 16, 17] rfl rfl (by decide) (by decide) hk1 hFc hP1 hD1
  generalize H1 = H at hP hS ⊢
  have hP := hP.sub (ws' := [(x0, .inr (2, [.ref h1, .ref h2, .long tr])), (h1, .inr (0, [.ref b0, .int (nI nw1), .int (nI st), .int (nI kd)])), (b0, .inl (cA, 8, .inl WR1)), (h2, .inr (1, [.ref a0, .ref a1, .ref a2, .ref a3, .int (nI N), .int (nI (bc (alv Z.2.1) N)), .int (nI Z.2.2.2), .int (nI Z.1.length)])), (a0, .inl (cA, 40, .inl LA)), (a1, .inl (cA, 40, .inl WA)), (a2, .inl (cA, 200, .inl CA)), (a3, .inl (cA, 200, .inl AA)), (m0, .inr (3, [.int 0, .long tr, .int (nI N), .ref b3, .ref b4, .ref b5, .int (nI st), .int (nI kd), .int (nI nw2), .ref b9, .int (nI Z.1.length), .ref b11, .ref b12, .int (nI Z.2.2.2), .ref b14, .ref b15, .ref b16])), (b3, .inl (cA, 40, .inl LV)), (b4, .inl (cA, 40, .inl LM)), (b5, .inl (cA, 40, .inl WM)), (b9, .inl (cA, 8, .inl VR1)), (b11, .inl (cA, 200, .inl CM)), (b12, .inl (cA, 200, .inl AM)), (b14, .inl (cA, 20, .inl Rg)), (b15, .inl (cA, 13, .inl Mi)), (b16, .inl (cA, 13, .inl Fo))]) [0, 1, 2, 3, 4, 5, 6, 7, 16, 8, 9, 10, 17, 11, 12, 13, 14, 15] rfl
  have hD := hD.sub (ws' := [(x0, .inr (2, [.ref h1, .ref h2, .long tr])), (h1, .inr (0, [.ref b0, .int (nI nw1), .int (nI st), .int (nI kd)])), (b0, .inl (cA, 8, .inl WR1)), (h2, .inr (1, [.ref a0, .ref a1, .ref a2, .ref a3, .int (nI N), .int (nI (bc (alv Z.2.1) N)), .int (nI Z.2.2.2), .int (nI Z.1.length)])), (a0, .inl (cA, 40, .inl LA)), (a1, .inl (cA, 40, .inl WA)), (a2, .inl (cA, 200, .inl CA)), (a3, .inl (cA, 200, .inl AA)), (m0, .inr (3, [.int 0, .long tr, .int (nI N), .ref b3, .ref b4, .ref b5, .int (nI st), .int (nI kd), .int (nI nw2), .ref b9, .int (nI Z.1.length), .ref b11, .ref b12, .int (nI Z.2.2.2), .ref b14, .ref b15, .ref b16])), (b3, .inl (cA, 40, .inl LV)), (b4, .inl (cA, 40, .inl LM)), (b5, .inl (cA, 40, .inl WM)), (b9, .inl (cA, 8, .inl VR1)), (b11, .inl (cA, 200, .inl CM)), (b12, .inl (cA, 200, .inl AM)), (b14, .inl (cA, 20, .inl Rg)), (b15, .inl (cA, 13, .inl Mi)), (b16, .inl (cA, 13, .inl Fo))]) [0, 1, 2, 3, 4, 5, 6, 7, 16, 8, 9, 10, 17, 11, 12, 13, 14, 15] (by decide) rfl
  have e9 := e1.trans e2.symm
  simp only [Prod.mk.injEq] at e9
  obtain ⟨rfl, rfl, rfl⟩ := e9
  refine lv_icmp_eq (tgt := 859) hx hb dL_law_639 (by decide) (fun c_639 => ?_) (fun c_639 => ?_)
  · exact kk ls _ _ ⟨N, Bl, Z, st, kd, nw1, wd1, tr, LA, WA, CA, AA, WR1, LV, LM, WM, CM, AM, VR1, Rg, Mi, Fo, hG, hCS1, hRX, hCX1, hRM, hB, hCM1, lv_sub hl [0, 1, 2, 3] rfl, hP, hD, hS⟩
  · exact absurd rfl c_639
