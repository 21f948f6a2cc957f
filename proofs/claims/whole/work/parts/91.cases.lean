/-! the law's ways -/
set_option maxRecDepth 100000 in
set_option maxHeartbeats 4000000 in
theorem law_set (l : Launch) (hst : l.stackTraces = false) (T : wT) {p : Program} {e : Env} {R : Room} {s : State} {m : MethodId} {args : Array Value} {below : List Frame} {meth : Method} {c : Code} {H : Heap} {locs : List Loc} {cells slots : Nat} {Q : State → Prop} {ls : Array Slot} {b L i : Nat} {xs : Nat → Int32} {A : Nat → Prop} (hQ : lX p R s m args c b L xs A) (hi : i + 6 ≤ L) (hw : lI T A s H locs) (hl : lv_has ls 8 (lL T b i)) (hf1 : cells + 1 ≤ R.cells) (hf2 : slots + 6 ≤ R.slots)
    (kk : ∀ (H1 : Heap) (locs1 : List Loc) (ls1 : Array Slot), lI T A s H1 locs1 → lv_has ls1 8 (lL T b i) → W p l e R s m args below meth c H1 locs1 (cells + 1) (slots + 6) Q (F0 m 1443 ls1 [])) : W p l e R s m args below meth c H locs cells slots Q (F0 m 136 ls []) := by
  obtain ⟨V, K, I, O, z, n9, tx, M, Z, G, hc, hm, hn9, hK14, hK16, hI0, hI4, ht, hw⟩ := hw
  have hQ9 := hQ
  obtain ⟨hx, hb, hC, hz, hX, hbl, hbA, hL, hR1, hR2⟩ := hQ9
  have hl : lv_has ls 8 [(4, .int (nI i)), (3, .ref (wa T 96)), (2, .ref (wa T 91)), (1, .ref (wa T 84)), (0, .ref b)] := hl
  refine lv_aload_n hx hb d_w_136 rfl (lv_at hl 3 rfl) ?_
  refine rS (k := 1) hQ hw.2.2.2.1 hi (by decide) (lv_at hl 4 rfl) (lv_at hl 0 rfl) (by decide) d_w_137 d_w_138 d_w_140 d_w_141 d_w_142 ?_
  refine rJ (k := 2) hx hb hC hQ hw.2.2.2.1 hi (by decide) (lv_at hl 4 rfl) (lv_at hl 0 rfl) (by decide) (by decide) d_w_143 d_w_144 d_w_146 d_w_147 d_w_148 d_w_149 d_w_150 d_w_152 d_w_153 d_w_154 d_w_156 d_w_157 d_w_158 d_w_159 d_w_160 d_w_163 d_w_164 ?_
  refine lv_topl (fun v9 e9 => ?_)
  refine wcY (As := [.ref (wa T 84), .int (xs (i + 1)), .long v9]) (rest := []) hx hb hC hz hw (k_Y_set l hst T V K _ O z hc (xs (i + 1)) v9) lh_Y_set rfl rfl ⟨show 8 + 1 ≤ R.frames by omega, show 8 + (5 + 11) + 133 ≤ R.locals by omega⟩ rfl hl.1 rfl (Nat.le_of_ble_eq_true rfl) ⟨hf1, hf2⟩ d_w_165 (fun r9 V9 K9 I9 O9 H locs hP9 hw => ?_)
  obtain ⟨ho9, hq9, hI9, hO9⟩ := hP9
  rw [hI9, hO9] at hw
  refine lv_istore hx hb d_w_168 hl (by decide) rfl (fun ls hl => ?_)
  have hl : lv_has ls 8 [(5, .int r9), (4, .int (nI i)), (3, .ref (wa T 96)), (2, .ref (wa T 91)), (1, .ref (wa T 84)), (0, .ref b)] := hl
  refine lv_aload_n hx hb d_w_170 rfl (lv_at hl 3 rfl) ?_
  refine rS (k := 1) hQ hw.2.2.2.1 hi (by decide) (lv_at hl 5 rfl) (lv_at hl 1 rfl) (by decide) d_w_171 d_w_172 d_w_174 d_w_175 d_w_176 ?_
  refine rJ (k := 2) hx hb hC hQ hw.2.2.2.1 hi (by decide) (lv_at hl 5 rfl) (lv_at hl 1 rfl) (by decide) (by decide) d_w_177 d_w_178 d_w_180 d_w_181 d_w_182 d_w_183 d_w_184 d_w_186 d_w_187 d_w_188 d_w_190 d_w_191 d_w_192 d_w_193 d_w_194 d_w_197 d_w_198 ?_
  rw [← e9]
  refine wcV_vM (As := [.int (xs (i + 1)), .long v9]) (rest := []) hx hb hC hw (k_M_set l T (fF V9) (fU V9) K9 _ _ M Z G z hm (xs (i + 1)) v9) lk_Y_99 rfl rfl ⟨show 2 + 1 ≤ R.frames by omega, show 8 + (7 + 11) + 46 ≤ R.locals by omega⟩ (by decide) we_Model rfl rfl hl.1 rfl (Nat.le_of_ble_eq_true rfl) ⟨by omega, by omega⟩ d_w_199 (fun M9 Z9 G9 H locs hm9 hw => ?_)
  refine lv_aload_n hx hb d_w_202 rfl (lv_at hl 3 rfl) ?_
  refine wcV_i (As := []) (rest := []) hx hb hC hw (k_M_thrown l T _ _ _ _ _) lk_Y_100 rfl rfl ⟨show 0 + 1 ≤ R.frames by omega, show 8 + (1 + 11) + 0 ≤ R.locals by omega⟩ (by decide) we_Model rfl rfl hl.1 rfl (Nat.le_of_ble_eq_true rfl) ⟨by omega, by omega⟩ d_w_203 (fun H locs hw => ?_)
  refine lv_iload hx hb d_w_206 (lv_at hl 0 rfl) ?_
  refine lv_icmp_eq (tgt := 213) hx hb d_w_208 (by decide) (fun h9 => ?_) (fun h9 => absurd ((va_up_self _ _ _).trans ho9.symm) h9)
  refine lv_goto (tgt := 1443) hx hb d_w_213 (by decide) ?_
  exact kk H locs ls ⟨V9, _, I, _, _, n9, tx, M9, Z9, G9, hq9.1.outK (by decide), hm9, hn9, (va_up_ne _ _ (by decide)).trans (hq9.2.1.trans hK14), (va_up_ne _ _ (by decide)).trans (hq9.2.2.2.trans hK16), hI0, hI4, ht, hw⟩ (lv_sub hl [1, 2, 3, 4, 5] rfl)
set_option maxRecDepth 100000 in
set_option maxHeartbeats 4000000 in
theorem law_copy (l : Launch) (hst : l.stackTraces = false) (T : wT) {p : Program} {e : Env} {R : Room} {s : State} {m : MethodId} {args : Array Value} {below : List Frame} {meth : Method} {c : Code} {H : Heap} {locs : List Loc} {cells slots : Nat} {Q : State → Prop} {ls : Array Slot} {b L i : Nat} {xs : Nat → Int32} {A : Nat → Prop} (hQ : lX p R s m args c b L xs A) (hi : i + 6 ≤ L) (hw : lI T A s H locs) (hl : lv_has ls 8 (lL T b i)) (hf1 : cells + 1 ≤ R.cells) (hf2 : slots + 6 ≤ R.slots)
    (kk : ∀ (H1 : Heap) (locs1 : List Loc) (ls1 : Array Slot), lI T A s H1 locs1 → lv_has ls1 8 (lL T b i) → W p l e R s m args below meth c H1 locs1 (cells + 1) (slots + 6) Q (F0 m 1443 ls1 [])) : W p l e R s m args below meth c H locs cells slots Q (F0 m 216 ls []) := by
  obtain ⟨V, K, I, O, z, n9, tx, M, Z, G, hc, hm, hn9, hK14, hK16, hI0, hI4, ht, hw⟩ := hw
  have hQ9 := hQ
  obtain ⟨hx, hb, hC, hz, hX, hbl, hbA, hL, hR1, hR2⟩ := hQ9
  have hl : lv_has ls 8 [(4, .int (nI i)), (3, .ref (wa T 96)), (2, .ref (wa T 91)), (1, .ref (wa T 84)), (0, .ref b)] := hl
  refine lv_aload_n hx hb d_w_216 rfl (lv_at hl 3 rfl) ?_
  refine rS (k := 1) hQ hw.2.2.2.1 hi (by decide) (lv_at hl 4 rfl) (lv_at hl 0 rfl) (by decide) d_w_217 d_w_218 d_w_220 d_w_221 d_w_222 ?_
  refine rS (k := 2) hQ hw.2.2.2.1 hi (by decide) (lv_at hl 4 rfl) (lv_at hl 0 rfl) (by decide) d_w_223 d_w_224 d_w_226 d_w_227 d_w_228 ?_
  refine rS (k := 3) hQ hw.2.2.2.1 hi (by decide) (lv_at hl 4 rfl) (lv_at hl 0 rfl) (by decide) d_w_229 d_w_230 d_w_232 d_w_233 d_w_234 ?_
  refine rZ hx hb d_w_235 d_w_238 d_w_239 d_w_242 ?_
  refine wcY (As := [.ref (wa T 84), .int (xs (i + 1)), .int (xs (i + 2)), .int (bI (decide (xs (i + 3) ≠ 0)))]) (rest := []) hx hb hC hz hw (k_Y_copy l hst T V K _ O z hc (xs (i + 1)) (xs (i + 2)) (decide (xs (i + 3) ≠ 0))) lh_Y_copy rfl rfl ⟨show 8 + 1 ≤ R.frames by omega, show 8 + (5 + 11) + 133 ≤ R.locals by omega⟩ rfl hl.1 rfl (Nat.le_of_ble_eq_true rfl) ⟨hf1, hf2⟩ d_w_243 (fun r9 V9 K9 I9 O9 H locs hP9 hw => ?_)
  obtain ⟨ho9, hq9, hI9, hO9⟩ := hP9
  rw [hI9, hO9] at hw
  refine lv_istore hx hb d_w_246 hl (by decide) rfl (fun ls hl => ?_)
  have hl : lv_has ls 8 [(5, .int r9), (4, .int (nI i)), (3, .ref (wa T 96)), (2, .ref (wa T 91)), (1, .ref (wa T 84)), (0, .ref b)] := hl
  refine lv_aload_n hx hb d_w_248 rfl (lv_at hl 3 rfl) ?_
  refine rS (k := 1) hQ hw.2.2.2.1 hi (by decide) (lv_at hl 5 rfl) (lv_at hl 1 rfl) (by decide) d_w_249 d_w_250 d_w_252 d_w_253 d_w_254 ?_
  refine rS (k := 2) hQ hw.2.2.2.1 hi (by decide) (lv_at hl 5 rfl) (lv_at hl 1 rfl) (by decide) d_w_255 d_w_256 d_w_258 d_w_259 d_w_260 ?_
  refine rS (k := 3) hQ hw.2.2.2.1 hi (by decide) (lv_at hl 5 rfl) (lv_at hl 1 rfl) (by decide) d_w_261 d_w_262 d_w_264 d_w_265 d_w_266 ?_
  refine rZ hx hb d_w_267 d_w_270 d_w_271 d_w_274 ?_
  refine wcV_vM (As := [.int (xs (i + 1)), .int (xs (i + 2)), .int (bI (decide (xs (i + 3) ≠ 0)))]) (rest := []) hx hb hC hw (k_M_copy l T (fF V9) (fU V9) K9 _ _ M Z G z hm (xs (i + 1)) (xs (i + 2)) (decide (xs (i + 3) ≠ 0))) lk_Y_107 rfl rfl ⟨show 2 + 1 ≤ R.frames by omega, show 8 + (4 + 11) + 46 ≤ R.locals by omega⟩ (by decide) we_Model rfl rfl hl.1 rfl (Nat.le_of_ble_eq_true rfl) ⟨by omega, by omega⟩ d_w_275 (fun M9 Z9 G9 H locs hm9 hw => ?_)
  refine lv_aload_n hx hb d_w_278 rfl (lv_at hl 3 rfl) ?_
  refine wcV_i (As := []) (rest := []) hx hb hC hw (k_M_thrown l T _ _ _ _ _) lk_Y_100 rfl rfl ⟨show 0 + 1 ≤ R.frames by omega, show 8 + (1 + 11) + 0 ≤ R.locals by omega⟩ (by decide) we_Model rfl rfl hl.1 rfl (Nat.le_of_ble_eq_true rfl) ⟨by omega, by omega⟩ d_w_279 (fun H locs hw => ?_)
  refine lv_iload hx hb d_w_282 (lv_at hl 0 rfl) ?_
  refine lv_icmp_eq (tgt := 289) hx hb d_w_284 (by decide) (fun h9 => ?_) (fun h9 => absurd ((va_up_self _ _ _).trans ho9.symm) h9)
  refine lv_goto (tgt := 1443) hx hb d_w_289 (by decide) ?_
  exact kk H locs ls ⟨V9, _, I, _, _, n9, tx, M9, Z9, G9, hq9.1.outK (by decide), hm9, hn9, (va_up_ne _ _ (by decide)).trans (hq9.2.1.trans hK14), (va_up_ne _ _ (by decide)).trans (hq9.2.2.2.trans hK16), hI0, hI4, ht, hw⟩ (lv_sub hl [1, 2, 3, 4, 5] rfl)
set_option maxRecDepth 100000 in
set_option maxHeartbeats 4000000 in
theorem law_add (l : Launch) (hst : l.stackTraces = false) (T : wT) {p : Program} {e : Env} {R : Room} {s : State} {m : MethodId} {args : Array Value} {below : List Frame} {meth : Method} {c : Code} {H : Heap} {locs : List Loc} {cells slots : Nat} {Q : State → Prop} {ls : Array Slot} {b L i : Nat} {xs : Nat → Int32} {A : Nat → Prop} (hQ : lX p R s m args c b L xs A) (hi : i + 6 ≤ L) (hw : lI T A s H locs) (hl : lv_has ls 8 (lL T b i)) (hf1 : cells + 1 ≤ R.cells) (hf2 : slots + 6 ≤ R.slots)
    (kk : ∀ (H1 : Heap) (locs1 : List Loc) (ls1 : Array Slot), lI T A s H1 locs1 → lv_has ls1 8 (lL T b i) → W p l e R s m args below meth c H1 locs1 (cells + 1) (slots + 6) Q (F0 m 1443 ls1 [])) : W p l e R s m args below meth c H locs cells slots Q (F0 m 292 ls []) := by
  obtain ⟨V, K, I, O, z, n9, tx, M, Z, G, hc, hm, hn9, hK14, hK16, hI0, hI4, ht, hw⟩ := hw
  have hQ9 := hQ
  obtain ⟨hx, hb, hC, hz, hX, hbl, hbA, hL, hR1, hR2⟩ := hQ9
  have hl : lv_has ls 8 [(4, .int (nI i)), (3, .ref (wa T 96)), (2, .ref (wa T 91)), (1, .ref (wa T 84)), (0, .ref b)] := hl
  refine lv_aload_n hx hb d_w_292 rfl (lv_at hl 3 rfl) ?_
  refine rS (k := 1) hQ hw.2.2.2.1 hi (by decide) (lv_at hl 4 rfl) (lv_at hl 0 rfl) (by decide) d_w_293 d_w_294 d_w_296 d_w_297 d_w_298 ?_
  refine rS (k := 2) hQ hw.2.2.2.1 hi (by decide) (lv_at hl 4 rfl) (lv_at hl 0 rfl) (by decide) d_w_299 d_w_300 d_w_302 d_w_303 d_w_304 ?_
  refine rS (k := 3) hQ hw.2.2.2.1 hi (by decide) (lv_at hl 4 rfl) (lv_at hl 0 rfl) (by decide) d_w_305 d_w_306 d_w_308 d_w_309 d_w_310 ?_
  refine wcY (As := [.ref (wa T 84), .int (xs (i + 1)), .int (xs (i + 2)), .int (xs (i + 3))]) (rest := []) hx hb hC hz hw (k_Y_add l hst T V K _ O z hc (xs (i + 1)) (xs (i + 2)) (xs (i + 3))) lh_Y_add rfl rfl ⟨show 8 + 1 ≤ R.frames by omega, show 8 + (5 + 11) + 134 ≤ R.locals by omega⟩ rfl hl.1 rfl (Nat.le_of_ble_eq_true rfl) ⟨hf1, hf2⟩ d_w_311 (fun r9 V9 K9 I9 O9 H locs hP9 hw => ?_)
  obtain ⟨ho9, hq9, hI9, hO9⟩ := hP9
  rw [hI9, hO9] at hw
  refine lv_istore hx hb d_w_314 hl (by decide) rfl (fun ls hl => ?_)
  have hl : lv_has ls 8 [(5, .int r9), (4, .int (nI i)), (3, .ref (wa T 96)), (2, .ref (wa T 91)), (1, .ref (wa T 84)), (0, .ref b)] := hl
  refine lv_aload_n hx hb d_w_316 rfl (lv_at hl 3 rfl) ?_
  refine rS (k := 1) hQ hw.2.2.2.1 hi (by decide) (lv_at hl 5 rfl) (lv_at hl 1 rfl) (by decide) d_w_317 d_w_318 d_w_320 d_w_321 d_w_322 ?_
  refine rS (k := 2) hQ hw.2.2.2.1 hi (by decide) (lv_at hl 5 rfl) (lv_at hl 1 rfl) (by decide) d_w_323 d_w_324 d_w_326 d_w_327 d_w_328 ?_
  refine rS (k := 3) hQ hw.2.2.2.1 hi (by decide) (lv_at hl 5 rfl) (lv_at hl 1 rfl) (by decide) d_w_329 d_w_330 d_w_332 d_w_333 d_w_334 ?_
  refine wcV_vM (As := [.int (xs (i + 1)), .int (xs (i + 2)), .int (xs (i + 3))]) (rest := []) hx hb hC hw (k_M_add l T (fF V9) (fU V9) K9 _ _ M Z G z hm (xs (i + 1)) (xs (i + 2)) (xs (i + 3))) lk_Y_111 rfl rfl ⟨show 4 + 1 ≤ R.frames by omega, show 8 + (4 + 11) + 95 ≤ R.locals by omega⟩ (by decide) we_Model rfl rfl hl.1 rfl (Nat.le_of_ble_eq_true rfl) ⟨by omega, by omega⟩ d_w_335 (fun M9 Z9 G9 H locs hm9 hw => ?_)
  refine lv_aload_n hx hb d_w_338 rfl (lv_at hl 3 rfl) ?_
  refine wcV_i (As := []) (rest := []) hx hb hC hw (k_M_thrown l T _ _ _ _ _) lk_Y_100 rfl rfl ⟨show 0 + 1 ≤ R.frames by omega, show 8 + (1 + 11) + 0 ≤ R.locals by omega⟩ (by decide) we_Model rfl rfl hl.1 rfl (Nat.le_of_ble_eq_true rfl) ⟨by omega, by omega⟩ d_w_339 (fun H locs hw => ?_)
  refine lv_iload hx hb d_w_342 (lv_at hl 0 rfl) ?_
  refine lv_icmp_eq (tgt := 349) hx hb d_w_344 (by decide) (fun h9 => ?_) (fun h9 => absurd ((va_up_self _ _ _).trans ho9.symm) h9)
  refine lv_goto (tgt := 1443) hx hb d_w_349 (by decide) ?_
  exact kk H locs ls ⟨V9, _, I, _, _, n9, tx, M9, Z9, G9, hq9.1.outK (by decide), hm9, hn9, (va_up_ne _ _ (by decide)).trans (hq9.2.1.trans hK14), (va_up_ne _ _ (by decide)).trans (hq9.2.2.2.trans hK16), hI0, hI4, ht, hw⟩ (lv_sub hl [1, 2, 3, 4, 5] rfl)
set_option maxRecDepth 100000 in
set_option maxHeartbeats 4000000 in
theorem law_subtract (l : Launch) (hst : l.stackTraces = false) (T : wT) {p : Program} {e : Env} {R : Room} {s : State} {m : MethodId} {args : Array Value} {below : List Frame} {meth : Method} {c : Code} {H : Heap} {locs : List Loc} {cells slots : Nat} {Q : State → Prop} {ls : Array Slot} {b L i : Nat} {xs : Nat → Int32} {A : Nat → Prop} (hQ : lX p R s m args c b L xs A) (hi : i + 6 ≤ L) (hw : lI T A s H locs) (hl : lv_has ls 8 (lL T b i)) (hf1 : cells + 1 ≤ R.cells) (hf2 : slots + 6 ≤ R.slots)
    (kk : ∀ (H1 : Heap) (locs1 : List Loc) (ls1 : Array Slot), lI T A s H1 locs1 → lv_has ls1 8 (lL T b i) → W p l e R s m args below meth c H1 locs1 (cells + 1) (slots + 6) Q (F0 m 1443 ls1 [])) : W p l e R s m args below meth c H locs cells slots Q (F0 m 352 ls []) := by
  obtain ⟨V, K, I, O, z, n9, tx, M, Z, G, hc, hm, hn9, hK14, hK16, hI0, hI4, ht, hw⟩ := hw
  have hQ9 := hQ
  obtain ⟨hx, hb, hC, hz, hX, hbl, hbA, hL, hR1, hR2⟩ := hQ9
  have hl : lv_has ls 8 [(4, .int (nI i)), (3, .ref (wa T 96)), (2, .ref (wa T 91)), (1, .ref (wa T 84)), (0, .ref b)] := hl
  refine lv_aload_n hx hb d_w_352 rfl (lv_at hl 3 rfl) ?_
  refine rS (k := 1) hQ hw.2.2.2.1 hi (by decide) (lv_at hl 4 rfl) (lv_at hl 0 rfl) (by decide) d_w_353 d_w_354 d_w_356 d_w_357 d_w_358 ?_
  refine rS (k := 2) hQ hw.2.2.2.1 hi (by decide) (lv_at hl 4 rfl) (lv_at hl 0 rfl) (by decide) d_w_359 d_w_360 d_w_362 d_w_363 d_w_364 ?_
  refine rS (k := 3) hQ hw.2.2.2.1 hi (by decide) (lv_at hl 4 rfl) (lv_at hl 0 rfl) (by decide) d_w_365 d_w_366 d_w_368 d_w_369 d_w_370 ?_
  refine wcY (As := [.ref (wa T 84), .int (xs (i + 1)), .int (xs (i + 2)), .int (xs (i + 3))]) (rest := []) hx hb hC hz hw (k_Y_subtract l hst T V K _ O z hc (xs (i + 1)) (xs (i + 2)) (xs (i + 3))) lh_Y_subtract rfl rfl ⟨show 8 + 1 ≤ R.frames by omega, show 8 + (5 + 11) + 134 ≤ R.locals by omega⟩ rfl hl.1 rfl (Nat.le_of_ble_eq_true rfl) ⟨hf1, hf2⟩ d_w_371 (fun r9 V9 K9 I9 O9 H locs hP9 hw => ?_)
  obtain ⟨ho9, hq9, hI9, hO9⟩ := hP9
  rw [hI9, hO9] at hw
  refine lv_istore hx hb d_w_374 hl (by decide) rfl (fun ls hl => ?_)
  have hl : lv_has ls 8 [(5, .int r9), (4, .int (nI i)), (3, .ref (wa T 96)), (2, .ref (wa T 91)), (1, .ref (wa T 84)), (0, .ref b)] := hl
  refine lv_aload_n hx hb d_w_376 rfl (lv_at hl 3 rfl) ?_
  refine rS (k := 1) hQ hw.2.2.2.1 hi (by decide) (lv_at hl 5 rfl) (lv_at hl 1 rfl) (by decide) d_w_377 d_w_378 d_w_380 d_w_381 d_w_382 ?_
  refine rS (k := 2) hQ hw.2.2.2.1 hi (by decide) (lv_at hl 5 rfl) (lv_at hl 1 rfl) (by decide) d_w_383 d_w_384 d_w_386 d_w_387 d_w_388 ?_
  refine rS (k := 3) hQ hw.2.2.2.1 hi (by decide) (lv_at hl 5 rfl) (lv_at hl 1 rfl) (by decide) d_w_389 d_w_390 d_w_392 d_w_393 d_w_394 ?_
  refine wcV_vM (As := [.int (xs (i + 1)), .int (xs (i + 2)), .int (xs (i + 3))]) (rest := []) hx hb hC hw (k_M_subtract l T (fF V9) (fU V9) K9 _ _ M Z G z hm (xs (i + 1)) (xs (i + 2)) (xs (i + 3))) lk_Y_114 rfl rfl ⟨show 4 + 1 ≤ R.frames by omega, show 8 + (4 + 11) + 95 ≤ R.locals by omega⟩ (by decide) we_Model rfl rfl hl.1 rfl (Nat.le_of_ble_eq_true rfl) ⟨by omega, by omega⟩ d_w_395 (fun M9 Z9 G9 H locs hm9 hw => ?_)
  refine lv_aload_n hx hb d_w_398 rfl (lv_at hl 3 rfl) ?_
  refine wcV_i (As := []) (rest := []) hx hb hC hw (k_M_thrown l T _ _ _ _ _) lk_Y_100 rfl rfl ⟨show 0 + 1 ≤ R.frames by omega, show 8 + (1 + 11) + 0 ≤ R.locals by omega⟩ (by decide) we_Model rfl rfl hl.1 rfl (Nat.le_of_ble_eq_true rfl) ⟨by omega, by omega⟩ d_w_399 (fun H locs hw => ?_)
  refine lv_iload hx hb d_w_402 (lv_at hl 0 rfl) ?_
  refine lv_icmp_eq (tgt := 409) hx hb d_w_404 (by decide) (fun h9 => ?_) (fun h9 => absurd ((va_up_self _ _ _).trans ho9.symm) h9)
  refine lv_goto (tgt := 1443) hx hb d_w_409 (by decide) ?_
  exact kk H locs ls ⟨V9, _, I, _, _, n9, tx, M9, Z9, G9, hq9.1.outK (by decide), hm9, hn9, (va_up_ne _ _ (by decide)).trans (hq9.2.1.trans hK14), (va_up_ne _ _ (by decide)).trans (hq9.2.2.2.trans hK16), hI0, hI4, ht, hw⟩ (lv_sub hl [1, 2, 3, 4, 5] rfl)
set_option maxRecDepth 100000 in
set_option maxHeartbeats 4000000 in
theorem law_multiply (l : Launch) (hst : l.stackTraces = false) (T : wT) {p : Program} {e : Env} {R : Room} {s : State} {m : MethodId} {args : Array Value} {below : List Frame} {meth : Method} {c : Code} {H : Heap} {locs : List Loc} {cells slots : Nat} {Q : State → Prop} {ls : Array Slot} {b L i : Nat} {xs : Nat → Int32} {A : Nat → Prop} (hQ : lX p R s m args c b L xs A) (hi : i + 6 ≤ L) (hw : lI T A s H locs) (hl : lv_has ls 8 (lL T b i)) (hf1 : cells + 1 ≤ R.cells) (hf2 : slots + 6 ≤ R.slots)
    (kk : ∀ (H1 : Heap) (locs1 : List Loc) (ls1 : Array Slot), lI T A s H1 locs1 → lv_has ls1 8 (lL T b i) → W p l e R s m args below meth c H1 locs1 (cells + 1) (slots + 6) Q (F0 m 1443 ls1 [])) : W p l e R s m args below meth c H locs cells slots Q (F0 m 412 ls []) := by
  obtain ⟨V, K, I, O, z, n9, tx, M, Z, G, hc, hm, hn9, hK14, hK16, hI0, hI4, ht, hw⟩ := hw
  have hQ9 := hQ
  obtain ⟨hx, hb, hC, hz, hX, hbl, hbA, hL, hR1, hR2⟩ := hQ9
  have hl : lv_has ls 8 [(4, .int (nI i)), (3, .ref (wa T 96)), (2, .ref (wa T 91)), (1, .ref (wa T 84)), (0, .ref b)] := hl
  refine lv_aload_n hx hb d_w_412 rfl (lv_at hl 3 rfl) ?_
  refine rS (k := 1) hQ hw.2.2.2.1 hi (by decide) (lv_at hl 4 rfl) (lv_at hl 0 rfl) (by decide) d_w_413 d_w_414 d_w_416 d_w_417 d_w_418 ?_
  refine rS (k := 2) hQ hw.2.2.2.1 hi (by decide) (lv_at hl 4 rfl) (lv_at hl 0 rfl) (by decide) d_w_419 d_w_420 d_w_422 d_w_423 d_w_424 ?_
  refine rS (k := 3) hQ hw.2.2.2.1 hi (by decide) (lv_at hl 4 rfl) (lv_at hl 0 rfl) (by decide) d_w_425 d_w_426 d_w_428 d_w_429 d_w_430 ?_
  refine wcY (As := [.ref (wa T 84), .int (xs (i + 1)), .int (xs (i + 2)), .int (xs (i + 3))]) (rest := []) hx hb hC hz hw (k_Y_multiply l hst T V K _ O z hc (xs (i + 1)) (xs (i + 2)) (xs (i + 3))) lh_Y_multiply rfl rfl ⟨show 8 + 1 ≤ R.frames by omega, show 8 + (5 + 11) + 134 ≤ R.locals by omega⟩ rfl hl.1 rfl (Nat.le_of_ble_eq_true rfl) ⟨hf1, hf2⟩ d_w_431 (fun r9 V9 K9 I9 O9 H locs hP9 hw => ?_)
  obtain ⟨ho9, hq9, hI9, hO9⟩ := hP9
  rw [hI9, hO9] at hw
  refine lv_istore hx hb d_w_434 hl (by decide) rfl (fun ls hl => ?_)
  have hl : lv_has ls 8 [(5, .int r9), (4, .int (nI i)), (3, .ref (wa T 96)), (2, .ref (wa T 91)), (1, .ref (wa T 84)), (0, .ref b)] := hl
  refine lv_aload_n hx hb d_w_436 rfl (lv_at hl 3 rfl) ?_
  refine rS (k := 1) hQ hw.2.2.2.1 hi (by decide) (lv_at hl 5 rfl) (lv_at hl 1 rfl) (by decide) d_w_437 d_w_438 d_w_440 d_w_441 d_w_442 ?_
  refine rS (k := 2) hQ hw.2.2.2.1 hi (by decide) (lv_at hl 5 rfl) (lv_at hl 1 rfl) (by decide) d_w_443 d_w_444 d_w_446 d_w_447 d_w_448 ?_
  refine rS (k := 3) hQ hw.2.2.2.1 hi (by decide) (lv_at hl 5 rfl) (lv_at hl 1 rfl) (by decide) d_w_449 d_w_450 d_w_452 d_w_453 d_w_454 ?_
  refine wcV_vM (As := [.int (xs (i + 1)), .int (xs (i + 2)), .int (xs (i + 3))]) (rest := []) hx hb hC hw (k_M_multiply l T (fF V9) (fU V9) K9 _ _ M Z G z hm (xs (i + 1)) (xs (i + 2)) (xs (i + 3))) lk_Y_117 rfl rfl ⟨show 3 + 1 ≤ R.frames by omega, show 8 + (4 + 11) + 70 ≤ R.locals by omega⟩ (by decide) we_Model rfl rfl hl.1 rfl (Nat.le_of_ble_eq_true rfl) ⟨by omega, by omega⟩ d_w_455 (fun M9 Z9 G9 H locs hm9 hw => ?_)
  refine lv_aload_n hx hb d_w_458 rfl (lv_at hl 3 rfl) ?_
  refine wcV_i (As := []) (rest := []) hx hb hC hw (k_M_thrown l T _ _ _ _ _) lk_Y_100 rfl rfl ⟨show 0 + 1 ≤ R.frames by omega, show 8 + (1 + 11) + 0 ≤ R.locals by omega⟩ (by decide) we_Model rfl rfl hl.1 rfl (Nat.le_of_ble_eq_true rfl) ⟨by omega, by omega⟩ d_w_459 (fun H locs hw => ?_)
  refine lv_iload hx hb d_w_462 (lv_at hl 0 rfl) ?_
  refine lv_icmp_eq (tgt := 469) hx hb d_w_464 (by decide) (fun h9 => ?_) (fun h9 => absurd ((va_up_self _ _ _).trans ho9.symm) h9)
  refine lv_goto (tgt := 1443) hx hb d_w_469 (by decide) ?_
  exact kk H locs ls ⟨V9, _, I, _, _, n9, tx, M9, Z9, G9, hq9.1.outK (by decide), hm9, hn9, (va_up_ne _ _ (by decide)).trans (hq9.2.1.trans hK14), (va_up_ne _ _ (by decide)).trans (hq9.2.2.2.trans hK16), hI0, hI4, ht, hw⟩ (lv_sub hl [1, 2, 3, 4, 5] rfl)
set_option maxRecDepth 100000 in
set_option maxHeartbeats 4000000 in
theorem law_divide (l : Launch) (hst : l.stackTraces = false) (T : wT) {p : Program} {e : Env} {R : Room} {s : State} {m : MethodId} {args : Array Value} {below : List Frame} {meth : Method} {c : Code} {H : Heap} {locs : List Loc} {cells slots : Nat} {Q : State → Prop} {ls : Array Slot} {b L i : Nat} {xs : Nat → Int32} {A : Nat → Prop} (hQ : lX p R s m args c b L xs A) (hi : i + 6 ≤ L) (hw : lI T A s H locs) (hl : lv_has ls 8 (lL T b i)) (hf1 : cells + 1 ≤ R.cells) (hf2 : slots + 6 ≤ R.slots)
    (kk : ∀ (H1 : Heap) (locs1 : List Loc) (ls1 : Array Slot), lI T A s H1 locs1 → lv_has ls1 8 (lL T b i) → W p l e R s m args below meth c H1 locs1 (cells + 1) (slots + 6) Q (F0 m 1443 ls1 [])) : W p l e R s m args below meth c H locs cells slots Q (F0 m 472 ls []) := by
  obtain ⟨V, K, I, O, z, n9, tx, M, Z, G, hc, hm, hn9, hK14, hK16, hI0, hI4, ht, hw⟩ := hw
  have hQ9 := hQ
  obtain ⟨hx, hb, hC, hz, hX, hbl, hbA, hL, hR1, hR2⟩ := hQ9
  have hl : lv_has ls 8 [(4, .int (nI i)), (3, .ref (wa T 96)), (2, .ref (wa T 91)), (1, .ref (wa T 84)), (0, .ref b)] := hl
  refine lv_aload_n hx hb d_w_472 rfl (lv_at hl 3 rfl) ?_
  refine rS (k := 1) hQ hw.2.2.2.1 hi (by decide) (lv_at hl 4 rfl) (lv_at hl 0 rfl) (by decide) d_w_473 d_w_474 d_w_476 d_w_477 d_w_478 ?_
  refine rS (k := 2) hQ hw.2.2.2.1 hi (by decide) (lv_at hl 4 rfl) (lv_at hl 0 rfl) (by decide) d_w_479 d_w_480 d_w_482 d_w_483 d_w_484 ?_
  refine rS (k := 3) hQ hw.2.2.2.1 hi (by decide) (lv_at hl 4 rfl) (lv_at hl 0 rfl) (by decide) d_w_485 d_w_486 d_w_488 d_w_489 d_w_490 ?_
  refine rS (k := 4) hQ hw.2.2.2.1 hi (by decide) (lv_at hl 4 rfl) (lv_at hl 0 rfl) (by decide) d_w_491 d_w_492 d_w_494 d_w_495 d_w_496 ?_
  refine rS (k := 5) hQ hw.2.2.2.1 hi (by decide) (lv_at hl 4 rfl) (lv_at hl 0 rfl) (by decide) d_w_497 d_w_498 d_w_500 d_w_501 d_w_502 ?_
  refine rZ hx hb d_w_503 d_w_506 d_w_507 d_w_510 ?_
  refine wcY (As := [.ref (wa T 84), .int (xs (i + 1)), .int (xs (i + 2)), .int (xs (i + 3)), .int (xs (i + 4)), .int (bI (decide (xs (i + 5) ≠ 0)))]) (rest := []) hx hb hC hz hw (k_Y_divide l hst T V K _ O z hc (xs (i + 1)) (xs (i + 2)) (xs (i + 3)) (xs (i + 4)) (decide (xs (i + 5) ≠ 0))) lh_Y_divide rfl rfl ⟨show 8 + 1 ≤ R.frames by omega, show 8 + (7 + 11) + 138 ≤ R.locals by omega⟩ rfl hl.1 rfl (Nat.le_of_ble_eq_true rfl) ⟨hf1, hf2⟩ d_w_511 (fun r9 V9 K9 I9 O9 H locs hP9 hw => ?_)
  obtain ⟨ho9, hq9, hI9, hO9⟩ := hP9
  rw [hI9, hO9] at hw
  refine lv_istore hx hb d_w_514 hl (by decide) rfl (fun ls hl => ?_)
  have hl : lv_has ls 8 [(5, .int r9), (4, .int (nI i)), (3, .ref (wa T 96)), (2, .ref (wa T 91)), (1, .ref (wa T 84)), (0, .ref b)] := hl
  refine lv_aload_n hx hb d_w_516 rfl (lv_at hl 3 rfl) ?_
  refine rS (k := 1) hQ hw.2.2.2.1 hi (by decide) (lv_at hl 5 rfl) (lv_at hl 1 rfl) (by decide) d_w_517 d_w_518 d_w_520 d_w_521 d_w_522 ?_
  refine rS (k := 2) hQ hw.2.2.2.1 hi (by decide) (lv_at hl 5 rfl) (lv_at hl 1 rfl) (by decide) d_w_523 d_w_524 d_w_526 d_w_527 d_w_528 ?_
  refine rS (k := 3) hQ hw.2.2.2.1 hi (by decide) (lv_at hl 5 rfl) (lv_at hl 1 rfl) (by decide) d_w_529 d_w_530 d_w_532 d_w_533 d_w_534 ?_
  refine rS (k := 4) hQ hw.2.2.2.1 hi (by decide) (lv_at hl 5 rfl) (lv_at hl 1 rfl) (by decide) d_w_535 d_w_536 d_w_538 d_w_539 d_w_540 ?_
  refine rS (k := 5) hQ hw.2.2.2.1 hi (by decide) (lv_at hl 5 rfl) (lv_at hl 1 rfl) (by decide) d_w_541 d_w_542 d_w_544 d_w_545 d_w_546 ?_
  refine rZ hx hb d_w_547 d_w_550 d_w_551 d_w_554 ?_
  refine wcV_vM (As := [.int (xs (i + 1)), .int (xs (i + 2)), .int (xs (i + 3)), .int (xs (i + 4)), .int (bI (decide (xs (i + 5) ≠ 0)))]) (rest := []) hx hb hC hw (k_M_divide l T (fF V9) (fU V9) K9 _ _ M Z G z hm (xs (i + 1)) (xs (i + 2)) (xs (i + 3)) (xs (i + 4)) (decide (xs (i + 5) ≠ 0))) lk_Y_121 rfl rfl ⟨show 3 + 1 ≤ R.frames by omega, show 8 + (8 + 11) + 77 ≤ R.locals by omega⟩ (by decide) we_Model rfl rfl hl.1 rfl (Nat.le_of_ble_eq_true rfl) ⟨by omega, by omega⟩ d_w_555 (fun M9 Z9 G9 H locs hm9 hw => ?_)
  refine lv_aload_n hx hb d_w_558 rfl (lv_at hl 3 rfl) ?_
  refine wcV_i (As := []) (rest := []) hx hb hC hw (k_M_thrown l T _ _ _ _ _) lk_Y_100 rfl rfl ⟨show 0 + 1 ≤ R.frames by omega, show 8 + (1 + 11) + 0 ≤ R.locals by omega⟩ (by decide) we_Model rfl rfl hl.1 rfl (Nat.le_of_ble_eq_true rfl) ⟨by omega, by omega⟩ d_w_559 (fun H locs hw => ?_)
  refine lv_iload hx hb d_w_562 (lv_at hl 0 rfl) ?_
  refine lv_icmp_eq (tgt := 569) hx hb d_w_564 (by decide) (fun h9 => ?_) (fun h9 => absurd ((va_up_self _ _ _).trans ho9.symm) h9)
  refine lv_goto (tgt := 1443) hx hb d_w_569 (by decide) ?_
  exact kk H locs ls ⟨V9, _, I, _, _, n9, tx, M9, Z9, G9, hq9.1.outK (by decide), hm9, hn9, (va_up_ne _ _ (by decide)).trans (hq9.2.1.trans hK14), (va_up_ne _ _ (by decide)).trans (hq9.2.2.2.trans hK16), hI0, hI4, ht, hw⟩ (lv_sub hl [1, 2, 3, 4, 5] rfl)
set_option maxRecDepth 100000 in
set_option maxHeartbeats 4000000 in
theorem law_shift (l : Launch) (hst : l.stackTraces = false) (T : wT) {p : Program} {e : Env} {R : Room} {s : State} {m : MethodId} {args : Array Value} {below : List Frame} {meth : Method} {c : Code} {H : Heap} {locs : List Loc} {cells slots : Nat} {Q : State → Prop} {ls : Array Slot} {b L i : Nat} {xs : Nat → Int32} {A : Nat → Prop} (hQ : lX p R s m args c b L xs A) (hi : i + 6 ≤ L) (hw : lI T A s H locs) (hl : lv_has ls 8 (lL T b i)) (hf1 : cells + 1 ≤ R.cells) (hf2 : slots + 6 ≤ R.slots)
    (kk : ∀ (H1 : Heap) (locs1 : List Loc) (ls1 : Array Slot), lI T A s H1 locs1 → lv_has ls1 8 (lL T b i) → W p l e R s m args below meth c H1 locs1 (cells + 1) (slots + 6) Q (F0 m 1443 ls1 [])) : W p l e R s m args below meth c H locs cells slots Q (F0 m 572 ls []) := by
  obtain ⟨V, K, I, O, z, n9, tx, M, Z, G, hc, hm, hn9, hK14, hK16, hI0, hI4, ht, hw⟩ := hw
  have hQ9 := hQ
  obtain ⟨hx, hb, hC, hz, hX, hbl, hbA, hL, hR1, hR2⟩ := hQ9
  have hl : lv_has ls 8 [(4, .int (nI i)), (3, .ref (wa T 96)), (2, .ref (wa T 91)), (1, .ref (wa T 84)), (0, .ref b)] := hl
  refine lv_aload_n hx hb d_w_572 rfl (lv_at hl 3 rfl) ?_
  refine rS (k := 1) hQ hw.2.2.2.1 hi (by decide) (lv_at hl 4 rfl) (lv_at hl 0 rfl) (by decide) d_w_573 d_w_574 d_w_576 d_w_577 d_w_578 ?_
  refine rS (k := 2) hQ hw.2.2.2.1 hi (by decide) (lv_at hl 4 rfl) (lv_at hl 0 rfl) (by decide) d_w_579 d_w_580 d_w_582 d_w_583 d_w_584 ?_
  refine rS (k := 3) hQ hw.2.2.2.1 hi (by decide) (lv_at hl 4 rfl) (lv_at hl 0 rfl) (by decide) d_w_585 d_w_586 d_w_588 d_w_589 d_w_590 ?_
  refine wcY (As := [.ref (wa T 84), .int (xs (i + 1)), .int (xs (i + 2)), .int (xs (i + 3))]) (rest := []) hx hb hC hz hw (k_Y_shift l hst T V K _ O z hc (xs (i + 1)) (xs (i + 2)) (xs (i + 3))) lh_Y_shift rfl rfl ⟨show 8 + 1 ≤ R.frames by omega, show 8 + (5 + 11) + 135 ≤ R.locals by omega⟩ rfl hl.1 rfl (Nat.le_of_ble_eq_true rfl) ⟨hf1, hf2⟩ d_w_591 (fun r9 V9 K9 I9 O9 H locs hP9 hw => ?_)
  obtain ⟨ho9, hq9, hI9, hO9⟩ := hP9
  rw [hI9, hO9] at hw
  refine lv_istore hx hb d_w_594 hl (by decide) rfl (fun ls hl => ?_)
  have hl : lv_has ls 8 [(5, .int r9), (4, .int (nI i)), (3, .ref (wa T 96)), (2, .ref (wa T 91)), (1, .ref (wa T 84)), (0, .ref b)] := hl
  refine lv_aload_n hx hb d_w_596 rfl (lv_at hl 3 rfl) ?_
  refine rS (k := 1) hQ hw.2.2.2.1 hi (by decide) (lv_at hl 5 rfl) (lv_at hl 1 rfl) (by decide) d_w_597 d_w_598 d_w_600 d_w_601 d_w_602 ?_
  refine rS (k := 2) hQ hw.2.2.2.1 hi (by decide) (lv_at hl 5 rfl) (lv_at hl 1 rfl) (by decide) d_w_603 d_w_604 d_w_606 d_w_607 d_w_608 ?_
  refine rS (k := 3) hQ hw.2.2.2.1 hi (by decide) (lv_at hl 5 rfl) (lv_at hl 1 rfl) (by decide) d_w_609 d_w_610 d_w_612 d_w_613 d_w_614 ?_
  refine wcV_vM (As := [.int (xs (i + 1)), .int (xs (i + 2)), .int (xs (i + 3))]) (rest := []) hx hb hC hw (k_M_shift l T (fF V9) (fU V9) K9 _ _ M Z G z hm (xs (i + 1)) (xs (i + 2)) (xs (i + 3))) lk_Y_124 rfl rfl ⟨show 2 + 1 ≤ R.frames by omega, show 8 + (6 + 11) + 49 ≤ R.locals by omega⟩ (by decide) we_Model rfl rfl hl.1 rfl (Nat.le_of_ble_eq_true rfl) ⟨by omega, by omega⟩ d_w_615 (fun M9 Z9 G9 H locs hm9 hw => ?_)
  refine lv_aload_n hx hb d_w_618 rfl (lv_at hl 3 rfl) ?_
  refine wcV_i (As := []) (rest := []) hx hb hC hw (k_M_thrown l T _ _ _ _ _) lk_Y_100 rfl rfl ⟨show 0 + 1 ≤ R.frames by omega, show 8 + (1 + 11) + 0 ≤ R.locals by omega⟩ (by decide) we_Model rfl rfl hl.1 rfl (Nat.le_of_ble_eq_true rfl) ⟨by omega, by omega⟩ d_w_619 (fun H locs hw => ?_)
  refine lv_iload hx hb d_w_622 (lv_at hl 0 rfl) ?_
  refine lv_icmp_eq (tgt := 629) hx hb d_w_624 (by decide) (fun h9 => ?_) (fun h9 => absurd ((va_up_self _ _ _).trans ho9.symm) h9)
  refine lv_goto (tgt := 1443) hx hb d_w_629 (by decide) ?_
  exact kk H locs ls ⟨V9, _, I, _, _, n9, tx, M9, Z9, G9, hq9.1.outK (by decide), hm9, hn9, (va_up_ne _ _ (by decide)).trans (hq9.2.1.trans hK14), (va_up_ne _ _ (by decide)).trans (hq9.2.2.2.trans hK16), hI0, hI4, ht, hw⟩ (lv_sub hl [1, 2, 3, 4, 5] rfl)
set_option maxRecDepth 100000 in
set_option maxHeartbeats 4000000 in
theorem law_root (l : Launch) (hst : l.stackTraces = false) (T : wT) {p : Program} {e : Env} {R : Room} {s : State} {m : MethodId} {args : Array Value} {below : List Frame} {meth : Method} {c : Code} {H : Heap} {locs : List Loc} {cells slots : Nat} {Q : State → Prop} {ls : Array Slot} {b L i : Nat} {xs : Nat → Int32} {A : Nat → Prop} (hQ : lX p R s m args c b L xs A) (hi : i + 6 ≤ L) (hw : lI T A s H locs) (hl : lv_has ls 8 (lL T b i)) (hf1 : cells + 1 ≤ R.cells) (hf2 : slots + 6 ≤ R.slots)
    (kk : ∀ (H1 : Heap) (locs1 : List Loc) (ls1 : Array Slot), lI T A s H1 locs1 → lv_has ls1 8 (lL T b i) → W p l e R s m args below meth c H1 locs1 (cells + 1) (slots + 6) Q (F0 m 1443 ls1 [])) : W p l e R s m args below meth c H locs cells slots Q (F0 m 632 ls []) := by
  obtain ⟨V, K, I, O, z, n9, tx, M, Z, G, hc, hm, hn9, hK14, hK16, hI0, hI4, ht, hw⟩ := hw
  have hQ9 := hQ
  obtain ⟨hx, hb, hC, hz, hX, hbl, hbA, hL, hR1, hR2⟩ := hQ9
  have hl : lv_has ls 8 [(4, .int (nI i)), (3, .ref (wa T 96)), (2, .ref (wa T 91)), (1, .ref (wa T 84)), (0, .ref b)] := hl
  refine lv_aload_n hx hb d_w_632 rfl (lv_at hl 3 rfl) ?_
  refine rS (k := 1) hQ hw.2.2.2.1 hi (by decide) (lv_at hl 4 rfl) (lv_at hl 0 rfl) (by decide) d_w_633 d_w_634 d_w_636 d_w_637 d_w_638 ?_
  refine rS (k := 2) hQ hw.2.2.2.1 hi (by decide) (lv_at hl 4 rfl) (lv_at hl 0 rfl) (by decide) d_w_639 d_w_640 d_w_642 d_w_643 d_w_644 ?_
  refine rS (k := 3) hQ hw.2.2.2.1 hi (by decide) (lv_at hl 4 rfl) (lv_at hl 0 rfl) (by decide) d_w_645 d_w_646 d_w_648 d_w_649 d_w_650 ?_
  refine wcY (As := [.ref (wa T 84), .int (xs (i + 1)), .int (xs (i + 2)), .int (xs (i + 3))]) (rest := []) hx hb hC hz hw (k_Y_root l hst T V K _ O z hc (xs (i + 1)) (xs (i + 2)) (xs (i + 3))) lh_Y_root rfl rfl ⟨show 8 + 1 ≤ R.frames by omega, show 8 + (5 + 11) + 139 ≤ R.locals by omega⟩ rfl hl.1 rfl (Nat.le_of_ble_eq_true rfl) ⟨hf1, hf2⟩ d_w_651 (fun r9 V9 K9 I9 O9 H locs hP9 hw => ?_)
  obtain ⟨ho9, hq9, hI9, hO9⟩ := hP9
  rw [hI9, hO9] at hw
  refine lv_istore hx hb d_w_654 hl (by decide) rfl (fun ls hl => ?_)
  have hl : lv_has ls 8 [(5, .int r9), (4, .int (nI i)), (3, .ref (wa T 96)), (2, .ref (wa T 91)), (1, .ref (wa T 84)), (0, .ref b)] := hl
  refine lv_aload_n hx hb d_w_656 rfl (lv_at hl 3 rfl) ?_
  refine rS (k := 1) hQ hw.2.2.2.1 hi (by decide) (lv_at hl 5 rfl) (lv_at hl 1 rfl) (by decide) d_w_657 d_w_658 d_w_660 d_w_661 d_w_662 ?_
  refine rS (k := 2) hQ hw.2.2.2.1 hi (by decide) (lv_at hl 5 rfl) (lv_at hl 1 rfl) (by decide) d_w_663 d_w_664 d_w_666 d_w_667 d_w_668 ?_
  refine rS (k := 3) hQ hw.2.2.2.1 hi (by decide) (lv_at hl 5 rfl) (lv_at hl 1 rfl) (by decide) d_w_669 d_w_670 d_w_672 d_w_673 d_w_674 ?_
  refine wcV_vM (As := [.int (xs (i + 1)), .int (xs (i + 2)), .int (xs (i + 3))]) (rest := []) hx hb hC hw (k_M_root l T (fF V9) (fU V9) K9 _ _ M Z G z hm (xs (i + 1)) (xs (i + 2)) (xs (i + 3))) lk_Y_127 rfl rfl ⟨show 3 + 1 ≤ R.frames by omega, show 8 + (5 + 11) + 74 ≤ R.locals by omega⟩ (by decide) we_Model rfl rfl hl.1 rfl (Nat.le_of_ble_eq_true rfl) ⟨by omega, by omega⟩ d_w_675 (fun M9 Z9 G9 H locs hm9 hw => ?_)
  refine lv_aload_n hx hb d_w_678 rfl (lv_at hl 3 rfl) ?_
  refine wcV_i (As := []) (rest := []) hx hb hC hw (k_M_thrown l T _ _ _ _ _) lk_Y_100 rfl rfl ⟨show 0 + 1 ≤ R.frames by omega, show 8 + (1 + 11) + 0 ≤ R.locals by omega⟩ (by decide) we_Model rfl rfl hl.1 rfl (Nat.le_of_ble_eq_true rfl) ⟨by omega, by omega⟩ d_w_679 (fun H locs hw => ?_)
  refine lv_iload hx hb d_w_682 (lv_at hl 0 rfl) ?_
  refine lv_icmp_eq (tgt := 689) hx hb d_w_684 (by decide) (fun h9 => ?_) (fun h9 => absurd ((va_up_self _ _ _).trans ho9.symm) h9)
  refine lv_goto (tgt := 1443) hx hb d_w_689 (by decide) ?_
  exact kk H locs ls ⟨V9, _, I, _, _, n9, tx, M9, Z9, G9, hq9.1.outK (by decide), hm9, hn9, (va_up_ne _ _ (by decide)).trans (hq9.2.1.trans hK14), (va_up_ne _ _ (by decide)).trans (hq9.2.2.2.trans hK16), hI0, hI4, ht, hw⟩ (lv_sub hl [1, 2, 3, 4, 5] rfl)
set_option maxRecDepth 100000 in
set_option maxHeartbeats 4000000 in
theorem law_gcd (l : Launch) (hst : l.stackTraces = false) (T : wT) {p : Program} {e : Env} {R : Room} {s : State} {m : MethodId} {args : Array Value} {below : List Frame} {meth : Method} {c : Code} {H : Heap} {locs : List Loc} {cells slots : Nat} {Q : State → Prop} {ls : Array Slot} {b L i : Nat} {xs : Nat → Int32} {A : Nat → Prop} (hQ : lX p R s m args c b L xs A) (hi : i + 6 ≤ L) (hw : lI T A s H locs) (hl : lv_has ls 8 (lL T b i)) (hf1 : cells + 1 ≤ R.cells) (hf2 : slots + 6 ≤ R.slots)
    (kk : ∀ (H1 : Heap) (locs1 : List Loc) (ls1 : Array Slot), lI T A s H1 locs1 → lv_has ls1 8 (lL T b i) → W p l e R s m args below meth c H1 locs1 (cells + 1) (slots + 6) Q (F0 m 1443 ls1 [])) : W p l e R s m args below meth c H locs cells slots Q (F0 m 692 ls []) := by
  obtain ⟨V, K, I, O, z, n9, tx, M, Z, G, hc, hm, hn9, hK14, hK16, hI0, hI4, ht, hw⟩ := hw
  have hQ9 := hQ
  obtain ⟨hx, hb, hC, hz, hX, hbl, hbA, hL, hR1, hR2⟩ := hQ9
  have hl : lv_has ls 8 [(4, .int (nI i)), (3, .ref (wa T 96)), (2, .ref (wa T 91)), (1, .ref (wa T 84)), (0, .ref b)] := hl
  refine lv_aload_n hx hb d_w_692 rfl (lv_at hl 3 rfl) ?_
  refine rS (k := 1) hQ hw.2.2.2.1 hi (by decide) (lv_at hl 4 rfl) (lv_at hl 0 rfl) (by decide) d_w_693 d_w_694 d_w_696 d_w_697 d_w_698 ?_
  refine rS (k := 2) hQ hw.2.2.2.1 hi (by decide) (lv_at hl 4 rfl) (lv_at hl 0 rfl) (by decide) d_w_699 d_w_700 d_w_702 d_w_703 d_w_704 ?_
  refine rS (k := 3) hQ hw.2.2.2.1 hi (by decide) (lv_at hl 4 rfl) (lv_at hl 0 rfl) (by decide) d_w_705 d_w_706 d_w_708 d_w_709 d_w_710 ?_
  refine wcY (As := [.ref (wa T 84), .int (xs (i + 1)), .int (xs (i + 2)), .int (xs (i + 3))]) (rest := []) hx hb hC hz hw (k_Y_gcd l hst T V K _ O z hc (xs (i + 1)) (xs (i + 2)) (xs (i + 3))) lh_Y_gcd rfl rfl ⟨show 8 + 1 ≤ R.frames by omega, show 8 + (5 + 11) + 151 ≤ R.locals by omega⟩ rfl hl.1 rfl (Nat.le_of_ble_eq_true rfl) ⟨hf1, hf2⟩ d_w_711 (fun r9 V9 K9 I9 O9 H locs hP9 hw => ?_)
  obtain ⟨ho9, hq9, hI9, hO9⟩ := hP9
  rw [hI9, hO9] at hw
  refine lv_istore hx hb d_w_714 hl (by decide) rfl (fun ls hl => ?_)
  have hl : lv_has ls 8 [(5, .int r9), (4, .int (nI i)), (3, .ref (wa T 96)), (2, .ref (wa T 91)), (1, .ref (wa T 84)), (0, .ref b)] := hl
  refine lv_aload_n hx hb d_w_716 rfl (lv_at hl 3 rfl) ?_
  refine rS (k := 1) hQ hw.2.2.2.1 hi (by decide) (lv_at hl 5 rfl) (lv_at hl 1 rfl) (by decide) d_w_717 d_w_718 d_w_720 d_w_721 d_w_722 ?_
  refine rS (k := 2) hQ hw.2.2.2.1 hi (by decide) (lv_at hl 5 rfl) (lv_at hl 1 rfl) (by decide) d_w_723 d_w_724 d_w_726 d_w_727 d_w_728 ?_
  refine rS (k := 3) hQ hw.2.2.2.1 hi (by decide) (lv_at hl 5 rfl) (lv_at hl 1 rfl) (by decide) d_w_729 d_w_730 d_w_732 d_w_733 d_w_734 ?_
  refine wcV_vM (As := [.int (xs (i + 1)), .int (xs (i + 2)), .int (xs (i + 3))]) (rest := []) hx hb hC hw (k_M_gcd l T (fF V9) (fU V9) K9 _ _ M Z G z hm (xs (i + 1)) (xs (i + 2)) (xs (i + 3))) lk_Y_130 rfl rfl ⟨show 3 + 1 ≤ R.frames by omega, show 8 + (4 + 11) + 77 ≤ R.locals by omega⟩ (by decide) we_Model rfl rfl hl.1 rfl (Nat.le_of_ble_eq_true rfl) ⟨by omega, by omega⟩ d_w_735 (fun M9 Z9 G9 H locs hm9 hw => ?_)
  refine lv_aload_n hx hb d_w_738 rfl (lv_at hl 3 rfl) ?_
  refine wcV_i (As := []) (rest := []) hx hb hC hw (k_M_thrown l T _ _ _ _ _) lk_Y_100 rfl rfl ⟨show 0 + 1 ≤ R.frames by omega, show 8 + (1 + 11) + 0 ≤ R.locals by omega⟩ (by decide) we_Model rfl rfl hl.1 rfl (Nat.le_of_ble_eq_true rfl) ⟨by omega, by omega⟩ d_w_739 (fun H locs hw => ?_)
  refine lv_iload hx hb d_w_742 (lv_at hl 0 rfl) ?_
  refine lv_icmp_eq (tgt := 749) hx hb d_w_744 (by decide) (fun h9 => ?_) (fun h9 => absurd ((va_up_self _ _ _).trans ho9.symm) h9)
  refine lv_goto (tgt := 1443) hx hb d_w_749 (by decide) ?_
  exact kk H locs ls ⟨V9, _, I, _, _, n9, tx, M9, Z9, G9, hq9.1.outK (by decide), hm9, hn9, (va_up_ne _ _ (by decide)).trans (hq9.2.1.trans hK14), (va_up_ne _ _ (by decide)).trans (hq9.2.2.2.trans hK16), hI0, hI4, ht, hw⟩ (lv_sub hl [1, 2, 3, 4, 5] rfl)
set_option maxRecDepth 100000 in
set_option maxHeartbeats 4000000 in
theorem law_power (l : Launch) (hst : l.stackTraces = false) (T : wT) {p : Program} {e : Env} {R : Room} {s : State} {m : MethodId} {args : Array Value} {below : List Frame} {meth : Method} {c : Code} {H : Heap} {locs : List Loc} {cells slots : Nat} {Q : State → Prop} {ls : Array Slot} {b L i : Nat} {xs : Nat → Int32} {A : Nat → Prop} (hQ : lX p R s m args c b L xs A) (hi : i + 6 ≤ L) (hw : lI T A s H locs) (hl : lv_has ls 8 (lL T b i)) (hf1 : cells + 1 ≤ R.cells) (hf2 : slots + 6 ≤ R.slots)
    (kk : ∀ (H1 : Heap) (locs1 : List Loc) (ls1 : Array Slot), lI T A s H1 locs1 → lv_has ls1 8 (lL T b i) → W p l e R s m args below meth c H1 locs1 (cells + 1) (slots + 6) Q (F0 m 1443 ls1 [])) : W p l e R s m args below meth c H locs cells slots Q (F0 m 752 ls []) := by
  obtain ⟨V, K, I, O, z, n9, tx, M, Z, G, hc, hm, hn9, hK14, hK16, hI0, hI4, ht, hw⟩ := hw
  have hQ9 := hQ
  obtain ⟨hx, hb, hC, hz, hX, hbl, hbA, hL, hR1, hR2⟩ := hQ9
  have hl : lv_has ls 8 [(4, .int (nI i)), (3, .ref (wa T 96)), (2, .ref (wa T 91)), (1, .ref (wa T 84)), (0, .ref b)] := hl
  refine lv_aload_n hx hb d_w_752 rfl (lv_at hl 3 rfl) ?_
  refine rS (k := 1) hQ hw.2.2.2.1 hi (by decide) (lv_at hl 4 rfl) (lv_at hl 0 rfl) (by decide) d_w_753 d_w_754 d_w_756 d_w_757 d_w_758 ?_
  refine rS (k := 2) hQ hw.2.2.2.1 hi (by decide) (lv_at hl 4 rfl) (lv_at hl 0 rfl) (by decide) d_w_759 d_w_760 d_w_762 d_w_763 d_w_764 ?_
  refine rS (k := 3) hQ hw.2.2.2.1 hi (by decide) (lv_at hl 4 rfl) (lv_at hl 0 rfl) (by decide) d_w_765 d_w_766 d_w_768 d_w_769 d_w_770 ?_
  refine rS (k := 4) hQ hw.2.2.2.1 hi (by decide) (lv_at hl 4 rfl) (lv_at hl 0 rfl) (by decide) d_w_771 d_w_772 d_w_774 d_w_775 d_w_776 ?_
  refine wcY (As := [.ref (wa T 84), .int (xs (i + 1)), .int (xs (i + 2)), .int (xs (i + 3)), .int (xs (i + 4))]) (rest := []) hx hb hC hz hw (k_Y_power l hst T V K _ O z hc (xs (i + 1)) (xs (i + 2)) (xs (i + 3)) (xs (i + 4))) lh_Y_power rfl rfl ⟨show 8 + 1 ≤ R.frames by omega, show 8 + (6 + 11) + 175 ≤ R.locals by omega⟩ rfl hl.1 rfl (Nat.le_of_ble_eq_true rfl) ⟨hf1, hf2⟩ d_w_777 (fun r9 V9 K9 I9 O9 H locs hP9 hw => ?_)
  obtain ⟨ho9, hq9, hI9, hO9⟩ := hP9
  rw [hI9, hO9] at hw
  refine lv_istore hx hb d_w_780 hl (by decide) rfl (fun ls hl => ?_)
  have hl : lv_has ls 8 [(5, .int r9), (4, .int (nI i)), (3, .ref (wa T 96)), (2, .ref (wa T 91)), (1, .ref (wa T 84)), (0, .ref b)] := hl
  refine lv_aload_n hx hb d_w_782 rfl (lv_at hl 3 rfl) ?_
  refine rS (k := 1) hQ hw.2.2.2.1 hi (by decide) (lv_at hl 5 rfl) (lv_at hl 1 rfl) (by decide) d_w_783 d_w_784 d_w_786 d_w_787 d_w_788 ?_
  refine rS (k := 2) hQ hw.2.2.2.1 hi (by decide) (lv_at hl 5 rfl) (lv_at hl 1 rfl) (by decide) d_w_789 d_w_790 d_w_792 d_w_793 d_w_794 ?_
  refine rS (k := 3) hQ hw.2.2.2.1 hi (by decide) (lv_at hl 5 rfl) (lv_at hl 1 rfl) (by decide) d_w_795 d_w_796 d_w_798 d_w_799 d_w_800 ?_
  refine rS (k := 4) hQ hw.2.2.2.1 hi (by decide) (lv_at hl 5 rfl) (lv_at hl 1 rfl) (by decide) d_w_801 d_w_802 d_w_804 d_w_805 d_w_806 ?_
  refine wcV_vM (As := [.int (xs (i + 1)), .int (xs (i + 2)), .int (xs (i + 3)), .int (xs (i + 4))]) (rest := []) hx hb hC hw (k_M_power l T (fF V9) (fU V9) K9 _ _ M Z G z hm (xs (i + 1)) (xs (i + 2)) (xs (i + 3)) (xs (i + 4))) lk_Y_134 rfl rfl ⟨show 4 + 1 ≤ R.frames by omega, show 8 + (6 + 11) + 101 ≤ R.locals by omega⟩ (by decide) we_Model rfl rfl hl.1 rfl (Nat.le_of_ble_eq_true rfl) ⟨by omega, by omega⟩ d_w_807 (fun M9 Z9 G9 H locs hm9 hw => ?_)
  refine lv_aload_n hx hb d_w_810 rfl (lv_at hl 3 rfl) ?_
  refine wcV_i (As := []) (rest := []) hx hb hC hw (k_M_thrown l T _ _ _ _ _) lk_Y_100 rfl rfl ⟨show 0 + 1 ≤ R.frames by omega, show 8 + (1 + 11) + 0 ≤ R.locals by omega⟩ (by decide) we_Model rfl rfl hl.1 rfl (Nat.le_of_ble_eq_true rfl) ⟨by omega, by omega⟩ d_w_811 (fun H locs hw => ?_)
  refine lv_iload hx hb d_w_814 (lv_at hl 0 rfl) ?_
  refine lv_icmp_eq (tgt := 821) hx hb d_w_816 (by decide) (fun h9 => ?_) (fun h9 => absurd ((va_up_self _ _ _).trans ho9.symm) h9)
  refine lv_goto (tgt := 1443) hx hb d_w_821 (by decide) ?_
  exact kk H locs ls ⟨V9, _, I, _, _, n9, tx, M9, Z9, G9, hq9.1.outK (by decide), hm9, hn9, (va_up_ne _ _ (by decide)).trans (hq9.2.1.trans hK14), (va_up_ne _ _ (by decide)).trans (hq9.2.2.2.trans hK16), hI0, hI4, ht, hw⟩ (lv_sub hl [1, 2, 3, 4, 5] rfl)
set_option maxRecDepth 100000 in
set_option maxHeartbeats 4000000 in
theorem law_inverse (l : Launch) (hst : l.stackTraces = false) (T : wT) {p : Program} {e : Env} {R : Room} {s : State} {m : MethodId} {args : Array Value} {below : List Frame} {meth : Method} {c : Code} {H : Heap} {locs : List Loc} {cells slots : Nat} {Q : State → Prop} {ls : Array Slot} {b L i : Nat} {xs : Nat → Int32} {A : Nat → Prop} (hQ : lX p R s m args c b L xs A) (hi : i + 6 ≤ L) (hw : lI T A s H locs) (hl : lv_has ls 8 (lL T b i)) (hf1 : cells + 1 ≤ R.cells) (hf2 : slots + 6 ≤ R.slots)
    (kk : ∀ (H1 : Heap) (locs1 : List Loc) (ls1 : Array Slot), lI T A s H1 locs1 → lv_has ls1 8 (lL T b i) → W p l e R s m args below meth c H1 locs1 (cells + 1) (slots + 6) Q (F0 m 1443 ls1 [])) : W p l e R s m args below meth c H locs cells slots Q (F0 m 824 ls []) := by
  obtain ⟨V, K, I, O, z, n9, tx, M, Z, G, hc, hm, hn9, hK14, hK16, hI0, hI4, ht, hw⟩ := hw
  have hQ9 := hQ
  obtain ⟨hx, hb, hC, hz, hX, hbl, hbA, hL, hR1, hR2⟩ := hQ9
  have hl : lv_has ls 8 [(4, .int (nI i)), (3, .ref (wa T 96)), (2, .ref (wa T 91)), (1, .ref (wa T 84)), (0, .ref b)] := hl
  refine lv_aload_n hx hb d_w_824 rfl (lv_at hl 3 rfl) ?_
  refine rS (k := 1) hQ hw.2.2.2.1 hi (by decide) (lv_at hl 4 rfl) (lv_at hl 0 rfl) (by decide) d_w_825 d_w_826 d_w_828 d_w_829 d_w_830 ?_
  refine rS (k := 2) hQ hw.2.2.2.1 hi (by decide) (lv_at hl 4 rfl) (lv_at hl 0 rfl) (by decide) d_w_831 d_w_832 d_w_834 d_w_835 d_w_836 ?_
  refine rS (k := 3) hQ hw.2.2.2.1 hi (by decide) (lv_at hl 4 rfl) (lv_at hl 0 rfl) (by decide) d_w_837 d_w_838 d_w_840 d_w_841 d_w_842 ?_
  refine wcY (As := [.ref (wa T 84), .int (xs (i + 1)), .int (xs (i + 2)), .int (xs (i + 3))]) (rest := []) hx hb hC hz hw (k_Y_inverse l hst T V K _ O z hc (xs (i + 1)) (xs (i + 2)) (xs (i + 3))) lh_Y_inverse rfl rfl ⟨show 8 + 1 ≤ R.frames by omega, show 8 + (5 + 11) + 151 ≤ R.locals by omega⟩ rfl hl.1 rfl (Nat.le_of_ble_eq_true rfl) ⟨hf1, hf2⟩ d_w_843 (fun r9 V9 K9 I9 O9 H locs hP9 hw => ?_)
  obtain ⟨ho9, hq9, hI9, hO9⟩ := hP9
  rw [hI9, hO9] at hw
  refine lv_istore hx hb d_w_846 hl (by decide) rfl (fun ls hl => ?_)
  have hl : lv_has ls 8 [(5, .int r9), (4, .int (nI i)), (3, .ref (wa T 96)), (2, .ref (wa T 91)), (1, .ref (wa T 84)), (0, .ref b)] := hl
  refine lv_aload_n hx hb d_w_848 rfl (lv_at hl 3 rfl) ?_
  refine rS (k := 1) hQ hw.2.2.2.1 hi (by decide) (lv_at hl 5 rfl) (lv_at hl 1 rfl) (by decide) d_w_849 d_w_850 d_w_852 d_w_853 d_w_854 ?_
  refine rS (k := 2) hQ hw.2.2.2.1 hi (by decide) (lv_at hl 5 rfl) (lv_at hl 1 rfl) (by decide) d_w_855 d_w_856 d_w_858 d_w_859 d_w_860 ?_
  refine rS (k := 3) hQ hw.2.2.2.1 hi (by decide) (lv_at hl 5 rfl) (lv_at hl 1 rfl) (by decide) d_w_861 d_w_862 d_w_864 d_w_865 d_w_866 ?_
  refine wcV_vM (As := [.int (xs (i + 1)), .int (xs (i + 2)), .int (xs (i + 3))]) (rest := []) hx hb hC hw (k_M_inverse l T (fF V9) (fU V9) K9 _ _ M Z G z hm (xs (i + 1)) (xs (i + 2)) (xs (i + 3))) lk_Y_137 rfl rfl ⟨show 4 + 1 ≤ R.frames by omega, show 8 + (4 + 11) + 101 ≤ R.locals by omega⟩ (by decide) we_Model rfl rfl hl.1 rfl (Nat.le_of_ble_eq_true rfl) ⟨by omega, by omega⟩ d_w_867 (fun M9 Z9 G9 H locs hm9 hw => ?_)
  refine lv_aload_n hx hb d_w_870 rfl (lv_at hl 3 rfl) ?_
  refine wcV_i (As := []) (rest := []) hx hb hC hw (k_M_thrown l T _ _ _ _ _) lk_Y_100 rfl rfl ⟨show 0 + 1 ≤ R.frames by omega, show 8 + (1 + 11) + 0 ≤ R.locals by omega⟩ (by decide) we_Model rfl rfl hl.1 rfl (Nat.le_of_ble_eq_true rfl) ⟨by omega, by omega⟩ d_w_871 (fun H locs hw => ?_)
  refine lv_iload hx hb d_w_874 (lv_at hl 0 rfl) ?_
  refine lv_icmp_eq (tgt := 881) hx hb d_w_876 (by decide) (fun h9 => ?_) (fun h9 => absurd ((va_up_self _ _ _).trans ho9.symm) h9)
  refine lv_goto (tgt := 1443) hx hb d_w_881 (by decide) ?_
  exact kk H locs ls ⟨V9, _, I, _, _, n9, tx, M9, Z9, G9, hq9.1.outK (by decide), hm9, hn9, (va_up_ne _ _ (by decide)).trans (hq9.2.1.trans hK14), (va_up_ne _ _ (by decide)).trans (hq9.2.2.2.trans hK16), hI0, hI4, ht, hw⟩ (lv_sub hl [1, 2, 3, 4, 5] rfl)
set_option maxRecDepth 100000 in
set_option maxHeartbeats 4000000 in
theorem law_compare (l : Launch) (hst : l.stackTraces = false) (T : wT) {p : Program} {e : Env} {R : Room} {s : State} {m : MethodId} {args : Array Value} {below : List Frame} {meth : Method} {c : Code} {H : Heap} {locs : List Loc} {cells slots : Nat} {Q : State → Prop} {ls : Array Slot} {b L i : Nat} {xs : Nat → Int32} {A : Nat → Prop} (hQ : lX p R s m args c b L xs A) (hi : i + 6 ≤ L) (hw : lI T A s H locs) (hl : lv_has ls 8 (lL T b i)) (hf1 : cells + 1 ≤ R.cells) (hf2 : slots + 6 ≤ R.slots)
    (kk : ∀ (H1 : Heap) (locs1 : List Loc) (ls1 : Array Slot), lI T A s H1 locs1 → lv_has ls1 8 (lL T b i) → W p l e R s m args below meth c H1 locs1 (cells + 1) (slots + 6) Q (F0 m 1443 ls1 [])) : W p l e R s m args below meth c H locs cells slots Q (F0 m 884 ls []) := by
  obtain ⟨V, K, I, O, z, n9, tx, M, Z, G, hc, hm, hn9, hK14, hK16, hI0, hI4, ht, hw⟩ := hw
  have hQ9 := hQ
  obtain ⟨hx, hb, hC, hz, hX, hbl, hbA, hL, hR1, hR2⟩ := hQ9
  have hl : lv_has ls 8 [(4, .int (nI i)), (3, .ref (wa T 96)), (2, .ref (wa T 91)), (1, .ref (wa T 84)), (0, .ref b)] := hl
  refine lv_aload_n hx hb d_w_884 rfl (lv_at hl 3 rfl) ?_
  refine rS (k := 1) hQ hw.2.2.2.1 hi (by decide) (lv_at hl 4 rfl) (lv_at hl 0 rfl) (by decide) d_w_885 d_w_886 d_w_888 d_w_889 d_w_890 ?_
  refine rS (k := 2) hQ hw.2.2.2.1 hi (by decide) (lv_at hl 4 rfl) (lv_at hl 0 rfl) (by decide) d_w_891 d_w_892 d_w_894 d_w_895 d_w_896 ?_
  refine lv_aload_n hx hb d_w_897 rfl (lv_at hl 1 rfl) ?_
  refine wcY (As := [.ref (wa T 84), .int (xs (i + 1)), .int (xs (i + 2)), .ref (wa T 96)]) (rest := []) hx hb hC hz hw (k_Y_compare l hst T V K _ O z hc (xs (i + 1)) (xs (i + 2))) lh_Y_compare rfl rfl ⟨show 8 + 1 ≤ R.frames by omega, show 8 + (5 + 11) + 132 ≤ R.locals by omega⟩ rfl hl.1 rfl (Nat.le_of_ble_eq_true rfl) ⟨hf1, hf2⟩ d_w_898 (fun r9 V9 K9 I9 O9 H locs hP9 hw => ?_)
  obtain ⟨ho9, hq9, hI9, hO9⟩ := hP9
  rw [hI9, hO9] at hw
  refine lv_istore hx hb d_w_901 hl (by decide) rfl (fun ls hl => ?_)
  have hl : lv_has ls 8 [(5, .int r9), (4, .int (nI i)), (3, .ref (wa T 96)), (2, .ref (wa T 91)), (1, .ref (wa T 84)), (0, .ref b)] := hl
  refine lv_aload_n hx hb d_w_903 rfl (lv_at hl 3 rfl) ?_
  refine rS (k := 1) hQ hw.2.2.2.1 hi (by decide) (lv_at hl 5 rfl) (lv_at hl 1 rfl) (by decide) d_w_904 d_w_905 d_w_907 d_w_908 d_w_909 ?_
  refine rS (k := 2) hQ hw.2.2.2.1 hi (by decide) (lv_at hl 5 rfl) (lv_at hl 1 rfl) (by decide) d_w_910 d_w_911 d_w_913 d_w_914 d_w_915 ?_
  refine wcV_iM (As := [.int (xs (i + 1)), .int (xs (i + 2))]) (rest := []) hx hb hC hw (k_M_compare l T (fF V9) (fU V9) K9 _ _ M Z G z hm (xs (i + 1)) (xs (i + 2))) lk_Y_141 rfl rfl ⟨show 2 + 1 ≤ R.frames by omega, show 8 + (3 + 11) + 43 ≤ R.locals by omega⟩ (by decide) we_Model rfl rfl hl.1 rfl (Nat.le_of_ble_eq_true rfl) ⟨by omega, by omega⟩ d_w_916 (fun M9 Z9 G9 H locs hm9 hw => ?_)
  refine lv_topi (fun b9 hb9 => ?_)
  refine lv_istore hx hb d_w_919 hl (by decide) rfl (fun ls hl => ?_)
  have hl : lv_has ls 8 [(6, .int b9), (5, .int r9), (4, .int (nI i)), (3, .ref (wa T 96)), (2, .ref (wa T 91)), (1, .ref (wa T 84)), (0, .ref b)] := hl
  refine lv_aload_n hx hb d_w_921 rfl (lv_at hl 4 rfl) ?_
  refine wcV_i (As := []) (rest := []) hx hb hC hw (k_M_thrown l T _ _ _ _ _) lk_Y_100 rfl rfl ⟨show 0 + 1 ≤ R.frames by omega, show 8 + (1 + 11) + 0 ≤ R.locals by omega⟩ (by decide) we_Model rfl rfl hl.1 rfl (Nat.le_of_ble_eq_true rfl) ⟨by omega, by omega⟩ d_w_922 (fun H locs hw => ?_)
  refine lv_iload hx hb d_w_925 (lv_at hl 1 rfl) ?_
  refine lv_icmp_eq (tgt := 932) hx hb d_w_927 (by decide) (fun h9 => ?_) (fun h9 => absurd ((va_up_self _ _ _).trans ho9.symm) h9)
  have fin : W p l e R s m args below meth c H locs (cells + 1) (slots + 6) Q (F0 m 949 ls []) := by
    refine lv_goto (tgt := 1443) hx hb d_w_949 (by decide) ?_
    exact kk H locs ls ⟨V9, _, I, _, _, n9, tx, M9, Z9, G9, hq9.1.outK (by decide), hm9, hn9, (va_up_ne _ _ (by decide)).trans (hq9.2.1.trans hK14), (va_up_ne _ _ (by decide)).trans (hq9.2.2.2.trans hK16), hI0, hI4, ht, hw⟩ (lv_sub hl [2, 3, 4, 5, 6] rfl)
  refine lv_iload hx hb d_w_932 (lv_at hl 1 rfl) ?_
  refine lv_if_ne (tgt := 949) hx hb d_w_934 (by decide) (fun _ => fin) (fun h0 => ?_)
  have h0 := (nI_eqz ocG0_lt).mp (ho9.symm.trans h0)
  rw [if_pos h0] at hb9
  subst hb9
  refine lv_aload_n hx hb d_w_937 rfl (lv_at hl 3 rfl) ?_
  refine lv_iconst (v := nI 0) hx hb d_w_938 (by decide +kernel) ?_
  refine wl_out hx hb hw (by decide) d_w_939 ?_
  rw [oU_0 h0]
  refine lv_iload hx hb d_w_940 (lv_at hl 0 rfl) ?_
  refine lv_i2l hx hb d_w_942 rfl ?_
  exact lc_eq (tgt := 949) hx hb d_w_943 d_w_944 (by decide) (fun _ => fin) (fun h => absurd rfl h)
set_option maxRecDepth 100000 in
set_option maxHeartbeats 4000000 in
theorem law_bits (l : Launch) (hst : l.stackTraces = false) (T : wT) {p : Program} {e : Env} {R : Room} {s : State} {m : MethodId} {args : Array Value} {below : List Frame} {meth : Method} {c : Code} {H : Heap} {locs : List Loc} {cells slots : Nat} {Q : State → Prop} {ls : Array Slot} {b L i : Nat} {xs : Nat → Int32} {A : Nat → Prop} (hQ : lX p R s m args c b L xs A) (hi : i + 6 ≤ L) (hw : lI T A s H locs) (hl : lv_has ls 8 (lL T b i)) (hf1 : cells + 1 ≤ R.cells) (hf2 : slots + 6 ≤ R.slots)
    (kk : ∀ (H1 : Heap) (locs1 : List Loc) (ls1 : Array Slot), lI T A s H1 locs1 → lv_has ls1 8 (lL T b i) → W p l e R s m args below meth c H1 locs1 (cells + 1) (slots + 6) Q (F0 m 1443 ls1 [])) : W p l e R s m args below meth c H locs cells slots Q (F0 m 952 ls []) := by
  obtain ⟨V, K, I, O, z, n9, tx, M, Z, G, hc, hm, hn9, hK14, hK16, hI0, hI4, ht, hw⟩ := hw
  have hQ9 := hQ
  obtain ⟨hx, hb, hC, hz, hX, hbl, hbA, hL, hR1, hR2⟩ := hQ9
  have hl : lv_has ls 8 [(4, .int (nI i)), (3, .ref (wa T 96)), (2, .ref (wa T 91)), (1, .ref (wa T 84)), (0, .ref b)] := hl
  refine lv_aload_n hx hb d_w_952 rfl (lv_at hl 3 rfl) ?_
  refine rS (k := 1) hQ hw.2.2.2.1 hi (by decide) (lv_at hl 4 rfl) (lv_at hl 0 rfl) (by decide) d_w_953 d_w_954 d_w_956 d_w_957 d_w_958 ?_
  refine lv_aload_n hx hb d_w_959 rfl (lv_at hl 1 rfl) ?_
  refine wcY (As := [.ref (wa T 84), .int (xs (i + 1)), .ref (wa T 96)]) (rest := []) hx hb hC hz hw (k_Y_bits l hst T V K _ O z hc (xs (i + 1))) lh_Y_bits rfl rfl ⟨show 8 + 1 ≤ R.frames by omega, show 8 + (4 + 11) + 131 ≤ R.locals by omega⟩ rfl hl.1 rfl (Nat.le_of_ble_eq_true rfl) ⟨hf1, hf2⟩ d_w_960 (fun r9 V9 K9 I9 O9 H locs hP9 hw => ?_)
  obtain ⟨ho9, hq9, hI9, hO9⟩ := hP9
  rw [hI9, hO9] at hw
  refine lv_istore hx hb d_w_963 hl (by decide) rfl (fun ls hl => ?_)
  have hl : lv_has ls 8 [(5, .int r9), (4, .int (nI i)), (3, .ref (wa T 96)), (2, .ref (wa T 91)), (1, .ref (wa T 84)), (0, .ref b)] := hl
  refine lv_aload_n hx hb d_w_965 rfl (lv_at hl 3 rfl) ?_
  refine rS (k := 1) hQ hw.2.2.2.1 hi (by decide) (lv_at hl 5 rfl) (lv_at hl 1 rfl) (by decide) d_w_966 d_w_967 d_w_969 d_w_970 d_w_971 ?_
  refine wcV_iM (As := [.int (xs (i + 1))]) (rest := []) hx hb hC hw (k_M_bits l T (fF V9) (fU V9) K9 _ _ M Z G z hm (xs (i + 1))) lk_Y_145 rfl rfl ⟨show 1 + 1 ≤ R.frames by omega, show 8 + (2 + 11) + 23 ≤ R.locals by omega⟩ (by decide) we_Model rfl rfl hl.1 rfl (Nat.le_of_ble_eq_true rfl) ⟨by omega, by omega⟩ d_w_972 (fun M9 Z9 G9 H locs hm9 hw => ?_)
  refine lv_topi (fun b9 hb9 => ?_)
  refine lv_istore hx hb d_w_975 hl (by decide) rfl (fun ls hl => ?_)
  have hl : lv_has ls 8 [(6, .int b9), (5, .int r9), (4, .int (nI i)), (3, .ref (wa T 96)), (2, .ref (wa T 91)), (1, .ref (wa T 84)), (0, .ref b)] := hl
  refine lv_aload_n hx hb d_w_977 rfl (lv_at hl 4 rfl) ?_
  refine wcV_i (As := []) (rest := []) hx hb hC hw (k_M_thrown l T _ _ _ _ _) lk_Y_100 rfl rfl ⟨show 0 + 1 ≤ R.frames by omega, show 8 + (1 + 11) + 0 ≤ R.locals by omega⟩ (by decide) we_Model rfl rfl hl.1 rfl (Nat.le_of_ble_eq_true rfl) ⟨by omega, by omega⟩ d_w_978 (fun H locs hw => ?_)
  refine lv_iload hx hb d_w_981 (lv_at hl 1 rfl) ?_
  refine lv_icmp_eq (tgt := 988) hx hb d_w_983 (by decide) (fun h9 => ?_) (fun h9 => absurd ((va_up_self _ _ _).trans ho9.symm) h9)
  have fin : W p l e R s m args below meth c H locs (cells + 1) (slots + 6) Q (F0 m 1005 ls []) := by
    refine lv_goto (tgt := 1443) hx hb d_w_1005 (by decide) ?_
    exact kk H locs ls ⟨V9, _, I, _, _, n9, tx, M9, Z9, G9, hq9.1.outK (by decide), hm9, hn9, (va_up_ne _ _ (by decide)).trans (hq9.2.1.trans hK14), (va_up_ne _ _ (by decide)).trans (hq9.2.2.2.trans hK16), hI0, hI4, ht, hw⟩ (lv_sub hl [2, 3, 4, 5, 6] rfl)
  refine lv_iload hx hb d_w_988 (lv_at hl 1 rfl) ?_
  refine lv_if_ne (tgt := 1005) hx hb d_w_990 (by decide) (fun _ => fin) (fun h0 => ?_)
  have h0 := (nI_eqz ocG0_lt).mp (ho9.symm.trans h0)
  rw [if_pos h0] at hb9
  subst hb9
  refine lv_aload_n hx hb d_w_993 rfl (lv_at hl 3 rfl) ?_
  refine lv_iconst (v := nI 0) hx hb d_w_994 (by decide +kernel) ?_
  refine wl_out hx hb hw (by decide) d_w_995 ?_
  rw [oU_0 h0]
  refine lv_iload hx hb d_w_996 (lv_at hl 0 rfl) ?_
  refine lv_i2l hx hb d_w_998 rfl ?_
  exact lc_eq (tgt := 1005) hx hb d_w_999 d_w_1000 (by decide) (fun _ => fin) (fun h => absurd rfl h)
set_option maxRecDepth 100000 in
set_option maxHeartbeats 4000000 in
theorem law_bit (l : Launch) (hst : l.stackTraces = false) (T : wT) {p : Program} {e : Env} {R : Room} {s : State} {m : MethodId} {args : Array Value} {below : List Frame} {meth : Method} {c : Code} {H : Heap} {locs : List Loc} {cells slots : Nat} {Q : State → Prop} {ls : Array Slot} {b L i : Nat} {xs : Nat → Int32} {A : Nat → Prop} (hQ : lX p R s m args c b L xs A) (hi : i + 6 ≤ L) (hw : lI T A s H locs) (hl : lv_has ls 8 (lL T b i)) (hf1 : cells + 1 ≤ R.cells) (hf2 : slots + 6 ≤ R.slots)
    (kk : ∀ (H1 : Heap) (locs1 : List Loc) (ls1 : Array Slot), lI T A s H1 locs1 → lv_has ls1 8 (lL T b i) → W p l e R s m args below meth c H1 locs1 (cells + 1) (slots + 6) Q (F0 m 1443 ls1 [])) : W p l e R s m args below meth c H locs cells slots Q (F0 m 1008 ls []) := by
  obtain ⟨V, K, I, O, z, n9, tx, M, Z, G, hc, hm, hn9, hK14, hK16, hI0, hI4, ht, hw⟩ := hw
  have hQ9 := hQ
  obtain ⟨hx, hb, hC, hz, hX, hbl, hbA, hL, hR1, hR2⟩ := hQ9
  have hl : lv_has ls 8 [(4, .int (nI i)), (3, .ref (wa T 96)), (2, .ref (wa T 91)), (1, .ref (wa T 84)), (0, .ref b)] := hl
  refine lv_aload_n hx hb d_w_1008 rfl (lv_at hl 3 rfl) ?_
  refine rS (k := 1) hQ hw.2.2.2.1 hi (by decide) (lv_at hl 4 rfl) (lv_at hl 0 rfl) (by decide) d_w_1009 d_w_1010 d_w_1012 d_w_1013 d_w_1014 ?_
  refine rS (k := 2) hQ hw.2.2.2.1 hi (by decide) (lv_at hl 4 rfl) (lv_at hl 0 rfl) (by decide) d_w_1015 d_w_1016 d_w_1018 d_w_1019 d_w_1020 ?_
  refine lv_aload_n hx hb d_w_1021 rfl (lv_at hl 1 rfl) ?_
  refine wcY (As := [.ref (wa T 84), .int (xs (i + 1)), .int (xs (i + 2)), .ref (wa T 96)]) (rest := []) hx hb hC hz hw (k_Y_bit l hst T V K _ O z hc (xs (i + 1)) (xs (i + 2))) lh_Y_bit rfl rfl ⟨show 8 + 1 ≤ R.frames by omega, show 8 + (5 + 11) + 132 ≤ R.locals by omega⟩ rfl hl.1 rfl (Nat.le_of_ble_eq_true rfl) ⟨hf1, hf2⟩ d_w_1022 (fun r9 V9 K9 I9 O9 H locs hP9 hw => ?_)
  obtain ⟨ho9, hq9, hI9, hO9⟩ := hP9
  rw [hI9, hO9] at hw
  refine lv_istore hx hb d_w_1025 hl (by decide) rfl (fun ls hl => ?_)
  have hl : lv_has ls 8 [(5, .int r9), (4, .int (nI i)), (3, .ref (wa T 96)), (2, .ref (wa T 91)), (1, .ref (wa T 84)), (0, .ref b)] := hl
  refine lv_aload_n hx hb d_w_1027 rfl (lv_at hl 3 rfl) ?_
  refine rS (k := 1) hQ hw.2.2.2.1 hi (by decide) (lv_at hl 5 rfl) (lv_at hl 1 rfl) (by decide) d_w_1028 d_w_1029 d_w_1031 d_w_1032 d_w_1033 ?_
  refine rS (k := 2) hQ hw.2.2.2.1 hi (by decide) (lv_at hl 5 rfl) (lv_at hl 1 rfl) (by decide) d_w_1034 d_w_1035 d_w_1037 d_w_1038 d_w_1039 ?_
  refine wcV_zM (As := [.int (xs (i + 1)), .int (xs (i + 2))]) (rest := []) hx hb hC hw (k_M_bit l T (fF V9) (fU V9) K9 _ _ M Z G z hm (xs (i + 1)) (xs (i + 2))) lk_Y_148 rfl rfl ⟨show 2 + 1 ≤ R.frames by omega, show 8 + (3 + 11) + 48 ≤ R.locals by omega⟩ (by decide) we_Model rfl rfl hl.1 rfl (Nat.le_of_ble_eq_true rfl) ⟨by omega, by omega⟩ d_w_1040 (fun M9 Z9 G9 H locs hm9 hw => ?_)
  refine lv_topi (fun b9 hb9 => ?_)
  refine lv_istore hx hb d_w_1043 hl (by decide) rfl (fun ls hl => ?_)
  have hl : lv_has ls 8 [(6, .int b9), (5, .int r9), (4, .int (nI i)), (3, .ref (wa T 96)), (2, .ref (wa T 91)), (1, .ref (wa T 84)), (0, .ref b)] := hl
  refine lv_aload_n hx hb d_w_1045 rfl (lv_at hl 4 rfl) ?_
  refine wcV_i (As := []) (rest := []) hx hb hC hw (k_M_thrown l T _ _ _ _ _) lk_Y_100 rfl rfl ⟨show 0 + 1 ≤ R.frames by omega, show 8 + (1 + 11) + 0 ≤ R.locals by omega⟩ (by decide) we_Model rfl rfl hl.1 rfl (Nat.le_of_ble_eq_true rfl) ⟨by omega, by omega⟩ d_w_1046 (fun H locs hw => ?_)
  refine lv_iload hx hb d_w_1049 (lv_at hl 1 rfl) ?_
  refine lv_icmp_eq (tgt := 1056) hx hb d_w_1051 (by decide) (fun h9 => ?_) (fun h9 => absurd ((va_up_self _ _ _).trans ho9.symm) h9)
  have fin : W p l e R s m args below meth c H locs (cells + 1) (slots + 6) Q (F0 m 1080 ls []) := by
    refine lv_goto (tgt := 1443) hx hb d_w_1080 (by decide) ?_
    exact kk H locs ls ⟨V9, _, I, _, _, n9, tx, M9, Z9, G9, hq9.1.outK (by decide), hm9, hn9, (va_up_ne _ _ (by decide)).trans (hq9.2.1.trans hK14), (va_up_ne _ _ (by decide)).trans (hq9.2.2.2.trans hK16), hI0, hI4, ht, hw⟩ (lv_sub hl [2, 3, 4, 5, 6] rfl)
  refine lv_iload hx hb d_w_1056 (lv_at hl 1 rfl) ?_
  refine lv_if_ne (tgt := 1080) hx hb d_w_1058 (by decide) (fun _ => fin) (fun h0 => ?_)
  have h0 := (nI_eqz ocG0_lt).mp (ho9.symm.trans h0)
  rw [if_pos h0] at hb9
  subst hb9
  refine lv_aload_n hx hb d_w_1061 rfl (lv_at hl 3 rfl) ?_
  refine lv_iconst (v := nI 0) hx hb d_w_1062 (by decide +kernel) ?_
  refine wl_out hx hb hw (by decide) d_w_1063 ?_
  rw [oU_0 h0]
  refine lv_iload hx hb d_w_1064 (lv_at hl 0 rfl) ?_
  refine rL hx hb (bitI_01 _ _) d_w_1066 d_w_1069 d_w_1070 d_w_1073 ?_
  exact lc_eq (tgt := 1080) hx hb d_w_1074 d_w_1075 (by decide) (fun _ => fin) (fun h => absurd rfl h)
set_option maxRecDepth 100000 in
set_option maxHeartbeats 4000000 in
theorem law_low (l : Launch) (hst : l.stackTraces = false) (T : wT) {p : Program} {e : Env} {R : Room} {s : State} {m : MethodId} {args : Array Value} {below : List Frame} {meth : Method} {c : Code} {H : Heap} {locs : List Loc} {cells slots : Nat} {Q : State → Prop} {ls : Array Slot} {b L i : Nat} {xs : Nat → Int32} {A : Nat → Prop} (hQ : lX p R s m args c b L xs A) (hi : i + 6 ≤ L) (hw : lI T A s H locs) (hl : lv_has ls 8 (lL T b i)) (hf1 : cells + 1 ≤ R.cells) (hf2 : slots + 6 ≤ R.slots)
    (kk : ∀ (H1 : Heap) (locs1 : List Loc) (ls1 : Array Slot), lI T A s H1 locs1 → lv_has ls1 8 (lL T b i) → W p l e R s m args below meth c H1 locs1 (cells + 1) (slots + 6) Q (F0 m 1443 ls1 [])) : W p l e R s m args below meth c H locs cells slots Q (F0 m 1083 ls []) := by
  obtain ⟨V, K, I, O, z, n9, tx, M, Z, G, hc, hm, hn9, hK14, hK16, hI0, hI4, ht, hw⟩ := hw
  have hQ9 := hQ
  obtain ⟨hx, hb, hC, hz, hX, hbl, hbA, hL, hR1, hR2⟩ := hQ9
  have hl : lv_has ls 8 [(4, .int (nI i)), (3, .ref (wa T 96)), (2, .ref (wa T 91)), (1, .ref (wa T 84)), (0, .ref b)] := hl
  refine lv_aload_n hx hb d_w_1083 rfl (lv_at hl 3 rfl) ?_
  refine rS (k := 1) hQ hw.2.2.2.1 hi (by decide) (lv_at hl 4 rfl) (lv_at hl 0 rfl) (by decide) d_w_1084 d_w_1085 d_w_1087 d_w_1088 d_w_1089 ?_
  refine lv_aload_n hx hb d_w_1090 rfl (lv_at hl 1 rfl) ?_
  refine wcY (As := [.ref (wa T 84), .int (xs (i + 1)), .ref (wa T 96)]) (rest := []) hx hb hC hz hw (k_Y_low l hst T V K _ O z hc (xs (i + 1))) lh_Y_low rfl rfl ⟨show 8 + 1 ≤ R.frames by omega, show 8 + (4 + 11) + 133 ≤ R.locals by omega⟩ rfl hl.1 rfl (Nat.le_of_ble_eq_true rfl) ⟨hf1, hf2⟩ d_w_1091 (fun r9 V9 K9 I9 O9 H locs hP9 hw => ?_)
  obtain ⟨ho9, hq9, hI9, hO9⟩ := hP9
  rw [hI9, hO9] at hw
  refine lv_istore hx hb d_w_1094 hl (by decide) rfl (fun ls hl => ?_)
  have hl : lv_has ls 8 [(5, .int r9), (4, .int (nI i)), (3, .ref (wa T 96)), (2, .ref (wa T 91)), (1, .ref (wa T 84)), (0, .ref b)] := hl
  refine lv_aload_n hx hb d_w_1096 rfl (lv_at hl 3 rfl) ?_
  refine rS (k := 1) hQ hw.2.2.2.1 hi (by decide) (lv_at hl 5 rfl) (lv_at hl 1 rfl) (by decide) d_w_1097 d_w_1098 d_w_1100 d_w_1101 d_w_1102 ?_
  refine wcV_lM (As := [.int (xs (i + 1))]) (rest := []) hx hb hC hw (k_M_low l T (fF V9) (fU V9) K9 _ _ M Z G z hm (xs (i + 1))) lk_Y_151 rfl rfl ⟨show 1 + 1 ≤ R.frames by omega, show 8 + (5 + 11) + 20 ≤ R.locals by omega⟩ (by decide) we_Model rfl rfl hl.1 rfl (Nat.le_of_ble_eq_true rfl) ⟨by omega, by omega⟩ d_w_1103 (fun M9 Z9 G9 H locs hm9 hw => ?_)
  refine lv_topl (fun b9 hb9 => ?_)
  refine lv_lstore hx hb d_w_1106 hl (by decide) rfl (fun ls hl => ?_)
  have hl : lv_has ls 8 [(6, .long b9), (5, .int r9), (4, .int (nI i)), (3, .ref (wa T 96)), (2, .ref (wa T 91)), (1, .ref (wa T 84)), (0, .ref b)] := hl
  refine lv_aload_n hx hb d_w_1108 rfl (lv_at hl 4 rfl) ?_
  refine wcV_i (As := []) (rest := []) hx hb hC hw (k_M_thrown l T _ _ _ _ _) lk_Y_100 rfl rfl ⟨show 0 + 1 ≤ R.frames by omega, show 8 + (1 + 11) + 0 ≤ R.locals by omega⟩ (by decide) we_Model rfl rfl hl.1 rfl (Nat.le_of_ble_eq_true rfl) ⟨by omega, by omega⟩ d_w_1109 (fun H locs hw => ?_)
  refine lv_iload hx hb d_w_1112 (lv_at hl 1 rfl) ?_
  refine lv_icmp_eq (tgt := 1119) hx hb d_w_1114 (by decide) (fun h9 => ?_) (fun h9 => absurd ((va_up_self _ _ _).trans ho9.symm) h9)
  have fin : W p l e R s m args below meth c H locs (cells + 1) (slots + 6) Q (F0 m 1135 ls []) := by
    refine lv_goto (tgt := 1443) hx hb d_w_1135 (by decide) ?_
    exact kk H locs ls ⟨V9, _, I, _, _, n9, tx, M9, Z9, G9, hq9.1.outK (by decide), hm9, hn9, (va_up_ne _ _ (by decide)).trans (hq9.2.1.trans hK14), (va_up_ne _ _ (by decide)).trans (hq9.2.2.2.trans hK16), hI0, hI4, ht, hw⟩ (lv_sub hl [2, 3, 4, 5, 6] rfl)
  refine lv_iload hx hb d_w_1119 (lv_at hl 1 rfl) ?_
  refine lv_if_ne (tgt := 1135) hx hb d_w_1121 (by decide) (fun _ => fin) (fun h0 => ?_)
  have h0 := (nI_eqz ocG0_lt).mp (ho9.symm.trans h0)
  rw [if_pos h0] at hb9
  subst hb9
  refine lv_aload_n hx hb d_w_1124 rfl (lv_at hl 3 rfl) ?_
  refine lv_iconst (v := nI 0) hx hb d_w_1125 (by decide +kernel) ?_
  refine wl_out hx hb hw (by decide) d_w_1126 ?_
  rw [oU_0 h0]
  refine lv_lload hx hb d_w_1127 (lv_at hl 0 rfl) ?_
  exact lc_eq (tgt := 1135) hx hb d_w_1129 d_w_1130 (by decide) (fun _ => fin) (fun h => absurd rfl h)
set_option maxRecDepth 100000 in
set_option maxHeartbeats 4000000 in
theorem law_type (l : Launch) (hst : l.stackTraces = false) (T : wT) {p : Program} {e : Env} {R : Room} {s : State} {m : MethodId} {args : Array Value} {below : List Frame} {meth : Method} {c : Code} {H : Heap} {locs : List Loc} {cells slots : Nat} {Q : State → Prop} {ls : Array Slot} {b L i : Nat} {xs : Nat → Int32} {A : Nat → Prop} (hQ : lX p R s m args c b L xs A) (hi : i + 6 ≤ L) (hw : lI T A s H locs) (hl : lv_has ls 8 (lL T b i)) (hf1 : cells + 1 ≤ R.cells) (hf2 : slots + 6 ≤ R.slots)
    (kk : ∀ (H1 : Heap) (locs1 : List Loc) (ls1 : Array Slot), lI T A s H1 locs1 → lv_has ls1 8 (lL T b i) → W p l e R s m args below meth c H1 locs1 (cells + 1) (slots + 6) Q (F0 m 1443 ls1 [])) : W p l e R s m args below meth c H locs cells slots Q (F0 m 1138 ls []) := by
  obtain ⟨V, K, I, O, z, n9, tx, M, Z, G, hc, hm, hn9, hK14, hK16, hI0, hI4, ht, hw⟩ := hw
  have hQ9 := hQ
  obtain ⟨hx, hb, hC, hz, hX, hbl, hbA, hL, hR1, hR2⟩ := hQ9
  have hl : lv_has ls 8 [(4, .int (nI i)), (3, .ref (wa T 96)), (2, .ref (wa T 91)), (1, .ref (wa T 84)), (0, .ref b)] := hl
  refine lv_aload_n hx hb d_w_1138 rfl (lv_at hl 3 rfl) ?_
  refine rJ (k := 1) hx hb hC hQ hw.2.2.2.1 hi (by decide) (lv_at hl 4 rfl) (lv_at hl 0 rfl) (by decide) (by decide) d_w_1139 d_w_1140 d_w_1142 d_w_1143 d_w_1144 d_w_1145 d_w_1146 d_w_1148 d_w_1149 d_w_1150 d_w_1152 d_w_1153 d_w_1154 d_w_1155 d_w_1156 d_w_1159 d_w_1160 ?_
  refine lv_topl (fun v9 e9 => ?_)
  obtain ⟨N9, hN9, hv9⟩ := lN_of v9
  subst hv9
  refine rS (k := 3) hQ hw.2.2.2.1 hi (by decide) (lv_at hl 4 rfl) (lv_at hl 0 rfl) (by decide) d_w_1161 d_w_1162 d_w_1164 d_w_1165 d_w_1166 ?_
  refine lv_aload_n hx hb d_w_1167 rfl (lv_at hl 1 rfl) ?_
  refine wcY (As := [.ref (wa T 84), .long (lN N9), .int (xs (i + 3)), .ref (wa T 96)]) (rest := []) hx hb hC hz hw (k_Y_type l hst T V K _ O z hc n9 tx hn9 hK14 ((gI_o (by decide) (by decide) (by decide)).trans hI0) ht N9 hN9 (xs (i + 3))) lh_Y_type rfl rfl ⟨show 7 + 1 ≤ R.frames by omega, show 8 + (6 + 11) + 113 ≤ R.locals by omega⟩ rfl hl.1 rfl (Nat.le_of_ble_eq_true rfl) ⟨hf1, hf2⟩ d_w_1168 (fun r9 V9 K9 I9 O9 H locs hP9 hw => ?_)
  obtain ⟨ho9, hq9, hI9, hO9⟩ := hP9
  rw [hI9, hO9] at hw
  rw [gI_up (by decide) (by decide) (by decide)] at hw
  refine lv_istore hx hb d_w_1171 hl (by decide) rfl (fun ls hl => ?_)
  have hl : lv_has ls 8 [(5, .int r9), (4, .int (nI i)), (3, .ref (wa T 96)), (2, .ref (wa T 91)), (1, .ref (wa T 84)), (0, .ref b)] := hl
  refine lv_aload_n hx hb d_w_1173 rfl (lv_at hl 3 rfl) ?_
  refine rJ (k := 1) hx hb hC hQ hw.2.2.2.1 hi (by decide) (lv_at hl 5 rfl) (lv_at hl 1 rfl) (by decide) (by decide) d_w_1174 d_w_1175 d_w_1177 d_w_1178 d_w_1179 d_w_1180 d_w_1181 d_w_1183 d_w_1184 d_w_1185 d_w_1187 d_w_1188 d_w_1189 d_w_1190 d_w_1191 d_w_1194 d_w_1195 ?_
  rw [← e9]
  refine rS (k := 3) hQ hw.2.2.2.1 hi (by decide) (lv_at hl 5 rfl) (lv_at hl 1 rfl) (by decide) d_w_1196 d_w_1197 d_w_1199 d_w_1200 d_w_1201 ?_
  refine wcV_iM (As := [.long (lN N9), .int (xs (i + 3))]) (rest := []) hx hb hC hw (k_M_type l T (fF V9) (fU V9) K9 _ _ M Z G z hm n9 tx hn9 (hq9.2.2.2.trans hK16) ((va_up_ne _ _ (by decide)).trans hI4) ht N9 hN9 (xs (i + 3))) lk_Y_155 rfl rfl ⟨show 0 + 1 ≤ R.frames by omega, show 8 + (8 + 11) + 0 ≤ R.locals by omega⟩ (by decide) we_Model rfl rfl hl.1 rfl (Nat.le_of_ble_eq_true rfl) ⟨by omega, by omega⟩ d_w_1202 (fun M9 Z9 G9 H locs hm9 hw => ?_)
  refine lv_topi (fun b9 hb9 => ?_)
  refine lv_istore hx hb d_w_1205 hl (by decide) rfl (fun ls hl => ?_)
  have hl : lv_has ls 8 [(6, .int b9), (5, .int r9), (4, .int (nI i)), (3, .ref (wa T 96)), (2, .ref (wa T 91)), (1, .ref (wa T 84)), (0, .ref b)] := hl
  refine lv_aload_n hx hb d_w_1207 rfl (lv_at hl 4 rfl) ?_
  refine wcV_i (As := []) (rest := []) hx hb hC hw (k_M_thrown l T _ _ _ _ _) lk_Y_100 rfl rfl ⟨show 0 + 1 ≤ R.frames by omega, show 8 + (1 + 11) + 0 ≤ R.locals by omega⟩ (by decide) we_Model rfl rfl hl.1 rfl (Nat.le_of_ble_eq_true rfl) ⟨by omega, by omega⟩ d_w_1208 (fun H locs hw => ?_)
  refine lv_iload hx hb d_w_1211 (lv_at hl 1 rfl) ?_
  refine lv_icmp_eq (tgt := 1218) hx hb d_w_1213 (by decide) (fun h9 => ?_) (fun h9 => absurd ((va_up_self _ _ _).trans ho9.symm) h9)
  have fin : W p l e R s m args below meth c H locs (cells + 1) (slots + 6) Q (F0 m 1235 ls []) := by
    refine lv_goto (tgt := 1443) hx hb d_w_1235 (by decide) ?_
    exact kk H locs ls ⟨V9, _, _, _, _, _, _, M9, Z9, G9, (hq9.1.outK (by decide)).outK (by decide), hm9, tyC_n hn9, (va_up_ne _ _ (by decide)).trans ((va_up_ne _ _ (by decide)).trans hq9.2.1), (va_up_ne _ _ (by decide)).trans (va_up_self _ _ _), (va_up_ne _ _ (by decide)).trans (va_up_self _ _ _), va_up_self _ _ _, tyC_t ht, hw⟩ (lv_sub hl [2, 3, 4, 5, 6] rfl)
  refine lv_iload hx hb d_w_1218 (lv_at hl 1 rfl) ?_
  refine lv_if_ne (tgt := 1235) hx hb d_w_1220 (by decide) (fun _ => fin) (fun h0 => ?_)
  have h0 := (nI_eqz tyC_lt).mp (ho9.symm.trans h0)
  rw [if_pos h0] at hb9
  subst hb9
  refine lv_aload_n hx hb d_w_1223 rfl (lv_at hl 3 rfl) ?_
  refine lv_iconst (v := nI 0) hx hb d_w_1224 (by decide +kernel) ?_
  refine wl_out hx hb hw (by decide) d_w_1225 ?_
  rw [oU_0 h0]
  refine lv_iload hx hb d_w_1226 (lv_at hl 0 rfl) ?_
  refine lv_i2l hx hb d_w_1228 rfl ?_
  exact lc_eq (tgt := 1235) hx hb d_w_1229 d_w_1230 (by decide) (fun _ => fin) (fun h => absurd rfl h)
set_option maxRecDepth 100000 in
set_option maxHeartbeats 4000000 in
theorem law_wipe (l : Launch) (hst : l.stackTraces = false) (T : wT) {p : Program} {e : Env} {R : Room} {s : State} {m : MethodId} {args : Array Value} {below : List Frame} {meth : Method} {c : Code} {H : Heap} {locs : List Loc} {cells slots : Nat} {Q : State → Prop} {ls : Array Slot} {b L i : Nat} {xs : Nat → Int32} {A : Nat → Prop} (hQ : lX p R s m args c b L xs A) (hi : i + 6 ≤ L) (hw : lI T A s H locs) (hl : lv_has ls 8 (lL T b i)) (hf1 : cells + 1 ≤ R.cells) (hf2 : slots + 6 ≤ R.slots)
    (kk : ∀ (H1 : Heap) (locs1 : List Loc) (ls1 : Array Slot), lI T A s H1 locs1 → lv_has ls1 8 (lL T b i) → W p l e R s m args below meth c H1 locs1 (cells + 1) (slots + 6) Q (F0 m 1443 ls1 [])) : W p l e R s m args below meth c H locs cells slots Q (F0 m 1238 ls []) := by
  obtain ⟨V, K, I, O, z, n9, tx, M, Z, G, hc, hm, hn9, hK14, hK16, hI0, hI4, ht, hw⟩ := hw
  have hQ9 := hQ
  obtain ⟨hx, hb, hC, hz, hX, hbl, hbA, hL, hR1, hR2⟩ := hQ9
  have hl : lv_has ls 8 [(4, .int (nI i)), (3, .ref (wa T 96)), (2, .ref (wa T 91)), (1, .ref (wa T 84)), (0, .ref b)] := hl
  refine lv_aload_n hx hb d_w_1238 rfl (lv_at hl 3 rfl) ?_
  refine wcV_i (As := []) (rest := []) hx hb hC hw (k_L_wipe l T V K _ O n9 hK14) lk_Y_156 rfl rfl ⟨show 0 + 1 ≤ R.frames by omega, show 8 + (2 + 11) + 0 ≤ R.locals by omega⟩ (by decide) we_Self rfl rfl hl.1 rfl (Nat.le_of_ble_eq_true rfl) ⟨by omega, by omega⟩ d_w_1239 (fun H locs hw => ?_)
  refine lv_aload_n hx hb d_w_1242 rfl (lv_at hl 2 rfl) ?_
  refine wcV_i (As := []) (rest := [.int (nI n9)]) hx hb hC hw (k_M_wipe l T (fF V) (fU V) _ I O M Z G n9 ((va_up_ne _ _ (by decide)).trans hK16)) lk_Y_159 rfl rfl ⟨show 0 + 1 ≤ R.frames by omega, show 8 + (2 + 11) + 0 ≤ R.locals by omega⟩ (by decide) we_Model rfl rfl hl.1 rfl (Nat.le_of_ble_eq_true rfl) ⟨by omega, by omega⟩ d_w_1243 (fun H locs hw => ?_)
  refine lv_icmp_eq (tgt := 1443) hx hb d_w_1246 (by decide) (fun h9 => ?_) (fun h9 => absurd rfl h9)
  refine W.widen (k := cells + 1) (n := slots + 6) (by omega) (by omega) ?_
  exact kk H locs ls ⟨V, _, I, O, z, 0, tx, M, Z, G, ((hc.outK (by decide)).outK (by decide)).outK (by decide), hm, by decide, (va_up_ne _ _ (by decide)).trans ((va_up_ne _ _ (by decide)).trans (va_up_self _ _ _)), va_up_self _ _ _, hI0, hI4, ht, hw⟩ hl
set_option maxRecDepth 100000 in
set_option maxHeartbeats 4000000 in
theorem law_parse (l : Launch) (hst : l.stackTraces = false) (T : wT) {p : Program} {e : Env} {R : Room} {s : State} {m : MethodId} {args : Array Value} {below : List Frame} {meth : Method} {c : Code} {H : Heap} {locs : List Loc} {cells slots : Nat} {Q : State → Prop} {ls : Array Slot} {b L i : Nat} {xs : Nat → Int32} {A : Nat → Prop} (hQ : lX p R s m args c b L xs A) (hi : i + 6 ≤ L) (hw : lI T A s H locs) (hl : lv_has ls 8 (lL T b i)) (hf1 : cells + 1 ≤ R.cells) (hf2 : slots + 6 ≤ R.slots)
    (kk : ∀ (H1 : Heap) (locs1 : List Loc) (ls1 : Array Slot), lI T A s H1 locs1 → lv_has ls1 8 (lL T b i) → W p l e R s m args below meth c H1 locs1 (cells + 1) (slots + 6) Q (F0 m 1443 ls1 [])) : W p l e R s m args below meth c H locs cells slots Q (F0 m 1251 ls []) := by
  obtain ⟨V, K, I, O, z, n9, tx, M, Z, G, hc, hm, hn9, hK14, hK16, hI0, hI4, ht, hw⟩ := hw
  have hQ9 := hQ
  obtain ⟨hx, hb, hC, hz, hX, hbl, hbA, hL, hR1, hR2⟩ := hQ9
  have hl : lv_has ls 8 [(4, .int (nI i)), (3, .ref (wa T 96)), (2, .ref (wa T 91)), (1, .ref (wa T 84)), (0, .ref b)] := hl
  refine lv_aload_n hx hb d_w_1251 rfl (lv_at hl 3 rfl) ?_
  refine rS (k := 1) hQ hw.2.2.2.1 hi (by decide) (lv_at hl 4 rfl) (lv_at hl 0 rfl) (by decide) d_w_1252 d_w_1253 d_w_1255 d_w_1256 d_w_1257 ?_
  refine rS (k := 2) hQ hw.2.2.2.1 hi (by decide) (lv_at hl 4 rfl) (lv_at hl 0 rfl) (by decide) d_w_1258 d_w_1259 d_w_1261 d_w_1262 d_w_1263 ?_
  refine lv_aload_n hx hb d_w_1264 rfl (lv_at hl 1 rfl) ?_
  refine wcY (As := [.ref (wa T 84), .int (xs (i + 1)), .int (xs (i + 2)), .ref (wa T 96)]) (rest := []) hx hb hC hz hw (k_Y_parse l hst T V K _ O z hc n9 tx hn9 hK14 ((gI_o (by decide) (by decide) (by decide)).trans hI0) ht (xs (i + 1)) (xs (i + 2))) lh_Y_parse rfl rfl ⟨show 8 + 1 ≤ R.frames by omega, show 8 + (5 + 11) + 134 ≤ R.locals by omega⟩ rfl hl.1 rfl (Nat.le_of_ble_eq_true rfl) ⟨hf1, hf2⟩ d_w_1265 (fun r9 V9 K9 I9 O9 H locs hP9 hw => ?_)
  obtain ⟨ho9, hq9, hI9, hO9⟩ := hP9
  rw [hI9, hO9] at hw
  refine lv_istore hx hb d_w_1268 hl (by decide) rfl (fun ls hl => ?_)
  have hl : lv_has ls 8 [(5, .int r9), (4, .int (nI i)), (3, .ref (wa T 96)), (2, .ref (wa T 91)), (1, .ref (wa T 84)), (0, .ref b)] := hl
  refine lv_aload_n hx hb d_w_1270 rfl (lv_at hl 3 rfl) ?_
  refine rS (k := 1) hQ hw.2.2.2.1 hi (by decide) (lv_at hl 5 rfl) (lv_at hl 1 rfl) (by decide) d_w_1271 d_w_1272 d_w_1274 d_w_1275 d_w_1276 ?_
  refine rS (k := 2) hQ hw.2.2.2.1 hi (by decide) (lv_at hl 5 rfl) (lv_at hl 1 rfl) (by decide) d_w_1277 d_w_1278 d_w_1280 d_w_1281 d_w_1282 ?_
  refine wcV_iM (As := [.int (xs (i + 1)), .int (xs (i + 2))]) (rest := []) hx hb hC hw (k_M_parse l T (fF V9) (fU V9) K9 _ _ M Z G z hm n9 tx hn9 (hq9.2.2.2.trans hK16) hI4 ht (xs (i + 1)) (xs (i + 2))) lk_Y_162 rfl rfl ⟨show 2 + 1 ≤ R.frames by omega, show 8 + (6 + 11) + 49 ≤ R.locals by omega⟩ (by decide) we_Model rfl rfl hl.1 rfl (Nat.le_of_ble_eq_true rfl) ⟨by omega, by omega⟩ d_w_1283 (fun M9 Z9 G9 H locs hm9 hw => ?_)
  refine lv_topi (fun b9 hb9 => ?_)
  refine lv_istore hx hb d_w_1286 hl (by decide) rfl (fun ls hl => ?_)
  have hl : lv_has ls 8 [(6, .int b9), (5, .int r9), (4, .int (nI i)), (3, .ref (wa T 96)), (2, .ref (wa T 91)), (1, .ref (wa T 84)), (0, .ref b)] := hl
  refine lv_aload_n hx hb d_w_1288 rfl (lv_at hl 4 rfl) ?_
  refine wcV_i (As := []) (rest := []) hx hb hC hw (k_M_thrown l T _ _ _ _ _) lk_Y_100 rfl rfl ⟨show 0 + 1 ≤ R.frames by omega, show 8 + (1 + 11) + 0 ≤ R.locals by omega⟩ (by decide) we_Model rfl rfl hl.1 rfl (Nat.le_of_ble_eq_true rfl) ⟨by omega, by omega⟩ d_w_1289 (fun H locs hw => ?_)
  refine lv_iload hx hb d_w_1292 (lv_at hl 1 rfl) ?_
  refine lv_icmp_eq (tgt := 1299) hx hb d_w_1294 (by decide) (fun h9 => ?_) (fun h9 => absurd ((va_up_self _ _ _).trans ho9.symm) h9)
  have fin : W p l e R s m args below meth c H locs (cells + 1) (slots + 6) Q (F0 m 1316 ls []) := by
    refine lv_goto (tgt := 1443) hx hb d_w_1316 (by decide) ?_
    exact kk H locs ls ⟨V9, _, _, _, _, _, _, M9, Z9, G9, (hq9.1.outK (by decide)).outK (by decide), hm9, psC_n hn9, (va_up_ne _ _ (by decide)).trans ((va_up_ne _ _ (by decide)).trans hq9.2.1), (va_up_ne _ _ (by decide)).trans (va_up_self _ _ _), (va_up_ne _ _ (by decide)).trans hI0, va_up_self _ _ _, ht, hw⟩ (lv_sub hl [2, 3, 4, 5, 6] rfl)
  refine lv_iload hx hb d_w_1299 (lv_at hl 1 rfl) ?_
  refine lv_if_ne (tgt := 1316) hx hb d_w_1301 (by decide) (fun _ => fin) (fun h0 => ?_)
  have h0 := (nI_eqz psC_lt).mp (ho9.symm.trans h0)
  rw [if_pos h0] at hb9
  subst hb9
  refine lv_aload_n hx hb d_w_1304 rfl (lv_at hl 3 rfl) ?_
  refine lv_iconst (v := nI 0) hx hb d_w_1305 (by decide +kernel) ?_
  refine wl_out hx hb hw (by decide) d_w_1306 ?_
  rw [oU_0 h0]
  refine lv_iload hx hb d_w_1307 (lv_at hl 0 rfl) ?_
  refine lv_i2l hx hb d_w_1309 rfl ?_
  exact lc_eq (tgt := 1316) hx hb d_w_1310 d_w_1311 (by decide) (fun _ => fin) (fun h => absurd rfl h)
set_option maxRecDepth 100000 in
set_option maxHeartbeats 4000000 in
theorem law_print (l : Launch) (hst : l.stackTraces = false) (T : wT) {p : Program} {e : Env} {R : Room} {s : State} {m : MethodId} {args : Array Value} {below : List Frame} {meth : Method} {c : Code} {H : Heap} {locs : List Loc} {cells slots : Nat} {Q : State → Prop} {ls : Array Slot} {b L i : Nat} {xs : Nat → Int32} {A : Nat → Prop} (hQ : lX p R s m args c b L xs A) (hi : i + 6 ≤ L) (hw : lI T A s H locs) (hl : lv_has ls 8 (lL T b i)) (hf1 : cells + 1 ≤ R.cells) (hf2 : slots + 6 ≤ R.slots)
    (kk : ∀ (H1 : Heap) (locs1 : List Loc) (ls1 : Array Slot), lI T A s H1 locs1 → lv_has ls1 8 (lL T b i) → W p l e R s m args below meth c H1 locs1 (cells + 1) (slots + 6) Q (F0 m 1443 ls1 [])) : W p l e R s m args below meth c H locs cells slots Q (F0 m 1319 ls []) := by
  obtain ⟨V, K, I, O, z, n9, tx, M, Z, G, hc, hm, hn9, hK14, hK16, hI0, hI4, ht, hw⟩ := hw
  have hQ9 := hQ
  obtain ⟨hx, hb, hC, hz, hX, hbl, hbA, hL, hR1, hR2⟩ := hQ9
  have hl : lv_has ls 8 [(4, .int (nI i)), (3, .ref (wa T 96)), (2, .ref (wa T 91)), (1, .ref (wa T 84)), (0, .ref b)] := hl
  refine lv_aload_n hx hb d_w_1319 rfl (lv_at hl 3 rfl) ?_
  refine rS (k := 1) hQ hw.2.2.2.1 hi (by decide) (lv_at hl 4 rfl) (lv_at hl 0 rfl) (by decide) d_w_1320 d_w_1321 d_w_1323 d_w_1324 d_w_1325 ?_
  refine rS (k := 2) hQ hw.2.2.2.1 hi (by decide) (lv_at hl 4 rfl) (lv_at hl 0 rfl) (by decide) d_w_1326 d_w_1327 d_w_1329 d_w_1330 d_w_1331 ?_
  refine lv_aload_n hx hb d_w_1332 rfl (lv_at hl 1 rfl) ?_
  refine wcY (As := [.ref (wa T 84), .int (xs (i + 1)), .int (xs (i + 2)), .ref (wa T 96)]) (rest := []) hx hb hC hz hw (k_Y_print l hst T V K _ O z hc n9 tx hn9 hK14 ((gI_o (by decide) (by decide) (by decide)).trans hI0) ht (xs (i + 1)) (xs (i + 2))) lh_Y_print rfl rfl ⟨show 8 + 1 ≤ R.frames by omega, show 8 + (5 + 11) + 132 ≤ R.locals by omega⟩ rfl hl.1 rfl (Nat.le_of_ble_eq_true rfl) ⟨hf1, hf2⟩ d_w_1333 (fun r9 V9 K9 I9 O9 H locs hP9 hw => ?_)
  obtain ⟨ho9, hq9, hI9, hO9⟩ := hP9
  rw [hI9, hO9] at hw
  rw [gI_up (by decide) (by decide) (by decide)] at hw
  refine lv_istore hx hb d_w_1336 hl (by decide) rfl (fun ls hl => ?_)
  have hl : lv_has ls 8 [(5, .int r9), (4, .int (nI i)), (3, .ref (wa T 96)), (2, .ref (wa T 91)), (1, .ref (wa T 84)), (0, .ref b)] := hl
  refine lv_aload_n hx hb d_w_1338 rfl (lv_at hl 3 rfl) ?_
  refine rS (k := 1) hQ hw.2.2.2.1 hi (by decide) (lv_at hl 5 rfl) (lv_at hl 1 rfl) (by decide) d_w_1339 d_w_1340 d_w_1342 d_w_1343 d_w_1344 ?_
  refine rS (k := 2) hQ hw.2.2.2.1 hi (by decide) (lv_at hl 5 rfl) (lv_at hl 1 rfl) (by decide) d_w_1345 d_w_1346 d_w_1348 d_w_1349 d_w_1350 ?_
  refine wcV_iM (As := [.int (xs (i + 1)), .int (xs (i + 2))]) (rest := []) hx hb hC hw (k_M_print l T (fF V9) (fU V9) K9 _ _ M Z G z hm n9 tx hn9 (hq9.2.2.2.trans hK16) ((va_up_ne _ _ (by decide)).trans hI4) ht (xs (i + 1)) (xs (i + 2))) lk_Y_165 rfl rfl ⟨show 2 + 1 ≤ R.frames by omega, show 8 + (5 + 11) + 48 ≤ R.locals by omega⟩ (by decide) we_Model rfl rfl hl.1 rfl (Nat.le_of_ble_eq_true rfl) ⟨by omega, by omega⟩ d_w_1351 (fun M9 Z9 G9 H locs hm9 hw => ?_)
  refine lv_topi (fun b9 hb9 => ?_)
  refine lv_istore hx hb d_w_1354 hl (by decide) rfl (fun ls hl => ?_)
  have hl : lv_has ls 8 [(6, .int b9), (5, .int r9), (4, .int (nI i)), (3, .ref (wa T 96)), (2, .ref (wa T 91)), (1, .ref (wa T 84)), (0, .ref b)] := hl
  refine lv_aload_n hx hb d_w_1356 rfl (lv_at hl 4 rfl) ?_
  refine wcV_i (As := []) (rest := []) hx hb hC hw (k_M_thrown l T _ _ _ _ _) lk_Y_100 rfl rfl ⟨show 0 + 1 ≤ R.frames by omega, show 8 + (1 + 11) + 0 ≤ R.locals by omega⟩ (by decide) we_Model rfl rfl hl.1 rfl (Nat.le_of_ble_eq_true rfl) ⟨by omega, by omega⟩ d_w_1357 (fun H locs hw => ?_)
  refine lv_iload hx hb d_w_1360 (lv_at hl 1 rfl) ?_
  refine lv_icmp_eq (tgt := 1367) hx hb d_w_1362 (by decide) (fun h9 => ?_) (fun h9 => absurd ((va_up_self _ _ _).trans ho9.symm) h9)
  have fin : W p l e R s m args below meth c H locs (cells + 1) (slots + 6) Q (F0 m 1384 ls []) := by
    refine lv_goto (tgt := 1443) hx hb d_w_1384 (by decide) ?_
    exact kk H locs ls ⟨V9, _, _, _, _, _, _, M9, Z9, G9, (hq9.1.outK (by decide)).outK (by decide), hm9, prC_n hn9, (va_up_ne _ _ (by decide)).trans ((va_up_ne _ _ (by decide)).trans hq9.2.1), (va_up_ne _ _ (by decide)).trans (va_up_self _ _ _), (va_up_ne _ _ (by decide)).trans (va_up_self _ _ _), va_up_self _ _ _, prC_t ht, hw⟩ (lv_sub hl [2, 3, 4, 5, 6] rfl)
  refine lv_iload hx hb d_w_1367 (lv_at hl 1 rfl) ?_
  refine lv_if_ne (tgt := 1384) hx hb d_w_1369 (by decide) (fun _ => fin) (fun h0 => ?_)
  have h0 := (nI_eqz prC_lt).mp (ho9.symm.trans h0)
  rw [if_pos h0] at hb9
  subst hb9
  refine lv_aload_n hx hb d_w_1372 rfl (lv_at hl 3 rfl) ?_
  refine lv_iconst (v := nI 0) hx hb d_w_1373 (by decide +kernel) ?_
  refine wl_out hx hb hw (by decide) d_w_1374 ?_
  rw [oU_0 h0]
  refine lv_iload hx hb d_w_1375 (lv_at hl 0 rfl) ?_
  refine lv_i2l hx hb d_w_1377 rfl ?_
  exact lc_eq (tgt := 1384) hx hb d_w_1378 d_w_1379 (by decide) (fun _ => fin) (fun h => absurd rfl h)
set_option maxRecDepth 100000 in
set_option maxHeartbeats 4000000 in
theorem law_character (l : Launch) (hst : l.stackTraces = false) (T : wT) {p : Program} {e : Env} {R : Room} {s : State} {m : MethodId} {args : Array Value} {below : List Frame} {meth : Method} {c : Code} {H : Heap} {locs : List Loc} {cells slots : Nat} {Q : State → Prop} {ls : Array Slot} {b L i : Nat} {xs : Nat → Int32} {A : Nat → Prop} (hQ : lX p R s m args c b L xs A) (hi : i + 6 ≤ L) (hw : lI T A s H locs) (hl : lv_has ls 8 (lL T b i)) (hf1 : cells + 1 ≤ R.cells) (hf2 : slots + 6 ≤ R.slots)
    (kk : ∀ (H1 : Heap) (locs1 : List Loc) (ls1 : Array Slot), lI T A s H1 locs1 → lv_has ls1 8 (lL T b i) → W p l e R s m args below meth c H1 locs1 (cells + 1) (slots + 6) Q (F0 m 1443 ls1 [])) : W p l e R s m args below meth c H locs cells slots Q (F0 m 1387 ls []) := by
  obtain ⟨V, K, I, O, z, n9, tx, M, Z, G, hc, hm, hn9, hK14, hK16, hI0, hI4, ht, hw⟩ := hw
  have hQ9 := hQ
  obtain ⟨hx, hb, hC, hz, hX, hbl, hbA, hL, hR1, hR2⟩ := hQ9
  have hl : lv_has ls 8 [(4, .int (nI i)), (3, .ref (wa T 96)), (2, .ref (wa T 91)), (1, .ref (wa T 84)), (0, .ref b)] := hl
  refine lv_aload_n hx hb d_w_1387 rfl (lv_at hl 3 rfl) ?_
  refine rS (k := 1) hQ hw.2.2.2.1 hi (by decide) (lv_at hl 4 rfl) (lv_at hl 0 rfl) (by decide) d_w_1388 d_w_1389 d_w_1391 d_w_1392 d_w_1393 ?_
  refine lv_aload_n hx hb d_w_1394 rfl (lv_at hl 1 rfl) ?_
  refine wcY (As := [.ref (wa T 84), .int (xs (i + 1)), .ref (wa T 96)]) (rest := []) hx hb hC hz hw (k_Y_character l hst T V K _ O z hc n9 tx hn9 hK14 ((gI_o (by decide) (by decide) (by decide)).trans hI0) ht (xs (i + 1))) lh_Y_character rfl rfl ⟨show 7 + 1 ≤ R.frames by omega, show 8 + (4 + 11) + 111 ≤ R.locals by omega⟩ rfl hl.1 rfl (Nat.le_of_ble_eq_true rfl) ⟨hf1, hf2⟩ d_w_1395 (fun r9 V9 K9 I9 O9 H locs hP9 hw => ?_)
  obtain ⟨ho9, hq9, hI9, hO9⟩ := hP9
  rw [hI9, hO9] at hw
  refine lv_istore hx hb d_w_1398 hl (by decide) rfl (fun ls hl => ?_)
  have hl : lv_has ls 8 [(5, .int r9), (4, .int (nI i)), (3, .ref (wa T 96)), (2, .ref (wa T 91)), (1, .ref (wa T 84)), (0, .ref b)] := hl
  refine lv_aload_n hx hb d_w_1400 rfl (lv_at hl 3 rfl) ?_
  refine rS (k := 1) hQ hw.2.2.2.1 hi (by decide) (lv_at hl 5 rfl) (lv_at hl 1 rfl) (by decide) d_w_1401 d_w_1402 d_w_1404 d_w_1405 d_w_1406 ?_
  refine wcV_iM (As := [.int (xs (i + 1))]) (rest := []) hx hb hC hw (k_M_character l T (fF V9) (fU V9) K9 _ _ M Z G z hm n9 tx hn9 (hq9.2.2.2.trans hK16) hI4 ht (xs (i + 1))) lk_Y_168 rfl rfl ⟨show 0 + 1 ≤ R.frames by omega, show 8 + (2 + 11) + 0 ≤ R.locals by omega⟩ (by decide) we_Model rfl rfl hl.1 rfl (Nat.le_of_ble_eq_true rfl) ⟨by omega, by omega⟩ d_w_1407 (fun M9 Z9 G9 H locs hm9 hw => ?_)
  refine lv_topi (fun b9 hb9 => ?_)
  refine lv_istore hx hb d_w_1410 hl (by decide) rfl (fun ls hl => ?_)
  have hl : lv_has ls 8 [(6, .int b9), (5, .int r9), (4, .int (nI i)), (3, .ref (wa T 96)), (2, .ref (wa T 91)), (1, .ref (wa T 84)), (0, .ref b)] := hl
  refine lv_aload_n hx hb d_w_1412 rfl (lv_at hl 4 rfl) ?_
  refine wcV_i (As := []) (rest := []) hx hb hC hw (k_M_thrown l T _ _ _ _ _) lk_Y_100 rfl rfl ⟨show 0 + 1 ≤ R.frames by omega, show 8 + (1 + 11) + 0 ≤ R.locals by omega⟩ (by decide) we_Model rfl rfl hl.1 rfl (Nat.le_of_ble_eq_true rfl) ⟨by omega, by omega⟩ d_w_1413 (fun H locs hw => ?_)
  refine lv_iload hx hb d_w_1416 (lv_at hl 1 rfl) ?_
  refine lv_icmp_eq (tgt := 1423) hx hb d_w_1418 (by decide) (fun h9 => ?_) (fun h9 => absurd ((va_up_self _ _ _).trans ho9.symm) h9)
  have fin : W p l e R s m args below meth c H locs (cells + 1) (slots + 6) Q (F0 m 1440 ls []) := by
    refine lv_goto (tgt := 1443) hx hb d_w_1440 (by decide) ?_
    exact kk H locs ls ⟨V9, _, I, _, _, n9, tx, M9, Z9, G9, hq9.1.outK (by decide), hm9, hn9, (va_up_ne _ _ (by decide)).trans (hq9.2.1.trans hK14), (va_up_ne _ _ (by decide)).trans (hq9.2.2.2.trans hK16), hI0, hI4, ht, hw⟩ (lv_sub hl [2, 3, 4, 5, 6] rfl)
  refine lv_iload hx hb d_w_1423 (lv_at hl 1 rfl) ?_
  refine lv_if_ne (tgt := 1440) hx hb d_w_1425 (by decide) (fun _ => fin) (fun h0 => ?_)
  have h0 := (nI_eqz ocG0_lt).mp (ho9.symm.trans h0)
  rw [if_pos h0] at hb9
  subst hb9
  refine lv_aload_n hx hb d_w_1428 rfl (lv_at hl 3 rfl) ?_
  refine lv_iconst (v := nI 0) hx hb d_w_1429 (by decide +kernel) ?_
  refine wl_out hx hb hw (by decide) d_w_1430 ?_
  rw [oU_0 h0]
  refine lv_iload hx hb d_w_1431 (lv_at hl 0 rfl) ?_
  refine lv_i2l hx hb d_w_1433 rfl ?_
  exact lc_eq (tgt := 1440) hx hb d_w_1434 d_w_1435 (by decide) (fun _ => fin) (fun h => absurd rfl h)
