/-! the law's helpers that answer nothing but a code -/
set_option maxRecDepth 100000 in
set_option maxHeartbeats 4000000 in
theorem k_Y_set (l : Launch) (hst9 : l.stackTraces = false) (T : wT) (V : Nat → Nat) (K : wUt) (I : wIt) (O : wOt) (z : Nat → Int) (hc : cI z V K) (r : Int32) (v : Int64) : Met l y_Y_set (.codeWith y_Y_set c_Y_set 5 (some .int) [(0, 6, 9, 13)] :: bg) ({ frames := 8, cells := 1, slots := 6, locals := 133 } : Room) (mPy T (fF V) (fU V) K I O [.ref (wa T 84), .int r, .long v]) (mQy T (fun x9 V' K' I' O' => x9 = nI (ocG (isR r) 0) ∧ cQ (zF (ocG (isR r) 0) (va_up z (rg r) v.toInt) z) K (K 14) V' K' ∧ I' = I ∧ O' = O)) 1 6 (wA T) := by
  refine yH rfl (Nat.le_of_ble_eq_true rfl) rfl rfl ?_
  intro p e R s m args below meth c Q ls hx hb hC hRf hRl hRc hz9 hn9_ htab hret hl hw
  have hRf : 8 ≤ R.frames := hRf
  have hRl : 133 ≤ R.locals := hRl
  have hl : lv_has ls 5 [(0, .ref (wa T 84)), (1, .int r), (2, .long v)] := hl
  refine lv_aload_n hx hb d_Y_set_0 rfl (lv_at hl 0 rfl) ?_
  refine lv_iload_n hx hb d_Y_set_1 rfl (lv_at hl 1 rfl) ?_
  refine lv_lload_n hx hb d_Y_set_2 rfl (lv_at hl 2 rfl) ?_
  refine yc_v (As := [.int r, .long v]) hx hb hC hz9 hw (x_L_set l hst9 T V K I O z hc r v) lk_Y_7 rfl rfl ⟨by show 7 + 1 ≤ R.frames; omega, by show 8 + (4 + 11) + 110 ≤ R.locals; omega⟩ (by omega) (we_Self ) rfl rfl hl.1 rfl (Nat.le_of_ble_eq_true rfl) hRc d_Y_set_3 (fun E9 V9 K9 H9 locs9 ce9 q9 hE9 hP9 hw h91 h92 h93 => ?_) (fun V9 K9 H9 locs9 hP9 hw => ?_)
  · unfold eP at hE9
    simp only [List.mem_cons, List.not_mem_nil, or_false, Prod.mk.injEq] at hE9
    obtain ⟨rfl, hoc9⟩ := hE9
    refine vx_catch (own := "LimbRegistersLaw") (name := eIX) hC.2.2 [] ⟨0, 6, 9, 13⟩ [] (htab.trans rfl) (fun z9 hz => nomatch hz) (by decide) (by decide) (hC.hts bw_214) (hz9.word (by decide +kernel)) h91 h92 h93 ?_
    refine lv_astore hx hb d_Y_set_9 hl (by decide) rfl (fun ls hl => ?_)
    have hl : lv_has ls 5 [(4, .ref q9), (0, .ref (wa T 84)), (1, .int r), (2, .long v)] := hl
    refine lv_iconst (v := nI 1) hx hb d_Y_set_11 (by decide +kernel) ?_
    exact hret _ _ _ _ _ _ _ _ _ (⟨by rw [hoc9], by rw [hoc9, zF_n (by decide)]; exact hP9, rfl, rfl⟩) hw d_Y_set_12
  · skip
    refine lv_goto (tgt := 13) hx hb d_Y_set_6 (by decide) ?_
    refine lv_iconst (v := nI 0) hx hb d_Y_set_13 (by decide +kernel) ?_
    exact hret _ _ _ _ _ _ _ _ _ ⟨by rw [hP9.1], by rw [zF_0 hP9.1]; exact hP9.2, rfl, rfl⟩ hw d_Y_set_14
set_option maxRecDepth 100000 in
set_option maxHeartbeats 4000000 in
theorem k_Y_copy (l : Launch) (hst9 : l.stackTraces = false) (T : wT) (V : Nat → Nat) (K : wUt) (I : wIt) (O : wOt) (z : Nat → Int) (hc : cI z V K) (r a : Int32) (tu : Bool) : Met l y_Y_copy (.codeWith y_Y_copy c_Y_copy 5 (some .int) [(0, 7, 10, 13)] :: bg) ({ frames := 8, cells := 1, slots := 6, locals := 133 } : Room) (mPy T (fF V) (fU V) K I O [.ref (wa T 84), .int r, .int a, .int (bI tu)]) (mQy T (fun x9 V' K' I' O' => x9 = nI (ocG (isR r ∧ isR a) 0) ∧ cQ (zF (ocG (isR r ∧ isR a) 0) (va_up z (rg r) (sgI (decide (z (rg a) < 0) != tu) (z (rg a)).natAbs)) z) K (K 14) V' K' ∧ I' = I ∧ O' = O)) 1 6 (wA T) := by
  refine yH rfl (Nat.le_of_ble_eq_true rfl) rfl rfl ?_
  intro p e R s m args below meth c Q ls hx hb hC hRf hRl hRc hz9 hn9_ htab hret hl hw
  have hRf : 8 ≤ R.frames := hRf
  have hRl : 133 ≤ R.locals := hRl
  have hl : lv_has ls 5 [(0, .ref (wa T 84)), (1, .int r), (2, .int a), (3, .int (bI tu))] := hl
  refine lv_aload_n hx hb d_Y_copy_0 rfl (lv_at hl 0 rfl) ?_
  refine lv_iload_n hx hb d_Y_copy_1 rfl (lv_at hl 1 rfl) ?_
  refine lv_iload_n hx hb d_Y_copy_2 rfl (lv_at hl 2 rfl) ?_
  refine lv_iload_n hx hb d_Y_copy_3 rfl (lv_at hl 3 rfl) ?_
  refine yc_v (As := [.int r, .int a, .int (bI tu)]) hx hb hC hz9 hw (x_L_copy l hst9 T V K I O z hc r a tu) lk_Y_15 rfl rfl ⟨by show 7 + 1 ≤ R.frames; omega, by show 8 + (4 + 11) + 110 ≤ R.locals; omega⟩ (by omega) (we_Self ) rfl rfl hl.1 rfl (Nat.le_of_ble_eq_true rfl) hRc d_Y_copy_4 (fun E9 V9 K9 H9 locs9 ce9 q9 hE9 hP9 hw h91 h92 h93 => ?_) (fun V9 K9 H9 locs9 hP9 hw => ?_)
  · unfold eP at hE9
    simp only [List.mem_cons, List.not_mem_nil, or_false, Prod.mk.injEq] at hE9
    obtain ⟨rfl, hoc9⟩ := hE9
    refine vx_catch (own := "LimbRegistersLaw") (name := eIX) hC.2.2 [] ⟨0, 7, 10, 13⟩ [] (htab.trans rfl) (fun z9 hz => nomatch hz) (by decide) (by decide) (hC.hts bw_214) (hz9.word (by decide +kernel)) h91 h92 h93 ?_
    refine lv_astore hx hb d_Y_copy_10 hl (by decide) rfl (fun ls hl => ?_)
    have hl : lv_has ls 5 [(4, .ref q9), (0, .ref (wa T 84)), (1, .int r), (2, .int a), (3, .int (bI tu))] := hl
    refine lv_iconst (v := nI 1) hx hb d_Y_copy_12 (by decide +kernel) ?_
    exact hret _ _ _ _ _ _ _ _ _ (⟨by rw [hoc9], by rw [hoc9, zF_n (by decide)]; exact hP9, rfl, rfl⟩) hw d_Y_copy_13
  · skip
    refine lv_goto (tgt := 14) hx hb d_Y_copy_7 (by decide) ?_
    refine lv_iconst (v := nI 0) hx hb d_Y_copy_14 (by decide +kernel) ?_
    exact hret _ _ _ _ _ _ _ _ _ ⟨by rw [hP9.1], by rw [zF_0 hP9.1]; exact hP9.2, rfl, rfl⟩ hw d_Y_copy_15
set_option maxRecDepth 100000 in
set_option maxHeartbeats 4000000 in
theorem k_Y_add (l : Launch) (hst9 : l.stackTraces = false) (T : wT) (V : Nat → Nat) (K : wUt) (I : wIt) (O : wOt) (z : Nat → Int) (hc : cI z V K) (r a b : Int32) : Met l y_Y_add (.codeWith y_Y_add c_Y_add 5 (some .int) [(0, 7, 10, 13), (0, 7, 14, 23)] :: bg) ({ frames := 8, cells := 1, slots := 6, locals := 134 } : Room) (mPy T (fF V) (fU V) K I O [.ref (wa T 84), .int r, .int a, .int b]) (mQy T (fun x9 V' K' I' O' => x9 = nI (ocF (isR r ∧ isR a ∧ isR b) (z (rg a) + z (rg b))) ∧ cQ (zF (ocF (isR r ∧ isR a ∧ isR b) (z (rg a) + z (rg b))) (va_up z (rg r) (z (rg a) + z (rg b))) z) K (K 14) V' K' ∧ I' = I ∧ O' = O)) 1 6 (wA T) := by
  refine yH rfl (Nat.le_of_ble_eq_true rfl) rfl rfl ?_
  intro p e R s m args below meth c Q ls hx hb hC hRf hRl hRc hz9 hn9_ htab hret hl hw
  have hRf : 8 ≤ R.frames := hRf
  have hRl : 134 ≤ R.locals := hRl
  have hl : lv_has ls 5 [(0, .ref (wa T 84)), (1, .int r), (2, .int a), (3, .int b)] := hl
  refine lv_aload_n hx hb d_Y_add_0 rfl (lv_at hl 0 rfl) ?_
  refine lv_iload_n hx hb d_Y_add_1 rfl (lv_at hl 1 rfl) ?_
  refine lv_iload_n hx hb d_Y_add_2 rfl (lv_at hl 2 rfl) ?_
  refine lv_iload_n hx hb d_Y_add_3 rfl (lv_at hl 3 rfl) ?_
  refine yc_v (As := [.int r, .int a, .int b]) hx hb hC hz9 hw (x_L_add l hst9 T V K I O z hc r a b) lk_Y_19 rfl rfl ⟨by show 7 + 1 ≤ R.frames; omega, by show 8 + (4 + 11) + 111 ≤ R.locals; omega⟩ (by omega) (we_Self ) rfl rfl hl.1 rfl (Nat.le_of_ble_eq_true rfl) hRc d_Y_add_4 (fun E9 V9 K9 H9 locs9 ce9 q9 hE9 hP9 hw h91 h92 h93 => ?_) (fun V9 K9 H9 locs9 hP9 hw => ?_)
  · unfold eP at hE9
    simp only [List.mem_cons, List.not_mem_nil, or_false, Prod.mk.injEq] at hE9
    rcases hE9 with ⟨rfl, hoc9⟩ | ⟨rfl, hoc9⟩
    · skip
      refine vx_catch (own := "LimbRegistersLaw") (name := eIX) hC.2.2 [] ⟨0, 7, 10, 13⟩ [⟨0, 7, 14, 23⟩] (htab.trans rfl) (fun z9 hz => nomatch hz) (by decide) (by decide) (hC.hts bw_214) (hz9.word (by decide +kernel)) h91 h92 h93 ?_
      refine lv_astore hx hb d_Y_add_10 hl (by decide) rfl (fun ls hl => ?_)
      have hl : lv_has ls 5 [(4, .ref q9), (0, .ref (wa T 84)), (1, .int r), (2, .int a), (3, .int b)] := hl
      refine lv_iconst (v := nI 1) hx hb d_Y_add_12 (by decide +kernel) ?_
      exact hret _ _ _ _ _ _ _ _ _ (⟨by rw [hoc9], by rw [hoc9, zF_n (by decide)]; exact hP9, rfl, rfl⟩) hw d_Y_add_13
    · skip
      have hpass : ∀ z ∈ ([⟨0, 7, 10, 13⟩] : List ExceptionTableEntry), covers z 4 = false ∨ (z.catchType ≠ 0 ∧ ∃ nm : String, (Cond.classLink "LimbRegistersLaw" z.catchType nm).before args s = true ∧ va_Nc eUO nm s) := by
        intro z9 hz; simp only [List.mem_cons, List.not_mem_nil, or_false] at hz
        subst hz
        · exact Or.inr ⟨by decide, eIX, hC.hts bw_214, hn9_ _ (by decide +kernel) _ (by decide +kernel) (by decide)⟩
      refine vx_catch (own := "LimbRegistersLaw") (name := eUO) hC.2.2 [⟨0, 7, 10, 13⟩] ⟨0, 7, 14, 23⟩ [] (htab.trans rfl) (hpass) (by decide) (by decide) (hC.hts bw_327) (hz9.word (by decide +kernel)) h91 h92 h93 ?_
      refine lv_astore hx hb d_Y_add_14 hl (by decide) rfl (fun ls hl => ?_)
      have hl : lv_has ls 5 [(4, .ref q9), (0, .ref (wa T 84)), (1, .int r), (2, .int a), (3, .int b)] := hl
      refine lv_iconst (v := nI 2) hx hb d_Y_add_16 (by decide +kernel) ?_
      exact hret _ _ _ _ _ _ _ _ _ (⟨by rw [hoc9], by rw [hoc9, zF_n (by decide)]; exact hP9, rfl, rfl⟩) hw d_Y_add_17
  · skip
    refine lv_goto (tgt := 18) hx hb d_Y_add_7 (by decide) ?_
    refine lv_iconst (v := nI 0) hx hb d_Y_add_18 (by decide +kernel) ?_
    exact hret _ _ _ _ _ _ _ _ _ ⟨by rw [hP9.1], by rw [zF_0 hP9.1]; exact hP9.2, rfl, rfl⟩ hw d_Y_add_19
set_option maxRecDepth 100000 in
set_option maxHeartbeats 4000000 in
theorem k_Y_subtract (l : Launch) (hst9 : l.stackTraces = false) (T : wT) (V : Nat → Nat) (K : wUt) (I : wIt) (O : wOt) (z : Nat → Int) (hc : cI z V K) (r a b : Int32) : Met l y_Y_subtract (.codeWith y_Y_subtract c_Y_subtract 5 (some .int) [(0, 7, 10, 13), (0, 7, 14, 23)] :: bg) ({ frames := 8, cells := 1, slots := 6, locals := 134 } : Room) (mPy T (fF V) (fU V) K I O [.ref (wa T 84), .int r, .int a, .int b]) (mQy T (fun x9 V' K' I' O' => x9 = nI (ocF (isR r ∧ isR a ∧ isR b) (z (rg a) + -z (rg b))) ∧ cQ (zF (ocF (isR r ∧ isR a ∧ isR b) (z (rg a) + -z (rg b))) (va_up z (rg r) (z (rg a) + -z (rg b))) z) K (K 14) V' K' ∧ I' = I ∧ O' = O)) 1 6 (wA T) := by
  refine yH rfl (Nat.le_of_ble_eq_true rfl) rfl rfl ?_
  intro p e R s m args below meth c Q ls hx hb hC hRf hRl hRc hz9 hn9_ htab hret hl hw
  have hRf : 8 ≤ R.frames := hRf
  have hRl : 134 ≤ R.locals := hRl
  have hl : lv_has ls 5 [(0, .ref (wa T 84)), (1, .int r), (2, .int a), (3, .int b)] := hl
  refine lv_aload_n hx hb d_Y_subtract_0 rfl (lv_at hl 0 rfl) ?_
  refine lv_iload_n hx hb d_Y_subtract_1 rfl (lv_at hl 1 rfl) ?_
  refine lv_iload_n hx hb d_Y_subtract_2 rfl (lv_at hl 2 rfl) ?_
  refine lv_iload_n hx hb d_Y_subtract_3 rfl (lv_at hl 3 rfl) ?_
  refine yc_v (As := [.int r, .int a, .int b]) hx hb hC hz9 hw (x_L_subtract l hst9 T V K I O z hc r a b) lk_Y_25 rfl rfl ⟨by show 7 + 1 ≤ R.frames; omega, by show 8 + (4 + 11) + 111 ≤ R.locals; omega⟩ (by omega) (we_Self ) rfl rfl hl.1 rfl (Nat.le_of_ble_eq_true rfl) hRc d_Y_subtract_4 (fun E9 V9 K9 H9 locs9 ce9 q9 hE9 hP9 hw h91 h92 h93 => ?_) (fun V9 K9 H9 locs9 hP9 hw => ?_)
  · unfold eP at hE9
    simp only [List.mem_cons, List.not_mem_nil, or_false, Prod.mk.injEq] at hE9
    rcases hE9 with ⟨rfl, hoc9⟩ | ⟨rfl, hoc9⟩
    · skip
      refine vx_catch (own := "LimbRegistersLaw") (name := eIX) hC.2.2 [] ⟨0, 7, 10, 13⟩ [⟨0, 7, 14, 23⟩] (htab.trans rfl) (fun z9 hz => nomatch hz) (by decide) (by decide) (hC.hts bw_214) (hz9.word (by decide +kernel)) h91 h92 h93 ?_
      refine lv_astore hx hb d_Y_subtract_10 hl (by decide) rfl (fun ls hl => ?_)
      have hl : lv_has ls 5 [(4, .ref q9), (0, .ref (wa T 84)), (1, .int r), (2, .int a), (3, .int b)] := hl
      refine lv_iconst (v := nI 1) hx hb d_Y_subtract_12 (by decide +kernel) ?_
      exact hret _ _ _ _ _ _ _ _ _ (⟨by rw [hoc9], by rw [hoc9, zF_n (by decide)]; exact hP9, rfl, rfl⟩) hw d_Y_subtract_13
    · skip
      have hpass : ∀ z ∈ ([⟨0, 7, 10, 13⟩] : List ExceptionTableEntry), covers z 4 = false ∨ (z.catchType ≠ 0 ∧ ∃ nm : String, (Cond.classLink "LimbRegistersLaw" z.catchType nm).before args s = true ∧ va_Nc eUO nm s) := by
        intro z9 hz; simp only [List.mem_cons, List.not_mem_nil, or_false] at hz
        subst hz
        · exact Or.inr ⟨by decide, eIX, hC.hts bw_214, hn9_ _ (by decide +kernel) _ (by decide +kernel) (by decide)⟩
      refine vx_catch (own := "LimbRegistersLaw") (name := eUO) hC.2.2 [⟨0, 7, 10, 13⟩] ⟨0, 7, 14, 23⟩ [] (htab.trans rfl) (hpass) (by decide) (by decide) (hC.hts bw_327) (hz9.word (by decide +kernel)) h91 h92 h93 ?_
      refine lv_astore hx hb d_Y_subtract_14 hl (by decide) rfl (fun ls hl => ?_)
      have hl : lv_has ls 5 [(4, .ref q9), (0, .ref (wa T 84)), (1, .int r), (2, .int a), (3, .int b)] := hl
      refine lv_iconst (v := nI 2) hx hb d_Y_subtract_16 (by decide +kernel) ?_
      exact hret _ _ _ _ _ _ _ _ _ (⟨by rw [hoc9], by rw [hoc9, zF_n (by decide)]; exact hP9, rfl, rfl⟩) hw d_Y_subtract_17
  · skip
    refine lv_goto (tgt := 18) hx hb d_Y_subtract_7 (by decide) ?_
    refine lv_iconst (v := nI 0) hx hb d_Y_subtract_18 (by decide +kernel) ?_
    exact hret _ _ _ _ _ _ _ _ _ ⟨by rw [hP9.1], by rw [zF_0 hP9.1]; exact hP9.2, rfl, rfl⟩ hw d_Y_subtract_19
set_option maxRecDepth 100000 in
set_option maxHeartbeats 4000000 in
theorem k_Y_multiply (l : Launch) (hst9 : l.stackTraces = false) (T : wT) (V : Nat → Nat) (K : wUt) (I : wIt) (O : wOt) (z : Nat → Int) (hc : cI z V K) (r a b : Int32) : Met l y_Y_multiply (.codeWith y_Y_multiply c_Y_multiply 5 (some .int) [(0, 7, 10, 13), (0, 7, 14, 23)] :: bg) ({ frames := 8, cells := 1, slots := 6, locals := 134 } : Room) (mPy T (fF V) (fU V) K I O [.ref (wa T 84), .int r, .int a, .int b]) (mQy T (fun x9 V' K' I' O' => x9 = nI (ocF (isR r ∧ isR a ∧ isR b) (z (rg a) * z (rg b))) ∧ cQ (zF (ocF (isR r ∧ isR a ∧ isR b) (z (rg a) * z (rg b))) (va_up z (rg r) (z (rg a) * z (rg b))) z) K (K 14) V' K' ∧ I' = I ∧ O' = O)) 1 6 (wA T) := by
  refine yH rfl (Nat.le_of_ble_eq_true rfl) rfl rfl ?_
  intro p e R s m args below meth c Q ls hx hb hC hRf hRl hRc hz9 hn9_ htab hret hl hw
  have hRf : 8 ≤ R.frames := hRf
  have hRl : 134 ≤ R.locals := hRl
  have hl : lv_has ls 5 [(0, .ref (wa T 84)), (1, .int r), (2, .int a), (3, .int b)] := hl
  refine lv_aload_n hx hb d_Y_multiply_0 rfl (lv_at hl 0 rfl) ?_
  refine lv_iload_n hx hb d_Y_multiply_1 rfl (lv_at hl 1 rfl) ?_
  refine lv_iload_n hx hb d_Y_multiply_2 rfl (lv_at hl 2 rfl) ?_
  refine lv_iload_n hx hb d_Y_multiply_3 rfl (lv_at hl 3 rfl) ?_
  refine yc_v (As := [.int r, .int a, .int b]) hx hb hC hz9 hw (x_L_multiply l hst9 T V K I O z hc r a b) lk_Y_28 rfl rfl ⟨by show 7 + 1 ≤ R.frames; omega, by show 8 + (4 + 11) + 111 ≤ R.locals; omega⟩ (by omega) (we_Self ) rfl rfl hl.1 rfl (Nat.le_of_ble_eq_true rfl) hRc d_Y_multiply_4 (fun E9 V9 K9 H9 locs9 ce9 q9 hE9 hP9 hw h91 h92 h93 => ?_) (fun V9 K9 H9 locs9 hP9 hw => ?_)
  · unfold eP at hE9
    simp only [List.mem_cons, List.not_mem_nil, or_false, Prod.mk.injEq] at hE9
    rcases hE9 with ⟨rfl, hoc9⟩ | ⟨rfl, hoc9⟩
    · skip
      refine vx_catch (own := "LimbRegistersLaw") (name := eIX) hC.2.2 [] ⟨0, 7, 10, 13⟩ [⟨0, 7, 14, 23⟩] (htab.trans rfl) (fun z9 hz => nomatch hz) (by decide) (by decide) (hC.hts bw_214) (hz9.word (by decide +kernel)) h91 h92 h93 ?_
      refine lv_astore hx hb d_Y_multiply_10 hl (by decide) rfl (fun ls hl => ?_)
      have hl : lv_has ls 5 [(4, .ref q9), (0, .ref (wa T 84)), (1, .int r), (2, .int a), (3, .int b)] := hl
      refine lv_iconst (v := nI 1) hx hb d_Y_multiply_12 (by decide +kernel) ?_
      exact hret _ _ _ _ _ _ _ _ _ (⟨by rw [hoc9], by rw [hoc9, zF_n (by decide)]; exact hP9, rfl, rfl⟩) hw d_Y_multiply_13
    · skip
      have hpass : ∀ z ∈ ([⟨0, 7, 10, 13⟩] : List ExceptionTableEntry), covers z 4 = false ∨ (z.catchType ≠ 0 ∧ ∃ nm : String, (Cond.classLink "LimbRegistersLaw" z.catchType nm).before args s = true ∧ va_Nc eUO nm s) := by
        intro z9 hz; simp only [List.mem_cons, List.not_mem_nil, or_false] at hz
        subst hz
        · exact Or.inr ⟨by decide, eIX, hC.hts bw_214, hn9_ _ (by decide +kernel) _ (by decide +kernel) (by decide)⟩
      refine vx_catch (own := "LimbRegistersLaw") (name := eUO) hC.2.2 [⟨0, 7, 10, 13⟩] ⟨0, 7, 14, 23⟩ [] (htab.trans rfl) (hpass) (by decide) (by decide) (hC.hts bw_327) (hz9.word (by decide +kernel)) h91 h92 h93 ?_
      refine lv_astore hx hb d_Y_multiply_14 hl (by decide) rfl (fun ls hl => ?_)
      have hl : lv_has ls 5 [(4, .ref q9), (0, .ref (wa T 84)), (1, .int r), (2, .int a), (3, .int b)] := hl
      refine lv_iconst (v := nI 2) hx hb d_Y_multiply_16 (by decide +kernel) ?_
      exact hret _ _ _ _ _ _ _ _ _ (⟨by rw [hoc9], by rw [hoc9, zF_n (by decide)]; exact hP9, rfl, rfl⟩) hw d_Y_multiply_17
  · skip
    refine lv_goto (tgt := 18) hx hb d_Y_multiply_7 (by decide) ?_
    refine lv_iconst (v := nI 0) hx hb d_Y_multiply_18 (by decide +kernel) ?_
    exact hret _ _ _ _ _ _ _ _ _ ⟨by rw [hP9.1], by rw [zF_0 hP9.1]; exact hP9.2, rfl, rfl⟩ hw d_Y_multiply_19
set_option maxRecDepth 100000 in
set_option maxHeartbeats 4000000 in
theorem k_Y_divide (l : Launch) (hst9 : l.stackTraces = false) (T : wT) (V : Nat → Nat) (K : wUt) (I : wIt) (O : wOt) (z : Nat → Int) (hc : cI z V K) (q r a b : Int32) (dn : Bool) : Met l y_Y_divide (.codeWith y_Y_divide c_Y_divide 7 (some .int) [(0, 11, 14, 13), (0, 11, 18, 35), (0, 11, 22, 37)] :: bg) ({ frames := 8, cells := 1, slots := 6, locals := 138 } : Room) (mPy T (fF V) (fU V) K I O [.ref (wa T 84), .int q, .int r, .int a, .int b, .int (bI dn)]) (mQy T (fun x9 V' K' I' O' => x9 = nI (ocG (isR q ∧ isR r ∧ isR a ∧ isR b) (dvC q r (z (rg b)))) ∧ cQ (zF (ocG (isR q ∧ isR r ∧ isR a ∧ isR b) (dvC q r (z (rg b)))) (va_up (va_up z (rg q) (dvQ dn (z (rg a)) (z (rg b)))) (rg r) (dvR dn (z (rg a)) (z (rg b)))) z) K (K 14) V' K' ∧ I' = I ∧ O' = O)) 1 6 (wA T) := by
  refine yH rfl (Nat.le_of_ble_eq_true rfl) rfl rfl ?_
  intro p e R s m args below meth c Q ls hx hb hC hRf hRl hRc hz9 hn9_ htab hret hl hw
  have hRf : 8 ≤ R.frames := hRf
  have hRl : 138 ≤ R.locals := hRl
  have hl : lv_has ls 7 [(0, .ref (wa T 84)), (1, .int q), (2, .int r), (3, .int a), (4, .int b), (5, .int (bI dn))] := hl
  refine lv_aload_n hx hb d_Y_divide_0 rfl (lv_at hl 0 rfl) ?_
  refine lv_iload_n hx hb d_Y_divide_1 rfl (lv_at hl 1 rfl) ?_
  refine lv_iload_n hx hb d_Y_divide_2 rfl (lv_at hl 2 rfl) ?_
  refine lv_iload_n hx hb d_Y_divide_3 rfl (lv_at hl 3 rfl) ?_
  refine lv_iload hx hb d_Y_divide_4 (lv_at hl 4 rfl) ?_
  refine lv_iload hx hb d_Y_divide_6 (lv_at hl 5 rfl) ?_
  refine yc_v (As := [.int q, .int r, .int a, .int b, .int (bI dn)]) hx hb hC hz9 hw (x_L_divide l hst9 T V K I O z hc q r a b dn) lk_Y_31 rfl rfl ⟨by show 7 + 1 ≤ R.frames; omega, by show 8 + (9 + 11) + 110 ≤ R.locals; omega⟩ (by omega) (we_Self ) rfl rfl hl.1 rfl (Nat.le_of_ble_eq_true rfl) hRc d_Y_divide_8 (fun E9 V9 K9 H9 locs9 ce9 q9 hE9 hP9 hw h91 h92 h93 => ?_) (fun V9 K9 H9 locs9 hP9 hw => ?_)
  · unfold eP at hE9
    simp only [List.mem_cons, List.not_mem_nil, or_false, Prod.mk.injEq] at hE9
    rcases hE9 with ⟨rfl, hoc9⟩ | ⟨rfl, hoc9⟩ | ⟨rfl, hoc9⟩
    · skip
      refine vx_catch (own := "LimbRegistersLaw") (name := eIX) hC.2.2 [] ⟨0, 11, 14, 13⟩ [⟨0, 11, 18, 35⟩, ⟨0, 11, 22, 37⟩] (htab.trans rfl) (fun z9 hz => nomatch hz) (by decide) (by decide) (hC.hts bw_214) (hz9.word (by decide +kernel)) h91 h92 h93 ?_
      refine lv_astore hx hb d_Y_divide_14 hl (by decide) rfl (fun ls hl => ?_)
      have hl : lv_has ls 7 [(6, .ref q9), (0, .ref (wa T 84)), (1, .int q), (2, .int r), (3, .int a), (4, .int b), (5, .int (bI dn))] := hl
      refine lv_iconst (v := nI 1) hx hb d_Y_divide_16 (by decide +kernel) ?_
      exact hret _ _ _ _ _ _ _ _ _ (⟨by rw [hoc9], by rw [hoc9, zF_n (by decide)]; exact hP9, rfl, rfl⟩) hw d_Y_divide_17
    · skip
      have hpass : ∀ z ∈ ([⟨0, 11, 14, 13⟩] : List ExceptionTableEntry), covers z 8 = false ∨ (z.catchType ≠ 0 ∧ ∃ nm : String, (Cond.classLink "LimbRegistersLaw" z.catchType nm).before args s = true ∧ va_Nc eIA nm s) := by
        intro z9 hz; simp only [List.mem_cons, List.not_mem_nil, or_false] at hz
        subst hz
        · exact Or.inr ⟨by decide, eIX, hC.hts bw_214, hn9_ _ (by decide +kernel) _ (by decide +kernel) (by decide)⟩
      refine vx_catch (own := "LimbRegistersLaw") (name := eIA) hC.2.2 [⟨0, 11, 14, 13⟩] ⟨0, 11, 18, 35⟩ [⟨0, 11, 22, 37⟩] (htab.trans rfl) (hpass) (by decide) (by decide) (hC.hts bw_423) (hz9.word (by decide +kernel)) h91 h92 h93 ?_
      refine lv_astore hx hb d_Y_divide_18 hl (by decide) rfl (fun ls hl => ?_)
      have hl : lv_has ls 7 [(6, .ref q9), (0, .ref (wa T 84)), (1, .int q), (2, .int r), (3, .int a), (4, .int b), (5, .int (bI dn))] := hl
      refine lv_iconst (v := nI 2) hx hb d_Y_divide_20 (by decide +kernel) ?_
      exact hret _ _ _ _ _ _ _ _ _ (⟨by rw [hoc9], by rw [hoc9, zF_n (by decide)]; exact hP9, rfl, rfl⟩) hw d_Y_divide_21
    · skip
      have hpass : ∀ z ∈ ([⟨0, 11, 14, 13⟩, ⟨0, 11, 18, 35⟩] : List ExceptionTableEntry), covers z 8 = false ∨ (z.catchType ≠ 0 ∧ ∃ nm : String, (Cond.classLink "LimbRegistersLaw" z.catchType nm).before args s = true ∧ va_Nc eAR nm s) := by
        intro z9 hz; simp only [List.mem_cons, List.not_mem_nil, or_false] at hz
        rcases hz with rfl | rfl
        · exact Or.inr ⟨by decide, eIX, hC.hts bw_214, hn9_ _ (by decide +kernel) _ (by decide +kernel) (by decide)⟩
        · exact Or.inr ⟨by decide, eIA, hC.hts bw_423, hn9_ _ (by decide +kernel) _ (by decide +kernel) (by decide)⟩
      refine vx_catch (own := "LimbRegistersLaw") (name := eAR) hC.2.2 [⟨0, 11, 14, 13⟩, ⟨0, 11, 18, 35⟩] ⟨0, 11, 22, 37⟩ [] (htab.trans rfl) (hpass) (by decide) (by decide) (hC.hts bw_424) (hz9.word (by decide +kernel)) h91 h92 h93 ?_
      refine lv_astore hx hb d_Y_divide_22 hl (by decide) rfl (fun ls hl => ?_)
      have hl : lv_has ls 7 [(6, .ref q9), (0, .ref (wa T 84)), (1, .int q), (2, .int r), (3, .int a), (4, .int b), (5, .int (bI dn))] := hl
      refine lv_iconst (v := nI 3) hx hb d_Y_divide_24 (by decide +kernel) ?_
      exact hret _ _ _ _ _ _ _ _ _ (⟨by rw [hoc9], by rw [hoc9, zF_n (by decide)]; exact hP9, rfl, rfl⟩) hw d_Y_divide_25
  · skip
    refine lv_goto (tgt := 26) hx hb d_Y_divide_11 (by decide) ?_
    refine lv_iconst (v := nI 0) hx hb d_Y_divide_26 (by decide +kernel) ?_
    exact hret _ _ _ _ _ _ _ _ _ ⟨by rw [hP9.1], by rw [zF_0 hP9.1]; exact hP9.2, rfl, rfl⟩ hw d_Y_divide_27
set_option maxRecDepth 100000 in
set_option maxHeartbeats 4000000 in
theorem k_Y_shift (l : Launch) (hst9 : l.stackTraces = false) (T : wT) (V : Nat → Nat) (K : wUt) (I : wIt) (O : wOt) (z : Nat → Int) (hc : cI z V K) (r a n : Int32) : Met l y_Y_shift (.codeWith y_Y_shift c_Y_shift 5 (some .int) [(0, 7, 10, 13), (0, 7, 14, 23)] :: bg) ({ frames := 8, cells := 1, slots := 6, locals := 135 } : Room) (mPy T (fF V) (fU V) K I O [.ref (wa T 84), .int r, .int a, .int n]) (mQy T (fun x9 V' K' I' O' => x9 = nI (ocG (isR r ∧ isR a) (shC (z (rg a)) n.toInt)) ∧ cQ (zF (ocG (isR r ∧ isR a) (shC (z (rg a)) n.toInt)) (va_up z (rg r) (shW (z (rg a)) n.toInt)) z) K (K 14) V' K' ∧ I' = I ∧ O' = O)) 1 6 (wA T) := by
  refine yH rfl (Nat.le_of_ble_eq_true rfl) rfl rfl ?_
  intro p e R s m args below meth c Q ls hx hb hC hRf hRl hRc hz9 hn9_ htab hret hl hw
  have hRf : 8 ≤ R.frames := hRf
  have hRl : 135 ≤ R.locals := hRl
  have hl : lv_has ls 5 [(0, .ref (wa T 84)), (1, .int r), (2, .int a), (3, .int n)] := hl
  refine lv_aload_n hx hb d_Y_shift_0 rfl (lv_at hl 0 rfl) ?_
  refine lv_iload_n hx hb d_Y_shift_1 rfl (lv_at hl 1 rfl) ?_
  refine lv_iload_n hx hb d_Y_shift_2 rfl (lv_at hl 2 rfl) ?_
  refine lv_iload_n hx hb d_Y_shift_3 rfl (lv_at hl 3 rfl) ?_
  refine yc_v (As := [.int r, .int a, .int n]) hx hb hC hz9 hw (x_L_shift l hst9 T V K I O z hc r a n) lk_Y_39 rfl rfl ⟨by show 7 + 1 ≤ R.frames; omega, by show 8 + (5 + 11) + 111 ≤ R.locals; omega⟩ (by omega) (we_Self ) rfl rfl hl.1 rfl (Nat.le_of_ble_eq_true rfl) hRc d_Y_shift_4 (fun E9 V9 K9 H9 locs9 ce9 q9 hE9 hP9 hw h91 h92 h93 => ?_) (fun V9 K9 H9 locs9 hP9 hw => ?_)
  · unfold eP at hE9
    simp only [List.mem_cons, List.not_mem_nil, or_false, Prod.mk.injEq] at hE9
    rcases hE9 with ⟨rfl, hoc9⟩ | ⟨rfl, hoc9⟩
    · skip
      refine vx_catch (own := "LimbRegistersLaw") (name := eIX) hC.2.2 [] ⟨0, 7, 10, 13⟩ [⟨0, 7, 14, 23⟩] (htab.trans rfl) (fun z9 hz => nomatch hz) (by decide) (by decide) (hC.hts bw_214) (hz9.word (by decide +kernel)) h91 h92 h93 ?_
      refine lv_astore hx hb d_Y_shift_10 hl (by decide) rfl (fun ls hl => ?_)
      have hl : lv_has ls 5 [(4, .ref q9), (0, .ref (wa T 84)), (1, .int r), (2, .int a), (3, .int n)] := hl
      refine lv_iconst (v := nI 1) hx hb d_Y_shift_12 (by decide +kernel) ?_
      exact hret _ _ _ _ _ _ _ _ _ (⟨by rw [hoc9], by rw [hoc9, zF_n (by decide)]; exact hP9, rfl, rfl⟩) hw d_Y_shift_13
    · skip
      have hpass : ∀ z ∈ ([⟨0, 7, 10, 13⟩] : List ExceptionTableEntry), covers z 4 = false ∨ (z.catchType ≠ 0 ∧ ∃ nm : String, (Cond.classLink "LimbRegistersLaw" z.catchType nm).before args s = true ∧ va_Nc eUO nm s) := by
        intro z9 hz; simp only [List.mem_cons, List.not_mem_nil, or_false] at hz
        subst hz
        · exact Or.inr ⟨by decide, eIX, hC.hts bw_214, hn9_ _ (by decide +kernel) _ (by decide +kernel) (by decide)⟩
      refine vx_catch (own := "LimbRegistersLaw") (name := eUO) hC.2.2 [⟨0, 7, 10, 13⟩] ⟨0, 7, 14, 23⟩ [] (htab.trans rfl) (hpass) (by decide) (by decide) (hC.hts bw_327) (hz9.word (by decide +kernel)) h91 h92 h93 ?_
      refine lv_astore hx hb d_Y_shift_14 hl (by decide) rfl (fun ls hl => ?_)
      have hl : lv_has ls 5 [(4, .ref q9), (0, .ref (wa T 84)), (1, .int r), (2, .int a), (3, .int n)] := hl
      refine lv_iconst (v := nI 2) hx hb d_Y_shift_16 (by decide +kernel) ?_
      exact hret _ _ _ _ _ _ _ _ _ (⟨by rw [hoc9], by rw [hoc9, zF_n (by decide)]; exact hP9, rfl, rfl⟩) hw d_Y_shift_17
  · skip
    refine lv_goto (tgt := 18) hx hb d_Y_shift_7 (by decide) ?_
    refine lv_iconst (v := nI 0) hx hb d_Y_shift_18 (by decide +kernel) ?_
    exact hret _ _ _ _ _ _ _ _ _ ⟨by rw [hP9.1], by rw [zF_0 hP9.1]; exact hP9.2, rfl, rfl⟩ hw d_Y_shift_19
set_option maxRecDepth 100000 in
set_option maxHeartbeats 4000000 in
theorem k_Y_root (l : Launch) (hst9 : l.stackTraces = false) (T : wT) (V : Nat → Nat) (K : wUt) (I : wIt) (O : wOt) (z : Nat → Int) (hc : cI z V K) (r a k : Int32) : Met l y_Y_root (.codeWith y_Y_root c_Y_root 5 (some .int) [(0, 7, 10, 13), (0, 7, 14, 35), (0, 7, 18, 37)] :: bg) ({ frames := 8, cells := 1, slots := 6, locals := 139 } : Room) (mPy T (fF V) (fU V) K I O [.ref (wa T 84), .int r, .int a, .int k]) (mQy T (fun x9 V' K' I' O' => x9 = nI (ocG (isR r ∧ isR a) (rtC k (z (rg a)))) ∧ cQ (zF (ocG (isR r ∧ isR a) (rtC k (z (rg a)))) (va_up z (rg r) ((rtN (z (rg a)).natAbs (rg k) : Nat) : Int)) z) K (K 14) V' K' ∧ I' = I ∧ O' = O)) 1 6 (wA T) := by
  refine yH rfl (Nat.le_of_ble_eq_true rfl) rfl rfl ?_
  intro p e R s m args below meth c Q ls hx hb hC hRf hRl hRc hz9 hn9_ htab hret hl hw
  have hRf : 8 ≤ R.frames := hRf
  have hRl : 139 ≤ R.locals := hRl
  have hl : lv_has ls 5 [(0, .ref (wa T 84)), (1, .int r), (2, .int a), (3, .int k)] := hl
  refine lv_aload_n hx hb d_Y_root_0 rfl (lv_at hl 0 rfl) ?_
  refine lv_iload_n hx hb d_Y_root_1 rfl (lv_at hl 1 rfl) ?_
  refine lv_iload_n hx hb d_Y_root_2 rfl (lv_at hl 2 rfl) ?_
  refine lv_iload_n hx hb d_Y_root_3 rfl (lv_at hl 3 rfl) ?_
  refine yc_v (As := [.int r, .int a, .int k]) hx hb hC hz9 hw (x_L_root l hst9 T V K I O z hc r a k) lk_Y_42 rfl rfl ⟨by show 7 + 1 ≤ R.frames; omega, by show 8 + (4 + 11) + 116 ≤ R.locals; omega⟩ (by omega) (we_Self ) rfl rfl hl.1 rfl (Nat.le_of_ble_eq_true rfl) hRc d_Y_root_4 (fun E9 V9 K9 H9 locs9 ce9 q9 hE9 hP9 hw h91 h92 h93 => ?_) (fun V9 K9 H9 locs9 hP9 hw => ?_)
  · unfold eP at hE9
    simp only [List.mem_cons, List.not_mem_nil, or_false, Prod.mk.injEq] at hE9
    rcases hE9 with ⟨rfl, hoc9⟩ | ⟨rfl, hoc9⟩ | ⟨rfl, hoc9⟩
    · skip
      refine vx_catch (own := "LimbRegistersLaw") (name := eIX) hC.2.2 [] ⟨0, 7, 10, 13⟩ [⟨0, 7, 14, 35⟩, ⟨0, 7, 18, 37⟩] (htab.trans rfl) (fun z9 hz => nomatch hz) (by decide) (by decide) (hC.hts bw_214) (hz9.word (by decide +kernel)) h91 h92 h93 ?_
      refine lv_astore hx hb d_Y_root_10 hl (by decide) rfl (fun ls hl => ?_)
      have hl : lv_has ls 5 [(4, .ref q9), (0, .ref (wa T 84)), (1, .int r), (2, .int a), (3, .int k)] := hl
      refine lv_iconst (v := nI 1) hx hb d_Y_root_12 (by decide +kernel) ?_
      exact hret _ _ _ _ _ _ _ _ _ (⟨by rw [hoc9], by rw [hoc9, zF_n (by decide)]; exact hP9, rfl, rfl⟩) hw d_Y_root_13
    · skip
      have hpass : ∀ z ∈ ([⟨0, 7, 10, 13⟩] : List ExceptionTableEntry), covers z 4 = false ∨ (z.catchType ≠ 0 ∧ ∃ nm : String, (Cond.classLink "LimbRegistersLaw" z.catchType nm).before args s = true ∧ va_Nc eIA nm s) := by
        intro z9 hz; simp only [List.mem_cons, List.not_mem_nil, or_false] at hz
        subst hz
        · exact Or.inr ⟨by decide, eIX, hC.hts bw_214, hn9_ _ (by decide +kernel) _ (by decide +kernel) (by decide)⟩
      refine vx_catch (own := "LimbRegistersLaw") (name := eIA) hC.2.2 [⟨0, 7, 10, 13⟩] ⟨0, 7, 14, 35⟩ [⟨0, 7, 18, 37⟩] (htab.trans rfl) (hpass) (by decide) (by decide) (hC.hts bw_423) (hz9.word (by decide +kernel)) h91 h92 h93 ?_
      refine lv_astore hx hb d_Y_root_14 hl (by decide) rfl (fun ls hl => ?_)
      have hl : lv_has ls 5 [(4, .ref q9), (0, .ref (wa T 84)), (1, .int r), (2, .int a), (3, .int k)] := hl
      refine lv_iconst (v := nI 2) hx hb d_Y_root_16 (by decide +kernel) ?_
      exact hret _ _ _ _ _ _ _ _ _ (⟨by rw [hoc9], by rw [hoc9, zF_n (by decide)]; exact hP9, rfl, rfl⟩) hw d_Y_root_17
    · skip
      have hpass : ∀ z ∈ ([⟨0, 7, 10, 13⟩, ⟨0, 7, 14, 35⟩] : List ExceptionTableEntry), covers z 4 = false ∨ (z.catchType ≠ 0 ∧ ∃ nm : String, (Cond.classLink "LimbRegistersLaw" z.catchType nm).before args s = true ∧ va_Nc eAR nm s) := by
        intro z9 hz; simp only [List.mem_cons, List.not_mem_nil, or_false] at hz
        rcases hz with rfl | rfl
        · exact Or.inr ⟨by decide, eIX, hC.hts bw_214, hn9_ _ (by decide +kernel) _ (by decide +kernel) (by decide)⟩
        · exact Or.inr ⟨by decide, eIA, hC.hts bw_423, hn9_ _ (by decide +kernel) _ (by decide +kernel) (by decide)⟩
      refine vx_catch (own := "LimbRegistersLaw") (name := eAR) hC.2.2 [⟨0, 7, 10, 13⟩, ⟨0, 7, 14, 35⟩] ⟨0, 7, 18, 37⟩ [] (htab.trans rfl) (hpass) (by decide) (by decide) (hC.hts bw_424) (hz9.word (by decide +kernel)) h91 h92 h93 ?_
      refine lv_astore hx hb d_Y_root_18 hl (by decide) rfl (fun ls hl => ?_)
      have hl : lv_has ls 5 [(4, .ref q9), (0, .ref (wa T 84)), (1, .int r), (2, .int a), (3, .int k)] := hl
      refine lv_iconst (v := nI 3) hx hb d_Y_root_20 (by decide +kernel) ?_
      exact hret _ _ _ _ _ _ _ _ _ (⟨by rw [hoc9], by rw [hoc9, zF_n (by decide)]; exact hP9, rfl, rfl⟩) hw d_Y_root_21
  · skip
    refine lv_goto (tgt := 22) hx hb d_Y_root_7 (by decide) ?_
    refine lv_iconst (v := nI 0) hx hb d_Y_root_22 (by decide +kernel) ?_
    exact hret _ _ _ _ _ _ _ _ _ ⟨by rw [hP9.1], by rw [zF_0 hP9.1]; exact hP9.2, rfl, rfl⟩ hw d_Y_root_23
set_option maxRecDepth 100000 in
set_option maxHeartbeats 4000000 in
theorem k_Y_gcd (l : Launch) (hst9 : l.stackTraces = false) (T : wT) (V : Nat → Nat) (K : wUt) (I : wIt) (O : wOt) (z : Nat → Int) (hc : cI z V K) (r a b : Int32) : Met l y_Y_gcd (.codeWith y_Y_gcd c_Y_gcd 5 (some .int) [(0, 7, 10, 13)] :: bg) ({ frames := 8, cells := 1, slots := 6, locals := 151 } : Room) (mPy T (fF V) (fU V) K I O [.ref (wa T 84), .int r, .int a, .int b]) (mQy T (fun x9 V' K' I' O' => x9 = nI (ocG (isR r ∧ isR a ∧ isR b) 0) ∧ cQ (zF (ocG (isR r ∧ isR a ∧ isR b) 0) (va_up z (rg r) ((Nat.gcd (z (rg a)).natAbs (z (rg b)).natAbs : Nat) : Int)) z) K (K 14) V' K' ∧ I' = I ∧ O' = O)) 1 6 (wA T) := by
  refine yH rfl (Nat.le_of_ble_eq_true rfl) rfl rfl ?_
  intro p e R s m args below meth c Q ls hx hb hC hRf hRl hRc hz9 hn9_ htab hret hl hw
  have hRf : 8 ≤ R.frames := hRf
  have hRl : 151 ≤ R.locals := hRl
  have hl : lv_has ls 5 [(0, .ref (wa T 84)), (1, .int r), (2, .int a), (3, .int b)] := hl
  refine lv_aload_n hx hb d_Y_gcd_0 rfl (lv_at hl 0 rfl) ?_
  refine lv_iload_n hx hb d_Y_gcd_1 rfl (lv_at hl 1 rfl) ?_
  refine lv_iload_n hx hb d_Y_gcd_2 rfl (lv_at hl 2 rfl) ?_
  refine lv_iload_n hx hb d_Y_gcd_3 rfl (lv_at hl 3 rfl) ?_
  refine yc_v (As := [.int r, .int a, .int b]) hx hb hC hz9 hw (x_L_gcd l hst9 T V K I O z hc r a b) lk_Y_45 rfl rfl ⟨by show 7 + 1 ≤ R.frames; omega, by show 8 + (4 + 11) + 128 ≤ R.locals; omega⟩ (by omega) (we_Self ) rfl rfl hl.1 rfl (Nat.le_of_ble_eq_true rfl) hRc d_Y_gcd_4 (fun E9 V9 K9 H9 locs9 ce9 q9 hE9 hP9 hw h91 h92 h93 => ?_) (fun V9 K9 H9 locs9 hP9 hw => ?_)
  · unfold eP at hE9
    simp only [List.mem_cons, List.not_mem_nil, or_false, Prod.mk.injEq] at hE9
    obtain ⟨rfl, hoc9⟩ := hE9
    refine vx_catch (own := "LimbRegistersLaw") (name := eIX) hC.2.2 [] ⟨0, 7, 10, 13⟩ [] (htab.trans rfl) (fun z9 hz => nomatch hz) (by decide) (by decide) (hC.hts bw_214) (hz9.word (by decide +kernel)) h91 h92 h93 ?_
    refine lv_astore hx hb d_Y_gcd_10 hl (by decide) rfl (fun ls hl => ?_)
    have hl : lv_has ls 5 [(4, .ref q9), (0, .ref (wa T 84)), (1, .int r), (2, .int a), (3, .int b)] := hl
    refine lv_iconst (v := nI 1) hx hb d_Y_gcd_12 (by decide +kernel) ?_
    exact hret _ _ _ _ _ _ _ _ _ (⟨by rw [hoc9], by rw [hoc9, zF_n (by decide)]; exact hP9, rfl, rfl⟩) hw d_Y_gcd_13
  · skip
    refine lv_goto (tgt := 14) hx hb d_Y_gcd_7 (by decide) ?_
    refine lv_iconst (v := nI 0) hx hb d_Y_gcd_14 (by decide +kernel) ?_
    exact hret _ _ _ _ _ _ _ _ _ ⟨by rw [hP9.1], by rw [zF_0 hP9.1]; exact hP9.2, rfl, rfl⟩ hw d_Y_gcd_15
set_option maxRecDepth 100000 in
set_option maxHeartbeats 4000000 in
theorem k_Y_power (l : Launch) (hst9 : l.stackTraces = false) (T : wT) (V : Nat → Nat) (K : wUt) (I : wIt) (O : wOt) (z : Nat → Int) (hc : cI z V K) (r a b mo : Int32) : Met l y_Y_power (.codeWith y_Y_power c_Y_power 6 (some .int) [(0, 9, 12, 13), (0, 9, 16, 37)] :: bg) ({ frames := 8, cells := 1, slots := 6, locals := 175 } : Room) (mPy T (fF V) (fU V) K I O [.ref (wa T 84), .int r, .int a, .int b, .int mo]) (mQy T (fun x9 V' K' I' O' => x9 = nI (ocG (isR r ∧ isR a ∧ isR b ∧ isR mo) (pwC (z (rg b)) (z (rg mo)))) ∧ cQ (zF (ocG (isR r ∧ isR a ∧ isR b ∧ isR mo) (pwC (z (rg b)) (z (rg mo)))) (va_up z (rg r) ((pwW (z (rg a)) (z (rg b)) (z (rg mo)) : Nat) : Int)) z) K (K 14) V' K' ∧ I' = I ∧ O' = O)) 1 6 (wA T) := by
  refine yH rfl (Nat.le_of_ble_eq_true rfl) rfl rfl ?_
  intro p e R s m args below meth c Q ls hx hb hC hRf hRl hRc hz9 hn9_ htab hret hl hw
  have hRf : 8 ≤ R.frames := hRf
  have hRl : 175 ≤ R.locals := hRl
  have hl : lv_has ls 6 [(0, .ref (wa T 84)), (1, .int r), (2, .int a), (3, .int b), (4, .int mo)] := hl
  refine lv_aload_n hx hb d_Y_power_0 rfl (lv_at hl 0 rfl) ?_
  refine lv_iload_n hx hb d_Y_power_1 rfl (lv_at hl 1 rfl) ?_
  refine lv_iload_n hx hb d_Y_power_2 rfl (lv_at hl 2 rfl) ?_
  refine lv_iload_n hx hb d_Y_power_3 rfl (lv_at hl 3 rfl) ?_
  refine lv_iload hx hb d_Y_power_4 (lv_at hl 4 rfl) ?_
  refine yc_v (As := [.int r, .int a, .int b, .int mo]) hx hb hC hz9 hw (x_L_power l hst9 T V K I O z hc r a b mo) lk_Y_48 rfl rfl ⟨by show 7 + 1 ≤ R.frames; omega, by show 8 + (5 + 11) + 151 ≤ R.locals; omega⟩ (by omega) (we_Self ) rfl rfl hl.1 rfl (Nat.le_of_ble_eq_true rfl) hRc d_Y_power_6 (fun E9 V9 K9 H9 locs9 ce9 q9 hE9 hP9 hw h91 h92 h93 => ?_) (fun V9 K9 H9 locs9 hP9 hw => ?_)
  · unfold eP at hE9
    simp only [List.mem_cons, List.not_mem_nil, or_false, Prod.mk.injEq] at hE9
    rcases hE9 with ⟨rfl, hoc9⟩ | ⟨rfl, hoc9⟩
    · skip
      refine vx_catch (own := "LimbRegistersLaw") (name := eIX) hC.2.2 [] ⟨0, 9, 12, 13⟩ [⟨0, 9, 16, 37⟩] (htab.trans rfl) (fun z9 hz => nomatch hz) (by decide) (by decide) (hC.hts bw_214) (hz9.word (by decide +kernel)) h91 h92 h93 ?_
      refine lv_astore hx hb d_Y_power_12 hl (by decide) rfl (fun ls hl => ?_)
      have hl : lv_has ls 6 [(5, .ref q9), (0, .ref (wa T 84)), (1, .int r), (2, .int a), (3, .int b), (4, .int mo)] := hl
      refine lv_iconst (v := nI 1) hx hb d_Y_power_14 (by decide +kernel) ?_
      exact hret _ _ _ _ _ _ _ _ _ (⟨by rw [hoc9], by rw [hoc9, zF_n (by decide)]; exact hP9, rfl, rfl⟩) hw d_Y_power_15
    · skip
      have hpass : ∀ z ∈ ([⟨0, 9, 12, 13⟩] : List ExceptionTableEntry), covers z 6 = false ∨ (z.catchType ≠ 0 ∧ ∃ nm : String, (Cond.classLink "LimbRegistersLaw" z.catchType nm).before args s = true ∧ va_Nc eAR nm s) := by
        intro z9 hz; simp only [List.mem_cons, List.not_mem_nil, or_false] at hz
        subst hz
        · exact Or.inr ⟨by decide, eIX, hC.hts bw_214, hn9_ _ (by decide +kernel) _ (by decide +kernel) (by decide)⟩
      refine vx_catch (own := "LimbRegistersLaw") (name := eAR) hC.2.2 [⟨0, 9, 12, 13⟩] ⟨0, 9, 16, 37⟩ [] (htab.trans rfl) (hpass) (by decide) (by decide) (hC.hts bw_424) (hz9.word (by decide +kernel)) h91 h92 h93 ?_
      refine lv_astore hx hb d_Y_power_16 hl (by decide) rfl (fun ls hl => ?_)
      have hl : lv_has ls 6 [(5, .ref q9), (0, .ref (wa T 84)), (1, .int r), (2, .int a), (3, .int b), (4, .int mo)] := hl
      refine lv_iconst (v := nI 2) hx hb d_Y_power_18 (by decide +kernel) ?_
      exact hret _ _ _ _ _ _ _ _ _ (⟨by rw [hoc9], by rw [hoc9, zF_n (by decide)]; exact hP9, rfl, rfl⟩) hw d_Y_power_19
  · skip
    refine lv_goto (tgt := 20) hx hb d_Y_power_9 (by decide) ?_
    refine lv_iconst (v := nI 0) hx hb d_Y_power_20 (by decide +kernel) ?_
    exact hret _ _ _ _ _ _ _ _ _ ⟨by rw [hP9.1], by rw [zF_0 hP9.1]; exact hP9.2, rfl, rfl⟩ hw d_Y_power_21
set_option maxRecDepth 100000 in
set_option maxHeartbeats 4000000 in
theorem k_Y_inverse (l : Launch) (hst9 : l.stackTraces = false) (T : wT) (V : Nat → Nat) (K : wUt) (I : wIt) (O : wOt) (z : Nat → Int) (hc : cI z V K) (r a mo : Int32) : Met l y_Y_inverse (.codeWith y_Y_inverse c_Y_inverse 5 (some .int) [(0, 7, 10, 13), (0, 7, 14, 37), (0, 7, 18, 55)] :: bg) ({ frames := 8, cells := 1, slots := 6, locals := 151 } : Room) (mPy T (fF V) (fU V) K I O [.ref (wa T 84), .int r, .int a, .int mo]) (mQy T (fun x9 V' K' I' O' => x9 = nI (ocG (isR r ∧ isR a ∧ isR mo) (ivC (z (rg a)) (z (rg mo)))) ∧ cQ (zF (ocG (isR r ∧ isR a ∧ isR mo) (ivC (z (rg a)) (z (rg mo)))) (va_up z (rg r) ((ivW (z (rg a)) (z (rg mo)) : Nat) : Int)) z) K (K 14) V' K' ∧ I' = I ∧ O' = O)) 1 6 (wA T) := by
  refine yH rfl (Nat.le_of_ble_eq_true rfl) rfl rfl ?_
  intro p e R s m args below meth c Q ls hx hb hC hRf hRl hRc hz9 hn9_ htab hret hl hw
  have hRf : 8 ≤ R.frames := hRf
  have hRl : 151 ≤ R.locals := hRl
  have hl : lv_has ls 5 [(0, .ref (wa T 84)), (1, .int r), (2, .int a), (3, .int mo)] := hl
  refine lv_aload_n hx hb d_Y_inverse_0 rfl (lv_at hl 0 rfl) ?_
  refine lv_iload_n hx hb d_Y_inverse_1 rfl (lv_at hl 1 rfl) ?_
  refine lv_iload_n hx hb d_Y_inverse_2 rfl (lv_at hl 2 rfl) ?_
  refine lv_iload_n hx hb d_Y_inverse_3 rfl (lv_at hl 3 rfl) ?_
  refine yc_v (As := [.int r, .int a, .int mo]) hx hb hC hz9 hw (x_L_inverse l hst9 T V K I O z hc r a mo) lk_Y_52 rfl rfl ⟨by show 7 + 1 ≤ R.frames; omega, by show 8 + (4 + 11) + 128 ≤ R.locals; omega⟩ (by omega) (we_Self ) rfl rfl hl.1 rfl (Nat.le_of_ble_eq_true rfl) hRc d_Y_inverse_4 (fun E9 V9 K9 H9 locs9 ce9 q9 hE9 hP9 hw h91 h92 h93 => ?_) (fun V9 K9 H9 locs9 hP9 hw => ?_)
  · unfold eP at hE9
    simp only [List.mem_cons, List.not_mem_nil, or_false, Prod.mk.injEq] at hE9
    rcases hE9 with ⟨rfl, hoc9⟩ | ⟨rfl, hoc9⟩ | ⟨rfl, hoc9⟩
    · skip
      refine vx_catch (own := "LimbRegistersLaw") (name := eIX) hC.2.2 [] ⟨0, 7, 10, 13⟩ [⟨0, 7, 14, 37⟩, ⟨0, 7, 18, 55⟩] (htab.trans rfl) (fun z9 hz => nomatch hz) (by decide) (by decide) (hC.hts bw_214) (hz9.word (by decide +kernel)) h91 h92 h93 ?_
      refine lv_astore hx hb d_Y_inverse_10 hl (by decide) rfl (fun ls hl => ?_)
      have hl : lv_has ls 5 [(4, .ref q9), (0, .ref (wa T 84)), (1, .int r), (2, .int a), (3, .int mo)] := hl
      refine lv_iconst (v := nI 1) hx hb d_Y_inverse_12 (by decide +kernel) ?_
      exact hret _ _ _ _ _ _ _ _ _ (⟨by rw [hoc9], by rw [hoc9, zF_n (by decide)]; exact hP9, rfl, rfl⟩) hw d_Y_inverse_13
    · skip
      have hpass : ∀ z ∈ ([⟨0, 7, 10, 13⟩] : List ExceptionTableEntry), covers z 4 = false ∨ (z.catchType ≠ 0 ∧ ∃ nm : String, (Cond.classLink "LimbRegistersLaw" z.catchType nm).before args s = true ∧ va_Nc eAR nm s) := by
        intro z9 hz; simp only [List.mem_cons, List.not_mem_nil, or_false] at hz
        subst hz
        · exact Or.inr ⟨by decide, eIX, hC.hts bw_214, hn9_ _ (by decide +kernel) _ (by decide +kernel) (by decide)⟩
      refine vx_catch (own := "LimbRegistersLaw") (name := eAR) hC.2.2 [⟨0, 7, 10, 13⟩] ⟨0, 7, 14, 37⟩ [⟨0, 7, 18, 55⟩] (htab.trans rfl) (hpass) (by decide) (by decide) (hC.hts bw_424) (hz9.word (by decide +kernel)) h91 h92 h93 ?_
      refine lv_astore hx hb d_Y_inverse_14 hl (by decide) rfl (fun ls hl => ?_)
      have hl : lv_has ls 5 [(4, .ref q9), (0, .ref (wa T 84)), (1, .int r), (2, .int a), (3, .int mo)] := hl
      refine lv_iconst (v := nI 2) hx hb d_Y_inverse_16 (by decide +kernel) ?_
      exact hret _ _ _ _ _ _ _ _ _ (⟨by rw [hoc9], by rw [hoc9, zF_n (by decide)]; exact hP9, rfl, rfl⟩) hw d_Y_inverse_17
    · skip
      have hpass : ∀ z ∈ ([⟨0, 7, 10, 13⟩, ⟨0, 7, 14, 37⟩] : List ExceptionTableEntry), covers z 4 = false ∨ (z.catchType ≠ 0 ∧ ∃ nm : String, (Cond.classLink "LimbRegistersLaw" z.catchType nm).before args s = true ∧ va_Nc eNE nm s) := by
        intro z9 hz; simp only [List.mem_cons, List.not_mem_nil, or_false] at hz
        rcases hz with rfl | rfl
        · exact Or.inr ⟨by decide, eIX, hC.hts bw_214, hn9_ _ (by decide +kernel) _ (by decide +kernel) (by decide)⟩
        · exact Or.inr ⟨by decide, eAR, hC.hts bw_424, hn9_ _ (by decide +kernel) _ (by decide +kernel) (by decide)⟩
      refine vx_catch (own := "LimbRegistersLaw") (name := eNE) hC.2.2 [⟨0, 7, 10, 13⟩, ⟨0, 7, 14, 37⟩] ⟨0, 7, 18, 55⟩ [] (htab.trans rfl) (hpass) (by decide) (by decide) (hC.hts bw_632) (hz9.word (by decide +kernel)) h91 h92 h93 ?_
      refine lv_astore hx hb d_Y_inverse_18 hl (by decide) rfl (fun ls hl => ?_)
      have hl : lv_has ls 5 [(4, .ref q9), (0, .ref (wa T 84)), (1, .int r), (2, .int a), (3, .int mo)] := hl
      refine lv_iconst (v := nI 3) hx hb d_Y_inverse_20 (by decide +kernel) ?_
      exact hret _ _ _ _ _ _ _ _ _ (⟨by rw [hoc9], by rw [hoc9, zF_n (by decide)]; exact hP9, rfl, rfl⟩) hw d_Y_inverse_21
  · skip
    refine lv_goto (tgt := 22) hx hb d_Y_inverse_7 (by decide) ?_
    refine lv_iconst (v := nI 0) hx hb d_Y_inverse_22 (by decide +kernel) ?_
    exact hret _ _ _ _ _ _ _ _ _ ⟨by rw [hP9.1], by rw [zF_0 hP9.1]; exact hP9.2, rfl, rfl⟩ hw d_Y_inverse_23
