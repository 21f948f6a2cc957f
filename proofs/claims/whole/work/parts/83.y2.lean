/-! the law's helpers that answer by out[0] -/
def oU (oc : Nat) (O : wOt) (v : Int64) : wOt := if oc = 0 then vp_updL O 0 v else O
set_option maxRecDepth 100000 in
set_option maxHeartbeats 4000000 in
theorem k_Y_compare (l : Launch) (hst9 : l.stackTraces = false) (T : wT) (V : Nat → Nat) (K : wUt) (I : wIt) (O : wOt) (z : Nat → Int) (hc : cI z V K) (a b : Int32) : Met l y_Y_compare (.codeWith y_Y_compare c_Y_compare 5 (some .int) [(0, 10, 13, 13)] :: bg) ({ frames := 8, cells := 1, slots := 6, locals := 132 } : Room) (mPy T (fF V) (fU V) K I O [.ref (wa T 84), .int a, .int b, .ref (wa T 96)]) (mQy T (fun x9 V' K' I' O' => x9 = nI (ocG (isR a ∧ isR b) 0) ∧ cQ (z) K (K 14) V' K' ∧ I' = I ∧ O' = oU (ocG (isR a ∧ isR b) 0) O ((cmpI (z (rg a)) (z (rg b))).toInt64))) 1 6 (wA T) := by
  refine yH rfl (Nat.le_of_ble_eq_true rfl) rfl rfl ?_
  intro p e R s m args below meth c Q ls hx hb hC hRf hRl hRc hz9 hn9_ htab hret hl hw
  have hRf : 8 ≤ R.frames := hRf
  have hRl : 132 ≤ R.locals := hRl
  have hl : lv_has ls 5 [(0, .ref (wa T 84)), (1, .int a), (2, .int b), (3, .ref (wa T 96))] := hl
  refine lv_aload_n hx hb d_Y_compare_0 rfl (lv_at hl 3 rfl) ?_
  refine lv_iconst (v := nI 0) hx hb d_Y_compare_1 (by decide +kernel) ?_
  refine lv_aload_n hx hb d_Y_compare_2 rfl (lv_at hl 0 rfl) ?_
  refine lv_iload_n hx hb d_Y_compare_3 rfl (lv_at hl 1 rfl) ?_
  refine lv_iload_n hx hb d_Y_compare_4 rfl (lv_at hl 2 rfl) ?_
  refine yc_i (As := [.int a, .int b]) hx hb hC hz9 hw (x_L_compare l hst9 T V K I O z hc a b) lk_Y_57 rfl rfl ⟨by show 7 + 1 ≤ R.frames; omega, by show 8 + (3 + 11) + 110 ≤ R.locals; omega⟩ (by omega) (we_Self ) rfl rfl hl.1 rfl (Nat.le_of_ble_eq_true rfl) hRc d_Y_compare_5 (fun E9 V9 K9 H9 locs9 ce9 q9 hE9 hP9 hw h91 h92 h93 => ?_) (fun r9 V9 K9 H9 locs9 hP9 hw => ?_)
  · unfold eP at hE9
    simp only [List.mem_cons, List.not_mem_nil, or_false, Prod.mk.injEq] at hE9
    obtain ⟨rfl, hoc9⟩ := hE9
    refine vx_catch (own := "LimbRegistersLaw") (name := eIX) hC.2.2 [] ⟨0, 10, 13, 13⟩ [] (htab.trans rfl) (fun z9 hz => nomatch hz) (by decide) (by decide) (hC.hts bw_214) (hz9.word (by decide +kernel)) h91 h92 h93 ?_
    refine lv_astore hx hb d_Y_compare_13 hl (by decide) rfl (fun ls hl => ?_)
    have hl : lv_has ls 5 [(4, .ref q9), (0, .ref (wa T 84)), (1, .int a), (2, .int b), (3, .ref (wa T 96))] := hl
    refine lv_iconst (v := nI 1) hx hb d_Y_compare_15 (by decide +kernel) ?_
    exact hret _ _ _ _ _ _ _ _ _ (have hno : ¬ (ocG (isR a ∧ isR b) 0) = 0 := (by rw [hoc9]; decide); ⟨by rw [hoc9], by exact hP9, rfl, by unfold oU; rw [if_neg hno]⟩) hw d_Y_compare_16
  · skip
    obtain ⟨ho9, hr9, hq9⟩ := hP9
    subst hr9
    refine lv_i2l hx hb d_Y_compare_8 rfl ?_
    refine ws_out hx hb hw (by omega) d_Y_compare_9 (fun H locs hw => ?_)
    refine lv_goto (tgt := 17) hx hb d_Y_compare_10 (by decide) ?_
    refine lv_iconst (v := nI 0) hx hb d_Y_compare_17 (by decide +kernel) ?_
    exact hret _ _ _ _ _ _ _ _ _ ⟨by rw [ho9], by exact hq9, by rfl, by unfold oU; rw [if_pos ho9]⟩ hw d_Y_compare_18
set_option maxRecDepth 100000 in
set_option maxHeartbeats 4000000 in
theorem k_Y_bits (l : Launch) (hst9 : l.stackTraces = false) (T : wT) (V : Nat → Nat) (K : wUt) (I : wIt) (O : wOt) (z : Nat → Int) (hc : cI z V K) (a : Int32) : Met l y_Y_bits (.codeWith y_Y_bits c_Y_bits 4 (some .int) [(0, 9, 12, 13)] :: bg) ({ frames := 8, cells := 1, slots := 6, locals := 131 } : Room) (mPy T (fF V) (fU V) K I O [.ref (wa T 84), .int a, .ref (wa T 96)]) (mQy T (fun x9 V' K' I' O' => x9 = nI (ocG (isR a) 0) ∧ cQ (z) K (K 14) V' K' ∧ I' = I ∧ O' = oU (ocG (isR a) 0) O ((nI (bl (z (rg a)).natAbs)).toInt64))) 1 6 (wA T) := by
  refine yH rfl (Nat.le_of_ble_eq_true rfl) rfl rfl ?_
  intro p e R s m args below meth c Q ls hx hb hC hRf hRl hRc hz9 hn9_ htab hret hl hw
  have hRf : 8 ≤ R.frames := hRf
  have hRl : 131 ≤ R.locals := hRl
  have hl : lv_has ls 4 [(0, .ref (wa T 84)), (1, .int a), (2, .ref (wa T 96))] := hl
  refine lv_aload_n hx hb d_Y_bits_0 rfl (lv_at hl 2 rfl) ?_
  refine lv_iconst (v := nI 0) hx hb d_Y_bits_1 (by decide +kernel) ?_
  refine lv_aload_n hx hb d_Y_bits_2 rfl (lv_at hl 0 rfl) ?_
  refine lv_iload_n hx hb d_Y_bits_3 rfl (lv_at hl 1 rfl) ?_
  refine yc_i (As := [.int a]) hx hb hC hz9 hw (x_L_bits l hst9 T V K I O z hc a) lk_Y_61 rfl rfl ⟨by show 7 + 1 ≤ R.frames; omega, by show 8 + (2 + 11) + 110 ≤ R.locals; omega⟩ (by omega) (we_Self ) rfl rfl hl.1 rfl (Nat.le_of_ble_eq_true rfl) hRc d_Y_bits_4 (fun E9 V9 K9 H9 locs9 ce9 q9 hE9 hP9 hw h91 h92 h93 => ?_) (fun r9 V9 K9 H9 locs9 hP9 hw => ?_)
  · unfold eP at hE9
    simp only [List.mem_cons, List.not_mem_nil, or_false, Prod.mk.injEq] at hE9
    obtain ⟨rfl, hoc9⟩ := hE9
    refine vx_catch (own := "LimbRegistersLaw") (name := eIX) hC.2.2 [] ⟨0, 9, 12, 13⟩ [] (htab.trans rfl) (fun z9 hz => nomatch hz) (by decide) (by decide) (hC.hts bw_214) (hz9.word (by decide +kernel)) h91 h92 h93 ?_
    refine lv_astore_n hx hb d_Y_bits_12 rfl hl (by decide) rfl (fun ls hl => ?_)
    have hl : lv_has ls 4 [(3, .ref q9), (0, .ref (wa T 84)), (1, .int a), (2, .ref (wa T 96))] := hl
    refine lv_iconst (v := nI 1) hx hb d_Y_bits_13 (by decide +kernel) ?_
    exact hret _ _ _ _ _ _ _ _ _ (have hno : ¬ (ocG (isR a) 0) = 0 := (by rw [hoc9]; decide); ⟨by rw [hoc9], by exact hP9, rfl, by unfold oU; rw [if_neg hno]⟩) hw d_Y_bits_14
  · skip
    obtain ⟨ho9, hr9, hq9⟩ := hP9
    subst hr9
    refine lv_i2l hx hb d_Y_bits_7 rfl ?_
    refine ws_out hx hb hw (by omega) d_Y_bits_8 (fun H locs hw => ?_)
    refine lv_goto (tgt := 15) hx hb d_Y_bits_9 (by decide) ?_
    refine lv_iconst (v := nI 0) hx hb d_Y_bits_15 (by decide +kernel) ?_
    exact hret _ _ _ _ _ _ _ _ _ ⟨by rw [ho9], by exact hq9, by rfl, by unfold oU; rw [if_pos ho9]⟩ hw d_Y_bits_16
set_option maxRecDepth 100000 in
set_option maxHeartbeats 4000000 in
theorem k_Y_bit (l : Launch) (hst9 : l.stackTraces = false) (T : wT) (V : Nat → Nat) (K : wUt) (I : wIt) (O : wOt) (z : Nat → Int) (hc : cI z V K) (a n : Int32) : Met l y_Y_bit (.codeWith y_Y_bit c_Y_bit 5 (some .int) [(0, 17, 20, 13)] :: bg) ({ frames := 8, cells := 1, slots := 6, locals := 132 } : Room) (mPy T (fF V) (fU V) K I O [.ref (wa T 84), .int a, .int n, .ref (wa T 96)]) (mQy T (fun x9 V' K' I' O' => x9 = nI (ocG (isR a ∧ 0 ≤ n) 0) ∧ cQ (z) K (K 14) V' K' ∧ I' = I ∧ O' = oU (ocG (isR a ∧ 0 ≤ n) 0) O ((bitI (z (rg a)) (rg n)).toInt64))) 1 6 (wA T) := by
  refine yH rfl (Nat.le_of_ble_eq_true rfl) rfl rfl ?_
  intro p e R s m args below meth c Q ls hx hb hC hRf hRl hRc hz9 hn9_ htab hret hl hw
  have hRf : 8 ≤ R.frames := hRf
  have hRl : 132 ≤ R.locals := hRl
  have hl : lv_has ls 5 [(0, .ref (wa T 84)), (1, .int a), (2, .int n), (3, .ref (wa T 96))] := hl
  refine lv_aload_n hx hb d_Y_bit_0 rfl (lv_at hl 3 rfl) ?_
  refine lv_iconst (v := nI 0) hx hb d_Y_bit_1 (by decide +kernel) ?_
  refine lv_aload_n hx hb d_Y_bit_2 rfl (lv_at hl 0 rfl) ?_
  refine lv_iload_n hx hb d_Y_bit_3 rfl (lv_at hl 1 rfl) ?_
  refine lv_iload_n hx hb d_Y_bit_4 rfl (lv_at hl 2 rfl) ?_
  refine yc_z (As := [.int a, .int n]) hx hb hC hz9 hw (x_L_bit l hst9 T V K I O z hc a n) lk_Y_65 rfl rfl ⟨by show 7 + 1 ≤ R.frames; omega, by show 8 + (3 + 11) + 110 ≤ R.locals; omega⟩ (by omega) (we_Self ) rfl rfl hl.1 rfl (Nat.le_of_ble_eq_true rfl) hRc d_Y_bit_5 (fun E9 V9 K9 H9 locs9 ce9 q9 hE9 hP9 hw h91 h92 h93 => ?_) (fun r9 V9 K9 H9 locs9 hP9 hw => ?_)
  · unfold eP at hE9
    simp only [List.mem_cons, List.not_mem_nil, or_false, Prod.mk.injEq] at hE9
    obtain ⟨rfl, hoc9⟩ := hE9
    refine vx_catch (own := "LimbRegistersLaw") (name := eIX) hC.2.2 [] ⟨0, 17, 20, 13⟩ [] (htab.trans rfl) (fun z9 hz => nomatch hz) (by decide) (by decide) (hC.hts bw_214) (hz9.word (by decide +kernel)) h91 h92 h93 ?_
    refine lv_astore hx hb d_Y_bit_20 hl (by decide) rfl (fun ls hl => ?_)
    have hl : lv_has ls 5 [(4, .ref q9), (0, .ref (wa T 84)), (1, .int a), (2, .int n), (3, .ref (wa T 96))] := hl
    refine lv_iconst (v := nI 1) hx hb d_Y_bit_22 (by decide +kernel) ?_
    exact hret _ _ _ _ _ _ _ _ _ (have hno : ¬ (ocG (isR a ∧ 0 ≤ n) 0) = 0 := (by rw [hoc9]; decide); ⟨by rw [hoc9], by exact hP9, rfl, by unfold oU; rw [if_neg hno]⟩) hw d_Y_bit_23
  · skip
    obtain ⟨ho9, hr9, hq9⟩ := hP9
    subst hr9
    by_cases hbt : bitI (z (rg a)) (rg n) = 1
    · refine sw_i (y := nI 1) (hbt) ?_
      have hbv : (bitI (z (rg a)) (rg n)).toInt64 = (1 : Int64) := by rw [hbt]; rfl
      refine n_if_eq (tgt := 15) hx hb d_Y_bit_8 (by decide) (by omega) (fun hw9 => absurd hw9 (by decide)) (fun hw9 => ?_)
      refine lv_lconst (v := 1) hx hb d_Y_bit_11 (by decide +kernel) ?_
      refine lv_goto (tgt := 16) hx hb d_Y_bit_12 (by decide) ?_
      refine ws_out hx hb hw (by omega) d_Y_bit_16 (fun H locs hw => ?_)
      refine lv_goto (tgt := 24) hx hb d_Y_bit_17 (by decide) ?_
      refine lv_iconst (v := nI 0) hx hb d_Y_bit_24 (by decide +kernel) ?_
      exact hret _ _ _ _ _ _ _ _ _ ⟨by rw [ho9], by exact hq9, by rfl, by unfold oU; rw [if_pos ho9]; rw [hbv]⟩ hw d_Y_bit_25
    · have hb0 : bitI (z (rg a)) (rg n) = 0 := by unfold bitI at hbt ⊢; split at hbt; exact absurd rfl hbt; rename_i q; exact if_neg q
      refine sw_i (y := nI 0) (hb0) ?_
      have hbv : (bitI (z (rg a)) (rg n)).toInt64 = (0 : Int64) := by rw [hb0]; rfl
      refine n_if_eq (tgt := 15) hx hb d_Y_bit_8 (by decide) (by omega) (fun hw9 => ?_) (fun hw9 => absurd hw9 (by decide))
      refine lv_lconst (v := 0) hx hb d_Y_bit_15 (by decide +kernel) ?_
      refine ws_out hx hb hw (by omega) d_Y_bit_16 (fun H locs hw => ?_)
      refine lv_goto (tgt := 24) hx hb d_Y_bit_17 (by decide) ?_
      refine lv_iconst (v := nI 0) hx hb d_Y_bit_24 (by decide +kernel) ?_
      exact hret _ _ _ _ _ _ _ _ _ ⟨by rw [ho9], by exact hq9, by rfl, by unfold oU; rw [if_pos ho9]; rw [hbv]⟩ hw d_Y_bit_25
set_option maxRecDepth 100000 in
set_option maxHeartbeats 4000000 in
theorem k_Y_low (l : Launch) (hst9 : l.stackTraces = false) (T : wT) (V : Nat → Nat) (K : wUt) (I : wIt) (O : wOt) (z : Nat → Int) (hc : cI z V K) (a : Int32) : Met l y_Y_low (.codeWith y_Y_low c_Y_low 4 (some .int) [(0, 8, 11, 13)] :: bg) ({ frames := 8, cells := 1, slots := 6, locals := 133 } : Room) (mPy T (fF V) (fU V) K I O [.ref (wa T 84), .int a, .ref (wa T 96)]) (mQy T (fun x9 V' K' I' O' => x9 = nI (ocG (isR a) 0) ∧ cQ (z) K (K 14) V' K' ∧ I' = I ∧ O' = oU (ocG (isR a) 0) O (lowI (z (rg a))))) 1 6 (wA T) := by
  refine yH rfl (Nat.le_of_ble_eq_true rfl) rfl rfl ?_
  intro p e R s m args below meth c Q ls hx hb hC hRf hRl hRc hz9 hn9_ htab hret hl hw
  have hRf : 8 ≤ R.frames := hRf
  have hRl : 133 ≤ R.locals := hRl
  have hl : lv_has ls 4 [(0, .ref (wa T 84)), (1, .int a), (2, .ref (wa T 96))] := hl
  refine lv_aload_n hx hb d_Y_low_0 rfl (lv_at hl 2 rfl) ?_
  refine lv_iconst (v := nI 0) hx hb d_Y_low_1 (by decide +kernel) ?_
  refine lv_aload_n hx hb d_Y_low_2 rfl (lv_at hl 0 rfl) ?_
  refine lv_iload_n hx hb d_Y_low_3 rfl (lv_at hl 1 rfl) ?_
  refine yc_l (As := [.int a]) hx hb hC hz9 hw (x_L_low l hst9 T V K I O z hc a) lk_Y_69 rfl rfl ⟨by show 7 + 1 ≤ R.frames; omega, by show 8 + (4 + 11) + 110 ≤ R.locals; omega⟩ (by omega) (we_Self ) rfl rfl hl.1 rfl (Nat.le_of_ble_eq_true rfl) hRc d_Y_low_4 (fun E9 V9 K9 H9 locs9 ce9 q9 hE9 hP9 hw h91 h92 h93 => ?_) (fun r9 V9 K9 H9 locs9 hP9 hw => ?_)
  · unfold eP at hE9
    simp only [List.mem_cons, List.not_mem_nil, or_false, Prod.mk.injEq] at hE9
    obtain ⟨rfl, hoc9⟩ := hE9
    refine vx_catch (own := "LimbRegistersLaw") (name := eIX) hC.2.2 [] ⟨0, 8, 11, 13⟩ [] (htab.trans rfl) (fun z9 hz => nomatch hz) (by decide) (by decide) (hC.hts bw_214) (hz9.word (by decide +kernel)) h91 h92 h93 ?_
    refine lv_astore_n hx hb d_Y_low_11 rfl hl (by decide) rfl (fun ls hl => ?_)
    have hl : lv_has ls 4 [(3, .ref q9), (0, .ref (wa T 84)), (1, .int a), (2, .ref (wa T 96))] := hl
    refine lv_iconst (v := nI 1) hx hb d_Y_low_12 (by decide +kernel) ?_
    exact hret _ _ _ _ _ _ _ _ _ (have hno : ¬ (ocG (isR a) 0) = 0 := (by rw [hoc9]; decide); ⟨by rw [hoc9], by exact hP9, rfl, by unfold oU; rw [if_neg hno]⟩) hw d_Y_low_13
  · skip
    obtain ⟨ho9, hr9, hq9⟩ := hP9
    subst hr9
    refine ws_out hx hb hw (by omega) d_Y_low_7 (fun H locs hw => ?_)
    refine lv_goto (tgt := 14) hx hb d_Y_low_8 (by decide) ?_
    refine lv_iconst (v := nI 0) hx hb d_Y_low_14 (by decide +kernel) ?_
    exact hret _ _ _ _ _ _ _ _ _ ⟨by rw [ho9], by exact hq9, by rfl, by unfold oU; rw [if_pos ho9]⟩ hw d_Y_low_15
set_option maxRecDepth 100000 in
set_option maxHeartbeats 4000000 in
theorem k_Y_type (l : Launch) (hst9 : l.stackTraces = false) (T : wT) (V : Nat → Nat) (K : wUt) (I : wIt) (O : wOt) (z : Nat → Int) (hc : cI z V K) (n9 : Nat) (tx : Nat → Nat) (hn9 : n9 ≤ 1200) (hK : K 14 = nI n9) (hI : I 0 = tI tx) (ht : ∀ i, tx i < 128) (N : Nat) (hN : N < 2 ^ 64) (n : Int32) : Met l y_Y_type (.codeWith y_Y_type c_Y_type 6 (some .int) [(0, 11, 14, 35), (0, 11, 18, 77)] :: bg) ({ frames := 7, cells := 1, slots := 6, locals := 113 } : Room) (mPy T (fF V) (fU V) K I O [.ref (wa T 84), .long (lN N), .int n, .ref (wa T 96)]) (mQy T (fun x9 V' K' I' O' => x9 = nI (tyC n9 N n) ∧ cQ (z) K (nI (if tyC n9 N n = 0 then n9 + rg n else n9)) V' K' ∧ I' = va_up I 0 (tI (if tyC n9 N n = 0 then apT tx n9 N (rg n) else tx)) ∧ O' = oU (tyC n9 N n) O ((nI (n9 + rg n)).toInt64))) 1 6 (wA T) := by
  refine yH rfl (Nat.le_of_ble_eq_true rfl) rfl rfl ?_
  intro p e R s m args below meth c Q ls hx hb hC hRf hRl hRc hz9 hn9_ htab hret hl hw
  have hRf : 7 ≤ R.frames := hRf
  have hRl : 113 ≤ R.locals := hRl
  have hl : lv_has ls 6 [(0, .ref (wa T 84)), (1, .long (lN N)), (3, .int n), (4, .ref (wa T 96))] := hl
  refine lv_aload hx hb d_Y_type_0 (lv_at hl 3 rfl) ?_
  refine lv_iconst (v := nI 0) hx hb d_Y_type_2 (by decide +kernel) ?_
  refine lv_aload_n hx hb d_Y_type_3 rfl (lv_at hl 0 rfl) ?_
  refine lv_lload_n hx hb d_Y_type_4 rfl (lv_at hl 1 rfl) ?_
  refine lv_iload_n hx hb d_Y_type_5 rfl (lv_at hl 2 rfl) ?_
  refine yc_i (As := [.long (lN N), .int n]) hx hb hC hz9 hw (x_L_type l hst9 T V K I O z hc n9 tx hn9 hK hI ht N hN n) lk_Y_73 rfl rfl ⟨by show 6 + 1 ≤ R.frames; omega, by show 8 + (4 + 11) + 90 ≤ R.locals; omega⟩ (by omega) (we_Self ) rfl rfl hl.1 rfl (Nat.le_of_ble_eq_true rfl) hRc d_Y_type_6 (fun E9 V9 K9 H9 locs9 ce9 q9 hE9 hP9 hw h91 h92 h93 => ?_) (fun r9 V9 K9 H9 locs9 hP9 hw => ?_)
  · unfold eP at hE9
    simp only [List.mem_cons, List.not_mem_nil, or_false, Prod.mk.injEq] at hE9
    rcases hE9 with ⟨rfl, hoc9⟩ | ⟨rfl, hoc9⟩
    · skip
      refine vx_catch (own := "LimbRegistersLaw") (name := eIA) hC.2.2 [] ⟨0, 11, 14, 35⟩ [⟨0, 11, 18, 77⟩] (htab.trans rfl) (fun z9 hz => nomatch hz) (by decide) (by decide) (hC.hts bw_423) (hz9.word (by decide +kernel)) h91 h92 h93 ?_
      refine lv_astore hx hb d_Y_type_14 hl (by decide) rfl (fun ls hl => ?_)
      have hl : lv_has ls 6 [(5, .ref q9), (0, .ref (wa T 84)), (1, .long (lN N)), (3, .int n), (4, .ref (wa T 96))] := hl
      refine lv_iconst (v := nI 1) hx hb d_Y_type_16 (by decide +kernel) ?_
      exact hret _ _ _ _ _ _ _ _ _ (have hno : ¬ (tyC n9 N n) = 0 := (by rw [hoc9]; decide); ⟨by rw [hoc9], by rw [if_neg hno, ← hK]; exact hP9, by rw [if_neg hno, ← hI, va_upx], by unfold oU; rw [if_neg hno]⟩) hw d_Y_type_17
    · skip
      have hpass : ∀ z ∈ ([⟨0, 11, 14, 35⟩] : List ExceptionTableEntry), covers z 6 = false ∨ (z.catchType ≠ 0 ∧ ∃ nm : String, (Cond.classLink "LimbRegistersLaw" z.catchType nm).before args s = true ∧ va_Nc eIS nm s) := by
        intro z9 hz; simp only [List.mem_cons, List.not_mem_nil, or_false] at hz
        subst hz
        · exact Or.inr ⟨by decide, eIA, hC.hts bw_423, hn9_ _ (by decide +kernel) _ (by decide +kernel) (by decide)⟩
      refine vx_catch (own := "LimbRegistersLaw") (name := eIS) hC.2.2 [⟨0, 11, 14, 35⟩] ⟨0, 11, 18, 77⟩ [] (htab.trans rfl) (hpass) (by decide) (by decide) (hC.hts bw_708) (hz9.word (by decide +kernel)) h91 h92 h93 ?_
      refine lv_astore hx hb d_Y_type_18 hl (by decide) rfl (fun ls hl => ?_)
      have hl : lv_has ls 6 [(5, .ref q9), (0, .ref (wa T 84)), (1, .long (lN N)), (3, .int n), (4, .ref (wa T 96))] := hl
      refine lv_iconst (v := nI 2) hx hb d_Y_type_20 (by decide +kernel) ?_
      exact hret _ _ _ _ _ _ _ _ _ (have hno : ¬ (tyC n9 N n) = 0 := (by rw [hoc9]; decide); ⟨by rw [hoc9], by rw [if_neg hno, ← hK]; exact hP9, by rw [if_neg hno, ← hI, va_upx], by unfold oU; rw [if_neg hno]⟩) hw d_Y_type_21
  · skip
    obtain ⟨ho9, hr9, hq9⟩ := hP9
    subst hr9
    refine lv_i2l hx hb d_Y_type_9 rfl ?_
    refine ws_out hx hb hw (by omega) d_Y_type_10 (fun H locs hw => ?_)
    refine lv_goto (tgt := 22) hx hb d_Y_type_11 (by decide) ?_
    refine lv_iconst (v := nI 0) hx hb d_Y_type_22 (by decide +kernel) ?_
    exact hret _ _ _ _ _ _ _ _ _ ⟨by rw [ho9], by rw [if_pos ho9]; exact hq9, by rw [if_pos ho9], by unfold oU; rw [if_pos ho9]⟩ hw d_Y_type_23
set_option maxRecDepth 100000 in
set_option maxHeartbeats 4000000 in
theorem k_Y_parse (l : Launch) (hst9 : l.stackTraces = false) (T : wT) (V : Nat → Nat) (K : wUt) (I : wIt) (O : wOt) (z : Nat → Int) (hc : cI z V K) (n9 : Nat) (tx : Nat → Nat) (hn9 : n9 ≤ 1200) (hK : K 14 = nI n9) (hI : I 0 = tI tx) (ht : ∀ i, tx i < 128) (r b : Int32) : Met l y_Y_parse (.codeWith y_Y_parse c_Y_parse 5 (some .int) [(0, 10, 13, 13), (0, 10, 17, 35), (0, 10, 21, 77), (0, 10, 25, 23)] :: bg) ({ frames := 8, cells := 1, slots := 6, locals := 134 } : Room) (mPy T (fF V) (fU V) K I O [.ref (wa T 84), .int r, .int b, .ref (wa T 96)]) (mQy T (fun x9 V' K' I' O' => x9 = nI (psC tx n9 r b) ∧ cQ (zF (psC tx n9 r b) (va_up z (rg r) (psW tx n9 (rg b))) z) K (nI (if psC tx n9 r b = 0 then 0 else n9)) V' K' ∧ I' = I ∧ O' = oU (psC tx n9 r b) O ((nI (n9 - sgN n9 tx)).toInt64))) 1 6 (wA T) := by
  refine yH rfl (Nat.le_of_ble_eq_true rfl) rfl rfl ?_
  intro p e R s m args below meth c Q ls hx hb hC hRf hRl hRc hz9 hn9_ htab hret hl hw
  have hRf : 8 ≤ R.frames := hRf
  have hRl : 134 ≤ R.locals := hRl
  have hl : lv_has ls 5 [(0, .ref (wa T 84)), (1, .int r), (2, .int b), (3, .ref (wa T 96))] := hl
  refine lv_aload_n hx hb d_Y_parse_0 rfl (lv_at hl 3 rfl) ?_
  refine lv_iconst (v := nI 0) hx hb d_Y_parse_1 (by decide +kernel) ?_
  refine lv_aload_n hx hb d_Y_parse_2 rfl (lv_at hl 0 rfl) ?_
  refine lv_iload_n hx hb d_Y_parse_3 rfl (lv_at hl 1 rfl) ?_
  refine lv_iload_n hx hb d_Y_parse_4 rfl (lv_at hl 2 rfl) ?_
  refine yc_i (As := [.int r, .int b]) hx hb hC hz9 hw (x_L_parse l hst9 T V K I O z hc n9 tx hn9 hK hI ht r b) lk_Y_79 rfl rfl ⟨by show 7 + 1 ≤ R.frames; omega, by show 8 + (4 + 11) + 111 ≤ R.locals; omega⟩ (by omega) (we_Self ) rfl rfl hl.1 rfl (Nat.le_of_ble_eq_true rfl) hRc d_Y_parse_5 (fun E9 V9 K9 H9 locs9 ce9 q9 hE9 hP9 hw h91 h92 h93 => ?_) (fun r9 V9 K9 H9 locs9 hP9 hw => ?_)
  · unfold eP at hE9
    simp only [List.mem_cons, List.not_mem_nil, or_false, Prod.mk.injEq] at hE9
    rcases hE9 with ⟨rfl, hoc9⟩ | ⟨rfl, hoc9⟩ | ⟨rfl, hoc9⟩ | ⟨rfl, hoc9⟩
    · skip
      refine vx_catch (own := "LimbRegistersLaw") (name := eIX) hC.2.2 [] ⟨0, 10, 13, 13⟩ [⟨0, 10, 17, 35⟩, ⟨0, 10, 21, 77⟩, ⟨0, 10, 25, 23⟩] (htab.trans rfl) (fun z9 hz => nomatch hz) (by decide) (by decide) (hC.hts bw_214) (hz9.word (by decide +kernel)) h91 h92 h93 ?_
      refine lv_astore hx hb d_Y_parse_13 hl (by decide) rfl (fun ls hl => ?_)
      have hl : lv_has ls 5 [(4, .ref q9), (0, .ref (wa T 84)), (1, .int r), (2, .int b), (3, .ref (wa T 96))] := hl
      refine lv_iconst (v := nI 1) hx hb d_Y_parse_15 (by decide +kernel) ?_
      exact hret _ _ _ _ _ _ _ _ _ (have hno : ¬ (psC tx n9 r b) = 0 := (by rw [hoc9]; decide); ⟨by rw [hoc9], by rw [zF_n hno, if_neg hno, ← hK]; exact hP9, rfl, by unfold oU; rw [if_neg hno]⟩) hw d_Y_parse_16
    · skip
      have hpass : ∀ z ∈ ([⟨0, 10, 13, 13⟩] : List ExceptionTableEntry), covers z 5 = false ∨ (z.catchType ≠ 0 ∧ ∃ nm : String, (Cond.classLink "LimbRegistersLaw" z.catchType nm).before args s = true ∧ va_Nc eIA nm s) := by
        intro z9 hz; simp only [List.mem_cons, List.not_mem_nil, or_false] at hz
        subst hz
        · exact Or.inr ⟨by decide, eIX, hC.hts bw_214, hn9_ _ (by decide +kernel) _ (by decide +kernel) (by decide)⟩
      refine vx_catch (own := "LimbRegistersLaw") (name := eIA) hC.2.2 [⟨0, 10, 13, 13⟩] ⟨0, 10, 17, 35⟩ [⟨0, 10, 21, 77⟩, ⟨0, 10, 25, 23⟩] (htab.trans rfl) (hpass) (by decide) (by decide) (hC.hts bw_423) (hz9.word (by decide +kernel)) h91 h92 h93 ?_
      refine lv_astore hx hb d_Y_parse_17 hl (by decide) rfl (fun ls hl => ?_)
      have hl : lv_has ls 5 [(4, .ref q9), (0, .ref (wa T 84)), (1, .int r), (2, .int b), (3, .ref (wa T 96))] := hl
      refine lv_iconst (v := nI 2) hx hb d_Y_parse_19 (by decide +kernel) ?_
      exact hret _ _ _ _ _ _ _ _ _ (have hno : ¬ (psC tx n9 r b) = 0 := (by rw [hoc9]; decide); ⟨by rw [hoc9], by rw [zF_n hno, if_neg hno, ← hK]; exact hP9, rfl, by unfold oU; rw [if_neg hno]⟩) hw d_Y_parse_20
    · skip
      have hpass : ∀ z ∈ ([⟨0, 10, 13, 13⟩, ⟨0, 10, 17, 35⟩] : List ExceptionTableEntry), covers z 5 = false ∨ (z.catchType ≠ 0 ∧ ∃ nm : String, (Cond.classLink "LimbRegistersLaw" z.catchType nm).before args s = true ∧ va_Nc eIS nm s) := by
        intro z9 hz; simp only [List.mem_cons, List.not_mem_nil, or_false] at hz
        rcases hz with rfl | rfl
        · exact Or.inr ⟨by decide, eIX, hC.hts bw_214, hn9_ _ (by decide +kernel) _ (by decide +kernel) (by decide)⟩
        · exact Or.inr ⟨by decide, eIA, hC.hts bw_423, hn9_ _ (by decide +kernel) _ (by decide +kernel) (by decide)⟩
      refine vx_catch (own := "LimbRegistersLaw") (name := eIS) hC.2.2 [⟨0, 10, 13, 13⟩, ⟨0, 10, 17, 35⟩] ⟨0, 10, 21, 77⟩ [⟨0, 10, 25, 23⟩] (htab.trans rfl) (hpass) (by decide) (by decide) (hC.hts bw_708) (hz9.word (by decide +kernel)) h91 h92 h93 ?_
      refine lv_astore hx hb d_Y_parse_21 hl (by decide) rfl (fun ls hl => ?_)
      have hl : lv_has ls 5 [(4, .ref q9), (0, .ref (wa T 84)), (1, .int r), (2, .int b), (3, .ref (wa T 96))] := hl
      refine lv_iconst (v := nI 3) hx hb d_Y_parse_23 (by decide +kernel) ?_
      exact hret _ _ _ _ _ _ _ _ _ (have hno : ¬ (psC tx n9 r b) = 0 := (by rw [hoc9]; decide); ⟨by rw [hoc9], by rw [zF_n hno, if_neg hno, ← hK]; exact hP9, rfl, by unfold oU; rw [if_neg hno]⟩) hw d_Y_parse_24
    · skip
      have hpass : ∀ z ∈ ([⟨0, 10, 13, 13⟩, ⟨0, 10, 17, 35⟩, ⟨0, 10, 21, 77⟩] : List ExceptionTableEntry), covers z 5 = false ∨ (z.catchType ≠ 0 ∧ ∃ nm : String, (Cond.classLink "LimbRegistersLaw" z.catchType nm).before args s = true ∧ va_Nc eUO nm s) := by
        intro z9 hz; simp only [List.mem_cons, List.not_mem_nil, or_false] at hz
        rcases hz with rfl | rfl | rfl
        · exact Or.inr ⟨by decide, eIX, hC.hts bw_214, hn9_ _ (by decide +kernel) _ (by decide +kernel) (by decide)⟩
        · exact Or.inr ⟨by decide, eIA, hC.hts bw_423, hn9_ _ (by decide +kernel) _ (by decide +kernel) (by decide)⟩
        · exact Or.inr ⟨by decide, eIS, hC.hts bw_708, hn9_ _ (by decide +kernel) _ (by decide +kernel) (by decide)⟩
      refine vx_catch (own := "LimbRegistersLaw") (name := eUO) hC.2.2 [⟨0, 10, 13, 13⟩, ⟨0, 10, 17, 35⟩, ⟨0, 10, 21, 77⟩] ⟨0, 10, 25, 23⟩ [] (htab.trans rfl) (hpass) (by decide) (by decide) (hC.hts bw_327) (hz9.word (by decide +kernel)) h91 h92 h93 ?_
      refine lv_astore hx hb d_Y_parse_25 hl (by decide) rfl (fun ls hl => ?_)
      have hl : lv_has ls 5 [(4, .ref q9), (0, .ref (wa T 84)), (1, .int r), (2, .int b), (3, .ref (wa T 96))] := hl
      refine lv_iconst (v := nI 4) hx hb d_Y_parse_27 (by decide +kernel) ?_
      exact hret _ _ _ _ _ _ _ _ _ (have hno : ¬ (psC tx n9 r b) = 0 := (by rw [hoc9]; decide); ⟨by rw [hoc9], by rw [zF_n hno, if_neg hno, ← hK]; exact hP9, rfl, by unfold oU; rw [if_neg hno]⟩) hw d_Y_parse_28
  · skip
    obtain ⟨ho9, hr9, hq9⟩ := hP9
    subst hr9
    refine lv_i2l hx hb d_Y_parse_8 rfl ?_
    refine ws_out hx hb hw (by omega) d_Y_parse_9 (fun H locs hw => ?_)
    refine lv_goto (tgt := 29) hx hb d_Y_parse_10 (by decide) ?_
    refine lv_iconst (v := nI 0) hx hb d_Y_parse_29 (by decide +kernel) ?_
    exact hret _ _ _ _ _ _ _ _ _ ⟨by rw [ho9], by rw [zF_0 ho9, if_pos ho9]; exact hq9, by rfl, by unfold oU; rw [if_pos ho9]⟩ hw d_Y_parse_30
set_option maxRecDepth 100000 in
set_option maxHeartbeats 4000000 in
theorem k_Y_print (l : Launch) (hst9 : l.stackTraces = false) (T : wT) (V : Nat → Nat) (K : wUt) (I : wIt) (O : wOt) (z : Nat → Int) (hc : cI z V K) (n9 : Nat) (tx : Nat → Nat) (hn9 : n9 ≤ 1200) (hK : K 14 = nI n9) (hI : I 0 = tI tx) (ht : ∀ i, tx i < 128) (a b : Int32) : Met l y_Y_print (.codeWith y_Y_print c_Y_print 5 (some .int) [(0, 10, 13, 13), (0, 10, 17, 35)] :: bg) ({ frames := 8, cells := 1, slots := 6, locals := 132 } : Room) (mPy T (fF V) (fU V) K I O [.ref (wa T 84), .int a, .int b, .ref (wa T 96)]) (mQy T (fun x9 V' K' I' O' => x9 = nI (prC a b) ∧ cQ (z) K (nI (if prC a b = 0 then pL (rg b) (z (rg a)).natAbs (decide (z (rg a) < 0)) else n9)) V' K' ∧ I' = va_up I 0 (tI (if prC a b = 0 then prT tx (z (rg a)).natAbs (rg b) (decide (z (rg a) < 0)) else tx)) ∧ O' = oU (prC a b) O ((nI (pL (rg b) (z (rg a)).natAbs (decide (z (rg a) < 0)))).toInt64))) 1 6 (wA T) := by
  refine yH rfl (Nat.le_of_ble_eq_true rfl) rfl rfl ?_
  intro p e R s m args below meth c Q ls hx hb hC hRf hRl hRc hz9 hn9_ htab hret hl hw
  have hRf : 8 ≤ R.frames := hRf
  have hRl : 132 ≤ R.locals := hRl
  have hl : lv_has ls 5 [(0, .ref (wa T 84)), (1, .int a), (2, .int b), (3, .ref (wa T 96))] := hl
  refine lv_aload_n hx hb d_Y_print_0 rfl (lv_at hl 3 rfl) ?_
  refine lv_iconst (v := nI 0) hx hb d_Y_print_1 (by decide +kernel) ?_
  refine lv_aload_n hx hb d_Y_print_2 rfl (lv_at hl 0 rfl) ?_
  refine lv_iload_n hx hb d_Y_print_3 rfl (lv_at hl 1 rfl) ?_
  refine lv_iload_n hx hb d_Y_print_4 rfl (lv_at hl 2 rfl) ?_
  refine yc_i (As := [.int a, .int b]) hx hb hC hz9 hw (x_L_print l hst9 T V K I O z hc n9 tx hn9 hK hI ht a b) lk_Y_82 rfl rfl ⟨by show 7 + 1 ≤ R.frames; omega, by show 8 + (3 + 11) + 110 ≤ R.locals; omega⟩ (by omega) (we_Self ) rfl rfl hl.1 rfl (Nat.le_of_ble_eq_true rfl) hRc d_Y_print_5 (fun E9 V9 K9 H9 locs9 ce9 q9 hE9 hP9 hw h91 h92 h93 => ?_) (fun r9 V9 K9 H9 locs9 hP9 hw => ?_)
  · unfold eP at hE9
    simp only [List.mem_cons, List.not_mem_nil, or_false, Prod.mk.injEq] at hE9
    rcases hE9 with ⟨rfl, hoc9⟩ | ⟨rfl, hoc9⟩
    · skip
      refine vx_catch (own := "LimbRegistersLaw") (name := eIX) hC.2.2 [] ⟨0, 10, 13, 13⟩ [⟨0, 10, 17, 35⟩] (htab.trans rfl) (fun z9 hz => nomatch hz) (by decide) (by decide) (hC.hts bw_214) (hz9.word (by decide +kernel)) h91 h92 h93 ?_
      refine lv_astore hx hb d_Y_print_13 hl (by decide) rfl (fun ls hl => ?_)
      have hl : lv_has ls 5 [(4, .ref q9), (0, .ref (wa T 84)), (1, .int a), (2, .int b), (3, .ref (wa T 96))] := hl
      refine lv_iconst (v := nI 1) hx hb d_Y_print_15 (by decide +kernel) ?_
      exact hret _ _ _ _ _ _ _ _ _ (have hno : ¬ (prC a b) = 0 := (by rw [hoc9]; decide); ⟨by rw [hoc9], by rw [if_neg hno, ← hK]; exact hP9, by rw [if_neg hno, ← hI, va_upx], by unfold oU; rw [if_neg hno]⟩) hw d_Y_print_16
    · skip
      have hpass : ∀ z ∈ ([⟨0, 10, 13, 13⟩] : List ExceptionTableEntry), covers z 5 = false ∨ (z.catchType ≠ 0 ∧ ∃ nm : String, (Cond.classLink "LimbRegistersLaw" z.catchType nm).before args s = true ∧ va_Nc eIA nm s) := by
        intro z9 hz; simp only [List.mem_cons, List.not_mem_nil, or_false] at hz
        subst hz
        · exact Or.inr ⟨by decide, eIX, hC.hts bw_214, hn9_ _ (by decide +kernel) _ (by decide +kernel) (by decide)⟩
      refine vx_catch (own := "LimbRegistersLaw") (name := eIA) hC.2.2 [⟨0, 10, 13, 13⟩] ⟨0, 10, 17, 35⟩ [] (htab.trans rfl) (hpass) (by decide) (by decide) (hC.hts bw_423) (hz9.word (by decide +kernel)) h91 h92 h93 ?_
      refine lv_astore hx hb d_Y_print_17 hl (by decide) rfl (fun ls hl => ?_)
      have hl : lv_has ls 5 [(4, .ref q9), (0, .ref (wa T 84)), (1, .int a), (2, .int b), (3, .ref (wa T 96))] := hl
      refine lv_iconst (v := nI 2) hx hb d_Y_print_19 (by decide +kernel) ?_
      exact hret _ _ _ _ _ _ _ _ _ (have hno : ¬ (prC a b) = 0 := (by rw [hoc9]; decide); ⟨by rw [hoc9], by rw [if_neg hno, ← hK]; exact hP9, by rw [if_neg hno, ← hI, va_upx], by unfold oU; rw [if_neg hno]⟩) hw d_Y_print_20
  · skip
    obtain ⟨ho9, hr9, hq9⟩ := hP9
    subst hr9
    refine lv_i2l hx hb d_Y_print_8 rfl ?_
    refine ws_out hx hb hw (by omega) d_Y_print_9 (fun H locs hw => ?_)
    refine lv_goto (tgt := 21) hx hb d_Y_print_10 (by decide) ?_
    refine lv_iconst (v := nI 0) hx hb d_Y_print_21 (by decide +kernel) ?_
    exact hret _ _ _ _ _ _ _ _ _ ⟨by rw [ho9], by rw [if_pos ho9]; exact hq9, by rw [if_pos ho9], by unfold oU; rw [if_pos ho9]⟩ hw d_Y_print_22
set_option maxRecDepth 100000 in
set_option maxHeartbeats 4000000 in
theorem k_Y_character (l : Launch) (hst9 : l.stackTraces = false) (T : wT) (V : Nat → Nat) (K : wUt) (I : wIt) (O : wOt) (z : Nat → Int) (hc : cI z V K) (n9 : Nat) (tx : Nat → Nat) (hn9 : n9 ≤ 1200) (hK : K 14 = nI n9) (hI : I 0 = tI tx) (ht : ∀ i, tx i < 128) (n : Int32) : Met l y_Y_character (.codeWith y_Y_character c_Y_character 4 (some .int) [(0, 9, 12, 13)] :: bg) ({ frames := 7, cells := 1, slots := 6, locals := 111 } : Room) (mPy T (fF V) (fU V) K I O [.ref (wa T 84), .int n, .ref (wa T 96)]) (mQy T (fun x9 V' K' I' O' => x9 = nI (ocG (0 ≤ n ∧ n < nI n9) 0) ∧ cQ (z) K (K 14) V' K' ∧ I' = I ∧ O' = oU (ocG (0 ≤ n ∧ n < nI n9) 0) O ((nI (tx (rg n))).toInt64))) 1 6 (wA T) := by
  refine yH rfl (Nat.le_of_ble_eq_true rfl) rfl rfl ?_
  intro p e R s m args below meth c Q ls hx hb hC hRf hRl hRc hz9 hn9_ htab hret hl hw
  have hRf : 7 ≤ R.frames := hRf
  have hRl : 111 ≤ R.locals := hRl
  have hl : lv_has ls 4 [(0, .ref (wa T 84)), (1, .int n), (2, .ref (wa T 96))] := hl
  refine lv_aload_n hx hb d_Y_character_0 rfl (lv_at hl 2 rfl) ?_
  refine lv_iconst (v := nI 0) hx hb d_Y_character_1 (by decide +kernel) ?_
  refine lv_aload_n hx hb d_Y_character_2 rfl (lv_at hl 0 rfl) ?_
  refine lv_iload_n hx hb d_Y_character_3 rfl (lv_at hl 1 rfl) ?_
  refine yc_i (As := [.int n]) hx hb hC hz9 hw (x_L_character l hst9 T V K I O z hc n9 tx hn9 hK hI ht n) lk_Y_85 rfl rfl ⟨by show 6 + 1 ≤ R.frames; omega, by show 8 + (2 + 11) + 90 ≤ R.locals; omega⟩ (by omega) (we_Self ) rfl rfl hl.1 rfl (Nat.le_of_ble_eq_true rfl) hRc d_Y_character_4 (fun E9 V9 K9 H9 locs9 ce9 q9 hE9 hP9 hw h91 h92 h93 => ?_) (fun r9 V9 K9 H9 locs9 hP9 hw => ?_)
  · unfold eP at hE9
    simp only [List.mem_cons, List.not_mem_nil, or_false, Prod.mk.injEq] at hE9
    obtain ⟨rfl, hoc9⟩ := hE9
    refine vx_catch (own := "LimbRegistersLaw") (name := eIX) hC.2.2 [] ⟨0, 9, 12, 13⟩ [] (htab.trans rfl) (fun z9 hz => nomatch hz) (by decide) (by decide) (hC.hts bw_214) (hz9.word (by decide +kernel)) h91 h92 h93 ?_
    refine lv_astore_n hx hb d_Y_character_12 rfl hl (by decide) rfl (fun ls hl => ?_)
    have hl : lv_has ls 4 [(3, .ref q9), (0, .ref (wa T 84)), (1, .int n), (2, .ref (wa T 96))] := hl
    refine lv_iconst (v := nI 1) hx hb d_Y_character_13 (by decide +kernel) ?_
    exact hret _ _ _ _ _ _ _ _ _ (have hno : ¬ (ocG (0 ≤ n ∧ n < nI n9) 0) = 0 := (by rw [hoc9]; decide); ⟨by rw [hoc9], by exact hP9, rfl, by unfold oU; rw [if_neg hno]⟩) hw d_Y_character_14
  · skip
    obtain ⟨ho9, hr9, hq9⟩ := hP9
    subst hr9
    refine lv_i2l hx hb d_Y_character_7 rfl ?_
    refine ws_out hx hb hw (by omega) d_Y_character_8 (fun H locs hw => ?_)
    refine lv_goto (tgt := 15) hx hb d_Y_character_9 (by decide) ?_
    refine lv_iconst (v := nI 0) hx hb d_Y_character_15 (by decide +kernel) ?_
    exact hret _ _ _ _ _ _ _ _ _ ⟨by rw [ho9], by exact hq9, by rfl, by unfold oU; rw [if_pos ho9]⟩ hw d_Y_character_16
