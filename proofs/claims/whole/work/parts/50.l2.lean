/-! LimbRegisters: needRadix, needModulus, keepAnswer -/
abbrev isX (r : Int32) : Prop := nI 2 ≤ r ∧ r ≤ nI 36
theorem isX_of {r : Int32} (h : isX r) : ∃ x, 2 ≤ x ∧ x ≤ 36 ∧ r = nI x := by
  obtain ⟨h1, h2⟩ := h
  have a1 := Int32.le_iff_toInt_le.mp h1
  have a2 := Int32.le_iff_toInt_le.mp h2
  have e0 : (nI 2).toInt = 2 := by decide +kernel
  have e1 : (nI 36).toInt = 36 := by decide +kernel
  rw [e0] at a1; rw [e1] at a2
  refine ⟨r.toInt.toNat, by omega, by omega, ?_⟩
  conv => lhs; rw [← Int32.ofInt_toInt r, ← Int.toNat_of_nonneg (by omega : 0 ≤ r.toInt)]
  rfl
theorem rx_all : ∀ x : Fin 37, rg (nI x.val) = x.val ∧ (2 ≤ x.val → isX (nI x.val)) := by decide +kernel
theorem rx_nI {x : Nat} (h : x ≤ 36) : rg (nI x) = x := (rx_all ⟨x, by omega⟩).1
theorem isX_nI {x : Nat} (h2 : 2 ≤ x) (h : x ≤ 36) : isX (nI x) := (rx_all ⟨x, by omega⟩).2 h2

set_option maxRecDepth 100000 in
set_option maxHeartbeats 4000000 in
theorem k_L_needRadix (l : Launch) (T : wT) (V : Nat → Nat) (K : wUt) (I : wIt) (O : wOt) (x : Nat) (hx9 : 2 ≤ x ∧ x ≤ 36) : Met l y_L_needRadix (.code y_L_needRadix c_L_needRadix 1 none :: bg) ({ frames := 6, cells := 0, slots := 0, locals := 90 } : Room) (mP T (fF V) (fU V) K I O [.int (nI x)]) (mQv T (fF V) (fU V) K I O) 0 0 (wA T) := by
  refine wM_v (by decide) (Nat.le_of_ble_eq_true rfl) ?_
  intro p e R s m args below meth c Q ls hx hb hC hRf hRl hret hl hw
  have hRf : 6 ≤ R.frames := hRf
  have hRl : 90 ≤ R.locals := hRl
  have hl : lv_has ls 1 [(0, .int (nI x))] := hl
  refine lv_iload_n hx hb d_L_needRadix_0 rfl (lv_at hl 0 rfl) ?_
  refine lv_iconst (v := nI 2) hx hb d_L_needRadix_1 (by decide +kernel) ?_
  refine n_icmp_lt (tgt := 11) hx hb d_L_needRadix_2 (by decide) (by omega) (by omega) (fun h => ?_) (fun h => ?_)
  · exact absurd h (by omega)
  · refine lv_iload_n hx hb d_L_needRadix_5 rfl (lv_at hl 0 rfl) ?_
    refine lv_bipush (v := nI 36) hx hb d_L_needRadix_6 (by decide +kernel) ?_
    refine n_icmp_le (tgt := 21) hx hb d_L_needRadix_8 (by decide) (by omega) (by omega) (fun h2 => ?_) (fun h2 => ?_)
    · exact hret _ _ _ _ hw d_L_needRadix_21
    · exact absurd hx9.2 (by omega)
set_option maxRecDepth 100000 in
set_option maxHeartbeats 4000000 in
theorem x_L_needRadix (l : Launch) (hst9 : l.stackTraces = false) (T : wT) (V : Nat → Nat) (K : wUt) (I : wIt) (O : wOt) (r : Int32) (hr : ¬ isX r) : vx_Met l y_L_needRadix (.code y_L_needRadix c_L_needRadix 1 none :: bg) ({ frames := 6, cells := 1, slots := 6, locals := 90 } : Room) (mPx T (fF V) (fU V) K I O [.int r]) mQn (xX T "java/lang/IllegalArgumentException" (xE V K) I O) 1 6 (wA T) := by
  refine xM rfl hst9 (Nat.le_of_ble_eq_true rfl) rfl rfl ?_
  intro p e R s m args below meth c Q ls hx hb hC hRf hRl hRc hz9 hout hthr hl hw
  have hRf : 6 ≤ R.frames := hRf
  have hRl : 90 ≤ R.locals := hRl
  have hl : lv_has ls 1 [(0, .int r)] := hl
  refine lv_iload_n hx hb d_L_needRadix_0 rfl (lv_at hl 0 rfl) ?_
  refine lv_iconst (v := nI 2) hx hb d_L_needRadix_1 (by decide +kernel) ?_
  refine lv_icmp_lt (tgt := 11) hx hb d_L_needRadix_2 (by decide) (fun h => ?_) (fun h => ?_)
  · exact hthr _ _ _ _ _ _ _ _ _ _ _ _ xt_245 (⟨rfl, rfl⟩) hw hl.1 d_L_needRadix_11 d_L_needRadix_14 d_L_needRadix_15 d_L_needRadix_17 d_L_needRadix_20 (by show 2 + 3 < R.frames; omega) (by show 0 + (13 * (2 + 1) + 43) ≤ R.locals; omega)
  · refine lv_iload_n hx hb d_L_needRadix_5 rfl (lv_at hl 0 rfl) ?_
    refine lv_bipush (v := nI 36) hx hb d_L_needRadix_6 (by decide +kernel) ?_
    refine lv_icmp_le (tgt := 21) hx hb d_L_needRadix_8 (by decide) (fun h2 => ?_) (fun h2 => ?_)
    · exact absurd (show isX r from ⟨Int32.not_lt.mp h, h2⟩) hr
    · exact hthr _ _ _ _ _ _ _ _ _ _ _ _ xt_245 (⟨rfl, rfl⟩) hw hl.1 d_L_needRadix_11 d_L_needRadix_14 d_L_needRadix_15 d_L_needRadix_17 d_L_needRadix_20 (by show 2 + 3 < R.frames; omega) (by show 0 + (13 * (2 + 1) + 43) ≤ R.locals; omega)
set_option maxRecDepth 100000 in
set_option maxHeartbeats 4000000 in
theorem k_L_needModulus (l : Launch) (T : wT) (V : Nat → Nat) (K : wUt) (I : wIt) (O : wOt) (x : Nat) (hx9 : x < 12) (hK : K x = bI false) (h0 : V x ≠ 0) (hV : ∀ n, n < 34 → V n < vLim) : Met l y_L_needModulus (.code y_L_needModulus c_L_needModulus 2 none :: bg) ({ frames := 6, cells := 0, slots := 0, locals := 90 } : Room) (mP T (fF V) (fU V) K I O [.ref (wa T 84), .int (nI x)]) (mQv T (fF V) (fU V) K I O) 0 0 (wA T) := by
  refine wM_v (by decide) (Nat.le_of_ble_eq_true rfl) ?_
  intro p e R s m args below meth c Q ls hx hb hC hRf hRl hret hl hw
  have hRf : 6 ≤ R.frames := hRf
  have hRl : 90 ≤ R.locals := hRl
  have hl : lv_has ls 2 [(0, .ref (wa T 84)), (1, .int (nI x))] := hl
  refine lv_aload_n hx hb d_L_needModulus_0 rfl (lv_at hl 0 rfl) ?_
  refine wg_Self_registers hx hb hC hw bw_185 d_L_needModulus_1 ?_
  refine lv_iload_n hx hb d_L_needModulus_4 rfl (lv_at hl 1 rfl) ?_
  refine wl_regs hx hb hw (by omega) d_L_needModulus_5 ?_
  refine wg_Whole_below hx hb hC hw (by omega) bw_59 d_L_needModulus_6 ?_
  refine sw_i (y := nI 0) (hK) ?_
  refine n_if_ne (tgt := 27) hx hb d_L_needModulus_9 (by decide) (by omega) (fun hw9 => ?_) (fun hw9 => ?_)
  · exact absurd hw9 (by decide)
  · refine lv_aload_n hx hb d_L_needModulus_12 rfl (lv_at hl 0 rfl) ?_
    refine wg_Self_registers hx hb hC hw bw_185 d_L_needModulus_13 ?_
    refine lv_iload_n hx hb d_L_needModulus_16 rfl (lv_at hl 1 rfl) ?_
    refine wl_regs hx hb hw (by omega) d_L_needModulus_17 ?_
    refine wg_Whole_size hx hb hC hw (by omega) bw_55 d_L_needModulus_18 ?_
    refine wcV_z (As := []) hx hb hC hw (k_N_isZero l T V K I O x (by omega) hV) lk_L_93 rfl rfl ⟨by show 0 + 1 ≤ R.frames; omega, by show 8 + (1 + 11) + 0 ≤ R.locals; omega⟩ (by omega) (we_Natural (by omega)) rfl rfl hl.1 rfl (Nat.le_of_ble_eq_true rfl) ⟨Nat.zero_le _, Nat.zero_le _⟩ d_L_needModulus_21 (fun H locs hw => ?_)
    refine sw_i (y := nI 0) (by rw [if_neg h0]; rfl) ?_
    refine n_if_eq (tgt := 37) hx hb d_L_needModulus_24 (by decide) (by omega) (fun hw9 => ?_) (fun hw9 => ?_)
    · exact hret _ _ _ _ hw d_L_needModulus_37
    · exact absurd hw9 (by decide)
set_option maxRecDepth 100000 in
set_option maxHeartbeats 4000000 in
theorem x_L_needModulus (l : Launch) (hst9 : l.stackTraces = false) (T : wT) (V : Nat → Nat) (K : wUt) (I : wIt) (O : wOt) (x : Nat) (hx9 : x < 12) (bk : Bool) (hK : K x = bI bk) (hr : bk = true ∨ V x = 0) (hV : ∀ n, n < 34 → V n < vLim) : vx_Met l y_L_needModulus (.code y_L_needModulus c_L_needModulus 2 none :: bg) ({ frames := 6, cells := 1, slots := 6, locals := 90 } : Room) (mPx T (fF V) (fU V) K I O [.ref (wa T 84), .int (nI x)]) mQn (xX T "java/lang/ArithmeticException" (xE V K) I O) 1 6 (wA T) := by
  refine xM rfl hst9 (Nat.le_of_ble_eq_true rfl) rfl rfl ?_
  intro p e R s m args below meth c Q ls hx hb hC hRf hRl hRc hz9 hout hthr hl hw
  have hRf : 6 ≤ R.frames := hRf
  have hRl : 90 ≤ R.locals := hRl
  have hl : lv_has ls 2 [(0, .ref (wa T 84)), (1, .int (nI x))] := hl
  cases bk
  · refine lv_aload_n hx hb d_L_needModulus_0 rfl (lv_at hl 0 rfl) ?_
    refine wg_Self_registers hx hb hC hw bw_185 d_L_needModulus_1 ?_
    refine lv_iload_n hx hb d_L_needModulus_4 rfl (lv_at hl 1 rfl) ?_
    refine wl_regs hx hb hw (by omega) d_L_needModulus_5 ?_
    refine wg_Whole_below hx hb hC hw (by omega) bw_59 d_L_needModulus_6 ?_
    refine sw_i (y := nI 0) (hK) ?_
    refine n_if_ne (tgt := 27) hx hb d_L_needModulus_9 (by decide) (by omega) (fun hw9 => ?_) (fun hw9 => ?_)
    · exact absurd hw9 (by decide)
    · refine lv_aload_n hx hb d_L_needModulus_12 rfl (lv_at hl 0 rfl) ?_
      refine wg_Self_registers hx hb hC hw bw_185 d_L_needModulus_13 ?_
      refine lv_iload_n hx hb d_L_needModulus_16 rfl (lv_at hl 1 rfl) ?_
      refine wl_regs hx hb hw (by omega) d_L_needModulus_17 ?_
      refine wg_Whole_size hx hb hC hw (by omega) bw_55 d_L_needModulus_18 ?_
      refine wcV_z (As := []) hx hb hC hw (k_N_isZero l T V K I O x (by omega) hV) lk_L_93 rfl rfl ⟨by show 0 + 1 ≤ R.frames; omega, by show 8 + (1 + 11) + 0 ≤ R.locals; omega⟩ (by omega) (we_Natural (by omega)) rfl rfl hl.1 rfl (Nat.le_of_ble_eq_true rfl) ⟨Nat.zero_le _, Nat.zero_le _⟩ d_L_needModulus_21 (fun H locs hw => ?_)
      refine sw_i (y := nI 1) (by rw [if_pos (hr.resolve_left (by decide))]; rfl) ?_
      refine n_if_eq (tgt := 37) hx hb d_L_needModulus_24 (by decide) (by omega) (fun hw9 => ?_) (fun hw9 => ?_)
      · exact absurd hw9 (by decide)
      · exact hthr _ _ _ _ _ _ _ _ _ _ _ _ xt_247 (⟨rfl, rfl⟩) hw hl.1 d_L_needModulus_27 d_L_needModulus_30 d_L_needModulus_31 d_L_needModulus_33 d_L_needModulus_36 (by show 2 + 3 < R.frames; omega) (by show 0 + (13 * (2 + 1) + 43) ≤ R.locals; omega)
  · refine lv_aload_n hx hb d_L_needModulus_0 rfl (lv_at hl 0 rfl) ?_
    refine wg_Self_registers hx hb hC hw bw_185 d_L_needModulus_1 ?_
    refine lv_iload_n hx hb d_L_needModulus_4 rfl (lv_at hl 1 rfl) ?_
    refine wl_regs hx hb hw (by omega) d_L_needModulus_5 ?_
    refine wg_Whole_below hx hb hC hw (by omega) bw_59 d_L_needModulus_6 ?_
    refine sw_i (y := nI 1) (hK) ?_
    refine n_if_ne (tgt := 27) hx hb d_L_needModulus_9 (by decide) (by omega) (fun hw9 => ?_) (fun hw9 => ?_)
    · exact hthr _ _ _ _ _ _ _ _ _ _ _ _ xt_247 (⟨rfl, rfl⟩) hw hl.1 d_L_needModulus_27 d_L_needModulus_30 d_L_needModulus_31 d_L_needModulus_33 d_L_needModulus_36 (by show 2 + 3 < R.frames; omega) (by show 0 + (13 * (2 + 1) + 43) ≤ R.locals; omega)
    · exact absurd hw9 (by decide)
set_option maxRecDepth 100000 in
set_option maxHeartbeats 4000000 in
theorem k_L_keepAnswer (l : Launch) (T : wT) (V : Nat → Nat) (K : wUt) (I : wIt) (O : wOt) (x : Nat) (hx9 : x < 12) (b : Bool) (hK : K 12 = bI b) (hm : V 12 < m1024) (hV : ∀ n, n < 34 → V n < vLim) : Met l y_L_keepAnswer (.code y_L_keepAnswer c_L_keepAnswer 2 none :: bg) ({ frames := 6, cells := 0, slots := 0, locals := 90 } : Room) (mP T (fF V) (fU V) K I O [.ref (wa T 84), .int (nI x)]) (mQv T (fF (va_up V x (V 12))) (fU (va_up V x (V 12))) (va_up K x (bI (b && !decide (V 12 = 0)))) I O) 0 0 (wA T) := by
  refine wM_v (by decide) (Nat.le_of_ble_eq_true rfl) ?_
  intro p e R s m args below meth c Q ls hx hb hC hRf hRl hret hl hw
  have hRf : 6 ≤ R.frames := hRf
  have hRl : 90 ≤ R.locals := hRl
  have hl : lv_has ls 2 [(0, .ref (wa T 84)), (1, .int (nI x))] := hl
  refine lv_aload_n hx hb d_L_keepAnswer_0 rfl (lv_at hl 0 rfl) ?_
  refine wg_Self_answer hx hb hC hw bw_186 d_L_keepAnswer_1 ?_
  refine wg_Whole_size (i := 12) hx hb hC hw (by omega) bw_55 d_L_keepAnswer_4 ?_
  refine wcV_i (As := []) hx hb hC hw (k_N_length l T V K I O 12 (by omega) hV) lk_L_128 rfl rfl ⟨by show 3 + 1 ≤ R.frames; omega, by show 8 + (1 + 11) + 63 ≤ R.locals; omega⟩ (by omega) (we_Natural (by omega)) rfl rfl hl.1 rfl (Nat.le_of_ble_eq_true rfl) ⟨Nat.zero_le _, Nat.zero_le _⟩ d_L_keepAnswer_7 (fun H locs hw => ?_)
  refine lv_sipush (v := nI 1024) hx hb d_L_keepAnswer_10 (by decide +kernel) ?_
  have hb9 : bl (V 12) ≤ 1024 := bl_mono hm
  refine n_icmp_le (tgt := 26) hx hb d_L_keepAnswer_13 (by decide) (by omega) (by omega) (fun h => ?_) (fun h => ?_)
  · refine lv_aload_n hx hb d_L_keepAnswer_26 rfl (lv_at hl 0 rfl) ?_
    refine wg_Self_registers hx hb hC hw bw_185 d_L_keepAnswer_27 ?_
    refine lv_iload_n hx hb d_L_keepAnswer_30 rfl (lv_at hl 1 rfl) ?_
    refine wl_regs hx hb hw (by omega) d_L_keepAnswer_31 ?_
    refine lv_aload_n hx hb d_L_keepAnswer_32 rfl (lv_at hl 0 rfl) ?_
    refine wg_Self_answer hx hb hC hw bw_186 d_L_keepAnswer_33 ?_
    refine wg_Whole_size (i := 12) hx hb hC hw (by omega) bw_55 d_L_keepAnswer_36 ?_
    refine lv_aload_n hx hb d_L_keepAnswer_39 rfl (lv_at hl 0 rfl) ?_
    refine wg_Self_answer hx hb hC hw bw_186 d_L_keepAnswer_40 ?_
    refine wg_Whole_below (i := 12) hx hb hC hw (by omega) bw_59 d_L_keepAnswer_43 ?_
    refine sw_i (y := (bI b)) (hK) ?_
    refine wcV_v (As := [.ref (wa T 12), .int (bI b)]) hx hb hC hw (k_W_take l T V K I O x 12 b (by omega) (by omega) hV) lk_L_71 rfl rfl ⟨by show 2 + 1 ≤ R.frames; omega, by show 8 + (3 + 11) + 45 ≤ R.locals; omega⟩ (by omega) (we_Whole (by omega)) rfl rfl hl.1 rfl (Nat.le_of_ble_eq_true rfl) ⟨Nat.zero_le _, Nat.zero_le _⟩ d_L_keepAnswer_46 (fun H locs hw => ?_)
    exact hret _ _ _ _ hw d_L_keepAnswer_49
  · exact absurd hb9 (by omega)
set_option maxRecDepth 100000 in
set_option maxHeartbeats 4000000 in
theorem x_L_keepAnswer (l : Launch) (hst9 : l.stackTraces = false) (T : wT) (V : Nat → Nat) (K : wUt) (I : wIt) (O : wOt) (x : Nat) (hm : ¬ V 12 < m1024) (hV : ∀ n, n < 34 → V n < vLim) : vx_Met l y_L_keepAnswer (.code y_L_keepAnswer c_L_keepAnswer 2 none :: bg) ({ frames := 6, cells := 1, slots := 6, locals := 90 } : Room) (mPx T (fF V) (fU V) K I O [.ref (wa T 84), .int (nI x)]) mQn (xX T "java/lang/UnsupportedOperationException" (xE V K) I O) 1 6 (wA T) := by
  refine xM rfl hst9 (Nat.le_of_ble_eq_true rfl) rfl rfl ?_
  intro p e R s m args below meth c Q ls hx hb hC hRf hRl hRc hz9 hout hthr hl hw
  have hRf : 6 ≤ R.frames := hRf
  have hRl : 90 ≤ R.locals := hRl
  have hl : lv_has ls 2 [(0, .ref (wa T 84)), (1, .int (nI x))] := hl
  refine lv_aload_n hx hb d_L_keepAnswer_0 rfl (lv_at hl 0 rfl) ?_
  refine wg_Self_answer hx hb hC hw bw_186 d_L_keepAnswer_1 ?_
  refine wg_Whole_size (i := 12) hx hb hC hw (by omega) bw_55 d_L_keepAnswer_4 ?_
  refine wcV_i (As := []) hx hb hC hw (k_N_length l T V K I O 12 (by omega) hV) lk_L_128 rfl rfl ⟨by show 3 + 1 ≤ R.frames; omega, by show 8 + (1 + 11) + 63 ≤ R.locals; omega⟩ (by omega) (we_Natural (by omega)) rfl rfl hl.1 rfl (Nat.le_of_ble_eq_true rfl) ⟨Nat.zero_le _, Nat.zero_le _⟩ d_L_keepAnswer_7 (fun H locs hw => ?_)
  refine lv_sipush (v := nI 1024) hx hb d_L_keepAnswer_10 (by decide +kernel) ?_
  have hb9 : bl (V 12) ≤ 2100 := bl_le _
  refine n_icmp_le (tgt := 26) hx hb d_L_keepAnswer_13 (by decide) (by omega) (by omega) (fun h => ?_) (fun h => ?_)
  · exact absurd (Nat.lt_of_lt_of_le (bl_lt (hV 12 (by omega))) (Nat.pow_le_pow_right (by decide) h)) hm
  · exact hthr _ _ _ _ _ _ _ _ _ _ _ _ xt_134 (⟨rfl, rfl⟩) hw hl.1 d_L_keepAnswer_16 d_L_keepAnswer_19 d_L_keepAnswer_20 d_L_keepAnswer_22 d_L_keepAnswer_25 (by show 2 + 3 < R.frames; omega) (by show 0 + (13 * (2 + 1) + 43) ≤ R.locals; omega)
