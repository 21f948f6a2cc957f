/-! LimbRegisters: set, copy, add, subtract, multiply -/
set_option maxRecDepth 100000 in
set_option maxHeartbeats 4000000 in
theorem x_L_set (l : Launch) (hst9 : l.stackTraces = false) (T : wT) (V : Nat → Nat) (K : wUt) (I : wIt) (O : wOt) (z : Nat → Int) (hc : cI z V K) (r : Int32) (v : Int64) : vx_Met l y_L_set (.code y_L_set c_L_set 4 none :: bg) ({ frames := 7, cells := 1, slots := 6, locals := 110 } : Room) (mPx T (fF V) (fU V) K I O [.ref (wa T 84), .int r, .long v]) (mQvp T (fun V' K' => ocG (isR r) 0 = 0 ∧ cQ (va_up z (rg r) v.toInt) K (K 14) V' K') I O) (xXm T (eP (ocG (isR r) 0) [(eIX, 1)]) (cQ z K (K 14)) I O) 1 6 (wA T) := by
  refine yM rfl hst9 (Nat.le_of_ble_eq_true rfl) rfl rfl ?_
  intro p e R s m args below meth c Q ls hx hb hC hRf hRl hRc hz9 hrt hout hthr hl hw
  have hRf : 7 ≤ R.frames := hRf
  have hRl : 110 ≤ R.locals := hRl
  have hl : lv_has ls 4 [(0, .ref (wa T 84)), (1, .int r), (2, .long v)] := hl
  refine lv_iload_n hx hb d_L_set_0 rfl (lv_at hl 1 rfl) ?_
  by_cases h_r : isR r
  rotate_left
  · refine xcS (As := [.int r]) hx hb hC hz9 hw (x_L_needRegister l hst9 T V K I O r h_r) lk_L_55 rfl rfl ⟨by show 6 + 1 ≤ R.frames; omega, by show 8 + (1 + 11) + 90 ≤ R.locals; omega⟩ rfl hl.1 rfl (Nat.le_of_ble_eq_true rfl) hRc d_L_set_1 (fun V9 K9 H9 locs9 ce9 q9 hP9 hw9 h91 h92 h93 => ?_)
    exact hout _ V9 K9 _ _ _ _ _ _ _ (eP_1 (ocG_1 h_r)) (cQ_x hc hP9) hw9 h91 h92 h93
  obtain ⟨x, hx9, rfl⟩ := isR_of h_r
  have hl : lv_has ls 4 [(0, .ref (wa T 84)), (1, .int (nI x)), (2, .long v)] := hl
  refine wcS_v (As := [.int (nI x)]) hx hb hC hw (k_L_needRegister l T V K I O x hx9) lk_L_55 rfl rfl ⟨by show 6 + 1 ≤ R.frames; omega, by show 8 + (1 + 11) + 90 ≤ R.locals; omega⟩ rfl hl.1 rfl (Nat.le_of_ble_eq_true rfl) ⟨Nat.zero_le _, Nat.zero_le _⟩ d_L_set_1 (fun H locs hw => ?_)
  refine lv_aload_n hx hb d_L_set_4 rfl (lv_at hl 0 rfl) ?_
  refine wg_Self_registers hx hb hC hw bw_185 d_L_set_5 ?_
  refine lv_iload_n hx hb d_L_set_8 rfl (lv_at hl 1 rfl) ?_
  refine wl_regs hx hb hw (by omega) d_L_set_9 ?_
  refine lv_lload_n hx hb d_L_set_10 rfl (lv_at hl 2 rfl) ?_
  refine wcV_v (As := [.long v]) hx hb hC hw (k_W_takeLong l T V K I O x v (by omega) hc.2) lk_L_59 rfl rfl ⟨by show 2 + 1 ≤ R.frames; omega, by show 8 + (3 + 11) + 44 ≤ R.locals; omega⟩ (by omega) (we_Whole (by omega)) rfl rfl hl.1 rfl (Nat.le_of_ble_eq_true rfl) ⟨Nat.zero_le _, Nat.zero_le _⟩ d_L_set_11 (fun H locs hw => ?_)
  have hv9 : v.toInt.natAbs < m1024 := Nat.lt_of_lt_of_le (zabs v) (Nat.pow_le_pow_right (by decide) (by decide))
  exact yv hrt (Nat.zero_le _) (Nat.zero_le _) hx hb (⟨ocG_k (isR_nI hx9), by rw [rg_nI hx9]; exact cQ_up (hc.up hx9 hv9) (by omega) rfl rfl rfl⟩) hw d_L_set_14
set_option maxRecDepth 100000 in
set_option maxHeartbeats 4000000 in
theorem x_L_copy (l : Launch) (hst9 : l.stackTraces = false) (T : wT) (V : Nat → Nat) (K : wUt) (I : wIt) (O : wOt) (z : Nat → Int) (hc : cI z V K) (r a : Int32) (tu : Bool) : vx_Met l y_L_copy (.code y_L_copy c_L_copy 4 none :: bg) ({ frames := 7, cells := 1, slots := 6, locals := 110 } : Room) (mPx T (fF V) (fU V) K I O [.ref (wa T 84), .int r, .int a, .int (bI tu)]) (mQvp T (fun V' K' => ocG (isR r ∧ isR a) 0 = 0 ∧ cQ (va_up z (rg r) (sgI (decide (z (rg a) < 0) != tu) (z (rg a)).natAbs)) K (K 14) V' K') I O) (xXm T (eP (ocG (isR r ∧ isR a) 0) [(eIX, 1)]) (cQ z K (K 14)) I O) 1 6 (wA T) := by
  refine yM rfl hst9 (Nat.le_of_ble_eq_true rfl) rfl rfl ?_
  intro p e R s m args below meth c Q ls hx hb hC hRf hRl hRc hz9 hrt hout hthr hl hw
  have hRf : 7 ≤ R.frames := hRf
  have hRl : 110 ≤ R.locals := hRl
  have hl : lv_has ls 4 [(0, .ref (wa T 84)), (1, .int r), (2, .int a), (3, .int (bI tu))] := hl
  refine lv_iload_n hx hb d_L_copy_0 rfl (lv_at hl 1 rfl) ?_
  by_cases h_r : isR r
  rotate_left
  · refine xcS (As := [.int r]) hx hb hC hz9 hw (x_L_needRegister l hst9 T V K I O r h_r) lk_L_55 rfl rfl ⟨by show 6 + 1 ≤ R.frames; omega, by show 8 + (1 + 11) + 90 ≤ R.locals; omega⟩ rfl hl.1 rfl (Nat.le_of_ble_eq_true rfl) hRc d_L_copy_1 (fun V9 K9 H9 locs9 ce9 q9 hP9 hw9 h91 h92 h93 => ?_)
    exact hout _ V9 K9 _ _ _ _ _ _ _ (eP_1 (ocG_1 fun h => h_r h.1)) (cQ_x hc hP9) hw9 h91 h92 h93
  obtain ⟨x, hx9, rfl⟩ := isR_of h_r
  have hl : lv_has ls 4 [(0, .ref (wa T 84)), (1, .int (nI x)), (2, .int a), (3, .int (bI tu))] := hl
  refine wcS_v (As := [.int (nI x)]) hx hb hC hw (k_L_needRegister l T V K I O x hx9) lk_L_55 rfl rfl ⟨by show 6 + 1 ≤ R.frames; omega, by show 8 + (1 + 11) + 90 ≤ R.locals; omega⟩ rfl hl.1 rfl (Nat.le_of_ble_eq_true rfl) ⟨Nat.zero_le _, Nat.zero_le _⟩ d_L_copy_1 (fun H locs hw => ?_)
  refine lv_iload_n hx hb d_L_copy_4 rfl (lv_at hl 2 rfl) ?_
  by_cases h_a : isR a
  rotate_left
  · refine xcS (As := [.int a]) hx hb hC hz9 hw (x_L_needRegister l hst9 T V K I O a h_a) lk_L_55 rfl rfl ⟨by show 6 + 1 ≤ R.frames; omega, by show 8 + (1 + 11) + 90 ≤ R.locals; omega⟩ rfl hl.1 rfl (Nat.le_of_ble_eq_true rfl) hRc d_L_copy_5 (fun V9 K9 H9 locs9 ce9 q9 hP9 hw9 h91 h92 h93 => ?_)
    exact hout _ V9 K9 _ _ _ _ _ _ _ (eP_1 (ocG_1 fun h => h_a h.2)) (cQ_x hc hP9) hw9 h91 h92 h93
  obtain ⟨i, hi9, rfl⟩ := isR_of h_a
  have hl : lv_has ls 4 [(0, .ref (wa T 84)), (1, .int (nI x)), (2, .int (nI i)), (3, .int (bI tu))] := hl
  refine wcS_v (As := [.int (nI i)]) hx hb hC hw (k_L_needRegister l T V K I O i hi9) lk_L_55 rfl rfl ⟨by show 6 + 1 ≤ R.frames; omega, by show 8 + (1 + 11) + 90 ≤ R.locals; omega⟩ rfl hl.1 rfl (Nat.le_of_ble_eq_true rfl) ⟨Nat.zero_le _, Nat.zero_le _⟩ d_L_copy_5 (fun H locs hw => ?_)
  have hcp := fun (b : Bool) => cQ_take (b := b) (K0 := K) hc hx9 (hc.1 i hi9).2.1 (hc.1 i hi9).1 rfl rfl rfl rfl
  have hKi := hc.1 i hi9
  generalize hbi : decide (z i < 0) = bi at hKi
  cases bi
  · cases tu
    · have hl : lv_has ls 4 [(0, .ref (wa T 84)), (1, .int (nI x)), (2, .int (nI i)), (3, .int (nI 0))] := hl
      refine lv_aload_n hx hb d_L_copy_8 rfl (lv_at hl 0 rfl) ?_
      refine wg_Self_registers hx hb hC hw bw_185 d_L_copy_9 ?_
      refine lv_iload_n hx hb d_L_copy_12 rfl (lv_at hl 1 rfl) ?_
      refine wl_regs hx hb hw (by omega) d_L_copy_13 ?_
      refine lv_aload_n hx hb d_L_copy_14 rfl (lv_at hl 0 rfl) ?_
      refine wg_Self_registers hx hb hC hw bw_185 d_L_copy_15 ?_
      refine lv_iload_n hx hb d_L_copy_18 rfl (lv_at hl 2 rfl) ?_
      refine wl_regs hx hb hw (by omega) d_L_copy_19 ?_
      refine wg_Whole_size hx hb hC hw (by omega) bw_55 d_L_copy_20 ?_
      refine lv_aload_n hx hb d_L_copy_23 rfl (lv_at hl 0 rfl) ?_
      refine wg_Self_registers hx hb hC hw bw_185 d_L_copy_24 ?_
      refine lv_iload_n hx hb d_L_copy_27 rfl (lv_at hl 2 rfl) ?_
      refine wl_regs hx hb hw (by omega) d_L_copy_28 ?_
      refine wg_Whole_below hx hb hC hw (by omega) bw_59 d_L_copy_29 ?_
      refine sw_i (y := nI 0) (hKi.2.2) ?_
      refine lv_iload_n hx hb d_L_copy_32 rfl (lv_at hl 3 rfl) ?_
      refine n_icmp_eq (tgt := 40) hx hb d_L_copy_33 (by decide) (by omega) (by omega) (fun hw9 => ?_) (fun hw9 => ?_)
      · refine lv_iconst (v := nI 0) hx hb d_L_copy_40 (by decide +kernel) ?_
        refine sw_i (y := (bI false)) (rfl) ?_
        refine wcV_v (As := [.ref (wa T i), .int (bI false)]) hx hb hC hw (k_W_take l T V K I O x i false (by omega) (by omega) hc.2) lk_L_71 rfl rfl ⟨by show 2 + 1 ≤ R.frames; omega, by show 8 + (3 + 11) + 45 ≤ R.locals; omega⟩ (by omega) (we_Whole (by omega)) rfl rfl hl.1 rfl (Nat.le_of_ble_eq_true rfl) ⟨Nat.zero_le _, Nat.zero_le _⟩ d_L_copy_41 (fun H locs hw => ?_)
        exact yv hrt (Nat.zero_le _) (Nat.zero_le _) hx hb (⟨ocG_k ⟨isR_nI hx9, isR_nI hi9⟩, by rw [rg_nI hx9, rg_nI hi9, hbi]; exact hcp false⟩) hw d_L_copy_44
      · exact absurd hw9 (by decide)
    · have hl : lv_has ls 4 [(0, .ref (wa T 84)), (1, .int (nI x)), (2, .int (nI i)), (3, .int (nI 1))] := hl
      refine lv_aload_n hx hb d_L_copy_8 rfl (lv_at hl 0 rfl) ?_
      refine wg_Self_registers hx hb hC hw bw_185 d_L_copy_9 ?_
      refine lv_iload_n hx hb d_L_copy_12 rfl (lv_at hl 1 rfl) ?_
      refine wl_regs hx hb hw (by omega) d_L_copy_13 ?_
      refine lv_aload_n hx hb d_L_copy_14 rfl (lv_at hl 0 rfl) ?_
      refine wg_Self_registers hx hb hC hw bw_185 d_L_copy_15 ?_
      refine lv_iload_n hx hb d_L_copy_18 rfl (lv_at hl 2 rfl) ?_
      refine wl_regs hx hb hw (by omega) d_L_copy_19 ?_
      refine wg_Whole_size hx hb hC hw (by omega) bw_55 d_L_copy_20 ?_
      refine lv_aload_n hx hb d_L_copy_23 rfl (lv_at hl 0 rfl) ?_
      refine wg_Self_registers hx hb hC hw bw_185 d_L_copy_24 ?_
      refine lv_iload_n hx hb d_L_copy_27 rfl (lv_at hl 2 rfl) ?_
      refine wl_regs hx hb hw (by omega) d_L_copy_28 ?_
      refine wg_Whole_below hx hb hC hw (by omega) bw_59 d_L_copy_29 ?_
      refine sw_i (y := nI 0) (hKi.2.2) ?_
      refine lv_iload_n hx hb d_L_copy_32 rfl (lv_at hl 3 rfl) ?_
      refine n_icmp_eq (tgt := 40) hx hb d_L_copy_33 (by decide) (by omega) (by omega) (fun hw9 => ?_) (fun hw9 => ?_)
      · exact absurd hw9 (by decide)
      · refine lv_iconst (v := nI 1) hx hb d_L_copy_36 (by decide +kernel) ?_
        refine lv_goto (tgt := 41) hx hb d_L_copy_37 (by decide) ?_
        refine sw_i (y := (bI true)) (rfl) ?_
        refine wcV_v (As := [.ref (wa T i), .int (bI true)]) hx hb hC hw (k_W_take l T V K I O x i true (by omega) (by omega) hc.2) lk_L_71 rfl rfl ⟨by show 2 + 1 ≤ R.frames; omega, by show 8 + (3 + 11) + 45 ≤ R.locals; omega⟩ (by omega) (we_Whole (by omega)) rfl rfl hl.1 rfl (Nat.le_of_ble_eq_true rfl) ⟨Nat.zero_le _, Nat.zero_le _⟩ d_L_copy_41 (fun H locs hw => ?_)
        exact yv hrt (Nat.zero_le _) (Nat.zero_le _) hx hb (⟨ocG_k ⟨isR_nI hx9, isR_nI hi9⟩, by rw [rg_nI hx9, rg_nI hi9, hbi]; exact hcp true⟩) hw d_L_copy_44
  · cases tu
    · have hl : lv_has ls 4 [(0, .ref (wa T 84)), (1, .int (nI x)), (2, .int (nI i)), (3, .int (nI 0))] := hl
      refine lv_aload_n hx hb d_L_copy_8 rfl (lv_at hl 0 rfl) ?_
      refine wg_Self_registers hx hb hC hw bw_185 d_L_copy_9 ?_
      refine lv_iload_n hx hb d_L_copy_12 rfl (lv_at hl 1 rfl) ?_
      refine wl_regs hx hb hw (by omega) d_L_copy_13 ?_
      refine lv_aload_n hx hb d_L_copy_14 rfl (lv_at hl 0 rfl) ?_
      refine wg_Self_registers hx hb hC hw bw_185 d_L_copy_15 ?_
      refine lv_iload_n hx hb d_L_copy_18 rfl (lv_at hl 2 rfl) ?_
      refine wl_regs hx hb hw (by omega) d_L_copy_19 ?_
      refine wg_Whole_size hx hb hC hw (by omega) bw_55 d_L_copy_20 ?_
      refine lv_aload_n hx hb d_L_copy_23 rfl (lv_at hl 0 rfl) ?_
      refine wg_Self_registers hx hb hC hw bw_185 d_L_copy_24 ?_
      refine lv_iload_n hx hb d_L_copy_27 rfl (lv_at hl 2 rfl) ?_
      refine wl_regs hx hb hw (by omega) d_L_copy_28 ?_
      refine wg_Whole_below hx hb hC hw (by omega) bw_59 d_L_copy_29 ?_
      refine sw_i (y := nI 1) (hKi.2.2) ?_
      refine lv_iload_n hx hb d_L_copy_32 rfl (lv_at hl 3 rfl) ?_
      refine n_icmp_eq (tgt := 40) hx hb d_L_copy_33 (by decide) (by omega) (by omega) (fun hw9 => ?_) (fun hw9 => ?_)
      · exact absurd hw9 (by decide)
      · refine lv_iconst (v := nI 1) hx hb d_L_copy_36 (by decide +kernel) ?_
        refine lv_goto (tgt := 41) hx hb d_L_copy_37 (by decide) ?_
        refine sw_i (y := (bI true)) (rfl) ?_
        refine wcV_v (As := [.ref (wa T i), .int (bI true)]) hx hb hC hw (k_W_take l T V K I O x i true (by omega) (by omega) hc.2) lk_L_71 rfl rfl ⟨by show 2 + 1 ≤ R.frames; omega, by show 8 + (3 + 11) + 45 ≤ R.locals; omega⟩ (by omega) (we_Whole (by omega)) rfl rfl hl.1 rfl (Nat.le_of_ble_eq_true rfl) ⟨Nat.zero_le _, Nat.zero_le _⟩ d_L_copy_41 (fun H locs hw => ?_)
        exact yv hrt (Nat.zero_le _) (Nat.zero_le _) hx hb (⟨ocG_k ⟨isR_nI hx9, isR_nI hi9⟩, by rw [rg_nI hx9, rg_nI hi9, hbi]; exact hcp true⟩) hw d_L_copy_44
    · have hl : lv_has ls 4 [(0, .ref (wa T 84)), (1, .int (nI x)), (2, .int (nI i)), (3, .int (nI 1))] := hl
      refine lv_aload_n hx hb d_L_copy_8 rfl (lv_at hl 0 rfl) ?_
      refine wg_Self_registers hx hb hC hw bw_185 d_L_copy_9 ?_
      refine lv_iload_n hx hb d_L_copy_12 rfl (lv_at hl 1 rfl) ?_
      refine wl_regs hx hb hw (by omega) d_L_copy_13 ?_
      refine lv_aload_n hx hb d_L_copy_14 rfl (lv_at hl 0 rfl) ?_
      refine wg_Self_registers hx hb hC hw bw_185 d_L_copy_15 ?_
      refine lv_iload_n hx hb d_L_copy_18 rfl (lv_at hl 2 rfl) ?_
      refine wl_regs hx hb hw (by omega) d_L_copy_19 ?_
      refine wg_Whole_size hx hb hC hw (by omega) bw_55 d_L_copy_20 ?_
      refine lv_aload_n hx hb d_L_copy_23 rfl (lv_at hl 0 rfl) ?_
      refine wg_Self_registers hx hb hC hw bw_185 d_L_copy_24 ?_
      refine lv_iload_n hx hb d_L_copy_27 rfl (lv_at hl 2 rfl) ?_
      refine wl_regs hx hb hw (by omega) d_L_copy_28 ?_
      refine wg_Whole_below hx hb hC hw (by omega) bw_59 d_L_copy_29 ?_
      refine sw_i (y := nI 1) (hKi.2.2) ?_
      refine lv_iload_n hx hb d_L_copy_32 rfl (lv_at hl 3 rfl) ?_
      refine n_icmp_eq (tgt := 40) hx hb d_L_copy_33 (by decide) (by omega) (by omega) (fun hw9 => ?_) (fun hw9 => ?_)
      · refine lv_iconst (v := nI 0) hx hb d_L_copy_40 (by decide +kernel) ?_
        refine sw_i (y := (bI false)) (rfl) ?_
        refine wcV_v (As := [.ref (wa T i), .int (bI false)]) hx hb hC hw (k_W_take l T V K I O x i false (by omega) (by omega) hc.2) lk_L_71 rfl rfl ⟨by show 2 + 1 ≤ R.frames; omega, by show 8 + (3 + 11) + 45 ≤ R.locals; omega⟩ (by omega) (we_Whole (by omega)) rfl rfl hl.1 rfl (Nat.le_of_ble_eq_true rfl) ⟨Nat.zero_le _, Nat.zero_le _⟩ d_L_copy_41 (fun H locs hw => ?_)
        exact yv hrt (Nat.zero_le _) (Nat.zero_le _) hx hb (⟨ocG_k ⟨isR_nI hx9, isR_nI hi9⟩, by rw [rg_nI hx9, rg_nI hi9, hbi]; exact hcp false⟩) hw d_L_copy_44
      · exact absurd hw9 (by decide)
set_option maxRecDepth 100000 in
set_option maxHeartbeats 4000000 in
theorem x_L_add (l : Launch) (hst9 : l.stackTraces = false) (T : wT) (V : Nat → Nat) (K : wUt) (I : wIt) (O : wOt) (z : Nat → Int) (hc : cI z V K) (r a b : Int32) : vx_Met l y_L_add (.code y_L_add c_L_add 4 none :: bg) ({ frames := 7, cells := 1, slots := 6, locals := 111 } : Room) (mPx T (fF V) (fU V) K I O [.ref (wa T 84), .int r, .int a, .int b]) (mQvp T (fun V' K' => ocF (isR r ∧ isR a ∧ isR b) (z (rg a) + z (rg b)) = 0 ∧ cQ (va_up z (rg r) (z (rg a) + z (rg b))) K (K 14) V' K') I O) (xXm T (eP (ocF (isR r ∧ isR a ∧ isR b) (z (rg a) + z (rg b))) [(eIX, 1), (eUO, 2)]) (cQ z K (K 14)) I O) 1 6 (wA T) := by
  refine yM rfl hst9 (Nat.le_of_ble_eq_true rfl) rfl rfl ?_
  intro p e R s m args below meth c Q ls hx hb hC hRf hRl hRc hz9 hrt hout hthr hl hw
  have hRf : 7 ≤ R.frames := hRf
  have hRl : 111 ≤ R.locals := hRl
  have hl : lv_has ls 4 [(0, .ref (wa T 84)), (1, .int r), (2, .int a), (3, .int b)] := hl
  refine lv_iload_n hx hb d_L_add_0 rfl (lv_at hl 1 rfl) ?_
  by_cases h_r : isR r
  rotate_left
  · refine xcS (As := [.int r]) hx hb hC hz9 hw (x_L_needRegister l hst9 T V K I O r h_r) lk_L_55 rfl rfl ⟨by show 6 + 1 ≤ R.frames; omega, by show 8 + (1 + 11) + 90 ≤ R.locals; omega⟩ rfl hl.1 rfl (Nat.le_of_ble_eq_true rfl) hRc d_L_add_1 (fun V9 K9 H9 locs9 ce9 q9 hP9 hw9 h91 h92 h93 => ?_)
    exact hout _ V9 K9 _ _ _ _ _ _ _ (eP_1 (ocF_1 fun h => h_r h.1)) (cQ_x hc hP9) hw9 h91 h92 h93
  obtain ⟨x, hx9, rfl⟩ := isR_of h_r
  have hl : lv_has ls 4 [(0, .ref (wa T 84)), (1, .int (nI x)), (2, .int a), (3, .int b)] := hl
  refine wcS_v (As := [.int (nI x)]) hx hb hC hw (k_L_needRegister l T V K I O x hx9) lk_L_55 rfl rfl ⟨by show 6 + 1 ≤ R.frames; omega, by show 8 + (1 + 11) + 90 ≤ R.locals; omega⟩ rfl hl.1 rfl (Nat.le_of_ble_eq_true rfl) ⟨Nat.zero_le _, Nat.zero_le _⟩ d_L_add_1 (fun H locs hw => ?_)
  refine lv_iload_n hx hb d_L_add_4 rfl (lv_at hl 2 rfl) ?_
  by_cases h_a : isR a
  rotate_left
  · refine xcS (As := [.int a]) hx hb hC hz9 hw (x_L_needRegister l hst9 T V K I O a h_a) lk_L_55 rfl rfl ⟨by show 6 + 1 ≤ R.frames; omega, by show 8 + (1 + 11) + 90 ≤ R.locals; omega⟩ rfl hl.1 rfl (Nat.le_of_ble_eq_true rfl) hRc d_L_add_5 (fun V9 K9 H9 locs9 ce9 q9 hP9 hw9 h91 h92 h93 => ?_)
    exact hout _ V9 K9 _ _ _ _ _ _ _ (eP_1 (ocF_1 fun h => h_a h.2.1)) (cQ_x hc hP9) hw9 h91 h92 h93
  obtain ⟨i, hi9, rfl⟩ := isR_of h_a
  have hl : lv_has ls 4 [(0, .ref (wa T 84)), (1, .int (nI x)), (2, .int (nI i)), (3, .int b)] := hl
  refine wcS_v (As := [.int (nI i)]) hx hb hC hw (k_L_needRegister l T V K I O i hi9) lk_L_55 rfl rfl ⟨by show 6 + 1 ≤ R.frames; omega, by show 8 + (1 + 11) + 90 ≤ R.locals; omega⟩ rfl hl.1 rfl (Nat.le_of_ble_eq_true rfl) ⟨Nat.zero_le _, Nat.zero_le _⟩ d_L_add_5 (fun H locs hw => ?_)
  refine lv_iload_n hx hb d_L_add_8 rfl (lv_at hl 3 rfl) ?_
  by_cases h_b : isR b
  rotate_left
  · refine xcS (As := [.int b]) hx hb hC hz9 hw (x_L_needRegister l hst9 T V K I O b h_b) lk_L_55 rfl rfl ⟨by show 6 + 1 ≤ R.frames; omega, by show 8 + (1 + 11) + 90 ≤ R.locals; omega⟩ rfl hl.1 rfl (Nat.le_of_ble_eq_true rfl) hRc d_L_add_9 (fun V9 K9 H9 locs9 ce9 q9 hP9 hw9 h91 h92 h93 => ?_)
    exact hout _ V9 K9 _ _ _ _ _ _ _ (eP_1 (ocF_1 fun h => h_b h.2.2)) (cQ_x hc hP9) hw9 h91 h92 h93
  obtain ⟨j, hj9, rfl⟩ := isR_of h_b
  have hl : lv_has ls 4 [(0, .ref (wa T 84)), (1, .int (nI x)), (2, .int (nI i)), (3, .int (nI j))] := hl
  refine wcS_v (As := [.int (nI j)]) hx hb hC hw (k_L_needRegister l T V K I O j hj9) lk_L_55 rfl rfl ⟨by show 6 + 1 ≤ R.frames; omega, by show 8 + (1 + 11) + 90 ≤ R.locals; omega⟩ rfl hl.1 rfl (Nat.le_of_ble_eq_true rfl) ⟨Nat.zero_le _, Nat.zero_le _⟩ d_L_add_9 (fun H locs hw => ?_)
  have gg : isR (nI x) ∧ isR (nI i) ∧ isR (nI j) := ⟨isR_nI hx9, isR_nI hi9, isR_nI hj9⟩
  refine lv_aload_n hx hb d_L_add_12 rfl (lv_at hl 0 rfl) ?_
  refine wg_Self_answer hx hb hC hw bw_186 d_L_add_13 ?_
  refine lv_aload_n hx hb d_L_add_16 rfl (lv_at hl 0 rfl) ?_
  refine wg_Self_registers hx hb hC hw bw_185 d_L_add_17 ?_
  refine lv_iload_n hx hb d_L_add_20 rfl (lv_at hl 2 rfl) ?_
  refine wl_regs hx hb hw (by omega) d_L_add_21 ?_
  refine lv_aload_n hx hb d_L_add_22 rfl (lv_at hl 0 rfl) ?_
  refine wg_Self_registers hx hb hC hw bw_185 d_L_add_23 ?_
  refine lv_iload_n hx hb d_L_add_26 rfl (lv_at hl 3 rfl) ?_
  refine wl_regs hx hb hw (by omega) d_L_add_27 ?_
  refine lv_iconst (v := nI 0) hx hb d_L_add_28 (by decide +kernel) ?_
  refine sw_i (y := (bI false)) (rfl) ?_
  refine wcV_v (As := [.ref (wa T (68 + i)), .ref (wa T (68 + j)), .int (bI false)]) hx hb hC hw (k_W_takeSum l T V K I O 12 i j (by omega) (by omega) (by omega) (Nat.le_trans (k37 (hc.lt hi9)) (by decide)) (Nat.le_trans (k37 (hc.lt hj9)) (by decide)) (decide (z i < 0)) (decide (z j < 0)) false (hc.1 i hi9).2.2 (hc.1 j hj9).2.2 hc.2) lk_L_75 rfl rfl ⟨by show 2 + 1 ≤ R.frames; omega, by show 8 + (6 + 11) + 48 ≤ R.locals; omega⟩ (by omega) (we_Whole (by omega)) rfl rfl hl.1 rfl (Nat.le_of_ble_eq_true rfl) ⟨Nat.zero_le _, Nat.zero_le _⟩ d_L_add_29 (fun H locs hw => ?_)
  have e1 : (sV (decide (z i < 0)) (decide (z j < 0) != false) (V i) (V j)) = (z i + z j).natAbs := by rw [(hc.1 i hi9).2.1, (hc.1 j hj9).2.1]; exact sV_int _ (z j) _ (fun _ => by simp)
  have e2 : (sB (decide (z i < 0)) (decide (z j < 0) != false) (V i) (V j)) = decide (z i + z j < 0) := by rw [(hc.1 i hi9).2.1, (hc.1 j hj9).2.1]; exact sB_int _ (z j) _ (fun _ => by simp)
  rw [e1, e2] at hw
  have hl9 : (z i + z j).natAbs < vLim := sum_lim (hc.1 i hi9).1 (hc.1 j hj9).1
  have hc1 : cI z (va_up V 12 (z i + z j).natAbs) (va_up K 12 (bI (decide (z i + z j < 0)))) := (hc.out (by omega) hl9).outK (by omega)
  have e12 : (va_up V 12 (z i + z j).natAbs) 12 = (z i + z j).natAbs := va_up_self _ _ _
  refine lv_aload_n hx hb d_L_add_32 rfl (lv_at hl 0 rfl) ?_
  refine lv_iload_n hx hb d_L_add_33 rfl (lv_at hl 1 rfl) ?_
  by_cases hfit : (z i + z j).natAbs < m1024
  rotate_left
  · refine xcV (As := [.int (nI x)]) hx hb hC hz9 hw (x_L_keepAnswer l hst9 T (va_up V 12 (z i + z j).natAbs) (va_up K 12 (bI (decide (z i + z j < 0)))) I O x (by rw [e12]; exact hfit) hc1.2) lk_L_79 rfl rfl ⟨by show 6 + 1 ≤ R.frames; omega, by show 8 + (2 + 11) + 90 ≤ R.locals; omega⟩ (by omega) (we_Self ) rfl rfl hl.1 rfl (Nat.le_of_ble_eq_true rfl) hRc d_L_add_34 (fun V9 K9 H9 locs9 ce9 q9 hP9 hw9 h91 h92 h93 => ?_)
    exact hout _ V9 K9 _ _ _ _ _ _ _ (eP_k (k := 2) (ocF_2 gg (by rw [rg_nI hi9, rg_nI hj9]; exact hfit)) (List.mem_cons_of_mem _ List.mem_cons_self)) (by obtain ⟨rfl, rfl⟩ := hP9; exact ⟨hc1, va_up_ne _ _ (by omega), va_up_ne _ _ (by omega), va_up_ne _ _ (by omega)⟩) hw9 h91 h92 h93
  refine wcV_v (As := [.int (nI x)]) hx hb hC hw (k_L_keepAnswer l T (va_up V 12 (z i + z j).natAbs) (va_up K 12 (bI (decide (z i + z j < 0)))) I O x hx9 (decide (z i + z j < 0)) (va_up_self _ _ _) (by rw [e12]; exact hfit) hc1.2) lk_L_79 rfl rfl ⟨by show 6 + 1 ≤ R.frames; omega, by show 8 + (2 + 11) + 90 ≤ R.locals; omega⟩ (by omega) (we_Self ) rfl rfl hl.1 rfl (Nat.le_of_ble_eq_true rfl) ⟨Nat.zero_le _, Nat.zero_le _⟩ d_L_add_34 (fun H locs hw => ?_)
  exact yv hrt (Nat.zero_le _) (Nat.zero_le _) hx hb (⟨ocF_0 gg (by rw [rg_nI hi9, rg_nI hj9]; exact hfit), by rw [rg_nI hx9, rg_nI hi9, rg_nI hj9]; exact cQ_keep hc hx9 hfit⟩) hw d_L_add_37
set_option maxRecDepth 100000 in
set_option maxHeartbeats 4000000 in
theorem x_L_subtract (l : Launch) (hst9 : l.stackTraces = false) (T : wT) (V : Nat → Nat) (K : wUt) (I : wIt) (O : wOt) (z : Nat → Int) (hc : cI z V K) (r a b : Int32) : vx_Met l y_L_subtract (.code y_L_subtract c_L_subtract 4 none :: bg) ({ frames := 7, cells := 1, slots := 6, locals := 111 } : Room) (mPx T (fF V) (fU V) K I O [.ref (wa T 84), .int r, .int a, .int b]) (mQvp T (fun V' K' => ocF (isR r ∧ isR a ∧ isR b) (z (rg a) + -z (rg b)) = 0 ∧ cQ (va_up z (rg r) (z (rg a) + -z (rg b))) K (K 14) V' K') I O) (xXm T (eP (ocF (isR r ∧ isR a ∧ isR b) (z (rg a) + -z (rg b))) [(eIX, 1), (eUO, 2)]) (cQ z K (K 14)) I O) 1 6 (wA T) := by
  refine yM rfl hst9 (Nat.le_of_ble_eq_true rfl) rfl rfl ?_
  intro p e R s m args below meth c Q ls hx hb hC hRf hRl hRc hz9 hrt hout hthr hl hw
  have hRf : 7 ≤ R.frames := hRf
  have hRl : 111 ≤ R.locals := hRl
  have hl : lv_has ls 4 [(0, .ref (wa T 84)), (1, .int r), (2, .int a), (3, .int b)] := hl
  refine lv_iload_n hx hb d_L_subtract_0 rfl (lv_at hl 1 rfl) ?_
  by_cases h_r : isR r
  rotate_left
  · refine xcS (As := [.int r]) hx hb hC hz9 hw (x_L_needRegister l hst9 T V K I O r h_r) lk_L_55 rfl rfl ⟨by show 6 + 1 ≤ R.frames; omega, by show 8 + (1 + 11) + 90 ≤ R.locals; omega⟩ rfl hl.1 rfl (Nat.le_of_ble_eq_true rfl) hRc d_L_subtract_1 (fun V9 K9 H9 locs9 ce9 q9 hP9 hw9 h91 h92 h93 => ?_)
    exact hout _ V9 K9 _ _ _ _ _ _ _ (eP_1 (ocF_1 fun h => h_r h.1)) (cQ_x hc hP9) hw9 h91 h92 h93
  obtain ⟨x, hx9, rfl⟩ := isR_of h_r
  have hl : lv_has ls 4 [(0, .ref (wa T 84)), (1, .int (nI x)), (2, .int a), (3, .int b)] := hl
  refine wcS_v (As := [.int (nI x)]) hx hb hC hw (k_L_needRegister l T V K I O x hx9) lk_L_55 rfl rfl ⟨by show 6 + 1 ≤ R.frames; omega, by show 8 + (1 + 11) + 90 ≤ R.locals; omega⟩ rfl hl.1 rfl (Nat.le_of_ble_eq_true rfl) ⟨Nat.zero_le _, Nat.zero_le _⟩ d_L_subtract_1 (fun H locs hw => ?_)
  refine lv_iload_n hx hb d_L_subtract_4 rfl (lv_at hl 2 rfl) ?_
  by_cases h_a : isR a
  rotate_left
  · refine xcS (As := [.int a]) hx hb hC hz9 hw (x_L_needRegister l hst9 T V K I O a h_a) lk_L_55 rfl rfl ⟨by show 6 + 1 ≤ R.frames; omega, by show 8 + (1 + 11) + 90 ≤ R.locals; omega⟩ rfl hl.1 rfl (Nat.le_of_ble_eq_true rfl) hRc d_L_subtract_5 (fun V9 K9 H9 locs9 ce9 q9 hP9 hw9 h91 h92 h93 => ?_)
    exact hout _ V9 K9 _ _ _ _ _ _ _ (eP_1 (ocF_1 fun h => h_a h.2.1)) (cQ_x hc hP9) hw9 h91 h92 h93
  obtain ⟨i, hi9, rfl⟩ := isR_of h_a
  have hl : lv_has ls 4 [(0, .ref (wa T 84)), (1, .int (nI x)), (2, .int (nI i)), (3, .int b)] := hl
  refine wcS_v (As := [.int (nI i)]) hx hb hC hw (k_L_needRegister l T V K I O i hi9) lk_L_55 rfl rfl ⟨by show 6 + 1 ≤ R.frames; omega, by show 8 + (1 + 11) + 90 ≤ R.locals; omega⟩ rfl hl.1 rfl (Nat.le_of_ble_eq_true rfl) ⟨Nat.zero_le _, Nat.zero_le _⟩ d_L_subtract_5 (fun H locs hw => ?_)
  refine lv_iload_n hx hb d_L_subtract_8 rfl (lv_at hl 3 rfl) ?_
  by_cases h_b : isR b
  rotate_left
  · refine xcS (As := [.int b]) hx hb hC hz9 hw (x_L_needRegister l hst9 T V K I O b h_b) lk_L_55 rfl rfl ⟨by show 6 + 1 ≤ R.frames; omega, by show 8 + (1 + 11) + 90 ≤ R.locals; omega⟩ rfl hl.1 rfl (Nat.le_of_ble_eq_true rfl) hRc d_L_subtract_9 (fun V9 K9 H9 locs9 ce9 q9 hP9 hw9 h91 h92 h93 => ?_)
    exact hout _ V9 K9 _ _ _ _ _ _ _ (eP_1 (ocF_1 fun h => h_b h.2.2)) (cQ_x hc hP9) hw9 h91 h92 h93
  obtain ⟨j, hj9, rfl⟩ := isR_of h_b
  have hl : lv_has ls 4 [(0, .ref (wa T 84)), (1, .int (nI x)), (2, .int (nI i)), (3, .int (nI j))] := hl
  refine wcS_v (As := [.int (nI j)]) hx hb hC hw (k_L_needRegister l T V K I O j hj9) lk_L_55 rfl rfl ⟨by show 6 + 1 ≤ R.frames; omega, by show 8 + (1 + 11) + 90 ≤ R.locals; omega⟩ rfl hl.1 rfl (Nat.le_of_ble_eq_true rfl) ⟨Nat.zero_le _, Nat.zero_le _⟩ d_L_subtract_9 (fun H locs hw => ?_)
  have gg : isR (nI x) ∧ isR (nI i) ∧ isR (nI j) := ⟨isR_nI hx9, isR_nI hi9, isR_nI hj9⟩
  refine lv_aload_n hx hb d_L_subtract_12 rfl (lv_at hl 0 rfl) ?_
  refine wg_Self_answer hx hb hC hw bw_186 d_L_subtract_13 ?_
  refine lv_aload_n hx hb d_L_subtract_16 rfl (lv_at hl 0 rfl) ?_
  refine wg_Self_registers hx hb hC hw bw_185 d_L_subtract_17 ?_
  refine lv_iload_n hx hb d_L_subtract_20 rfl (lv_at hl 2 rfl) ?_
  refine wl_regs hx hb hw (by omega) d_L_subtract_21 ?_
  refine lv_aload_n hx hb d_L_subtract_22 rfl (lv_at hl 0 rfl) ?_
  refine wg_Self_registers hx hb hC hw bw_185 d_L_subtract_23 ?_
  refine lv_iload_n hx hb d_L_subtract_26 rfl (lv_at hl 3 rfl) ?_
  refine wl_regs hx hb hw (by omega) d_L_subtract_27 ?_
  refine lv_iconst (v := nI 1) hx hb d_L_subtract_28 (by decide +kernel) ?_
  refine sw_i (y := (bI true)) (rfl) ?_
  refine wcV_v (As := [.ref (wa T (68 + i)), .ref (wa T (68 + j)), .int (bI true)]) hx hb hC hw (k_W_takeSum l T V K I O 12 i j (by omega) (by omega) (by omega) (Nat.le_trans (k37 (hc.lt hi9)) (by decide)) (Nat.le_trans (k37 (hc.lt hj9)) (by decide)) (decide (z i < 0)) (decide (z j < 0)) true (hc.1 i hi9).2.2 (hc.1 j hj9).2.2 hc.2) lk_L_75 rfl rfl ⟨by show 2 + 1 ≤ R.frames; omega, by show 8 + (6 + 11) + 48 ≤ R.locals; omega⟩ (by omega) (we_Whole (by omega)) rfl rfl hl.1 rfl (Nat.le_of_ble_eq_true rfl) ⟨Nat.zero_le _, Nat.zero_le _⟩ d_L_subtract_29 (fun H locs hw => ?_)
  have e1 : (sV (decide (z i < 0)) (decide (z j < 0) != true) (V i) (V j)) = (z i + -z j).natAbs := by rw [(hc.1 i hi9).2.1, (hc.1 j hj9).2.1, ← Int.natAbs_neg (z j)]; exact sV_int _ (-z j) _ (fun h => nb_neg _ h)
  have e2 : (sB (decide (z i < 0)) (decide (z j < 0) != true) (V i) (V j)) = decide (z i + -z j < 0) := by rw [(hc.1 i hi9).2.1, (hc.1 j hj9).2.1, ← Int.natAbs_neg (z j)]; exact sB_int _ (-z j) _ (fun h => nb_neg _ h)
  rw [e1, e2] at hw
  have hl9 : (z i + -z j).natAbs < vLim := sum_lim (hc.1 i hi9).1 (by rw [Int.natAbs_neg]; exact (hc.1 j hj9).1)
  have hc1 : cI z (va_up V 12 (z i + -z j).natAbs) (va_up K 12 (bI (decide (z i + -z j < 0)))) := (hc.out (by omega) hl9).outK (by omega)
  have e12 : (va_up V 12 (z i + -z j).natAbs) 12 = (z i + -z j).natAbs := va_up_self _ _ _
  refine lv_aload_n hx hb d_L_subtract_32 rfl (lv_at hl 0 rfl) ?_
  refine lv_iload_n hx hb d_L_subtract_33 rfl (lv_at hl 1 rfl) ?_
  by_cases hfit : (z i + -z j).natAbs < m1024
  rotate_left
  · refine xcV (As := [.int (nI x)]) hx hb hC hz9 hw (x_L_keepAnswer l hst9 T (va_up V 12 (z i + -z j).natAbs) (va_up K 12 (bI (decide (z i + -z j < 0)))) I O x (by rw [e12]; exact hfit) hc1.2) lk_L_79 rfl rfl ⟨by show 6 + 1 ≤ R.frames; omega, by show 8 + (2 + 11) + 90 ≤ R.locals; omega⟩ (by omega) (we_Self ) rfl rfl hl.1 rfl (Nat.le_of_ble_eq_true rfl) hRc d_L_subtract_34 (fun V9 K9 H9 locs9 ce9 q9 hP9 hw9 h91 h92 h93 => ?_)
    exact hout _ V9 K9 _ _ _ _ _ _ _ (eP_k (k := 2) (ocF_2 gg (by rw [rg_nI hi9, rg_nI hj9]; exact hfit)) (List.mem_cons_of_mem _ List.mem_cons_self)) (by obtain ⟨rfl, rfl⟩ := hP9; exact ⟨hc1, va_up_ne _ _ (by omega), va_up_ne _ _ (by omega), va_up_ne _ _ (by omega)⟩) hw9 h91 h92 h93
  refine wcV_v (As := [.int (nI x)]) hx hb hC hw (k_L_keepAnswer l T (va_up V 12 (z i + -z j).natAbs) (va_up K 12 (bI (decide (z i + -z j < 0)))) I O x hx9 (decide (z i + -z j < 0)) (va_up_self _ _ _) (by rw [e12]; exact hfit) hc1.2) lk_L_79 rfl rfl ⟨by show 6 + 1 ≤ R.frames; omega, by show 8 + (2 + 11) + 90 ≤ R.locals; omega⟩ (by omega) (we_Self ) rfl rfl hl.1 rfl (Nat.le_of_ble_eq_true rfl) ⟨Nat.zero_le _, Nat.zero_le _⟩ d_L_subtract_34 (fun H locs hw => ?_)
  exact yv hrt (Nat.zero_le _) (Nat.zero_le _) hx hb (⟨ocF_0 gg (by rw [rg_nI hi9, rg_nI hj9]; exact hfit), by rw [rg_nI hx9, rg_nI hi9, rg_nI hj9]; exact cQ_keep hc hx9 hfit⟩) hw d_L_subtract_37
set_option maxRecDepth 100000 in
set_option maxHeartbeats 4000000 in
theorem x_L_multiply (l : Launch) (hst9 : l.stackTraces = false) (T : wT) (V : Nat → Nat) (K : wUt) (I : wIt) (O : wOt) (z : Nat → Int) (hc : cI z V K) (r a b : Int32) : vx_Met l y_L_multiply (.code y_L_multiply c_L_multiply 4 none :: bg) ({ frames := 7, cells := 1, slots := 6, locals := 111 } : Room) (mPx T (fF V) (fU V) K I O [.ref (wa T 84), .int r, .int a, .int b]) (mQvp T (fun V' K' => ocF (isR r ∧ isR a ∧ isR b) (z (rg a) * z (rg b)) = 0 ∧ cQ (va_up z (rg r) (z (rg a) * z (rg b))) K (K 14) V' K') I O) (xXm T (eP (ocF (isR r ∧ isR a ∧ isR b) (z (rg a) * z (rg b))) [(eIX, 1), (eUO, 2)]) (cQ z K (K 14)) I O) 1 6 (wA T) := by
  refine yM rfl hst9 (Nat.le_of_ble_eq_true rfl) rfl rfl ?_
  intro p e R s m args below meth c Q ls hx hb hC hRf hRl hRc hz9 hrt hout hthr hl hw
  have hRf : 7 ≤ R.frames := hRf
  have hRl : 111 ≤ R.locals := hRl
  have hl : lv_has ls 4 [(0, .ref (wa T 84)), (1, .int r), (2, .int a), (3, .int b)] := hl
  refine lv_iload_n hx hb d_L_multiply_0 rfl (lv_at hl 1 rfl) ?_
  by_cases h_r : isR r
  rotate_left
  · refine xcS (As := [.int r]) hx hb hC hz9 hw (x_L_needRegister l hst9 T V K I O r h_r) lk_L_55 rfl rfl ⟨by show 6 + 1 ≤ R.frames; omega, by show 8 + (1 + 11) + 90 ≤ R.locals; omega⟩ rfl hl.1 rfl (Nat.le_of_ble_eq_true rfl) hRc d_L_multiply_1 (fun V9 K9 H9 locs9 ce9 q9 hP9 hw9 h91 h92 h93 => ?_)
    exact hout _ V9 K9 _ _ _ _ _ _ _ (eP_1 (ocF_1 fun h => h_r h.1)) (cQ_x hc hP9) hw9 h91 h92 h93
  obtain ⟨x, hx9, rfl⟩ := isR_of h_r
  have hl : lv_has ls 4 [(0, .ref (wa T 84)), (1, .int (nI x)), (2, .int a), (3, .int b)] := hl
  refine wcS_v (As := [.int (nI x)]) hx hb hC hw (k_L_needRegister l T V K I O x hx9) lk_L_55 rfl rfl ⟨by show 6 + 1 ≤ R.frames; omega, by show 8 + (1 + 11) + 90 ≤ R.locals; omega⟩ rfl hl.1 rfl (Nat.le_of_ble_eq_true rfl) ⟨Nat.zero_le _, Nat.zero_le _⟩ d_L_multiply_1 (fun H locs hw => ?_)
  refine lv_iload_n hx hb d_L_multiply_4 rfl (lv_at hl 2 rfl) ?_
  by_cases h_a : isR a
  rotate_left
  · refine xcS (As := [.int a]) hx hb hC hz9 hw (x_L_needRegister l hst9 T V K I O a h_a) lk_L_55 rfl rfl ⟨by show 6 + 1 ≤ R.frames; omega, by show 8 + (1 + 11) + 90 ≤ R.locals; omega⟩ rfl hl.1 rfl (Nat.le_of_ble_eq_true rfl) hRc d_L_multiply_5 (fun V9 K9 H9 locs9 ce9 q9 hP9 hw9 h91 h92 h93 => ?_)
    exact hout _ V9 K9 _ _ _ _ _ _ _ (eP_1 (ocF_1 fun h => h_a h.2.1)) (cQ_x hc hP9) hw9 h91 h92 h93
  obtain ⟨i, hi9, rfl⟩ := isR_of h_a
  have hl : lv_has ls 4 [(0, .ref (wa T 84)), (1, .int (nI x)), (2, .int (nI i)), (3, .int b)] := hl
  refine wcS_v (As := [.int (nI i)]) hx hb hC hw (k_L_needRegister l T V K I O i hi9) lk_L_55 rfl rfl ⟨by show 6 + 1 ≤ R.frames; omega, by show 8 + (1 + 11) + 90 ≤ R.locals; omega⟩ rfl hl.1 rfl (Nat.le_of_ble_eq_true rfl) ⟨Nat.zero_le _, Nat.zero_le _⟩ d_L_multiply_5 (fun H locs hw => ?_)
  refine lv_iload_n hx hb d_L_multiply_8 rfl (lv_at hl 3 rfl) ?_
  by_cases h_b : isR b
  rotate_left
  · refine xcS (As := [.int b]) hx hb hC hz9 hw (x_L_needRegister l hst9 T V K I O b h_b) lk_L_55 rfl rfl ⟨by show 6 + 1 ≤ R.frames; omega, by show 8 + (1 + 11) + 90 ≤ R.locals; omega⟩ rfl hl.1 rfl (Nat.le_of_ble_eq_true rfl) hRc d_L_multiply_9 (fun V9 K9 H9 locs9 ce9 q9 hP9 hw9 h91 h92 h93 => ?_)
    exact hout _ V9 K9 _ _ _ _ _ _ _ (eP_1 (ocF_1 fun h => h_b h.2.2)) (cQ_x hc hP9) hw9 h91 h92 h93
  obtain ⟨j, hj9, rfl⟩ := isR_of h_b
  have hl : lv_has ls 4 [(0, .ref (wa T 84)), (1, .int (nI x)), (2, .int (nI i)), (3, .int (nI j))] := hl
  refine wcS_v (As := [.int (nI j)]) hx hb hC hw (k_L_needRegister l T V K I O j hj9) lk_L_55 rfl rfl ⟨by show 6 + 1 ≤ R.frames; omega, by show 8 + (1 + 11) + 90 ≤ R.locals; omega⟩ rfl hl.1 rfl (Nat.le_of_ble_eq_true rfl) ⟨Nat.zero_le _, Nat.zero_le _⟩ d_L_multiply_9 (fun H locs hw => ?_)
  have gg : isR (nI x) ∧ isR (nI i) ∧ isR (nI j) := ⟨isR_nI hx9, isR_nI hi9, isR_nI hj9⟩
  refine lv_aload_n hx hb d_L_multiply_12 rfl (lv_at hl 0 rfl) ?_
  refine wg_Self_answer hx hb hC hw bw_186 d_L_multiply_13 ?_
  refine lv_aload_n hx hb d_L_multiply_16 rfl (lv_at hl 0 rfl) ?_
  refine wg_Self_registers hx hb hC hw bw_185 d_L_multiply_17 ?_
  refine lv_iload_n hx hb d_L_multiply_20 rfl (lv_at hl 2 rfl) ?_
  refine wl_regs hx hb hw (by omega) d_L_multiply_21 ?_
  refine lv_aload_n hx hb d_L_multiply_22 rfl (lv_at hl 0 rfl) ?_
  refine wg_Self_registers hx hb hC hw bw_185 d_L_multiply_23 ?_
  refine lv_iload_n hx hb d_L_multiply_26 rfl (lv_at hl 3 rfl) ?_
  refine wl_regs hx hb hw (by omega) d_L_multiply_27 ?_
  refine wcV_v (As := [.ref (wa T (68 + i)), .ref (wa T (68 + j))]) hx hb hC hw (k_W_takeProduct l T V K I O 12 i j (by omega) (by omega) (by omega) (by omega) (by omega) (by have := k37 (hc.lt hi9); have := k37 (hc.lt hj9); omega) (decide (z i < 0)) (decide (z j < 0)) (hc.1 i hi9).2.2 (hc.1 j hj9).2.2 hc.2) lk_L_82 rfl rfl ⟨by show 3 + 1 ≤ R.frames; omega, by show 8 + (3 + 11) + 69 ≤ R.locals; omega⟩ (by omega) (we_Whole (by omega)) rfl rfl hl.1 rfl (Nat.le_of_ble_eq_true rfl) ⟨Nat.zero_le _, Nat.zero_le _⟩ d_L_multiply_28 (fun H locs hw => ?_)
  have e1 : V i * V j = (z i * z j).natAbs := by rw [(hc.1 i hi9).2.1, (hc.1 j hj9).2.1, Int.natAbs_mul]
  have e2 : ((decide (z i < 0) != decide (z j < 0)) && !decide (V i * V j = 0)) = decide (z i * z j < 0) := by rw [(hc.1 i hi9).2.1, (hc.1 j hj9).2.1]; exact mul_sgn _ _
  rw [e2, e1] at hw
  have hl9 : (z i * z j).natAbs < vLim := mul_lim (hc.1 i hi9).1 (hc.1 j hj9).1
  have hc1 : cI z (va_up V 12 (z i * z j).natAbs) (va_up K 12 (bI (decide (z i * z j < 0)))) := (hc.out (by omega) hl9).outK (by omega)
  have e12 : (va_up V 12 (z i * z j).natAbs) 12 = (z i * z j).natAbs := va_up_self _ _ _
  refine lv_aload_n hx hb d_L_multiply_31 rfl (lv_at hl 0 rfl) ?_
  refine lv_iload_n hx hb d_L_multiply_32 rfl (lv_at hl 1 rfl) ?_
  by_cases hfit : (z i * z j).natAbs < m1024
  rotate_left
  · refine xcV (As := [.int (nI x)]) hx hb hC hz9 hw (x_L_keepAnswer l hst9 T (va_up V 12 (z i * z j).natAbs) (va_up K 12 (bI (decide (z i * z j < 0)))) I O x (by rw [e12]; exact hfit) hc1.2) lk_L_79 rfl rfl ⟨by show 6 + 1 ≤ R.frames; omega, by show 8 + (2 + 11) + 90 ≤ R.locals; omega⟩ (by omega) (we_Self ) rfl rfl hl.1 rfl (Nat.le_of_ble_eq_true rfl) hRc d_L_multiply_33 (fun V9 K9 H9 locs9 ce9 q9 hP9 hw9 h91 h92 h93 => ?_)
    exact hout _ V9 K9 _ _ _ _ _ _ _ (eP_k (k := 2) (ocF_2 gg (by rw [rg_nI hi9, rg_nI hj9]; exact hfit)) (List.mem_cons_of_mem _ List.mem_cons_self)) (by obtain ⟨rfl, rfl⟩ := hP9; exact ⟨hc1, va_up_ne _ _ (by omega), va_up_ne _ _ (by omega), va_up_ne _ _ (by omega)⟩) hw9 h91 h92 h93
  refine wcV_v (As := [.int (nI x)]) hx hb hC hw (k_L_keepAnswer l T (va_up V 12 (z i * z j).natAbs) (va_up K 12 (bI (decide (z i * z j < 0)))) I O x hx9 (decide (z i * z j < 0)) (va_up_self _ _ _) (by rw [e12]; exact hfit) hc1.2) lk_L_79 rfl rfl ⟨by show 6 + 1 ≤ R.frames; omega, by show 8 + (2 + 11) + 90 ≤ R.locals; omega⟩ (by omega) (we_Self ) rfl rfl hl.1 rfl (Nat.le_of_ble_eq_true rfl) ⟨Nat.zero_le _, Nat.zero_le _⟩ d_L_multiply_33 (fun H locs hw => ?_)
  exact yv hrt (Nat.zero_le _) (Nat.zero_le _) hx hb (⟨ocF_0 gg (by rw [rg_nI hi9, rg_nI hj9]; exact hfit), by rw [rg_nI hx9, rg_nI hi9, rg_nI hj9]; exact cQ_keep hc hx9 hfit⟩) hw d_L_multiply_36
