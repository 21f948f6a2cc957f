/-! LimbRegisters: compare, bits, bit, low, type, wipe, parse, print, character -/
def tyC (n9 N : Nat) (n : Int32) : Nat := if nI 1 ≤ n ∧ n ≤ nI 8 ∧ arC N (rg n) = true then (if n9 + rg n ≤ 1200 then 0 else 2) else 1
def rdW (tx : Nat → Nat) (n9 b : Nat) : Nat := rdS tx b (n9 - sgN n9 tx) (sgN n9 tx) 0
def psC (tx : Nat → Nat) (n9 : Nat) (r b : Int32) : Nat := if isR r then (if isX b then (if nmB tx n9 (rg b) = true then (if rdW tx n9 (rg b) < m1024 then 0 else 4) else 3) else 2) else 1
def psW (tx : Nat → Nat) (n9 b : Nat) : Int := sgI (decide (sgN n9 tx = 1)) (rdW tx n9 b)
def prC (a b : Int32) : Nat := if isR a then (if isX b then 0 else 2) else 1
theorem arC_lt {N n : Nat} (h : arC N n = true) : ∀ j, j < n → N / 2 ^ (8 * j) % 256 < 128 := fun j hj => by
  apply Decidable.byContradiction; intro q
  rw [arC_f hj (fun g => by omega)] at h; cases h
theorem in8_nI {n : Int32} (h1 : nI 1 ≤ n) (h8 : n ≤ nI 8) : ∃ k, 0 < k ∧ k ≤ 8 ∧ n = nI k := by
  obtain ⟨k, h0, h2, rfl⟩ := ge1_nI h1
  exact ⟨k, h0, (nI_leI h2 (by decide)).mp h8, rfl⟩
theorem rdS_lt (tx : Nat → Nat) (b : Nat) (hb : b ≤ 36) (hd : ∀ i, dgN (tx i) ≤ 99) : ∀ (m i acc : Nat), acc < m1030 → rdS tx b m i acc < m1030
  | 0, _, _, h => h
  | m + 1, i, acc, h => by
    show (if acc < m1024 then _ else _) < _
    split
    · rename_i q
      refine rdS_lt tx b hb hd m (i + 1) _ ?_
      have h1 : acc * b ≤ acc * 36 := Nat.mul_le_mul_left _ hb
      have h2 := hd i
      have h3 : m1030 = m1024 * 64 := by unfold m1030 m1024; rw [show (64 : Nat) = 2 ^ 6 from rfl, ← Nat.pow_add]
      have h4 : 99 < m1024 := Nat.lt_of_lt_of_le (show 99 < 2 ^ 7 by decide) (Nat.pow_le_pow_right (by decide) (by decide))
      omega
    · exact h

set_option maxRecDepth 100000 in
set_option maxHeartbeats 4000000 in
theorem x_L_compare (l : Launch) (hst9 : l.stackTraces = false) (T : wT) (V : Nat → Nat) (K : wUt) (I : wIt) (O : wOt) (z : Nat → Int) (hc : cI z V K) (a b : Int32) : vx_Met l y_L_compare (.code y_L_compare c_L_compare 3 (some .int) :: bg) ({ frames := 7, cells := 1, slots := 6, locals := 110 } : Room) (mPx T (fF V) (fU V) K I O [.ref (wa T 84), .int a, .int b]) (mQi2 T (fun x9 V' K' => ocG (isR a ∧ isR b) 0 = 0 ∧ x9 = cmpI (z (rg a)) (z (rg b)) ∧ cQ z K (K 14) V' K') I O) (xXm T (eP (ocG (isR a ∧ isR b) 0) [(eIX, 1)]) (cQ z K (K 14)) I O) 1 6 (wA T) := by
  refine yM rfl hst9 (Nat.le_of_ble_eq_true rfl) rfl rfl ?_
  intro p e R s m args below meth c Q ls hx hb hC hRf hRl hRc hz9 hrt hout hthr hl hw
  have hRf : 7 ≤ R.frames := hRf
  have hRl : 110 ≤ R.locals := hRl
  have hl : lv_has ls 3 [(0, .ref (wa T 84)), (1, .int a), (2, .int b)] := hl
  refine lv_iload_n hx hb d_L_compare_0 rfl (lv_at hl 1 rfl) ?_
  by_cases h_a : isR a
  rotate_left
  · refine xcS (As := [.int a]) hx hb hC hz9 hw (x_L_needRegister l hst9 T V K I O a h_a) lk_L_55 rfl rfl ⟨by show 6 + 1 ≤ R.frames; omega, by show 8 + (1 + 11) + 90 ≤ R.locals; omega⟩ rfl hl.1 rfl (Nat.le_of_ble_eq_true rfl) hRc d_L_compare_1 (fun V9 K9 H9 locs9 ce9 q9 hP9 hw9 h91 h92 h93 => ?_)
    exact hout _ V9 K9 _ _ _ _ _ _ _ (eP_1 (ocG_1 fun h => h_a h.1)) (cQ_x hc hP9) hw9 h91 h92 h93
  obtain ⟨i, hi9, rfl⟩ := isR_of h_a
  have hl : lv_has ls 3 [(0, .ref (wa T 84)), (1, .int (nI i)), (2, .int b)] := hl
  refine wcS_v (As := [.int (nI i)]) hx hb hC hw (k_L_needRegister l T V K I O i hi9) lk_L_55 rfl rfl ⟨by show 6 + 1 ≤ R.frames; omega, by show 8 + (1 + 11) + 90 ≤ R.locals; omega⟩ rfl hl.1 rfl (Nat.le_of_ble_eq_true rfl) ⟨Nat.zero_le _, Nat.zero_le _⟩ d_L_compare_1 (fun H locs hw => ?_)
  refine lv_iload_n hx hb d_L_compare_4 rfl (lv_at hl 2 rfl) ?_
  by_cases h_b : isR b
  rotate_left
  · refine xcS (As := [.int b]) hx hb hC hz9 hw (x_L_needRegister l hst9 T V K I O b h_b) lk_L_55 rfl rfl ⟨by show 6 + 1 ≤ R.frames; omega, by show 8 + (1 + 11) + 90 ≤ R.locals; omega⟩ rfl hl.1 rfl (Nat.le_of_ble_eq_true rfl) hRc d_L_compare_5 (fun V9 K9 H9 locs9 ce9 q9 hP9 hw9 h91 h92 h93 => ?_)
    exact hout _ V9 K9 _ _ _ _ _ _ _ (eP_1 (ocG_1 fun h => h_b h.2)) (cQ_x hc hP9) hw9 h91 h92 h93
  obtain ⟨j, hj9, rfl⟩ := isR_of h_b
  have hl : lv_has ls 3 [(0, .ref (wa T 84)), (1, .int (nI i)), (2, .int (nI j))] := hl
  refine wcS_v (As := [.int (nI j)]) hx hb hC hw (k_L_needRegister l T V K I O j hj9) lk_L_55 rfl rfl ⟨by show 6 + 1 ≤ R.frames; omega, by show 8 + (1 + 11) + 90 ≤ R.locals; omega⟩ rfl hl.1 rfl (Nat.le_of_ble_eq_true rfl) ⟨Nat.zero_le _, Nat.zero_le _⟩ d_L_compare_5 (fun H locs hw => ?_)
  refine lv_aload_n hx hb d_L_compare_8 rfl (lv_at hl 0 rfl) ?_
  refine wg_Self_registers hx hb hC hw bw_185 d_L_compare_9 ?_
  refine lv_iload_n hx hb d_L_compare_12 rfl (lv_at hl 1 rfl) ?_
  refine wl_regs hx hb hw (by omega) d_L_compare_13 ?_
  refine lv_aload_n hx hb d_L_compare_14 rfl (lv_at hl 0 rfl) ?_
  refine wg_Self_registers hx hb hC hw bw_185 d_L_compare_15 ?_
  refine lv_iload_n hx hb d_L_compare_18 rfl (lv_at hl 2 rfl) ?_
  refine wl_regs hx hb hw (by omega) d_L_compare_19 ?_
  refine wcV_i (As := [.ref (wa T (68 + j))]) hx hb hC hw (k_W_order l T V K I O i j (by omega) (by omega) (decide (z i < 0)) (decide (z j < 0)) (hc.1 i hi9).2.2 (hc.1 j hj9).2.2 hc.2) lk_L_182 rfl rfl ⟨by show 1 + 1 ≤ R.frames; omega, by show 8 + (2 + 11) + 22 ≤ R.locals; omega⟩ (by omega) (we_Whole (by omega)) rfl rfl hl.1 rfl (Nat.le_of_ble_eq_true rfl) ⟨Nat.zero_le _, Nat.zero_le _⟩ d_L_compare_20 (fun H locs hw => ?_)
  exact yi hrt (Nat.zero_le _) (Nat.zero_le _) hx hb (⟨ocG_k ⟨isR_nI hi9, isR_nI hj9⟩, by rw [rg_nI hi9, rg_nI hj9, (hc.1 i hi9).2.1, (hc.1 j hj9).2.1]; exact cmpI_eq _ _, hc.q⟩) hw d_L_compare_23
set_option maxRecDepth 100000 in
set_option maxHeartbeats 4000000 in
theorem x_L_bits (l : Launch) (hst9 : l.stackTraces = false) (T : wT) (V : Nat → Nat) (K : wUt) (I : wIt) (O : wOt) (z : Nat → Int) (hc : cI z V K) (a : Int32) : vx_Met l y_L_bits (.code y_L_bits c_L_bits 2 (some .int) :: bg) ({ frames := 7, cells := 1, slots := 6, locals := 110 } : Room) (mPx T (fF V) (fU V) K I O [.ref (wa T 84), .int a]) (mQi2 T (fun x9 V' K' => ocG (isR a) 0 = 0 ∧ x9 = nI (bl (z (rg a)).natAbs) ∧ cQ z K (K 14) V' K') I O) (xXm T (eP (ocG (isR a) 0) [(eIX, 1)]) (cQ z K (K 14)) I O) 1 6 (wA T) := by
  refine yM rfl hst9 (Nat.le_of_ble_eq_true rfl) rfl rfl ?_
  intro p e R s m args below meth c Q ls hx hb hC hRf hRl hRc hz9 hrt hout hthr hl hw
  have hRf : 7 ≤ R.frames := hRf
  have hRl : 110 ≤ R.locals := hRl
  have hl : lv_has ls 2 [(0, .ref (wa T 84)), (1, .int a)] := hl
  refine lv_iload_n hx hb d_L_bits_0 rfl (lv_at hl 1 rfl) ?_
  by_cases h_a : isR a
  rotate_left
  · refine xcS (As := [.int a]) hx hb hC hz9 hw (x_L_needRegister l hst9 T V K I O a h_a) lk_L_55 rfl rfl ⟨by show 6 + 1 ≤ R.frames; omega, by show 8 + (1 + 11) + 90 ≤ R.locals; omega⟩ rfl hl.1 rfl (Nat.le_of_ble_eq_true rfl) hRc d_L_bits_1 (fun V9 K9 H9 locs9 ce9 q9 hP9 hw9 h91 h92 h93 => ?_)
    exact hout _ V9 K9 _ _ _ _ _ _ _ (eP_1 (ocG_1 h_a)) (cQ_x hc hP9) hw9 h91 h92 h93
  obtain ⟨i, hi9, rfl⟩ := isR_of h_a
  have hl : lv_has ls 2 [(0, .ref (wa T 84)), (1, .int (nI i))] := hl
  refine wcS_v (As := [.int (nI i)]) hx hb hC hw (k_L_needRegister l T V K I O i hi9) lk_L_55 rfl rfl ⟨by show 6 + 1 ≤ R.frames; omega, by show 8 + (1 + 11) + 90 ≤ R.locals; omega⟩ rfl hl.1 rfl (Nat.le_of_ble_eq_true rfl) ⟨Nat.zero_le _, Nat.zero_le _⟩ d_L_bits_1 (fun H locs hw => ?_)
  refine lv_aload_n hx hb d_L_bits_4 rfl (lv_at hl 0 rfl) ?_
  refine wg_Self_registers hx hb hC hw bw_185 d_L_bits_5 ?_
  refine lv_iload_n hx hb d_L_bits_8 rfl (lv_at hl 1 rfl) ?_
  refine wl_regs hx hb hw (by omega) d_L_bits_9 ?_
  refine wg_Whole_size hx hb hC hw (by omega) bw_55 d_L_bits_10 ?_
  refine wcV_i (As := []) hx hb hC hw (k_N_length l T V K I O i (by omega) hc.2) lk_L_128 rfl rfl ⟨by show 3 + 1 ≤ R.frames; omega, by show 8 + (1 + 11) + 63 ≤ R.locals; omega⟩ (by omega) (we_Natural (by omega)) rfl rfl hl.1 rfl (Nat.le_of_ble_eq_true rfl) ⟨Nat.zero_le _, Nat.zero_le _⟩ d_L_bits_13 (fun H locs hw => ?_)
  exact yi hrt (Nat.zero_le _) (Nat.zero_le _) hx hb (⟨ocG_k (isR_nI hi9), by rw [rg_nI hi9, (hc.1 i hi9).2.1], hc.q⟩) hw d_L_bits_16
set_option maxRecDepth 100000 in
set_option maxHeartbeats 4000000 in
theorem x_L_bit (l : Launch) (hst9 : l.stackTraces = false) (T : wT) (V : Nat → Nat) (K : wUt) (I : wIt) (O : wOt) (z : Nat → Int) (hc : cI z V K) (a n : Int32) : vx_Met l y_L_bit (.code y_L_bit c_L_bit 3 (some .boolean) :: bg) ({ frames := 7, cells := 1, slots := 6, locals := 110 } : Room) (mPx T (fF V) (fU V) K I O [.ref (wa T 84), .int a, .int n]) (mQi2 T (fun x9 V' K' => ocG (isR a ∧ 0 ≤ n) 0 = 0 ∧ x9 = bitI (z (rg a)) (rg n) ∧ cQ z K (K 14) V' K') I O) (xXm T (eP (ocG (isR a ∧ 0 ≤ n) 0) [(eIX, 1)]) (cQ z K (K 14)) I O) 1 6 (wA T) := by
  refine yM rfl hst9 (Nat.le_of_ble_eq_true rfl) rfl rfl ?_
  intro p e R s m args below meth c Q ls hx hb hC hRf hRl hRc hz9 hrt hout hthr hl hw
  have hRf : 7 ≤ R.frames := hRf
  have hRl : 110 ≤ R.locals := hRl
  have hl : lv_has ls 3 [(0, .ref (wa T 84)), (1, .int a), (2, .int n)] := hl
  refine lv_iload_n hx hb d_L_bit_0 rfl (lv_at hl 1 rfl) ?_
  by_cases h_a : isR a
  rotate_left
  · refine xcS (As := [.int a]) hx hb hC hz9 hw (x_L_needRegister l hst9 T V K I O a h_a) lk_L_55 rfl rfl ⟨by show 6 + 1 ≤ R.frames; omega, by show 8 + (1 + 11) + 90 ≤ R.locals; omega⟩ rfl hl.1 rfl (Nat.le_of_ble_eq_true rfl) hRc d_L_bit_1 (fun V9 K9 H9 locs9 ce9 q9 hP9 hw9 h91 h92 h93 => ?_)
    exact hout _ V9 K9 _ _ _ _ _ _ _ (eP_1 (ocG_1 fun h => h_a h.1)) (cQ_x hc hP9) hw9 h91 h92 h93
  obtain ⟨i, hi9, rfl⟩ := isR_of h_a
  have hl : lv_has ls 3 [(0, .ref (wa T 84)), (1, .int (nI i)), (2, .int n)] := hl
  refine wcS_v (As := [.int (nI i)]) hx hb hC hw (k_L_needRegister l T V K I O i hi9) lk_L_55 rfl rfl ⟨by show 6 + 1 ≤ R.frames; omega, by show 8 + (1 + 11) + 90 ≤ R.locals; omega⟩ rfl hl.1 rfl (Nat.le_of_ble_eq_true rfl) ⟨Nat.zero_le _, Nat.zero_le _⟩ d_L_bit_1 (fun H locs hw => ?_)
  refine lv_iload_n hx hb d_L_bit_4 rfl (lv_at hl 2 rfl) ?_
  refine lv_if_ge (tgt := 18) hx hb d_L_bit_5 (by decide) (fun hn => ?_) (fun hn => ?_)
  · have hoc : ocG (isR (nI i) ∧ 0 ≤ n) 0 = 0 := ocG_k ⟨isR_nI hi9, hn⟩
    obtain ⟨k, hk1, rfl⟩ := nn_nI hn
    have hl : lv_has ls 3 [(0, .ref (wa T 84)), (1, .int (nI i)), (2, .int (nI k))] := hl
    refine lv_aload_n hx hb d_L_bit_18 rfl (lv_at hl 0 rfl) ?_
    refine wg_Self_registers hx hb hC hw bw_185 d_L_bit_19 ?_
    refine lv_iload_n hx hb d_L_bit_22 rfl (lv_at hl 1 rfl) ?_
    refine wl_regs hx hb hw (by omega) d_L_bit_23 ?_
    refine lv_iload_n hx hb d_L_bit_24 rfl (lv_at hl 2 rfl) ?_
    refine wcV_z (As := [.int (nI k)]) hx hb hC hw (k_W_isOddAfter l T V K I O i k (by omega) hk1 (decide (z i < 0)) (hc.1 i hi9).2.2 hc.2) lk_L_191 rfl rfl ⟨by show 2 + 1 ≤ R.frames; omega, by show 8 + (2 + 11) + 44 ≤ R.locals; omega⟩ (by omega) (we_Whole (by omega)) rfl rfl hl.1 rfl (Nat.le_of_ble_eq_true rfl) ⟨Nat.zero_le _, Nat.zero_le _⟩ d_L_bit_25 (fun H locs hw => ?_)
    exact yz (zN _) hrt (Nat.zero_le _) (Nat.zero_le _) hx hb (⟨hoc, by rw [rg_nI hi9, rg_k hk1, (hc.1 i hi9).2.1]; rfl, hc.q⟩) hw d_L_bit_28
  · exact hthr _ _ _ _ _ _ _ _ _ _ _ _ _ xt_188 (eP_1 (ocG_1 fun h => hn h.2)) (hc.q) hw hl.1 d_L_bit_8 d_L_bit_11 d_L_bit_12 d_L_bit_14 d_L_bit_17 (by show 2 + 3 < R.frames; omega) (by show 0 + (13 * (2 + 1) + 43) ≤ R.locals; omega)
set_option maxRecDepth 100000 in
set_option maxHeartbeats 4000000 in
theorem x_L_low (l : Launch) (hst9 : l.stackTraces = false) (T : wT) (V : Nat → Nat) (K : wUt) (I : wIt) (O : wOt) (z : Nat → Int) (hc : cI z V K) (a : Int32) : vx_Met l y_L_low (.code y_L_low c_L_low 4 (some .long) :: bg) ({ frames := 7, cells := 1, slots := 6, locals := 110 } : Room) (mPx T (fF V) (fU V) K I O [.ref (wa T 84), .int a]) (mQl2 T (fun x9 V' K' => ocG (isR a) 0 = 0 ∧ x9 = lowI (z (rg a)) ∧ cQ z K (K 14) V' K') I O) (xXm T (eP (ocG (isR a) 0) [(eIX, 1)]) (cQ z K (K 14)) I O) 1 6 (wA T) := by
  refine yM rfl hst9 (Nat.le_of_ble_eq_true rfl) rfl rfl ?_
  intro p e R s m args below meth c Q ls hx hb hC hRf hRl hRc hz9 hrt hout hthr hl hw
  have hRf : 7 ≤ R.frames := hRf
  have hRl : 110 ≤ R.locals := hRl
  have hl : lv_has ls 4 [(0, .ref (wa T 84)), (1, .int a)] := hl
  refine lv_iload_n hx hb d_L_low_0 rfl (lv_at hl 1 rfl) ?_
  by_cases h_a : isR a
  rotate_left
  · refine xcS (As := [.int a]) hx hb hC hz9 hw (x_L_needRegister l hst9 T V K I O a h_a) lk_L_55 rfl rfl ⟨by show 6 + 1 ≤ R.frames; omega, by show 8 + (1 + 11) + 90 ≤ R.locals; omega⟩ rfl hl.1 rfl (Nat.le_of_ble_eq_true rfl) hRc d_L_low_1 (fun V9 K9 H9 locs9 ce9 q9 hP9 hw9 h91 h92 h93 => ?_)
    exact hout _ V9 K9 _ _ _ _ _ _ _ (eP_1 (ocG_1 h_a)) (cQ_x hc hP9) hw9 h91 h92 h93
  obtain ⟨i, hi9, rfl⟩ := isR_of h_a
  have hl : lv_has ls 4 [(0, .ref (wa T 84)), (1, .int (nI i))] := hl
  refine wcS_v (As := [.int (nI i)]) hx hb hC hw (k_L_needRegister l T V K I O i hi9) lk_L_55 rfl rfl ⟨by show 6 + 1 ≤ R.frames; omega, by show 8 + (1 + 11) + 90 ≤ R.locals; omega⟩ rfl hl.1 rfl (Nat.le_of_ble_eq_true rfl) ⟨Nat.zero_le _, Nat.zero_le _⟩ d_L_low_1 (fun H locs hw => ?_)
  refine lv_aload_n hx hb d_L_low_4 rfl (lv_at hl 0 rfl) ?_
  refine wg_Self_registers hx hb hC hw bw_185 d_L_low_5 ?_
  refine lv_iload_n hx hb d_L_low_8 rfl (lv_at hl 1 rfl) ?_
  refine wl_regs hx hb hw (by omega) d_L_low_9 ?_
  refine wg_Whole_size hx hb hC hw (by omega) bw_55 d_L_low_10 ?_
  refine wcV_l (As := []) hx hb hC hw (k_N_lowLong l T V K I O i (by omega) hc.2) lk_L_195 rfl rfl ⟨by show 1 + 1 ≤ R.frames; omega, by show 8 + (1 + 11) + 21 ≤ R.locals; omega⟩ (by omega) (we_Natural (by omega)) rfl rfl hl.1 rfl (Nat.le_of_ble_eq_true rfl) ⟨Nat.zero_le _, Nat.zero_le _⟩ d_L_low_13 (fun H locs hw => ?_)
  have hKi := (hc.1 i hi9).2.2
  refine lv_lstore_n hx hb d_L_low_16 rfl hl (by decide) rfl (fun ls hl => ?_)
  have hl : lv_has ls 4 [(2, .long (lN (V i))), (0, .ref (wa T 84)), (1, .int (nI i))] := hl
  refine lv_aload_n hx hb d_L_low_17 rfl (lv_at hl 1 rfl) ?_
  refine wg_Self_registers hx hb hC hw bw_185 d_L_low_18 ?_
  refine lv_iload_n hx hb d_L_low_21 rfl (lv_at hl 2 rfl) ?_
  refine wl_regs hx hb hw (by omega) d_L_low_22 ?_
  refine wg_Whole_below hx hb hC hw (by omega) bw_59 d_L_low_23 ?_
  by_cases hz : z i < 0
  · refine sw_i (y := nI 1) (by rw [hKi, ng_t hz]; rfl) ?_
    refine n_if_eq (tgt := 34) hx hb d_L_low_26 (by decide) (by omega) (fun hw9 => ?_) (fun hw9 => ?_)
    · exact absurd hw9 (by decide)
    · refine lv_lload_n hx hb d_L_low_29 rfl (lv_at hl 0 rfl) ?_
      refine lv_lneg hx hb d_L_low_30 ?_
      refine lv_goto (tgt := 35) hx hb d_L_low_31 (by decide) ?_
      exact yl hrt (Nat.zero_le _) (Nat.zero_le _) hx hb (⟨ocG_k (isR_nI hi9), by rw [rg_nI hi9, (hc.1 i hi9).2.1]; unfold lowI; rw [if_pos hz], hc.q⟩) hw d_L_low_35
  · refine sw_i (y := nI 0) (by rw [hKi, ng_f hz]; rfl) ?_
    refine n_if_eq (tgt := 34) hx hb d_L_low_26 (by decide) (by omega) (fun hw9 => ?_) (fun hw9 => ?_)
    · refine lv_lload_n hx hb d_L_low_34 rfl (lv_at hl 0 rfl) ?_
      exact yl hrt (Nat.zero_le _) (Nat.zero_le _) hx hb (⟨ocG_k (isR_nI hi9), by rw [rg_nI hi9, (hc.1 i hi9).2.1]; unfold lowI; rw [if_neg hz], hc.q⟩) hw d_L_low_35
    · exact absurd hw9 (by decide)
set_option maxRecDepth 100000 in
set_option maxHeartbeats 4000000 in
theorem x_L_type (l : Launch) (hst9 : l.stackTraces = false) (T : wT) (V : Nat → Nat) (K : wUt) (I : wIt) (O : wOt) (z : Nat → Int) (hc : cI z V K) (n9 : Nat) (tx : Nat → Nat) (hn9 : n9 ≤ 1200) (hK : K 14 = nI n9) (hI : I 0 = tI tx) (ht : ∀ i, tx i < 128) (N : Nat) (hN : N < 2 ^ 64) (n : Int32) : vx_Met l y_L_type (.code y_L_type c_L_type 4 (some .int) :: bg) ({ frames := 6, cells := 1, slots := 6, locals := 90 } : Room) (mPx T (fF V) (fU V) K I O [.ref (wa T 84), .long (lN N), .int n]) (mQi2 T (fun x9 V' K' => tyC n9 N n = 0 ∧ x9 = nI (n9 + rg n) ∧ cQ z K (nI (n9 + rg n)) V' K') (va_up I 0 (tI (apT tx n9 N (rg n)))) O) (xXm T (eP (tyC n9 N n) [(eIA, 1), (eIS, 2)]) (cQ z K (K 14)) I O) 1 6 (wA T) := by
  refine yM rfl hst9 (Nat.le_of_ble_eq_true rfl) rfl rfl ?_
  intro p e R s m args below meth c Q ls hx hb hC hRf hRl hRc hz9 hrt hout hthr hl hw
  have hRf : 6 ≤ R.frames := hRf
  have hRl : 90 ≤ R.locals := hRl
  have hl : lv_has ls 4 [(0, .ref (wa T 84)), (1, .long (lN N)), (3, .int n)] := hl
  refine lv_iload_n hx hb d_L_type_0 rfl (lv_at hl 2 rfl) ?_
  refine lv_iconst (v := nI 1) hx hb d_L_type_1 (by decide +kernel) ?_
  refine lv_icmp_lt (tgt := 11) hx hb d_L_type_2 (by decide) (fun h1 => ?_) (fun h1 => ?_)
  · exact hthr _ _ _ _ _ _ _ _ _ _ _ _ _ xt_199 (eP_k (k := 1) (if_neg fun h => absurd h1 (Int32.not_lt.mpr h.1)) List.mem_cons_self) (hc.q) hw hl.1 d_L_type_11 d_L_type_14 d_L_type_15 d_L_type_17 d_L_type_20 (by show 2 + 3 < R.frames; omega) (by show 0 + (13 * (2 + 1) + 43) ≤ R.locals; omega)
  · replace h1 := Int32.not_lt.mp h1
    refine lv_iload_n hx hb d_L_type_5 rfl (lv_at hl 2 rfl) ?_
    refine lv_bipush (v := nI 8) hx hb d_L_type_6 (by decide +kernel) ?_
    refine lv_icmp_le (tgt := 21) hx hb d_L_type_8 (by decide) (fun h8 => ?_) (fun h8 => ?_)
    · obtain ⟨k, hk0, hk8, rfl⟩ := in8_nI h1 h8
      have hrk : rg (nI k) = k := rg_k (by omega)
      have hl : lv_has ls 4 [(0, .ref (wa T 84)), (1, .long (lN N)), (3, .int (nI k))] := hl
      refine lv_lload_n hx hb d_L_type_21 rfl (lv_at hl 1 rfl) ?_
      refine lv_iload_n hx hb d_L_type_22 rfl (lv_at hl 2 rfl) ?_
      refine wcS_z (As := [.long (lN N), .int (nI k)]) hx hb hC hw (k_T_areCharacters l T (fF V) (fU V) K I O N k hN hk8) lk_L_201 rfl rfl ⟨by show 1 + 1 ≤ R.frames; omega, by show 8 + (5 + 11) + 22 ≤ R.locals; omega⟩ rfl hl.1 rfl (Nat.le_of_ble_eq_true rfl) ⟨Nat.zero_le _, Nat.zero_le _⟩ d_L_type_23 (fun H locs hw => ?_)
      by_cases har : arC N k = true
      · refine sw_i (y := nI 1) (by rw [har]; rfl) ?_
        refine n_if_ne (tgt := 39) hx hb d_L_type_26 (by decide) (by omega) (fun hw9 => ?_) (fun hw9 => ?_)
        · refine lv_aload_n hx hb d_L_type_39 rfl (lv_at hl 0 rfl) ?_
          refine wg_Self_text hx hb hC hw bw_187 d_L_type_40 ?_
          refine wg_Text_count hx hb hC hw bw_75 d_L_type_43 ?_
          refine sw_i (y := nI n9) (hK) ?_
          refine lv_iload_n hx hb d_L_type_46 rfl (lv_at hl 2 rfl) ?_
          refine n_iadd hx hb d_L_type_47 ?_
          refine lv_sipush (v := nI 1200) hx hb d_L_type_48 (by decide +kernel) ?_
          refine n_icmp_le (tgt := 64) hx hb d_L_type_51 (by decide) (by omega) (by omega) (fun h12 => ?_) (fun h12 => ?_)
          · refine lv_aload_n hx hb d_L_type_64 rfl (lv_at hl 0 rfl) ?_
            refine wg_Self_text hx hb hC hw bw_187 d_L_type_65 ?_
            refine lv_lload_n hx hb d_L_type_68 rfl (lv_at hl 1 rfl) ?_
            refine lv_iload_n hx hb d_L_type_69 rfl (lv_at hl 2 rfl) ?_
            refine wcV_v (As := [.long (lN N), .int (nI k)]) hx hb hC hw (k_T_appendAll l T (fF V) (fU V) K I O N k n9 tx hN (arC_lt har) hk8 h12 hK hI) lk_L_216 rfl rfl ⟨by show 1 + 1 ≤ R.frames; omega, by show 8 + (5 + 11) + 22 ≤ R.locals; omega⟩ (by omega) (we_Text ) rfl rfl hl.1 rfl (Nat.le_of_ble_eq_true rfl) ⟨Nat.zero_le _, Nat.zero_le _⟩ d_L_type_70 (fun H locs hw => ?_)
            refine lv_aload_n hx hb d_L_type_73 rfl (lv_at hl 0 rfl) ?_
            refine wg_Self_text hx hb hC hw bw_187 d_L_type_74 ?_
            refine wg_Text_count hx hb hC hw bw_75 d_L_type_77 ?_
            refine sw_i (y := nI (n9 + k)) (va_up_self _ _ _) ?_
            have eI : va_up I 0 (tI (apT tx n9 N k)) = va_up I 0 (tI (apT tx n9 N (rg (nI k)))) := by rw [hrk]
            rw [eI] at hw
            exact yi hrt (Nat.zero_le _) (Nat.zero_le _) hx hb (⟨by unfold tyC; rw [hrk, if_pos ⟨h1, h8, har⟩, if_pos h12], by rw [hrk], by rw [hrk]; exact ⟨hc.outK (by omega), va_up_self _ _ _, (va_up_ne _ _ (by omega)), (va_up_ne _ _ (by omega))⟩⟩) hw d_L_type_80
          · exact hthr _ _ _ _ _ _ _ _ _ _ _ _ _ xt_213 (eP_k (k := 2) (by unfold tyC; rw [hrk, if_pos ⟨h1, h8, har⟩, if_neg (by omega)]) (List.mem_cons_of_mem _ List.mem_cons_self)) (hc.q) hw hl.1 d_L_type_54 d_L_type_57 d_L_type_58 d_L_type_60 d_L_type_63 (by show 2 + 3 < R.frames; omega) (by show 0 + (13 * (2 + 1) + 43) ≤ R.locals; omega)
        · exact absurd hw9 (by decide)
      · refine sw_i (y := nI 0) (by rw [Bool.not_eq_true] at har; rw [har]; rfl) ?_
        refine n_if_ne (tgt := 39) hx hb d_L_type_26 (by decide) (by omega) (fun hw9 => ?_) (fun hw9 => ?_)
        · exact absurd hw9 (by decide)
        · exact hthr _ _ _ _ _ _ _ _ _ _ _ _ _ xt_205 (eP_k (k := 1) (if_neg fun h => har (hrk ▸ h.2.2)) List.mem_cons_self) (hc.q) hw hl.1 d_L_type_29 d_L_type_32 d_L_type_33 d_L_type_35 d_L_type_38 (by show 2 + 3 < R.frames; omega) (by show 0 + (13 * (2 + 1) + 43) ≤ R.locals; omega)
    · exact hthr _ _ _ _ _ _ _ _ _ _ _ _ _ xt_199 (eP_k (k := 1) (if_neg fun h => h8 h.2.1) List.mem_cons_self) (hc.q) hw hl.1 d_L_type_11 d_L_type_14 d_L_type_15 d_L_type_17 d_L_type_20 (by show 2 + 3 < R.frames; omega) (by show 0 + (13 * (2 + 1) + 43) ≤ R.locals; omega)
set_option maxRecDepth 100000 in
set_option maxHeartbeats 4000000 in
theorem k_L_wipe (l : Launch) (T : wT) (V : Nat → Nat) (K : wUt) (I : wIt) (O : wOt) (n9 : Nat) (hK : K 14 = nI n9) : Met l y_L_wipe (.code y_L_wipe c_L_wipe 2 (some .int) :: bg) ({ frames := 0, cells := 0, slots := 0, locals := 0 } : Room) (mP T (fF V) (fU V) K I O [.ref (wa T 84)]) (mQi T (nI n9) (fF V) (fU V) (va_up K 14 (nI 0)) I O) 0 0 (wA T) := by
  refine wM_i (by decide) (Nat.le_of_ble_eq_true rfl) ?_
  intro p e R s m args below meth c Q ls hx hb hC hRf hRl hret hl hw
  have hRf : 0 ≤ R.frames := hRf
  have hRl : 0 ≤ R.locals := hRl
  have hl : lv_has ls 2 [(0, .ref (wa T 84))] := hl
  refine lv_aload_n hx hb d_L_wipe_0 rfl (lv_at hl 0 rfl) ?_
  refine wg_Self_text hx hb hC hw bw_187 d_L_wipe_1 ?_
  refine wg_Text_count hx hb hC hw bw_75 d_L_wipe_4 ?_
  refine sw_i (y := nI n9) (hK) ?_
  refine lv_istore_n hx hb d_L_wipe_7 rfl hl (by decide) rfl (fun ls hl => ?_)
  have hl : lv_has ls 2 [(1, .int (nI n9)), (0, .ref (wa T 84))] := hl
  refine lv_aload_n hx hb d_L_wipe_8 rfl (lv_at hl 1 rfl) ?_
  refine wg_Self_text hx hb hC hw bw_187 d_L_wipe_9 ?_
  refine lv_iconst (v := nI 0) hx hb d_L_wipe_12 (by decide +kernel) ?_
  refine wp_Text_count hx hb hC hw bw_75 d_L_wipe_13 (fun H locs hw => ?_)
  refine lv_iload_n hx hb d_L_wipe_16 rfl (lv_at hl 0 rfl) ?_
  exact hret _ _ _ _ hw d_L_wipe_17
set_option maxRecDepth 100000 in
set_option maxHeartbeats 4000000 in
theorem x_L_parse (l : Launch) (hst9 : l.stackTraces = false) (T : wT) (V : Nat → Nat) (K : wUt) (I : wIt) (O : wOt) (z : Nat → Int) (hc : cI z V K) (n9 : Nat) (tx : Nat → Nat) (hn9 : n9 ≤ 1200) (hK : K 14 = nI n9) (hI : I 0 = tI tx) (ht : ∀ i, tx i < 128) (r b : Int32) : vx_Met l y_L_parse (.code y_L_parse c_L_parse 4 (some .int) :: bg) ({ frames := 7, cells := 1, slots := 6, locals := 111 } : Room) (mPx T (fF V) (fU V) K I O [.ref (wa T 84), .int r, .int b]) (mQi2 T (fun x9 V' K' => psC tx n9 r b = 0 ∧ x9 = nI (n9 - sgN n9 tx) ∧ cQ (va_up z (rg r) (psW tx n9 (rg b))) K (nI 0) V' K') I O) (xXm T (eP (psC tx n9 r b) [(eIX, 1), (eIA, 2), (eIS, 3), (eUO, 4)]) (cQ z K (K 14)) I O) 1 6 (wA T) := by
  refine yM rfl hst9 (Nat.le_of_ble_eq_true rfl) rfl rfl ?_
  intro p e R s m args below meth c Q ls hx hb hC hRf hRl hRc hz9 hrt hout hthr hl hw
  have hRf : 7 ≤ R.frames := hRf
  have hRl : 111 ≤ R.locals := hRl
  have hl : lv_has ls 4 [(0, .ref (wa T 84)), (1, .int r), (2, .int b)] := hl
  refine lv_iload_n hx hb d_L_parse_0 rfl (lv_at hl 1 rfl) ?_
  by_cases h_r : isR r
  rotate_left
  · refine xcS (As := [.int r]) hx hb hC hz9 hw (x_L_needRegister l hst9 T V K I O r h_r) lk_L_55 rfl rfl ⟨by show 6 + 1 ≤ R.frames; omega, by show 8 + (1 + 11) + 90 ≤ R.locals; omega⟩ rfl hl.1 rfl (Nat.le_of_ble_eq_true rfl) hRc d_L_parse_1 (fun V9 K9 H9 locs9 ce9 q9 hP9 hw9 h91 h92 h93 => ?_)
    exact hout _ V9 K9 _ _ _ _ _ _ _ (eP_1 (if_neg h_r)) (cQ_x hc hP9) hw9 h91 h92 h93
  obtain ⟨x, hx9, rfl⟩ := isR_of h_r
  have hl : lv_has ls 4 [(0, .ref (wa T 84)), (1, .int (nI x)), (2, .int b)] := hl
  refine wcS_v (As := [.int (nI x)]) hx hb hC hw (k_L_needRegister l T V K I O x hx9) lk_L_55 rfl rfl ⟨by show 6 + 1 ≤ R.frames; omega, by show 8 + (1 + 11) + 90 ≤ R.locals; omega⟩ rfl hl.1 rfl (Nat.le_of_ble_eq_true rfl) ⟨Nat.zero_le _, Nat.zero_le _⟩ d_L_parse_1 (fun H locs hw => ?_)
  refine lv_iload_n hx hb d_L_parse_4 rfl (lv_at hl 2 rfl) ?_
  by_cases h_b : isX b
  rotate_left
  · refine xcS (As := [.int b]) hx hb hC hz9 hw (x_L_needRadix l hst9 T V K I O b h_b) lk_L_220 rfl rfl ⟨by show 6 + 1 ≤ R.frames; omega, by show 8 + (1 + 11) + 90 ≤ R.locals; omega⟩ rfl hl.1 rfl (Nat.le_of_ble_eq_true rfl) hRc d_L_parse_5 (fun V9 K9 H9 locs9 ce9 q9 hP9 hw9 h91 h92 h93 => ?_)
    exact hout _ V9 K9 _ _ _ _ _ _ _ (eP_k (k := 2) (by unfold psC; rw [if_pos (isR_nI hx9), if_neg h_b]) (List.mem_cons_of_mem _ List.mem_cons_self)) (cQ_x hc hP9) hw9 h91 h92 h93
  obtain ⟨k, hk2, hk36, rfl⟩ := isX_of h_b
  have hrk : rg (nI k) = k := rx_nI hk36
  have hl : lv_has ls 4 [(0, .ref (wa T 84)), (1, .int (nI x)), (2, .int (nI k))] := hl
  refine wcS_v (As := [.int (nI k)]) hx hb hC hw (k_L_needRadix l T V K I O k ⟨hk2, hk36⟩) lk_L_220 rfl rfl ⟨by show 6 + 1 ≤ R.frames; omega, by show 8 + (1 + 11) + 90 ≤ R.locals; omega⟩ rfl hl.1 rfl (Nat.le_of_ble_eq_true rfl) ⟨Nat.zero_le _, Nat.zero_le _⟩ d_L_parse_5 (fun H locs hw => ?_)
  refine lv_aload_n hx hb d_L_parse_8 rfl (lv_at hl 0 rfl) ?_
  refine wg_Self_text hx hb hC hw bw_187 d_L_parse_9 ?_
  refine lv_iload_n hx hb d_L_parse_12 rfl (lv_at hl 2 rfl) ?_
  refine wcV_z (As := [.int (nI k)]) hx hb hC hw (k_T_isNumeral l T (fF V) (fU V) K I O n9 k tx hn9 hk36 hK hI ht) lk_L_223 rfl rfl ⟨by show 1 + 1 ≤ R.frames; omega, by show 8 + (5 + 11) + 20 ≤ R.locals; omega⟩ (by omega) (we_Text ) rfl rfl hl.1 rfl (Nat.le_of_ble_eq_true rfl) ⟨Nat.zero_le _, Nat.zero_le _⟩ d_L_parse_13 (fun H locs hw => ?_)
  by_cases hnm : nmB tx n9 k = true
  · refine sw_i (y := nI 1) (by rw [hnm]; rfl) ?_
    refine n_if_ne (tgt := 29) hx hb d_L_parse_16 (by decide) (by omega) (fun hw9 => ?_) (fun hw9 => ?_)
    · refine lv_aload_n hx hb d_L_parse_29 rfl (lv_at hl 0 rfl) ?_
      refine wg_Self_text hx hb hC hw bw_187 d_L_parse_30 ?_
      refine lv_aload_n hx hb d_L_parse_33 rfl (lv_at hl 0 rfl) ?_
      refine wg_Self_answer hx hb hC hw bw_186 d_L_parse_34 ?_
      refine lv_iload_n hx hb d_L_parse_37 rfl (lv_at hl 2 rfl) ?_
      refine wcV_v (As := [.ref (wa T 80), .int (nI k)]) hx hb hC hw (k_T_readNumeral l T V K I O n9 k tx hn9 ⟨hk2, hk36⟩ (nmB_d hnm) hK hI ht hc.2) lk_L_228 rfl rfl ⟨by show 4 + 1 ≤ R.frames; omega, by show 8 + (4 + 11) + 83 ≤ R.locals; omega⟩ (by omega) (we_Text ) rfl rfl hl.1 rfl (Nat.le_of_ble_eq_true rfl) ⟨Nat.zero_le _, Nat.zero_le _⟩ d_L_parse_38 (fun H locs hw => ?_)
      have hW0 : psW tx n9 k = sgI (decide (sgN n9 tx = 1)) (rdS tx k (n9 - sgN n9 tx) (sgN n9 tx) 0) := rfl
      have hW1 := sgI_abs (decide (sgN n9 tx = 1)) (rdS tx k (n9 - sgN n9 tx) (sgN n9 tx) 0)
      have hW2 := sgI_neg (decide (sgN n9 tx = 1)) (rdS tx k (n9 - sgN n9 tx) (sgN n9 tx) 0)
      rw [← hW0] at hW1 hW2
      have hrd : rdW tx n9 k = (psW tx n9 k).natAbs := hW1.symm
      have hl9 : (psW tx n9 k).natAbs < vLim := by rw [hW1]; exact Nat.lt_of_lt_of_le (rdS_lt tx k hk36 (fun i => by have := dgN_le (tx i); omega) _ _ 0 (Nat.pow_pos (by decide))) m1030_lim
      rw [← hW2, ← hW1] at hw
      have hpw : psW tx n9 (rg (nI k)) = psW tx n9 k := by rw [hrk]
      have hrw : rdW tx n9 (rg (nI k)) = (psW tx n9 k).natAbs := by rw [hrk]; exact hrd
      clear hW0 hW1 hW2 hrd
      generalize psW tx n9 k = W9 at hw hl9 hpw hrw
      have hc1 : cI z (va_up V 12 W9.natAbs) (va_up K 12 (bI (decide (W9 < 0)))) := (hc.out (by omega) hl9).outK (by omega)
      have e12 : (va_up V 12 W9.natAbs) 12 = W9.natAbs := va_up_self _ _ _
      refine lv_aload_n hx hb d_L_parse_41 rfl (lv_at hl 0 rfl) ?_
      refine lv_iload_n hx hb d_L_parse_42 rfl (lv_at hl 1 rfl) ?_
      by_cases hfit : W9.natAbs < m1024
      rotate_left
      · refine xcV (As := [.int (nI x)]) hx hb hC hz9 hw (x_L_keepAnswer l hst9 T (va_up V 12 W9.natAbs) (va_up K 12 (bI (decide (W9 < 0)))) I O x (by rw [e12]; exact hfit) hc1.2) lk_L_79 rfl rfl ⟨by show 6 + 1 ≤ R.frames; omega, by show 8 + (2 + 11) + 90 ≤ R.locals; omega⟩ (by omega) (we_Self ) rfl rfl hl.1 rfl (Nat.le_of_ble_eq_true rfl) hRc d_L_parse_43 (fun V9 K9 H9 locs9 ce9 q9 hP9 hw9 h91 h92 h93 => ?_)
        exact hout _ V9 K9 _ _ _ _ _ _ _ (eP_k (k := 4) (by unfold psC; rw [if_pos (isR_nI hx9), if_pos h_b, hrk, if_pos hnm, ← hrk, if_neg (by rw [hrw]; exact hfit)]) (List.mem_cons_of_mem _ (List.mem_cons_of_mem _ (List.mem_cons_of_mem _ List.mem_cons_self)))) (by obtain ⟨rfl, rfl⟩ := hP9; exact ⟨hc1, (va_up_ne _ _ (by omega)), (va_up_ne _ _ (by omega)), (va_up_ne _ _ (by omega))⟩) hw9 h91 h92 h93
      refine wcV_v (As := [.int (nI x)]) hx hb hC hw (k_L_keepAnswer l T (va_up V 12 W9.natAbs) (va_up K 12 (bI (decide (W9 < 0)))) I O x hx9 (decide (W9 < 0)) (va_up_self _ _ _) (by rw [e12]; exact hfit) hc1.2) lk_L_79 rfl rfl ⟨by show 6 + 1 ≤ R.frames; omega, by show 8 + (2 + 11) + 90 ≤ R.locals; omega⟩ (by omega) (we_Self ) rfl rfl hl.1 rfl (Nat.le_of_ble_eq_true rfl) ⟨Nat.zero_le _, Nat.zero_le _⟩ d_L_parse_43 (fun H locs hw => ?_)
      have hq9 := cQ_keep hc hx9 hfit
      have hK2 : (va_up (va_up K 12 (bI (decide (W9 < 0)))) x (bI (decide (W9 < 0) && !decide ((va_up V 12 W9.natAbs) 12 = 0)))) 14 = nI n9 := hq9.2.1.trans hK
      generalize (va_up (va_up V 12 W9.natAbs) x ((va_up V 12 W9.natAbs) 12)) = V2 at hw hq9
      generalize (va_up (va_up K 12 (bI (decide (W9 < 0)))) x (bI (decide (W9 < 0) && !decide ((va_up V 12 W9.natAbs) 12 = 0)))) = K2 at hw hq9 hK2
      refine lv_aload_n hx hb d_L_parse_46 rfl (lv_at hl 0 rfl) ?_
      refine wg_Self_text hx hb hC hw bw_187 d_L_parse_47 ?_
      refine wg_Text_count hx hb hC hw bw_75 d_L_parse_50 ?_
      refine sw_i (y := nI n9) (hK2) ?_
      refine lv_aload_n hx hb d_L_parse_53 rfl (lv_at hl 0 rfl) ?_
      refine wg_Self_text hx hb hC hw bw_187 d_L_parse_54 ?_
      refine wcV_i (As := []) hx hb hC hw (k_T_signs l T (fF V2) (fU V2) K2 I O n9 tx hn9 hK2 hI ht) lk_L_231 rfl rfl ⟨by show 0 + 1 ≤ R.frames; omega, by show 8 + (1 + 11) + 0 ≤ R.locals; omega⟩ (by omega) (we_Text ) rfl rfl hl.1 rfl (Nat.le_of_ble_eq_true rfl) ⟨Nat.zero_le _, Nat.zero_le _⟩ d_L_parse_57 (fun H locs hw => ?_)
      have hsl := sgN_len n9 tx
      refine n_isub hx hb d_L_parse_60 (by omega) ?_
      refine lv_istore_n hx hb d_L_parse_61 rfl hl (by decide) rfl (fun ls hl => ?_)
      have hl : lv_has ls 4 [(3, .int (nI (n9 - (sgN n9 tx)))), (0, .ref (wa T 84)), (1, .int (nI x)), (2, .int (nI k))] := hl
      refine lv_aload_n hx hb d_L_parse_62 rfl (lv_at hl 1 rfl) ?_
      refine wg_Self_text hx hb hC hw bw_187 d_L_parse_63 ?_
      refine lv_iconst (v := nI 0) hx hb d_L_parse_66 (by decide +kernel) ?_
      refine wp_Text_count hx hb hC hw bw_75 d_L_parse_67 (fun H locs hw => ?_)
      refine lv_iload_n hx hb d_L_parse_70 rfl (lv_at hl 0 rfl) ?_
      exact yi hrt (Nat.zero_le _) (Nat.zero_le _) hx hb (⟨by unfold psC; rw [if_pos (isR_nI hx9), if_pos h_b, hrk, if_pos hnm, ← hrk, if_pos (by rw [hrw]; exact hfit)], rfl, by rw [rg_nI hx9, hpw]; exact ⟨hq9.1.outK (by omega), va_up_self _ _ _, (va_up_ne _ _ (by omega)).trans hq9.2.2.1, (va_up_ne _ _ (by omega)).trans hq9.2.2.2⟩⟩) hw d_L_parse_71
    · exact absurd hw9 (by decide)
  · refine sw_i (y := nI 0) (by rw [Bool.not_eq_true] at hnm; rw [hnm]; rfl) ?_
    refine n_if_ne (tgt := 29) hx hb d_L_parse_16 (by decide) (by omega) (fun hw9 => ?_) (fun hw9 => ?_)
    · exact absurd hw9 (by decide)
    · exact hthr _ _ _ _ _ _ _ _ _ _ _ _ _ xt_226 (eP_k (k := 3) (by unfold psC; rw [if_pos (isR_nI hx9), if_pos h_b, hrk, if_neg hnm]) (List.mem_cons_of_mem _ (List.mem_cons_of_mem _ List.mem_cons_self))) (hc.q) hw hl.1 d_L_parse_19 d_L_parse_22 d_L_parse_23 d_L_parse_25 d_L_parse_28 (by show 2 + 3 < R.frames; omega) (by show 0 + (13 * (2 + 1) + 43) ≤ R.locals; omega)
set_option maxRecDepth 100000 in
set_option maxHeartbeats 4000000 in
theorem x_L_print (l : Launch) (hst9 : l.stackTraces = false) (T : wT) (V : Nat → Nat) (K : wUt) (I : wIt) (O : wOt) (z : Nat → Int) (hc : cI z V K) (n9 : Nat) (tx : Nat → Nat) (hn9 : n9 ≤ 1200) (hK : K 14 = nI n9) (hI : I 0 = tI tx) (ht : ∀ i, tx i < 128) (a b : Int32) : vx_Met l y_L_print (.code y_L_print c_L_print 3 (some .int) :: bg) ({ frames := 7, cells := 1, slots := 6, locals := 110 } : Room) (mPx T (fF V) (fU V) K I O [.ref (wa T 84), .int a, .int b]) (mQi2 T (fun x9 V' K' => prC a b = 0 ∧ x9 = nI (pL (rg b) (z (rg a)).natAbs (decide (z (rg a) < 0))) ∧ cQ z K (nI (pL (rg b) (z (rg a)).natAbs (decide (z (rg a) < 0)))) V' K') (va_up I 0 (tI (prT tx (z (rg a)).natAbs (rg b) (decide (z (rg a) < 0))))) O) (xXm T (eP (prC a b) [(eIX, 1), (eIA, 2)]) (cQ z K (K 14)) I O) 1 6 (wA T) := by
  refine yM rfl hst9 (Nat.le_of_ble_eq_true rfl) rfl rfl ?_
  intro p e R s m args below meth c Q ls hx hb hC hRf hRl hRc hz9 hrt hout hthr hl hw
  have hRf : 7 ≤ R.frames := hRf
  have hRl : 110 ≤ R.locals := hRl
  have hl : lv_has ls 3 [(0, .ref (wa T 84)), (1, .int a), (2, .int b)] := hl
  refine lv_iload_n hx hb d_L_print_0 rfl (lv_at hl 1 rfl) ?_
  by_cases h_a : isR a
  rotate_left
  · refine xcS (As := [.int a]) hx hb hC hz9 hw (x_L_needRegister l hst9 T V K I O a h_a) lk_L_55 rfl rfl ⟨by show 6 + 1 ≤ R.frames; omega, by show 8 + (1 + 11) + 90 ≤ R.locals; omega⟩ rfl hl.1 rfl (Nat.le_of_ble_eq_true rfl) hRc d_L_print_1 (fun V9 K9 H9 locs9 ce9 q9 hP9 hw9 h91 h92 h93 => ?_)
    exact hout _ V9 K9 _ _ _ _ _ _ _ (eP_1 (if_neg h_a)) (cQ_x hc hP9) hw9 h91 h92 h93
  obtain ⟨i, hi9, rfl⟩ := isR_of h_a
  have hl : lv_has ls 3 [(0, .ref (wa T 84)), (1, .int (nI i)), (2, .int b)] := hl
  refine wcS_v (As := [.int (nI i)]) hx hb hC hw (k_L_needRegister l T V K I O i hi9) lk_L_55 rfl rfl ⟨by show 6 + 1 ≤ R.frames; omega, by show 8 + (1 + 11) + 90 ≤ R.locals; omega⟩ rfl hl.1 rfl (Nat.le_of_ble_eq_true rfl) ⟨Nat.zero_le _, Nat.zero_le _⟩ d_L_print_1 (fun H locs hw => ?_)
  refine lv_iload_n hx hb d_L_print_4 rfl (lv_at hl 2 rfl) ?_
  by_cases h_b : isX b
  rotate_left
  · refine xcS (As := [.int b]) hx hb hC hz9 hw (x_L_needRadix l hst9 T V K I O b h_b) lk_L_220 rfl rfl ⟨by show 6 + 1 ≤ R.frames; omega, by show 8 + (1 + 11) + 90 ≤ R.locals; omega⟩ rfl hl.1 rfl (Nat.le_of_ble_eq_true rfl) hRc d_L_print_5 (fun V9 K9 H9 locs9 ce9 q9 hP9 hw9 h91 h92 h93 => ?_)
    exact hout _ V9 K9 _ _ _ _ _ _ _ (eP_k (k := 2) (by unfold prC; rw [if_pos (isR_nI hi9), if_neg h_b]) (List.mem_cons_of_mem _ List.mem_cons_self)) (cQ_x hc hP9) hw9 h91 h92 h93
  obtain ⟨k, hk2, hk36, rfl⟩ := isX_of h_b
  have hrk : rg (nI k) = k := rx_nI hk36
  have hl : lv_has ls 3 [(0, .ref (wa T 84)), (1, .int (nI i)), (2, .int (nI k))] := hl
  refine wcS_v (As := [.int (nI k)]) hx hb hC hw (k_L_needRadix l T V K I O k ⟨hk2, hk36⟩) lk_L_220 rfl rfl ⟨by show 6 + 1 ≤ R.frames; omega, by show 8 + (1 + 11) + 90 ≤ R.locals; omega⟩ rfl hl.1 rfl (Nat.le_of_ble_eq_true rfl) ⟨Nat.zero_le _, Nat.zero_le _⟩ d_L_print_5 (fun H locs hw => ?_)
  refine lv_aload_n hx hb d_L_print_8 rfl (lv_at hl 0 rfl) ?_
  refine wg_Self_answer hx hb hC hw bw_186 d_L_print_9 ?_
  refine lv_aload_n hx hb d_L_print_12 rfl (lv_at hl 0 rfl) ?_
  refine wg_Self_registers hx hb hC hw bw_185 d_L_print_13 ?_
  refine lv_iload_n hx hb d_L_print_16 rfl (lv_at hl 1 rfl) ?_
  refine wl_regs hx hb hw (by omega) d_L_print_17 ?_
  refine wg_Whole_size hx hb hC hw (by omega) bw_55 d_L_print_18 ?_
  refine lv_aload_n hx hb d_L_print_21 rfl (lv_at hl 0 rfl) ?_
  refine wg_Self_registers hx hb hC hw bw_185 d_L_print_22 ?_
  refine lv_iload_n hx hb d_L_print_25 rfl (lv_at hl 1 rfl) ?_
  refine wl_regs hx hb hw (by omega) d_L_print_26 ?_
  refine wg_Whole_below hx hb hC hw (by omega) bw_59 d_L_print_27 ?_
  refine sw_i (y := (bI (decide (z i < 0)))) ((hc.1 i hi9).2.2) ?_
  refine wcV_v (As := [.ref (wa T i), .int (bI (decide (z i < 0)))]) hx hb hC hw (k_W_take l T V K I O 12 i (decide (z i < 0)) (by omega) (by omega) hc.2) lk_L_71 rfl rfl ⟨by show 2 + 1 ≤ R.frames; omega, by show 8 + (3 + 11) + 45 ≤ R.locals; omega⟩ (by omega) (we_Whole (by omega)) rfl rfl hl.1 rfl (Nat.le_of_ble_eq_true rfl) ⟨Nat.zero_le _, Nat.zero_le _⟩ d_L_print_30 (fun H locs hw => ?_)
  have e9 : (decide (z i < 0) && !decide (V i = 0)) = decide (z i < 0) := by rw [(hc.1 i hi9).2.1, ← sgI_neg, sgI_self]
  rw [e9, (hc.1 i hi9).2.1] at hw
  have hc1 : cI z (va_up V 12 (z i).natAbs) (va_up K 12 (bI (decide (z i < 0)))) := (hc.out (by omega) (Nat.lt_of_lt_of_le (hc.1 i hi9).1 m1024_lim)).outK (by omega)
  have e12 : (va_up V 12 (z i).natAbs) 12 = (z i).natAbs := va_up_self _ _ _
  refine lv_aload_n hx hb d_L_print_33 rfl (lv_at hl 0 rfl) ?_
  refine wg_Self_text hx hb hC hw bw_187 d_L_print_34 ?_
  refine lv_aload_n hx hb d_L_print_37 rfl (lv_at hl 0 rfl) ?_
  refine wg_Self_answer hx hb hC hw bw_186 d_L_print_38 ?_
  refine lv_iload_n hx hb d_L_print_41 rfl (lv_at hl 2 rfl) ?_
  refine wcV_v (As := [.ref (wa T 80), .int (nI k)]) hx hb hC hw (k_T_writeNumeral l T (va_up V 12 (z i).natAbs) (va_up K 12 (bI (decide (z i < 0)))) I O k (decide (z i < 0)) tx ⟨hk2, hk36⟩ (by rw [e12]; exact (hc.1 i hi9).1) (va_up_self _ _ _) hI ht hc1.2) lk_L_234 rfl rfl ⟨by show 2 + 1 ≤ R.frames; omega, by show 8 + (5 + 11) + 48 ≤ R.locals; omega⟩ (by omega) (we_Text ) rfl rfl hl.1 rfl (Nat.le_of_ble_eq_true rfl) ⟨Nat.zero_le _, Nat.zero_le _⟩ d_L_print_42 (fun H locs hw => ?_)
  refine lv_aload_n hx hb d_L_print_45 rfl (lv_at hl 0 rfl) ?_
  refine wg_Self_text hx hb hC hw bw_187 d_L_print_46 ?_
  refine wg_Text_count hx hb hC hw bw_75 d_L_print_49 ?_
  refine sw_i (y := nI (pL k ((va_up V 12 (z i).natAbs) 12) (decide (z i < 0)))) (va_up_self _ _ _) ?_
  rw [e12] at hw
  refine sw_i (y := nI (pL k (z i).natAbs (decide (z i < 0)))) (by rw [e12]) ?_
  have eI : va_up I 0 (tI (prT tx (z i).natAbs k (decide (z i < 0)))) = va_up I 0 (tI (prT tx (z (rg (nI i))).natAbs (rg (nI k)) (decide (z (rg (nI i)) < 0)))) := by rw [rg_nI hi9, hrk]
  rw [eI] at hw
  exact yi hrt (Nat.zero_le _) (Nat.zero_le _) hx hb (⟨by unfold prC; rw [if_pos (isR_nI hi9), if_pos h_b], by rw [rg_nI hi9, hrk], by rw [rg_nI hi9, hrk]; exact ⟨(hc1.out (by omega) (Nat.lt_of_lt_of_le (Nat.pow_pos (by decide)) m1024_lim)).outK (by omega), va_up_self _ _ _, (va_up_ne _ _ (by omega)).trans (va_up_ne _ _ (by omega)), (va_up_ne _ _ (by omega)).trans (va_up_ne _ _ (by omega))⟩⟩) hw d_L_print_52
set_option maxRecDepth 100000 in
set_option maxHeartbeats 4000000 in
theorem x_L_character (l : Launch) (hst9 : l.stackTraces = false) (T : wT) (V : Nat → Nat) (K : wUt) (I : wIt) (O : wOt) (z : Nat → Int) (hc : cI z V K) (n9 : Nat) (tx : Nat → Nat) (hn9 : n9 ≤ 1200) (hK : K 14 = nI n9) (hI : I 0 = tI tx) (ht : ∀ i, tx i < 128) (n : Int32) : vx_Met l y_L_character (.code y_L_character c_L_character 2 (some .int) :: bg) ({ frames := 6, cells := 1, slots := 6, locals := 90 } : Room) (mPx T (fF V) (fU V) K I O [.ref (wa T 84), .int n]) (mQi2 T (fun x9 V' K' => ocG (0 ≤ n ∧ n < nI n9) 0 = 0 ∧ x9 = nI (tx (rg n)) ∧ cQ z K (K 14) V' K') I O) (xXm T (eP (ocG (0 ≤ n ∧ n < nI n9) 0) [(eIX, 1)]) (cQ z K (K 14)) I O) 1 6 (wA T) := by
  refine yM rfl hst9 (Nat.le_of_ble_eq_true rfl) rfl rfl ?_
  intro p e R s m args below meth c Q ls hx hb hC hRf hRl hRc hz9 hrt hout hthr hl hw
  have hRf : 6 ≤ R.frames := hRf
  have hRl : 90 ≤ R.locals := hRl
  have hl : lv_has ls 2 [(0, .ref (wa T 84)), (1, .int n)] := hl
  refine lv_iload_n hx hb d_L_character_0 rfl (lv_at hl 1 rfl) ?_
  refine lv_if_lt (tgt := 15) hx hb d_L_character_1 (by decide) (fun hn => ?_) (fun hn => ?_)
  · exact hthr _ _ _ _ _ _ _ _ _ _ _ _ _ xt_237 (eP_1 (ocG_1 fun h => absurd hn (Int32.not_lt.mpr h.1))) (hc.q) hw hl.1 d_L_character_15 d_L_character_18 d_L_character_19 d_L_character_21 d_L_character_24 (by show 2 + 3 < R.frames; omega) (by show 0 + (13 * (2 + 1) + 43) ≤ R.locals; omega)
  · replace hn := Int32.not_lt.mp hn
    obtain ⟨k, hk1, rfl⟩ := nn_nI hn
    have hl : lv_has ls 2 [(0, .ref (wa T 84)), (1, .int (nI k))] := hl
    refine lv_iload_n hx hb d_L_character_4 rfl (lv_at hl 1 rfl) ?_
    refine lv_aload_n hx hb d_L_character_5 rfl (lv_at hl 0 rfl) ?_
    refine wg_Self_text hx hb hC hw bw_187 d_L_character_6 ?_
    refine wg_Text_count hx hb hC hw bw_75 d_L_character_9 ?_
    refine sw_i (y := nI n9) (hK) ?_
    refine n_icmp_lt (tgt := 25) hx hb d_L_character_12 (by decide) (by omega) (by omega) (fun h2 => ?_) (fun h2 => ?_)
    · refine lv_aload_n hx hb d_L_character_25 rfl (lv_at hl 0 rfl) ?_
      refine wg_Self_text hx hb hC hw bw_187 d_L_character_26 ?_
      refine wg_Text_codes hx hb hC hw bw_73 d_L_character_29 ?_
      refine lv_iload_n hx hb d_L_character_32 rfl (lv_at hl 1 rfl) ?_
      refine wl_codes hx hb hw (by omega) d_L_character_33 ?_
      refine sw_i (y := nI (tx k)) (congrFun hI _) ?_
      exact yi hrt (Nat.zero_le _) (Nat.zero_le _) hx hb (⟨ocG_k ⟨hn, (nI_ltI hk1 (by omega)).mpr h2⟩, by rw [rg_k hk1], hc.q⟩) hw d_L_character_34
    · exact hthr _ _ _ _ _ _ _ _ _ _ _ _ _ xt_237 (eP_1 (ocG_1 fun h => absurd ((nI_ltI hk1 (by omega)).mp h.2) (by omega))) (hc.q) hw hl.1 d_L_character_15 d_L_character_18 d_L_character_19 d_L_character_21 d_L_character_24 (by show 2 + 3 < R.frames; omega) (by show 0 + (13 * (2 + 1) + 43) ≤ R.locals; omega)
