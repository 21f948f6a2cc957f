/-! the model: is, three, isGreat, store, finish, reduce, timesBy -/

set_option maxRecDepth 100000 in
set_option maxHeartbeats 4000000 in
theorem k_M_is (l : Launch) (T : wT) (F : wFt) (U K : wUt) (I : wIt) (O : wOt) (r : Int32) : Met l y_M_is (.code y_M_is c_M_is 1 (some .boolean) :: bg) ({ frames := 0, cells := 0, slots := 0, locals := 0 } : Room) (mP T F U K I O [.int r]) (mQi T (bI (decide (isR r))) F U K I O) 0 0 (wA T) := by
  refine wM_z (by decide) (Nat.le_of_ble_eq_true rfl) (zbI _) ?_
  intro p e R s m args below meth c Q ls hx hb hC hRf hRl hret hl hw
  have hRf : 0 ≤ R.frames := hRf
  have hRl : 0 ≤ R.locals := hRl
  have hl : lv_has ls 1 [(0, .int r)] := hl
  refine lv_iload_n hx hb d_M_is_0 rfl (lv_at hl 0 rfl) ?_
  refine lv_if_lt (tgt := 14) hx hb d_M_is_1 (by decide) (fun h => ?_) (fun h => ?_)
  · refine lv_iconst (v := nI 0) hx hb d_M_is_14 (by decide +kernel) ?_
    have h9 : bI (decide (isR r)) = nI 0 := by rw [decide_eq_false (fun q => absurd h (Int32.not_lt.mpr q.1))]; rfl
    rw [h9] at hret
    exact hret _ _ _ _ hw d_M_is_15
  · refine lv_iload_n hx hb d_M_is_4 rfl (lv_at hl 0 rfl) ?_
    refine lv_bipush (v := nI 12) hx hb d_M_is_5 (by decide +kernel) ?_
    refine lv_icmp_ge (tgt := 14) hx hb d_M_is_7 (by decide) (fun h2 => ?_) (fun h2 => ?_)
    · refine lv_iconst (v := nI 0) hx hb d_M_is_14 (by decide +kernel) ?_
      have h9 : bI (decide (isR r)) = nI 0 := by rw [decide_eq_false (fun q => absurd q.2 (Int32.not_lt.mpr h2))]; rfl
      rw [h9] at hret
      exact hret _ _ _ _ hw d_M_is_15
    · refine lv_iconst (v := nI 1) hx hb d_M_is_10 (by decide +kernel) ?_
      refine lv_goto (tgt := 15) hx hb d_M_is_11 (by decide) ?_
      have h9 : bI (decide (isR r)) = nI 1 := by rw [decide_eq_true (⟨Int32.not_lt.mp h, Int32.not_le.mp h2⟩)]; rfl
      rw [h9] at hret
      exact hret _ _ _ _ hw d_M_is_15
set_option maxRecDepth 100000 in
set_option maxHeartbeats 4000000 in
theorem k_M_three (l : Launch) (T : wT) (F : wFt) (U K : wUt) (I : wIt) (O : wOt) (a b c9 : Int32) : Met l y_M_three (.code y_M_three c_M_three 4 (some .boolean) :: bg) ({ frames := 1, cells := 0, slots := 0, locals := 20 } : Room) (mP T F U K I O [.ref (wa T 91), .int a, .int b, .int c9]) (mQi T (bI (decide (isR a ∧ isR b ∧ isR c9))) F U (va_up K 15 (nI (ocG (isR a ∧ isR b ∧ isR c9) 0))) I O) 0 0 (wA T) := by
  refine wM_z (by decide) (Nat.le_of_ble_eq_true rfl) (zbI _) ?_
  intro p e R s m args below meth c Q ls hx hb hC hRf hRl hret hl hw
  have hRf : 1 ≤ R.frames := hRf
  have hRl : 20 ≤ R.locals := hRl
  have hl : lv_has ls 4 [(0, .ref (wa T 91)), (1, .int a), (2, .int b), (3, .int c9)] := hl
  refine lv_aload_n hx hb d_M_three_0 rfl (lv_at hl 0 rfl) ?_
  refine lv_iload_n hx hb d_M_three_1 rfl (lv_at hl 1 rfl) ?_
  refine wcS_z (As := [.int a]) hx hb hC hw (k_M_is l T F U K I O a) lk_M_66 rfl rfl ⟨by show 0 + 1 ≤ R.frames; omega, by show 8 + (1 + 11) + 0 ≤ R.locals; omega⟩ rfl hl.1 rfl (Nat.le_of_ble_eq_true rfl) ⟨Nat.zero_le _, Nat.zero_le _⟩ d_M_three_2 (fun H locs hw => ?_)
  by_cases h_a : isR a
  · refine sw_i (y := nI 1) (by rw [decide_eq_true h_a]; rfl) ?_
    refine n_if_eq (tgt := 26) hx hb d_M_three_5 (by decide) (by omega) (fun hw9 => ?_) (fun hw9 => ?_)
    · exact absurd hw9 (by decide)
    · refine lv_iload_n hx hb d_M_three_8 rfl (lv_at hl 2 rfl) ?_
      refine wcS_z (As := [.int b]) hx hb hC hw (k_M_is l T F U K I O b) lk_M_66 rfl rfl ⟨by show 0 + 1 ≤ R.frames; omega, by show 8 + (1 + 11) + 0 ≤ R.locals; omega⟩ rfl hl.1 rfl (Nat.le_of_ble_eq_true rfl) ⟨Nat.zero_le _, Nat.zero_le _⟩ d_M_three_9 (fun H locs hw => ?_)
      by_cases h_b : isR b
      · refine sw_i (y := nI 1) (by rw [decide_eq_true h_b]; rfl) ?_
        refine n_if_eq (tgt := 26) hx hb d_M_three_12 (by decide) (by omega) (fun hw9 => ?_) (fun hw9 => ?_)
        · exact absurd hw9 (by decide)
        · refine lv_iload_n hx hb d_M_three_15 rfl (lv_at hl 3 rfl) ?_
          refine wcS_z (As := [.int c9]) hx hb hC hw (k_M_is l T F U K I O c9) lk_M_66 rfl rfl ⟨by show 0 + 1 ≤ R.frames; omega, by show 8 + (1 + 11) + 0 ≤ R.locals; omega⟩ rfl hl.1 rfl (Nat.le_of_ble_eq_true rfl) ⟨Nat.zero_le _, Nat.zero_le _⟩ d_M_three_16 (fun H locs hw => ?_)
          by_cases h_c9 : isR c9
          · refine sw_i (y := nI 1) (by rw [decide_eq_true h_c9]; rfl) ?_
            refine n_if_eq (tgt := 26) hx hb d_M_three_19 (by decide) (by omega) (fun hw9 => ?_) (fun hw9 => ?_)
            · exact absurd hw9 (by decide)
            · refine lv_iconst (v := nI 0) hx hb d_M_three_22 (by decide +kernel) ?_
              refine lv_goto (tgt := 27) hx hb d_M_three_23 (by decide) ?_
              refine wp_Model_code hx hb hC hw bw_817 d_M_three_27 (fun H locs hw => ?_)
              refine lv_aload_n hx hb d_M_three_30 rfl (lv_at hl 0 rfl) ?_
              refine wg_Model_code hx hb hC hw bw_817 d_M_three_31 ?_
              refine sw_i (y := nI 0) (va_up_self _ _ _) ?_
              have h8 : ocG (isR a ∧ isR b ∧ isR c9) 0 = 0 := ocG_k (⟨h_a, h_b, h_c9⟩)
              rw [h8] at hret
              have h9 : bI (decide (isR a ∧ isR b ∧ isR c9)) = nI 1 := by rw [decide_eq_true (⟨h_a, h_b, h_c9⟩)]; rfl
              rw [h9] at hret
              refine n_if_ne (tgt := 41) hx hb d_M_three_34 (by decide) (by omega) (fun hw9 => ?_) (fun hw9 => ?_)
              · exact absurd hw9 (by decide)
              · refine lv_iconst (v := nI 1) hx hb d_M_three_37 (by decide +kernel) ?_
                refine lv_goto (tgt := 42) hx hb d_M_three_38 (by decide) ?_
                exact hret _ _ _ _ hw d_M_three_42
          · refine sw_i (y := nI 0) (by rw [decide_eq_false h_c9]; rfl) ?_
            refine n_if_eq (tgt := 26) hx hb d_M_three_19 (by decide) (by omega) (fun hw9 => ?_) (fun hw9 => ?_)
            · refine lv_iconst (v := nI 1) hx hb d_M_three_26 (by decide +kernel) ?_
              refine wp_Model_code hx hb hC hw bw_817 d_M_three_27 (fun H locs hw => ?_)
              refine lv_aload_n hx hb d_M_three_30 rfl (lv_at hl 0 rfl) ?_
              refine wg_Model_code hx hb hC hw bw_817 d_M_three_31 ?_
              refine sw_i (y := nI 1) (va_up_self _ _ _) ?_
              have h8 : ocG (isR a ∧ isR b ∧ isR c9) 0 = 1 := ocG_1 (fun q => h_c9 q.2.2)
              rw [h8] at hret
              have h9 : bI (decide (isR a ∧ isR b ∧ isR c9)) = nI 0 := by rw [decide_eq_false (fun q => h_c9 q.2.2)]; rfl
              rw [h9] at hret
              refine n_if_ne (tgt := 41) hx hb d_M_three_34 (by decide) (by omega) (fun hw9 => ?_) (fun hw9 => ?_)
              · refine lv_iconst (v := nI 0) hx hb d_M_three_41 (by decide +kernel) ?_
                exact hret _ _ _ _ hw d_M_three_42
              · exact absurd hw9 (by decide)
            · exact absurd hw9 (by decide)
      · refine sw_i (y := nI 0) (by rw [decide_eq_false h_b]; rfl) ?_
        refine n_if_eq (tgt := 26) hx hb d_M_three_12 (by decide) (by omega) (fun hw9 => ?_) (fun hw9 => ?_)
        · refine lv_iconst (v := nI 1) hx hb d_M_three_26 (by decide +kernel) ?_
          refine wp_Model_code hx hb hC hw bw_817 d_M_three_27 (fun H locs hw => ?_)
          refine lv_aload_n hx hb d_M_three_30 rfl (lv_at hl 0 rfl) ?_
          refine wg_Model_code hx hb hC hw bw_817 d_M_three_31 ?_
          refine sw_i (y := nI 1) (va_up_self _ _ _) ?_
          have h8 : ocG (isR a ∧ isR b ∧ isR c9) 0 = 1 := ocG_1 (fun q => h_b q.2.1)
          rw [h8] at hret
          have h9 : bI (decide (isR a ∧ isR b ∧ isR c9)) = nI 0 := by rw [decide_eq_false (fun q => h_b q.2.1)]; rfl
          rw [h9] at hret
          refine n_if_ne (tgt := 41) hx hb d_M_three_34 (by decide) (by omega) (fun hw9 => ?_) (fun hw9 => ?_)
          · refine lv_iconst (v := nI 0) hx hb d_M_three_41 (by decide +kernel) ?_
            exact hret _ _ _ _ hw d_M_three_42
          · exact absurd hw9 (by decide)
        · exact absurd hw9 (by decide)
  · refine sw_i (y := nI 0) (by rw [decide_eq_false h_a]; rfl) ?_
    refine n_if_eq (tgt := 26) hx hb d_M_three_5 (by decide) (by omega) (fun hw9 => ?_) (fun hw9 => ?_)
    · refine lv_iconst (v := nI 1) hx hb d_M_three_26 (by decide +kernel) ?_
      refine wp_Model_code hx hb hC hw bw_817 d_M_three_27 (fun H locs hw => ?_)
      refine lv_aload_n hx hb d_M_three_30 rfl (lv_at hl 0 rfl) ?_
      refine wg_Model_code hx hb hC hw bw_817 d_M_three_31 ?_
      refine sw_i (y := nI 1) (va_up_self _ _ _) ?_
      have h8 : ocG (isR a ∧ isR b ∧ isR c9) 0 = 1 := ocG_1 (fun q => h_a q.1)
      rw [h8] at hret
      have h9 : bI (decide (isR a ∧ isR b ∧ isR c9)) = nI 0 := by rw [decide_eq_false (fun q => h_a q.1)]; rfl
      rw [h9] at hret
      refine n_if_ne (tgt := 41) hx hb d_M_three_34 (by decide) (by omega) (fun hw9 => ?_) (fun hw9 => ?_)
      · refine lv_iconst (v := nI 0) hx hb d_M_three_41 (by decide +kernel) ?_
        exact hret _ _ _ _ hw d_M_three_42
      · exact absurd hw9 (by decide)
    · exact absurd hw9 (by decide)
set_option maxRecDepth 100000 in
set_option maxHeartbeats 4000000 in
theorem k_M_isGreat (l : Launch) (T : wT) (F : wFt) (U K : wUt) (I : wIt) (O : wOt) (M Z : Nat → Nat) (G : Nat → Int32) (x : Nat) (hx9 : x < 20) (hz : Z x = lnM (M x)) (hm : M x < mM) : Met l y_M_isGreat (.code y_M_isGreat c_M_isGreat 2 (some .boolean) :: bg) ({ frames := 0, cells := 0, slots := 0, locals := 0 } : Room) (mP T F U K (gI I (dgm M) Z G) O [.ref (wa T 91), .int (nI x)]) (mQi T (bI (decide (¬ M x < m1024))) F U K (gI I (dgm M) Z G) O) 0 0 (wA T) := by
  refine wM_z (by decide) (Nat.le_of_ble_eq_true rfl) (zbI _) ?_
  intro p e R s m args below meth c Q ls hx hb hC hRf hRl hret hl hw
  have hRf : 0 ≤ R.frames := hRf
  have hRl : 0 ≤ R.locals := hRl
  have hl : lv_has ls 2 [(0, .ref (wa T 91)), (1, .int (nI x))] := hl
  have lx := lnM_le (M x)
  have dx := dgm_lt (M x) 51
  have gi := great_iff hm
  refine lv_aload_n hx hb d_M_isGreat_0 rfl (lv_at hl 0 rfl) ?_
  refine wg_Model_size hx hb hC hw bw_819 d_M_isGreat_1 ?_
  refine lv_iload_n hx hb d_M_isGreat_4 rfl (lv_at hl 1 rfl) ?_
  refine wl_msize hx hb hw (by omega) d_M_isGreat_5 ?_
  refine sw_i (y := nI (lnM (M x))) (congrArg nI hz) ?_
  refine lv_bipush (v := nI 52) hx hb d_M_isGreat_6 (by decide +kernel) ?_
  refine n_icmp_gt (tgt := 39) hx hb d_M_isGreat_8 (by decide) (by omega) (by omega) (fun h1 => ?_) (fun h1 => ?_)
  · refine lv_iconst (v := nI 1) hx hb d_M_isGreat_39 (by decide +kernel) ?_
    refine lv_goto (tgt := 44) hx hb d_M_isGreat_40 (by decide) ?_
    have h9 : bI (decide (¬ M x < m1024)) = nI 1 := by rw [decide_eq_true (gi.mp (Or.inl h1))]; rfl
    rw [h9] at hret
    exact hret _ _ _ _ hw d_M_isGreat_44
  · refine lv_aload_n hx hb d_M_isGreat_11 rfl (lv_at hl 0 rfl) ?_
    refine wg_Model_size hx hb hC hw bw_819 d_M_isGreat_12 ?_
    refine lv_iload_n hx hb d_M_isGreat_15 rfl (lv_at hl 1 rfl) ?_
    refine wl_msize hx hb hw (by omega) d_M_isGreat_16 ?_
    refine sw_i (y := nI (lnM (M x))) (congrArg nI hz) ?_
    refine lv_bipush (v := nI 52) hx hb d_M_isGreat_17 (by decide +kernel) ?_
    refine n_icmp_ne (tgt := 43) hx hb d_M_isGreat_19 (by decide) (by omega) (by omega) (fun h2 => ?_) (fun h2 => ?_)
    · refine lv_iconst (v := nI 0) hx hb d_M_isGreat_43 (by decide +kernel) ?_
      have h9 : bI (decide (¬ M x < m1024)) = nI 0 := by rw [decide_eq_false (fun q => (gi.mpr q).elim (fun e => by omega) (fun e => by omega))]; rfl
      rw [h9] at hret
      exact hret _ _ _ _ hw d_M_isGreat_44
    · refine lv_aload_n hx hb d_M_isGreat_22 rfl (lv_at hl 0 rfl) ?_
      refine wg_Model_d hx hb hC hw bw_818 d_M_isGreat_23 ?_
      refine lv_bipush (v := nI 108) hx hb d_M_isGreat_26 (by decide +kernel) ?_
      refine lv_iload_n hx hb d_M_isGreat_28 rfl (lv_at hl 1 rfl) ?_
      refine n_imul hx hb d_M_isGreat_29 ?_
      refine lv_bipush (v := nI 51) hx hb d_M_isGreat_30 (by decide +kernel) ?_
      refine n_iadd hx hb d_M_isGreat_32 ?_
      refine wl_md hx hb hw (by omega) d_M_isGreat_33 ?_
      refine sw_i (y := nI (dg (M x) 51)) (gI_d (s := x) (i := 51) (by omega)) ?_
      refine lv_bipush (v := nI 15) hx hb d_M_isGreat_34 (by decide +kernel) ?_
      refine n_icmp_le (tgt := 43) hx hb d_M_isGreat_36 (by decide) (by omega) (by omega) (fun h3 => ?_) (fun h3 => ?_)
      · refine lv_iconst (v := nI 0) hx hb d_M_isGreat_43 (by decide +kernel) ?_
        have h9 : bI (decide (¬ M x < m1024)) = nI 0 := by rw [decide_eq_false (fun q => (gi.mpr q).elim (fun e => by omega) (fun e => by omega))]; rfl
        rw [h9] at hret
        exact hret _ _ _ _ hw d_M_isGreat_44
      · refine lv_iconst (v := nI 1) hx hb d_M_isGreat_39 (by decide +kernel) ?_
        refine lv_goto (tgt := 44) hx hb d_M_isGreat_40 (by decide) ?_
        have h9 : bI (decide (¬ M x < m1024)) = nI 1 := by rw [decide_eq_true (gi.mp (Or.inr ⟨h2, h3⟩))]; rfl
        rw [h9] at hret
        exact hret _ _ _ _ hw d_M_isGreat_44
set_option maxRecDepth 100000 in
set_option maxHeartbeats 4000000 in
theorem k_M_store (l : Launch) (T : wT) (F : wFt) (U K : wUt) (I : wIt) (O : wOt) (M Z : Nat → Nat) (G : Nat → Int32) (x r : Nat) (sg : Int32) (hx9 : x < 20) (hr9 : r < 20) (hz : Z x ≤ 108) : Met l y_M_store (.code y_M_store c_M_store 4 none :: bg) ({ frames := 1, cells := 0, slots := 0, locals := 23 } : Room) (mP T F U K (gI I (dgm M) Z G) O [.ref (wa T 91), .int (nI x), .int (nI r), .int sg]) (mQv T F U K (gI I (dgm (va_up M r (M x))) (va_up Z r (Z x)) (va_up G r (if Z x = 0 then nI 0 else sg))) O) 0 0 (wA T) := by
  refine wM_v (by decide) (Nat.le_of_ble_eq_true rfl) ?_
  intro p e R s m args below meth c Q ls hx hb hC hRf hRl hret hl hw
  have hRf : 1 ≤ R.frames := hRf
  have hRl : 23 ≤ R.locals := hRl
  have hl : lv_has ls 4 [(0, .ref (wa T 91)), (1, .int (nI x)), (2, .int (nI r)), (3, .int sg)] := hl
  refine lv_aload_n hx hb d_M_store_0 rfl (lv_at hl 0 rfl) ?_
  refine lv_iload_n hx hb d_M_store_1 rfl (lv_at hl 1 rfl) ?_
  refine lv_iload_n hx hb d_M_store_2 rfl (lv_at hl 2 rfl) ?_
  refine wcV_v (As := [.int (nI x), .int (nI r)]) hx hb hC hw (k_M_move l T F U K I O M Z G x r hx9 hr9) lk_M_40 rfl rfl ⟨by show 0 + 1 ≤ R.frames; omega, by show 8 + (4 + 11) + 0 ≤ R.locals; omega⟩ (by omega) (we_Model ) rfl rfl hl.1 rfl (Nat.le_of_ble_eq_true rfl) ⟨Nat.zero_le _, Nat.zero_le _⟩ d_M_store_3 (fun H locs hw => ?_)
  refine lv_aload_n hx hb d_M_store_6 rfl (lv_at hl 0 rfl) ?_
  refine wg_Model_sign hx hb hC hw bw_820 d_M_store_7 ?_
  refine lv_iload_n hx hb d_M_store_10 rfl (lv_at hl 2 rfl) ?_
  refine lv_aload_n hx hb d_M_store_11 rfl (lv_at hl 0 rfl) ?_
  refine wg_Model_size hx hb hC hw bw_819 d_M_store_12 ?_
  refine lv_iload_n hx hb d_M_store_15 rfl (lv_at hl 1 rfl) ?_
  refine wl_msize hx hb hw (by omega) d_M_store_16 ?_
  refine sw_i (y := nI (Z x)) (congrArg nI (by rw [va_va]; split; rfl; rfl)) ?_
  refine n_if_ne (tgt := 24) hx hb d_M_store_17 (by decide) (by omega) (fun h0 => ?_) (fun h0 => ?_)
  · refine lv_iload_n hx hb d_M_store_24 rfl (lv_at hl 3 rfl) ?_
    refine ws_msign hx hb hw (by omega) d_M_store_25 (fun H locs hw => ?_)
    rw [gI_sg] at hw
    rw [if_neg (by omega)] at hret
    exact hret _ _ _ _ hw d_M_store_26
  · refine lv_iconst (v := nI 0) hx hb d_M_store_20 (by decide +kernel) ?_
    refine lv_goto (tgt := 25) hx hb d_M_store_21 (by decide) ?_
    refine ws_msign hx hb hw (by omega) d_M_store_25 (fun H locs hw => ?_)
    rw [gI_sg] at hw
    rw [if_pos h0] at hret
    exact hret _ _ _ _ hw d_M_store_26
set_option maxRecDepth 100000 in
set_option maxHeartbeats 4000000 in
theorem k_M_reduce (l : Launch) (T : wT) (F : wFt) (U K : wUt) (I : wIt) (O : wOt) (M Z : Nat → Nat) (G : Nat → Int32) (a b t : Nat) (bk : Bool) (ha9 : a < 15) (hb9 : b < 15) (ht9 : t < 20) (hza : Z a = lnM (M a)) (hzb : Z b = lnM (M b)) (hA : M a < b20 ^ 107) (hmb : M b < mM) (hb0 : 0 < M b) (hg : bk = true ↔ G a < 0) : Met l y_M_reduce (.code y_M_reduce c_M_reduce 4 none :: bg) ({ frames := 3, cells := 0, slots := 0, locals := 77 } : Room) (mP T F U K (gI I (dgm M) Z G) O [.ref (wa T 91), .int (nI a), .int (nI b), .int (nI t)]) (mQv T F U K (gI I (dgm (va_up (va_up (va_up M 16 (M a % M b)) 15 (M a / M b)) t (rdc bk (M a) (M b)))) (va_up (va_up (va_up Z 16 (lnM (M a % M b))) 15 (lnM (M a / M b))) t (lnM (rdc bk (M a) (M b)))) G) O) 0 0 (wA T) := by
  refine wM_v (by decide) (Nat.le_of_ble_eq_true rfl) ?_
  intro p e R s m args below meth c Q ls hx hb hC hRf hRl hret hl hw
  have hRf : 3 ≤ R.frames := hRf
  have hRl : 77 ≤ R.locals := hRl
  have hl : lv_has ls 4 [(0, .ref (wa T 91)), (1, .int (nI a)), (2, .int (nI b)), (3, .int (nI t))] := hl
  have hrl := Nat.mod_lt (M a) hb0
  refine lv_aload_n hx hb d_M_reduce_0 rfl (lv_at hl 0 rfl) ?_
  refine lv_iload_n hx hb d_M_reduce_1 rfl (lv_at hl 1 rfl) ?_
  refine lv_iload_n hx hb d_M_reduce_2 rfl (lv_at hl 2 rfl) ?_
  refine wcV_v (As := [.int (nI a), .int (nI b)]) hx hb hC hw (k_M_split l T F U K I O M Z G a b (by omega) (by omega) (by omega) (by omega) (by omega) (by omega) hza hzb hA hmb hb0) lk_M_56 rfl rfl ⟨by show 2 + 1 ≤ R.frames; omega, by show 8 + (10 + 11) + 48 ≤ R.locals; omega⟩ (by omega) (we_Model ) rfl rfl hl.1 rfl (Nat.le_of_ble_eq_true rfl) ⟨Nat.zero_le _, Nat.zero_le _⟩ d_M_reduce_3 (fun H locs hw => ?_)
  have e16 : (va_up (va_up M 16 (M a % M b)) 15 (M a / M b)) 16 = M a % M b := (va_up_ne _ _ (by decide)).trans (va_up_self _ _ _)
  have z16 : (va_up (va_up Z 16 (lnM (M a % M b))) 15 (lnM (M a / M b))) 16 = lnM (M a % M b) := (va_up_ne _ _ (by decide)).trans (va_up_self _ _ _)
  have eb : (va_up (va_up M 16 (M a % M b)) 15 (M a / M b)) b = M b := (va_up_ne _ _ (by omega)).trans (va_up_ne _ _ (by omega))
  have lz := lnM_z (v := M a % M b) (by omega)
  have ll := lnM_le (M a % M b)
  refine lv_aload_n hx hb d_M_reduce_6 rfl (lv_at hl 0 rfl) ?_
  refine wg_Model_sign hx hb hC hw bw_820 d_M_reduce_7 ?_
  refine lv_iload_n hx hb d_M_reduce_10 rfl (lv_at hl 1 rfl) ?_
  refine wl_msign hx hb hw (by omega) d_M_reduce_11 ?_
  refine sw_i (y := (G a)) (rfl) ?_
  refine lv_if_ge (tgt := 36) hx hb d_M_reduce_12 (by decide) (fun h0 => ?_) (fun h0 => ?_)
  · have hno : ¬ (bk && !decide (M a % M b = 0)) = true := fun q => by rw [Bool.and_eq_true] at q; exact absurd (hg.mp q.1) (Int32.not_lt.mpr h0)
    refine lv_aload_n hx hb d_M_reduce_36 rfl (lv_at hl 0 rfl) ?_
    refine lv_bipush (v := nI 16) hx hb d_M_reduce_37 (by decide +kernel) ?_
    refine lv_iload_n hx hb d_M_reduce_39 rfl (lv_at hl 3 rfl) ?_
    refine wcV_v (As := [.int (nI 16), .int (nI t)]) hx hb hC hw (k_M_move l T F U K I O (va_up (va_up M 16 (M a % M b)) 15 (M a / M b)) (va_up (va_up Z 16 (lnM (M a % M b))) 15 (lnM (M a / M b))) G 16 t (by omega) ht9) lk_M_40 rfl rfl ⟨by show 0 + 1 ≤ R.frames; omega, by show 8 + (4 + 11) + 0 ≤ R.locals; omega⟩ (by omega) (we_Model ) rfl rfl hl.1 rfl (Nat.le_of_ble_eq_true rfl) ⟨Nat.zero_le _, Nat.zero_le _⟩ d_M_reduce_40 (fun H locs hw => ?_)
    rw [e16, z16] at hw
    have h9 : rdc bk (M a) (M b) = M a % M b := by unfold rdc; rw [if_neg hno]
    rw [h9] at hret
    exact hret _ _ _ _ hw d_M_reduce_43
  · have hbk : bk = true := hg.mpr (Int32.not_le.mp h0)
    refine lv_aload_n hx hb d_M_reduce_15 rfl (lv_at hl 0 rfl) ?_
    refine wg_Model_size hx hb hC hw bw_819 d_M_reduce_16 ?_
    refine lv_bipush (v := nI 16) hx hb d_M_reduce_19 (by decide +kernel) ?_
    refine wl_msize hx hb hw (by omega) d_M_reduce_21 ?_
    refine sw_i (y := nI (lnM (M a % M b))) (congrArg nI z16) ?_
    refine n_if_le (tgt := 36) hx hb d_M_reduce_22 (by decide) (by omega) (fun h1 => ?_) (fun h1 => ?_)
    · have hno : ¬ (bk && !decide (M a % M b = 0)) = true := fun q => by rw [lz.mp h1, decide_eq_true rfl] at q; simp at q
      refine lv_aload_n hx hb d_M_reduce_36 rfl (lv_at hl 0 rfl) ?_
      refine lv_bipush (v := nI 16) hx hb d_M_reduce_37 (by decide +kernel) ?_
      refine lv_iload_n hx hb d_M_reduce_39 rfl (lv_at hl 3 rfl) ?_
      refine wcV_v (As := [.int (nI 16), .int (nI t)]) hx hb hC hw (k_M_move l T F U K I O (va_up (va_up M 16 (M a % M b)) 15 (M a / M b)) (va_up (va_up Z 16 (lnM (M a % M b))) 15 (lnM (M a / M b))) G 16 t (by omega) ht9) lk_M_40 rfl rfl ⟨by show 0 + 1 ≤ R.frames; omega, by show 8 + (4 + 11) + 0 ≤ R.locals; omega⟩ (by omega) (we_Model ) rfl rfl hl.1 rfl (Nat.le_of_ble_eq_true rfl) ⟨Nat.zero_le _, Nat.zero_le _⟩ d_M_reduce_40 (fun H locs hw => ?_)
      rw [e16, z16] at hw
      have h9 : rdc bk (M a) (M b) = M a % M b := by unfold rdc; rw [if_neg hno]
      rw [h9] at hret
      exact hret _ _ _ _ hw d_M_reduce_43
    · have hyes : (bk && !decide (M a % M b = 0)) = true := by rw [hbk, decide_eq_false (fun q => by rw [lz.mpr q] at h1; omega)]; rfl
      have h9 : rdc bk (M a) (M b) = M b - M a % M b := by unfold rdc; rw [if_pos hyes]
      refine lv_aload_n hx hb d_M_reduce_25 rfl (lv_at hl 0 rfl) ?_
      refine lv_iload_n hx hb d_M_reduce_26 rfl (lv_at hl 2 rfl) ?_
      refine lv_bipush (v := nI 16) hx hb d_M_reduce_27 (by decide +kernel) ?_
      refine lv_iload_n hx hb d_M_reduce_29 rfl (lv_at hl 3 rfl) ?_
      refine wcV_v (As := [.int (nI b), .int (nI 16), .int (nI t)]) hx hb hC hw (k_M_minus l T F U K I O (va_up (va_up M 16 (M a % M b)) 15 (M a / M b)) (va_up (va_up Z 16 (lnM (M a % M b))) 15 (lnM (M a / M b))) G b 16 t (by omega) (by omega) ht9 (by rw [e16, eb]; omega) (by rw [eb]; exact hmb)) lk_M_59 rfl rfl ⟨by show 1 + 1 ≤ R.frames; omega, by show 8 + (7 + 11) + 22 ≤ R.locals; omega⟩ (by omega) (we_Model ) rfl rfl hl.1 rfl (Nat.le_of_ble_eq_true rfl) ⟨Nat.zero_le _, Nat.zero_le _⟩ d_M_reduce_30 (fun H locs hw => ?_)
      rw [e16, eb] at hw
      rw [h9] at hret
      refine lv_goto (tgt := 43) hx hb d_M_reduce_33 (by decide) ?_
      exact hret _ _ _ _ hw d_M_reduce_43
