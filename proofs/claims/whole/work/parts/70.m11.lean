/-! the model: root, gcd, timesBy, power -/
theorem rt_bit {S r : Nat} (h : S % 2 ^ (r + 1) = 0) : S / 2 ^ r % 2 = 0 := by
  have h1 := sl_lo S r
  rw [h] at h1
  have h2 := Nat.two_pow_pos r
  rcases Nat.mod_two_eq_zero_or_one (S / 2 ^ r) with q | q
  · exact q
  · rw [q] at h1; omega
theorem ge_nI {k : Int32} (h : ¬ nI 1 ≤ k) : ¬ nI 1 ≤ k := h

set_option maxRecDepth 100000 in
set_option maxHeartbeats 4000000 in
theorem k_M_root (l : Launch) (T : wT) (F : wFt) (U K : wUt) (I : wIt) (O : wOt) (M Z : Nat → Nat) (G : Nat → Int32) (z : Nat → Int) (hm : mI z M Z G) (r a k : Int32) : Met l y_M_root (.code y_M_root c_M_root 5 none :: bg) ({ frames := 3, cells := 0, slots := 0, locals := 74 } : Room) (mP T F U K (gI I (dgm M) Z G) O [.ref (wa T 91), .int r, .int a, .int k]) (mQvM T (fun M' Z' G' => mI (zF (ocG (isR r ∧ isR a) (rtC k (z (rg a)))) (va_up z (rg r) ((rtN (z (rg a)).natAbs (rg k) : Nat) : Int)) z) M' Z' G') F U (va_up K 15 (nI (ocG (isR r ∧ isR a) (rtC k (z (rg a)))))) I O) 0 0 (wA T) := by
  refine wM_vM (by decide) (Nat.le_of_ble_eq_true rfl) ?_
  intro p e R s m args below meth c Q ls hx hb hC hRf hRl hret hl hw
  have hRf : 3 ≤ R.frames := hRf
  have hRl : 74 ≤ R.locals := hRl
  have hl : lv_has ls 5 [(0, .ref (wa T 91)), (1, .int r), (2, .int a), (3, .int k)] := hl
  refine lv_aload_n hx hb d_M_root_0 rfl (lv_at hl 0 rfl) ?_
  refine lv_iload_n hx hb d_M_root_1 rfl (lv_at hl 1 rfl) ?_
  refine wcS_z (As := [.int r]) hx hb hC hw (k_M_is l T F U K (gI I (dgm M) Z G) O r) lk_M_66 rfl rfl ⟨by show 0 + 1 ≤ R.frames; omega, by show 8 + (1 + 11) + 0 ≤ R.locals; omega⟩ rfl hl.1 rfl (Nat.le_of_ble_eq_true rfl) ⟨Nat.zero_le _, Nat.zero_le _⟩ d_M_root_2 (fun H locs hw => ?_)
  by_cases h_r : isR r
  rotate_left
  · refine sw_i (y := nI 0) (by rw [decide_eq_false h_r]; rfl) ?_
    refine n_if_eq (tgt := 15) hx hb d_M_root_5 (by decide) (by omega) (fun hw9 => ?_) (fun hw9 => absurd hw9 (by decide))
    refine lv_iconst (v := nI 1) hx hb d_M_root_15 (by decide +kernel) ?_
    refine lv_goto (tgt := 42) hx hb d_M_root_16 (by decide) ?_
    refine wp_Model_code hx hb hC hw bw_817 d_M_root_42 (fun H locs hw => ?_)
    refine lv_aload_n hx hb d_M_root_45 rfl (lv_at hl 0 rfl) ?_
    refine wg_Model_code hx hb hC hw bw_817 d_M_root_46 ?_
    refine sw_i (y := nI 1) (va_up_self _ _ _) ?_
    refine n_if_le (tgt := 53) hx hb d_M_root_49 (by decide) (by omega) (fun hw9 => absurd hw9 (by decide)) (fun hw9 => ?_)
    rw [ocG_1 (fun e => h_r e.1)] at hret
    exact hret _ _ _ _ _ _ _ (by rw [zF_n (by decide)]; exact hm) hw d_M_root_52
  refine sw_i (y := nI 1) (by rw [decide_eq_true h_r]; rfl) ?_
  obtain ⟨x, hx9, rfl⟩ := isR_of h_r
  have hl : lv_has ls 5 [(0, .ref (wa T 91)), (1, .int (nI x)), (2, .int a), (3, .int k)] := hl
  refine n_if_eq (tgt := 15) hx hb d_M_root_5 (by decide) (by omega) (fun hw9 => absurd hw9 (by decide)) (fun hw9 => ?_)
  refine lv_iload_n hx hb d_M_root_8 rfl (lv_at hl 2 rfl) ?_
  refine wcS_z (As := [.int a]) hx hb hC hw (k_M_is l T F U K (gI I (dgm M) Z G) O a) lk_M_66 rfl rfl ⟨by show 0 + 1 ≤ R.frames; omega, by show 8 + (1 + 11) + 0 ≤ R.locals; omega⟩ rfl hl.1 rfl (Nat.le_of_ble_eq_true rfl) ⟨Nat.zero_le _, Nat.zero_le _⟩ d_M_root_9 (fun H locs hw => ?_)
  by_cases h_a : isR a
  rotate_left
  · refine sw_i (y := nI 0) (by rw [decide_eq_false h_a]; rfl) ?_
    refine n_if_ne (tgt := 19) hx hb d_M_root_12 (by decide) (by omega) (fun hw9 => absurd hw9 (by decide)) (fun hw9 => ?_)
    refine lv_iconst (v := nI 1) hx hb d_M_root_15 (by decide +kernel) ?_
    refine lv_goto (tgt := 42) hx hb d_M_root_16 (by decide) ?_
    refine wp_Model_code hx hb hC hw bw_817 d_M_root_42 (fun H locs hw => ?_)
    refine lv_aload_n hx hb d_M_root_45 rfl (lv_at hl 0 rfl) ?_
    refine wg_Model_code hx hb hC hw bw_817 d_M_root_46 ?_
    refine sw_i (y := nI 1) (va_up_self _ _ _) ?_
    refine n_if_le (tgt := 53) hx hb d_M_root_49 (by decide) (by omega) (fun hw9 => absurd hw9 (by decide)) (fun hw9 => ?_)
    rw [ocG_1 (fun e => h_a e.2)] at hret
    exact hret _ _ _ _ _ _ _ (by rw [zF_n (by decide)]; exact hm) hw d_M_root_52
  refine sw_i (y := nI 1) (by rw [decide_eq_true h_a]; rfl) ?_
  obtain ⟨i, hi9, rfl⟩ := isR_of h_a
  have hl : lv_has ls 5 [(0, .ref (wa T 91)), (1, .int (nI x)), (2, .int (nI i)), (3, .int k)] := hl
  refine n_if_ne (tgt := 19) hx hb d_M_root_12 (by decide) (by omega) (fun hw9 => ?_) (fun hw9 => absurd hw9 (by decide))
  have gg : isR (nI x) ∧ isR (nI i) := ⟨h_r, h_a⟩
  rw [ocG_k gg, rg_nI hx9, rg_nI hi9] at hret
  have hi := hm.1 i hi9
  have hli := hi.1
  have emi := hi.2.1
  refine lv_iload_n hx hb d_M_root_19 rfl (lv_at hl 3 rfl) ?_
  refine lv_iconst (v := nI 1) hx hb d_M_root_20 (by decide +kernel) ?_
  refine lv_icmp_ge (tgt := 28) hx hb d_M_root_21 (by decide) (fun hk => ?_) (fun hk => ?_)
  rotate_left
  · rw [show rtC k (z i) = 2 from if_neg hk] at hret
    refine lv_iconst (v := nI 2) hx hb d_M_root_24 (by decide +kernel) ?_
    refine lv_goto (tgt := 42) hx hb d_M_root_25 (by decide) ?_
    refine wp_Model_code hx hb hC hw bw_817 d_M_root_42 (fun H locs hw => ?_)
    refine lv_aload_n hx hb d_M_root_45 rfl (lv_at hl 0 rfl) ?_
    refine wg_Model_code hx hb hC hw bw_817 d_M_root_46 ?_
    refine sw_i (y := nI 2) (va_up_self _ _ _) ?_
    refine n_if_le (tgt := 53) hx hb d_M_root_49 (by decide) (by omega) (fun hw9 => absurd hw9 (by decide)) (fun hw9 => ?_)
    exact hret _ _ _ _ _ _ _ (by rw [zF_n (by decide)]; exact hm) hw d_M_root_52
  refine lv_aload_n hx hb d_M_root_28 rfl (lv_at hl 0 rfl) ?_
  refine wg_Model_sign hx hb hC hw bw_820 d_M_root_29 ?_
  refine lv_iload_n hx hb d_M_root_32 rfl (lv_at hl 2 rfl) ?_
  refine wl_msign hx hb hw (by omega) d_M_root_33 ?_
  refine sw_i (y := (G i)) (rfl) ?_
  refine sw_i (y := (sgnI (z i))) (hi.2.2.2) ?_
  refine lv_if_ge (tgt := 41) hx hb d_M_root_34 (by decide) (fun hs => ?_) (fun hs => ?_)
  rotate_left
  · have hneg := sg_lt.mp (Int32.not_le.mp hs)
    rw [show rtC k (z i) = 3 from by unfold rtC; rw [if_pos hk, if_pos hneg]] at hret
    refine lv_iconst (v := nI 3) hx hb d_M_root_37 (by decide +kernel) ?_
    refine lv_goto (tgt := 42) hx hb d_M_root_38 (by decide) ?_
    refine wp_Model_code hx hb hC hw bw_817 d_M_root_42 (fun H locs hw => ?_)
    refine lv_aload_n hx hb d_M_root_45 rfl (lv_at hl 0 rfl) ?_
    refine wg_Model_code hx hb hC hw bw_817 d_M_root_46 ?_
    refine sw_i (y := nI 3) (va_up_self _ _ _) ?_
    refine n_if_le (tgt := 53) hx hb d_M_root_49 (by decide) (by omega) (fun hw9 => absurd hw9 (by decide)) (fun hw9 => ?_)
    exact hret _ _ _ _ _ _ _ (by rw [zF_n (by decide)]; exact hm) hw d_M_root_52
  have hpos : ¬ z i < 0 := fun q => absurd (sg_lt.mpr q) (Int32.not_lt.mpr hs)
  rw [show rtC k (z i) = 0 from by unfold rtC; rw [if_pos hk, if_neg hpos], zF_0 rfl] at hret
  obtain ⟨kk, hk0, hk1, rfl⟩ := ge1_nI hk
  rw [rg_k hk1] at hret
  have hl : lv_has ls 5 [(0, .ref (wa T 91)), (1, .int (nI x)), (2, .int (nI i)), (3, .int (nI kk))] := hl
  refine lv_iconst (v := nI 0) hx hb d_M_root_41 (by decide +kernel) ?_
  refine wp_Model_code hx hb hC hw bw_817 d_M_root_42 (fun H locs hw => ?_)
  refine lv_aload_n hx hb d_M_root_45 rfl (lv_at hl 0 rfl) ?_
  refine wg_Model_code hx hb hC hw bw_817 d_M_root_46 ?_
  refine sw_i (y := nI 0) (va_up_self _ _ _) ?_
  refine n_if_le (tgt := 53) hx hb d_M_root_49 (by decide) (by omega) (fun hw9 => ?_) (fun hw9 => absurd hw9 (by decide))
  refine lv_aload_n hx hb d_M_root_53 rfl (lv_at hl 0 rfl) ?_
  refine lv_bipush (v := nI 17) hx hb d_M_root_54 (by decide +kernel) ?_
  refine wcV_v (As := [.int (nI 17)]) hx hb hC hw (k_M_clear l T F U (va_up K 15 (nI 0)) I O M Z G 17 (by omega)) lk_M_26 rfl rfl ⟨by show 0 + 1 ≤ R.frames; omega, by show 8 + (3 + 11) + 0 ≤ R.locals; omega⟩ (by omega) (we_Model ) rfl rfl hl.1 rfl (Nat.le_of_ble_eq_true rfl) ⟨Nat.zero_le _, Nat.zero_le _⟩ d_M_root_56 (fun H locs hw => ?_)
  have hm1 : mI z (va_up M 17 0) (va_up Z 17 0) G := hm.out (by omega) (b20_pp 108)
  have n1 : (va_up M 17 0) 17 = 0 := va_up_self _ _ _
  have z1 : (va_up Z 17 0) 17 = lnM ((va_up M 17 0) 17) := by rw [va_up_self, va_up_self, lnM_0]
  generalize (va_up M 17 0) = M1 at hw hm1 n1 z1
  generalize (va_up Z 17 0) = Z1 at hw hm1 z1
  refine lv_aload_n hx hb d_M_root_59 rfl (lv_at hl 0 rfl) ?_
  refine wg_Model_sign hx hb hC hw bw_820 d_M_root_60 ?_
  refine lv_iload_n hx hb d_M_root_63 rfl (lv_at hl 2 rfl) ?_
  refine wl_msign hx hb hw (by omega) d_M_root_64 ?_
  refine sw_i (y := (G i)) (rfl) ?_
  refine sw_i (y := (sgnI (z i))) ((hm1.1 i hi9).2.2.2) ?_
  by_cases hz : z i = 0
  · refine sw_i (y := (nI 0)) (sg_z hz) ?_
    refine lv_if_ne (tgt := 72) hx hb d_M_root_65 (by decide) (fun hw9 => absurd hw9 (by decide +kernel)) (fun hw9 => ?_)
    refine lv_iconst (v := (-1)) hx hb d_M_root_68 (by decide +kernel) ?_
    refine lv_goto (tgt := 81) hx hb d_M_root_69 (by decide) ?_
    refine lv_istore hx hb d_M_root_81 hl (by decide) rfl (fun ls hl => ?_)
    have hl : lv_has ls 5 [(4, .int (-1)), (0, .ref (wa T 91)), (1, .int (nI x)), (2, .int (nI i)), (3, .int (nI kk))] := hl
    refine lv_iload hx hb d_M_root_83 (lv_at hl 0 rfl) ?_
    refine lv_if_lt (tgt := 133) hx hb d_M_root_85 (by decide) (fun hw9 => ?_) (fun hw9 => absurd hw9 (by decide +kernel))
    have er : rtN (z i).natAbs kk = 0 := rtN_eq hk0 (by rw [hz, Nat.zero_pow hk0]; exact Nat.zero_le _) (by rw [hz, Nat.zero_add, Nat.one_pow]; decide)
    rw [er] at hret
    refine lv_aload_n hx hb d_M_root_133 rfl (lv_at hl 1 rfl) ?_
    refine lv_bipush (v := nI 17) hx hb d_M_root_134 (by decide +kernel) ?_
    refine lv_iload_n hx hb d_M_root_136 rfl (lv_at hl 2 rfl) ?_
    refine lv_iconst (v := nI 1) hx hb d_M_root_137 (by decide +kernel) ?_
    refine wcV_v (As := [.int (nI 17), .int (nI x), .int (nI 1)]) hx hb hC hw (k_M_store l T F U (va_up K 15 (nI 0)) I O M1 Z1 G 17 x (nI 1) (by omega) (by omega) (by rw [z1]; exact lnM_le _)) lk_M_73 rfl rfl ⟨by show 1 + 1 ≤ R.frames; omega, by show 8 + (4 + 11) + 23 ≤ R.locals; omega⟩ (by omega) (we_Model ) rfl rfl hl.1 rfl (Nat.le_of_ble_eq_true rfl) ⟨Nat.zero_le _, Nat.zero_le _⟩ d_M_root_138 (fun H locs hw => ?_)
    exact hret _ _ _ _ _ _ _ (hm1.store hx9 (by omega) (n1) z1 (Nat.pow_pos (by decide)) (fun h => (sg_p (by omega)).symm)) hw d_M_root_141
  · refine lv_if_ne (tgt := 72) hx hb d_M_root_65 (by decide) (fun h0 => ?_) (fun h0 => ?_)
    rotate_left
    · exact absurd (sg_eq.mp (by first | exact h0 | exact Classical.not_not.mp h0)) hz
    have hv0 : 0 < (z i).natAbs := by omega
    have hvL : (z i).natAbs < vLim := Nat.lt_of_lt_of_le hli m1024_lim
    have hbp := bl_pos hvL hv0
    have hb24 : bl (z i).natAbs ≤ 1024 := bl_mono hli
    have h1i := hm1.1 i hi9
    refine lv_aload_n hx hb d_M_root_72 rfl (lv_at hl 0 rfl) ?_
    refine lv_iload_n hx hb d_M_root_73 rfl (lv_at hl 2 rfl) ?_
    refine wcV_i (As := [.int (nI i)]) hx hb hC hw (k_M_bitsOf l T F U (va_up K 15 (nI 0)) I O M1 Z1 G i (by omega) h1i.2.2.1 (hm1.lt hi9)) lk_M_96 rfl rfl ⟨by show 0 + 1 ≤ R.frames; omega, by show 8 + (4 + 11) + 0 ≤ R.locals; omega⟩ (by omega) (we_Model ) rfl rfl hl.1 rfl (Nat.le_of_ble_eq_true rfl) ⟨Nat.zero_le _, Nat.zero_le _⟩ d_M_root_74 (fun H locs hw => ?_)
    refine sw_i (y := nI (bl (z i).natAbs)) (by rw [h1i.2.1]) ?_
    refine lv_iconst (v := nI 1) hx hb d_M_root_77 (by decide +kernel) ?_
    refine n_isub hx hb d_M_root_78 (by omega) ?_
    refine lv_iload_n hx hb d_M_root_79 rfl (lv_at hl 3 rfl) ?_
    refine n_idiv hx hb d_M_root_80 (by omega) (by omega) (by omega) ?_
    refine lv_istore hx hb d_M_root_81 hl (by decide) rfl (fun ls hl => ?_)
    have hl : lv_has ls 5 [(4, .int (nI (((bl (z i).natAbs) - 1) / kk))), (0, .ref (wa T 91)), (1, .int (nI x)), (2, .int (nI i)), (3, .int (nI kk))] := hl
    have hi0 : (bl (z i).natAbs - 1) / kk ≤ 1023 := Nat.le_trans (Nat.div_le_self _ _) (by omega)
    have hup := rt_up (bl_lt hvL) hbp hk0
    generalize (bl (z i).natAbs - 1) / kk = i9 at *
    have hl : lv_has ls 5 [(4, .int (nI i9)), (0, .ref (wa T 91)), (1, .int (nI x)), (2, .int (nI i)), (3, .int (nI kk))] := hl
    have ei9 : nI i9 = nI (i9 + 1) - 1 := by rw [nI_pred]
    have hl : lv_has ls 5 [(4, .int (nI (i9 + 1) - 1)), (0, .ref (wa T 91)), (1, .int (nI x)), (2, .int (nI i)), (3, .int (nI kk))] := by rw [← ei9]; exact hl
    have lp : ∀ (q : Nat) (M9 : Nat → Nat) (Z9 : Nat → Nat) (ls : Array Slot) (H : Heap) (locs : List Loc), (mI z M9 Z9 G) → (M9 17 ^ kk ≤ (z i).natAbs) → ((z i).natAbs < (M9 17 + 2 ^ q) ^ kk) → (M9 17 % 2 ^ q = 0) → (Z9 17 = lnM (M9 17)) → (M9 17 + 2 ^ q ≤ 2 ^ (i9 + 1)) → (q ≤ i9 + 1) →  lv_has ls 5 [(4, .int (nI q - 1)), (0, .ref (wa T 91)), (1, .int (nI x)), (2, .int (nI i)), (3, .int (nI kk))] → wH T F U (va_up K 15 (nI 0)) (gI I (dgm M9) Z9 G) O (wA T) s s.heap H locs → W p l e R s m args below meth c H locs 0 0 Q (F0 m 83 ls []) := by
      intro q
      induction q with
      | zero =>
        intro M9 Z9 ls H locs h1 h2 h3 h4 h5 h6 h7 hl hw
        refine lv_iload hx hb d_M_root_83 (lv_at hl 0 rfl) ?_
        refine d_if_lt (tgt := 133) hx hb d_M_root_85 (by decide) (by omega) (fun h0 => ?_) (fun h0 => ?_)
        · rw [Nat.pow_zero] at h3
          have er := rtN_eq hk0 h2 h3
          rw [er] at hret
          refine lv_aload_n hx hb d_M_root_133 rfl (lv_at hl 1 rfl) ?_
          refine lv_bipush (v := nI 17) hx hb d_M_root_134 (by decide +kernel) ?_
          refine lv_iload_n hx hb d_M_root_136 rfl (lv_at hl 2 rfl) ?_
          refine lv_iconst (v := nI 1) hx hb d_M_root_137 (by decide +kernel) ?_
          refine wcV_v (As := [.int (nI 17), .int (nI x), .int (nI 1)]) hx hb hC hw (k_M_store l T F U (va_up K 15 (nI 0)) I O M9 Z9 G 17 x (nI 1) (by omega) (by omega) (by rw [h5]; exact lnM_le _)) lk_M_73 rfl rfl ⟨by show 1 + 1 ≤ R.frames; omega, by show 8 + (4 + 11) + 23 ≤ R.locals; omega⟩ (by omega) (we_Model ) rfl rfl hl.1 rfl (Nat.le_of_ble_eq_true rfl) ⟨Nat.zero_le _, Nat.zero_le _⟩ d_M_root_138 (fun H locs hw => ?_)
          exact hret _ _ _ _ _ _ _ (h1.store hx9 (by omega) (rfl) h5 (Nat.lt_of_le_of_lt (by rw [← er]; exact rtN_le _ _) hli) (fun h => (sg_p (by omega)).symm)) hw d_M_root_141
        · exact absurd h0 (by omega)
      | succ r ih =>
        intro M9 Z9 ls H locs h1 h2 h3 h4 h5 h6 h7 hl hw
        rw [nI_pred] at hl
        have hl : lv_has ls 5 [(4, .int (nI r)), (0, .ref (wa T 91)), (1, .int (nI x)), (2, .int (nI i)), (3, .int (nI kk))] := hl
        refine lv_iload hx hb d_M_root_83 (lv_at hl 0 rfl) ?_
        refine n_if_lt hx hb d_M_root_85 (by decide) (by omega) ?_
        have g1 := h1.1 i hi9
        have l17 : M9 17 + 2 ^ r < m1024 := Nat.lt_of_lt_of_le (show M9 17 + 2 ^ r < 2 ^ (i9 + 1) by rw [Nat.pow_succ 2 r] at h6; have := Nat.two_pow_pos r; omega) (Nat.pow_le_pow_right (by decide) (by omega))
        refine lv_aload_n hx hb d_M_root_88 rfl (lv_at hl 1 rfl) ?_
        refine lv_bipush (v := nI 17) hx hb d_M_root_89 (by decide +kernel) ?_
        refine lv_bipush (v := nI 12) hx hb d_M_root_91 (by decide +kernel) ?_
        refine wcV_v (As := [.int (nI 17), .int (nI 12)]) hx hb hC hw (k_M_move l T F U (va_up K 15 (nI 0)) I O M9 Z9 G 17 12 (by omega) (by omega)) lk_M_40 rfl rfl ⟨by show 0 + 1 ≤ R.frames; omega, by show 8 + (4 + 11) + 0 ≤ R.locals; omega⟩ (by omega) (we_Model ) rfl rfl hl.1 rfl (Nat.le_of_ble_eq_true rfl) ⟨Nat.zero_le _, Nat.zero_le _⟩ d_M_root_93 (fun H locs hw => ?_)
        refine lv_aload_n hx hb d_M_root_96 rfl (lv_at hl 1 rfl) ?_
        refine lv_bipush (v := nI 12) hx hb d_M_root_97 (by decide +kernel) ?_
        refine lv_iload hx hb d_M_root_99 (lv_at hl 0 rfl) ?_
        refine wcV_v (As := [.int (nI 12), .int (nI r)]) hx hb hC hw (k_M_raise l T F U (va_up K 15 (nI 0)) I O (va_up M9 12 (M9 17)) (va_up Z9 12 (Z9 17)) G 12 r (by omega) (by omega) (by rw [va_up_self]; exact rt_bit h4)) lk_M_104 rfl rfl ⟨by show 0 + 1 ≤ R.frames; omega, by show 8 + (3 + 11) + 0 ≤ R.locals; omega⟩ (by omega) (we_Model ) rfl rfl hl.1 rfl (Nat.le_of_ble_eq_true rfl) ⟨Nat.zero_le _, Nat.zero_le _⟩ d_M_root_101 (fun H locs hw => ?_)
        rw [va_v2, va_up_self] at hw
        refine lv_aload_n hx hb d_M_root_104 rfl (lv_at hl 1 rfl) ?_
        refine lv_bipush (v := nI 12) hx hb d_M_root_105 (by decide +kernel) ?_
        refine wcV_v (As := [.int (nI 12)]) hx hb hC hw (k_M_trim l T F U (va_up K 15 (nI 0)) I O (va_up M9 12 (M9 17 + 2 ^ r)) (va_up Z9 12 (Z9 17)) G 12 (by omega) (by rw [va_up_self]; exact mM_of l17)) lk_M_30 rfl rfl ⟨by show 0 + 1 ≤ R.frames; omega, by show 8 + (3 + 11) + 0 ≤ R.locals; omega⟩ (by omega) (we_Model ) rfl rfl hl.1 rfl (Nat.le_of_ble_eq_true rfl) ⟨Nat.zero_le _, Nat.zero_le _⟩ d_M_root_107 (fun H locs hw => ?_)
        rw [va_v2, va_up_self] at hw
        have hm3 : mI z (va_up M9 12 (M9 17 + 2 ^ r)) (va_up Z9 12 (lnM (M9 17 + 2 ^ r))) G := h1.out (by omega) (mM_of l17)
        have n12 : (va_up M9 12 (M9 17 + 2 ^ r)) 12 = M9 17 + 2 ^ r := va_up_self _ _ _
        have z12 : (va_up Z9 12 (lnM (M9 17 + 2 ^ r))) 12 = lnM ((va_up M9 12 (M9 17 + 2 ^ r)) 12) := by rw [va_up_self, va_up_self]
        have n17 : (va_up M9 12 (M9 17 + 2 ^ r)) 17 = M9 17 := va_up_ne _ _ (by decide)
        have z17 : (va_up Z9 12 (lnM (M9 17 + 2 ^ r))) 17 = Z9 17 := va_up_ne _ _ (by decide)
        generalize (va_up M9 12 (M9 17 + 2 ^ r)) = M3 at hw hm3 n12 z12 n17
        generalize (va_up Z9 12 (lnM (M9 17 + 2 ^ r))) = Z3 at hw hm3 z12 z17
        have g3 := hm3.1 i hi9
        refine lv_aload_n hx hb d_M_root_110 rfl (lv_at hl 1 rfl) ?_
        refine lv_iload_n hx hb d_M_root_111 rfl (lv_at hl 3 rfl) ?_
        refine lv_iload_n hx hb d_M_root_112 rfl (lv_at hl 4 rfl) ?_
        refine wcV_zM (As := [.int (nI i), .int (nI kk)]) hx hb hC hw (k_M_fits l T F U (va_up K 15 (nI 0)) I O M3 Z3 G i kk hi9 hk1 hk0 g3.2.2.1 z12 (hm3.lt hi9) (by rw [g3.2.1]; exact hv0) (by rw [n12]; exact l17) hm3.2) lk_M_112 rfl rfl ⟨by show 2 + 1 ≤ R.frames; omega, by show 8 + (4 + 11) + 51 ≤ R.locals; omega⟩ (by omega) (we_Model ) rfl rfl hl.1 rfl (Nat.le_of_ble_eq_true rfl) ⟨Nat.zero_le _, Nat.zero_le _⟩ d_M_root_113 (fun M4 Z4 G4 H locs hp9 hw => ?_)
        obtain ⟨hf, hG⟩ := hp9
        rw [hG] at hw
        have hm4 : mI z M4 Z4 G := hm3.fr (by decide) (by decide) hf
        have f12 := hf.1 12 (by decide) (by decide)
        have f17 := hf.1 17 (by decide) (by decide)
        refine sw_i (y := (bI (decide ((M9 17 + 2 ^ r) ^ kk ≤ (z i).natAbs)))) (by rw [n12, g3.2.1]) ?_
        have lw := ml_low h4
        by_cases hle9 : (M9 17 + 2 ^ r) ^ kk ≤ (z i).natAbs
        · refine sw_i (y := nI 1) (by rw [decide_eq_true hle9]; rfl) ?_
          refine n_if_eq (tgt := 127) hx hb d_M_root_116 (by decide) (by omega) (fun hw9 => absurd hw9 (by decide)) (fun hw9 => ?_)
          refine lv_aload_n hx hb d_M_root_119 rfl (lv_at hl 1 rfl) ?_
          refine lv_bipush (v := nI 12) hx hb d_M_root_120 (by decide +kernel) ?_
          refine lv_bipush (v := nI 17) hx hb d_M_root_122 (by decide +kernel) ?_
          refine wcV_v (As := [.int (nI 12), .int (nI 17)]) hx hb hC hw (k_M_move l T F U (va_up K 15 (nI 0)) I O M4 Z4 G 12 17 (by omega) (by omega)) lk_M_40 rfl rfl ⟨by show 0 + 1 ≤ R.frames; omega, by show 8 + (4 + 11) + 0 ≤ R.locals; omega⟩ (by omega) (we_Model ) rfl rfl hl.1 rfl (Nat.le_of_ble_eq_true rfl) ⟨Nat.zero_le _, Nat.zero_le _⟩ d_M_root_124 (fun H locs hw => ?_)
          have e17 : (va_up M4 17 (M4 12)) 17 = M9 17 + 2 ^ r := (va_up_self _ _ _).trans (f12.1.trans n12)
          have hm5 : mI z (va_up M4 17 (M4 12)) (va_up Z4 17 (Z4 12)) G := hm4.out (by omega) (hm4.2 12 (by omega))
          have z5 : (va_up Z4 17 (Z4 12)) 17 = lnM ((va_up M4 17 (M4 12)) 17) := by rw [va_up_self, va_up_self, f12.1, f12.2]; exact z12
          have e2 : M9 17 + 2 ^ r + 2 ^ r = M9 17 + 2 ^ (r + 1) := by rw [Nat.pow_succ]; omega
          refine lv_iinc (v := (nI r - 1)) hx hb d_M_root_127 hl (k := 0) rfl (i32_m1 _) (by decide) rfl (fun ls hl => ?_)
          have hl : lv_has ls 5 [(4, .int (nI r - 1)), (0, .ref (wa T 91)), (1, .int (nI x)), (2, .int (nI i)), (3, .int (nI kk))] := hl
          refine lv_goto (tgt := 83) hx hb d_M_root_130 (by decide) ?_
          exact ih (va_up M4 17 (M4 12)) (va_up Z4 17 (Z4 12)) ls _ _ hm5 (by rw [e17]; exact hle9) (by rw [e17, e2]; exact h3) (by rw [e17]; exact lw.2) z5 (by rw [e17, e2]; exact h6) (by omega) hl hw
        · refine sw_i (y := nI 0) (by rw [decide_eq_false hle9]; rfl) ?_
          refine n_if_eq (tgt := 127) hx hb d_M_root_116 (by decide) (by omega) (fun hw9 => ?_) (fun hw9 => absurd hw9 (by decide))
          have e17 : M4 17 = M9 17 := f17.1.trans n17
          have e6 : M9 17 + 2 ^ r ≤ 2 ^ (i9 + 1) := by rw [Nat.pow_succ 2 r] at h6; omega
          refine lv_iinc (v := (nI r - 1)) hx hb d_M_root_127 hl (k := 0) rfl (i32_m1 _) (by decide) rfl (fun ls hl => ?_)
          have hl : lv_has ls 5 [(4, .int (nI r - 1)), (0, .ref (wa T 91)), (1, .int (nI x)), (2, .int (nI i)), (3, .int (nI kk))] := hl
          refine lv_goto (tgt := 83) hx hb d_M_root_130 (by decide) ?_
          exact ih M4 Z4 ls _ _ hm4 (by rw [e17]; exact h2) (by rw [e17]; omega) (by rw [e17]; exact lw.1) (by rw [e17, f17.2, z17]; exact h5) (by rw [e17]; exact e6) (by omega) hl hw
    exact lp (i9 + 1) M1 Z1 ls _ _ hm1 (by rw [n1, Nat.zero_pow hk0]; exact Nat.zero_le _) (by rw [n1]; exact hup) (by rw [n1]; exact Nat.zero_mod _) z1 (by rw [n1]; omega) (Nat.le_refl _) hl hw
set_option maxRecDepth 100000 in
set_option maxHeartbeats 4000000 in
theorem k_M_gcd (l : Launch) (T : wT) (F : wFt) (U K : wUt) (I : wIt) (O : wOt) (M Z : Nat → Nat) (G : Nat → Int32) (z : Nat → Int) (hm : mI z M Z G) (r a b : Int32) : Met l y_M_gcd (.code y_M_gcd c_M_gcd 4 none :: bg) ({ frames := 3, cells := 0, slots := 0, locals := 77 } : Room) (mP T F U K (gI I (dgm M) Z G) O [.ref (wa T 91), .int r, .int a, .int b]) (mQvM T (fun M' Z' G' => mI (zF (ocG (isR r ∧ isR a ∧ isR b) 0) (va_up z (rg r) ((Nat.gcd (z (rg a)).natAbs (z (rg b)).natAbs : Nat) : Int)) z) M' Z' G') F U (va_up K 15 (nI (ocG (isR r ∧ isR a ∧ isR b) 0))) I O) 0 0 (wA T) := by
  refine wM_vM (by decide) (Nat.le_of_ble_eq_true rfl) ?_
  intro p e R s m args below meth c Q ls hx hb hC hRf hRl hret hl hw
  have hRf : 3 ≤ R.frames := hRf
  have hRl : 77 ≤ R.locals := hRl
  have hl : lv_has ls 4 [(0, .ref (wa T 91)), (1, .int r), (2, .int a), (3, .int b)] := hl
  refine lv_aload_n hx hb d_M_gcd_0 rfl (lv_at hl 0 rfl) ?_
  refine lv_iload_n hx hb d_M_gcd_1 rfl (lv_at hl 1 rfl) ?_
  refine lv_iload_n hx hb d_M_gcd_2 rfl (lv_at hl 2 rfl) ?_
  refine lv_iload_n hx hb d_M_gcd_3 rfl (lv_at hl 3 rfl) ?_
  refine wcV_z (As := [.int r, .int a, .int b]) hx hb hC hw (k_M_three l T F U K (gI I (dgm M) Z G) O r a b) lk_M_76 rfl rfl ⟨by show 1 + 1 ≤ R.frames; omega, by show 8 + (4 + 11) + 20 ≤ R.locals; omega⟩ (by omega) (we_Model ) rfl rfl hl.1 rfl (Nat.le_of_ble_eq_true rfl) ⟨Nat.zero_le _, Nat.zero_le _⟩ d_M_gcd_4 (fun H locs hw => ?_)
  by_cases hg : isR r ∧ isR a ∧ isR b
  rotate_left
  · refine sw_i (y := nI 0) (by rw [decide_eq_false hg]; rfl) ?_
    refine n_if_ne (tgt := 11) hx hb d_M_gcd_7 (by decide) (by omega) (fun hw9 => absurd hw9 (by decide)) (fun hw9 => ?_)
    rw [ocG_1 hg] at hw hret
    exact hret _ _ _ _ _ _ _ (by rw [zF_n (by decide)]; exact hm) hw d_M_gcd_10
  refine sw_i (y := nI 1) (by rw [decide_eq_true hg]; rfl) ?_
  rw [ocG_k hg] at hw
  obtain ⟨x, hx9, rfl⟩ := isR_of hg.1
  obtain ⟨i, hi9, rfl⟩ := isR_of hg.2.1
  obtain ⟨j, hj9, rfl⟩ := isR_of hg.2.2
  have hl : lv_has ls 4 [(0, .ref (wa T 91)), (1, .int (nI x)), (2, .int (nI i)), (3, .int (nI j))] := hl
  refine n_if_ne (tgt := 11) hx hb d_M_gcd_7 (by decide) (by omega) (fun hw9 => ?_) (fun hw9 => absurd hw9 (by decide))
  rw [ocG_k hg, rg_nI hx9, rg_nI hi9, rg_nI hj9, zF_0 rfl] at hret
  have hi := hm.1 i hi9
  have hj := hm.1 j hj9
  refine lv_aload_n hx hb d_M_gcd_11 rfl (lv_at hl 0 rfl) ?_
  refine lv_iload_n hx hb d_M_gcd_12 rfl (lv_at hl 2 rfl) ?_
  refine lv_bipush (v := nI 17) hx hb d_M_gcd_13 (by decide +kernel) ?_
  refine wcV_v (As := [.int (nI i), .int (nI 17)]) hx hb hC hw (k_M_move l T F U (va_up K 15 (nI 0)) I O M Z G i 17 (by omega) (by omega)) lk_M_40 rfl rfl ⟨by show 0 + 1 ≤ R.frames; omega, by show 8 + (4 + 11) + 0 ≤ R.locals; omega⟩ (by omega) (we_Model ) rfl rfl hl.1 rfl (Nat.le_of_ble_eq_true rfl) ⟨Nat.zero_le _, Nat.zero_le _⟩ d_M_gcd_15 (fun H locs hw => ?_)
  refine lv_aload_n hx hb d_M_gcd_18 rfl (lv_at hl 0 rfl) ?_
  refine lv_iload_n hx hb d_M_gcd_19 rfl (lv_at hl 3 rfl) ?_
  refine lv_bipush (v := nI 18) hx hb d_M_gcd_20 (by decide +kernel) ?_
  refine wcV_v (As := [.int (nI j), .int (nI 18)]) hx hb hC hw (k_M_move l T F U (va_up K 15 (nI 0)) I O (va_up M 17 (M i)) (va_up Z 17 (Z i)) G j 18 (by omega) (by omega)) lk_M_40 rfl rfl ⟨by show 0 + 1 ≤ R.frames; omega, by show 8 + (4 + 11) + 0 ≤ R.locals; omega⟩ (by omega) (we_Model ) rfl rfl hl.1 rfl (Nat.le_of_ble_eq_true rfl) ⟨Nat.zero_le _, Nat.zero_le _⟩ d_M_gcd_22 (fun H locs hw => ?_)
  have ej1 : (va_up M 17 (M i)) j = (z j).natAbs := (va_up_ne _ _ (by omega)).trans hj.2.1
  have zj1 : (va_up Z 17 (Z i)) j = lnM ((va_up M 17 (M i)) j) := by rw [va_up_ne _ _ (by omega), va_up_ne _ _ (by omega)]; exact hj.2.2.1
  have hm2 : mI z (va_up (va_up M 17 (M i)) 18 ((va_up M 17 (M i)) j)) (va_up (va_up Z 17 (Z i)) 18 ((va_up Z 17 (Z i)) j)) G := (hm.out (by omega) (hm.2 i (by omega))).out (by omega) (by rw [ej1]; exact mM_of hj.1)
  have n17 : (va_up (va_up M 17 (M i)) 18 ((va_up M 17 (M i)) j)) 17 = (z i).natAbs := (va_up_ne _ _ (by decide)).trans ((va_up_self _ _ _).trans hi.2.1)
  have z17 : (va_up (va_up Z 17 (Z i)) 18 ((va_up Z 17 (Z i)) j)) 17 = lnM ((va_up (va_up M 17 (M i)) 18 ((va_up M 17 (M i)) j)) 17) := by rw [va_up_ne _ _ (by decide), va_up_self, va_up_ne _ _ (by decide), va_up_self]; exact hi.2.2.1
  have n18 : (va_up (va_up M 17 (M i)) 18 ((va_up M 17 (M i)) j)) 18 = (z j).natAbs := (va_up_self _ _ _).trans ej1
  have z18 : (va_up (va_up Z 17 (Z i)) 18 ((va_up Z 17 (Z i)) j)) 18 = lnM ((va_up (va_up M 17 (M i)) 18 ((va_up M 17 (M i)) j)) 18) := by rw [va_up_self, va_up_self]; exact zj1
  generalize (va_up (va_up M 17 (M i)) 18 ((va_up M 17 (M i)) j)) = M2 at hw hm2 n17 z17 n18 z18
  generalize (va_up (va_up Z 17 (Z i)) 18 ((va_up Z 17 (Z i)) j)) = Z2 at hw hm2 z17 z18
  have lp : ∀ (q : Nat) (M9 Z9 : Nat → Nat) (ls : Array Slot) (H : Heap) (locs : List Loc), M9 18 = q → mI z M9 Z9 G → M9 17 < m1024 → M9 18 < m1024 → Z9 17 = lnM (M9 17) → Z9 18 = lnM (M9 18) → Nat.gcd (M9 17) (M9 18) = Nat.gcd (z i).natAbs (z j).natAbs → lv_has ls 4 [(0, .ref (wa T 91)), (1, .int (nI x)), (2, .int (nI i)), (3, .int (nI j))] → wH T F U (va_up K 15 (nI 0)) (gI I (dgm M9) Z9 G) O (wA T) s s.heap H locs → W p l e R s m args below meth c H locs 0 0 Q (F0 m 25 ls []) := by
    intro q
    induction q using Nat.strongRecOn with
    | ind q ihq =>
      intro M9 Z9 ls H locs hq h1 h2 h3 h4 h5 h6 hl hw
      have hl : lv_has ls 4 [(0, .ref (wa T 91)), (1, .int (nI x)), (2, .int (nI i)), (3, .int (nI j))] := hl
      have ll := lnM_le (M9 18)
      have lz := lnM_z (h1.2 18 (by omega))
      refine lv_aload_n hx hb d_M_gcd_25 rfl (lv_at hl 0 rfl) ?_
      refine wg_Model_size hx hb hC hw bw_819 d_M_gcd_26 ?_
      refine lv_bipush (v := nI 18) hx hb d_M_gcd_29 (by decide +kernel) ?_
      refine wl_msize hx hb hw (by omega) d_M_gcd_31 ?_
      refine sw_i (y := nI (lnM (M9 18))) (congrArg nI h5) ?_
      refine n_if_le (tgt := 62) hx hb d_M_gcd_32 (by decide) (by omega) (fun h0 => ?_) (fun h0 => ?_)
      · rw [lz.mp h0, Nat.gcd_zero_right] at h6
        refine lv_aload_n hx hb d_M_gcd_62 rfl (lv_at hl 0 rfl) ?_
        refine lv_bipush (v := nI 17) hx hb d_M_gcd_63 (by decide +kernel) ?_
        refine lv_iload_n hx hb d_M_gcd_65 rfl (lv_at hl 1 rfl) ?_
        refine lv_iconst (v := nI 1) hx hb d_M_gcd_66 (by decide +kernel) ?_
        refine wcV_v (As := [.int (nI 17), .int (nI x), .int (nI 1)]) hx hb hC hw (k_M_store l T F U (va_up K 15 (nI 0)) I O M9 Z9 G 17 x (nI 1) (by omega) (by omega) (by rw [h4]; exact lnM_le _)) lk_M_73 rfl rfl ⟨by show 1 + 1 ≤ R.frames; omega, by show 8 + (4 + 11) + 23 ≤ R.locals; omega⟩ (by omega) (we_Model ) rfl rfl hl.1 rfl (Nat.le_of_ble_eq_true rfl) ⟨Nat.zero_le _, Nat.zero_le _⟩ d_M_gcd_67 (fun H locs hw => ?_)
        exact hret _ _ _ _ _ _ _ (h1.store hx9 (by omega) h6 h4 (by rw [show ((Nat.gcd (z i).natAbs (z j).natAbs : Nat) : Int).natAbs = Nat.gcd (z i).natAbs (z j).natAbs from rfl, ← h6]; exact h2) (fun h => (sg_p (by omega)).symm)) hw d_M_gcd_70
      · have h18 : 0 < M9 18 := by have := lz.mpr; omega
        have hrl := Nat.mod_lt (M9 17) h18
        refine lv_aload_n hx hb d_M_gcd_35 rfl (lv_at hl 0 rfl) ?_
        refine lv_bipush (v := nI 17) hx hb d_M_gcd_36 (by decide +kernel) ?_
        refine lv_bipush (v := nI 18) hx hb d_M_gcd_38 (by decide +kernel) ?_
        refine wcV_v (As := [.int (nI 17), .int (nI 18)]) hx hb hC hw (k_M_split l T F U (va_up K 15 (nI 0)) I O M9 Z9 G 17 18 (by omega) (by omega) (by omega) (by omega) (by omega) (by omega) h4 h5 (m107_of h2) (h1.2 18 (by omega)) h18) lk_M_56 rfl rfl ⟨by show 2 + 1 ≤ R.frames; omega, by show 8 + (10 + 11) + 48 ≤ R.locals; omega⟩ (by omega) (we_Model ) rfl rfl hl.1 rfl (Nat.le_of_ble_eq_true rfl) ⟨Nat.zero_le _, Nat.zero_le _⟩ d_M_gcd_40 (fun H locs hw => ?_)
        have dl : M9 17 / M9 18 ≤ M9 17 := Nat.div_le_self _ _
        have m17 := mM_of h2
        have m18 := mM_of h3
        have hm3 : mI z (va_up (va_up M9 16 (M9 17 % M9 18)) 15 (M9 17 / M9 18)) (va_up (va_up Z9 16 (lnM (M9 17 % M9 18))) 15 (lnM (M9 17 / M9 18))) G := (h1.out (by omega) (by omega)).out (by omega) (by omega)
        have a16 : (va_up (va_up M9 16 (M9 17 % M9 18)) 15 (M9 17 / M9 18)) 16 = M9 17 % M9 18 := (va_up_ne _ _ (by decide)).trans (va_up_self _ _ _)
        have y16 : (va_up (va_up Z9 16 (lnM (M9 17 % M9 18))) 15 (lnM (M9 17 / M9 18))) 16 = lnM ((va_up (va_up M9 16 (M9 17 % M9 18)) 15 (M9 17 / M9 18)) 16) := by rw [va_up_ne _ _ (by decide), va_up_self, va_up_ne _ _ (by decide), va_up_self]
        have a18 : (va_up (va_up M9 16 (M9 17 % M9 18)) 15 (M9 17 / M9 18)) 18 = M9 18 := (va_up_ne _ _ (by decide)).trans (va_up_ne _ _ (by decide))
        have y18 : (va_up (va_up Z9 16 (lnM (M9 17 % M9 18))) 15 (lnM (M9 17 / M9 18))) 18 = Z9 18 := (va_up_ne _ _ (by decide)).trans (va_up_ne _ _ (by decide))
        generalize (va_up (va_up M9 16 (M9 17 % M9 18)) 15 (M9 17 / M9 18)) = M3 at hw hm3 a16 y16 a18
        generalize (va_up (va_up Z9 16 (lnM (M9 17 % M9 18))) 15 (lnM (M9 17 / M9 18))) = Z3 at hw hm3 y16 y18
        refine lv_aload_n hx hb d_M_gcd_43 rfl (lv_at hl 0 rfl) ?_
        refine lv_bipush (v := nI 18) hx hb d_M_gcd_44 (by decide +kernel) ?_
        refine lv_bipush (v := nI 17) hx hb d_M_gcd_46 (by decide +kernel) ?_
        refine wcV_v (As := [.int (nI 18), .int (nI 17)]) hx hb hC hw (k_M_move l T F U (va_up K 15 (nI 0)) I O M3 Z3 G 18 17 (by omega) (by omega)) lk_M_40 rfl rfl ⟨by show 0 + 1 ≤ R.frames; omega, by show 8 + (4 + 11) + 0 ≤ R.locals; omega⟩ (by omega) (we_Model ) rfl rfl hl.1 rfl (Nat.le_of_ble_eq_true rfl) ⟨Nat.zero_le _, Nat.zero_le _⟩ d_M_gcd_48 (fun H locs hw => ?_)
        refine lv_aload_n hx hb d_M_gcd_51 rfl (lv_at hl 0 rfl) ?_
        refine lv_bipush (v := nI 16) hx hb d_M_gcd_52 (by decide +kernel) ?_
        refine lv_bipush (v := nI 18) hx hb d_M_gcd_54 (by decide +kernel) ?_
        refine wcV_v (As := [.int (nI 16), .int (nI 18)]) hx hb hC hw (k_M_move l T F U (va_up K 15 (nI 0)) I O (va_up M3 17 (M3 18)) (va_up Z3 17 (Z3 18)) G 16 18 (by omega) (by omega)) lk_M_40 rfl rfl ⟨by show 0 + 1 ≤ R.frames; omega, by show 8 + (4 + 11) + 0 ≤ R.locals; omega⟩ (by omega) (we_Model ) rfl rfl hl.1 rfl (Nat.le_of_ble_eq_true rfl) ⟨Nat.zero_le _, Nat.zero_le _⟩ d_M_gcd_56 (fun H locs hw => ?_)
        have b16 : (va_up M3 17 (M3 18)) 16 = M9 17 % M9 18 := (va_up_ne _ _ (by decide)).trans a16
        have hm5 : mI z (va_up (va_up M3 17 (M3 18)) 18 ((va_up M3 17 (M3 18)) 16)) (va_up (va_up Z3 17 (Z3 18)) 18 ((va_up Z3 17 (Z3 18)) 16)) G := (hm3.out (by omega) (hm3.2 18 (by omega))).out (by omega) (by rw [b16]; omega)
        have b18 : (va_up (va_up M3 17 (M3 18)) 18 ((va_up M3 17 (M3 18)) 16)) 18 = M9 17 % M9 18 := (va_up_self _ _ _).trans b16
        have b17 : (va_up (va_up M3 17 (M3 18)) 18 ((va_up M3 17 (M3 18)) 16)) 17 = M9 18 := (va_up_ne _ _ (by decide)).trans ((va_up_self _ _ _).trans a18)
        have c17 : (va_up (va_up Z3 17 (Z3 18)) 18 ((va_up Z3 17 (Z3 18)) 16)) 17 = lnM ((va_up (va_up M3 17 (M3 18)) 18 ((va_up M3 17 (M3 18)) 16)) 17) := by rw [b17, va_up_ne _ _ (by decide), va_up_self, y18]; exact h5
        have c18 : (va_up (va_up Z3 17 (Z3 18)) 18 ((va_up Z3 17 (Z3 18)) 16)) 18 = lnM ((va_up (va_up M3 17 (M3 18)) 18 ((va_up M3 17 (M3 18)) 16)) 18) := by rw [b18, va_up_self, va_up_ne _ _ (by decide), y16, a16]
        refine lv_goto (tgt := 25) hx hb d_M_gcd_59 (by decide) ?_
        exact ihq (M9 17 % M9 18) (by omega) (va_up (va_up M3 17 (M3 18)) 18 ((va_up M3 17 (M3 18)) 16)) (va_up (va_up Z3 17 (Z3 18)) 18 ((va_up Z3 17 (Z3 18)) 16)) ls _ _ b18 hm5 (by rw [b17]; exact h3) (by rw [b18]; omega) c17 c18 (by rw [b17, b18, Nat.gcd_comm, ← Nat.gcd_rec, Nat.gcd_comm]; exact h6) hl hw
  exact lp (M2 18) M2 Z2 ls _ _ rfl hm2 (by rw [n17]; exact hi.1) (by rw [n18]; exact hj.1) z17 z18 (by rw [n17, n18]) hl hw
