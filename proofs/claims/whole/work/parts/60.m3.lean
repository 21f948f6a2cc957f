/-! the model: guess, goes, takeAway -/
def gsU (R n k : Nat) : Nat := dg R (n + k) * 1099511627776 + dg R (n + k - 1) * 1048576 + (if 2 ≤ n + k then dg R (n + k - 2) else 0)
def gsV (B n : Nat) : Nat := dg B (n - 1) * 1048576 + (if 2 ≤ n then dg B (n - 2) else 0)
def gsN (R B n k : Nat) : Nat := gsU R n k / (gsV B n + 1)
theorem gsU_lt (R n k : Nat) : gsU R n k < 1152921504606846976 := by
  unfold gsU
  have h1 := dgm_lt R (n + k); have h2 := dgm_lt R (n + k - 1); have h3 := dgm_lt R (n + k - 2)
  split <;> omega
theorem gsV_lt (B n : Nat) : gsV B n < 1099511627776 := by
  unfold gsV
  have h1 := dgm_lt B (n - 1); have h2 := dgm_lt B (n - 2)
  split <;> omega
theorem gsN_le {R B n k : Nat} (hn : 0 < n) (hR : R < b20 ^ (n + k + 1)) (hB : B < b20 ^ n) : gsN R B n k * (B * b20 ^ k) ≤ R := by
  unfold gsN
  refine gs_le (n := n) ?_ ?_
  · unfold gsU
    by_cases h : 2 ≤ n + k
    · obtain ⟨q, hq⟩ : ∃ q, n + k = q + 2 := ⟨n + k - 2, by omega⟩
      rw [if_pos h]; rw [hq] at hR ⊢
      exact gs_u2 hR
    · have hq : n + k = 1 := by omega
      rw [if_neg h]; rw [hq] at hR ⊢
      exact gs_u1 hR
  · unfold gsV
    by_cases h : 2 ≤ n
    · obtain ⟨q, hq⟩ : ∃ q, n = q + 2 := ⟨n - 2, by omega⟩
      subst hq
      rw [if_pos h]; exact gs_v2 hB
    · have hq : n = 1 := by omega
      subst hq
      rw [if_neg h]; exact gs_v1 hB
theorem gsN_lt {R B n k : Nat} (hn : 0 < n) (hR : R < b20 ^ (n + k + 1)) (hB : B < b20 ^ n) (h : R < B * b20 ^ (k + 1)) : gsN R B n k < 1048576 := by
  have h1 := gsN_le hn hR hB
  have h2 : gsN R B n k * (B * b20 ^ k) < 1048576 * (B * b20 ^ k) := Nat.lt_of_le_of_lt h1 (Nat.lt_of_lt_of_le h (Nat.le_of_eq (by rw [Nat.pow_succ, ← Nat.mul_assoc, Nat.mul_comm]; rfl)))
  exact Nat.lt_of_mul_lt_mul_right h2

set_option maxRecDepth 100000 in
set_option maxHeartbeats 4000000 in
theorem k_M_guess (l : Launch) (T : wT) (F : wFt) (U K : wUt) (I : wIt) (O : wOt) (M Z : Nat → Nat) (G : Nat → Int32) (b n k : Nat) (hb9 : b < 20) (hn0 : 0 < n) (hnk : n + k < 108) : Met l y_M_guess (.code y_M_guess c_M_guess 8 (some .long) :: bg) ({ frames := 1, cells := 0, slots := 0, locals := 21 } : Room) (mP T F U K (gI I (dgm M) Z G) O [.ref (wa T 91), .int (nI b), .int (nI n), .int (nI k)]) (mQl T (lN (gsN (M 16) (M b) n k)) F U K (gI I (dgm M) Z G) O) 0 0 (wA T) := by
  refine wM_l (by decide) (Nat.le_of_ble_eq_true rfl) ?_
  intro p e R s m args below meth c Q ls hx hb hC hRf hRl hret hl hw
  have hRf : 1 ≤ R.frames := hRf
  have hRl : 21 ≤ R.locals := hRl
  have hl : lv_has ls 8 [(0, .ref (wa T 91)), (1, .int (nI b)), (2, .int (nI n)), (3, .int (nI k))] := hl
  have d1 := dgm_lt (M 16) (n + k)
  have d2 := dgm_lt (M 16) (n + k - 1)
  have d3 := dgm_lt (M 16) (n + k - 2)
  have e1 := dgm_lt (M b) (n - 1)
  have e2 := dgm_lt (M b) (n - 2)
  have uL := gsU_lt (M 16) n k
  have vL := gsV_lt (M b) n
  refine lv_aload_n hx hb d_M_guess_0 rfl (lv_at hl 0 rfl) ?_
  refine lv_iload_n hx hb d_M_guess_1 rfl (lv_at hl 2 rfl) ?_
  refine lv_iload_n hx hb d_M_guess_2 rfl (lv_at hl 3 rfl) ?_
  refine n_iadd hx hb d_M_guess_3 ?_
  refine wcV_l (As := [.int (nI (n + k))]) hx hb hC hw (k_M_restAt l T F U K I O M Z G (n + k) (by omega)) lk_M_36 rfl rfl ⟨by show 0 + 1 ≤ R.frames; omega, by show 8 + (2 + 11) + 0 ≤ R.locals; omega⟩ (by omega) (we_Model ) rfl rfl hl.1 rfl (Nat.le_of_ble_eq_true rfl) ⟨Nat.zero_le _, Nat.zero_le _⟩ d_M_guess_4 (fun H locs hw => ?_)
  refine lv_bipush (v := nI 40) hx hb d_M_guess_7 (by decide +kernel) ?_
  refine lv_lshl hx hb d_M_guess_9 rfl ?_
  refine sw_l (y := (lN (dg (M 16) (n + k) * 1099511627776))) (wb_shl _ (k := 40) (by decide)) ?_
  refine lv_aload_n hx hb d_M_guess_10 rfl (lv_at hl 0 rfl) ?_
  refine lv_iload_n hx hb d_M_guess_11 rfl (lv_at hl 2 rfl) ?_
  refine lv_iload_n hx hb d_M_guess_12 rfl (lv_at hl 3 rfl) ?_
  refine n_iadd hx hb d_M_guess_13 ?_
  refine lv_iconst (v := nI 1) hx hb d_M_guess_14 (by decide +kernel) ?_
  refine n_isub hx hb d_M_guess_15 (by omega) ?_
  refine wcV_l (As := [.int (nI ((n + k) - 1))]) hx hb hC hw (k_M_restAt l T F U K I O M Z G (n + k - 1) (by omega)) lk_M_36 rfl rfl ⟨by show 0 + 1 ≤ R.frames; omega, by show 8 + (2 + 11) + 0 ≤ R.locals; omega⟩ (by omega) (we_Model ) rfl rfl hl.1 rfl (Nat.le_of_ble_eq_true rfl) ⟨Nat.zero_le _, Nat.zero_le _⟩ d_M_guess_16 (fun H locs hw => ?_)
  refine lv_bipush (v := nI 20) hx hb d_M_guess_19 (by decide +kernel) ?_
  refine lv_lshl hx hb d_M_guess_21 rfl ?_
  refine sw_l (y := (lN (dg (M 16) (n + k - 1) * 1048576))) (wb_shl _ (k := 20) (by decide)) ?_
  refine lv_ladd hx hb d_M_guess_22 ?_
  refine lv_aload_n hx hb d_M_guess_23 rfl (lv_at hl 0 rfl) ?_
  refine lv_iload_n hx hb d_M_guess_24 rfl (lv_at hl 2 rfl) ?_
  refine lv_iload_n hx hb d_M_guess_25 rfl (lv_at hl 3 rfl) ?_
  refine n_iadd hx hb d_M_guess_26 ?_
  refine lv_iconst (v := nI 2) hx hb d_M_guess_27 (by decide +kernel) ?_
  refine lv_isub hx hb d_M_guess_28 ?_
  by_cases h2 : 2 ≤ n + k
  · refine sw_i (y := nI (n + k - 2)) (pk_sub (by omega)) ?_
    refine wcV_l (As := [.int (nI (n + k - 2))]) hx hb hC hw (k_M_restAt l T F U K I O M Z G (n + k - 2) (by omega)) lk_M_36 rfl rfl ⟨by show 0 + 1 ≤ R.frames; omega, by show 8 + (2 + 11) + 0 ≤ R.locals; omega⟩ (by omega) (we_Model ) rfl rfl hl.1 rfl (Nat.le_of_ble_eq_true rfl) ⟨Nat.zero_le _, Nat.zero_le _⟩ d_M_guess_29 (fun H locs hw => ?_)
    refine lv_ladd hx hb d_M_guess_32 ?_
    refine sw_l (y := (lN (gsU (M 16) n k))) (by rw [lN_add, lN_add]; unfold gsU; rw [if_pos h2]) ?_
    refine lv_lstore hx hb d_M_guess_33 hl (by decide) rfl (fun ls hl => ?_)
    have hl : lv_has ls 8 [(4, .long (lN (gsU (M 16) n k))), (0, .ref (wa T 91)), (1, .int (nI b)), (2, .int (nI n)), (3, .int (nI k))] := hl
    refine lv_aload_n hx hb d_M_guess_35 rfl (lv_at hl 1 rfl) ?_
    refine wg_Model_d hx hb hC hw bw_818 d_M_guess_36 ?_
    refine lv_bipush (v := nI 108) hx hb d_M_guess_39 (by decide +kernel) ?_
    refine lv_iload_n hx hb d_M_guess_41 rfl (lv_at hl 2 rfl) ?_
    refine n_imul hx hb d_M_guess_42 ?_
    refine lv_iload_n hx hb d_M_guess_43 rfl (lv_at hl 3 rfl) ?_
    refine n_iadd hx hb d_M_guess_44 ?_
    refine lv_iconst (v := nI 1) hx hb d_M_guess_45 (by decide +kernel) ?_
    refine n_isub hx hb d_M_guess_46 (by omega) ?_
    refine sw_i (y := nI (108 * b + (n - 1))) (by rw [show 108 * b + n - 1 = 108 * b + (n - 1) by omega]) ?_
    refine wl_md hx hb hw (by omega) d_M_guess_47 ?_
    refine sw_i (y := nI (dg (M b) (n - 1))) (gI_d (s := b) (i := (n - 1)) (by omega)) ?_
    refine lv_i2l hx hb d_M_guess_48 rfl ?_
    refine sw_l (y := (lN (dg (M b) (n - 1)))) (nI_l (by omega)) ?_
    refine lv_bipush (v := nI 20) hx hb d_M_guess_49 (by decide +kernel) ?_
    refine lv_lshl hx hb d_M_guess_51 rfl ?_
    refine sw_l (y := (lN (dg (M b) (n - 1) * 1048576))) (wb_shl _ (k := 20) (by decide)) ?_
    refine lv_iload_n hx hb d_M_guess_52 rfl (lv_at hl 3 rfl) ?_
    refine lv_iconst (v := nI 1) hx hb d_M_guess_53 (by decide +kernel) ?_
    refine n_icmp_le (tgt := 73) hx hb d_M_guess_54 (by decide) (by omega) (by omega) (fun h3 => ?_) (fun h3 => ?_)
    · refine lv_iconst (v := nI 0) hx hb d_M_guess_73 (by decide +kernel) ?_
      refine lv_i2l hx hb d_M_guess_74 rfl ?_
      refine sw_l (y := (lN 0)) (rfl) ?_
      refine lv_ladd hx hb d_M_guess_75 ?_
      refine sw_l (y := (lN (gsV (M b) n))) (by rw [lN_add]; unfold gsV; rw [if_neg (by omega)]) ?_
      refine lv_lstore hx hb d_M_guess_76 hl (by decide) rfl (fun ls hl => ?_)
      have hl : lv_has ls 8 [(6, .long (lN (gsV (M b) n))), (4, .long (lN (gsU (M 16) n k))), (0, .ref (wa T 91)), (1, .int (nI b)), (2, .int (nI n)), (3, .int (nI k))] := hl
      refine lv_lload hx hb d_M_guess_78 (lv_at hl 1 rfl) ?_
      refine lv_lload hx hb d_M_guess_80 (lv_at hl 0 rfl) ?_
      refine lv_lconst (v := 1) hx hb d_M_guess_82 (by decide +kernel) ?_
      refine lv_ladd hx hb d_M_guess_83 ?_
      refine sw_l (y := (lN (gsV (M b) n + 1))) (lN_add _ 1) ?_
      refine lv_ldiv hx hb d_M_guess_84 (lN_ne0 (by omega) (by omega)) ?_
      refine sw_l (y := (lN (gsN (M 16) (M b) n k))) (pk_lDiv (by omega) (by omega) (by omega)) ?_
      exact hret _ _ _ _ hw d_M_guess_85
    · refine lv_aload_n hx hb d_M_guess_57 rfl (lv_at hl 1 rfl) ?_
      refine wg_Model_d hx hb hC hw bw_818 d_M_guess_58 ?_
      refine lv_bipush (v := nI 108) hx hb d_M_guess_61 (by decide +kernel) ?_
      refine lv_iload_n hx hb d_M_guess_63 rfl (lv_at hl 2 rfl) ?_
      refine n_imul hx hb d_M_guess_64 ?_
      refine lv_iload_n hx hb d_M_guess_65 rfl (lv_at hl 3 rfl) ?_
      refine n_iadd hx hb d_M_guess_66 ?_
      refine lv_iconst (v := nI 2) hx hb d_M_guess_67 (by decide +kernel) ?_
      refine n_isub hx hb d_M_guess_68 (by omega) ?_
      refine sw_i (y := nI (108 * b + (n - 2))) (by rw [show 108 * b + n - 2 = 108 * b + (n - 2) by omega]) ?_
      refine wl_md hx hb hw (by omega) d_M_guess_69 ?_
      refine sw_i (y := nI (dg (M b) (n - 2))) (gI_d (s := b) (i := (n - 2)) (by omega)) ?_
      refine lv_goto (tgt := 74) hx hb d_M_guess_70 (by decide) ?_
      refine lv_i2l hx hb d_M_guess_74 rfl ?_
      refine sw_l (y := (lN (dg (M b) (n - 2)))) (nI_l (by omega)) ?_
      refine lv_ladd hx hb d_M_guess_75 ?_
      refine sw_l (y := (lN (gsV (M b) n))) (by rw [lN_add]; unfold gsV; rw [if_pos (by omega)]) ?_
      refine lv_lstore hx hb d_M_guess_76 hl (by decide) rfl (fun ls hl => ?_)
      have hl : lv_has ls 8 [(6, .long (lN (gsV (M b) n))), (4, .long (lN (gsU (M 16) n k))), (0, .ref (wa T 91)), (1, .int (nI b)), (2, .int (nI n)), (3, .int (nI k))] := hl
      refine lv_lload hx hb d_M_guess_78 (lv_at hl 1 rfl) ?_
      refine lv_lload hx hb d_M_guess_80 (lv_at hl 0 rfl) ?_
      refine lv_lconst (v := 1) hx hb d_M_guess_82 (by decide +kernel) ?_
      refine lv_ladd hx hb d_M_guess_83 ?_
      refine sw_l (y := (lN (gsV (M b) n + 1))) (lN_add _ 1) ?_
      refine lv_ldiv hx hb d_M_guess_84 (lN_ne0 (by omega) (by omega)) ?_
      refine sw_l (y := (lN (gsN (M 16) (M b) n k))) (pk_lDiv (by omega) (by omega) (by omega)) ?_
      exact hret _ _ _ _ hw d_M_guess_85
  · have hq : n + k = 1 := by omega
    refine sw_i (y := (nI 1 - nI 2)) (by rw [hq]) ?_
    refine wcV_l (As := [.int (nI 1 - nI 2)]) hx hb hC hw (k_M_restAtN l T F U K I O M Z G (nI 1 - nI 2) (by decide +kernel)) lk_M_36 rfl rfl ⟨by show 0 + 1 ≤ R.frames; omega, by show 8 + (2 + 11) + 0 ≤ R.locals; omega⟩ (by omega) (we_Model ) rfl rfl hl.1 rfl (Nat.le_of_ble_eq_true rfl) ⟨Nat.zero_le _, Nat.zero_le _⟩ d_M_guess_29 (fun H locs hw => ?_)
    refine lv_ladd hx hb d_M_guess_32 ?_
    refine sw_l (y := (lN (gsU (M 16) n k))) (by rw [lN_add, lN_add]; unfold gsU; rw [if_neg h2]) ?_
    refine lv_lstore hx hb d_M_guess_33 hl (by decide) rfl (fun ls hl => ?_)
    have hl : lv_has ls 8 [(4, .long (lN (gsU (M 16) n k))), (0, .ref (wa T 91)), (1, .int (nI b)), (2, .int (nI n)), (3, .int (nI k))] := hl
    refine lv_aload_n hx hb d_M_guess_35 rfl (lv_at hl 1 rfl) ?_
    refine wg_Model_d hx hb hC hw bw_818 d_M_guess_36 ?_
    refine lv_bipush (v := nI 108) hx hb d_M_guess_39 (by decide +kernel) ?_
    refine lv_iload_n hx hb d_M_guess_41 rfl (lv_at hl 2 rfl) ?_
    refine n_imul hx hb d_M_guess_42 ?_
    refine lv_iload_n hx hb d_M_guess_43 rfl (lv_at hl 3 rfl) ?_
    refine n_iadd hx hb d_M_guess_44 ?_
    refine lv_iconst (v := nI 1) hx hb d_M_guess_45 (by decide +kernel) ?_
    refine n_isub hx hb d_M_guess_46 (by omega) ?_
    refine sw_i (y := nI (108 * b + (n - 1))) (by rw [show 108 * b + n - 1 = 108 * b + (n - 1) by omega]) ?_
    refine wl_md hx hb hw (by omega) d_M_guess_47 ?_
    refine sw_i (y := nI (dg (M b) (n - 1))) (gI_d (s := b) (i := (n - 1)) (by omega)) ?_
    refine lv_i2l hx hb d_M_guess_48 rfl ?_
    refine sw_l (y := (lN (dg (M b) (n - 1)))) (nI_l (by omega)) ?_
    refine lv_bipush (v := nI 20) hx hb d_M_guess_49 (by decide +kernel) ?_
    refine lv_lshl hx hb d_M_guess_51 rfl ?_
    refine sw_l (y := (lN (dg (M b) (n - 1) * 1048576))) (wb_shl _ (k := 20) (by decide)) ?_
    refine lv_iload_n hx hb d_M_guess_52 rfl (lv_at hl 3 rfl) ?_
    refine lv_iconst (v := nI 1) hx hb d_M_guess_53 (by decide +kernel) ?_
    refine n_icmp_le (tgt := 73) hx hb d_M_guess_54 (by decide) (by omega) (by omega) (fun h3 => ?_) (fun h3 => ?_)
    · refine lv_iconst (v := nI 0) hx hb d_M_guess_73 (by decide +kernel) ?_
      refine lv_i2l hx hb d_M_guess_74 rfl ?_
      refine sw_l (y := (lN 0)) (rfl) ?_
      refine lv_ladd hx hb d_M_guess_75 ?_
      refine sw_l (y := (lN (gsV (M b) n))) (by rw [lN_add]; unfold gsV; rw [if_neg (by omega)]) ?_
      refine lv_lstore hx hb d_M_guess_76 hl (by decide) rfl (fun ls hl => ?_)
      have hl : lv_has ls 8 [(6, .long (lN (gsV (M b) n))), (4, .long (lN (gsU (M 16) n k))), (0, .ref (wa T 91)), (1, .int (nI b)), (2, .int (nI n)), (3, .int (nI k))] := hl
      refine lv_lload hx hb d_M_guess_78 (lv_at hl 1 rfl) ?_
      refine lv_lload hx hb d_M_guess_80 (lv_at hl 0 rfl) ?_
      refine lv_lconst (v := 1) hx hb d_M_guess_82 (by decide +kernel) ?_
      refine lv_ladd hx hb d_M_guess_83 ?_
      refine sw_l (y := (lN (gsV (M b) n + 1))) (lN_add _ 1) ?_
      refine lv_ldiv hx hb d_M_guess_84 (lN_ne0 (by omega) (by omega)) ?_
      refine sw_l (y := (lN (gsN (M 16) (M b) n k))) (pk_lDiv (by omega) (by omega) (by omega)) ?_
      exact hret _ _ _ _ hw d_M_guess_85
    · refine lv_aload_n hx hb d_M_guess_57 rfl (lv_at hl 1 rfl) ?_
      refine wg_Model_d hx hb hC hw bw_818 d_M_guess_58 ?_
      refine lv_bipush (v := nI 108) hx hb d_M_guess_61 (by decide +kernel) ?_
      refine lv_iload_n hx hb d_M_guess_63 rfl (lv_at hl 2 rfl) ?_
      refine n_imul hx hb d_M_guess_64 ?_
      refine lv_iload_n hx hb d_M_guess_65 rfl (lv_at hl 3 rfl) ?_
      refine n_iadd hx hb d_M_guess_66 ?_
      refine lv_iconst (v := nI 2) hx hb d_M_guess_67 (by decide +kernel) ?_
      refine n_isub hx hb d_M_guess_68 (by omega) ?_
      refine sw_i (y := nI (108 * b + (n - 2))) (by rw [show 108 * b + n - 2 = 108 * b + (n - 2) by omega]) ?_
      refine wl_md hx hb hw (by omega) d_M_guess_69 ?_
      refine sw_i (y := nI (dg (M b) (n - 2))) (gI_d (s := b) (i := (n - 2)) (by omega)) ?_
      refine lv_goto (tgt := 74) hx hb d_M_guess_70 (by decide) ?_
      refine lv_i2l hx hb d_M_guess_74 rfl ?_
      refine sw_l (y := (lN (dg (M b) (n - 2)))) (nI_l (by omega)) ?_
      refine lv_ladd hx hb d_M_guess_75 ?_
      refine sw_l (y := (lN (gsV (M b) n))) (by rw [lN_add]; unfold gsV; rw [if_pos (by omega)]) ?_
      refine lv_lstore hx hb d_M_guess_76 hl (by decide) rfl (fun ls hl => ?_)
      have hl : lv_has ls 8 [(6, .long (lN (gsV (M b) n))), (4, .long (lN (gsU (M 16) n k))), (0, .ref (wa T 91)), (1, .int (nI b)), (2, .int (nI n)), (3, .int (nI k))] := hl
      refine lv_lload hx hb d_M_guess_78 (lv_at hl 1 rfl) ?_
      refine lv_lload hx hb d_M_guess_80 (lv_at hl 0 rfl) ?_
      refine lv_lconst (v := 1) hx hb d_M_guess_82 (by decide +kernel) ?_
      refine lv_ladd hx hb d_M_guess_83 ?_
      refine sw_l (y := (lN (gsV (M b) n + 1))) (lN_add _ 1) ?_
      refine lv_ldiv hx hb d_M_guess_84 (lN_ne0 (by omega) (by omega)) ?_
      refine sw_l (y := (lN (gsN (M 16) (M b) n k))) (pk_lDiv (by omega) (by omega) (by omega)) ?_
      exact hret _ _ _ _ hw d_M_guess_85
set_option maxRecDepth 100000 in
set_option maxHeartbeats 4000000 in
theorem k_M_goes (l : Launch) (T : wT) (F : wFt) (U K : wUt) (I : wIt) (O : wOt) (M Z : Nat → Nat) (G : Nat → Int32) (b n k : Nat) (hb9 : b < 20) (hn0 : 0 < n) (hnk : n + k < 108) (hR : M 16 < b20 ^ (n + k + 1)) (hB : M b < b20 ^ n) : Met l y_M_goes (.code y_M_goes c_M_goes 7 (some .boolean) :: bg) ({ frames := 1, cells := 0, slots := 0, locals := 21 } : Room) (mP T F U K (gI I (dgm M) Z G) O [.ref (wa T 91), .int (nI b), .int (nI n), .int (nI k)]) (mQi T (bI (decide (M b * b20 ^ k ≤ M 16))) F U K (gI I (dgm M) Z G) O) 0 0 (wA T) := by
  refine wM_z (by decide) (Nat.le_of_ble_eq_true rfl) (zbI _) ?_
  intro p e R s m args below meth c Q ls hx hb hC hRf hRl hret hl hw
  have hRf : 1 ≤ R.frames := hRf
  have hRl : 21 ≤ R.locals := hRl
  have hl : lv_has ls 7 [(0, .ref (wa T 91)), (1, .int (nI b)), (2, .int (nI n)), (3, .int (nI k))] := hl
  have d1 := dgm_lt (M 16) (n + k)
  refine lv_aload_n hx hb d_M_goes_0 rfl (lv_at hl 0 rfl) ?_
  refine lv_iload_n hx hb d_M_goes_1 rfl (lv_at hl 2 rfl) ?_
  refine lv_iload_n hx hb d_M_goes_2 rfl (lv_at hl 3 rfl) ?_
  refine n_iadd hx hb d_M_goes_3 ?_
  refine wcV_l (As := [.int (nI (n + k))]) hx hb hC hw (k_M_restAt l T F U K I O M Z G (n + k) (by omega)) lk_M_36 rfl rfl ⟨by show 0 + 1 ≤ R.frames; omega, by show 8 + (2 + 11) + 0 ≤ R.locals; omega⟩ (by omega) (we_Model ) rfl rfl hl.1 rfl (Nat.le_of_ble_eq_true rfl) ⟨Nat.zero_le _, Nat.zero_le _⟩ d_M_goes_4 (fun H locs hw => ?_)
  refine lv_lconst (v := 0) hx hb d_M_goes_7 (by decide +kernel) ?_
  refine lc_le (tgt := 14) hx hb d_M_goes_8 d_M_goes_9 (by decide) (fun h0 => ?_) (fun h0 => ?_)
  · have hz : dg (M 16) (n + k) = 0 := by rw [lj_lN (by omega), lj_0] at h0; omega
    have hX := go_lo hR hz
    refine lv_iload_n hx hb d_M_goes_14 rfl (lv_at hl 2 rfl) ?_
    refine lv_iconst (v := nI 1) hx hb d_M_goes_15 (by decide +kernel) ?_
    refine lv_isub hx hb d_M_goes_16 ?_
    refine sw_i (y := (nI n - 1)) (rfl) ?_
    refine lv_istore hx hb d_M_goes_17 hl (by decide) rfl (fun ls hl => ?_)
    have hl : lv_has ls 7 [(4, .int (nI n - 1)), (0, .ref (wa T 91)), (1, .int (nI b)), (2, .int (nI n)), (3, .int (nI k))] := hl
    have lp : ∀ (q : Nat)  (ls : Array Slot) (H : Heap) (locs : List Loc), (M 16 / b20 ^ k / b20 ^ q = M b / b20 ^ q) → (q ≤ n) →  lv_has ls 7 [(4, .int (nI q - 1)), (0, .ref (wa T 91)), (1, .int (nI b)), (2, .int (nI n)), (3, .int (nI k))] → wH T F U K (gI I (dgm M) Z G) O (wA T) s s.heap H locs → W p l e R s m args below meth c H locs 0 0 Q (F0 m 19 ls []) := by
      intro q
      induction q with
      | zero =>
        intro  ls H locs h1 h2 hl hw
        refine lv_iload hx hb d_M_goes_19 (lv_at hl 0 rfl) ?_
        refine d_if_lt (tgt := 79) hx hb d_M_goes_21 (by decide) (by omega) (fun h0 => ?_) (fun h0 => ?_)
        · refine lv_iconst (v := nI 1) hx hb d_M_goes_79 (by decide +kernel) ?_
          have h9 : bI (decide (M b * b20 ^ k ≤ M 16)) = nI 1 := by rw [decide_eq_true (go_iff.mpr (Nat.le_of_eq (by rw [Nat.pow_zero, Nat.div_one, Nat.div_one] at h1; exact h1.symm)))]; rfl
          rw [h9] at hret
          exact hret _ _ _ _ hw d_M_goes_80
        · exact absurd h0 (by omega)
      | succ r ih =>
        intro  ls H locs h1 h2 hl hw
        rw [nI_pred] at hl
        have hl : lv_has ls 7 [(4, .int (nI r)), (0, .ref (wa T 91)), (1, .int (nI b)), (2, .int (nI n)), (3, .int (nI k))] := hl
        refine lv_iload hx hb d_M_goes_19 (lv_at hl 0 rfl) ?_
        refine n_if_lt hx hb d_M_goes_21 (by decide) (by omega) ?_
        have xa := dgm_lt (M 16) (k + r)
        have xb := dgm_lt (M b) r
        refine lv_aload_n hx hb d_M_goes_24 rfl (lv_at hl 1 rfl) ?_
        refine wg_Model_d hx hb hC hw bw_818 d_M_goes_25 ?_
        refine lv_sipush (v := nI 1728) hx hb d_M_goes_28 (by decide +kernel) ?_
        refine lv_iload_n hx hb d_M_goes_31 rfl (lv_at hl 4 rfl) ?_
        refine n_iadd hx hb d_M_goes_32 ?_
        refine lv_iload hx hb d_M_goes_33 (lv_at hl 0 rfl) ?_
        refine n_iadd hx hb d_M_goes_35 ?_
        refine sw_i (y := nI (108 * 16 + (k + r))) (by rw [Nat.add_assoc]) ?_
        refine wl_md hx hb hw (by omega) d_M_goes_36 ?_
        refine sw_i (y := nI (dg (M 16) (k + r))) (gI_d (s := 16) (i := (k + r)) (by omega)) ?_
        refine lv_istore hx hb d_M_goes_37 hl (by decide) rfl (fun ls hl => ?_)
        have hl : lv_has ls 7 [(5, .int (nI (dg (M 16) (k + r)))), (4, .int (nI r)), (0, .ref (wa T 91)), (1, .int (nI b)), (2, .int (nI n)), (3, .int (nI k))] := hl
        refine lv_aload_n hx hb d_M_goes_39 rfl (lv_at hl 2 rfl) ?_
        refine wg_Model_d hx hb hC hw bw_818 d_M_goes_40 ?_
        refine lv_bipush (v := nI 108) hx hb d_M_goes_43 (by decide +kernel) ?_
        refine lv_iload_n hx hb d_M_goes_45 rfl (lv_at hl 3 rfl) ?_
        refine n_imul hx hb d_M_goes_46 ?_
        refine lv_iload hx hb d_M_goes_47 (lv_at hl 1 rfl) ?_
        refine n_iadd hx hb d_M_goes_49 ?_
        refine wl_md hx hb hw (by omega) d_M_goes_50 ?_
        refine sw_i (y := nI (dg (M b) r)) (gI_d (s := b) (i := r) (by omega)) ?_
        refine lv_istore hx hb d_M_goes_51 hl (by decide) rfl (fun ls hl => ?_)
        have hl : lv_has ls 7 [(6, .int (nI (dg (M b) r))), (5, .int (nI (dg (M 16) (k + r)))), (4, .int (nI r)), (0, .ref (wa T 91)), (1, .int (nI b)), (2, .int (nI n)), (3, .int (nI k))] := hl
        refine lv_iload hx hb d_M_goes_53 (lv_at hl 1 rfl) ?_
        refine lv_iload hx hb d_M_goes_55 (lv_at hl 0 rfl) ?_
        refine n_icmp_eq (tgt := 73) hx hb d_M_goes_57 (by decide) (by omega) (by omega) (fun h3 => ?_) (fun h3 => ?_)
        · refine lv_iinc (v := (nI r - 1)) hx hb d_M_goes_73 hl (k := 2) rfl (i32_m1 _) (by decide) rfl (fun ls hl => ?_)
          have hl : lv_has ls 7 [(4, .int (nI r - 1)), (6, .int (nI (dg (M b) r))), (5, .int (nI (dg (M 16) (k + r)))), (0, .ref (wa T 91)), (1, .int (nI b)), (2, .int (nI n)), (3, .int (nI k))] := hl
          refine lv_goto (tgt := 19) hx hb d_M_goes_76 (by decide) ?_
          have hl := lv_sub hl [0, 3, 4, 5, 6] rfl
          have hl : lv_has ls 7 [(4, .int (nI r - 1)), (0, .ref (wa T 91)), (1, .int (nI b)), (2, .int (nI n)), (3, .int (nI k))] := hl
          exact ih ls H locs (by rw [dv_s (M 16 / b20 ^ k), dv_s (M b), h1, dg_div, h3]) (by omega) hl hw
        · refine lv_iload hx hb d_M_goes_60 (lv_at hl 1 rfl) ?_
          refine lv_iload hx hb d_M_goes_62 (lv_at hl 0 rfl) ?_
          refine n_icmp_le (tgt := 71) hx hb d_M_goes_64 (by decide) (by omega) (by omega) (fun h4 => ?_) (fun h4 => ?_)
          · refine lv_iconst (v := nI 0) hx hb d_M_goes_71 (by decide +kernel) ?_
            have h9 : bI (decide (M b * b20 ^ k ≤ M 16)) = nI 0 := by rw [decide_eq_false (fun q => absurd (go_iff.mp q) (Nat.not_le.mpr (lt_of_dg h1 (by rw [dg_div]; omega))))]; rfl
            rw [h9] at hret
            exact hret _ _ _ _ hw d_M_goes_72
          · refine lv_iconst (v := nI 1) hx hb d_M_goes_67 (by decide +kernel) ?_
            refine lv_goto (tgt := 72) hx hb d_M_goes_68 (by decide) ?_
            have h9 : bI (decide (M b * b20 ^ k ≤ M 16)) = nI 1 := by rw [decide_eq_true (go_iff.mpr (Nat.le_of_lt (lt_of_dg h1.symm (by rw [dg_div]; exact h4))))]; rfl
            rw [h9] at hret
            exact hret _ _ _ _ hw d_M_goes_72
    exact lp n ls _ _ (by rw [Nat.div_eq_of_lt hX, Nat.div_eq_of_lt hB]) (Nat.le_refl _) hl hw
  · have hz : 0 < dg (M 16) (n + k) := by rw [lj_lN (by omega), lj_0] at h0; omega
    refine lv_iconst (v := nI 1) hx hb d_M_goes_12 (by decide +kernel) ?_
    have h9 : bI (decide (M b * b20 ^ k ≤ M 16)) = nI 1 := by rw [decide_eq_true (go_hi hB hz)]; rfl
    rw [h9] at hret
    exact hret _ _ _ _ hw d_M_goes_13
set_option maxRecDepth 100000 in
set_option maxHeartbeats 4000000 in
theorem k_M_takeAway (l : Launch) (T : wT) (F : wFt) (U K : wUt) (I : wIt) (O : wOt) (M Z : Nat → Nat) (G : Nat → Int32) (b n k g : Nat) (hb9 : b < 20) (hbr : b ≠ 16) (hn0 : 0 < n) (hnk : n + k < 108) (hg : g < 1048576) (hR : M 16 < b20 ^ (n + k + 1)) (hB : M b < b20 ^ n) (hgle : g * (M b * b20 ^ k) ≤ M 16) : Met l y_M_takeAway (.code y_M_takeAway c_M_takeAway 11 none :: bg) ({ frames := 0, cells := 0, slots := 0, locals := 0 } : Room) (mP T F U K (gI I (dgm M) Z G) O [.ref (wa T 91), .int (nI b), .int (nI n), .int (nI k), .long (lN g)]) (mQv T F U K (gI I (dgm (va_up M 16 (M 16 - g * (M b * b20 ^ k)))) Z G) O) 0 0 (wA T) := by
  refine wM_v (by decide) (Nat.le_of_ble_eq_true rfl) ?_
  intro p e R s m args below meth c Q ls hx hb hC hRf hRl hret hl hw
  have hRf : 0 ≤ R.frames := hRf
  have hRl : 0 ≤ R.locals := hRl
  have hl : lv_has ls 11 [(0, .ref (wa T 91)), (1, .int (nI b)), (2, .int (nI n)), (3, .int (nI k)), (4, .long (lN g))] := hl
  refine lv_lconst (v := 0) hx hb d_M_takeAway_0 (by decide +kernel) ?_
  refine lv_lstore hx hb d_M_takeAway_1 hl (by decide) rfl (fun ls hl => ?_)
  have hl : lv_has ls 11 [(6, .long (0 : Int64)), (0, .ref (wa T 91)), (1, .int (nI b)), (2, .int (nI n)), (3, .int (nI k)), (4, .long (lN g))] := hl
  refine lv_iconst (v := nI 0) hx hb d_M_takeAway_3 (by decide +kernel) ?_
  refine lv_istore hx hb d_M_takeAway_4 hl (by decide) rfl (fun ls hl => ?_)
  have hl : lv_has ls 11 [(8, .int (nI 0)), (6, .long (0 : Int64)), (0, .ref (wa T 91)), (1, .int (nI b)), (2, .int (nI n)), (3, .int (nI k)), (4, .long (lN g))] := hl
  rw [show gI I (dgm M) Z G = gI I (dgm (va_up M 16 (M 16))) Z G from by rw [va_upx]] at hw
  have lp : ∀ (z9 i : Nat) (V : Nat) (cy : Int64) (ls : Array Slot) (H : Heap) (locs : List Loc), n - i = z9 → i ≤ n → ((V : Int) + cy.toInt * ((b20 ^ (k + i) : Nat) : Int) = (M 16 : Int) - ((g * (M b % b20 ^ i) * b20 ^ k : Nat) : Int)) → (-1048576 ≤ cy.toInt ∧ cy.toInt ≤ 0) → (V < b20 ^ (n + k + 1)) →  lv_has ls 11 [(8, .int (nI i)), (6, .long cy), (0, .ref (wa T 91)), (1, .int (nI b)), (2, .int (nI n)), (3, .int (nI k)), (4, .long (lN g))] → wH T F U K (gI I (dgm (va_up M 16 V)) Z G) O (wA T) s s.heap H locs → W p l e R s m args below meth c H locs 0 0 Q (F0 m 6 ls []) := by
    intro z9
    induction z9 with
    | zero =>
      intro i V cy ls H locs hn hle h1 h2 h3 hl hw
      refine lv_iload hx hb d_M_takeAway_6 (lv_at hl 0 rfl) ?_
      refine lv_iload_n hx hb d_M_takeAway_8 rfl (lv_at hl 4 rfl) ?_
      refine n_icmp_ge (tgt := 81) hx hb d_M_takeAway_9 (by decide) (by omega) (by omega) (fun h0 => ?_) (fun h0 => ?_)
      · have e9 : n = i := by omega
        rw [← e9, Nat.mod_eq_of_lt hB] at h1
        have h4 : (V : Int) + cy.toInt * ((b20 ^ (k + n) : Nat) : Int) = ((M 16 - g * (M b * b20 ^ k) : Nat) : Int) := by rw [h1, Int.natCast_sub hgle, Nat.mul_assoc]
        have h5 := tak_end h4 (by rw [Nat.add_comm k n]; exact h3) h2.2
        have dv := dgm_lt V (k + n)
        refine lv_aload_n hx hb d_M_takeAway_81 rfl (lv_at hl 2 rfl) ?_
        refine wg_Model_d hx hb hC hw bw_818 d_M_takeAway_82 ?_
        refine lv_sipush (v := nI 1728) hx hb d_M_takeAway_85 (by decide +kernel) ?_
        refine lv_iload_n hx hb d_M_takeAway_88 rfl (lv_at hl 5 rfl) ?_
        refine n_iadd hx hb d_M_takeAway_89 ?_
        refine lv_iload_n hx hb d_M_takeAway_90 rfl (lv_at hl 4 rfl) ?_
        refine n_iadd hx hb d_M_takeAway_91 ?_
        refine sw_i (y := nI (108 * 16 + (k + n))) (by rw [Nat.add_assoc]) ?_
        refine lv_dup2_11 hx hb d_M_takeAway_92 rfl rfl ?_
        refine wl_md hx hb hw (by omega) d_M_takeAway_93 ?_
        refine sw_i (y := nI (dg V ((k + n)))) ((gI_d (s := 16) (i := (k + n)) (by omega)).trans (congrArg nI (congrFun (congrArg dg (va_up_self M 16 V)) _))) ?_
        refine lv_lload hx hb d_M_takeAway_94 (lv_at hl 1 rfl) ?_
        refine lv_l2i hx hb d_M_takeAway_96 rfl ?_
        refine lv_iadd hx hb d_M_takeAway_97 ?_
        refine sw_i (y := nI (((dg V (k + n) : Int) + cy.toInt).toNat)) (ta_add dv h5.1 h2.1 h2.2) ?_
        refine ws_md hx hb hw (by omega) d_M_takeAway_98 (fun H locs hw => ?_)
        rw [show (va_up (gI I (dgm (va_up M 16 V)) Z G) 1 (upd ((gI I (dgm (va_up M 16 V)) Z G) 1) (108 * 16 + (k + n)) (nI (((dg V (k + n) : Int) + cy.toInt).toNat)))) = (gI I (va_up (dgm (va_up M 16 V)) 16 (va_up ((dgm (va_up M 16 V)) 16) (k + n) (((dg V (k + n) : Int) + cy.toInt).toNat))) Z G) from gI_sd (s := 16) (i := (k + n)) (by omega)] at hw
        rw [dgm_sD (by omega), va_v2, va_up_self, h5.2.2] at hw
        exact hret _ _ _ _ hw d_M_takeAway_99
      · exact absurd h0 (by omega)
    | succ z9 ih =>
      intro i V cy ls H locs hn hle h1 h2 h3 hl hw
      refine lv_iload hx hb d_M_takeAway_6 (lv_at hl 0 rfl) ?_
      refine lv_iload_n hx hb d_M_takeAway_8 rfl (lv_at hl 4 rfl) ?_
      refine n_icmp_ge (tgt := 81) hx hb d_M_takeAway_9 (by decide) (by omega) (by omega) (fun h0 => ?_) (fun h0 => ?_)
      · exact absurd h0 (by omega)
      · have xu := dgm_lt V (k + i)
        have xb := dgm_lt (M b) i
        have hv := ta_val (c := cy) xu hg xb h2.1 h2.2
        have bd := ta_bd xu hg xb h2.1 h2.2
        refine lv_aload_n hx hb d_M_takeAway_12 rfl (lv_at hl 2 rfl) ?_
        refine wg_Model_d hx hb hC hw bw_818 d_M_takeAway_13 ?_
        refine lv_sipush (v := nI 1728) hx hb d_M_takeAway_16 (by decide +kernel) ?_
        refine lv_iload_n hx hb d_M_takeAway_19 rfl (lv_at hl 5 rfl) ?_
        refine n_iadd hx hb d_M_takeAway_20 ?_
        refine lv_iload hx hb d_M_takeAway_21 (lv_at hl 0 rfl) ?_
        refine n_iadd hx hb d_M_takeAway_23 ?_
        refine sw_i (y := nI (108 * 16 + (k + i))) (by rw [Nat.add_assoc]) ?_
        refine wl_md hx hb hw (by omega) d_M_takeAway_24 ?_
        refine sw_i (y := nI (dg V ((k + i)))) ((gI_d (s := 16) (i := (k + i)) (by omega)).trans (congrArg nI (congrFun (congrArg dg (va_up_self M 16 V)) _))) ?_
        refine lv_i2l hx hb d_M_takeAway_25 rfl ?_
        refine lv_lload hx hb d_M_takeAway_26 (lv_at hl 6 rfl) ?_
        refine lv_aload_n hx hb d_M_takeAway_28 rfl (lv_at hl 2 rfl) ?_
        refine wg_Model_d hx hb hC hw bw_818 d_M_takeAway_29 ?_
        refine lv_bipush (v := nI 108) hx hb d_M_takeAway_32 (by decide +kernel) ?_
        refine lv_iload_n hx hb d_M_takeAway_34 rfl (lv_at hl 3 rfl) ?_
        refine n_imul hx hb d_M_takeAway_35 ?_
        refine lv_iload hx hb d_M_takeAway_36 (lv_at hl 0 rfl) ?_
        refine n_iadd hx hb d_M_takeAway_38 ?_
        refine wl_md hx hb hw (by omega) d_M_takeAway_39 ?_
        refine sw_i (y := nI (dg (M b) i)) ((gI_d (s := b) (i := i) (by omega)).trans (congrArg nI (congrFun (congrArg dg (va_up_ne M V hbr)) _))) ?_
        refine lv_i2l hx hb d_M_takeAway_40 rfl ?_
        refine lv_lmul hx hb d_M_takeAway_41 ?_
        refine lv_lsub hx hb d_M_takeAway_42 ?_
        refine lv_lload hx hb d_M_takeAway_43 (lv_at hl 1 rfl) ?_
        refine lv_ladd hx hb d_M_takeAway_45 ?_
        generalize (((nI (dg V ((k + i)))).toInt64 - ((lN g) * (nI (dg (M b) i)).toInt64)) + cy) = t9 at *
        refine lv_lstore hx hb d_M_takeAway_46 hl (by decide) rfl (fun ls hl => ?_)
        have hl : lv_has ls 11 [(9, .long t9), (8, .int (nI i)), (6, .long cy), (0, .ref (wa T 91)), (1, .int (nI b)), (2, .int (nI n)), (3, .int (nI k)), (4, .long (lN g))] := hl
        refine lv_aload_n hx hb d_M_takeAway_48 rfl (lv_at hl 3 rfl) ?_
        refine wg_Model_d hx hb hC hw bw_818 d_M_takeAway_49 ?_
        refine lv_sipush (v := nI 1728) hx hb d_M_takeAway_52 (by decide +kernel) ?_
        refine lv_iload_n hx hb d_M_takeAway_55 rfl (lv_at hl 6 rfl) ?_
        refine n_iadd hx hb d_M_takeAway_56 ?_
        refine lv_iload hx hb d_M_takeAway_57 (lv_at hl 1 rfl) ?_
        refine n_iadd hx hb d_M_takeAway_59 ?_
        refine sw_i (y := nI (108 * 16 + (k + i))) (by rw [Nat.add_assoc]) ?_
        refine lv_lload hx hb d_M_takeAway_60 (lv_at hl 0 rfl) ?_
        refine lv_ldc2 (v := 1048575) hx hb hC.ow (hC.hts bw_852) d_M_takeAway_62 ?_
        refine lv_land hx hb d_M_takeAway_65 ?_
        refine lv_l2i hx hb d_M_takeAway_66 rfl ?_
        refine sw_i (y := nI ((t9.toInt % 1048576).toNat)) (ta_and t9) ?_
        have tm := Int.emod_lt_of_pos t9.toInt (by decide : (0 : Int) < 1048576)
        have tn := Int.emod_nonneg t9.toInt (by decide : (1048576 : Int) ≠ 0)
        refine ws_md hx hb hw (by omega) d_M_takeAway_67 (fun H locs hw => ?_)
        rw [show (va_up (gI I (dgm (va_up M 16 V)) Z G) 1 (upd ((gI I (dgm (va_up M 16 V)) Z G) 1) (108 * 16 + (k + i)) (nI ((t9.toInt % 1048576).toNat)))) = (gI I (va_up (dgm (va_up M 16 V)) 16 (va_up ((dgm (va_up M 16 V)) 16) (k + i) ((t9.toInt % 1048576).toNat))) Z G) from gI_sd (s := 16) (i := (k + i)) (by omega)] at hw
        rw [dgm_sD (by omega), va_v2, va_up_self] at hw
        refine lv_lload hx hb d_M_takeAway_68 (lv_at hl 0 rfl) ?_
        refine lv_bipush (v := nI 20) hx hb d_M_takeAway_70 (by decide +kernel) ?_
        refine lv_lshr hx hb d_M_takeAway_72 rfl ?_
        have hsh := ta_shr t9
        generalize t9 >>> ((nI 20).toInt64 &&& 63) = c9 at *
        refine lv_lstore hx hb d_M_takeAway_73 hl (by decide) rfl (fun ls hl => ?_)
        have hl : lv_has ls 11 [(6, .long c9), (9, .long t9), (8, .int (nI i)), (0, .ref (wa T 91)), (1, .int (nI b)), (2, .int (nI n)), (3, .int (nI k)), (4, .long (lN g))] := hl
        refine lv_iinc (v := nI (i + 1)) hx hb d_M_takeAway_75 hl (k := 2) rfl (nI_add _ 1) (by decide) rfl (fun ls hl => ?_)
        have hl : lv_has ls 11 [(8, .int (nI (i + 1))), (6, .long c9), (9, .long t9), (0, .ref (wa T 91)), (1, .int (nI b)), (2, .int (nI n)), (3, .int (nI k)), (4, .long (lN g))] := hl
        refine lv_goto (tgt := 6) hx hb d_M_takeAway_78 (by decide) ?_
        have hl := lv_sub hl [0, 1, 3, 4, 5, 6, 7] rfl
        have hl : lv_has ls 11 [(8, .int (nI (i + 1))), (6, .long c9), (0, .ref (wa T 91)), (1, .int (nI b)), (2, .int (nI n)), (3, .int (nI k)), (4, .long (lN g))] := hl
        have st9 := ta_step h1 hv
        rw [← hsh, Nat.add_assoc k i 1] at st9
        exact ih (i + 1) (sD V (k + i) (t9.toInt % 1048576).toNat) c9 ls _ _ (by omega) (by omega) (st9.trans (by rw [mod_s, Nat.mul_add, Nat.add_mul, Nat.pow_add, Int.natCast_add, Int.sub_sub, Nat.mul_comm (b20 ^ i) (dg (M b) i), Nat.mul_comm (b20 ^ k) (b20 ^ i), ← Nat.mul_assoc g (dg (M b) i), Nat.mul_assoc _ (b20 ^ i) (b20 ^ k)])) (by rw [hsh, hv]; exact ⟨bd.2.2.1, bd.2.2.2⟩) (sD_lt (by omega) (by omega) h3) hl hw
  exact lp n 0 (M 16) (0 : Int64) ls _ _ (by omega) (by omega) (by rw [lj_0, Nat.pow_zero, Nat.mod_one]; simp) (by rw [lj_0]; omega) hR hl hw
