/-! Natural: bits -/
theorem lN_lim : ((268435455 : Int64)) = lN (2 ^ 28 - 1) := by decide +kernel
theorem lN_shrN {a k : Nat} (ha : a < 4611686018427387904) (hk : k < 64) : lN a >>> ((nI k).toInt64 &&& 63) = lN (a / 2 ^ k) := by
  apply lj_inj
  have h1 : a / 2 ^ k ≤ a := Nat.div_le_self _ _
  rw [wb_c k hk, lj_shr (lN a) k (by rw [wb_tb, wb_sm k hk, BitVec.toNat_ofNat, Nat.mod_eq_of_lt (by omega)]), lj_lN (by omega), lj_lN (by omega)]
  simp
theorem fD_lN (v j : Nat) : fD v j = lN (v / vB ^ j % vB) := rfl
theorem dg_lt (v j : Nat) : v / vB ^ j % vB < 268435456 := Nat.mod_lt _ vB_pos
theorem vB_two (n : Nat) : vB ^ n = 2 ^ (28 * n) := by rw [show vB = 2 ^ 28 from rfl, ← Nat.pow_mul]
theorem at_fD {v j k : Nat} (h : v < vLim) (hk : kD v = k) : (if j < k then fD v j else 0) = fD v j := by
  split
  · rfl
  · rw [fD_zero h (by omega)]
theorem dg_bit (v i : Nat) : (v / vB ^ (i / 28) % vB).testBit (i % 28) = v.testBit i := by
  rw [vB_two, show vB = 2 ^ 28 from rfl, Nat.testBit_mod_two_pow, Nat.testBit_div_two_pow]
  have h1 : i % 28 < 28 := Nat.mod_lt _ (by decide)
  have h2 : 28 * (i / 28) + i % 28 = i := Nat.div_add_mod i 28
  rw [Nat.add_comm (i % 28), h2]
  simp [h1]
theorem tb_mod (a r : Nat) : a.testBit r = decide (a / 2 ^ r % 2 = 1) := Nat.testBit_eq_decide_div_mod_eq
theorem low_eq (v : Nat) : lN (v / vB ^ 0 % vB) ||| lN (v / vB ^ 1 % vB) <<< ((nI 28).toInt64 &&& 63) ||| lN (v / vB ^ 2 % vB) <<< ((nI 56).toInt64 &&& 63) = lN v := by
  have e0 : vB = 268435456 := rfl
  have h0 := Nat.mod_lt (v / vB ^ 0) vB_pos
  have h1 := Nat.mod_lt (v / vB ^ 1) vB_pos
  rw [wb_shl _ (by decide), wb_shl _ (by decide)]
  have e1 : lN (v / vB ^ 0 % vB) ||| lN (v / vB ^ 1 % vB * 2 ^ 28) = lN (v / vB ^ 0 % vB + v / vB ^ 1 % vB * 2 ^ 28) := g_or' (k := 28) rfl (by rw [e0] at h0; exact h0) (by omega)
  rw [e1, wb_mod (v / vB ^ 2 % vB * 2 ^ 56)]
  have e2 : v / vB ^ 2 % vB * 2 ^ 56 % 2 ^ 64 = (v / vB ^ 2 % vB % 256) * 2 ^ 56 := by
    rw [show (2 : Nat) ^ 64 = 256 * 2 ^ 56 by decide, Nat.mul_mod_mul_right]
  have h3 : v / vB ^ 2 % vB % 256 < 256 := Nat.mod_lt _ (by decide)
  have e3 : lN (v / vB ^ 0 % vB + v / vB ^ 1 % vB * 2 ^ 28) ||| lN (v / vB ^ 2 % vB % 256 * 2 ^ 56) = lN (v / vB ^ 0 % vB + v / vB ^ 1 % vB * 2 ^ 28 + v / vB ^ 2 % vB % 256 * 2 ^ 56) := g_or' (k := 56) rfl (by omega) (by omega)
  rw [e2, e3, wb_mod v]
  congr 1
  have e4 : vB ^ 0 = 1 := rfl
  have e5 : vB ^ 1 = 268435456 := by decide
  have e6 : vB ^ 2 = 72057594037927936 := by decide
  rw [e4, e5, e6, e0, Nat.div_one]
  omega

set_option maxRecDepth 100000 in
set_option maxHeartbeats 4000000 in
theorem k_N_takeUnsigned (l : Launch) (T : wT) (V : Nat → Nat) (K : wUt) (I : wIt) (O : wOt) (x N : Nat) (hi : x < 34) (hN : N < 2 ^ 64) (hV : ∀ n, n < 34 → V n < vLim) : Met l y_N_takeUnsigned (.code y_N_takeUnsigned c_N_takeUnsigned 3 none :: bg) ({ frames := 1, cells := 0, slots := 0, locals := 22 } : Room) (mP T (fF V) (fU V) K I O [.ref (wa T x), .long (lN N)]) (mQv T (fF (va_up V x N)) (fU (va_up V x N)) K I O) 0 0 (wA T) := by
  refine wM_v (by decide) (Nat.le_of_ble_eq_true rfl) ?_
  intro p e R s m args below meth c Q ls hx hb hC hRf hRl hret hl hw
  have hRf : 1 ≤ R.frames := hRf
  have hRl : 22 ≤ R.locals := hRl
  have hl : lv_has ls 3 [(0, .ref (wa T x)), (1, .long (lN N))] := hl
  have e28 : (2 : Nat) ^ 28 = 268435456 := rfl
  have e56 : (2 : Nat) ^ 56 = 72057594037927936 := rfl
  have e64 : (2 : Nat) ^ 64 = 18446744073709551616 := rfl
  refine lv_aload_n hx hb d_N_takeUnsigned_0 rfl (lv_at hl 0 rfl) ?_
  refine wg_Natural_limbs hx hb hC hw (by omega) bw_43 d_N_takeUnsigned_1 ?_
  refine lv_iconst (v := nI 0) hx hb d_N_takeUnsigned_4 (by decide +kernel) ?_
  refine lv_lload_n hx hb d_N_takeUnsigned_5 rfl (lv_at hl 1 rfl) ?_
  refine lv_ldc2 (v := 268435455) hx hb hC.ow (hC.hts bw_300) d_N_takeUnsigned_6 ?_
  refine lv_land hx hb d_N_takeUnsigned_9 ?_
  refine sw_l (y := lN (N % 2 ^ 28)) (by rw [lN_lim, wb_mask hN (by decide)]) ?_
  refine ws_limbs hx hb hw (by omega) (by omega) d_N_takeUnsigned_10 (fun H locs hw => ?_)
  refine lv_aload_n hx hb d_N_takeUnsigned_11 rfl (lv_at hl 0 rfl) ?_
  refine wg_Natural_limbs hx hb hC hw (by omega) bw_43 d_N_takeUnsigned_12 ?_
  refine lv_iconst (v := nI 1) hx hb d_N_takeUnsigned_15 (by decide +kernel) ?_
  refine lv_lload_n hx hb d_N_takeUnsigned_16 rfl (lv_at hl 1 rfl) ?_
  refine lv_bipush (v := nI 28) hx hb d_N_takeUnsigned_17 (by decide +kernel) ?_
  refine lv_lushr hx hb d_N_takeUnsigned_19 rfl ?_
  refine sw_l (y := lN (N / 2 ^ 28)) (wb_shr hN (by decide)) ?_
  refine lv_ldc2 (v := 268435455) hx hb hC.ow (hC.hts bw_300) d_N_takeUnsigned_20 ?_
  refine lv_land hx hb d_N_takeUnsigned_23 ?_
  refine sw_l (y := lN (N / 2 ^ 28 % 2 ^ 28)) (by rw [lN_lim, wb_mask (by omega) (by decide)]) ?_
  refine ws_limbs hx hb hw (by omega) (by omega) d_N_takeUnsigned_24 (fun H locs hw => ?_)
  refine lv_aload_n hx hb d_N_takeUnsigned_25 rfl (lv_at hl 0 rfl) ?_
  refine wg_Natural_limbs hx hb hC hw (by omega) bw_43 d_N_takeUnsigned_26 ?_
  refine lv_iconst (v := nI 2) hx hb d_N_takeUnsigned_29 (by decide +kernel) ?_
  refine lv_lload_n hx hb d_N_takeUnsigned_30 rfl (lv_at hl 1 rfl) ?_
  refine lv_bipush (v := nI 56) hx hb d_N_takeUnsigned_31 (by decide +kernel) ?_
  refine lv_lushr hx hb d_N_takeUnsigned_33 rfl ?_
  refine sw_l (y := lN (N / 2 ^ 56)) (wb_shr hN (by decide)) ?_
  refine ws_limbs hx hb hw (by omega) (by omega) d_N_takeUnsigned_34 (fun H locs hw => ?_)
  refine lv_aload_n hx hb d_N_takeUnsigned_35 rfl (lv_at hl 0 rfl) ?_
  refine lv_iconst (v := nI 3) hx hb d_N_takeUnsigned_36 (by decide +kernel) ?_
  rw [bx_uu, bx_uu, va_up_self, va_up_self] at hw
  generalize hf : vp_updL (vp_updL (vp_updL (fF V x) 0 (lN (N % 2 ^ 28))) 1 (lN (N / 2 ^ 28 % 2 ^ 28))) 2 (lN (N / 2 ^ 56)) = f at hw
  have d0 : nd f 0 = ((N % 2 ^ 28 : Nat) : Int) := by rw [← hf, nd_updN (by decide), nd_updN (by decide), nd_upd]; exact lj_lN (by omega)
  have d1 : nd f 1 = ((N / 2 ^ 28 % 2 ^ 28 : Nat) : Int) := by rw [← hf, nd_updN (by decide), nd_upd]; exact lj_lN (by omega)
  have d2 : nd f 2 = ((N / 2 ^ 56 : Nat) : Int) := by rw [← hf, nd_upd]; exact lj_lN (by omega)
  have s1 : ∀ j, j < 3 → 0 ≤ nd f j ∧ nd f j < b28 := fun j hj => by
    have e9 : j = 0 ∨ j = 1 ∨ j = 2 := by omega
    rcases e9 with rfl | rfl | rfl
    · rw [d0]; show _ ∧ _ < (268435456 : Int); omega
    · rw [d1]; show _ ∧ _ < (268435456 : Int); omega
    · rw [d2]; show _ ∧ _ < (268435456 : Int); omega
  have s2 : lm_ev b28 (nd f) 3 = (N : Int) := by
    have e1 : b28 ^ 1 = 268435456 := by decide
    have e2 : b28 ^ 2 = 72057594037927936 := by decide
    have e0 : b28 ^ 0 = 1 := rfl
    rw [lm_evs, lm_evs, lm_evs, lm_ev0, d0, d1, d2, e0, e1, e2]; omega
  refine wcV_v (As := [.int (nI 3)]) hx hb hC hw (k_N_settle l T (va_up (fF V) x f) (fU V) K I O x (kD (V x)) 3 N hi rfl (kD_le _) (by omega) (by rw [va_up_self]; exact s1) (fun j a1 a2 a3 => by rw [va_up_self, ← hf, pk_uLn (by omega), pk_uLn (by omega), pk_uLn (by omega)]; exact fD_zero (hV x hi) a2) (by rw [va_up_self]; exact s2)) lk_N_39 rfl rfl ⟨by show 0 + 1 ≤ R.frames; omega, by show 8 + (3 + 11) + 0 ≤ R.locals; omega⟩ (by omega) (we_Natural (by omega)) rfl rfl hl.1 rfl (Nat.le_of_ble_eq_true rfl) ⟨Nat.zero_le _, Nat.zero_le _⟩ d_N_takeUnsigned_37 (fun H locs hw => ?_)
  rw [bx_uu, fF_up, fU_up] at hw
  exact hret _ _ _ _ hw d_N_takeUnsigned_40
set_option maxRecDepth 100000 in
set_option maxHeartbeats 4000000 in
theorem k_N_lowLong (l : Launch) (T : wT) (V : Nat → Nat) (K : wUt) (I : wIt) (O : wOt) (x : Nat) (hi : x < 34) (hV : ∀ n, n < 34 → V n < vLim) : Met l y_N_lowLong (.code y_N_lowLong c_N_lowLong 1 (some .long) :: bg) ({ frames := 1, cells := 0, slots := 0, locals := 21 } : Room) (mP T (fF V) (fU V) K I O [.ref (wa T x)]) (mQl T (lN (V x)) (fF V) (fU V) K I O) 0 0 (wA T) := by
  refine wM_l (by decide) (Nat.le_of_ble_eq_true rfl) ?_
  intro p e R s m args below meth c Q ls hx hb hC hRf hRl hret hl hw
  have hRf : 1 ≤ R.frames := hRf
  have hRl : 21 ≤ R.locals := hRl
  have hl : lv_has ls 1 [(0, .ref (wa T x))] := hl
  refine lv_aload_n hx hb d_N_lowLong_0 rfl (lv_at hl 0 rfl) ?_
  refine lv_iconst (v := nI 0) hx hb d_N_lowLong_1 (by decide +kernel) ?_
  refine wcV_l (As := [.int (nI 0)]) hx hb hC hw (k_N_at l T (fF V) (fU V) K I O x 0 (kD (V x)) hi rfl (kD_le _) (by omega)) lk_N_19 rfl rfl ⟨by show 0 + 1 ≤ R.frames; omega, by show 8 + (2 + 11) + 0 ≤ R.locals; omega⟩ (by omega) (we_Natural (by omega)) rfl rfl hl.1 rfl (Nat.le_of_ble_eq_true rfl) ⟨Nat.zero_le _, Nat.zero_le _⟩ d_N_lowLong_2 (fun H locs hw => ?_)
  refine sw_l (y := lN (V x / vB ^ 0 % vB)) (at_fD (hV x hi) rfl) ?_
  refine lv_aload_n hx hb d_N_lowLong_5 rfl (lv_at hl 0 rfl) ?_
  refine lv_iconst (v := nI 1) hx hb d_N_lowLong_6 (by decide +kernel) ?_
  refine wcV_l (As := [.int (nI 1)]) hx hb hC hw (k_N_at l T (fF V) (fU V) K I O x 1 (kD (V x)) hi rfl (kD_le _) (by omega)) lk_N_19 rfl rfl ⟨by show 0 + 1 ≤ R.frames; omega, by show 8 + (2 + 11) + 0 ≤ R.locals; omega⟩ (by omega) (we_Natural (by omega)) rfl rfl hl.1 rfl (Nat.le_of_ble_eq_true rfl) ⟨Nat.zero_le _, Nat.zero_le _⟩ d_N_lowLong_7 (fun H locs hw => ?_)
  refine sw_l (y := lN (V x / vB ^ 1 % vB)) (at_fD (hV x hi) rfl) ?_
  refine lv_bipush (v := nI 28) hx hb d_N_lowLong_10 (by decide +kernel) ?_
  refine lv_lshl hx hb d_N_lowLong_12 rfl ?_
  refine lv_lor hx hb d_N_lowLong_13 ?_
  refine lv_aload_n hx hb d_N_lowLong_14 rfl (lv_at hl 0 rfl) ?_
  refine lv_iconst (v := nI 2) hx hb d_N_lowLong_15 (by decide +kernel) ?_
  refine wcV_l (As := [.int (nI 2)]) hx hb hC hw (k_N_at l T (fF V) (fU V) K I O x 2 (kD (V x)) hi rfl (kD_le _) (by omega)) lk_N_19 rfl rfl ⟨by show 0 + 1 ≤ R.frames; omega, by show 8 + (2 + 11) + 0 ≤ R.locals; omega⟩ (by omega) (we_Natural (by omega)) rfl rfl hl.1 rfl (Nat.le_of_ble_eq_true rfl) ⟨Nat.zero_le _, Nat.zero_le _⟩ d_N_lowLong_16 (fun H locs hw => ?_)
  refine sw_l (y := lN (V x / vB ^ 2 % vB)) (at_fD (hV x hi) rfl) ?_
  refine lv_bipush (v := nI 56) hx hb d_N_lowLong_19 (by decide +kernel) ?_
  refine lv_lshl hx hb d_N_lowLong_21 rfl ?_
  refine lv_lor hx hb d_N_lowLong_22 ?_
  refine sw_l (y := lN (V x)) (low_eq (V x)) ?_
  exact hret _ _ _ _ hw d_N_lowLong_23
set_option maxRecDepth 100000 in
set_option maxHeartbeats 4000000 in
theorem k_N_hasBit (l : Launch) (T : wT) (V : Nat → Nat) (K : wUt) (I : wIt) (O : wOt) (x i : Nat) (hi : x < 34) (hb9 : i < 2147483648) (hV : ∀ n, n < 34 → V n < vLim) : Met l y_N_hasBit (.code y_N_hasBit c_N_hasBit 2 (some .boolean) :: bg) ({ frames := 1, cells := 0, slots := 0, locals := 21 } : Room) (mP T (fF V) (fU V) K I O [.ref (wa T x), .int (nI i)]) (mQi T (if (V x).testBit i = true then (1 : Int32) else 0) (fF V) (fU V) K I O) 0 0 (wA T) := by
  refine wM_z (by decide) (Nat.le_of_ble_eq_true rfl) (zN _) ?_
  intro p e R s m args below meth c Q ls hx hb hC hRf hRl hret hl hw
  have hRf : 1 ≤ R.frames := hRf
  have hRl : 21 ≤ R.locals := hRl
  have hl : lv_has ls 2 [(0, .ref (wa T x)), (1, .int (nI i))] := hl
  have hd := dg_lt (V x) (i / 28)
  have hm : i % 28 < 28 := Nat.mod_lt _ (by decide)
  refine lv_aload_n hx hb d_N_hasBit_0 rfl (lv_at hl 0 rfl) ?_
  refine lv_iload_n hx hb d_N_hasBit_1 rfl (lv_at hl 1 rfl) ?_
  refine lv_bipush (v := nI 28) hx hb d_N_hasBit_2 (by decide +kernel) ?_
  refine n_idiv hx hb d_N_hasBit_4 (by omega) (by omega) (by omega) ?_
  refine wcV_l (As := [.int (nI (i / 28))]) hx hb hC hw (k_N_at l T (fF V) (fU V) K I O x (i / 28) (kD (V x)) hi rfl (kD_le _) (by omega)) lk_N_19 rfl rfl ⟨by show 0 + 1 ≤ R.frames; omega, by show 8 + (2 + 11) + 0 ≤ R.locals; omega⟩ (by omega) (we_Natural (by omega)) rfl rfl hl.1 rfl (Nat.le_of_ble_eq_true rfl) ⟨Nat.zero_le _, Nat.zero_le _⟩ d_N_hasBit_5 (fun H locs hw => ?_)
  refine sw_l (y := lN (V x / vB ^ (i / 28) % vB)) (at_fD (hV x hi) rfl) ?_
  refine lv_iload_n hx hb d_N_hasBit_8 rfl (lv_at hl 1 rfl) ?_
  refine lv_bipush (v := nI 28) hx hb d_N_hasBit_9 (by decide +kernel) ?_
  refine n_irem hx hb d_N_hasBit_11 (by omega) (by omega) (by omega) ?_
  refine lv_lshr hx hb d_N_hasBit_12 rfl ?_
  refine sw_l (y := lN (V x / vB ^ (i / 28) % vB / 2 ^ (i % 28))) (lN_shrN (by omega) (by omega)) ?_
  have hq : V x / vB ^ (i / 28) % vB / 2 ^ (i % 28) ≤ V x / vB ^ (i / 28) % vB := Nat.div_le_self _ _
  refine lv_lconst (v := 1) hx hb d_N_hasBit_13 (by decide +kernel) ?_
  refine lv_land hx hb d_N_hasBit_14 ?_
  refine sw_l (y := lN (V x / vB ^ (i / 28) % vB / 2 ^ (i % 28) % 2)) (wb_a1 (by omega)) ?_
  have hz := dg_bit (V x) i
  rw [tb_mod] at hz
  have ht : (lN (V x / vB ^ (i / 28) % vB / 2 ^ (i % 28) % 2)).toInt = ((V x / vB ^ (i / 28) % vB / 2 ^ (i % 28) % 2 : Nat) : Int) := lj_lN (by omega)
  refine lv_lconst (v := 1) hx hb d_N_hasBit_15 (by decide +kernel) ?_
  refine lc_ne (tgt := 24) hx hb d_N_hasBit_16 d_N_hasBit_17 (by decide) (fun h8 => ?_) (fun h8 => ?_)
  · refine lv_iconst (v := nI 0) hx hb d_N_hasBit_24 (by decide +kernel) ?_
    refine sw_i (y := (if (V x).testBit i = true then (1 : Int32) else 0)) (by rw [← hz, if_neg (by rw [ht, lj_1] at h8; simp only [decide_eq_true_eq]; omega)]; rfl) ?_
    exact hret _ _ _ _ hw d_N_hasBit_25
  · refine lv_iconst (v := nI 1) hx hb d_N_hasBit_20 (by decide +kernel) ?_
    refine lv_goto (tgt := 25) hx hb d_N_hasBit_21 (by decide) ?_
    refine sw_i (y := (if (V x).testBit i = true then (1 : Int32) else 0)) (by rw [← hz, if_pos (by rw [ht, lj_1] at h8; simp only [decide_eq_true_eq]; omega)]; rfl) ?_
    exact hret _ _ _ _ hw d_N_hasBit_25
