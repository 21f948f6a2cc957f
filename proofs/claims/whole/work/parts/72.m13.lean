/-! the model: inverse -/
theorem iv_r {S T q r : Nat} (h : T * q + r = S) : (r : Int) = (S : Int) - (q : Int) * (T : Int) := by
  have : ((T * q + r : Nat) : Int) = (S : Int) := by rw [h]
  push_cast at this
  rw [Int.mul_comm (T : Int)] at this; omega
theorem iv_u {m w u q y : Nat} (h : m * w + u = q * y) : (u : Int) = (q : Int) * (y : Int) - (m : Int) * (w : Int) := by
  have : ((m * w + u : Nat) : Int) = ((q * y : Nat) : Int) := by rw [h]
  push_cast at this
  omega

set_option maxRecDepth 100000 in
set_option maxHeartbeats 4000000 in
theorem k_M_inverse (l : Launch) (T : wT) (F : wFt) (U K : wUt) (I : wIt) (O : wOt) (M Z : Nat → Nat) (G : Nat → Int32) (z : Nat → Int) (hm : mI z M Z G) (r a mo : Int32) : Met l y_M_inverse (.code y_M_inverse c_M_inverse 4 none :: bg) ({ frames := 4, cells := 0, slots := 0, locals := 101 } : Room) (mP T F U K (gI I (dgm M) Z G) O [.ref (wa T 91), .int r, .int a, .int mo]) (mQvM T (fun M' Z' G' => mI (zF (ocG (isR r ∧ isR a ∧ isR mo) (ivC (z (rg a)) (z (rg mo)))) (va_up z (rg r) ((ivW (z (rg a)) (z (rg mo)) : Nat) : Int)) z) M' Z' G') F U (va_up K 15 (nI (ocG (isR r ∧ isR a ∧ isR mo) (ivC (z (rg a)) (z (rg mo)))))) I O) 0 0 (wA T) := by
  refine wM_vM (by decide) (Nat.le_of_ble_eq_true rfl) ?_
  intro p e R s m args below meth c Q ls hx hb hC hRf hRl hret hl hw
  have hRf : 4 ≤ R.frames := hRf
  have hRl : 101 ≤ R.locals := hRl
  have hl : lv_has ls 4 [(0, .ref (wa T 91)), (1, .int r), (2, .int a), (3, .int mo)] := hl
  refine lv_aload_n hx hb d_M_inverse_0 rfl (lv_at hl 0 rfl) ?_
  refine lv_iload_n hx hb d_M_inverse_1 rfl (lv_at hl 1 rfl) ?_
  refine wcS_z (As := [.int r]) hx hb hC hw (k_M_is l T F U K (gI I (dgm M) Z G) O r) lk_M_66 rfl rfl ⟨by show 0 + 1 ≤ R.frames; omega, by show 8 + (1 + 11) + 0 ≤ R.locals; omega⟩ rfl hl.1 rfl (Nat.le_of_ble_eq_true rfl) ⟨Nat.zero_le _, Nat.zero_le _⟩ d_M_inverse_2 (fun H locs hw => ?_)
  by_cases h_r : isR r
  rotate_left
  · refine sw_i (y := nI 0) (by rw [decide_eq_false h_r]; rfl) ?_
    refine n_if_eq (tgt := 22) hx hb d_M_inverse_5 (by decide) (by omega) (fun hw9 => ?_) (fun hw9 => absurd hw9 (by decide))
    refine lv_iconst (v := nI 1) hx hb d_M_inverse_22 (by decide +kernel) ?_
    refine lv_goto (tgt := 40) hx hb d_M_inverse_23 (by decide) ?_
    refine wp_Model_code hx hb hC hw bw_817 d_M_inverse_40 (fun H locs hw => ?_)
    refine lv_aload_n hx hb d_M_inverse_43 rfl (lv_at hl 0 rfl) ?_
    refine wg_Model_code hx hb hC hw bw_817 d_M_inverse_44 ?_
    refine sw_i (y := nI 1) (va_up_self _ _ _) ?_
    refine n_if_le (tgt := 51) hx hb d_M_inverse_47 (by decide) (by omega) (fun hw9 => absurd hw9 (by decide)) (fun hw9 => ?_)
    rw [ocG_1 (fun e => h_r e.1)] at hret
    exact hret _ _ _ _ _ _ _ (by rw [zF_n (by decide)]; exact hm) hw d_M_inverse_50
  refine sw_i (y := nI 1) (by rw [decide_eq_true h_r]; rfl) ?_
  obtain ⟨x, hx9, rfl⟩ := isR_of h_r
  have hl : lv_has ls 4 [(0, .ref (wa T 91)), (1, .int (nI x)), (2, .int a), (3, .int mo)] := hl
  refine n_if_eq (tgt := 22) hx hb d_M_inverse_5 (by decide) (by omega) (fun hw9 => absurd hw9 (by decide)) (fun hw9 => ?_)
  refine lv_iload_n hx hb d_M_inverse_8 rfl (lv_at hl 2 rfl) ?_
  refine wcS_z (As := [.int a]) hx hb hC hw (k_M_is l T F U K (gI I (dgm M) Z G) O a) lk_M_66 rfl rfl ⟨by show 0 + 1 ≤ R.frames; omega, by show 8 + (1 + 11) + 0 ≤ R.locals; omega⟩ rfl hl.1 rfl (Nat.le_of_ble_eq_true rfl) ⟨Nat.zero_le _, Nat.zero_le _⟩ d_M_inverse_9 (fun H locs hw => ?_)
  by_cases h_a : isR a
  rotate_left
  · refine sw_i (y := nI 0) (by rw [decide_eq_false h_a]; rfl) ?_
    refine n_if_eq (tgt := 22) hx hb d_M_inverse_12 (by decide) (by omega) (fun hw9 => ?_) (fun hw9 => absurd hw9 (by decide))
    refine lv_iconst (v := nI 1) hx hb d_M_inverse_22 (by decide +kernel) ?_
    refine lv_goto (tgt := 40) hx hb d_M_inverse_23 (by decide) ?_
    refine wp_Model_code hx hb hC hw bw_817 d_M_inverse_40 (fun H locs hw => ?_)
    refine lv_aload_n hx hb d_M_inverse_43 rfl (lv_at hl 0 rfl) ?_
    refine wg_Model_code hx hb hC hw bw_817 d_M_inverse_44 ?_
    refine sw_i (y := nI 1) (va_up_self _ _ _) ?_
    refine n_if_le (tgt := 51) hx hb d_M_inverse_47 (by decide) (by omega) (fun hw9 => absurd hw9 (by decide)) (fun hw9 => ?_)
    rw [ocG_1 (fun e => h_a e.2.1)] at hret
    exact hret _ _ _ _ _ _ _ (by rw [zF_n (by decide)]; exact hm) hw d_M_inverse_50
  refine sw_i (y := nI 1) (by rw [decide_eq_true h_a]; rfl) ?_
  obtain ⟨i, hi9, rfl⟩ := isR_of h_a
  have hl : lv_has ls 4 [(0, .ref (wa T 91)), (1, .int (nI x)), (2, .int (nI i)), (3, .int mo)] := hl
  refine n_if_eq (tgt := 22) hx hb d_M_inverse_12 (by decide) (by omega) (fun hw9 => absurd hw9 (by decide)) (fun hw9 => ?_)
  refine lv_iload_n hx hb d_M_inverse_15 rfl (lv_at hl 3 rfl) ?_
  refine wcS_z (As := [.int mo]) hx hb hC hw (k_M_is l T F U K (gI I (dgm M) Z G) O mo) lk_M_66 rfl rfl ⟨by show 0 + 1 ≤ R.frames; omega, by show 8 + (1 + 11) + 0 ≤ R.locals; omega⟩ rfl hl.1 rfl (Nat.le_of_ble_eq_true rfl) ⟨Nat.zero_le _, Nat.zero_le _⟩ d_M_inverse_16 (fun H locs hw => ?_)
  by_cases h_mo : isR mo
  rotate_left
  · refine sw_i (y := nI 0) (by rw [decide_eq_false h_mo]; rfl) ?_
    refine n_if_ne (tgt := 26) hx hb d_M_inverse_19 (by decide) (by omega) (fun hw9 => absurd hw9 (by decide)) (fun hw9 => ?_)
    refine lv_iconst (v := nI 1) hx hb d_M_inverse_22 (by decide +kernel) ?_
    refine lv_goto (tgt := 40) hx hb d_M_inverse_23 (by decide) ?_
    refine wp_Model_code hx hb hC hw bw_817 d_M_inverse_40 (fun H locs hw => ?_)
    refine lv_aload_n hx hb d_M_inverse_43 rfl (lv_at hl 0 rfl) ?_
    refine wg_Model_code hx hb hC hw bw_817 d_M_inverse_44 ?_
    refine sw_i (y := nI 1) (va_up_self _ _ _) ?_
    refine n_if_le (tgt := 51) hx hb d_M_inverse_47 (by decide) (by omega) (fun hw9 => absurd hw9 (by decide)) (fun hw9 => ?_)
    rw [ocG_1 (fun e => h_mo e.2.2)] at hret
    exact hret _ _ _ _ _ _ _ (by rw [zF_n (by decide)]; exact hm) hw d_M_inverse_50
  refine sw_i (y := nI 1) (by rw [decide_eq_true h_mo]; rfl) ?_
  obtain ⟨k, hk9, rfl⟩ := isR_of h_mo
  have hl : lv_has ls 4 [(0, .ref (wa T 91)), (1, .int (nI x)), (2, .int (nI i)), (3, .int (nI k))] := hl
  refine n_if_ne (tgt := 26) hx hb d_M_inverse_19 (by decide) (by omega) (fun hw9 => ?_) (fun hw9 => absurd hw9 (by decide))
  have gg : isR (nI x) ∧ isR (nI i) ∧ isR (nI k) := ⟨h_r, h_a, h_mo⟩
  rw [ocG_k gg, rg_nI hx9, rg_nI hi9, rg_nI hk9] at hret
  have hi := hm.1 i hi9
  have hk := hm.1 k hk9
  refine lv_aload_n hx hb d_M_inverse_26 rfl (lv_at hl 0 rfl) ?_
  refine wg_Model_sign hx hb hC hw bw_820 d_M_inverse_27 ?_
  refine lv_iload_n hx hb d_M_inverse_30 rfl (lv_at hl 3 rfl) ?_
  refine wl_msign hx hb hw (by omega) d_M_inverse_31 ?_
  refine sw_i (y := (G k)) (rfl) ?_
  refine sw_i (y := (sgnI (z k))) (hk.2.2.2) ?_
  refine lv_if_gt (tgt := 39) hx hb d_M_inverse_32 (by decide) (fun hs => ?_) (fun hs => ?_)
  rotate_left
  · rw [show ivC (z i) (z k) = 2 from if_pos (Int.not_lt.mp (fun q => hs (sg_gt.mpr q)))] at hret
    refine lv_iconst (v := nI 2) hx hb d_M_inverse_35 (by decide +kernel) ?_
    refine lv_goto (tgt := 40) hx hb d_M_inverse_36 (by decide) ?_
    refine wp_Model_code hx hb hC hw bw_817 d_M_inverse_40 (fun H locs hw => ?_)
    refine lv_aload_n hx hb d_M_inverse_43 rfl (lv_at hl 0 rfl) ?_
    refine wg_Model_code hx hb hC hw bw_817 d_M_inverse_44 ?_
    refine sw_i (y := nI 2) (va_up_self _ _ _) ?_
    refine n_if_le (tgt := 51) hx hb d_M_inverse_47 (by decide) (by omega) (fun hw9 => absurd hw9 (by decide)) (fun hw9 => ?_)
    exact hret _ _ _ _ _ _ _ (by rw [zF_n (by decide)]; exact hm) hw d_M_inverse_50
  have hkp : 0 < z k := sg_gt.mp hs
  have hk0 : 0 < M k := by rw [hk.2.1]; omega
  have lk := hm.lt hk9
  have li := hm.lt hi9
  refine lv_iconst (v := nI 0) hx hb d_M_inverse_39 (by decide +kernel) ?_
  refine wp_Model_code hx hb hC hw bw_817 d_M_inverse_40 (fun H locs hw => ?_)
  refine lv_aload_n hx hb d_M_inverse_43 rfl (lv_at hl 0 rfl) ?_
  refine wg_Model_code hx hb hC hw bw_817 d_M_inverse_44 ?_
  refine sw_i (y := nI 0) (va_up_self _ _ _) ?_
  refine n_if_le (tgt := 51) hx hb d_M_inverse_47 (by decide) (by omega) (fun hw9 => ?_) (fun hw9 => absurd hw9 (by decide))
  refine lv_aload_n hx hb d_M_inverse_51 rfl (lv_at hl 0 rfl) ?_
  refine lv_iload_n hx hb d_M_inverse_52 rfl (lv_at hl 3 rfl) ?_
  refine lv_bipush (v := nI 17) hx hb d_M_inverse_53 (by decide +kernel) ?_
  refine wcV_v (As := [.int (nI k), .int (nI 17)]) hx hb hC hw (k_M_move l T F U (va_up K 15 (nI 0)) I O M Z G k 17 (by omega) (by omega)) lk_M_40 rfl rfl ⟨by show 0 + 1 ≤ R.frames; omega, by show 8 + (4 + 11) + 0 ≤ R.locals; omega⟩ (by omega) (we_Model ) rfl rfl hl.1 rfl (Nat.le_of_ble_eq_true rfl) ⟨Nat.zero_le _, Nat.zero_le _⟩ d_M_inverse_55 (fun H locs hw => ?_)
  have hm1 : mI z (va_up M 17 (M k)) (va_up Z 17 (Z k)) G := hm.out (by omega) (hm.2 k (by omega))
  have n17 : (va_up M 17 (M k)) 17 = (z k).natAbs := (va_up_self _ _ _).trans hk.2.1
  have z17 : (va_up Z 17 (Z k)) 17 = lnM ((va_up M 17 (M k)) 17) := by rw [va_up_self, va_up_self]; exact hk.2.2.1
  generalize (va_up M 17 (M k)) = M1 at hw hm1 n17 z17
  generalize (va_up Z 17 (Z k)) = Z1 at hw hm1 z17
  have i1 := hm1.1 i hi9
  have k1 := hm1.1 k hk9
  have lk1 := hm1.lt hk9
  have li1 := hm1.lt hi9
  have k10 : 0 < M1 k := by rw [k1.2.1]; omega
  refine lv_aload_n hx hb d_M_inverse_58 rfl (lv_at hl 0 rfl) ?_
  refine lv_iload_n hx hb d_M_inverse_59 rfl (lv_at hl 2 rfl) ?_
  refine lv_iload_n hx hb d_M_inverse_60 rfl (lv_at hl 3 rfl) ?_
  refine lv_bipush (v := nI 18) hx hb d_M_inverse_61 (by decide +kernel) ?_
  refine wcV_v (As := [.int (nI i), .int (nI k), .int (nI 18)]) hx hb hC hw (k_M_reduce l T F U (va_up K 15 (nI 0)) I O M1 Z1 G i k 18 (decide (z i < 0)) (by omega) (by omega) (by omega) i1.2.2.1 k1.2.2.1 (m107_of li1) (hm1.2 k (by omega)) k10 (by rw [i1.2.2.2, sg_lt]; exact decide_eq_true_iff)) lk_M_115 rfl rfl ⟨by show 3 + 1 ≤ R.frames; omega, by show 8 + (4 + 11) + 77 ≤ R.locals; omega⟩ (by omega) (we_Model ) rfl rfl hl.1 rfl (Nat.le_of_ble_eq_true rfl) ⟨Nat.zero_le _, Nat.zero_le _⟩ d_M_inverse_63 (fun H locs hw => ?_)
  have rl : M1 i % M1 k < M1 k := Nat.mod_lt _ k10
  have ql : M1 i / M1 k ≤ M1 i := Nat.div_le_self _ _
  have mi := mM_of li1
  have mk := mM_of lk1
  have gl : (rdc (decide (z i < 0)) (M1 i) (M1 k)) < M1 k := rdc_lt k10
  have hm2 : mI z (va_up (va_up (va_up M1 16 (M1 i % M1 k)) 15 (M1 i / M1 k)) 18 (rdc (decide (z i < 0)) (M1 i) (M1 k))) (va_up (va_up (va_up Z1 16 (lnM (M1 i % M1 k))) 15 (lnM (M1 i / M1 k))) 18 (lnM (rdc (decide (z i < 0)) (M1 i) (M1 k)))) G := ((hm1.out (by omega) (by omega)).out (by omega) (by omega)).out (by omega) (by omega)
  have n18 : (va_up (va_up (va_up M1 16 (M1 i % M1 k)) 15 (M1 i / M1 k)) 18 (rdc (decide (z i < 0)) (M1 i) (M1 k))) 18 = rdI (z i) (z k) := (va_up_self _ _ _).trans (by rw [i1.2.1, k1.2.1]; rfl)
  have z18 : (va_up (va_up (va_up Z1 16 (lnM (M1 i % M1 k))) 15 (lnM (M1 i / M1 k))) 18 (lnM (rdc (decide (z i < 0)) (M1 i) (M1 k)))) 18 = lnM ((va_up (va_up (va_up M1 16 (M1 i % M1 k)) 15 (M1 i / M1 k)) 18 (rdc (decide (z i < 0)) (M1 i) (M1 k))) 18) := by rw [va_up_self, va_up_self]
  have gl2 : rdI (z i) (z k) < (z k).natAbs := rdc_lt (by omega)
  have p17 : (va_up (va_up (va_up M1 16 (M1 i % M1 k)) 15 (M1 i / M1 k)) 18 (rdc (decide (z i < 0)) (M1 i) (M1 k))) 17 = (z k).natAbs := ((va_up_ne _ _ (by decide)).trans ((va_up_ne _ _ (by decide)).trans (va_up_ne _ _ (by decide)))).trans n17
  have y17 : (va_up (va_up (va_up Z1 16 (lnM (M1 i % M1 k))) 15 (lnM (M1 i / M1 k))) 18 (lnM (rdc (decide (z i < 0)) (M1 i) (M1 k)))) 17 = lnM ((va_up (va_up (va_up M1 16 (M1 i % M1 k)) 15 (M1 i / M1 k)) 18 (rdc (decide (z i < 0)) (M1 i) (M1 k))) 17) := by rw [p17, va_up_ne _ _ (by decide), va_up_ne _ _ (by decide), va_up_ne _ _ (by decide), z17, n17]
  generalize (va_up (va_up (va_up M1 16 (M1 i % M1 k)) 15 (M1 i / M1 k)) 18 (rdc (decide (z i < 0)) (M1 i) (M1 k))) = M2 at hw hm2 n18 z18 p17 y17
  generalize (va_up (va_up (va_up Z1 16 (lnM (M1 i % M1 k))) 15 (lnM (M1 i / M1 k))) 18 (lnM (rdc (decide (z i < 0)) (M1 i) (M1 k)))) = Z2 at hw hm2 z18 y17
  generalize hbe : rdI (z i) (z k) = b9 at *
  skip
  refine lv_aload_n hx hb d_M_inverse_66 rfl (lv_at hl 0 rfl) ?_
  refine lv_bipush (v := nI 12) hx hb d_M_inverse_67 (by decide +kernel) ?_
  refine wcV_v (As := [.int (nI 12)]) hx hb hC hw (k_M_clear l T F U (va_up K 15 (nI 0)) I O M2 Z2 G 12 (by omega)) lk_M_26 rfl rfl ⟨by show 0 + 1 ≤ R.frames; omega, by show 8 + (3 + 11) + 0 ≤ R.locals; omega⟩ (by omega) (we_Model ) rfl rfl hl.1 rfl (Nat.le_of_ble_eq_true rfl) ⟨Nat.zero_le _, Nat.zero_le _⟩ d_M_inverse_69 (fun H locs hw => ?_)
  refine lv_aload_n hx hb d_M_inverse_72 rfl (lv_at hl 0 rfl) ?_
  refine lv_bipush (v := nI 13) hx hb d_M_inverse_73 (by decide +kernel) ?_
  refine lv_iconst (v := nI 1) hx hb d_M_inverse_75 (by decide +kernel) ?_
  refine wcV_v (As := [.int (nI 13), .int (nI 1)]) hx hb hC hw (k_M_small l T F U (va_up K 15 (nI 0)) I O (va_up M2 12 0) (va_up Z2 12 0) G 13 1 (by omega) (by decide)) lk_M_93 rfl rfl ⟨by show 1 + 1 ≤ R.frames; omega, by show 8 + (3 + 11) + 22 ≤ R.locals; omega⟩ (by omega) (we_Model ) rfl rfl hl.1 rfl (Nat.le_of_ble_eq_true rfl) ⟨Nat.zero_le _, Nat.zero_le _⟩ d_M_inverse_76 (fun H locs hw => ?_)
  have hm4 : mI z (va_up (va_up M2 12 0) 13 1) (va_up (va_up Z2 12 0) 13 (lnM 1)) G := (hm2.out (by omega) (b20_pp 108)).out (by omega) (lim20 (by decide))
  have a12 : (va_up (va_up M2 12 0) 13 1) 12 = 0 := (va_up_ne _ _ (by decide)).trans (va_up_self _ _ _)
  have c12 : (va_up (va_up Z2 12 0) 13 (lnM 1)) 12 = lnM ((va_up (va_up M2 12 0) 13 1) 12) := by rw [a12, va_up_ne _ _ (by decide), va_up_self, lnM_0]
  have a13 : (va_up (va_up M2 12 0) 13 1) 13 = 1 := va_up_self _ _ _
  have c13 : (va_up (va_up Z2 12 0) 13 (lnM 1)) 13 = lnM ((va_up (va_up M2 12 0) 13 1) 13) := by rw [va_up_self, va_up_self]
  have a17 : (va_up (va_up M2 12 0) 13 1) 17 = (z k).natAbs := ((va_up_ne _ _ (by decide)).trans (va_up_ne _ _ (by decide))).trans p17
  have c17 : (va_up (va_up Z2 12 0) 13 (lnM 1)) 17 = lnM ((va_up (va_up M2 12 0) 13 1) 17) := by rw [a17, ← p17, ← y17]; exact (va_up_ne _ _ (by decide)).trans (va_up_ne _ _ (by decide))
  have a18 : (va_up (va_up M2 12 0) 13 1) 18 = b9 := ((va_up_ne _ _ (by decide)).trans (va_up_ne _ _ (by decide))).trans n18
  have c18 : (va_up (va_up Z2 12 0) 13 (lnM 1)) 18 = lnM ((va_up (va_up M2 12 0) 13 1) 18) := by rw [a18, ← n18, ← z18]; exact (va_up_ne _ _ (by decide)).trans (va_up_ne _ _ (by decide))
  generalize (va_up (va_up M2 12 0) 13 1) = M4 at hw hm4 a12 c12 a13 c13 a17 c17 a18 c18
  generalize (va_up (va_up Z2 12 0) 13 (lnM 1)) = Z4 at hw hm4 c12 c13 c17 c18
  have lp : ∀ (q : Nat) (M9 Z9 : Nat → Nat) (ls : Array Slot) (H : Heap) (locs : List Loc), (M9 18 = q) → (mI z M9 Z9 G) → (M9 17 ≤ (z k).natAbs) → (M9 18 < (z k).natAbs) → (Z9 17 = lnM (M9 17)) → (Z9 18 = lnM (M9 18)) → (Z9 12 = lnM (M9 12)) → (Z9 13 = lnM (M9 13)) → (Nat.gcd (M9 17) (M9 18) = Nat.gcd (z k).natAbs b9) → (∃ u : Int, (M9 12 : Int) * b9 = M9 17 + u * (z k).natAbs) → (∃ v : Int, (M9 13 : Int) * b9 = M9 18 + v * (z k).natAbs) → (M9 12 < (z k).natAbs) → (0 < M9 18 → M9 13 < (z k).natAbs) → lv_has ls 4 [(0, .ref (wa T 91)), (1, .int (nI x)), (2, .int (nI i)), (3, .int (nI k))] → wH T F U (va_up K 15 (nI 0)) (gI I (dgm M9) Z9 G) O (wA T) s s.heap H locs → W p l e R s m args below meth c H locs 0 0 Q (F0 m 79 ls []) := by
    intro q
    induction q using Nat.strongRecOn with
    | ind q ihq =>
      intro M9 Z9 ls H locs hq h1 h2 h3 h4 h5 h6 h7 h8 h9 h10 h11 h12 hl hw
      have hl : lv_has ls 4 [(0, .ref (wa T 91)), (1, .int (nI x)), (2, .int (nI i)), (3, .int (nI k))] := hl
      have ll := lnM_le (M9 18)
      have lz := lnM_z (h1.2 18 (by omega))
      have lzk := hk.1
      have mzk := mM_of lzk
      refine lv_aload_n hx hb d_M_inverse_79 rfl (lv_at hl 0 rfl) ?_
      refine wg_Model_size hx hb hC hw bw_819 d_M_inverse_80 ?_
      refine lv_bipush (v := nI 18) hx hb d_M_inverse_83 (by decide +kernel) ?_
      refine wl_msize hx hb hw (by omega) d_M_inverse_85 ?_
      refine sw_i (y := nI (lnM (M9 18))) (congrArg nI h5) ?_
      refine n_if_le (tgt := 181) hx hb d_M_inverse_86 (by decide) (by omega) (fun h0 => ?_) (fun h0 => ?_)
      · rw [lz.mp h0, Nat.gcd_zero_right] at h8
        refine lv_aload_n hx hb d_M_inverse_181 rfl (lv_at hl 0 rfl) ?_
        refine lv_bipush (v := nI 19) hx hb d_M_inverse_182 (by decide +kernel) ?_
        refine lv_iconst (v := nI 1) hx hb d_M_inverse_184 (by decide +kernel) ?_
        refine wcV_v (As := [.int (nI 19), .int (nI 1)]) hx hb hC hw (k_M_small l T F U (va_up K 15 (nI 0)) I O M9 Z9 G 19 1 (by omega) (by decide)) lk_M_93 rfl rfl ⟨by show 1 + 1 ≤ R.frames; omega, by show 8 + (3 + 11) + 22 ≤ R.locals; omega⟩ (by omega) (we_Model ) rfl rfl hl.1 rfl (Nat.le_of_ble_eq_true rfl) ⟨Nat.zero_le _, Nat.zero_le _⟩ d_M_inverse_185 (fun H locs hw => ?_)
        have hm5 : mI z (va_up M9 19 1) (va_up Z9 19 (lnM 1)) G := h1.out (by omega) (lim20 (by decide))
        have e19 : (va_up M9 19 1) 19 = 1 := va_up_self _ _ _
        have f19 : (va_up Z9 19 (lnM 1)) 19 = lnM ((va_up M9 19 1) 19) := by rw [va_up_self, va_up_self]
        have e17 : (va_up M9 19 1) 17 = M9 17 := va_up_ne _ _ (by decide)
        have f17 : (va_up Z9 19 (lnM 1)) 17 = lnM ((va_up M9 19 1) 17) := by rw [e17, va_up_ne _ _ (by decide)]; exact h4
        have e12 : (va_up M9 19 1) 12 = M9 12 := va_up_ne _ _ (by decide)
        have f12 : (va_up Z9 19 (lnM 1)) 12 = lnM ((va_up M9 19 1) 12) := by rw [e12, va_up_ne _ _ (by decide)]; exact h6
        generalize (va_up M9 19 1) = M5 at hw hm5 e19 f19 e17 f17 e12 f12
        generalize (va_up Z9 19 (lnM 1)) = Z5 at hw hm5 f19 f17 f12
        refine lv_aload_n hx hb d_M_inverse_188 rfl (lv_at hl 0 rfl) ?_
        refine lv_aload_n hx hb d_M_inverse_189 rfl (lv_at hl 0 rfl) ?_
        refine lv_bipush (v := nI 17) hx hb d_M_inverse_190 (by decide +kernel) ?_
        refine lv_bipush (v := nI 19) hx hb d_M_inverse_192 (by decide +kernel) ?_
        refine wcV_i (As := [.int (nI 17), .int (nI 19)]) hx hb hC hw (k_M_order l T F U (va_up K 15 (nI 0)) I O M5 Z5 G 17 19 (by omega) (by omega) f17 f19 (hm5.2 17 (by omega)) (hm5.2 19 (by omega))) lk_M_79 rfl rfl ⟨by show 0 + 1 ≤ R.frames; omega, by show 8 + (6 + 11) + 0 ≤ R.locals; omega⟩ (by omega) (we_Model ) rfl rfl hl.1 rfl (Nat.le_of_ble_eq_true rfl) ⟨Nat.zero_le _, Nat.zero_le _⟩ d_M_inverse_194 (fun H locs hw => ?_)
        refine sw_i (y := (cmp3 (M9 17) 1)) (by rw [e17, e19]) ?_
        by_cases hone : M9 17 = 1
        · refine sw_i (y := (nI 0)) (cmp3_eq hone) ?_
          refine lv_if_ne (tgt := 204) hx hb d_M_inverse_197 (by decide) (fun hw9 => absurd hw9 (by decide +kernel)) (fun hw9 => ?_)
          obtain ⟨u, hu⟩ := h9
          rw [hone] at hu h8
          have hivc : ivC (z i) (z k) = 0 := by unfold ivC; rw [if_neg (by omega), if_pos (by rw [hbe]; exact h8.symm)]
          rw [hivc, zF_0 rfl] at hret
          have eiv : ivW (z i) (z k) = M9 12 := by unfold ivW; rw [hbe]; exact ivN_eq h11 (iv_fin hu)
          rw [eiv] at hret
          refine lv_iconst (v := nI 0) hx hb d_M_inverse_200 (by decide +kernel) ?_
          refine lv_goto (tgt := 205) hx hb d_M_inverse_201 (by decide) ?_
          refine wp_Model_code hx hb hC hw bw_817 d_M_inverse_205 (fun H locs hw => ?_)
          refine lv_aload_n hx hb d_M_inverse_208 rfl (lv_at hl 0 rfl) ?_
          refine wg_Model_code hx hb hC hw bw_817 d_M_inverse_209 ?_
          refine sw_i (y := nI 0) (va_up_self _ _ _) ?_
          refine n_if_ne (tgt := 223) hx hb d_M_inverse_212 (by decide) (by omega) (fun hw9 => absurd hw9 (by decide)) (fun hw9 => ?_)
          rw [va_v2] at hw
          refine lv_aload_n hx hb d_M_inverse_215 rfl (lv_at hl 0 rfl) ?_
          refine lv_bipush (v := nI 12) hx hb d_M_inverse_216 (by decide +kernel) ?_
          refine lv_iload_n hx hb d_M_inverse_218 rfl (lv_at hl 1 rfl) ?_
          refine lv_iconst (v := nI 1) hx hb d_M_inverse_219 (by decide +kernel) ?_
          refine wcV_v (As := [.int (nI 12), .int (nI x), .int (nI 1)]) hx hb hC hw (k_M_store l T F U (va_up K 15 (nI 0)) I O M5 Z5 G 12 x (nI 1) (by omega) (by omega) (by rw [f12]; exact lnM_le _)) lk_M_73 rfl rfl ⟨by show 1 + 1 ≤ R.frames; omega, by show 8 + (4 + 11) + 23 ≤ R.locals; omega⟩ (by omega) (we_Model ) rfl rfl hl.1 rfl (Nat.le_of_ble_eq_true rfl) ⟨Nat.zero_le _, Nat.zero_le _⟩ d_M_inverse_220 (fun H locs hw => ?_)
          exact hret _ _ _ _ _ _ _ (hm5.store hx9 (by omega) e12 f12 (by show M9 12 < m1024; omega) (fun h => (sg_p (by omega)).symm)) hw d_M_inverse_223
        · have hc3 : ¬ cmp3 (M9 17) 1 = 0 := fun q => by
                      rcases Nat.lt_trichotomy (M9 17) 1 with e | e | e
                      · rw [cmp3_lt e] at q; exact absurd q (by decide +kernel)
                      · exact hone e
                      · rw [cmp3_gt e] at q; exact absurd q (by decide +kernel)
          refine lv_if_ne (tgt := 204) hx hb d_M_inverse_197 (by decide) (fun h13 => ?_) (fun h13 => ?_)
          · have hivc : ivC (z i) (z k) = 3 := by unfold ivC; rw [if_neg (by omega), if_neg (fun q => by rw [hbe] at q; exact hone (h8.trans q))]
            rw [hivc] at hret
            refine lv_iconst (v := nI 3) hx hb d_M_inverse_204 (by decide +kernel) ?_
            refine wp_Model_code hx hb hC hw bw_817 d_M_inverse_205 (fun H locs hw => ?_)
            refine lv_aload_n hx hb d_M_inverse_208 rfl (lv_at hl 0 rfl) ?_
            refine wg_Model_code hx hb hC hw bw_817 d_M_inverse_209 ?_
            refine sw_i (y := nI 3) (va_up_self _ _ _) ?_
            refine n_if_ne (tgt := 223) hx hb d_M_inverse_212 (by decide) (by omega) (fun hw9 => ?_) (fun hw9 => absurd hw9 (by decide))
            rw [va_v2] at hw
            exact hret _ _ _ _ _ _ _ (by rw [zF_n (by decide)]; exact hm5) hw d_M_inverse_223
          · exact absurd (by first | exact h13 | exact Classical.not_not.mp h13) hc3
      · have h18 : 0 < M9 18 := by have := lz.mpr; omega
        have hrl := Nat.mod_lt (M9 17) h18
        have hy := h12 h18
        have dl : M9 17 / M9 18 ≤ M9 17 := Nat.div_le_self _ _
        refine lv_aload_n hx hb d_M_inverse_89 rfl (lv_at hl 0 rfl) ?_
        refine lv_bipush (v := nI 17) hx hb d_M_inverse_90 (by decide +kernel) ?_
        refine lv_bipush (v := nI 18) hx hb d_M_inverse_92 (by decide +kernel) ?_
        refine wcV_v (As := [.int (nI 17), .int (nI 18)]) hx hb hC hw (k_M_split l T F U (va_up K 15 (nI 0)) I O M9 Z9 G 17 18 (by omega) (by omega) (by omega) (by omega) (by omega) (by omega) h4 h5 (m107_of (by omega)) (h1.2 18 (by omega)) h18) lk_M_56 rfl rfl ⟨by show 2 + 1 ≤ R.frames; omega, by show 8 + (10 + 11) + 48 ≤ R.locals; omega⟩ (by omega) (we_Model ) rfl rfl hl.1 rfl (Nat.le_of_ble_eq_true rfl) ⟨Nat.zero_le _, Nat.zero_le _⟩ d_M_inverse_94 (fun H locs hw => ?_)
        have hm3 : mI z (va_up (va_up M9 16 (M9 17 % M9 18)) 15 (M9 17 / M9 18)) (va_up (va_up Z9 16 (lnM (M9 17 % M9 18))) 15 (lnM (M9 17 / M9 18))) G := (h1.out (by omega) (by omega)).out (by omega) (by omega)
        have a16 : (va_up (va_up M9 16 (M9 17 % M9 18)) 15 (M9 17 / M9 18)) 16 = M9 17 % M9 18 := (va_up_ne _ _ (by decide)).trans (va_up_self _ _ _)
        have y16 : (va_up (va_up Z9 16 (lnM (M9 17 % M9 18))) 15 (lnM (M9 17 / M9 18))) 16 = lnM ((va_up (va_up M9 16 (M9 17 % M9 18)) 15 (M9 17 / M9 18)) 16) := by rw [va_up_ne _ _ (by decide), va_up_self, va_up_ne _ _ (by decide), va_up_self]
        have a15 : (va_up (va_up M9 16 (M9 17 % M9 18)) 15 (M9 17 / M9 18)) 15 = M9 17 / M9 18 := va_up_self _ _ _
        have y15 : (va_up (va_up Z9 16 (lnM (M9 17 % M9 18))) 15 (lnM (M9 17 / M9 18))) 15 = lnM ((va_up (va_up M9 16 (M9 17 % M9 18)) 15 (M9 17 / M9 18)) 15) := by rw [va_up_self, va_up_self]
        have a12 : (va_up (va_up M9 16 (M9 17 % M9 18)) 15 (M9 17 / M9 18)) 12 = M9 12 := (va_up_ne _ _ (by decide)).trans (va_up_ne _ _ (by decide))
        have y12 : (va_up (va_up Z9 16 (lnM (M9 17 % M9 18))) 15 (lnM (M9 17 / M9 18))) 12 = Z9 12 := (va_up_ne _ _ (by decide)).trans (va_up_ne _ _ (by decide))
        have a13 : (va_up (va_up M9 16 (M9 17 % M9 18)) 15 (M9 17 / M9 18)) 13 = M9 13 := (va_up_ne _ _ (by decide)).trans (va_up_ne _ _ (by decide))
        have y13 : (va_up (va_up Z9 16 (lnM (M9 17 % M9 18))) 15 (lnM (M9 17 / M9 18))) 13 = Z9 13 := (va_up_ne _ _ (by decide)).trans (va_up_ne _ _ (by decide))
        have a18 : (va_up (va_up M9 16 (M9 17 % M9 18)) 15 (M9 17 / M9 18)) 18 = M9 18 := (va_up_ne _ _ (by decide)).trans (va_up_ne _ _ (by decide))
        have y18 : (va_up (va_up Z9 16 (lnM (M9 17 % M9 18))) 15 (lnM (M9 17 / M9 18))) 18 = Z9 18 := (va_up_ne _ _ (by decide)).trans (va_up_ne _ _ (by decide))
        generalize (va_up (va_up M9 16 (M9 17 % M9 18)) 15 (M9 17 / M9 18)) = M3 at hw hm3 a16 y16 a15 y15 a12 a13 a18
        generalize (va_up (va_up Z9 16 (lnM (M9 17 % M9 18))) 15 (lnM (M9 17 / M9 18))) = Z3 at hw hm3 y16 y15 y12 y13 y18
        refine lv_aload_n hx hb d_M_inverse_97 rfl (lv_at hl 0 rfl) ?_
        refine lv_bipush (v := nI 18) hx hb d_M_inverse_98 (by decide +kernel) ?_
        refine lv_bipush (v := nI 17) hx hb d_M_inverse_100 (by decide +kernel) ?_
        refine wcV_v (As := [.int (nI 18), .int (nI 17)]) hx hb hC hw (k_M_move l T F U (va_up K 15 (nI 0)) I O M3 Z3 G 18 17 (by omega) (by omega)) lk_M_40 rfl rfl ⟨by show 0 + 1 ≤ R.frames; omega, by show 8 + (4 + 11) + 0 ≤ R.locals; omega⟩ (by omega) (we_Model ) rfl rfl hl.1 rfl (Nat.le_of_ble_eq_true rfl) ⟨Nat.zero_le _, Nat.zero_le _⟩ d_M_inverse_102 (fun H locs hw => ?_)
        refine lv_aload_n hx hb d_M_inverse_105 rfl (lv_at hl 0 rfl) ?_
        refine lv_bipush (v := nI 16) hx hb d_M_inverse_106 (by decide +kernel) ?_
        refine lv_bipush (v := nI 18) hx hb d_M_inverse_108 (by decide +kernel) ?_
        refine wcV_v (As := [.int (nI 16), .int (nI 18)]) hx hb hC hw (k_M_move l T F U (va_up K 15 (nI 0)) I O (va_up M3 17 (M3 18)) (va_up Z3 17 (Z3 18)) G 16 18 (by omega) (by omega)) lk_M_40 rfl rfl ⟨by show 0 + 1 ≤ R.frames; omega, by show 8 + (4 + 11) + 0 ≤ R.locals; omega⟩ (by omega) (we_Model ) rfl rfl hl.1 rfl (Nat.le_of_ble_eq_true rfl) ⟨Nat.zero_le _, Nat.zero_le _⟩ d_M_inverse_110 (fun H locs hw => ?_)
        refine lv_aload_n hx hb d_M_inverse_113 rfl (lv_at hl 0 rfl) ?_
        refine lv_bipush (v := nI 15) hx hb d_M_inverse_114 (by decide +kernel) ?_
        refine lv_bipush (v := nI 19) hx hb d_M_inverse_116 (by decide +kernel) ?_
        refine wcV_v (As := [.int (nI 15), .int (nI 19)]) hx hb hC hw (k_M_move l T F U (va_up K 15 (nI 0)) I O (va_up (va_up M3 17 (M3 18)) 18 ((va_up M3 17 (M3 18)) 16)) (va_up (va_up Z3 17 (Z3 18)) 18 ((va_up Z3 17 (Z3 18)) 16)) G 15 19 (by omega) (by omega)) lk_M_40 rfl rfl ⟨by show 0 + 1 ≤ R.frames; omega, by show 8 + (4 + 11) + 0 ≤ R.locals; omega⟩ (by omega) (we_Model ) rfl rfl hl.1 rfl (Nat.le_of_ble_eq_true rfl) ⟨Nat.zero_le _, Nat.zero_le _⟩ d_M_inverse_118 (fun H locs hw => ?_)
        have b16 : (va_up M3 17 (M3 18)) 16 = M9 17 % M9 18 := (va_up_ne _ _ (by decide)).trans a16
        have b15 : (va_up (va_up M3 17 (M3 18)) 18 ((va_up M3 17 (M3 18)) 16)) 15 = M9 17 / M9 18 := ((va_up_ne _ _ (by decide)).trans (va_up_ne _ _ (by decide))).trans a15
        have hm6 : mI z (va_up (va_up (va_up M3 17 (M3 18)) 18 ((va_up M3 17 (M3 18)) 16)) 19 ((va_up (va_up M3 17 (M3 18)) 18 ((va_up M3 17 (M3 18)) 16)) 15)) (va_up (va_up (va_up Z3 17 (Z3 18)) 18 ((va_up Z3 17 (Z3 18)) 16)) 19 ((va_up (va_up Z3 17 (Z3 18)) 18 ((va_up Z3 17 (Z3 18)) 16)) 15)) G := ((hm3.out (by omega) (hm3.2 18 (by omega))).out (by omega) (by rw [b16]; omega)).out (by omega) (by rw [b15]; omega)
        have e19 : (va_up (va_up (va_up M3 17 (M3 18)) 18 ((va_up M3 17 (M3 18)) 16)) 19 ((va_up (va_up M3 17 (M3 18)) 18 ((va_up M3 17 (M3 18)) 16)) 15)) 19 = M9 17 / M9 18 := (va_up_self _ _ _).trans b15
        have f19 : (va_up (va_up (va_up Z3 17 (Z3 18)) 18 ((va_up Z3 17 (Z3 18)) 16)) 19 ((va_up (va_up Z3 17 (Z3 18)) 18 ((va_up Z3 17 (Z3 18)) 16)) 15)) 19 = lnM ((va_up (va_up (va_up M3 17 (M3 18)) 18 ((va_up M3 17 (M3 18)) 16)) 19 ((va_up (va_up M3 17 (M3 18)) 18 ((va_up M3 17 (M3 18)) 16)) 15)) 19) := by rw [e19, va_up_self, va_up_ne _ _ (by decide), va_up_ne _ _ (by decide), y15, a15]
        have e18 : (va_up (va_up (va_up M3 17 (M3 18)) 18 ((va_up M3 17 (M3 18)) 16)) 19 ((va_up (va_up M3 17 (M3 18)) 18 ((va_up M3 17 (M3 18)) 16)) 15)) 18 = M9 17 % M9 18 := (va_up_ne _ _ (by decide)).trans ((va_up_self _ _ _).trans b16)
        have f18 : (va_up (va_up (va_up Z3 17 (Z3 18)) 18 ((va_up Z3 17 (Z3 18)) 16)) 19 ((va_up (va_up Z3 17 (Z3 18)) 18 ((va_up Z3 17 (Z3 18)) 16)) 15)) 18 = lnM ((va_up (va_up (va_up M3 17 (M3 18)) 18 ((va_up M3 17 (M3 18)) 16)) 19 ((va_up (va_up M3 17 (M3 18)) 18 ((va_up M3 17 (M3 18)) 16)) 15)) 18) := by rw [e18, va_up_ne _ _ (by decide), va_up_self, va_up_ne _ _ (by decide), y16, a16]
        have e17 : (va_up (va_up (va_up M3 17 (M3 18)) 18 ((va_up M3 17 (M3 18)) 16)) 19 ((va_up (va_up M3 17 (M3 18)) 18 ((va_up M3 17 (M3 18)) 16)) 15)) 17 = M9 18 := ((va_up_ne _ _ (by decide)).trans (va_up_ne _ _ (by decide))).trans ((va_up_self _ _ _).trans a18)
        have f17 : (va_up (va_up (va_up Z3 17 (Z3 18)) 18 ((va_up Z3 17 (Z3 18)) 16)) 19 ((va_up (va_up Z3 17 (Z3 18)) 18 ((va_up Z3 17 (Z3 18)) 16)) 15)) 17 = lnM ((va_up (va_up (va_up M3 17 (M3 18)) 18 ((va_up M3 17 (M3 18)) 16)) 19 ((va_up (va_up M3 17 (M3 18)) 18 ((va_up M3 17 (M3 18)) 16)) 15)) 17) := by rw [e17, va_up_ne _ _ (by decide), va_up_ne _ _ (by decide), va_up_self, y18]; exact h5
        have e12 : (va_up (va_up (va_up M3 17 (M3 18)) 18 ((va_up M3 17 (M3 18)) 16)) 19 ((va_up (va_up M3 17 (M3 18)) 18 ((va_up M3 17 (M3 18)) 16)) 15)) 12 = M9 12 := ((va_up_ne _ _ (by decide)).trans ((va_up_ne _ _ (by decide)).trans (va_up_ne _ _ (by decide)))).trans a12
        have f12 : (va_up (va_up (va_up Z3 17 (Z3 18)) 18 ((va_up Z3 17 (Z3 18)) 16)) 19 ((va_up (va_up Z3 17 (Z3 18)) 18 ((va_up Z3 17 (Z3 18)) 16)) 15)) 12 = lnM ((va_up (va_up (va_up M3 17 (M3 18)) 18 ((va_up M3 17 (M3 18)) 16)) 19 ((va_up (va_up M3 17 (M3 18)) 18 ((va_up M3 17 (M3 18)) 16)) 15)) 12) := by rw [e12, va_up_ne _ _ (by decide), va_up_ne _ _ (by decide), va_up_ne _ _ (by decide), y12]; exact h6
        have e13 : (va_up (va_up (va_up M3 17 (M3 18)) 18 ((va_up M3 17 (M3 18)) 16)) 19 ((va_up (va_up M3 17 (M3 18)) 18 ((va_up M3 17 (M3 18)) 16)) 15)) 13 = M9 13 := ((va_up_ne _ _ (by decide)).trans ((va_up_ne _ _ (by decide)).trans (va_up_ne _ _ (by decide)))).trans a13
        have f13 : (va_up (va_up (va_up Z3 17 (Z3 18)) 18 ((va_up Z3 17 (Z3 18)) 16)) 19 ((va_up (va_up Z3 17 (Z3 18)) 18 ((va_up Z3 17 (Z3 18)) 16)) 15)) 13 = lnM ((va_up (va_up (va_up M3 17 (M3 18)) 18 ((va_up M3 17 (M3 18)) 16)) 19 ((va_up (va_up M3 17 (M3 18)) 18 ((va_up M3 17 (M3 18)) 16)) 15)) 13) := by rw [e13, va_up_ne _ _ (by decide), va_up_ne _ _ (by decide), va_up_ne _ _ (by decide), y13]; exact h7
        generalize (va_up (va_up (va_up M3 17 (M3 18)) 18 ((va_up M3 17 (M3 18)) 16)) 19 ((va_up (va_up M3 17 (M3 18)) 18 ((va_up M3 17 (M3 18)) 16)) 15)) = M6 at hw hm6 e19 f19 e18 f18 e17 f17 e12 f12 e13 f13
        generalize (va_up (va_up (va_up Z3 17 (Z3 18)) 18 ((va_up Z3 17 (Z3 18)) 16)) 19 ((va_up (va_up Z3 17 (Z3 18)) 18 ((va_up Z3 17 (Z3 18)) 16)) 15)) = Z6 at hw hm6 f19 f18 f17 f12 f13
        have k6 := hm6.1 k hk9
        refine lv_aload_n hx hb d_M_inverse_121 rfl (lv_at hl 0 rfl) ?_
        refine lv_bipush (v := nI 19) hx hb d_M_inverse_122 (by decide +kernel) ?_
        refine lv_bipush (v := nI 13) hx hb d_M_inverse_124 (by decide +kernel) ?_
        refine lv_iload_n hx hb d_M_inverse_126 rfl (lv_at hl 3 rfl) ?_
        refine lv_bipush (v := nI 19) hx hb d_M_inverse_127 (by decide +kernel) ?_
        refine wcV_vM (As := [.int (nI 19), .int (nI 13), .int (nI k), .int (nI 19)]) hx hb hC hw (k_M_timesBy l T F U (va_up K 15 (nI 0)) I O M6 Z6 G 19 13 k 19 (by omega) (by omega) (by omega) (by omega) (by omega) (by omega) f19 f13 k6.2.2.1 (by rw [e19]; omega) (by rw [e13]; omega) (by rw [k6.2.1]; omega) hm6.2) lk_M_118 rfl rfl ⟨by show 3 + 1 ≤ R.frames; omega, by show 8 + (5 + 11) + 77 ≤ R.locals; omega⟩ (by omega) (we_Model ) rfl rfl hl.1 rfl (Nat.le_of_ble_eq_true rfl) ⟨Nat.zero_le _, Nat.zero_le _⟩ d_M_inverse_129 (fun M7 Z7 G7 H locs hp9 hw => ?_)
        obtain ⟨fr, n7, z7, hG⟩ := hp9
        rw [hG] at hw
        have hm7 : mI z M7 Z7 G := hm6.f4 (by decide) fr
        have g12 := fr.1 12 (by decide) (by decide) (by decide) (by decide)
        have g13 := fr.1 13 (by decide) (by decide) (by decide) (by decide)
        have g17 := fr.1 17 (by decide) (by decide) (by decide) (by decide)
        have g18 := fr.1 18 (by decide) (by decide) (by decide) (by decide)
        rw [e19, e13, k6.2.1] at n7
        have ul : M9 17 / M9 18 * M9 13 % (z k).natAbs < (z k).natAbs := Nat.mod_lt _ (by omega)
        have u12 : M7 12 = M9 12 := g12.1.trans e12
        have x12 : Z7 12 = lnM (M7 12) := by rw [g12.1, g12.2]; exact f12
        have k7 := hm7.1 k hk9
        have e13b : M7 13 = M9 13 := g13.1.trans e13
        have f13b : Z7 13 = lnM (M7 13) := by rw [g13.1, g13.2]; exact f13
        have e17b : M7 17 = M9 18 := g17.1.trans e17
        have f17b : Z7 17 = lnM (M7 17) := by rw [g17.1, g17.2]; exact f17
        have e18b : M7 18 = M9 17 % M9 18 := g18.1.trans e18
        have f18b : Z7 18 = lnM (M7 18) := by rw [g18.1, g18.2]; exact f18
        obtain ⟨u, hu⟩ := h9
        obtain ⟨v, hv⟩ := h10
        have hdm := Nat.div_add_mod (M9 17) (M9 18)
        have hdu := Nat.div_add_mod (M9 17 / M9 18 * M9 13) (z k).natAbs
        generalize hqe : M9 17 / M9 18 = q9 at *
        generalize hre : M9 17 % M9 18 = r9 at *
        generalize hue : q9 * M9 13 % (z k).natAbs = u9 at *
        generalize hwe : q9 * M9 13 / (z k).natAbs = w9 at *
        have hrS := iv_r hdm
        have huS := iv_u hdu
        refine lv_aload_n hx hb d_M_inverse_132 rfl (lv_at hl 0 rfl) ?_
        refine lv_bipush (v := nI 12) hx hb d_M_inverse_133 (by decide +kernel) ?_
        refine lv_bipush (v := nI 19) hx hb d_M_inverse_135 (by decide +kernel) ?_
        refine wcV_i (As := [.int (nI 12), .int (nI 19)]) hx hb hC hw (k_M_order l T F U (va_up K 15 (nI 0)) I O M7 Z7 G 12 19 (by omega) (by omega) x12 z7 (hm7.2 12 (by omega)) (hm7.2 19 (by omega))) lk_M_79 rfl rfl ⟨by show 0 + 1 ≤ R.frames; omega, by show 8 + (6 + 11) + 0 ≤ R.locals; omega⟩ (by omega) (we_Model ) rfl rfl hl.1 rfl (Nat.le_of_ble_eq_true rfl) ⟨Nat.zero_le _, Nat.zero_le _⟩ d_M_inverse_137 (fun H locs hw => ?_)
        refine sw_i (y := (cmp3 (M9 12) u9)) (by rw [u12, n7]) ?_
        refine lv_if_ge (tgt := 152) hx hb d_M_inverse_140 (by decide) (fun hcm => ?_) (fun hcm => ?_)
        · have hge : u9 ≤ M9 12 := Nat.not_lt.mp (fun q => absurd (cmp3_ng.mpr q) (Int32.not_lt.mpr hcm))
          refine lv_aload_n hx hb d_M_inverse_152 rfl (lv_at hl 0 rfl) ?_
          refine lv_bipush (v := nI 12) hx hb d_M_inverse_153 (by decide +kernel) ?_
          refine lv_bipush (v := nI 19) hx hb d_M_inverse_155 (by decide +kernel) ?_
          refine lv_bipush (v := nI 19) hx hb d_M_inverse_157 (by decide +kernel) ?_
          refine wcV_v (As := [.int (nI 12), .int (nI 19), .int (nI 19)]) hx hb hC hw (k_M_minus l T F U (va_up K 15 (nI 0)) I O M7 Z7 G 12 19 19 (by omega) (by omega) (by omega) (by rw [u12, n7]; omega) (hm7.2 12 (by omega))) lk_M_59 rfl rfl ⟨by show 1 + 1 ≤ R.frames; omega, by show 8 + (7 + 11) + 22 ≤ R.locals; omega⟩ (by omega) (we_Model ) rfl rfl hl.1 rfl (Nat.le_of_ble_eq_true rfl) ⟨Nat.zero_le _, Nat.zero_le _⟩ d_M_inverse_159 (fun H locs hw => ?_)
          rw [u12, n7] at hw
          refine lv_aload_n hx hb d_M_inverse_162 rfl (lv_at hl 0 rfl) ?_
          refine lv_bipush (v := nI 13) hx hb d_M_inverse_163 (by decide +kernel) ?_
          refine lv_bipush (v := nI 12) hx hb d_M_inverse_165 (by decide +kernel) ?_
          refine wcV_v (As := [.int (nI 13), .int (nI 12)]) hx hb hC hw (k_M_move l T F U (va_up K 15 (nI 0)) I O (va_up M7 19 (M9 12 - u9)) (va_up Z7 19 (lnM (M9 12 - u9))) G 13 12 (by omega) (by omega)) lk_M_40 rfl rfl ⟨by show 0 + 1 ≤ R.frames; omega, by show 8 + (4 + 11) + 0 ≤ R.locals; omega⟩ (by omega) (we_Model ) rfl rfl hl.1 rfl (Nat.le_of_ble_eq_true rfl) ⟨Nat.zero_le _, Nat.zero_le _⟩ d_M_inverse_167 (fun H locs hw => ?_)
          refine lv_aload_n hx hb d_M_inverse_170 rfl (lv_at hl 0 rfl) ?_
          refine lv_bipush (v := nI 19) hx hb d_M_inverse_171 (by decide +kernel) ?_
          refine lv_bipush (v := nI 13) hx hb d_M_inverse_173 (by decide +kernel) ?_
          refine wcV_v (As := [.int (nI 19), .int (nI 13)]) hx hb hC hw (k_M_move l T F U (va_up K 15 (nI 0)) I O (va_up (va_up M7 19 (M9 12 - u9)) 12 ((va_up M7 19 (M9 12 - u9)) 13)) (va_up (va_up Z7 19 (lnM (M9 12 - u9))) 12 ((va_up Z7 19 (lnM (M9 12 - u9))) 13)) G 19 13 (by omega) (by omega)) lk_M_40 rfl rfl ⟨by show 0 + 1 ≤ R.frames; omega, by show 8 + (4 + 11) + 0 ≤ R.locals; omega⟩ (by omega) (we_Model ) rfl rfl hl.1 rfl (Nat.le_of_ble_eq_true rfl) ⟨Nat.zero_le _, Nat.zero_le _⟩ d_M_inverse_175 (fun H locs hw => ?_)
          have t13 : (va_up M7 19 (M9 12 - u9)) 13 = M9 13 := (va_up_ne _ _ (by decide)).trans e13b
          have t19 : (va_up (va_up M7 19 (M9 12 - u9)) 12 ((va_up M7 19 (M9 12 - u9)) 13)) 19 = (M9 12 - u9) := (va_up_ne _ _ (by decide)).trans (va_up_self _ _ _)
          have hmc : mI z (va_up (va_up (va_up M7 19 (M9 12 - u9)) 12 ((va_up M7 19 (M9 12 - u9)) 13)) 13 ((va_up (va_up M7 19 (M9 12 - u9)) 12 ((va_up M7 19 (M9 12 - u9)) 13)) 19)) (va_up (va_up (va_up Z7 19 (lnM (M9 12 - u9))) 12 ((va_up Z7 19 (lnM (M9 12 - u9))) 13)) 13 ((va_up (va_up Z7 19 (lnM (M9 12 - u9))) 12 ((va_up Z7 19 (lnM (M9 12 - u9))) 13)) 19)) G := ((hm7.out (by omega) (by omega)).out (by omega) (by rw [t13]; omega)).out (by omega) (by rw [t19]; omega)
          have o13 : (va_up (va_up (va_up M7 19 (M9 12 - u9)) 12 ((va_up M7 19 (M9 12 - u9)) 13)) 13 ((va_up (va_up M7 19 (M9 12 - u9)) 12 ((va_up M7 19 (M9 12 - u9)) 13)) 19)) 13 = (M9 12 - u9) := (va_up_self _ _ _).trans t19
          have s13 : (va_up (va_up (va_up Z7 19 (lnM (M9 12 - u9))) 12 ((va_up Z7 19 (lnM (M9 12 - u9))) 13)) 13 ((va_up (va_up Z7 19 (lnM (M9 12 - u9))) 12 ((va_up Z7 19 (lnM (M9 12 - u9))) 13)) 19)) 13 = lnM ((va_up (va_up (va_up M7 19 (M9 12 - u9)) 12 ((va_up M7 19 (M9 12 - u9)) 13)) 13 ((va_up (va_up M7 19 (M9 12 - u9)) 12 ((va_up M7 19 (M9 12 - u9)) 13)) 19)) 13) := by rw [o13, va_up_self, va_up_ne _ _ (by decide), va_up_self]
          have o12 : (va_up (va_up (va_up M7 19 (M9 12 - u9)) 12 ((va_up M7 19 (M9 12 - u9)) 13)) 13 ((va_up (va_up M7 19 (M9 12 - u9)) 12 ((va_up M7 19 (M9 12 - u9)) 13)) 19)) 12 = M9 13 := (va_up_ne _ _ (by decide)).trans ((va_up_self _ _ _).trans t13)
          have s12 : (va_up (va_up (va_up Z7 19 (lnM (M9 12 - u9))) 12 ((va_up Z7 19 (lnM (M9 12 - u9))) 13)) 13 ((va_up (va_up Z7 19 (lnM (M9 12 - u9))) 12 ((va_up Z7 19 (lnM (M9 12 - u9))) 13)) 19)) 12 = lnM ((va_up (va_up (va_up M7 19 (M9 12 - u9)) 12 ((va_up M7 19 (M9 12 - u9)) 13)) 13 ((va_up (va_up M7 19 (M9 12 - u9)) 12 ((va_up M7 19 (M9 12 - u9)) 13)) 19)) 12) := by rw [o12, va_up_ne _ _ (by decide), va_up_self, va_up_ne _ _ (by decide), f13b, e13b]
          have o17 : (va_up (va_up (va_up M7 19 (M9 12 - u9)) 12 ((va_up M7 19 (M9 12 - u9)) 13)) 13 ((va_up (va_up M7 19 (M9 12 - u9)) 12 ((va_up M7 19 (M9 12 - u9)) 13)) 19)) 17 = M9 18 := ((va_up_ne _ _ (by decide)).trans ((va_up_ne _ _ (by decide)).trans (va_up_ne _ _ (by decide)))).trans e17b
          have s17 : (va_up (va_up (va_up Z7 19 (lnM (M9 12 - u9))) 12 ((va_up Z7 19 (lnM (M9 12 - u9))) 13)) 13 ((va_up (va_up Z7 19 (lnM (M9 12 - u9))) 12 ((va_up Z7 19 (lnM (M9 12 - u9))) 13)) 19)) 17 = lnM ((va_up (va_up (va_up M7 19 (M9 12 - u9)) 12 ((va_up M7 19 (M9 12 - u9)) 13)) 13 ((va_up (va_up M7 19 (M9 12 - u9)) 12 ((va_up M7 19 (M9 12 - u9)) 13)) 19)) 17) := by rw [o17, va_up_ne _ _ (by decide), va_up_ne _ _ (by decide), va_up_ne _ _ (by decide), f17b, e17b]
          have o18 : (va_up (va_up (va_up M7 19 (M9 12 - u9)) 12 ((va_up M7 19 (M9 12 - u9)) 13)) 13 ((va_up (va_up M7 19 (M9 12 - u9)) 12 ((va_up M7 19 (M9 12 - u9)) 13)) 19)) 18 = r9 := ((va_up_ne _ _ (by decide)).trans ((va_up_ne _ _ (by decide)).trans (va_up_ne _ _ (by decide)))).trans e18b
          have s18 : (va_up (va_up (va_up Z7 19 (lnM (M9 12 - u9))) 12 ((va_up Z7 19 (lnM (M9 12 - u9))) 13)) 13 ((va_up (va_up Z7 19 (lnM (M9 12 - u9))) 12 ((va_up Z7 19 (lnM (M9 12 - u9))) 13)) 19)) 18 = lnM ((va_up (va_up (va_up M7 19 (M9 12 - u9)) 12 ((va_up M7 19 (M9 12 - u9)) 13)) 13 ((va_up (va_up M7 19 (M9 12 - u9)) 12 ((va_up M7 19 (M9 12 - u9)) 13)) 19)) 18) := by rw [o18, va_up_ne _ _ (by decide), va_up_ne _ _ (by decide), va_up_ne _ _ (by decide), f18b, e18b]
          have key := iv_step (q := (q9 : Int)) (w := (w9 : Int)) (e := 0) hu hv
          have eD : (((M9 12 - u9) : Nat) : Int) = (M9 12 : Int) + 0 * ((z k).natAbs : Int) - ((q9 : Int) * M9 13 - (z k).natAbs * w9) := by rw [← huS]; omega
          rw [← eD, ← hrS] at key
          refine lv_goto (tgt := 79) hx hb d_M_inverse_178 (by decide) ?_
          exact ihq r9 (by omega) (va_up (va_up (va_up M7 19 (M9 12 - u9)) 12 ((va_up M7 19 (M9 12 - u9)) 13)) 13 ((va_up (va_up M7 19 (M9 12 - u9)) 12 ((va_up M7 19 (M9 12 - u9)) 13)) 19)) (va_up (va_up (va_up Z7 19 (lnM (M9 12 - u9))) 12 ((va_up Z7 19 (lnM (M9 12 - u9))) 13)) 13 ((va_up (va_up Z7 19 (lnM (M9 12 - u9))) 12 ((va_up Z7 19 (lnM (M9 12 - u9))) 13)) 19)) ls _ _ o18 hmc (by rw [o17]; omega) (by rw [o18]; omega) s17 s18 s12 s13 (by rw [o17, o18, ← hre, Nat.gcd_comm, ← Nat.gcd_rec, Nat.gcd_comm]; exact h8) ⟨v, by rw [o12, o17]; exact hv⟩ ⟨_, by rw [o13, o18]; exact key⟩ (by rw [o12]; exact hy) (fun _ => by rw [o13]; omega) hl hw
        · have hlt : M9 12 < u9 := cmp3_ng.mp (Int32.not_le.mp hcm)
          have m2 := m2_mM
          refine lv_aload_n hx hb d_M_inverse_143 rfl (lv_at hl 0 rfl) ?_
          refine lv_bipush (v := nI 12) hx hb d_M_inverse_144 (by decide +kernel) ?_
          refine lv_iload_n hx hb d_M_inverse_146 rfl (lv_at hl 3 rfl) ?_
          refine lv_bipush (v := nI 12) hx hb d_M_inverse_147 (by decide +kernel) ?_
          refine wcV_v (As := [.int (nI 12), .int (nI k), .int (nI 12)]) hx hb hC hw (k_M_plus l T F U (va_up K 15 (nI 0)) I O M7 Z7 G 12 k 12 (by omega) (by omega) (by omega) (by rw [u12, k7.2.1]; omega)) lk_M_83 rfl rfl ⟨by show 1 + 1 ≤ R.frames; omega, by show 8 + (7 + 11) + 22 ≤ R.locals; omega⟩ (by omega) (we_Model ) rfl rfl hl.1 rfl (Nat.le_of_ble_eq_true rfl) ⟨Nat.zero_le _, Nat.zero_le _⟩ d_M_inverse_149 (fun H locs hw => ?_)
          rw [u12, k7.2.1] at hw
          have hm8 : mI z (va_up M7 12 (M9 12 + (z k).natAbs)) (va_up Z7 12 (lnM (M9 12 + (z k).natAbs))) G := hm7.out (by omega) (by omega)
          have v12 : (va_up M7 12 (M9 12 + (z k).natAbs)) 12 = M9 12 + (z k).natAbs := va_up_self _ _ _
          have v13 : (va_up M7 12 (M9 12 + (z k).natAbs)) 13 = _ := (va_up_ne _ _ (by decide)).trans e13b
          have w13 : (va_up Z7 12 (lnM (M9 12 + (z k).natAbs))) 13 = lnM ((va_up M7 12 (M9 12 + (z k).natAbs)) 13) := by rw [va_up_ne _ _ (by decide), va_up_ne _ _ (by decide)]; exact f13b
          have v17 : (va_up M7 12 (M9 12 + (z k).natAbs)) 17 = _ := (va_up_ne _ _ (by decide)).trans e17b
          have w17 : (va_up Z7 12 (lnM (M9 12 + (z k).natAbs))) 17 = lnM ((va_up M7 12 (M9 12 + (z k).natAbs)) 17) := by rw [va_up_ne _ _ (by decide), va_up_ne _ _ (by decide)]; exact f17b
          have v18 : (va_up M7 12 (M9 12 + (z k).natAbs)) 18 = _ := (va_up_ne _ _ (by decide)).trans e18b
          have w18 : (va_up Z7 12 (lnM (M9 12 + (z k).natAbs))) 18 = lnM ((va_up M7 12 (M9 12 + (z k).natAbs)) 18) := by rw [va_up_ne _ _ (by decide), va_up_ne _ _ (by decide)]; exact f18b
          have v19 : (va_up M7 12 (M9 12 + (z k).natAbs)) 19 = u9 := (va_up_ne _ _ (by decide)).trans n7
          generalize (va_up M7 12 (M9 12 + (z k).natAbs)) = M8 at hw hm8 v12 v13 v17 v18 v19 w13 w17 w18
          generalize (va_up Z7 12 (lnM (M9 12 + (z k).natAbs))) = Z8 at hw hm8 w13 w17 w18
          refine lv_aload_n hx hb d_M_inverse_152 rfl (lv_at hl 0 rfl) ?_
          refine lv_bipush (v := nI 12) hx hb d_M_inverse_153 (by decide +kernel) ?_
          refine lv_bipush (v := nI 19) hx hb d_M_inverse_155 (by decide +kernel) ?_
          refine lv_bipush (v := nI 19) hx hb d_M_inverse_157 (by decide +kernel) ?_
          refine wcV_v (As := [.int (nI 12), .int (nI 19), .int (nI 19)]) hx hb hC hw (k_M_minus l T F U (va_up K 15 (nI 0)) I O M8 Z8 G 12 19 19 (by omega) (by omega) (by omega) (by rw [v12, v19]; omega) (hm8.2 12 (by omega))) lk_M_59 rfl rfl ⟨by show 1 + 1 ≤ R.frames; omega, by show 8 + (7 + 11) + 22 ≤ R.locals; omega⟩ (by omega) (we_Model ) rfl rfl hl.1 rfl (Nat.le_of_ble_eq_true rfl) ⟨Nat.zero_le _, Nat.zero_le _⟩ d_M_inverse_159 (fun H locs hw => ?_)
          rw [v12, v19] at hw
          refine lv_aload_n hx hb d_M_inverse_162 rfl (lv_at hl 0 rfl) ?_
          refine lv_bipush (v := nI 13) hx hb d_M_inverse_163 (by decide +kernel) ?_
          refine lv_bipush (v := nI 12) hx hb d_M_inverse_165 (by decide +kernel) ?_
          refine wcV_v (As := [.int (nI 13), .int (nI 12)]) hx hb hC hw (k_M_move l T F U (va_up K 15 (nI 0)) I O (va_up M8 19 ((M9 12 + (z k).natAbs) - u9)) (va_up Z8 19 (lnM ((M9 12 + (z k).natAbs) - u9))) G 13 12 (by omega) (by omega)) lk_M_40 rfl rfl ⟨by show 0 + 1 ≤ R.frames; omega, by show 8 + (4 + 11) + 0 ≤ R.locals; omega⟩ (by omega) (we_Model ) rfl rfl hl.1 rfl (Nat.le_of_ble_eq_true rfl) ⟨Nat.zero_le _, Nat.zero_le _⟩ d_M_inverse_167 (fun H locs hw => ?_)
          refine lv_aload_n hx hb d_M_inverse_170 rfl (lv_at hl 0 rfl) ?_
          refine lv_bipush (v := nI 19) hx hb d_M_inverse_171 (by decide +kernel) ?_
          refine lv_bipush (v := nI 13) hx hb d_M_inverse_173 (by decide +kernel) ?_
          refine wcV_v (As := [.int (nI 19), .int (nI 13)]) hx hb hC hw (k_M_move l T F U (va_up K 15 (nI 0)) I O (va_up (va_up M8 19 ((M9 12 + (z k).natAbs) - u9)) 12 ((va_up M8 19 ((M9 12 + (z k).natAbs) - u9)) 13)) (va_up (va_up Z8 19 (lnM ((M9 12 + (z k).natAbs) - u9))) 12 ((va_up Z8 19 (lnM ((M9 12 + (z k).natAbs) - u9))) 13)) G 19 13 (by omega) (by omega)) lk_M_40 rfl rfl ⟨by show 0 + 1 ≤ R.frames; omega, by show 8 + (4 + 11) + 0 ≤ R.locals; omega⟩ (by omega) (we_Model ) rfl rfl hl.1 rfl (Nat.le_of_ble_eq_true rfl) ⟨Nat.zero_le _, Nat.zero_le _⟩ d_M_inverse_175 (fun H locs hw => ?_)
          have t13 : (va_up M8 19 ((M9 12 + (z k).natAbs) - u9)) 13 = M9 13 := (va_up_ne _ _ (by decide)).trans v13
          have t19 : (va_up (va_up M8 19 ((M9 12 + (z k).natAbs) - u9)) 12 ((va_up M8 19 ((M9 12 + (z k).natAbs) - u9)) 13)) 19 = ((M9 12 + (z k).natAbs) - u9) := (va_up_ne _ _ (by decide)).trans (va_up_self _ _ _)
          have hmc : mI z (va_up (va_up (va_up M8 19 ((M9 12 + (z k).natAbs) - u9)) 12 ((va_up M8 19 ((M9 12 + (z k).natAbs) - u9)) 13)) 13 ((va_up (va_up M8 19 ((M9 12 + (z k).natAbs) - u9)) 12 ((va_up M8 19 ((M9 12 + (z k).natAbs) - u9)) 13)) 19)) (va_up (va_up (va_up Z8 19 (lnM ((M9 12 + (z k).natAbs) - u9))) 12 ((va_up Z8 19 (lnM ((M9 12 + (z k).natAbs) - u9))) 13)) 13 ((va_up (va_up Z8 19 (lnM ((M9 12 + (z k).natAbs) - u9))) 12 ((va_up Z8 19 (lnM ((M9 12 + (z k).natAbs) - u9))) 13)) 19)) G := ((hm8.out (by omega) (by omega)).out (by omega) (by rw [t13]; omega)).out (by omega) (by rw [t19]; omega)
          have o13 : (va_up (va_up (va_up M8 19 ((M9 12 + (z k).natAbs) - u9)) 12 ((va_up M8 19 ((M9 12 + (z k).natAbs) - u9)) 13)) 13 ((va_up (va_up M8 19 ((M9 12 + (z k).natAbs) - u9)) 12 ((va_up M8 19 ((M9 12 + (z k).natAbs) - u9)) 13)) 19)) 13 = ((M9 12 + (z k).natAbs) - u9) := (va_up_self _ _ _).trans t19
          have s13 : (va_up (va_up (va_up Z8 19 (lnM ((M9 12 + (z k).natAbs) - u9))) 12 ((va_up Z8 19 (lnM ((M9 12 + (z k).natAbs) - u9))) 13)) 13 ((va_up (va_up Z8 19 (lnM ((M9 12 + (z k).natAbs) - u9))) 12 ((va_up Z8 19 (lnM ((M9 12 + (z k).natAbs) - u9))) 13)) 19)) 13 = lnM ((va_up (va_up (va_up M8 19 ((M9 12 + (z k).natAbs) - u9)) 12 ((va_up M8 19 ((M9 12 + (z k).natAbs) - u9)) 13)) 13 ((va_up (va_up M8 19 ((M9 12 + (z k).natAbs) - u9)) 12 ((va_up M8 19 ((M9 12 + (z k).natAbs) - u9)) 13)) 19)) 13) := by rw [o13, va_up_self, va_up_ne _ _ (by decide), va_up_self]
          have o12 : (va_up (va_up (va_up M8 19 ((M9 12 + (z k).natAbs) - u9)) 12 ((va_up M8 19 ((M9 12 + (z k).natAbs) - u9)) 13)) 13 ((va_up (va_up M8 19 ((M9 12 + (z k).natAbs) - u9)) 12 ((va_up M8 19 ((M9 12 + (z k).natAbs) - u9)) 13)) 19)) 12 = M9 13 := (va_up_ne _ _ (by decide)).trans ((va_up_self _ _ _).trans t13)
          have s12 : (va_up (va_up (va_up Z8 19 (lnM ((M9 12 + (z k).natAbs) - u9))) 12 ((va_up Z8 19 (lnM ((M9 12 + (z k).natAbs) - u9))) 13)) 13 ((va_up (va_up Z8 19 (lnM ((M9 12 + (z k).natAbs) - u9))) 12 ((va_up Z8 19 (lnM ((M9 12 + (z k).natAbs) - u9))) 13)) 19)) 12 = lnM ((va_up (va_up (va_up M8 19 ((M9 12 + (z k).natAbs) - u9)) 12 ((va_up M8 19 ((M9 12 + (z k).natAbs) - u9)) 13)) 13 ((va_up (va_up M8 19 ((M9 12 + (z k).natAbs) - u9)) 12 ((va_up M8 19 ((M9 12 + (z k).natAbs) - u9)) 13)) 19)) 12) := by rw [o12, va_up_ne _ _ (by decide), va_up_self, va_up_ne _ _ (by decide), w13, v13]
          have o17 : (va_up (va_up (va_up M8 19 ((M9 12 + (z k).natAbs) - u9)) 12 ((va_up M8 19 ((M9 12 + (z k).natAbs) - u9)) 13)) 13 ((va_up (va_up M8 19 ((M9 12 + (z k).natAbs) - u9)) 12 ((va_up M8 19 ((M9 12 + (z k).natAbs) - u9)) 13)) 19)) 17 = M9 18 := ((va_up_ne _ _ (by decide)).trans ((va_up_ne _ _ (by decide)).trans (va_up_ne _ _ (by decide)))).trans v17
          have s17 : (va_up (va_up (va_up Z8 19 (lnM ((M9 12 + (z k).natAbs) - u9))) 12 ((va_up Z8 19 (lnM ((M9 12 + (z k).natAbs) - u9))) 13)) 13 ((va_up (va_up Z8 19 (lnM ((M9 12 + (z k).natAbs) - u9))) 12 ((va_up Z8 19 (lnM ((M9 12 + (z k).natAbs) - u9))) 13)) 19)) 17 = lnM ((va_up (va_up (va_up M8 19 ((M9 12 + (z k).natAbs) - u9)) 12 ((va_up M8 19 ((M9 12 + (z k).natAbs) - u9)) 13)) 13 ((va_up (va_up M8 19 ((M9 12 + (z k).natAbs) - u9)) 12 ((va_up M8 19 ((M9 12 + (z k).natAbs) - u9)) 13)) 19)) 17) := by rw [o17, va_up_ne _ _ (by decide), va_up_ne _ _ (by decide), va_up_ne _ _ (by decide), w17, v17]
          have o18 : (va_up (va_up (va_up M8 19 ((M9 12 + (z k).natAbs) - u9)) 12 ((va_up M8 19 ((M9 12 + (z k).natAbs) - u9)) 13)) 13 ((va_up (va_up M8 19 ((M9 12 + (z k).natAbs) - u9)) 12 ((va_up M8 19 ((M9 12 + (z k).natAbs) - u9)) 13)) 19)) 18 = r9 := ((va_up_ne _ _ (by decide)).trans ((va_up_ne _ _ (by decide)).trans (va_up_ne _ _ (by decide)))).trans v18
          have s18 : (va_up (va_up (va_up Z8 19 (lnM ((M9 12 + (z k).natAbs) - u9))) 12 ((va_up Z8 19 (lnM ((M9 12 + (z k).natAbs) - u9))) 13)) 13 ((va_up (va_up Z8 19 (lnM ((M9 12 + (z k).natAbs) - u9))) 12 ((va_up Z8 19 (lnM ((M9 12 + (z k).natAbs) - u9))) 13)) 19)) 18 = lnM ((va_up (va_up (va_up M8 19 ((M9 12 + (z k).natAbs) - u9)) 12 ((va_up M8 19 ((M9 12 + (z k).natAbs) - u9)) 13)) 13 ((va_up (va_up M8 19 ((M9 12 + (z k).natAbs) - u9)) 12 ((va_up M8 19 ((M9 12 + (z k).natAbs) - u9)) 13)) 19)) 18) := by rw [o18, va_up_ne _ _ (by decide), va_up_ne _ _ (by decide), va_up_ne _ _ (by decide), w18, v18]
          have key := iv_step (q := (q9 : Int)) (w := (w9 : Int)) (e := 1) hu hv
          have eD : ((((M9 12 + (z k).natAbs) - u9) : Nat) : Int) = (M9 12 : Int) + 1 * ((z k).natAbs : Int) - ((q9 : Int) * M9 13 - (z k).natAbs * w9) := by rw [← huS]; omega
          rw [← eD, ← hrS] at key
          refine lv_goto (tgt := 79) hx hb d_M_inverse_178 (by decide) ?_
          exact ihq r9 (by omega) (va_up (va_up (va_up M8 19 ((M9 12 + (z k).natAbs) - u9)) 12 ((va_up M8 19 ((M9 12 + (z k).natAbs) - u9)) 13)) 13 ((va_up (va_up M8 19 ((M9 12 + (z k).natAbs) - u9)) 12 ((va_up M8 19 ((M9 12 + (z k).natAbs) - u9)) 13)) 19)) (va_up (va_up (va_up Z8 19 (lnM ((M9 12 + (z k).natAbs) - u9))) 12 ((va_up Z8 19 (lnM ((M9 12 + (z k).natAbs) - u9))) 13)) 13 ((va_up (va_up Z8 19 (lnM ((M9 12 + (z k).natAbs) - u9))) 12 ((va_up Z8 19 (lnM ((M9 12 + (z k).natAbs) - u9))) 13)) 19)) ls _ _ o18 hmc (by rw [o17]; omega) (by rw [o18]; omega) s17 s18 s12 s13 (by rw [o17, o18, ← hre, Nat.gcd_comm, ← Nat.gcd_rec, Nat.gcd_comm]; exact h8) ⟨v, by rw [o12, o17]; exact hv⟩ ⟨_, by rw [o13, o18]; exact key⟩ (by rw [o12]; exact hy) (fun _ => by rw [o13]; omega) hl hw
  exact lp (M4 18) M4 Z4 ls _ _ rfl hm4 (by rw [a17]; exact Nat.le_refl _) (by rw [a18]; exact gl2) c17 c18 c12 c13 (by rw [a17, a18]) ⟨-1, by rw [a12, a17]; simp; omega⟩ ⟨0, by rw [a13, a18]; simp⟩ (by rw [a12]; omega) (fun q => by rw [a18] at q; rw [a13]; omega) hl hw
