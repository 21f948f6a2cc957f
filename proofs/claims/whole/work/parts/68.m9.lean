/-! the model: bitsOf, bitOf, raise, slide -/
theorem sl_lo (v i : Nat) : v % 2 ^ (i + 1) = v % 2 ^ i + 2 ^ i * (v / 2 ^ i % 2) := by rw [Nat.pow_succ, Nat.mod_mul]
def slX (n : Int) (w : Nat) : Nat := if 0 ≤ n then w * 2 ^ n.toNat else w / 2 ^ (-n).toNat
def slF (n : Int) (w : Nat) : Bool := decide (n < 0) && decide (w % 2 ^ (-n).toNat ≠ 0)
theorem slX_0 (n : Int) : slX n 0 = 0 := by unfold slX; split <;> simp
theorem slF_0 (n : Int) : slF n 0 = false := by unfold slF; simp
/-- a bit that falls -/
theorem sl_fall {n : Int} {w i : Nat} (hw : w < 2 ^ i) (h : (i : Int) + n < 0) : slX n (w + 2 ^ i) = slX n w ∧ slF n (w + 2 ^ i) = true := by
  have hn : n < 0 := by omega
  obtain ⟨k, hk⟩ : ∃ k : Nat, (-n).toNat = i + 1 + k := ⟨(-n).toNat - i - 1, by omega⟩
  have h1 : w + 2 ^ i < 2 ^ (i + 1 + k) := by
    have : 2 ^ (i + 1) ≤ 2 ^ (i + 1 + k) := Nat.pow_le_pow_right (by decide) (by omega)
    rw [Nat.pow_succ] at this; omega
  unfold slX slF
  rw [if_neg (by omega), if_neg (by omega), hk, Nat.div_eq_of_lt h1, Nat.div_eq_of_lt (by omega), Nat.mod_eq_of_lt h1, decide_eq_true hn]
  have := Nat.two_pow_pos i
  have h2 : w + 2 ^ i ≠ 0 := by omega
  rw [decide_eq_true h2]; exact ⟨rfl, rfl⟩
/-- a bit that is put -/
theorem sl_put {n : Int} {w i t : Nat} (hw : w < 2 ^ i) (h : (i : Int) + n = (t : Int)) : slX n (w + 2 ^ i) = slX n w + 2 ^ t ∧ slF n (w + 2 ^ i) = slF n w ∧ slX n w < 2 ^ t := by
  unfold slX slF
  by_cases hn : 0 ≤ n
  · rw [if_pos hn, if_pos hn, decide_eq_false (by omega)]
    obtain ⟨k, hk⟩ : ∃ k : Nat, n.toNat = k := ⟨_, rfl⟩
    have ht : t = i + k := by omega
    subst ht
    rw [hk, Nat.add_mul, ← Nat.pow_add]
    refine ⟨rfl, rfl, ?_⟩
    rw [Nat.pow_add]; exact Nat.mul_lt_mul_of_pos_right hw (Nat.two_pow_pos k)
  · rw [if_neg hn, if_neg hn]
    obtain ⟨k, hk⟩ : ∃ k : Nat, (-n).toNat = k := ⟨_, rfl⟩
    have ht : i = k + t := by omega
    subst ht
    have hp := Nat.two_pow_pos k
    have e : 2 ^ (k + t) = 2 ^ k * 2 ^ t := Nat.pow_add 2 k t
    rw [hk, e, Nat.add_mul_div_left _ _ hp, Nat.add_mul_mod_self_left]
    refine ⟨rfl, rfl, ?_⟩
    rw [e] at hw; exact Nat.div_lt_of_lt_mul hw
theorem sl_bit0 {w t : Nat} (h : w < 2 ^ t) : w / 2 ^ t % 2 = 0 := by rw [Nat.div_eq_of_lt h]
theorem sl_lim {n : Int} {w b : Nat} (hw : w < 2 ^ b) (h : (b : Int) + n ≤ 1024) (hb : b ≤ 1024) : slX n w < m1024 := by
  unfold slX
  split
  · refine mul2_lt hw ?_; omega
  · refine Nat.lt_of_le_of_lt (Nat.div_le_self _ _) (Nat.lt_of_lt_of_le hw ?_)
    exact Nat.pow_le_pow_right (by decide) hb

set_option maxRecDepth 100000 in
set_option maxHeartbeats 4000000 in
theorem k_M_bitsOf (l : Launch) (T : wT) (F : wFt) (U K : wUt) (I : wIt) (O : wOt) (M Z : Nat → Nat) (G : Nat → Int32) (a : Nat) (ha9 : a < 20) (hza : Z a = lnM (M a)) (hfa : M a < m1024) : Met l y_M_bitsOf (.code y_M_bitsOf c_M_bitsOf 4 (some .int) :: bg) ({ frames := 0, cells := 0, slots := 0, locals := 0 } : Room) (mP T F U K (gI I (dgm M) Z G) O [.ref (wa T 91), .int (nI a)]) (mQi T (nI (bl (M a))) F U K (gI I (dgm M) Z G) O) 0 0 (wA T) := by
  refine wM_i (by decide) (Nat.le_of_ble_eq_true rfl) ?_
  intro p e R s m args below meth c Q ls hx hb hC hRf hRl hret hl hw
  have hRf : 0 ≤ R.frames := hRf
  have hRl : 0 ≤ R.locals := hRl
  have hl : lv_has ls 4 [(0, .ref (wa T 91)), (1, .int (nI a))] := hl
  have la := ln52 hfa
  have lz := lnM_z (mM_of hfa)
  refine lv_aload_n hx hb d_M_bitsOf_0 rfl (lv_at hl 0 rfl) ?_
  refine wg_Model_size hx hb hC hw bw_819 d_M_bitsOf_1 ?_
  refine lv_iload_n hx hb d_M_bitsOf_4 rfl (lv_at hl 1 rfl) ?_
  refine wl_msize hx hb hw (by omega) d_M_bitsOf_5 ?_
  refine sw_i (y := nI (lnM (M a))) (congrArg nI hza) ?_
  refine n_if_ne (tgt := 11) hx hb d_M_bitsOf_6 (by decide) (by omega) (fun h0 => ?_) (fun h0 => ?_)
  · have hbb := bl_20 hfa h0
    have hdx := dgm_lt (M a) (lnM (M a) - 1)
    refine lv_bipush (v := nI 20) hx hb d_M_bitsOf_11 (by decide +kernel) ?_
    refine lv_aload_n hx hb d_M_bitsOf_13 rfl (lv_at hl 0 rfl) ?_
    refine wg_Model_size hx hb hC hw bw_819 d_M_bitsOf_14 ?_
    refine lv_iload_n hx hb d_M_bitsOf_17 rfl (lv_at hl 1 rfl) ?_
    refine wl_msize hx hb hw (by omega) d_M_bitsOf_18 ?_
    refine sw_i (y := nI (lnM (M a))) (congrArg nI hza) ?_
    refine lv_iconst (v := nI 1) hx hb d_M_bitsOf_19 (by decide +kernel) ?_
    refine n_isub hx hb d_M_bitsOf_20 (by omega) ?_
    refine n_imul hx hb d_M_bitsOf_21 ?_
    refine lv_istore_n hx hb d_M_bitsOf_22 rfl hl (by decide) rfl (fun ls hl => ?_)
    have hl : lv_has ls 4 [(2, .int (nI (20 * ((lnM (M a)) - 1)))), (0, .ref (wa T 91)), (1, .int (nI a))] := hl
    refine lv_aload_n hx hb d_M_bitsOf_23 rfl (lv_at hl 1 rfl) ?_
    refine wg_Model_d hx hb hC hw bw_818 d_M_bitsOf_24 ?_
    refine lv_bipush (v := nI 108) hx hb d_M_bitsOf_27 (by decide +kernel) ?_
    refine lv_iload_n hx hb d_M_bitsOf_29 rfl (lv_at hl 2 rfl) ?_
    refine n_imul hx hb d_M_bitsOf_30 ?_
    refine lv_aload_n hx hb d_M_bitsOf_31 rfl (lv_at hl 1 rfl) ?_
    refine wg_Model_size hx hb hC hw bw_819 d_M_bitsOf_32 ?_
    refine lv_iload_n hx hb d_M_bitsOf_35 rfl (lv_at hl 2 rfl) ?_
    refine wl_msize hx hb hw (by omega) d_M_bitsOf_36 ?_
    refine sw_i (y := nI (lnM (M a))) (congrArg nI hza) ?_
    refine n_iadd hx hb d_M_bitsOf_37 ?_
    refine lv_iconst (v := nI 1) hx hb d_M_bitsOf_38 (by decide +kernel) ?_
    refine n_isub hx hb d_M_bitsOf_39 (by omega) ?_
    refine sw_i (y := nI (108 * a + (lnM (M a) - 1))) (by rw [show 108 * a + lnM (M a) - 1 = 108 * a + (lnM (M a) - 1) by omega]) ?_
    refine wl_md hx hb hw (by omega) d_M_bitsOf_40 ?_
    refine sw_i (y := nI (dg (M a) (lnM (M a) - 1))) (gI_d (s := a) (i := (lnM (M a) - 1)) (by omega)) ?_
    refine lv_istore_n hx hb d_M_bitsOf_41 rfl hl (by decide) rfl (fun ls hl => ?_)
    have hl : lv_has ls 4 [(3, .int (nI (dg (M a) (lnM (M a) - 1)))), (2, .int (nI (20 * ((lnM (M a)) - 1)))), (0, .ref (wa T 91)), (1, .int (nI a))] := hl
    have lp : ∀ (q n9 : Nat) (ls : Array Slot) (H : Heap) (locs : List Loc), q < 1048576 → n9 + bl q = bl (M a) → lv_has ls 4 [(3, .int (nI q)), (2, .int (nI n9)), (0, .ref (wa T 91)), (1, .int (nI a))] → wH T F U K (gI I (dgm M) Z G) O (wA T) s s.heap H locs → W p l e R s m args below meth c H locs 0 0 Q (F0 m 42 ls []) := by
      intro q
      induction q using Nat.strongRecOn with
      | ind q ihq =>
        intro n9 ls H locs hq hn hl hw
        have hl : lv_has ls 4 [(3, .int (nI q)), (2, .int (nI n9)), (0, .ref (wa T 91)), (1, .int (nI a))] := hl
        refine lv_iload_n hx hb d_M_bitsOf_42 rfl (lv_at hl 0 rfl) ?_
        refine n_if_le (tgt := 56) hx hb d_M_bitsOf_43 (by decide) (by omega) (fun h1 => ?_) (fun h1 => ?_)
        · rw [h1, bl_0, Nat.add_zero] at hn
          refine lv_iload_n hx hb d_M_bitsOf_56 rfl (lv_at hl 1 rfl) ?_
          rw [← hn] at hret
          exact hret _ _ _ _ hw d_M_bitsOf_57
        · refine lv_iinc (v := nI (n9 + 1)) hx hb d_M_bitsOf_46 hl (k := 1) rfl (nI_add _ 1) (by decide) rfl (fun ls hl => ?_)
          have hl : lv_has ls 4 [(2, .int (nI (n9 + 1))), (3, .int (nI q)), (0, .ref (wa T 91)), (1, .int (nI a))] := hl
          refine lv_iload_n hx hb d_M_bitsOf_49 rfl (lv_at hl 1 rfl) ?_
          refine lv_iconst (v := nI 1) hx hb d_M_bitsOf_50 (by decide +kernel) ?_
          refine lv_ishr hx hb d_M_bitsOf_51 ?_
          refine sw_i (y := nI (q / 2)) (by rw [ij_shrN (by omega) (by decide), Nat.pow_one]) ?_
          refine lv_istore_n hx hb d_M_bitsOf_52 rfl hl (by decide) rfl (fun ls hl => ?_)
          have hl : lv_has ls 4 [(3, .int (nI (q / 2))), (2, .int (nI (n9 + 1))), (0, .ref (wa T 91)), (1, .int (nI a))] := hl
          refine lv_goto (tgt := 42) hx hb d_M_bitsOf_53 (by decide) ?_
          exact ihq (q / 2) (by omega) (n9 + 1) ls H locs (by omega) (by rw [bl_half h1 (Nat.lt_of_lt_of_le hq (Nat.le_trans (by decide) (Nat.le_trans (Nat.pow_le_pow_right (by decide) (by decide) : 2 ^ 20 ≤ m1024) m1024_lim)))] at hn; omega) hl hw
    exact lp (dg (M a) (lnM (M a) - 1)) (20 * (lnM (M a) - 1)) ls _ _ hdx hbb.symm hl hw
  · have hv := lz.mp h0
    refine lv_iconst (v := nI 0) hx hb d_M_bitsOf_9 (by decide +kernel) ?_
    rw [hv, bl_0] at hret
    exact hret _ _ _ _ hw d_M_bitsOf_10
set_option maxRecDepth 100000 in
set_option maxHeartbeats 4000000 in
theorem k_M_bitOf (l : Launch) (T : wT) (F : wFt) (U K : wUt) (I : wIt) (O : wOt) (M Z : Nat → Nat) (G : Nat → Int32) (a i : Nat) (ha9 : a < 20) (hma : M a < mM) (hi : i < 2147483648) : Met l y_M_bitOf (.code y_M_bitOf c_M_bitOf 3 (some .boolean) :: bg) ({ frames := 0, cells := 0, slots := 0, locals := 0 } : Room) (mP T F U K (gI I (dgm M) Z G) O [.ref (wa T 91), .int (nI a), .int (nI i)]) (mQi T (bI ((M a).testBit i)) F U K (gI I (dgm M) Z G) O) 0 0 (wA T) := by
  refine wM_z (by decide) (Nat.le_of_ble_eq_true rfl) (zbI _) ?_
  intro p e R s m args below meth c Q ls hx hb hC hRf hRl hret hl hw
  have hRf : 0 ≤ R.frames := hRf
  have hRl : 0 ≤ R.locals := hRl
  have hl : lv_has ls 3 [(0, .ref (wa T 91)), (1, .int (nI a)), (2, .int (nI i))] := hl
  have hd := dgm_lt (M a) (i / 20)
  refine lv_iload_n hx hb d_M_bitOf_0 rfl (lv_at hl 2 rfl) ?_
  refine lv_bipush (v := nI 20) hx hb d_M_bitOf_1 (by decide +kernel) ?_
  refine n_idiv hx hb d_M_bitOf_3 (by omega) (by omega) (by omega) ?_
  refine lv_bipush (v := nI 108) hx hb d_M_bitOf_4 (by decide +kernel) ?_
  refine n_icmp_ge (tgt := 38) hx hb d_M_bitOf_6 (by decide) (by omega) (by omega) (fun h0 => ?_) (fun h0 => ?_)
  · refine lv_iconst (v := nI 0) hx hb d_M_bitOf_38 (by decide +kernel) ?_
    have h9 : bI ((M a).testBit i) = nI 0 := by rw [tb_big hma (by omega)]; rfl
    rw [h9] at hret
    exact hret _ _ _ _ hw d_M_bitOf_39
  · refine lv_aload_n hx hb d_M_bitOf_9 rfl (lv_at hl 0 rfl) ?_
    refine wg_Model_d hx hb hC hw bw_818 d_M_bitOf_10 ?_
    refine lv_bipush (v := nI 108) hx hb d_M_bitOf_13 (by decide +kernel) ?_
    refine lv_iload_n hx hb d_M_bitOf_15 rfl (lv_at hl 1 rfl) ?_
    refine n_imul hx hb d_M_bitOf_16 ?_
    refine lv_iload_n hx hb d_M_bitOf_17 rfl (lv_at hl 2 rfl) ?_
    refine lv_bipush (v := nI 20) hx hb d_M_bitOf_18 (by decide +kernel) ?_
    refine n_idiv hx hb d_M_bitOf_20 (by omega) (by omega) (by omega) ?_
    refine n_iadd hx hb d_M_bitOf_21 ?_
    refine wl_md hx hb hw (by omega) d_M_bitOf_22 ?_
    refine sw_i (y := nI (dg (M a) (i / 20))) (gI_d (s := a) (i := (i / 20)) (by omega)) ?_
    refine lv_iload_n hx hb d_M_bitOf_23 rfl (lv_at hl 2 rfl) ?_
    refine lv_bipush (v := nI 20) hx hb d_M_bitOf_24 (by decide +kernel) ?_
    refine n_irem hx hb d_M_bitOf_26 (by omega) (by omega) (by omega) ?_
    refine lv_ishr hx hb d_M_bitOf_27 ?_
    refine sw_i (y := nI (dg (M a) (i / 20) / 2 ^ (i % 20))) (ij_shrN (by omega) (by omega)) ?_
    have hq : dg (M a) (i / 20) / 2 ^ (i % 20) ≤ dg (M a) (i / 20) := Nat.div_le_self _ _
    refine lv_iconst (v := nI 1) hx hb d_M_bitOf_28 (by decide +kernel) ?_
    refine lv_iand hx hb d_M_bitOf_29 ?_
    refine sw_i (y := nI (M a / 2 ^ i % 2)) (by rw [ij_and1 (by omega), tb_dg]) ?_
    refine lv_iconst (v := nI 1) hx hb d_M_bitOf_30 (by decide +kernel) ?_
    refine n_icmp_ne (tgt := 38) hx hb d_M_bitOf_31 (by decide) (by omega) (by omega) (fun h1 => ?_) (fun h1 => ?_)
    · refine lv_iconst (v := nI 0) hx hb d_M_bitOf_38 (by decide +kernel) ?_
      have h9 : bI ((M a).testBit i) = nI 0 := by rw [tb_iff, decide_eq_false h1]; rfl
      rw [h9] at hret
      exact hret _ _ _ _ hw d_M_bitOf_39
    · refine lv_iconst (v := nI 1) hx hb d_M_bitOf_34 (by decide +kernel) ?_
      refine lv_goto (tgt := 39) hx hb d_M_bitOf_35 (by decide) ?_
      have h9 : bI ((M a).testBit i) = nI 1 := by rw [tb_iff, decide_eq_true h1]; rfl
      rw [h9] at hret
      exact hret _ _ _ _ hw d_M_bitOf_39
set_option maxRecDepth 100000 in
set_option maxHeartbeats 4000000 in
theorem k_M_raise (l : Launch) (T : wT) (F : wFt) (U K : wUt) (I : wIt) (O : wOt) (M Z : Nat → Nat) (G : Nat → Int32) (a i : Nat) (ha9 : a < 20) (hi : i < 2160) (h0 : M a / 2 ^ i % 2 = 0) : Met l y_M_raise (.code y_M_raise c_M_raise 3 none :: bg) ({ frames := 0, cells := 0, slots := 0, locals := 0 } : Room) (mP T F U K (gI I (dgm M) Z G) O [.ref (wa T 91), .int (nI a), .int (nI i)]) (mQv T F U K (gI I (dgm (va_up M a (M a + 2 ^ i))) Z G) O) 0 0 (wA T) := by
  refine wM_v (by decide) (Nat.le_of_ble_eq_true rfl) ?_
  intro p e R s m args below meth c Q ls hx hb hC hRf hRl hret hl hw
  have hRf : 0 ≤ R.frames := hRf
  have hRl : 0 ≤ R.locals := hRl
  have hl : lv_has ls 3 [(0, .ref (wa T 91)), (1, .int (nI a)), (2, .int (nI i))] := hl
  have hd := dgm_lt (M a) (i / 20)
  have hbb := or_bit hd (Nat.mod_lt i (by decide)) (by rw [tb_dg]; exact h0)
  refine lv_aload_n hx hb d_M_raise_0 rfl (lv_at hl 0 rfl) ?_
  refine wg_Model_d hx hb hC hw bw_818 d_M_raise_1 ?_
  refine lv_bipush (v := nI 108) hx hb d_M_raise_4 (by decide +kernel) ?_
  refine lv_iload_n hx hb d_M_raise_6 rfl (lv_at hl 1 rfl) ?_
  refine n_imul hx hb d_M_raise_7 ?_
  refine lv_iload_n hx hb d_M_raise_8 rfl (lv_at hl 2 rfl) ?_
  refine lv_bipush (v := nI 20) hx hb d_M_raise_9 (by decide +kernel) ?_
  refine n_idiv hx hb d_M_raise_11 (by omega) (by omega) (by omega) ?_
  refine n_iadd hx hb d_M_raise_12 ?_
  refine lv_dup2_11 hx hb d_M_raise_13 rfl rfl ?_
  refine wl_md hx hb hw (by omega) d_M_raise_14 ?_
  refine sw_i (y := nI (dg (M a) (i / 20))) (gI_d (s := a) (i := (i / 20)) (by omega)) ?_
  refine lv_iconst (v := nI 1) hx hb d_M_raise_15 (by decide +kernel) ?_
  refine lv_iload_n hx hb d_M_raise_16 rfl (lv_at hl 2 rfl) ?_
  refine lv_bipush (v := nI 20) hx hb d_M_raise_17 (by decide +kernel) ?_
  refine n_irem hx hb d_M_raise_19 (by omega) (by omega) (by omega) ?_
  refine lv_ishl hx hb d_M_raise_20 ?_
  refine lv_ior hx hb d_M_raise_21 ?_
  refine sw_i (y := nI (dg (M a) (i / 20) + 2 ^ (i % 20))) (hbb.1) ?_
  refine ws_md hx hb hw (by omega) d_M_raise_22 (fun H locs hw => ?_)
  rw [show (va_up (gI I (dgm M) Z G) 1 (upd ((gI I (dgm M) Z G) 1) ((108 * a) + (i / 20)) (nI (dg (M a) (i / 20) + 2 ^ (i % 20))))) = (gI I (va_up (dgm M) a (va_up ((dgm M) a) (i / 20) (dg (M a) (i / 20) + 2 ^ (i % 20)))) Z G) from gI_sd (s := a) (i := (i / 20)) (by omega)] at hw
  rw [dgm_sD hbb.2, ra_eq h0] at hw
  exact hret _ _ _ _ hw d_M_raise_23
set_option maxRecDepth 100000 in
set_option maxHeartbeats 4000000 in
theorem k_M_slide (l : Launch) (T : wT) (F : wFt) (U K : wUt) (I : wIt) (O : wOt) (M Z : Nat → Nat) (G : Nat → Int32) (a : Nat) (n : Int32) (ha9 : a < 12) (hza : Z a = lnM (M a)) (hfa : M a < m1024) (hbn9 : M a ≠ 0 → (bl (M a) : Int) + n.toInt ≤ 1024) : Met l y_M_slide (.code y_M_slide c_M_slide 7 (some .boolean) :: bg) ({ frames := 1, cells := 0, slots := 0, locals := 23 } : Room) (mP T F U K (gI I (dgm M) Z G) O [.ref (wa T 91), .int (nI a), .int n]) (mQi T (bI (slF n.toInt (M a))) F U K (gI I (dgm (va_up M 12 (slX n.toInt (M a)))) (va_up Z 12 (lnM (slX n.toInt (M a)))) G) O) 0 0 (wA T) := by
  refine wM_z (by decide) (Nat.le_of_ble_eq_true rfl) (zbI _) ?_
  intro p e R s m args below meth c Q ls hx hb hC hRf hRl hret hl hw
  have hRf : 1 ≤ R.frames := hRf
  have hRl : 23 ≤ R.locals := hRl
  have hl : lv_has ls 7 [(0, .ref (wa T 91)), (1, .int (nI a)), (2, .int n)] := hl
  have hvL : M a < vLim := Nat.lt_of_lt_of_le hfa m1024_lim
  have hbl := bl_lt hvL
  have hb2 : bl (M a) ≤ 1024 := bl_mono hfa
  have hn1 := n.toInt_lt
  have hn2 := n.le_toInt
  refine lv_aload_n hx hb d_M_slide_0 rfl (lv_at hl 0 rfl) ?_
  refine lv_bipush (v := nI 12) hx hb d_M_slide_1 (by decide +kernel) ?_
  refine wcV_v (As := [.int (nI 12)]) hx hb hC hw (k_M_clear l T F U K I O M Z G 12 (by omega)) lk_M_26 rfl rfl ⟨by show 0 + 1 ≤ R.frames; omega, by show 8 + (3 + 11) + 0 ≤ R.locals; omega⟩ (by omega) (we_Model ) rfl rfl hl.1 rfl (Nat.le_of_ble_eq_true rfl) ⟨Nat.zero_le _, Nat.zero_le _⟩ d_M_slide_3 (fun H locs hw => ?_)
  refine lv_iconst (v := nI 0) hx hb d_M_slide_6 (by decide +kernel) ?_
  refine lv_istore_n hx hb d_M_slide_7 rfl hl (by decide) rfl (fun ls hl => ?_)
  have hl : lv_has ls 7 [(3, .int (nI 0)), (0, .ref (wa T 91)), (1, .int (nI a)), (2, .int n)] := hl
  refine lv_iconst (v := nI 0) hx hb d_M_slide_8 (by decide +kernel) ?_
  refine lv_istore hx hb d_M_slide_9 hl (by decide) rfl (fun ls hl => ?_)
  have hl : lv_has ls 7 [(4, .int (nI 0)), (3, .int (nI 0)), (0, .ref (wa T 91)), (1, .int (nI a)), (2, .int n)] := hl
  rw [show va_up M 12 0 = (va_up M 12 (slX n.toInt (M a % 2 ^ 0))) from by rw [Nat.pow_zero, Nat.mod_one, slX_0]] at hw
  have efl : nI 0 = (bI (slF n.toInt (M a % 2 ^ 0))) := by rw [Nat.pow_zero, Nat.mod_one, slF_0]; rfl
  have hl : lv_has ls 7 [(4, .int (nI 0)), (3, .int (bI (slF n.toInt (M a % 2 ^ 0)))), (0, .ref (wa T 91)), (1, .int (nI a)), (2, .int n)] := by rw [← efl]; exact hl
  have lp : ∀ (z9 i : Nat) (ls : Array Slot) (H : Heap) (locs : List Loc), bl (M a) - i = z9 → i ≤ bl (M a) → lv_has ls 7 [(4, .int (nI i)), (3, .int (bI (slF n.toInt (M a % 2 ^ i)))), (0, .ref (wa T 91)), (1, .int (nI a)), (2, .int n)] → wH T F U K (gI I (dgm (va_up M 12 (slX n.toInt (M a % 2 ^ i)))) (va_up Z 12 0) G) O (wA T) s s.heap H locs → W p l e R s m args below meth c H locs 0 0 Q (F0 m 11 ls []) := by
    intro z9
    induction z9 with
    | zero =>
      intro i ls H locs hz9 hle hl hw
      have hl : lv_has ls 7 [(4, .int (nI i)), (3, .int (bI (slF n.toInt (M a % 2 ^ i)))), (0, .ref (wa T 91)), (1, .int (nI a)), (2, .int n)] := hl
      have ea : (va_up M 12 (slX n.toInt (M a % 2 ^ i))) a = M a := va_up_ne _ _ (by omega)
      have eza : va_up Z 12 0 a = Z a := va_up_ne _ _ (by omega)
      refine lv_iload hx hb d_M_slide_11 (lv_at hl 0 rfl) ?_
      refine lv_aload_n hx hb d_M_slide_13 rfl (lv_at hl 2 rfl) ?_
      refine lv_iload_n hx hb d_M_slide_14 rfl (lv_at hl 3 rfl) ?_
      refine wcV_i (As := [.int (nI a)]) hx hb hC hw (k_M_bitsOf l T F U K I O (va_up M 12 (slX n.toInt (M a % 2 ^ i))) (va_up Z 12 0) G a (by omega) (by rw [ea, eza]; exact hza) (by rw [ea]; exact hfa)) lk_M_96 rfl rfl ⟨by show 0 + 1 ≤ R.frames; omega, by show 8 + (4 + 11) + 0 ≤ R.locals; omega⟩ (by omega) (we_Model ) rfl rfl hl.1 rfl (Nat.le_of_ble_eq_true rfl) ⟨Nat.zero_le _, Nat.zero_le _⟩ d_M_slide_15 (fun H locs hw => ?_)
      refine sw_i (y := nI (bl (M a))) (by rw [ea]) ?_
      refine n_icmp_ge (tgt := 78) hx hb d_M_slide_18 (by decide) (by omega) (by omega) (fun h0 => ?_) (fun h0 => ?_)
      · have hi : M a % 2 ^ i = M a := Nat.mod_eq_of_lt (by rw [show i = bl (M a) by omega]; exact hbl)
        rw [hi] at hl hw
        have hl : lv_has ls 7 [(4, .int (nI i)), (3, .int (bI (slF n.toInt (M a)))), (0, .ref (wa T 91)), (1, .int (nI a)), (2, .int n)] := hl
        have hxl : slX n.toInt (M a) < mM := by
                  by_cases q : M a = 0
                  · rw [q, slX_0]; exact b20_pp 108
                  · exact mM_of (sl_lim hbl (hbn9 q) hb2)
        refine lv_aload_n hx hb d_M_slide_78 rfl (lv_at hl 2 rfl) ?_
        refine lv_bipush (v := nI 12) hx hb d_M_slide_79 (by decide +kernel) ?_
        refine wcV_v (As := [.int (nI 12)]) hx hb hC hw (k_M_trim l T F U K I O (va_up M 12 (slX n.toInt (M a))) (va_up Z 12 0) G 12 (by omega) (by rw [va_up_self]; exact hxl)) lk_M_30 rfl rfl ⟨by show 0 + 1 ≤ R.frames; omega, by show 8 + (3 + 11) + 0 ≤ R.locals; omega⟩ (by omega) (we_Model ) rfl rfl hl.1 rfl (Nat.le_of_ble_eq_true rfl) ⟨Nat.zero_le _, Nat.zero_le _⟩ d_M_slide_81 (fun H locs hw => ?_)
        rw [va_v2, va_up_self] at hw
        refine lv_iload_n hx hb d_M_slide_84 rfl (lv_at hl 1 rfl) ?_
        exact hret _ _ _ _ hw d_M_slide_85
      · exact absurd h0 (by omega)
    | succ z9 ih =>
      intro i ls H locs hz9 hle hl hw
      have hl : lv_has ls 7 [(4, .int (nI i)), (3, .int (bI (slF n.toInt (M a % 2 ^ i)))), (0, .ref (wa T 91)), (1, .int (nI a)), (2, .int n)] := hl
      have ea : (va_up M 12 (slX n.toInt (M a % 2 ^ i))) a = M a := va_up_ne _ _ (by omega)
      have eza : va_up Z 12 0 a = Z a := va_up_ne _ _ (by omega)
      refine lv_iload hx hb d_M_slide_11 (lv_at hl 0 rfl) ?_
      refine lv_aload_n hx hb d_M_slide_13 rfl (lv_at hl 2 rfl) ?_
      refine lv_iload_n hx hb d_M_slide_14 rfl (lv_at hl 3 rfl) ?_
      refine wcV_i (As := [.int (nI a)]) hx hb hC hw (k_M_bitsOf l T F U K I O (va_up M 12 (slX n.toInt (M a % 2 ^ i))) (va_up Z 12 0) G a (by omega) (by rw [ea, eza]; exact hza) (by rw [ea]; exact hfa)) lk_M_96 rfl rfl ⟨by show 0 + 1 ≤ R.frames; omega, by show 8 + (4 + 11) + 0 ≤ R.locals; omega⟩ (by omega) (we_Model ) rfl rfl hl.1 rfl (Nat.le_of_ble_eq_true rfl) ⟨Nat.zero_le _, Nat.zero_le _⟩ d_M_slide_15 (fun H locs hw => ?_)
      refine sw_i (y := nI (bl (M a))) (by rw [ea]) ?_
      refine n_icmp_ge (tgt := 78) hx hb d_M_slide_18 (by decide) (by omega) (by omega) (fun h0 => ?_) (fun h0 => ?_)
      · exact absurd h0 (by omega)
      · have hMne : M a ≠ 0 := fun q => by rw [q, bl_0] at h0; omega
        have hbn := hbn9 hMne
        have elo := sl_lo (M a) i
        have hlo := Nat.mod_lt (M a) (Nat.two_pow_pos i)
        refine lv_iload hx hb d_M_slide_21 (lv_at hl 0 rfl) ?_
        refine lv_i2l hx hb d_M_slide_23 rfl ?_
        refine lv_iload_n hx hb d_M_slide_24 rfl (lv_at hl 4 rfl) ?_
        refine lv_i2l hx hb d_M_slide_25 rfl ?_
        refine lv_ladd hx hb d_M_slide_26 ?_
        have eto : ((nI i).toInt64 + (n).toInt64) = Int64.ofInt ((i : Int) + n.toInt) := lj_inj (by rw [lj_add (by rw [nI_l (by omega), lj_lN (by omega), Int32.toInt_toInt64]; omega) (by rw [nI_l (by omega), lj_lN (by omega), Int32.toInt_toInt64]; omega), nI_l (by omega), lj_lN (by omega), Int32.toInt_toInt64, Int64.toInt_ofInt_of_le (by omega) (by omega)])
        have hto : (Int64.ofInt ((i : Int) + n.toInt)).toInt = (i : Int) + n.toInt := Int64.toInt_ofInt_of_le (by omega) (by omega)
        refine sw_l (y := (Int64.ofInt ((i : Int) + n.toInt))) (eto) ?_
        generalize Int64.ofInt ((i : Int) + n.toInt) = t9 at *
        refine lv_lstore hx hb d_M_slide_27 hl (by decide) rfl (fun ls hl => ?_)
        have hl : lv_has ls 7 [(5, .long t9), (4, .int (nI i)), (3, .int (bI (slF n.toInt (M a % 2 ^ i)))), (0, .ref (wa T 91)), (1, .int (nI a)), (2, .int n)] := hl
        refine lv_aload_n hx hb d_M_slide_29 rfl (lv_at hl 3 rfl) ?_
        refine lv_iload_n hx hb d_M_slide_30 rfl (lv_at hl 4 rfl) ?_
        refine lv_iload hx hb d_M_slide_31 (lv_at hl 1 rfl) ?_
        refine wcV_z (As := [.int (nI a), .int (nI i)]) hx hb hC hw (k_M_bitOf l T F U K I O (va_up M 12 (slX n.toInt (M a % 2 ^ i))) (va_up Z 12 0) G a i (by omega) (by rw [ea]; exact mM_of hfa) (by omega)) lk_M_100 rfl rfl ⟨by show 0 + 1 ≤ R.frames; omega, by show 8 + (3 + 11) + 0 ≤ R.locals; omega⟩ (by omega) (we_Model ) rfl rfl hl.1 rfl (Nat.le_of_ble_eq_true rfl) ⟨Nat.zero_le _, Nat.zero_le _⟩ d_M_slide_33 (fun H locs hw => ?_)
        refine sw_i (y := (bI ((M a).testBit i))) (by rw [ea]) ?_
        by_cases hbt : M a / 2 ^ i % 2 = 1
        · refine sw_i (y := nI 1) (by rw [tb_iff, decide_eq_true hbt]; rfl) ?_
          refine n_if_eq (tgt := 72) hx hb d_M_slide_36 (by decide) (by omega) (fun hw9 => absurd hw9 (by decide)) (fun hw9 => ?_)
          rw [hbt, Nat.mul_one] at elo
          by_cases hneg : (i : Int) + n.toInt < 0
          · have hf := sl_fall hlo hneg
            rw [← elo] at hf
            refine lv_iload_n hx hb d_M_slide_39 rfl (lv_at hl 2 rfl) ?_
            refine lv_if_ne (tgt := 50) hx hb d_M_slide_40 (by decide) (fun hfl => ?_) (fun hfl => ?_)
            · refine lv_iconst (v := nI 1) hx hb d_M_slide_50 (by decide +kernel) ?_
              refine lv_goto (tgt := 55) hx hb d_M_slide_51 (by decide) ?_
              refine sw_i (y := (bI (slF n.toInt (M a % 2 ^ (i + 1))))) (by rw [hf.2]; rfl) ?_
              refine lv_istore_n hx hb d_M_slide_55 rfl hl (by decide) rfl (fun ls hl => ?_)
              have hl : lv_has ls 7 [(3, .int (bI (slF n.toInt (M a % 2 ^ (i + 1))))), (5, .long t9), (4, .int (nI i)), (0, .ref (wa T 91)), (1, .int (nI a)), (2, .int n)] := hl
              refine lv_lload hx hb d_M_slide_56 (lv_at hl 1 rfl) ?_
              refine lv_lconst (v := 0) hx hb d_M_slide_58 (by decide +kernel) ?_
              refine lc_lt (tgt := 72) hx hb d_M_slide_59 d_M_slide_60 (by decide) (fun h5 => ?_) (fun h5 => ?_)
              · rw [← hf.1] at hw
                refine lv_iinc (v := nI (i + 1)) hx hb d_M_slide_72 hl (k := 2) rfl (nI_add _ 1) (by decide) rfl (fun ls hl => ?_)
                have hl : lv_has ls 7 [(4, .int (nI (i + 1))), (3, .int (bI (slF n.toInt (M a % 2 ^ (i + 1))))), (5, .long t9), (0, .ref (wa T 91)), (1, .int (nI a)), (2, .int n)] := hl
                refine lv_goto (tgt := 11) hx hb d_M_slide_75 (by decide) ?_
                have hl := lv_sub hl [0, 1, 3, 4, 5] rfl
                have hl : lv_has ls 7 [(4, .int (nI (i + 1))), (3, .int (bI (slF n.toInt (M a % 2 ^ (i + 1))))), (0, .ref (wa T 91)), (1, .int (nI a)), (2, .int n)] := hl
                exact ih (i + 1) ls _ _ (by omega) (by omega) hl hw
              · exact absurd h5 (by rw [hto, lj_0]; omega)
            · refine lv_lload hx hb d_M_slide_43 (lv_at hl 0 rfl) ?_
              refine lv_lconst (v := 0) hx hb d_M_slide_45 (by decide +kernel) ?_
              refine lc_ge (tgt := 54) hx hb d_M_slide_46 d_M_slide_47 (by decide) (fun h6 => ?_) (fun h6 => ?_)
              · exact absurd h6 (by rw [hto, lj_0]; omega)
              · refine lv_iconst (v := nI 1) hx hb d_M_slide_50 (by decide +kernel) ?_
                refine lv_goto (tgt := 55) hx hb d_M_slide_51 (by decide) ?_
                refine sw_i (y := (bI (slF n.toInt (M a % 2 ^ (i + 1))))) (by rw [hf.2]; rfl) ?_
                refine lv_istore_n hx hb d_M_slide_55 rfl hl (by decide) rfl (fun ls hl => ?_)
                have hl : lv_has ls 7 [(3, .int (bI (slF n.toInt (M a % 2 ^ (i + 1))))), (5, .long t9), (4, .int (nI i)), (0, .ref (wa T 91)), (1, .int (nI a)), (2, .int n)] := hl
                refine lv_lload hx hb d_M_slide_56 (lv_at hl 1 rfl) ?_
                refine lv_lconst (v := 0) hx hb d_M_slide_58 (by decide +kernel) ?_
                refine lc_lt (tgt := 72) hx hb d_M_slide_59 d_M_slide_60 (by decide) (fun h5 => ?_) (fun h5 => ?_)
                · rw [← hf.1] at hw
                  refine lv_iinc (v := nI (i + 1)) hx hb d_M_slide_72 hl (k := 2) rfl (nI_add _ 1) (by decide) rfl (fun ls hl => ?_)
                  have hl : lv_has ls 7 [(4, .int (nI (i + 1))), (3, .int (bI (slF n.toInt (M a % 2 ^ (i + 1))))), (5, .long t9), (0, .ref (wa T 91)), (1, .int (nI a)), (2, .int n)] := hl
                  refine lv_goto (tgt := 11) hx hb d_M_slide_75 (by decide) ?_
                  have hl := lv_sub hl [0, 1, 3, 4, 5] rfl
                  have hl : lv_has ls 7 [(4, .int (nI (i + 1))), (3, .int (bI (slF n.toInt (M a % 2 ^ (i + 1))))), (0, .ref (wa T 91)), (1, .int (nI a)), (2, .int n)] := hl
                  exact ih (i + 1) ls _ _ (by omega) (by omega) hl hw
                · exact absurd h5 (by rw [hto, lj_0]; omega)
          · obtain ⟨t, ht⟩ : ∃ t : Nat, (i : Int) + n.toInt = (t : Int) := ⟨((i : Int) + n.toInt).toNat, by omega⟩
            have hp := sl_put hlo ht
            rw [← elo] at hp
            have ht9 : t9 = lN t := lj_inj (by rw [hto, ht, lj_lN (by omega)])
            refine lv_iload_n hx hb d_M_slide_39 rfl (lv_at hl 2 rfl) ?_
            refine lv_if_ne (tgt := 50) hx hb d_M_slide_40 (by decide) (fun hfl => ?_) (fun hfl => ?_)
            · have hft : slF n.toInt (M a % 2 ^ i) = true := by cases q : slF n.toInt (M a % 2 ^ i) with
                              | true => rfl
                              | false => rw [q] at hfl; exact absurd rfl hfl
              refine lv_iconst (v := nI 1) hx hb d_M_slide_50 (by decide +kernel) ?_
              refine lv_goto (tgt := 55) hx hb d_M_slide_51 (by decide) ?_
              refine sw_i (y := (bI (slF n.toInt (M a % 2 ^ (i + 1))))) (by rw [hp.2.1, hft]; rfl) ?_
              refine lv_istore_n hx hb d_M_slide_55 rfl hl (by decide) rfl (fun ls hl => ?_)
              have hl : lv_has ls 7 [(3, .int (bI (slF n.toInt (M a % 2 ^ (i + 1))))), (5, .long t9), (4, .int (nI i)), (0, .ref (wa T 91)), (1, .int (nI a)), (2, .int n)] := hl
              refine lv_lload hx hb d_M_slide_56 (lv_at hl 1 rfl) ?_
              refine lv_lconst (v := 0) hx hb d_M_slide_58 (by decide +kernel) ?_
              refine lc_lt (tgt := 72) hx hb d_M_slide_59 d_M_slide_60 (by decide) (fun h5 => ?_) (fun h5 => ?_)
              · exact absurd h5 (by rw [hto, lj_0]; omega)
              · refine lv_aload_n hx hb d_M_slide_63 rfl (lv_at hl 3 rfl) ?_
                refine lv_bipush (v := nI 12) hx hb d_M_slide_64 (by decide +kernel) ?_
                refine lv_lload hx hb d_M_slide_66 (lv_at hl 1 rfl) ?_
                refine lv_l2i hx hb d_M_slide_68 rfl ?_
                refine sw_i (y := nI t) (by rw [ht9]; exact lN_i _) ?_
                refine wcV_v (As := [.int (nI 12), .int (nI t)]) hx hb hC hw (k_M_raise l T F U K I O (va_up M 12 (slX n.toInt (M a % 2 ^ i))) (va_up Z 12 0) G 12 t (by omega) (by omega) (by rw [va_up_self]; exact sl_bit0 hp.2.2)) lk_M_104 rfl rfl ⟨by show 0 + 1 ≤ R.frames; omega, by show 8 + (3 + 11) + 0 ≤ R.locals; omega⟩ (by omega) (we_Model ) rfl rfl hl.1 rfl (Nat.le_of_ble_eq_true rfl) ⟨Nat.zero_le _, Nat.zero_le _⟩ d_M_slide_69 (fun H locs hw => ?_)
                rw [va_v2, va_up_self, ← hp.1] at hw
                refine lv_iinc (v := nI (i + 1)) hx hb d_M_slide_72 hl (k := 2) rfl (nI_add _ 1) (by decide) rfl (fun ls hl => ?_)
                have hl : lv_has ls 7 [(4, .int (nI (i + 1))), (3, .int (bI (slF n.toInt (M a % 2 ^ (i + 1))))), (5, .long t9), (0, .ref (wa T 91)), (1, .int (nI a)), (2, .int n)] := hl
                refine lv_goto (tgt := 11) hx hb d_M_slide_75 (by decide) ?_
                have hl := lv_sub hl [0, 1, 3, 4, 5] rfl
                have hl : lv_has ls 7 [(4, .int (nI (i + 1))), (3, .int (bI (slF n.toInt (M a % 2 ^ (i + 1))))), (0, .ref (wa T 91)), (1, .int (nI a)), (2, .int n)] := hl
                exact ih (i + 1) ls _ _ (by omega) (by omega) hl hw
            · have hff : slF n.toInt (M a % 2 ^ i) = false := by cases q : slF n.toInt (M a % 2 ^ i) with
                              | true => rw [q] at hfl; exact absurd (by first | exact hfl | exact Classical.not_not.mp hfl) (by decide +kernel : ¬ bI true = 0)
                              | false => rfl
              refine lv_lload hx hb d_M_slide_43 (lv_at hl 0 rfl) ?_
              refine lv_lconst (v := 0) hx hb d_M_slide_45 (by decide +kernel) ?_
              refine lc_ge (tgt := 54) hx hb d_M_slide_46 d_M_slide_47 (by decide) (fun h6 => ?_) (fun h6 => ?_)
              · refine lv_iconst (v := nI 0) hx hb d_M_slide_54 (by decide +kernel) ?_
                refine sw_i (y := (bI (slF n.toInt (M a % 2 ^ (i + 1))))) (by rw [hp.2.1, hff]; rfl) ?_
                refine lv_istore_n hx hb d_M_slide_55 rfl hl (by decide) rfl (fun ls hl => ?_)
                have hl : lv_has ls 7 [(3, .int (bI (slF n.toInt (M a % 2 ^ (i + 1))))), (5, .long t9), (4, .int (nI i)), (0, .ref (wa T 91)), (1, .int (nI a)), (2, .int n)] := hl
                refine lv_lload hx hb d_M_slide_56 (lv_at hl 1 rfl) ?_
                refine lv_lconst (v := 0) hx hb d_M_slide_58 (by decide +kernel) ?_
                refine lc_lt (tgt := 72) hx hb d_M_slide_59 d_M_slide_60 (by decide) (fun h5 => ?_) (fun h5 => ?_)
                · exact absurd h5 (by rw [hto, lj_0]; omega)
                · refine lv_aload_n hx hb d_M_slide_63 rfl (lv_at hl 3 rfl) ?_
                  refine lv_bipush (v := nI 12) hx hb d_M_slide_64 (by decide +kernel) ?_
                  refine lv_lload hx hb d_M_slide_66 (lv_at hl 1 rfl) ?_
                  refine lv_l2i hx hb d_M_slide_68 rfl ?_
                  refine sw_i (y := nI t) (by rw [ht9]; exact lN_i _) ?_
                  refine wcV_v (As := [.int (nI 12), .int (nI t)]) hx hb hC hw (k_M_raise l T F U K I O (va_up M 12 (slX n.toInt (M a % 2 ^ i))) (va_up Z 12 0) G 12 t (by omega) (by omega) (by rw [va_up_self]; exact sl_bit0 hp.2.2)) lk_M_104 rfl rfl ⟨by show 0 + 1 ≤ R.frames; omega, by show 8 + (3 + 11) + 0 ≤ R.locals; omega⟩ (by omega) (we_Model ) rfl rfl hl.1 rfl (Nat.le_of_ble_eq_true rfl) ⟨Nat.zero_le _, Nat.zero_le _⟩ d_M_slide_69 (fun H locs hw => ?_)
                  rw [va_v2, va_up_self, ← hp.1] at hw
                  refine lv_iinc (v := nI (i + 1)) hx hb d_M_slide_72 hl (k := 2) rfl (nI_add _ 1) (by decide) rfl (fun ls hl => ?_)
                  have hl : lv_has ls 7 [(4, .int (nI (i + 1))), (3, .int (bI (slF n.toInt (M a % 2 ^ (i + 1))))), (5, .long t9), (0, .ref (wa T 91)), (1, .int (nI a)), (2, .int n)] := hl
                  refine lv_goto (tgt := 11) hx hb d_M_slide_75 (by decide) ?_
                  have hl := lv_sub hl [0, 1, 3, 4, 5] rfl
                  have hl : lv_has ls 7 [(4, .int (nI (i + 1))), (3, .int (bI (slF n.toInt (M a % 2 ^ (i + 1))))), (0, .ref (wa T 91)), (1, .int (nI a)), (2, .int n)] := hl
                  exact ih (i + 1) ls _ _ (by omega) (by omega) hl hw
              · exact absurd h6 (by rw [hto, lj_0]; omega)
        · refine sw_i (y := nI 0) (by rw [tb_iff, decide_eq_false hbt]; rfl) ?_
          refine n_if_eq (tgt := 72) hx hb d_M_slide_36 (by decide) (by omega) (fun hw9 => ?_) (fun hw9 => absurd hw9 (by decide))
          have elo2 : M a % 2 ^ (i + 1) = M a % 2 ^ i := by rw [elo, show M a / 2 ^ i % 2 = 0 by omega]; omega
          rw [← elo2] at hw hl
          have hl : lv_has ls 7 [(5, .long t9), (4, .int (nI i)), (3, .int (bI (slF n.toInt (M a % 2 ^ (i + 1))))), (0, .ref (wa T 91)), (1, .int (nI a)), (2, .int n)] := hl
          refine lv_iinc (v := nI (i + 1)) hx hb d_M_slide_72 hl (k := 1) rfl (nI_add _ 1) (by decide) rfl (fun ls hl => ?_)
          have hl : lv_has ls 7 [(4, .int (nI (i + 1))), (5, .long t9), (3, .int (bI (slF n.toInt (M a % 2 ^ (i + 1))))), (0, .ref (wa T 91)), (1, .int (nI a)), (2, .int n)] := hl
          refine lv_goto (tgt := 11) hx hb d_M_slide_75 (by decide) ?_
          have hl := lv_sub hl [0, 2, 3, 4, 5] rfl
          have hl : lv_has ls 7 [(4, .int (nI (i + 1))), (3, .int (bI (slF n.toInt (M a % 2 ^ (i + 1))))), (0, .ref (wa T 91)), (1, .int (nI a)), (2, .int n)] := hl
          exact ih (i + 1) ls _ _ (by omega) (by omega) hl hw
  exact lp (bl (M a)) 0 ls _ _ (by omega) (by omega) hl hw
