/-! the model: set, copy, divide -/
theorem dg_four {N j : Nat} (hN : N < 2 ^ 64) (hj : 4 ≤ j) : dg N j = 0 := by
  have h1 : b20 ^ 4 ≤ b20 ^ j := b20_le hj
  exact dg_z (Nat.lt_of_lt_of_le hN (Nat.le_trans (by rw [b20_two]; exact Nat.pow_le_pow_right (by decide) (by decide)) h1))
theorem mx_four {N : Nat} (hN : N < 2 ^ 64) : mx (dg N) (dg 0) 4 = dg N := funext fun j => by
  unfold mx
  by_cases h : j < 4
  · rw [if_pos h]
  · rw [if_neg h, dg_0, dg_four hN (by omega)]
theorem st_dig {N i : Nat} (hN : N < 2 ^ 64) (hi : i < 4) : (((lN N).toUInt64 >>> ((nI (20 * i)).toInt64.toUInt64 &&& Int64.toUInt64 63)).toInt64 &&& 1048575).toInt32 = nI (dg N i) := by
  rw [wb_shr hN (by omega), lN_m20 (Nat.lt_of_le_of_lt (Nat.div_le_self _ _) hN), lN_i]
  unfold dg; rw [b20_two]; rfl
theorem sg_sgI {b : Bool} {n : Nat} (h : sgI b n ≠ 0) : sgnI (sgI b n) = if b = true then -1 else nI 1 := by
  unfold sgI at h ⊢
  cases b
  · simp only [Bool.false_eq_true, if_false] at h ⊢
    exact sg_p (by omega)
  · simp only [if_true] at h ⊢
    exact sg_n (by omega)
theorem cp_eq (x : Int) (tu : Bool) : sgI (decide (x < 0) != tu) x.natAbs = if tu = true then -x else x := by
  unfold sgI
  by_cases h : x < 0 <;> cases tu <;> simp [h] <;> omega
theorem dvS_iff {x y : Int} (hy : y ≠ 0) : dvS true x y = true ↔ (x * y < 0 ∧ ¬ x.natAbs % y.natAbs = 0) := by
  unfold dvS
  by_cases h0 : x.natAbs % y.natAbs = 0
  · simp [h0]
  · have hx : x ≠ 0 := fun q => h0 (by rw [q]; exact Nat.zero_mod _)
    have e : (decide (x < 0) != decide (y < 0)) = decide (x * y < 0) := by
      rcases sg_3 x with a | a | a
      · rcases sg_3 y with b | b | b
        · have := Int.mul_pos_of_neg_of_neg a b
          rw [decide_eq_true a, decide_eq_true b, decide_eq_false (by omega)]; rfl
        · exact absurd b hy
        · have := Int.mul_neg_of_neg_of_pos a b
          rw [decide_eq_true a, decide_eq_false (by omega), decide_eq_true this]; rfl
      · exact absurd a hx
      · rcases sg_3 y with b | b | b
        · have := Int.mul_neg_of_pos_of_neg a b
          rw [decide_eq_false (by omega), decide_eq_true b, decide_eq_true this]; rfl
        · exact absurd b hy
        · have := Int.mul_pos a b
          rw [decide_eq_false (by omega), decide_eq_false (by omega), decide_eq_false (by omega)]; rfl
    rw [e]; simp [h0]
theorem dv_ns {x y : Int} (hx : x ≠ 0) (hy : y ≠ 0) : (if (decide (x < 0) != decide (y < 0)) = true then -1 else nI 1) = sgnI (x * y) := by
  rcases sg_3 x with a | a | a
  · rcases sg_3 y with b | b | b
    · rw [decide_eq_true a, decide_eq_true b, sg_p (Int.mul_pos_of_neg_of_neg a b)]; rfl
    · exact absurd b hy
    · rw [decide_eq_true a, decide_eq_false (by omega), sg_n (Int.mul_neg_of_neg_of_pos a b)]; rfl
  · exact absurd a hx
  · rcases sg_3 y with b | b | b
    · rw [decide_eq_false (by omega), decide_eq_true b, sg_n (Int.mul_neg_of_pos_of_neg a b)]; rfl
    · exact absurd b hy
    · rw [decide_eq_false (by omega), decide_eq_false (by omega), sg_p (Int.mul_pos a b)]; rfl
/-- the quotient's and the rest's signs, as the model gives them -/
theorem dvQ_g {dn : Bool} {x y : Int} (hy : y ≠ 0) (hs : dvS dn x y = false) (h : dvQ dn x y ≠ 0) : sgnI x * sgnI y = sgnI (dvQ dn x y) := by
  have hx : x ≠ 0 := fun q => h (by rw [dvQ_n hs rfl rfl, q, Int.natAbs_zero, Nat.zero_div]; unfold sgI; split <;> rfl)
  rw [sg_mul]
  rw [dvQ_n hs rfl rfl] at h ⊢
  rw [sg_sgI h, dv_ns hx hy]
theorem dvR_g {dn : Bool} {x y : Int} (hs : dvS dn x y = false) (h : dvR dn x y ≠ 0) : sgnI x = sgnI (dvR dn x y) := by
  have hx : x ≠ 0 := fun q => h (by rw [dvR_n hs rfl, q, Int.natAbs_zero, Nat.zero_mod]; unfold sgI; split <;> rfl)
  rw [dvR_n hs rfl] at h ⊢
  rw [sg_sgI h]
  rcases sg_3 x with a | a | a
  · rw [decide_eq_true a, sg_n a]; rfl
  · exact absurd a hx
  · rw [decide_eq_false (by omega), sg_p a]; rfl
theorem dvQ_gs {x y : Int} (hy : y ≠ 0) (hs : dvS true x y = true) : (-1 : Int32) = sgnI (dvQ true x y) := by
  have h1 := (dvS_iff hy).mp hs
  have hx : x ≠ 0 := fun q => by rw [q, Int.zero_mul] at h1; exact absurd h1.1 (by decide)
  have hq := dvQ_s hs rfl rfl
  have hne : dvQ true x y ≠ 0 := fun q => by
    have : (dvQ true x y).natAbs = x.natAbs / y.natAbs + 1 := by rw [hq, sgI_abs]
    rw [q] at this; simp at this
  rw [hq] at hne ⊢
  rw [sg_sgI hne, dv_ns hx hy, sg_n h1.1]
theorem dvR_gs {x y : Int} (hy : y ≠ 0) (hs : dvS true x y = true) : sgnI y = sgnI (dvR true x y) := by
  have h1 := (dvS_iff hy).mp hs
  have hr := dvR_s hs rfl
  have hl : x.natAbs % y.natAbs < y.natAbs := Nat.mod_lt _ (by omega)
  have hne : dvR true x y ≠ 0 := fun q => by
    have : (dvR true x y).natAbs = y.natAbs - x.natAbs % y.natAbs := by rw [hr, sgI_abs]
    rw [q] at this; simp at this; omega
  rw [hr] at hne ⊢
  rw [sg_sgI hne]
  rcases sg_3 y with a | a | a
  · rw [decide_eq_true a, sg_n a]; rfl
  · exact absurd a hy
  · rw [decide_eq_false (by omega), sg_p a]; rfl

set_option maxRecDepth 100000 in
set_option maxHeartbeats 4000000 in
theorem k_M_set (l : Launch) (T : wT) (F : wFt) (U K : wUt) (I : wIt) (O : wOt) (M Z : Nat → Nat) (G : Nat → Int32) (z : Nat → Int) (hm : mI z M Z G) (r : Int32) (v : Int64) : Met l y_M_set (.code y_M_set c_M_set 7 none :: bg) ({ frames := 2, cells := 0, slots := 0, locals := 46 } : Room) (mP T F U K (gI I (dgm M) Z G) O [.ref (wa T 91), .int r, .long v]) (mQvM T (fun M' Z' G' => mI (zF (ocG (isR r) 0) (va_up z (rg r) v.toInt) z) M' Z' G') F U (va_up K 15 (nI (ocG (isR r) 0))) I O) 0 0 (wA T) := by
  refine wM_vM (by decide) (Nat.le_of_ble_eq_true rfl) ?_
  intro p e R s m args below meth c Q ls hx hb hC hRf hRl hret hl hw
  have hRf : 2 ≤ R.frames := hRf
  have hRl : 46 ≤ R.locals := hRl
  have hl : lv_has ls 7 [(0, .ref (wa T 91)), (1, .int r), (2, .long v)] := hl
  refine lv_aload_n hx hb d_M_set_0 rfl (lv_at hl 0 rfl) ?_
  refine lv_iload_n hx hb d_M_set_1 rfl (lv_at hl 1 rfl) ?_
  refine wcS_z (As := [.int r]) hx hb hC hw (k_M_is l T F U K (gI I (dgm M) Z G) O r) lk_M_66 rfl rfl ⟨by show 0 + 1 ≤ R.frames; omega, by show 8 + (1 + 11) + 0 ≤ R.locals; omega⟩ rfl hl.1 rfl (Nat.le_of_ble_eq_true rfl) ⟨Nat.zero_le _, Nat.zero_le _⟩ d_M_set_2 (fun H locs hw => ?_)
  by_cases h_r : isR r
  rotate_left
  · refine sw_i (y := nI 0) (by rw [decide_eq_false h_r]; rfl) ?_
    refine n_if_eq (tgt := 12) hx hb d_M_set_5 (by decide) (by omega) (fun hw9 => ?_) (fun hw9 => absurd hw9 (by decide))
    refine lv_iconst (v := nI 1) hx hb d_M_set_12 (by decide +kernel) ?_
    refine wp_Model_code hx hb hC hw bw_817 d_M_set_13 (fun H locs hw => ?_)
    refine lv_aload_n hx hb d_M_set_16 rfl (lv_at hl 0 rfl) ?_
    refine wg_Model_code hx hb hC hw bw_817 d_M_set_17 ?_
    refine sw_i (y := nI 1) (va_up_self _ _ _) ?_
    refine n_if_le (tgt := 24) hx hb d_M_set_20 (by decide) (by omega) (fun hw9 => absurd hw9 (by decide)) (fun hw9 => ?_)
    rw [ocG_1 h_r] at hret
    exact hret _ _ _ _ _ _ _ (by rw [zF_n (by decide)]; exact hm) hw d_M_set_23
  refine sw_i (y := nI 1) (by rw [decide_eq_true h_r]; rfl) ?_
  obtain ⟨x, hx9, rfl⟩ := isR_of h_r
  have hl : lv_has ls 7 [(0, .ref (wa T 91)), (1, .int (nI x)), (2, .long v)] := hl
  refine n_if_eq (tgt := 12) hx hb d_M_set_5 (by decide) (by omega) (fun hw9 => absurd hw9 (by decide)) (fun hw9 => ?_)
  refine lv_iconst (v := nI 0) hx hb d_M_set_8 (by decide +kernel) ?_
  refine lv_goto (tgt := 13) hx hb d_M_set_9 (by decide) ?_
  refine wp_Model_code hx hb hC hw bw_817 d_M_set_13 (fun H locs hw => ?_)
  refine lv_aload_n hx hb d_M_set_16 rfl (lv_at hl 0 rfl) ?_
  refine wg_Model_code hx hb hC hw bw_817 d_M_set_17 ?_
  refine sw_i (y := nI 0) (va_up_self _ _ _) ?_
  refine n_if_le (tgt := 24) hx hb d_M_set_20 (by decide) (by omega) (fun hw9 => ?_) (fun hw9 => absurd hw9 (by decide))
  rw [ocG_k h_r, rg_nI hx9] at hret
  have hN : v.toInt.natAbs < 2 ^ 64 := zabs v
  have e0 : (0 : Int64).toInt = 0 := lj_0
  refine lv_lload_n hx hb d_M_set_24 rfl (lv_at hl 2 rfl) ?_
  refine lv_lconst (v := 0) hx hb d_M_set_25 (by decide +kernel) ?_
  refine lc_ge (tgt := 35) hx hb d_M_set_26 d_M_set_27 (by decide) (fun hs => ?_) (fun hs => ?_)
  · rw [e0] at hs
    refine lv_lload_n hx hb d_M_set_35 rfl (lv_at hl 2 rfl) ?_
    refine sw_l (y := (lN v.toInt.natAbs)) (zpos hs) ?_
    refine lv_lstore hx hb d_M_set_36 hl (by decide) rfl (fun ls hl => ?_)
    have hl : lv_has ls 7 [(4, .long (lN v.toInt.natAbs)), (0, .ref (wa T 91)), (1, .int (nI x)), (2, .long v)] := hl
    refine lv_aload_n hx hb d_M_set_38 rfl (lv_at hl 1 rfl) ?_
    refine lv_bipush (v := nI 12) hx hb d_M_set_39 (by decide +kernel) ?_
    refine wcV_v (As := [.int (nI 12)]) hx hb hC hw (k_M_clear l T F U (va_up K 15 (nI 0)) I O M Z G 12 (by omega)) lk_M_26 rfl rfl ⟨by show 0 + 1 ≤ R.frames; omega, by show 8 + (3 + 11) + 0 ≤ R.locals; omega⟩ (by omega) (we_Model ) rfl rfl hl.1 rfl (Nat.le_of_ble_eq_true rfl) ⟨Nat.zero_le _, Nat.zero_le _⟩ d_M_set_41 (fun H locs hw => ?_)
    refine lv_iconst (v := nI 0) hx hb d_M_set_44 (by decide +kernel) ?_
    refine lv_istore hx hb d_M_set_45 hl (by decide) rfl (fun ls hl => ?_)
    have hl : lv_has ls 7 [(6, .int (nI 0)), (4, .long (lN v.toInt.natAbs)), (0, .ref (wa T 91)), (1, .int (nI x)), (2, .long v)] := hl
    rw [show gI I (dgm (va_up M 12 0)) (va_up Z 12 0) G = gI I (va_up (dgm (va_up M 12 0)) 12 (mx (dg v.toInt.natAbs) ((dgm (va_up M 12 0)) 12) 0)) (va_up Z 12 0) G from by rw [mx_start]] at hw
    have lp : ∀ (z9 i : Nat)  (ls : Array Slot) (H : Heap) (locs : List Loc), 4 - i = z9 → i ≤ 4 →  lv_has ls 7 [(6, .int (nI i)), (4, .long (lN v.toInt.natAbs)), (0, .ref (wa T 91)), (1, .int (nI x)), (2, .long v)] → wH T F U (va_up K 15 (nI 0)) (gI I (va_up (dgm (va_up M 12 0)) 12 (mx (dg v.toInt.natAbs) ((dgm (va_up M 12 0)) 12) i)) (va_up Z 12 0) G) O (wA T) s s.heap H locs → W p l e R s m args below meth c H locs 0 0 Q (F0 m 47 ls []) := by
      intro z9
      induction z9 with
      | zero =>
        intro i  ls H locs hn hle  hl hw
        refine lv_iload hx hb d_M_set_47 (lv_at hl 0 rfl) ?_
        refine lv_iconst (v := nI 4) hx hb d_M_set_49 (by decide +kernel) ?_
        refine n_icmp_ge (tgt := 83) hx hb d_M_set_50 (by decide) (by omega) (by omega) (fun h0 => ?_) (fun h0 => ?_)
        · have e9 : 4 = i := by omega
          rw [show i = 4 by omega, show (dgm (va_up M 12 0)) 12 = dg 0 from congrArg dg (va_up_self _ _ _), mx_four hN, dgm_up, va_v2] at hw
          refine lv_aload_n hx hb d_M_set_83 rfl (lv_at hl 2 rfl) ?_
          refine lv_bipush (v := nI 12) hx hb d_M_set_84 (by decide +kernel) ?_
          refine wcV_v (As := [.int (nI 12)]) hx hb hC hw (k_M_trim l T F U (va_up K 15 (nI 0)) I O (va_up M 12 v.toInt.natAbs) (va_up Z 12 0) G 12 (by omega) (by rw [va_up_self]; exact mM_of (Nat.lt_of_lt_of_le hN (Nat.pow_le_pow_right (by decide) (by decide))))) lk_M_30 rfl rfl ⟨by show 0 + 1 ≤ R.frames; omega, by show 8 + (3 + 11) + 0 ≤ R.locals; omega⟩ (by omega) (we_Model ) rfl rfl hl.1 rfl (Nat.le_of_ble_eq_true rfl) ⟨Nat.zero_le _, Nat.zero_le _⟩ d_M_set_86 (fun H locs hw => ?_)
          rw [va_v2, va_up_self] at hw
          have hv1 : v.toInt.natAbs < m1024 := Nat.lt_of_lt_of_le hN (Nat.pow_le_pow_right (by decide) (by decide))
          have hm1 : mI z (va_up M 12 v.toInt.natAbs) (va_up Z 12 (lnM v.toInt.natAbs)) G := hm.out (by omega) (mM_of hv1)
          have z12 : (va_up Z 12 (lnM v.toInt.natAbs)) 12 = lnM ((va_up M 12 v.toInt.natAbs) 12) := by rw [va_up_self, va_up_self]
          refine lv_aload_n hx hb d_M_set_89 rfl (lv_at hl 2 rfl) ?_
          refine lv_bipush (v := nI 12) hx hb d_M_set_90 (by decide +kernel) ?_
          refine lv_iload_n hx hb d_M_set_92 rfl (lv_at hl 3 rfl) ?_
          refine lv_lload_n hx hb d_M_set_93 rfl (lv_at hl 4 rfl) ?_
          refine lv_lconst (v := 0) hx hb d_M_set_94 (by decide +kernel) ?_
          refine lc_ge (tgt := 103) hx hb d_M_set_95 d_M_set_96 (by decide) (fun hs2 => ?_) (fun hs2 => ?_)
          · refine lv_iconst (v := nI 1) hx hb d_M_set_103 (by decide +kernel) ?_
            refine wcV_v (As := [.int (nI 12), .int (nI x), .int (nI 1)]) hx hb hC hw (k_M_store l T F U (va_up K 15 (nI 0)) I O (va_up M 12 v.toInt.natAbs) (va_up Z 12 (lnM v.toInt.natAbs)) G 12 x (nI 1) (by omega) (by omega) (by rw [z12]; exact lnM_le _)) lk_M_73 rfl rfl ⟨by show 1 + 1 ≤ R.frames; omega, by show 8 + (4 + 11) + 23 ≤ R.locals; omega⟩ (by omega) (we_Model ) rfl rfl hl.1 rfl (Nat.le_of_ble_eq_true rfl) ⟨Nat.zero_le _, Nat.zero_le _⟩ d_M_set_104 (fun H locs hw => ?_)
            exact hret _ _ _ _ _ _ _ (by rw [zF_0 rfl]; exact hm1.store hx9 (by omega) (va_up_self _ _ _) z12 hv1 (fun hne => (sg_p (by omega)).symm)) hw d_M_set_107
          · exact absurd hs (by omega)
        · exact absurd h0 (by omega)
      | succ z9 ih =>
        intro i  ls H locs hn hle  hl hw
        refine lv_iload hx hb d_M_set_47 (lv_at hl 0 rfl) ?_
        refine lv_iconst (v := nI 4) hx hb d_M_set_49 (by decide +kernel) ?_
        refine n_icmp_ge (tgt := 83) hx hb d_M_set_50 (by decide) (by omega) (by omega) (fun h0 => ?_) (fun h0 => ?_)
        · exact absurd h0 (by omega)
        · refine lv_aload_n hx hb d_M_set_53 rfl (lv_at hl 2 rfl) ?_
          refine wg_Model_d hx hb hC hw bw_818 d_M_set_54 ?_
          refine lv_sipush (v := nI 1296) hx hb d_M_set_57 (by decide +kernel) ?_
          refine lv_iload hx hb d_M_set_60 (lv_at hl 0 rfl) ?_
          refine n_iadd hx hb d_M_set_62 ?_
          refine lv_lload hx hb d_M_set_63 (lv_at hl 1 rfl) ?_
          refine lv_bipush (v := nI 20) hx hb d_M_set_65 (by decide +kernel) ?_
          refine lv_iload hx hb d_M_set_67 (lv_at hl 0 rfl) ?_
          refine n_imul hx hb d_M_set_69 ?_
          refine lv_lushr hx hb d_M_set_70 rfl ?_
          refine lv_ldc2 (v := 1048575) hx hb hC.ow (hC.hts bw_852) d_M_set_71 ?_
          refine lv_land hx hb d_M_set_74 ?_
          refine lv_l2i hx hb d_M_set_75 rfl ?_
          refine sw_i (y := nI (dg v.toInt.natAbs i)) (st_dig hN (by omega)) ?_
          refine ws_md hx hb hw (by omega) d_M_set_76 (fun H locs hw => ?_)
          rw [show (va_up (gI I (va_up (dgm (va_up M 12 0)) 12 (mx (dg v.toInt.natAbs) ((dgm (va_up M 12 0)) 12) i)) (va_up Z 12 0) G) 1 (upd ((gI I (va_up (dgm (va_up M 12 0)) 12 (mx (dg v.toInt.natAbs) ((dgm (va_up M 12 0)) 12) i)) (va_up Z 12 0) G) 1) (1296 + i) (nI (dg v.toInt.natAbs i)))) = (gI I (va_up (va_up (dgm (va_up M 12 0)) 12 (mx (dg v.toInt.natAbs) ((dgm (va_up M 12 0)) 12) i)) 12 (va_up ((va_up (dgm (va_up M 12 0)) 12 (mx (dg v.toInt.natAbs) ((dgm (va_up M 12 0)) 12) i)) 12) i (dg v.toInt.natAbs i))) (va_up Z 12 0) G) from gI_sd (s := 12) (i := i) (by omega)] at hw
          rw [mx_st rfl] at hw
          refine lv_iinc (v := nI (i + 1)) hx hb d_M_set_77 hl (k := 0) rfl (nI_add _ 1) (by decide) rfl (fun ls hl => ?_)
          have hl : lv_has ls 7 [(6, .int (nI (i + 1))), (4, .long (lN v.toInt.natAbs)), (0, .ref (wa T 91)), (1, .int (nI x)), (2, .long v)] := hl
          refine lv_goto (tgt := 47) hx hb d_M_set_80 (by decide) ?_
          exact ih (i + 1) ls _ _ (by omega) (by omega) hl hw
    exact lp 4 0 ls _ _ (by omega) (by omega) hl hw
  · rw [e0] at hs
    refine lv_lload_n hx hb d_M_set_30 rfl (lv_at hl 2 rfl) ?_
    refine lv_lneg hx hb d_M_set_31 ?_
    refine lv_goto (tgt := 36) hx hb d_M_set_32 (by decide) ?_
    refine sw_l (y := (lN v.toInt.natAbs)) (zneg hs) ?_
    refine lv_lstore hx hb d_M_set_36 hl (by decide) rfl (fun ls hl => ?_)
    have hl : lv_has ls 7 [(4, .long (lN v.toInt.natAbs)), (0, .ref (wa T 91)), (1, .int (nI x)), (2, .long v)] := hl
    refine lv_aload_n hx hb d_M_set_38 rfl (lv_at hl 1 rfl) ?_
    refine lv_bipush (v := nI 12) hx hb d_M_set_39 (by decide +kernel) ?_
    refine wcV_v (As := [.int (nI 12)]) hx hb hC hw (k_M_clear l T F U (va_up K 15 (nI 0)) I O M Z G 12 (by omega)) lk_M_26 rfl rfl ⟨by show 0 + 1 ≤ R.frames; omega, by show 8 + (3 + 11) + 0 ≤ R.locals; omega⟩ (by omega) (we_Model ) rfl rfl hl.1 rfl (Nat.le_of_ble_eq_true rfl) ⟨Nat.zero_le _, Nat.zero_le _⟩ d_M_set_41 (fun H locs hw => ?_)
    refine lv_iconst (v := nI 0) hx hb d_M_set_44 (by decide +kernel) ?_
    refine lv_istore hx hb d_M_set_45 hl (by decide) rfl (fun ls hl => ?_)
    have hl : lv_has ls 7 [(6, .int (nI 0)), (4, .long (lN v.toInt.natAbs)), (0, .ref (wa T 91)), (1, .int (nI x)), (2, .long v)] := hl
    rw [show gI I (dgm (va_up M 12 0)) (va_up Z 12 0) G = gI I (va_up (dgm (va_up M 12 0)) 12 (mx (dg v.toInt.natAbs) ((dgm (va_up M 12 0)) 12) 0)) (va_up Z 12 0) G from by rw [mx_start]] at hw
    have lp : ∀ (z9 i : Nat)  (ls : Array Slot) (H : Heap) (locs : List Loc), 4 - i = z9 → i ≤ 4 →  lv_has ls 7 [(6, .int (nI i)), (4, .long (lN v.toInt.natAbs)), (0, .ref (wa T 91)), (1, .int (nI x)), (2, .long v)] → wH T F U (va_up K 15 (nI 0)) (gI I (va_up (dgm (va_up M 12 0)) 12 (mx (dg v.toInt.natAbs) ((dgm (va_up M 12 0)) 12) i)) (va_up Z 12 0) G) O (wA T) s s.heap H locs → W p l e R s m args below meth c H locs 0 0 Q (F0 m 47 ls []) := by
      intro z9
      induction z9 with
      | zero =>
        intro i  ls H locs hn hle  hl hw
        refine lv_iload hx hb d_M_set_47 (lv_at hl 0 rfl) ?_
        refine lv_iconst (v := nI 4) hx hb d_M_set_49 (by decide +kernel) ?_
        refine n_icmp_ge (tgt := 83) hx hb d_M_set_50 (by decide) (by omega) (by omega) (fun h0 => ?_) (fun h0 => ?_)
        · have e9 : 4 = i := by omega
          rw [show i = 4 by omega, show (dgm (va_up M 12 0)) 12 = dg 0 from congrArg dg (va_up_self _ _ _), mx_four hN, dgm_up, va_v2] at hw
          refine lv_aload_n hx hb d_M_set_83 rfl (lv_at hl 2 rfl) ?_
          refine lv_bipush (v := nI 12) hx hb d_M_set_84 (by decide +kernel) ?_
          refine wcV_v (As := [.int (nI 12)]) hx hb hC hw (k_M_trim l T F U (va_up K 15 (nI 0)) I O (va_up M 12 v.toInt.natAbs) (va_up Z 12 0) G 12 (by omega) (by rw [va_up_self]; exact mM_of (Nat.lt_of_lt_of_le hN (Nat.pow_le_pow_right (by decide) (by decide))))) lk_M_30 rfl rfl ⟨by show 0 + 1 ≤ R.frames; omega, by show 8 + (3 + 11) + 0 ≤ R.locals; omega⟩ (by omega) (we_Model ) rfl rfl hl.1 rfl (Nat.le_of_ble_eq_true rfl) ⟨Nat.zero_le _, Nat.zero_le _⟩ d_M_set_86 (fun H locs hw => ?_)
          rw [va_v2, va_up_self] at hw
          have hv1 : v.toInt.natAbs < m1024 := Nat.lt_of_lt_of_le hN (Nat.pow_le_pow_right (by decide) (by decide))
          have hm1 : mI z (va_up M 12 v.toInt.natAbs) (va_up Z 12 (lnM v.toInt.natAbs)) G := hm.out (by omega) (mM_of hv1)
          have z12 : (va_up Z 12 (lnM v.toInt.natAbs)) 12 = lnM ((va_up M 12 v.toInt.natAbs) 12) := by rw [va_up_self, va_up_self]
          refine lv_aload_n hx hb d_M_set_89 rfl (lv_at hl 2 rfl) ?_
          refine lv_bipush (v := nI 12) hx hb d_M_set_90 (by decide +kernel) ?_
          refine lv_iload_n hx hb d_M_set_92 rfl (lv_at hl 3 rfl) ?_
          refine lv_lload_n hx hb d_M_set_93 rfl (lv_at hl 4 rfl) ?_
          refine lv_lconst (v := 0) hx hb d_M_set_94 (by decide +kernel) ?_
          refine lc_ge (tgt := 103) hx hb d_M_set_95 d_M_set_96 (by decide) (fun hs2 => ?_) (fun hs2 => ?_)
          · exact absurd hs (by omega)
          · refine lv_iconst (v := (-1)) hx hb d_M_set_99 (by decide +kernel) ?_
            refine lv_goto (tgt := 104) hx hb d_M_set_100 (by decide) ?_
            refine wcV_v (As := [.int (nI 12), .int (nI x), .int (-1)]) hx hb hC hw (k_M_store l T F U (va_up K 15 (nI 0)) I O (va_up M 12 v.toInt.natAbs) (va_up Z 12 (lnM v.toInt.natAbs)) G 12 x (-1) (by omega) (by omega) (by rw [z12]; exact lnM_le _)) lk_M_73 rfl rfl ⟨by show 1 + 1 ≤ R.frames; omega, by show 8 + (4 + 11) + 23 ≤ R.locals; omega⟩ (by omega) (we_Model ) rfl rfl hl.1 rfl (Nat.le_of_ble_eq_true rfl) ⟨Nat.zero_le _, Nat.zero_le _⟩ d_M_set_104 (fun H locs hw => ?_)
            exact hret _ _ _ _ _ _ _ (by rw [zF_0 rfl]; exact hm1.store hx9 (by omega) (va_up_self _ _ _) z12 hv1 (fun hne => (sg_n hs).symm)) hw d_M_set_107
        · exact absurd h0 (by omega)
      | succ z9 ih =>
        intro i  ls H locs hn hle  hl hw
        refine lv_iload hx hb d_M_set_47 (lv_at hl 0 rfl) ?_
        refine lv_iconst (v := nI 4) hx hb d_M_set_49 (by decide +kernel) ?_
        refine n_icmp_ge (tgt := 83) hx hb d_M_set_50 (by decide) (by omega) (by omega) (fun h0 => ?_) (fun h0 => ?_)
        · exact absurd h0 (by omega)
        · refine lv_aload_n hx hb d_M_set_53 rfl (lv_at hl 2 rfl) ?_
          refine wg_Model_d hx hb hC hw bw_818 d_M_set_54 ?_
          refine lv_sipush (v := nI 1296) hx hb d_M_set_57 (by decide +kernel) ?_
          refine lv_iload hx hb d_M_set_60 (lv_at hl 0 rfl) ?_
          refine n_iadd hx hb d_M_set_62 ?_
          refine lv_lload hx hb d_M_set_63 (lv_at hl 1 rfl) ?_
          refine lv_bipush (v := nI 20) hx hb d_M_set_65 (by decide +kernel) ?_
          refine lv_iload hx hb d_M_set_67 (lv_at hl 0 rfl) ?_
          refine n_imul hx hb d_M_set_69 ?_
          refine lv_lushr hx hb d_M_set_70 rfl ?_
          refine lv_ldc2 (v := 1048575) hx hb hC.ow (hC.hts bw_852) d_M_set_71 ?_
          refine lv_land hx hb d_M_set_74 ?_
          refine lv_l2i hx hb d_M_set_75 rfl ?_
          refine sw_i (y := nI (dg v.toInt.natAbs i)) (st_dig hN (by omega)) ?_
          refine ws_md hx hb hw (by omega) d_M_set_76 (fun H locs hw => ?_)
          rw [show (va_up (gI I (va_up (dgm (va_up M 12 0)) 12 (mx (dg v.toInt.natAbs) ((dgm (va_up M 12 0)) 12) i)) (va_up Z 12 0) G) 1 (upd ((gI I (va_up (dgm (va_up M 12 0)) 12 (mx (dg v.toInt.natAbs) ((dgm (va_up M 12 0)) 12) i)) (va_up Z 12 0) G) 1) (1296 + i) (nI (dg v.toInt.natAbs i)))) = (gI I (va_up (va_up (dgm (va_up M 12 0)) 12 (mx (dg v.toInt.natAbs) ((dgm (va_up M 12 0)) 12) i)) 12 (va_up ((va_up (dgm (va_up M 12 0)) 12 (mx (dg v.toInt.natAbs) ((dgm (va_up M 12 0)) 12) i)) 12) i (dg v.toInt.natAbs i))) (va_up Z 12 0) G) from gI_sd (s := 12) (i := i) (by omega)] at hw
          rw [mx_st rfl] at hw
          refine lv_iinc (v := nI (i + 1)) hx hb d_M_set_77 hl (k := 0) rfl (nI_add _ 1) (by decide) rfl (fun ls hl => ?_)
          have hl : lv_has ls 7 [(6, .int (nI (i + 1))), (4, .long (lN v.toInt.natAbs)), (0, .ref (wa T 91)), (1, .int (nI x)), (2, .long v)] := hl
          refine lv_goto (tgt := 47) hx hb d_M_set_80 (by decide) ?_
          exact ih (i + 1) ls _ _ (by omega) (by omega) hl hw
    exact lp 4 0 ls _ _ (by omega) (by omega) hl hw
set_option maxRecDepth 100000 in
set_option maxHeartbeats 4000000 in
theorem k_M_copy (l : Launch) (T : wT) (F : wFt) (U K : wUt) (I : wIt) (O : wOt) (M Z : Nat → Nat) (G : Nat → Int32) (z : Nat → Int) (hm : mI z M Z G) (r a : Int32) (tu : Bool) : Met l y_M_copy (.code y_M_copy c_M_copy 4 none :: bg) ({ frames := 2, cells := 0, slots := 0, locals := 46 } : Room) (mP T F U K (gI I (dgm M) Z G) O [.ref (wa T 91), .int r, .int a, .int (bI tu)]) (mQvM T (fun M' Z' G' => mI (zF (ocG (isR r ∧ isR a) 0) (va_up z (rg r) (sgI (decide (z (rg a) < 0) != tu) (z (rg a)).natAbs)) z) M' Z' G') F U (va_up K 15 (nI (ocG (isR r ∧ isR a) 0))) I O) 0 0 (wA T) := by
  refine wM_vM (by decide) (Nat.le_of_ble_eq_true rfl) ?_
  intro p e R s m args below meth c Q ls hx hb hC hRf hRl hret hl hw
  have hRf : 2 ≤ R.frames := hRf
  have hRl : 46 ≤ R.locals := hRl
  have hl : lv_has ls 4 [(0, .ref (wa T 91)), (1, .int r), (2, .int a), (3, .int (bI tu))] := hl
  refine lv_aload_n hx hb d_M_copy_0 rfl (lv_at hl 0 rfl) ?_
  refine lv_iload_n hx hb d_M_copy_1 rfl (lv_at hl 1 rfl) ?_
  refine lv_iload_n hx hb d_M_copy_2 rfl (lv_at hl 2 rfl) ?_
  refine lv_iload_n hx hb d_M_copy_3 rfl (lv_at hl 2 rfl) ?_
  refine wcV_z (As := [.int r, .int a, .int a]) hx hb hC hw (k_M_three l T F U K (gI I (dgm M) Z G) O r a a) lk_M_76 rfl rfl ⟨by show 1 + 1 ≤ R.frames; omega, by show 8 + (4 + 11) + 20 ≤ R.locals; omega⟩ (by omega) (we_Model ) rfl rfl hl.1 rfl (Nat.le_of_ble_eq_true rfl) ⟨Nat.zero_le _, Nat.zero_le _⟩ d_M_copy_4 (fun H locs hw => ?_)
  by_cases hg : isR r ∧ isR a ∧ isR a
  rotate_left
  · refine sw_i (y := nI 0) (by rw [decide_eq_false hg]; rfl) ?_
    refine n_if_eq (tgt := 44) hx hb d_M_copy_7 (by decide) (by omega) (fun hw9 => ?_) (fun hw9 => absurd hw9 (by decide))
    rw [ocG_1 hg] at hw
    rw [ocG_1 (fun q => hg ⟨q.1, q.2, q.2⟩)] at hret
    exact hret _ _ _ _ _ _ _ (by rw [zF_n (by decide)]; exact hm) hw d_M_copy_44
  refine sw_i (y := nI 1) (by rw [decide_eq_true hg]; rfl) ?_
  rw [ocG_k hg] at hw
  obtain ⟨x, hx9, rfl⟩ := isR_of hg.1
  obtain ⟨i, hi9, rfl⟩ := isR_of hg.2.1
  have hl : lv_has ls 4 [(0, .ref (wa T 91)), (1, .int (nI x)), (2, .int (nI i)), (3, .int (bI tu))] := hl
  refine n_if_eq (tgt := 44) hx hb d_M_copy_7 (by decide) (by omega) (fun hw9 => absurd hw9 (by decide)) (fun hw9 => ?_)
  rw [ocG_k ⟨hg.1, hg.2.1⟩, rg_nI hx9, rg_nI hi9, cp_eq] at hret
  have hi := hm.1 i hi9
  refine lv_aload_n hx hb d_M_copy_10 rfl (lv_at hl 0 rfl) ?_
  refine lv_iload_n hx hb d_M_copy_11 rfl (lv_at hl 2 rfl) ?_
  refine lv_bipush (v := nI 12) hx hb d_M_copy_12 (by decide +kernel) ?_
  refine wcV_v (As := [.int (nI i), .int (nI 12)]) hx hb hC hw (k_M_move l T F U (va_up K 15 (nI 0)) I O M Z G i 12 (by omega) (by omega)) lk_M_40 rfl rfl ⟨by show 0 + 1 ≤ R.frames; omega, by show 8 + (4 + 11) + 0 ≤ R.locals; omega⟩ (by omega) (we_Model ) rfl rfl hl.1 rfl (Nat.le_of_ble_eq_true rfl) ⟨Nat.zero_le _, Nat.zero_le _⟩ d_M_copy_14 (fun H locs hw => ?_)
  have hm1 : mI z (va_up M 12 (M i)) (va_up Z 12 (Z i)) G := hm.out (by omega) (hm.2 i (by omega))
  have z12 : (va_up Z 12 (Z i)) 12 = lnM ((va_up M 12 (M i)) 12) := by rw [va_up_self, va_up_self]; exact hi.2.2.1
  have n12 : (va_up M 12 (M i)) 12 = (z i).natAbs := (va_up_self _ _ _).trans hi.2.1
  cases tu
  · have hl : lv_has ls 4 [(0, .ref (wa T 91)), (1, .int (nI x)), (2, .int (nI i)), (3, .int (nI 0))] := hl
    refine lv_aload_n hx hb d_M_copy_17 rfl (lv_at hl 0 rfl) ?_
    refine lv_bipush (v := nI 12) hx hb d_M_copy_18 (by decide +kernel) ?_
    refine lv_iload_n hx hb d_M_copy_20 rfl (lv_at hl 1 rfl) ?_
    refine lv_iload_n hx hb d_M_copy_21 rfl (lv_at hl 3 rfl) ?_
    refine n_if_eq (tgt := 35) hx hb d_M_copy_22 (by decide) (by omega) (fun hw9 => ?_) (fun hw9 => absurd hw9 (by decide))
    refine lv_aload_n hx hb d_M_copy_35 rfl (lv_at hl 0 rfl) ?_
    refine wg_Model_sign hx hb hC hw bw_820 d_M_copy_36 ?_
    refine lv_iload_n hx hb d_M_copy_39 rfl (lv_at hl 2 rfl) ?_
    refine wl_msign hx hb hw (by omega) d_M_copy_40 ?_
    refine sw_i (y := (G i)) (rfl) ?_
    refine sw_i (y := (sgnI (z i))) (hi.2.2.2) ?_
    refine wcV_v (As := [.int (nI 12), .int (nI x), .int (sgnI (z i))]) hx hb hC hw (k_M_store l T F U (va_up K 15 (nI 0)) I O (va_up M 12 (M i)) (va_up Z 12 (Z i)) G 12 x (sgnI (z i)) (by omega) (by omega) (by rw [z12]; exact lnM_le _)) lk_M_73 rfl rfl ⟨by show 1 + 1 ≤ R.frames; omega, by show 8 + (4 + 11) + 23 ≤ R.locals; omega⟩ (by omega) (we_Model ) rfl rfl hl.1 rfl (Nat.le_of_ble_eq_true rfl) ⟨Nat.zero_le _, Nat.zero_le _⟩ d_M_copy_41 (fun H locs hw => ?_)
    exact hret _ _ _ _ _ _ _ (by rw [zF_0 rfl]; exact hm1.store (w := (z i)) hx9 (by omega) n12 z12 hi.1 (fun _ => rfl)) hw d_M_copy_44
  · have hl : lv_has ls 4 [(0, .ref (wa T 91)), (1, .int (nI x)), (2, .int (nI i)), (3, .int (nI 1))] := hl
    refine lv_aload_n hx hb d_M_copy_17 rfl (lv_at hl 0 rfl) ?_
    refine lv_bipush (v := nI 12) hx hb d_M_copy_18 (by decide +kernel) ?_
    refine lv_iload_n hx hb d_M_copy_20 rfl (lv_at hl 1 rfl) ?_
    refine lv_iload_n hx hb d_M_copy_21 rfl (lv_at hl 3 rfl) ?_
    refine n_if_eq (tgt := 35) hx hb d_M_copy_22 (by decide) (by omega) (fun hw9 => absurd hw9 (by decide)) (fun hw9 => ?_)
    refine lv_aload_n hx hb d_M_copy_25 rfl (lv_at hl 0 rfl) ?_
    refine wg_Model_sign hx hb hC hw bw_820 d_M_copy_26 ?_
    refine lv_iload_n hx hb d_M_copy_29 rfl (lv_at hl 2 rfl) ?_
    refine wl_msign hx hb hw (by omega) d_M_copy_30 ?_
    refine sw_i (y := (G i)) (rfl) ?_
    refine lv_ineg hx hb d_M_copy_31 ?_
    refine sw_i (y := (sgnI (-z i))) (by rw [hi.2.2.2]; exact sg_neg _) ?_
    refine lv_goto (tgt := 41) hx hb d_M_copy_32 (by decide) ?_
    refine wcV_v (As := [.int (nI 12), .int (nI x), .int (sgnI (-z i))]) hx hb hC hw (k_M_store l T F U (va_up K 15 (nI 0)) I O (va_up M 12 (M i)) (va_up Z 12 (Z i)) G 12 x (sgnI (-z i)) (by omega) (by omega) (by rw [z12]; exact lnM_le _)) lk_M_73 rfl rfl ⟨by show 1 + 1 ≤ R.frames; omega, by show 8 + (4 + 11) + 23 ≤ R.locals; omega⟩ (by omega) (we_Model ) rfl rfl hl.1 rfl (Nat.le_of_ble_eq_true rfl) ⟨Nat.zero_le _, Nat.zero_le _⟩ d_M_copy_41 (fun H locs hw => ?_)
    exact hret _ _ _ _ _ _ _ (by rw [zF_0 rfl]; exact hm1.store (w := (-z i)) hx9 (by omega) (n12.trans (Int.natAbs_neg _).symm) z12 (by rw [Int.natAbs_neg]; exact hi.1) (fun _ => rfl)) hw d_M_copy_44
