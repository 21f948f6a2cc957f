/-! the model: times, restAt, guess, goes, takeAway -/
theorem lN_m20 {t : Nat} (h : t < 2 ^ 64) : lN t &&& 1048575 = lN (t % 1048576) := wb_mask (k := 20) h (by decide)
theorem lN_s20 {t : Nat} (h : t < 4611686018427387904) : lN t >>> ((nI 20).toInt64 &&& 63) = lN (t / 1048576) := lN_shrN (k := 20) h (by decide)
theorem tm_val {u d y c : Nat} (hu : u < 1048576) (hd : d < 1048576) (hy : y < 1048576) : ((nI u).toInt64 + ((nI d).toInt64 * (nI y).toInt64)) + lN c = lN (u + d * y + c) := by
  rw [nI_l (by omega), nI_l (by omega), nI_l (by omega), lN_mul, lN_add, lN_add]
theorem ta_and (x : Int64) : (x &&& 1048575).toInt32 = nI (x.toInt % 1048576).toNat := by
  have e : x &&& 1048575 = lN (x.toInt % 1048576).toNat := lj_inj (by
    have h0 := Int.emod_nonneg x.toInt (by decide : (1048576 : Int) ≠ 0)
    have h1 := Int.emod_lt_of_pos x.toInt (by decide : (0 : Int) < 1048576)
    rw [lj_and20, lj_lN (by omega)]; omega)
  rw [e, lN_i]
theorem ta_shr (x : Int64) : (x >>> ((nI 20).toInt64 &&& 63)).toInt = x.toInt / 1048576 := lj_shr20 x
theorem ta_val {u g y : Nat} {c : Int64} (hu : u < 1048576) (hg : g < 1048576) (hy : y < 1048576) (h1 : -1048576 ≤ c.toInt) (h2 : c.toInt ≤ 0) : (((nI u).toInt64 - (lN g * (nI y).toInt64)) + c).toInt = (u : Int) - g * y + c.toInt := by
  have h : g * y ≤ 1048575 * 1048575 := Nat.mul_le_mul (by omega) (by omega)
  have e0 : ((g * y : Nat) : Int) = (g : Int) * y := by push_cast; rfl
  have e1 : (lN (g * y)).toInt = (g : Int) * y := by rw [lj_lN (by omega), e0]
  have e2 : (lN u).toInt = (u : Int) := lj_lN (by omega)
  rw [← e0] at e1
  rw [nI_l (by omega), nI_l (by omega), lN_mul, ← e0]
  generalize g * y = w at *
  have e3 : (lN u - lN w).toInt = (u : Int) - w := by rw [lj_sub (by rw [e1, e2]; omega) (by rw [e1, e2]; omega), e1, e2]
  rw [lj_add (by rw [e3]; omega) (by rw [e3]; omega), e3]
theorem ta_add {d : Nat} {c : Int64} (hd : d < 1048576) (h0 : 0 ≤ (d : Int) + c.toInt) (h1 : -1048576 ≤ c.toInt) (h2 : c.toInt ≤ 0) : nI d + c.toInt32 = nI ((d : Int) + c.toInt).toNat := by
  have e : c.toInt32.toInt = c.toInt := by rw [Int64.toInt_toInt32]; exact Int.bmod_eq_of_le (by omega) (by omega)
  apply ij_inj
  rw [ij_add (by rw [e, ij_nI (by omega)]; omega) (by rw [e, ij_nI (by omega)]; omega), e, ij_nI (by omega), ij_nI (by omega)]
  omega
theorem mul_pow {a b m n : Nat} (ha : a < b20 ^ m) (hb : b < b20 ^ n) : a * b < b20 ^ (m + n) := by rw [Nat.pow_add]; exact Nat.mul_lt_mul'' ha hb
theorem b20_le {m n : Nat} (h : m ≤ n) : b20 ^ m ≤ b20 ^ n := Nat.pow_le_pow_right b20_pos h

set_option maxRecDepth 100000 in
set_option maxHeartbeats 4000000 in
theorem k_M_times (l : Launch) (T : wT) (F : wFt) (U K : wUt) (I : wIt) (O : wOt) (M Z : Nat → Nat) (G : Nat → Int32) (a b t : Nat) (ha9 : a < 20) (hb9 : b < 20) (ht9 : t < 20) (hat : a ≠ t) (hbt : b ≠ t) (hza : Z a = lnM (M a)) (hzb : Z b = lnM (M b)) (hma : M a < mM) (hmb : M b < mM) (hln : lnM (M a) + lnM (M b) ≤ 108) : Met l y_M_times (.code y_M_times c_M_times 10 none :: bg) ({ frames := 1, cells := 0, slots := 0, locals := 22 } : Room) (mP T F U K (gI I (dgm M) Z G) O [.ref (wa T 91), .int (nI a), .int (nI b), .int (nI t)]) (mQv T F U K (gI I (dgm (va_up M t (M a * M b))) (va_up Z t (lnM (M a * M b))) G) O) 0 0 (wA T) := by
  refine wM_v (by decide) (Nat.le_of_ble_eq_true rfl) ?_
  intro p e R s m args below meth c Q ls hx hb hC hRf hRl hret hl hw
  have hRf : 1 ≤ R.frames := hRf
  have hRl : 22 ≤ R.locals := hRl
  have hl : lv_has ls 10 [(0, .ref (wa T 91)), (1, .int (nI a)), (2, .int (nI b)), (3, .int (nI t))] := hl
  have la := lnM_lt hma
  have lb := lnM_lt hmb
  refine lv_aload_n hx hb d_M_times_0 rfl (lv_at hl 0 rfl) ?_
  refine lv_iload_n hx hb d_M_times_1 rfl (lv_at hl 3 rfl) ?_
  refine wcV_v (As := [.int (nI t)]) hx hb hC hw (k_M_clear l T F U K I O M Z G t ht9) lk_M_26 rfl rfl ⟨by show 0 + 1 ≤ R.frames; omega, by show 8 + (3 + 11) + 0 ≤ R.locals; omega⟩ (by omega) (we_Model ) rfl rfl hl.1 rfl (Nat.le_of_ble_eq_true rfl) ⟨Nat.zero_le _, Nat.zero_le _⟩ d_M_times_2 (fun H locs hw => ?_)
  refine lv_iconst (v := nI 0) hx hb d_M_times_5 (by decide +kernel) ?_
  refine lv_istore hx hb d_M_times_6 hl (by decide) rfl (fun ls hl => ?_)
  have hl : lv_has ls 10 [(4, .int (nI 0)), (0, .ref (wa T 91)), (1, .int (nI a)), (2, .int (nI b)), (3, .int (nI t))] := hl
  have lp : ∀ (z9 i : Nat) (W9 : Nat) (ls : Array Slot) (H : Heap) (locs : List Loc), (lnM (M a)) - i = z9 → i ≤ (lnM (M a)) → (W9 = M a % b20 ^ i * M b) →  lv_has ls 10 [(4, .int (nI i)), (0, .ref (wa T 91)), (1, .int (nI a)), (2, .int (nI b)), (3, .int (nI t))] → wH T F U K (gI I (dgm (va_up M t W9)) (va_up Z t 0) G) O (wA T) s s.heap H locs → W p l e R s m args below meth c H locs 0 0 Q (F0 m 8 ls []) := by
    intro z9
    induction z9 with
    | zero =>
      intro i W9 ls H locs hn hle h1 hl hw
      refine lv_iload hx hb d_M_times_8 (lv_at hl 0 rfl) ?_
      refine lv_aload_n hx hb d_M_times_10 rfl (lv_at hl 1 rfl) ?_
      refine wg_Model_size hx hb hC hw bw_819 d_M_times_11 ?_
      refine lv_iload_n hx hb d_M_times_14 rfl (lv_at hl 2 rfl) ?_
      refine wl_msize hx hb hw (by omega) d_M_times_15 ?_
      refine sw_i (y := nI (lnM (M a))) (congrArg nI ((va_up_ne _ _ hat).trans hza)) ?_
      refine n_icmp_ge (tgt := 148) hx hb d_M_times_16 (by decide) (by omega) (by omega) (fun h0 => ?_) (fun h0 => ?_)
      · have e9 : lnM (M a) = i := by omega
        have hW : W9 = M a * M b := by rw [h1, ← e9, Nat.mod_eq_of_lt la]
        subst hW
        refine lv_aload_n hx hb d_M_times_148 rfl (lv_at hl 1 rfl) ?_
        refine lv_iload_n hx hb d_M_times_149 rfl (lv_at hl 4 rfl) ?_
        refine wcV_v (As := [.int (nI t)]) hx hb hC hw (k_M_trim l T F U K I O (va_up M t (M a * M b)) (va_up Z t 0) G t ht9 (by rw [va_up_self]; exact Nat.lt_of_lt_of_le (mul_pow la lb) (b20_le hln))) lk_M_30 rfl rfl ⟨by show 0 + 1 ≤ R.frames; omega, by show 8 + (3 + 11) + 0 ≤ R.locals; omega⟩ (by omega) (we_Model ) rfl rfl hl.1 rfl (Nat.le_of_ble_eq_true rfl) ⟨Nat.zero_le _, Nat.zero_le _⟩ d_M_times_150 (fun H locs hw => ?_)
        rw [va_up_self, va_v2] at hw
        exact hret _ _ _ _ hw d_M_times_153
      · exact absurd h0 (by omega)
    | succ z9 ih =>
      intro i W9 ls H locs hn hle h1 hl hw
      refine lv_iload hx hb d_M_times_8 (lv_at hl 0 rfl) ?_
      refine lv_aload_n hx hb d_M_times_10 rfl (lv_at hl 1 rfl) ?_
      refine wg_Model_size hx hb hC hw bw_819 d_M_times_11 ?_
      refine lv_iload_n hx hb d_M_times_14 rfl (lv_at hl 2 rfl) ?_
      refine wl_msize hx hb hw (by omega) d_M_times_15 ?_
      refine sw_i (y := nI (lnM (M a))) (congrArg nI ((va_up_ne _ _ hat).trans hza)) ?_
      refine n_icmp_ge (tgt := 148) hx hb d_M_times_16 (by decide) (by omega) (by omega) (fun h0 => ?_) (fun h0 => ?_)
      · exact absurd h0 (by omega)
      · refine lv_lconst (v := 0) hx hb d_M_times_19 (by decide +kernel) ?_
        refine sw_l (y := lN 0) (rfl) ?_
        refine lv_lstore hx hb d_M_times_20 hl (by decide) rfl (fun ls hl => ?_)
        have hl : lv_has ls 10 [(5, .long (lN 0)), (4, .int (nI i)), (0, .ref (wa T 91)), (1, .int (nI a)), (2, .int (nI b)), (3, .int (nI t))] := hl
        refine lv_iconst (v := nI 0) hx hb d_M_times_22 (by decide +kernel) ?_
        refine lv_istore hx hb d_M_times_23 hl (by decide) rfl (fun ls hl => ?_)
        have hl : lv_has ls 10 [(7, .int (nI 0)), (5, .long (lN 0)), (4, .int (nI i)), (0, .ref (wa T 91)), (1, .int (nI a)), (2, .int (nI b)), (3, .int (nI t))] := hl
        have hai := dgm_lt (M a) i
        have lq : ∀ (z9 j : Nat) (V : Nat) (c9 : Nat) (ls : Array Slot) (H : Heap) (locs : List Loc), (lnM (M b)) - j = z9 → j ≤ (lnM (M b)) → (V + c9 * b20 ^ (i + j) = M a % b20 ^ i * M b + dg (M a) i * (M b % b20 ^ j) * b20 ^ i) → (c9 < 1048576) → (V < b20 ^ (i + lnM (M b))) →  lv_has ls 10 [(7, .int (nI j)), (5, .long (lN c9)), (4, .int (nI i)), (0, .ref (wa T 91)), (1, .int (nI a)), (2, .int (nI b)), (3, .int (nI t))] → wH T F U K (gI I (dgm (va_up M t V)) (va_up Z t 0) G) O (wA T) s s.heap H locs → W p l e R s m args below meth c H locs 0 0 Q (F0 m 25 ls []) := by
          intro z9
          induction z9 with
          | zero =>
            intro j V c9 ls H locs hn hle h1 h2 h3 hl hw
            refine lv_iload hx hb d_M_times_25 (lv_at hl 0 rfl) ?_
            refine lv_aload_n hx hb d_M_times_27 rfl (lv_at hl 3 rfl) ?_
            refine wg_Model_size hx hb hC hw bw_819 d_M_times_28 ?_
            refine lv_iload_n hx hb d_M_times_31 rfl (lv_at hl 5 rfl) ?_
            refine wl_msize hx hb hw (by omega) d_M_times_32 ?_
            refine sw_i (y := nI (lnM (M b))) (congrArg nI ((va_up_ne _ _ hbt).trans hzb)) ?_
            refine n_icmp_ge (tgt := 120) hx hb d_M_times_33 (by decide) (by omega) (by omega) (fun h0 => ?_) (fun h0 => ?_)
            · have e9 : lnM (M b) = j := by omega
              have hmb2 : M b % b20 ^ j = M b := by rw [← e9]; exact Nat.mod_eq_of_lt lb
              rw [hmb2] at h1
              rw [← e9] at h1
              refine lv_aload_n hx hb d_M_times_120 rfl (lv_at hl 3 rfl) ?_
              refine wg_Model_d hx hb hC hw bw_818 d_M_times_121 ?_
              refine lv_bipush (v := nI 108) hx hb d_M_times_124 (by decide +kernel) ?_
              refine lv_iload_n hx hb d_M_times_126 rfl (lv_at hl 6 rfl) ?_
              refine n_imul hx hb d_M_times_127 ?_
              refine lv_iload hx hb d_M_times_128 (lv_at hl 2 rfl) ?_
              refine n_iadd hx hb d_M_times_130 ?_
              refine lv_aload_n hx hb d_M_times_131 rfl (lv_at hl 3 rfl) ?_
              refine wg_Model_size hx hb hC hw bw_819 d_M_times_132 ?_
              refine lv_iload_n hx hb d_M_times_135 rfl (lv_at hl 5 rfl) ?_
              refine wl_msize hx hb hw (by omega) d_M_times_136 ?_
              refine sw_i (y := nI (lnM (M b))) (congrArg nI ((va_up_ne _ _ hbt).trans hzb)) ?_
              refine n_iadd hx hb d_M_times_137 ?_
              refine sw_i (y := nI (108 * t + (i + lnM (M b)))) (by rw [Nat.add_assoc]) ?_
              refine lv_lload hx hb d_M_times_138 (lv_at hl 1 rfl) ?_
              refine lv_l2i hx hb d_M_times_140 rfl ?_
              refine sw_i (y := nI c9) (lN_i _) ?_
              refine ws_md hx hb hw (by omega) d_M_times_141 (fun H locs hw => ?_)
              rw [show (va_up (gI I (dgm (va_up M t V)) (va_up Z t 0) G) 1 (upd ((gI I (dgm (va_up M t V)) (va_up Z t 0) G) 1) (108 * t + (i + lnM (M b))) (nI c9))) = (gI I (va_up (dgm (va_up M t V)) t (va_up ((dgm (va_up M t V)) t) (i + lnM (M b)) c9)) (va_up Z t 0) G) from gI_sd (s := t) (i := (i + lnM (M b))) (by omega)] at hw
              rw [dgm_sD h2, va_v2, va_up_self] at hw
              have q9 : sD V (i + lnM (M b)) c9 = M a % b20 ^ (i + 1) * M b := by
                              have q1 := sD_eq V (i + lnM (M b)) c9
                              rw [dg_z h3, Nat.zero_mul, Nat.add_zero, h1] at q1
                              rw [q1, mod_s, Nat.add_mul, Nat.mul_right_comm (dg (M a) i), Nat.mul_comm (dg (M a) i)]
              rw [q9] at hw
              refine lv_iinc (v := nI (i + 1)) hx hb d_M_times_142 hl (k := 2) rfl (nI_add _ 1) (by decide) rfl (fun ls hl => ?_)
              have hl : lv_has ls 10 [(4, .int (nI (i + 1))), (7, .int (nI j)), (5, .long (lN c9)), (0, .ref (wa T 91)), (1, .int (nI a)), (2, .int (nI b)), (3, .int (nI t))] := hl
              refine lv_goto (tgt := 8) hx hb d_M_times_145 (by decide) ?_
              have hl := lv_sub hl [0, 3, 4, 5, 6] rfl
              have hl : lv_has ls 10 [(4, .int (nI (i + 1))), (0, .ref (wa T 91)), (1, .int (nI a)), (2, .int (nI b)), (3, .int (nI t))] := hl
              exact ih (i + 1) (M a % b20 ^ (i + 1) * M b) ls _ _ (by omega) (by omega) rfl hl hw
            · exact absurd h0 (by omega)
          | succ z9 ih =>
            intro j V c9 ls H locs hn hle h1 h2 h3 hl hw
            refine lv_iload hx hb d_M_times_25 (lv_at hl 0 rfl) ?_
            refine lv_aload_n hx hb d_M_times_27 rfl (lv_at hl 3 rfl) ?_
            refine wg_Model_size hx hb hC hw bw_819 d_M_times_28 ?_
            refine lv_iload_n hx hb d_M_times_31 rfl (lv_at hl 5 rfl) ?_
            refine wl_msize hx hb hw (by omega) d_M_times_32 ?_
            refine sw_i (y := nI (lnM (M b))) (congrArg nI ((va_up_ne _ _ hbt).trans hzb)) ?_
            refine n_icmp_ge (tgt := 120) hx hb d_M_times_33 (by decide) (by omega) (by omega) (fun h0 => ?_) (fun h0 => ?_)
            · exact absurd h0 (by omega)
            · have hbj := dgm_lt (M b) j
              have huj := dgm_lt V (i + j)
              have tb := tm_bd huj hai hbj h2
              refine lv_aload_n hx hb d_M_times_36 rfl (lv_at hl 3 rfl) ?_
              refine wg_Model_d hx hb hC hw bw_818 d_M_times_37 ?_
              refine lv_bipush (v := nI 108) hx hb d_M_times_40 (by decide +kernel) ?_
              refine lv_iload_n hx hb d_M_times_42 rfl (lv_at hl 6 rfl) ?_
              refine n_imul hx hb d_M_times_43 ?_
              refine lv_iload hx hb d_M_times_44 (lv_at hl 2 rfl) ?_
              refine n_iadd hx hb d_M_times_46 ?_
              refine lv_iload hx hb d_M_times_47 (lv_at hl 0 rfl) ?_
              refine n_iadd hx hb d_M_times_49 ?_
              refine sw_i (y := nI (108 * t + (i + j))) (by rw [Nat.add_assoc]) ?_
              refine wl_md hx hb hw (by omega) d_M_times_50 ?_
              refine sw_i (y := nI (dg V ((i + j)))) ((gI_d (s := t) (i := (i + j)) (by omega)).trans (congrArg nI (congrFun (congrArg dg (va_up_self M t V)) _))) ?_
              refine lv_i2l hx hb d_M_times_51 rfl ?_
              refine lv_aload_n hx hb d_M_times_52 rfl (lv_at hl 3 rfl) ?_
              refine wg_Model_d hx hb hC hw bw_818 d_M_times_53 ?_
              refine lv_bipush (v := nI 108) hx hb d_M_times_56 (by decide +kernel) ?_
              refine lv_iload_n hx hb d_M_times_58 rfl (lv_at hl 4 rfl) ?_
              refine n_imul hx hb d_M_times_59 ?_
              refine lv_iload hx hb d_M_times_60 (lv_at hl 2 rfl) ?_
              refine n_iadd hx hb d_M_times_62 ?_
              refine wl_md hx hb hw (by omega) d_M_times_63 ?_
              refine sw_i (y := nI (dg (M a) i)) ((gI_d (s := a) (i := i) (by omega)).trans (congrArg nI (congrFun (congrArg dg (va_up_ne M V hat)) _))) ?_
              refine lv_i2l hx hb d_M_times_64 rfl ?_
              refine lv_aload_n hx hb d_M_times_65 rfl (lv_at hl 3 rfl) ?_
              refine wg_Model_d hx hb hC hw bw_818 d_M_times_66 ?_
              refine lv_bipush (v := nI 108) hx hb d_M_times_69 (by decide +kernel) ?_
              refine lv_iload_n hx hb d_M_times_71 rfl (lv_at hl 5 rfl) ?_
              refine n_imul hx hb d_M_times_72 ?_
              refine lv_iload hx hb d_M_times_73 (lv_at hl 0 rfl) ?_
              refine n_iadd hx hb d_M_times_75 ?_
              refine wl_md hx hb hw (by omega) d_M_times_76 ?_
              refine sw_i (y := nI (dg (M b) j)) ((gI_d (s := b) (i := j) (by omega)).trans (congrArg nI (congrFun (congrArg dg (va_up_ne M V hbt)) _))) ?_
              refine lv_i2l hx hb d_M_times_77 rfl ?_
              refine lv_lmul hx hb d_M_times_78 ?_
              refine lv_ladd hx hb d_M_times_79 ?_
              refine lv_lload hx hb d_M_times_80 (lv_at hl 1 rfl) ?_
              refine lv_ladd hx hb d_M_times_82 ?_
              refine sw_l (y := (lN (dg V (i + j) + dg (M a) i * dg (M b) j + c9))) (tm_val huj hai hbj) ?_
              generalize ht : dg V (i + j) + dg (M a) i * dg (M b) j + c9 = t9 at *
              refine lv_lstore hx hb d_M_times_83 hl (by decide) rfl (fun ls hl => ?_)
              have hl : lv_has ls 10 [(8, .long (lN t9)), (7, .int (nI j)), (5, .long (lN c9)), (4, .int (nI i)), (0, .ref (wa T 91)), (1, .int (nI a)), (2, .int (nI b)), (3, .int (nI t))] := hl
              refine lv_aload_n hx hb d_M_times_85 rfl (lv_at hl 4 rfl) ?_
              refine wg_Model_d hx hb hC hw bw_818 d_M_times_86 ?_
              refine lv_bipush (v := nI 108) hx hb d_M_times_89 (by decide +kernel) ?_
              refine lv_iload_n hx hb d_M_times_91 rfl (lv_at hl 7 rfl) ?_
              refine n_imul hx hb d_M_times_92 ?_
              refine lv_iload hx hb d_M_times_93 (lv_at hl 3 rfl) ?_
              refine n_iadd hx hb d_M_times_95 ?_
              refine lv_iload hx hb d_M_times_96 (lv_at hl 1 rfl) ?_
              refine n_iadd hx hb d_M_times_98 ?_
              refine sw_i (y := nI (108 * t + (i + j))) (by rw [Nat.add_assoc]) ?_
              refine lv_lload hx hb d_M_times_99 (lv_at hl 0 rfl) ?_
              refine lv_ldc2 (v := 1048575) hx hb hC.ow (hC.hts bw_852) d_M_times_101 ?_
              refine lv_land hx hb d_M_times_104 ?_
              refine sw_l (y := (lN (t9 % 1048576))) (lN_m20 (by omega)) ?_
              refine lv_l2i hx hb d_M_times_105 rfl ?_
              refine sw_i (y := nI (t9 % 1048576)) (lN_i _) ?_
              refine ws_md hx hb hw (by omega) d_M_times_106 (fun H locs hw => ?_)
              rw [show (va_up (gI I (dgm (va_up M t V)) (va_up Z t 0) G) 1 (upd ((gI I (dgm (va_up M t V)) (va_up Z t 0) G) 1) (108 * t + (i + j)) (nI (t9 % 1048576)))) = (gI I (va_up (dgm (va_up M t V)) t (va_up ((dgm (va_up M t V)) t) (i + j) (t9 % 1048576))) (va_up Z t 0) G) from gI_sd (s := t) (i := (i + j)) (by omega)] at hw
              rw [dgm_sD (by omega), va_v2, va_up_self] at hw
              refine lv_lload hx hb d_M_times_107 (lv_at hl 0 rfl) ?_
              refine lv_bipush (v := nI 20) hx hb d_M_times_109 (by decide +kernel) ?_
              refine lv_lshr hx hb d_M_times_111 rfl ?_
              refine sw_l (y := (lN (t9 / 1048576))) (lN_s20 (by omega)) ?_
              refine lv_lstore hx hb d_M_times_112 hl (by decide) rfl (fun ls hl => ?_)
              have hl : lv_has ls 10 [(5, .long (lN (t9 / 1048576))), (8, .long (lN t9)), (7, .int (nI j)), (4, .int (nI i)), (0, .ref (wa T 91)), (1, .int (nI a)), (2, .int (nI b)), (3, .int (nI t))] := hl
              refine lv_iinc (v := nI (j + 1)) hx hb d_M_times_114 hl (k := 2) rfl (nI_add _ 1) (by decide) rfl (fun ls hl => ?_)
              have hl : lv_has ls 10 [(7, .int (nI (j + 1))), (5, .long (lN (t9 / 1048576))), (8, .long (lN t9)), (4, .int (nI i)), (0, .ref (wa T 91)), (1, .int (nI a)), (2, .int (nI b)), (3, .int (nI t))] := hl
              refine lv_goto (tgt := 25) hx hb d_M_times_117 (by decide) ?_
              have hl := lv_sub hl [0, 1, 3, 4, 5, 6, 7] rfl
              have hl : lv_has ls 10 [(7, .int (nI (j + 1))), (5, .long (lN (t9 / 1048576))), (4, .int (nI i)), (0, .ref (wa T 91)), (1, .int (nI a)), (2, .int (nI b)), (3, .int (nI t))] := hl
              have st9 := tm_step h1 ht.symm tb.2
              rw [Nat.add_assoc i j 1] at st9
              exact ih (j + 1) (sD V (i + j) (t9 % 1048576)) (t9 / 1048576) ls _ _ (by omega) (by omega) (st9.trans (by rw [mod_s, Nat.mul_add, Nat.add_mul (dg (M a) i * (M b % b20 ^ j)), Nat.pow_add, Nat.mul_comm (b20 ^ j) (dg (M b) j), ← Nat.mul_assoc (dg (M a) i), Nat.mul_assoc _ (b20 ^ j), Nat.mul_comm (b20 ^ j) (b20 ^ i)])) tb.2 (sD_lt (by omega) (by omega) h3) hl hw
        exact lq (lnM (M b)) 0 W9 0 ls _ _ (by omega) (by omega) (by rw [h1, Nat.pow_zero, Nat.mod_one]; simp) (by decide) (by rw [h1]; exact mul_pow (Nat.mod_lt _ (b20_pp i)) lb) hl hw
  exact lp (lnM (M a)) 0 0 ls _ _ (by omega) (by omega) (by rw [Nat.pow_zero, Nat.mod_one, Nat.zero_mul]) hl hw
set_option maxRecDepth 100000 in
set_option maxHeartbeats 4000000 in
theorem k_M_restAt (l : Launch) (T : wT) (F : wFt) (U K : wUt) (I : wIt) (O : wOt) (M Z : Nat → Nat) (G : Nat → Int32) (i : Nat) (hi : i < 108) : Met l y_M_restAt (.code y_M_restAt c_M_restAt 2 (some .long) :: bg) ({ frames := 0, cells := 0, slots := 0, locals := 0 } : Room) (mP T F U K (gI I (dgm M) Z G) O [.ref (wa T 91), .int (nI i)]) (mQl T (lN (dg (M 16) i)) F U K (gI I (dgm M) Z G) O) 0 0 (wA T) := by
  refine wM_l (by decide) (Nat.le_of_ble_eq_true rfl) ?_
  intro p e R s m args below meth c Q ls hx hb hC hRf hRl hret hl hw
  have hRf : 0 ≤ R.frames := hRf
  have hRl : 0 ≤ R.locals := hRl
  have hl : lv_has ls 2 [(0, .ref (wa T 91)), (1, .int (nI i))] := hl
  refine lv_iload_n hx hb d_M_restAt_0 rfl (lv_at hl 1 rfl) ?_
  refine n_if_ge (tgt := 8) hx hb d_M_restAt_1 (by decide) (by omega) ?_
  refine lv_aload_n hx hb d_M_restAt_8 rfl (lv_at hl 0 rfl) ?_
  refine wg_Model_d hx hb hC hw bw_818 d_M_restAt_9 ?_
  refine lv_sipush (v := nI 1728) hx hb d_M_restAt_12 (by decide +kernel) ?_
  refine lv_iload_n hx hb d_M_restAt_15 rfl (lv_at hl 1 rfl) ?_
  refine n_iadd hx hb d_M_restAt_16 ?_
  refine wl_md hx hb hw (by omega) d_M_restAt_17 ?_
  refine sw_i (y := nI (dg (M 16) i)) (gI_d (s := 16) (i := i) (by omega)) ?_
  have hd := dgm_lt (M 16) i
  refine lv_i2l hx hb d_M_restAt_18 rfl ?_
  refine sw_l (y := (lN (dg (M 16) i))) (nI_l (by omega)) ?_
  exact hret _ _ _ _ hw d_M_restAt_19
set_option maxRecDepth 100000 in
set_option maxHeartbeats 4000000 in
theorem k_M_restAtN (l : Launch) (T : wT) (F : wFt) (U K : wUt) (I : wIt) (O : wOt) (M Z : Nat → Nat) (G : Nat → Int32) (r : Int32) (hr : r < 0) : Met l y_M_restAt (.code y_M_restAt c_M_restAt 2 (some .long) :: bg) ({ frames := 0, cells := 0, slots := 0, locals := 0 } : Room) (mP T F U K (gI I (dgm M) Z G) O [.ref (wa T 91), .int r]) (mQl T (lN 0) F U K (gI I (dgm M) Z G) O) 0 0 (wA T) := by
  refine wM_l (by decide) (Nat.le_of_ble_eq_true rfl) ?_
  intro p e R s m args below meth c Q ls hx hb hC hRf hRl hret hl hw
  have hRf : 0 ≤ R.frames := hRf
  have hRl : 0 ≤ R.locals := hRl
  have hl : lv_has ls 2 [(0, .ref (wa T 91)), (1, .int r)] := hl
  refine lv_iload_n hx hb d_M_restAt_0 rfl (lv_at hl 1 rfl) ?_
  refine lv_if_ge (tgt := 8) hx hb d_M_restAt_1 (by decide) (fun h => ?_) (fun h => ?_)
  · exact absurd hr (Int32.not_lt.mpr h)
  · refine lv_lconst (v := 0) hx hb d_M_restAt_4 (by decide +kernel) ?_
    refine sw_l (y := (lN 0)) (rfl) ?_
    refine lv_goto (tgt := 19) hx hb d_M_restAt_5 (by decide) ?_
    exact hret _ _ _ _ hw d_M_restAt_19
