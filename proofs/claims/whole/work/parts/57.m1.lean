/-! the model: trim, clear, move, small, order, plus, minus -/
set_option maxRecDepth 100000 in
set_option maxHeartbeats 4000000 in
theorem k_M_trim (l : Launch) (T : wT) (F : wFt) (U K : wUt) (I : wIt) (O : wOt) (M Z : Nat → Nat) (G : Nat → Int32) (x : Nat) (hx9 : x < 20) (hm : M x < mM) : Met l y_M_trim (.code y_M_trim c_M_trim 3 none :: bg) ({ frames := 0, cells := 0, slots := 0, locals := 0 } : Room) (mP T F U K (gI I (dgm M) Z G) O [.ref (wa T 91), .int (nI x)]) (mQv T F U K (gI I (dgm M) (va_up Z x (lnM (M x))) G) O) 0 0 (wA T) := by
  refine wM_v (by decide) (Nat.le_of_ble_eq_true rfl) ?_
  intro p e R s m args below meth c Q ls hx hb hC hRf hRl hret hl hw
  have hRf : 0 ≤ R.frames := hRf
  have hRl : 0 ≤ R.locals := hRl
  have hl : lv_has ls 3 [(0, .ref (wa T 91)), (1, .int (nI x))] := hl
  refine lv_bipush (v := nI 108) hx hb d_M_trim_0 (by decide +kernel) ?_
  refine lv_istore_n hx hb d_M_trim_2 rfl hl (by decide) rfl (fun ls hl => ?_)
  have hl : lv_has ls 3 [(2, .int (nI 108)), (0, .ref (wa T 91)), (1, .int (nI x))] := hl
  have lp : ∀ (q : Nat) (ls : Array Slot) (H : Heap) (locs : List Loc), q ≤ 108 → M x < b20 ^ q → lv_has ls 3 [(2, .int (nI q)), (0, .ref (wa T 91)), (1, .int (nI x))] → wH T F U K (gI I (dgm M) Z G) O (wA T) s s.heap H locs → W p l e R s m args below meth c H locs 0 0 Q (F0 m 3 ls []) := by
    intro q
    induction q with
    | zero =>
      intro ls H locs hq hlt hl hw
      have hl : lv_has ls 3 [(2, .int (nI 0)), (0, .ref (wa T 91)), (1, .int (nI x))] := hl
      refine lv_iload_n hx hb d_M_trim_3 rfl (lv_at hl 0 rfl) ?_
      refine n_if_le (tgt := 29) hx hb d_M_trim_4 (by decide) (by omega) (fun h0 => ?_) (fun h0 => ?_)
      · have h9 : lnM (M x) = 0 := (lnM_z hm).mpr (by rw [Nat.pow_zero] at hlt; omega)
        refine lv_aload_n hx hb d_M_trim_29 rfl (lv_at hl 1 rfl) ?_
        refine wg_Model_size hx hb hC hw bw_819 d_M_trim_30 ?_
        refine lv_iload_n hx hb d_M_trim_33 rfl (lv_at hl 2 rfl) ?_
        refine lv_iload_n hx hb d_M_trim_34 rfl (lv_at hl 0 rfl) ?_
        refine ws_msize hx hb hw (by omega) d_M_trim_35 (fun H locs hw => ?_)
        rw [gI_sz] at hw
        rw [h9] at hret
        exact hret _ _ _ _ hw d_M_trim_36
      · exact absurd h0 (by omega)
    | succ r ih =>
      intro ls H locs hq hlt hl hw
      have hl : lv_has ls 3 [(2, .int (nI (r + 1))), (0, .ref (wa T 91)), (1, .int (nI x))] := hl
      refine lv_iload_n hx hb d_M_trim_3 rfl (lv_at hl 0 rfl) ?_
      refine n_if_le (tgt := 29) hx hb d_M_trim_4 (by decide) (by omega) (fun h0 => ?_) (fun h0 => ?_)
      · exact absurd h0 (by omega)
      · refine lv_aload_n hx hb d_M_trim_7 rfl (lv_at hl 1 rfl) ?_
        refine wg_Model_d hx hb hC hw bw_818 d_M_trim_8 ?_
        refine lv_bipush (v := nI 108) hx hb d_M_trim_11 (by decide +kernel) ?_
        refine lv_iload_n hx hb d_M_trim_13 rfl (lv_at hl 2 rfl) ?_
        refine n_imul hx hb d_M_trim_14 ?_
        refine lv_iload_n hx hb d_M_trim_15 rfl (lv_at hl 0 rfl) ?_
        refine n_iadd hx hb d_M_trim_16 ?_
        refine lv_iconst (v := nI 1) hx hb d_M_trim_17 (by decide +kernel) ?_
        refine n_isub hx hb d_M_trim_18 (by omega) ?_
        refine sw_i (y := nI (108 * x + r)) (by rw [show 108 * x + (r + 1) - 1 = 108 * x + r by omega]) ?_
        refine wl_md hx hb hw (by omega) d_M_trim_19 ?_
        refine sw_i (y := nI (dg (M x) r)) (gI_d (s := x) (i := r) (by omega)) ?_
        have hd := dgm_lt (M x) r
        refine n_if_ne (tgt := 29) hx hb d_M_trim_20 (by decide) (by omega) (fun h1 => ?_) (fun h1 => ?_)
        · have h9 : lnM (M x) = r + 1 := lnM_at hlt (by omega) h1
          refine lv_aload_n hx hb d_M_trim_29 rfl (lv_at hl 1 rfl) ?_
          refine wg_Model_size hx hb hC hw bw_819 d_M_trim_30 ?_
          refine lv_iload_n hx hb d_M_trim_33 rfl (lv_at hl 2 rfl) ?_
          refine lv_iload_n hx hb d_M_trim_34 rfl (lv_at hl 0 rfl) ?_
          refine ws_msize hx hb hw (by omega) d_M_trim_35 (fun H locs hw => ?_)
          rw [gI_sz] at hw
          rw [h9] at hret
          exact hret _ _ _ _ hw d_M_trim_36
        · refine lv_iinc (v := nI r) hx hb d_M_trim_23 hl (k := 0) rfl (nI_decr (k := 1) (by decide +kernel) (by omega)) (by decide) rfl (fun ls hl => ?_)
          have hl : lv_has ls 3 [(2, .int (nI r)), (0, .ref (wa T 91)), (1, .int (nI x))] := hl
          refine lv_goto (tgt := 3) hx hb d_M_trim_26 (by decide) ?_
          exact ih ls H locs (by omega) (dg_down hlt h1) hl hw
  exact lp 108 ls _ _ (by omega) hm hl hw
set_option maxRecDepth 100000 in
set_option maxHeartbeats 4000000 in
theorem k_M_clear (l : Launch) (T : wT) (F : wFt) (U K : wUt) (I : wIt) (O : wOt) (M Z : Nat → Nat) (G : Nat → Int32) (x : Nat) (hx9 : x < 20) : Met l y_M_clear (.code y_M_clear c_M_clear 3 none :: bg) ({ frames := 0, cells := 0, slots := 0, locals := 0 } : Room) (mP T F U K (gI I (dgm M) Z G) O [.ref (wa T 91), .int (nI x)]) (mQv T F U K (gI I (dgm (va_up M x 0)) (va_up Z x 0) G) O) 0 0 (wA T) := by
  refine wM_v (by decide) (Nat.le_of_ble_eq_true rfl) ?_
  intro p e R s m args below meth c Q ls hx hb hC hRf hRl hret hl hw
  have hRf : 0 ≤ R.frames := hRf
  have hRl : 0 ≤ R.locals := hRl
  have hl : lv_has ls 3 [(0, .ref (wa T 91)), (1, .int (nI x))] := hl
  refine lv_iconst (v := nI 0) hx hb d_M_clear_0 (by decide +kernel) ?_
  refine lv_istore_n hx hb d_M_clear_1 rfl hl (by decide) rfl (fun ls hl => ?_)
  have hl : lv_has ls 3 [(2, .int (nI 0)), (0, .ref (wa T 91)), (1, .int (nI x))] := hl
  rw [show gI I (dgm M) Z G = gI I (va_up (dgm M) x (mx (dg 0) ((dgm M) x) 0)) Z G from by rw [mx_start]] at hw
  have lp : ∀ (z9 i : Nat)  (ls : Array Slot) (H : Heap) (locs : List Loc), 108 - i = z9 → i ≤ 108 →  lv_has ls 3 [(2, .int (nI i)), (0, .ref (wa T 91)), (1, .int (nI x))] → wH T F U K (gI I (va_up (dgm M) x (mx (dg 0) ((dgm M) x) i)) Z G) O (wA T) s s.heap H locs → W p l e R s m args below meth c H locs 0 0 Q (F0 m 2 ls []) := by
    intro z9
    induction z9 with
    | zero =>
      intro i  ls H locs hn hle  hl hw
      refine lv_iload_n hx hb d_M_clear_2 rfl (lv_at hl 0 rfl) ?_
      refine lv_bipush (v := nI 108) hx hb d_M_clear_3 (by decide +kernel) ?_
      refine n_icmp_ge (tgt := 26) hx hb d_M_clear_5 (by decide) (by omega) (by omega) (fun h0 => ?_) (fun h0 => ?_)
      · have e9 : 108 = i := by omega
        rw [show i = 108 by omega, mx_full, dgm_up] at hw
        refine lv_aload_n hx hb d_M_clear_26 rfl (lv_at hl 1 rfl) ?_
        refine wg_Model_size hx hb hC hw bw_819 d_M_clear_27 ?_
        refine lv_iload_n hx hb d_M_clear_30 rfl (lv_at hl 2 rfl) ?_
        refine lv_iconst (v := nI 0) hx hb d_M_clear_31 (by decide +kernel) ?_
        refine ws_msize hx hb hw (by omega) d_M_clear_32 (fun H locs hw => ?_)
        rw [gI_sz] at hw
        exact hret _ _ _ _ hw d_M_clear_33
      · exact absurd h0 (by omega)
    | succ z9 ih =>
      intro i  ls H locs hn hle  hl hw
      refine lv_iload_n hx hb d_M_clear_2 rfl (lv_at hl 0 rfl) ?_
      refine lv_bipush (v := nI 108) hx hb d_M_clear_3 (by decide +kernel) ?_
      refine n_icmp_ge (tgt := 26) hx hb d_M_clear_5 (by decide) (by omega) (by omega) (fun h0 => ?_) (fun h0 => ?_)
      · exact absurd h0 (by omega)
      · refine lv_aload_n hx hb d_M_clear_8 rfl (lv_at hl 1 rfl) ?_
        refine wg_Model_d hx hb hC hw bw_818 d_M_clear_9 ?_
        refine lv_bipush (v := nI 108) hx hb d_M_clear_12 (by decide +kernel) ?_
        refine lv_iload_n hx hb d_M_clear_14 rfl (lv_at hl 2 rfl) ?_
        refine n_imul hx hb d_M_clear_15 ?_
        refine lv_iload_n hx hb d_M_clear_16 rfl (lv_at hl 0 rfl) ?_
        refine n_iadd hx hb d_M_clear_17 ?_
        refine lv_iconst (v := nI 0) hx hb d_M_clear_18 (by decide +kernel) ?_
        refine sw_i (y := nI (dg 0 i)) (by rw [dg_0]) ?_
        refine ws_md hx hb hw (by omega) d_M_clear_19 (fun H locs hw => ?_)
        rw [show (va_up (gI I (va_up (dgm M) x (mx (dg 0) ((dgm M) x) i)) Z G) 1 (upd ((gI I (va_up (dgm M) x (mx (dg 0) ((dgm M) x) i)) Z G) 1) ((108 * x) + i) (nI (dg 0 i)))) = (gI I (va_up (va_up (dgm M) x (mx (dg 0) ((dgm M) x) i)) x (va_up ((va_up (dgm M) x (mx (dg 0) ((dgm M) x) i)) x) i (dg 0 i))) Z G) from gI_sd (s := x) (i := i) (by omega)] at hw
        rw [mx_st rfl] at hw
        refine lv_iinc (v := nI (i + 1)) hx hb d_M_clear_20 hl (k := 0) rfl (nI_add _ 1) (by decide) rfl (fun ls hl => ?_)
        have hl : lv_has ls 3 [(2, .int (nI (i + 1))), (0, .ref (wa T 91)), (1, .int (nI x))] := hl
        refine lv_goto (tgt := 2) hx hb d_M_clear_23 (by decide) ?_
        exact ih (i + 1) ls _ _ (by omega) (by omega) hl hw
  exact lp 108 0 ls _ _ (by omega) (by omega) hl hw
set_option maxRecDepth 100000 in
set_option maxHeartbeats 4000000 in
theorem k_M_move (l : Launch) (T : wT) (F : wFt) (U K : wUt) (I : wIt) (O : wOt) (M Z : Nat → Nat) (G : Nat → Int32) (f t : Nat) (hf9 : f < 20) (ht9 : t < 20) : Met l y_M_move (.code y_M_move c_M_move 4 none :: bg) ({ frames := 0, cells := 0, slots := 0, locals := 0 } : Room) (mP T F U K (gI I (dgm M) Z G) O [.ref (wa T 91), .int (nI f), .int (nI t)]) (mQv T F U K (gI I (dgm (va_up M t (M f))) (va_up Z t (Z f)) G) O) 0 0 (wA T) := by
  refine wM_v (by decide) (Nat.le_of_ble_eq_true rfl) ?_
  intro p e R s m args below meth c Q ls hx hb hC hRf hRl hret hl hw
  have hRf : 0 ≤ R.frames := hRf
  have hRl : 0 ≤ R.locals := hRl
  have hl : lv_has ls 4 [(0, .ref (wa T 91)), (1, .int (nI f)), (2, .int (nI t))] := hl
  refine lv_iconst (v := nI 0) hx hb d_M_move_0 (by decide +kernel) ?_
  refine lv_istore_n hx hb d_M_move_1 rfl hl (by decide) rfl (fun ls hl => ?_)
  have hl : lv_has ls 4 [(3, .int (nI 0)), (0, .ref (wa T 91)), (1, .int (nI f)), (2, .int (nI t))] := hl
  rw [show gI I (dgm M) Z G = gI I (va_up (dgm M) t (mx (dg (M f)) ((dgm M) t) 0)) Z G from by rw [mx_start]] at hw
  have lp : ∀ (z9 i : Nat)  (ls : Array Slot) (H : Heap) (locs : List Loc), 108 - i = z9 → i ≤ 108 →  lv_has ls 4 [(3, .int (nI i)), (0, .ref (wa T 91)), (1, .int (nI f)), (2, .int (nI t))] → wH T F U K (gI I (va_up (dgm M) t (mx (dg (M f)) ((dgm M) t) i)) Z G) O (wA T) s s.heap H locs → W p l e R s m args below meth c H locs 0 0 Q (F0 m 2 ls []) := by
    intro z9
    induction z9 with
    | zero =>
      intro i  ls H locs hn hle  hl hw
      refine lv_iload_n hx hb d_M_move_2 rfl (lv_at hl 0 rfl) ?_
      refine lv_bipush (v := nI 108) hx hb d_M_move_3 (by decide +kernel) ?_
      refine n_icmp_ge (tgt := 36) hx hb d_M_move_5 (by decide) (by omega) (by omega) (fun h0 => ?_) (fun h0 => ?_)
      · have e9 : 108 = i := by omega
        rw [show i = 108 by omega, mx_full, dgm_up] at hw
        refine lv_aload_n hx hb d_M_move_36 rfl (lv_at hl 1 rfl) ?_
        refine wg_Model_size hx hb hC hw bw_819 d_M_move_37 ?_
        refine lv_iload_n hx hb d_M_move_40 rfl (lv_at hl 3 rfl) ?_
        refine lv_aload_n hx hb d_M_move_41 rfl (lv_at hl 1 rfl) ?_
        refine wg_Model_size hx hb hC hw bw_819 d_M_move_42 ?_
        refine lv_iload_n hx hb d_M_move_45 rfl (lv_at hl 2 rfl) ?_
        refine wl_msize hx hb hw (by omega) d_M_move_46 ?_
        refine sw_i (y := nI (Z f)) (rfl) ?_
        refine ws_msize hx hb hw (by omega) d_M_move_47 (fun H locs hw => ?_)
        rw [gI_sz] at hw
        exact hret _ _ _ _ hw d_M_move_48
      · exact absurd h0 (by omega)
    | succ z9 ih =>
      intro i  ls H locs hn hle  hl hw
      refine lv_iload_n hx hb d_M_move_2 rfl (lv_at hl 0 rfl) ?_
      refine lv_bipush (v := nI 108) hx hb d_M_move_3 (by decide +kernel) ?_
      refine n_icmp_ge (tgt := 36) hx hb d_M_move_5 (by decide) (by omega) (by omega) (fun h0 => ?_) (fun h0 => ?_)
      · exact absurd h0 (by omega)
      · refine lv_aload_n hx hb d_M_move_8 rfl (lv_at hl 1 rfl) ?_
        refine wg_Model_d hx hb hC hw bw_818 d_M_move_9 ?_
        refine lv_bipush (v := nI 108) hx hb d_M_move_12 (by decide +kernel) ?_
        refine lv_iload_n hx hb d_M_move_14 rfl (lv_at hl 3 rfl) ?_
        refine n_imul hx hb d_M_move_15 ?_
        refine lv_iload_n hx hb d_M_move_16 rfl (lv_at hl 0 rfl) ?_
        refine n_iadd hx hb d_M_move_17 ?_
        refine lv_aload_n hx hb d_M_move_18 rfl (lv_at hl 1 rfl) ?_
        refine wg_Model_d hx hb hC hw bw_818 d_M_move_19 ?_
        refine lv_bipush (v := nI 108) hx hb d_M_move_22 (by decide +kernel) ?_
        refine lv_iload_n hx hb d_M_move_24 rfl (lv_at hl 2 rfl) ?_
        refine n_imul hx hb d_M_move_25 ?_
        refine lv_iload_n hx hb d_M_move_26 rfl (lv_at hl 0 rfl) ?_
        refine n_iadd hx hb d_M_move_27 ?_
        refine wl_md hx hb hw (by omega) d_M_move_28 ?_
        refine sw_i (y := nI (dg (M f) i)) ((gI_d (s := f) (i := i) (by omega)).trans (congrArg nI (mx_rd (D := dgm M) f))) ?_
        refine ws_md hx hb hw (by omega) d_M_move_29 (fun H locs hw => ?_)
        rw [show (va_up (gI I (va_up (dgm M) t (mx (dg (M f)) ((dgm M) t) i)) Z G) 1 (upd ((gI I (va_up (dgm M) t (mx (dg (M f)) ((dgm M) t) i)) Z G) 1) ((108 * t) + i) (nI (dg (M f) i)))) = (gI I (va_up (va_up (dgm M) t (mx (dg (M f)) ((dgm M) t) i)) t (va_up ((va_up (dgm M) t (mx (dg (M f)) ((dgm M) t) i)) t) i (dg (M f) i))) Z G) from gI_sd (s := t) (i := i) (by omega)] at hw
        rw [mx_st rfl] at hw
        refine lv_iinc (v := nI (i + 1)) hx hb d_M_move_30 hl (k := 0) rfl (nI_add _ 1) (by decide) rfl (fun ls hl => ?_)
        have hl : lv_has ls 4 [(3, .int (nI (i + 1))), (0, .ref (wa T 91)), (1, .int (nI f)), (2, .int (nI t))] := hl
        refine lv_goto (tgt := 2) hx hb d_M_move_33 (by decide) ?_
        exact ih (i + 1) ls _ _ (by omega) (by omega) hl hw
  exact lp 108 0 ls _ _ (by omega) (by omega) hl hw
theorem dg_one (j : Nat) {v : Nat} (hv : v < 1048576) : va_up (dg 0) 0 v j = dg v j := by
  rw [va_va]
  by_cases h : j = 0
  · subst h; rw [if_pos rfl]; unfold dg; rw [Nat.pow_zero, Nat.div_one]; exact (Nat.mod_eq_of_lt hv).symm
  · rw [if_neg h, dg_0]; unfold dg
    have h1 : b20 ^ 1 ≤ b20 ^ j := Nat.pow_le_pow_right b20_pos (by omega)
    rw [Nat.div_eq_of_lt (Nat.lt_of_lt_of_le (show v < b20 ^ 1 by rw [Nat.pow_one]; exact hv) h1)]; rfl
theorem sm_st {M : Nat → Nat} {x v : Nat} (hv : v < 1048576) : va_up (dgm (va_up M x 0)) x (va_up (dgm (va_up M x 0) x) 0 v) = dgm (va_up M x v) := by
  rw [← dgm_up, ← dgm_up, va_v2, va_up_self]
  congr 1; funext j; exact dg_one j hv
theorem lim20 {v : Nat} (hv : v < 1048576) : v < mM := Nat.lt_of_lt_of_le hv (by unfold mM; exact Nat.le_trans (Nat.le_of_eq (Nat.pow_one b20).symm) (Nat.pow_le_pow_right b20_pos (by decide)))
set_option maxRecDepth 100000 in
set_option maxHeartbeats 4000000 in
theorem k_M_small (l : Launch) (T : wT) (F : wFt) (U K : wUt) (I : wIt) (O : wOt) (M Z : Nat → Nat) (G : Nat → Int32) (x v : Nat) (hx9 : x < 20) (hv : v < 1048576) : Met l y_M_small (.code y_M_small c_M_small 3 none :: bg) ({ frames := 1, cells := 0, slots := 0, locals := 22 } : Room) (mP T F U K (gI I (dgm M) Z G) O [.ref (wa T 91), .int (nI x), .int (nI v)]) (mQv T F U K (gI I (dgm (va_up M x v)) (va_up Z x (lnM v)) G) O) 0 0 (wA T) := by
  refine wM_v (by decide) (Nat.le_of_ble_eq_true rfl) ?_
  intro p e R s m args below meth c Q ls hx hb hC hRf hRl hret hl hw
  have hRf : 1 ≤ R.frames := hRf
  have hRl : 22 ≤ R.locals := hRl
  have hl : lv_has ls 3 [(0, .ref (wa T 91)), (1, .int (nI x)), (2, .int (nI v))] := hl
  refine lv_aload_n hx hb d_M_small_0 rfl (lv_at hl 0 rfl) ?_
  refine lv_iload_n hx hb d_M_small_1 rfl (lv_at hl 1 rfl) ?_
  refine wcV_v (As := [.int (nI x)]) hx hb hC hw (k_M_clear l T F U K I O M Z G x hx9) lk_M_26 rfl rfl ⟨by show 0 + 1 ≤ R.frames; omega, by show 8 + (3 + 11) + 0 ≤ R.locals; omega⟩ (by omega) (we_Model ) rfl rfl hl.1 rfl (Nat.le_of_ble_eq_true rfl) ⟨Nat.zero_le _, Nat.zero_le _⟩ d_M_small_2 (fun H locs hw => ?_)
  refine lv_aload_n hx hb d_M_small_5 rfl (lv_at hl 0 rfl) ?_
  refine wg_Model_d hx hb hC hw bw_818 d_M_small_6 ?_
  refine lv_bipush (v := nI 108) hx hb d_M_small_9 (by decide +kernel) ?_
  refine lv_iload_n hx hb d_M_small_11 rfl (lv_at hl 1 rfl) ?_
  refine n_imul hx hb d_M_small_12 ?_
  refine lv_iload_n hx hb d_M_small_13 rfl (lv_at hl 2 rfl) ?_
  refine ws_md hx hb hw (by omega) d_M_small_14 (fun H locs hw => ?_)
  rw [show (va_up (gI I (dgm (va_up M x 0)) (va_up Z x 0) G) 1 (upd ((gI I (dgm (va_up M x 0)) (va_up Z x 0) G) 1) (108 * x) (nI v))) = (gI I (va_up (dgm (va_up M x 0)) x (va_up ((dgm (va_up M x 0)) x) 0 v)) (va_up Z x 0) G) from gI_sd (s := x) (i := 0) (by omega)] at hw
  refine lv_aload_n hx hb d_M_small_15 rfl (lv_at hl 0 rfl) ?_
  refine lv_iload_n hx hb d_M_small_16 rfl (lv_at hl 1 rfl) ?_
  rw [sm_st hv] at hw
  refine wcV_v (As := [.int (nI x)]) hx hb hC hw (k_M_trim l T F U K I O (va_up M x v) (va_up Z x 0) G x hx9 (by rw [va_up_self]; exact lim20 hv)) lk_M_30 rfl rfl ⟨by show 0 + 1 ≤ R.frames; omega, by show 8 + (3 + 11) + 0 ≤ R.locals; omega⟩ (by omega) (we_Model ) rfl rfl hl.1 rfl (Nat.le_of_ble_eq_true rfl) ⟨Nat.zero_le _, Nat.zero_le _⟩ d_M_small_17 (fun H locs hw => ?_)
  rw [va_v2, va_up_self] at hw
  exact hret _ _ _ _ hw d_M_small_20
set_option maxRecDepth 100000 in
set_option maxHeartbeats 4000000 in
theorem k_M_order (l : Launch) (T : wT) (F : wFt) (U K : wUt) (I : wIt) (O : wOt) (M Z : Nat → Nat) (G : Nat → Int32) (a b : Nat) (ha9 : a < 20) (hb9 : b < 20) (hza : Z a = lnM (M a)) (hzb : Z b = lnM (M b)) (hma : M a < mM) (hmb : M b < mM) : Met l y_M_order (.code y_M_order c_M_order 6 (some .int) :: bg) ({ frames := 0, cells := 0, slots := 0, locals := 0 } : Room) (mP T F U K (gI I (dgm M) Z G) O [.ref (wa T 91), .int (nI a), .int (nI b)]) (mQi T (cmp3 (M a) (M b)) F U K (gI I (dgm M) Z G) O) 0 0 (wA T) := by
  refine wM_i (by decide) (Nat.le_of_ble_eq_true rfl) ?_
  intro p e R s m args below meth c Q ls hx hb hC hRf hRl hret hl hw
  have hRf : 0 ≤ R.frames := hRf
  have hRl : 0 ≤ R.locals := hRl
  have hl : lv_has ls 6 [(0, .ref (wa T 91)), (1, .int (nI a)), (2, .int (nI b))] := hl
  have la := lnM_le (M a)
  have lb := lnM_le (M b)
  refine lv_aload_n hx hb d_M_order_0 rfl (lv_at hl 0 rfl) ?_
  refine wg_Model_size hx hb hC hw bw_819 d_M_order_1 ?_
  refine lv_iload_n hx hb d_M_order_4 rfl (lv_at hl 1 rfl) ?_
  refine wl_msize hx hb hw (by omega) d_M_order_5 ?_
  refine sw_i (y := nI (lnM (M a))) (congrArg nI hza) ?_
  refine lv_aload_n hx hb d_M_order_6 rfl (lv_at hl 0 rfl) ?_
  refine wg_Model_size hx hb hC hw bw_819 d_M_order_7 ?_
  refine lv_iload_n hx hb d_M_order_10 rfl (lv_at hl 2 rfl) ?_
  refine wl_msize hx hb hw (by omega) d_M_order_11 ?_
  refine sw_i (y := nI (lnM (M b))) (congrArg nI hzb) ?_
  refine n_icmp_eq (tgt := 36) hx hb d_M_order_12 (by decide) (by omega) (by omega) (fun h0 => ?_) (fun h0 => ?_)
  · refine lv_aload_n hx hb d_M_order_36 rfl (lv_at hl 0 rfl) ?_
    refine wg_Model_size hx hb hC hw bw_819 d_M_order_37 ?_
    refine lv_iload_n hx hb d_M_order_40 rfl (lv_at hl 1 rfl) ?_
    refine wl_msize hx hb hw (by omega) d_M_order_41 ?_
    refine sw_i (y := nI (lnM (M a))) (congrArg nI hza) ?_
    refine lv_iconst (v := nI 1) hx hb d_M_order_42 (by decide +kernel) ?_
    refine lv_isub hx hb d_M_order_43 ?_
    refine sw_i (y := (nI (lnM (M a)) - 1)) (rfl) ?_
    refine lv_istore_n hx hb d_M_order_44 rfl hl (by decide) rfl (fun ls hl => ?_)
    have hl : lv_has ls 6 [(3, .int (nI (lnM (M a)) - 1)), (0, .ref (wa T 91)), (1, .int (nI a)), (2, .int (nI b))] := hl
    have lp : ∀ (q : Nat)  (ls : Array Slot) (H : Heap) (locs : List Loc), (M a / b20 ^ q = M b / b20 ^ q) → (q ≤ 108) →  lv_has ls 6 [(3, .int (nI q - 1)), (0, .ref (wa T 91)), (1, .int (nI a)), (2, .int (nI b))] → wH T F U K (gI I (dgm M) Z G) O (wA T) s s.heap H locs → W p l e R s m args below meth c H locs 0 0 Q (F0 m 45 ls []) := by
      intro q
      induction q with
      | zero =>
        intro  ls H locs h1 h2 hl hw
        refine lv_iload_n hx hb d_M_order_45 rfl (lv_at hl 0 rfl) ?_
        refine d_if_lt (tgt := 101) hx hb d_M_order_46 (by decide) (by omega) (fun h0 => ?_) (fun h0 => ?_)
        · refine lv_iconst (v := nI 0) hx hb d_M_order_101 (by decide +kernel) ?_
          have h9 : cmp3 (M a) (M b) = nI 0 := cmp3_eq (by rw [Nat.pow_zero, Nat.div_one, Nat.div_one] at h1; exact h1)
          rw [h9] at hret
          exact hret _ _ _ _ hw d_M_order_102
        · exact absurd h0 (by omega)
      | succ r ih =>
        intro  ls H locs h1 h2 hl hw
        rw [nI_pred] at hl
        have hl : lv_has ls 6 [(3, .int (nI r)), (0, .ref (wa T 91)), (1, .int (nI a)), (2, .int (nI b))] := hl
        refine lv_iload_n hx hb d_M_order_45 rfl (lv_at hl 0 rfl) ?_
        refine n_if_lt hx hb d_M_order_46 (by decide) (by omega) ?_
        have xa := dgm_lt (M a) r
        have xb := dgm_lt (M b) r
        refine lv_aload_n hx hb d_M_order_49 rfl (lv_at hl 1 rfl) ?_
        refine wg_Model_d hx hb hC hw bw_818 d_M_order_50 ?_
        refine lv_bipush (v := nI 108) hx hb d_M_order_53 (by decide +kernel) ?_
        refine lv_iload_n hx hb d_M_order_55 rfl (lv_at hl 2 rfl) ?_
        refine n_imul hx hb d_M_order_56 ?_
        refine lv_iload_n hx hb d_M_order_57 rfl (lv_at hl 0 rfl) ?_
        refine n_iadd hx hb d_M_order_58 ?_
        refine wl_md hx hb hw (by omega) d_M_order_59 ?_
        refine sw_i (y := nI (dg (M a) r)) (gI_d (s := a) (i := r) (by omega)) ?_
        refine lv_istore hx hb d_M_order_60 hl (by decide) rfl (fun ls hl => ?_)
        have hl : lv_has ls 6 [(4, .int (nI (dg (M a) r))), (3, .int (nI r)), (0, .ref (wa T 91)), (1, .int (nI a)), (2, .int (nI b))] := hl
        refine lv_aload_n hx hb d_M_order_62 rfl (lv_at hl 2 rfl) ?_
        refine wg_Model_d hx hb hC hw bw_818 d_M_order_63 ?_
        refine lv_bipush (v := nI 108) hx hb d_M_order_66 (by decide +kernel) ?_
        refine lv_iload_n hx hb d_M_order_68 rfl (lv_at hl 4 rfl) ?_
        refine n_imul hx hb d_M_order_69 ?_
        refine lv_iload_n hx hb d_M_order_70 rfl (lv_at hl 1 rfl) ?_
        refine n_iadd hx hb d_M_order_71 ?_
        refine wl_md hx hb hw (by omega) d_M_order_72 ?_
        refine sw_i (y := nI (dg (M b) r)) (gI_d (s := b) (i := r) (by omega)) ?_
        refine lv_istore hx hb d_M_order_73 hl (by decide) rfl (fun ls hl => ?_)
        have hl : lv_has ls 6 [(5, .int (nI (dg (M b) r))), (4, .int (nI (dg (M a) r))), (3, .int (nI r)), (0, .ref (wa T 91)), (1, .int (nI a)), (2, .int (nI b))] := hl
        refine lv_iload hx hb d_M_order_75 (lv_at hl 1 rfl) ?_
        refine lv_iload hx hb d_M_order_77 (lv_at hl 0 rfl) ?_
        refine n_icmp_eq (tgt := 95) hx hb d_M_order_79 (by decide) (by omega) (by omega) (fun h3 => ?_) (fun h3 => ?_)
        · refine lv_iinc (v := (nI r - 1)) hx hb d_M_order_95 hl (k := 2) rfl (i32_m1 _) (by decide) rfl (fun ls hl => ?_)
          have hl : lv_has ls 6 [(3, .int (nI r - 1)), (5, .int (nI (dg (M b) r))), (4, .int (nI (dg (M a) r))), (0, .ref (wa T 91)), (1, .int (nI a)), (2, .int (nI b))] := hl
          refine lv_goto (tgt := 45) hx hb d_M_order_98 (by decide) ?_
          have hl := lv_sub hl [0, 3, 4, 5] rfl
          have hl : lv_has ls 6 [(3, .int (nI r - 1)), (0, .ref (wa T 91)), (1, .int (nI a)), (2, .int (nI b))] := hl
          exact ih ls H locs (by rw [dv_s (M a), dv_s (M b), h1, h3]) (by omega) hl hw
        · refine lv_iload hx hb d_M_order_82 (lv_at hl 1 rfl) ?_
          refine lv_iload hx hb d_M_order_84 (lv_at hl 0 rfl) ?_
          refine n_icmp_ge (tgt := 93) hx hb d_M_order_86 (by decide) (by omega) (by omega) (fun h4 => ?_) (fun h4 => ?_)
          · refine lv_iconst (v := nI 1) hx hb d_M_order_93 (by decide +kernel) ?_
            have h9 : cmp3 (M a) (M b) = nI 1 := cmp3_gt (lt_of_dg h1.symm (by omega))
            rw [h9] at hret
            exact hret _ _ _ _ hw d_M_order_94
          · refine lv_iconst (v := (-1)) hx hb d_M_order_89 (by decide +kernel) ?_
            refine lv_goto (tgt := 94) hx hb d_M_order_90 (by decide) ?_
            have h9 : cmp3 (M a) (M b) = -1 := cmp3_lt (lt_of_dg h1 h4)
            rw [h9] at hret
            exact hret _ _ _ _ hw d_M_order_94
    exact lp (lnM (M a)) ls _ _ (by rw [Nat.div_eq_of_lt (lnM_lt hma), h0, Nat.div_eq_of_lt (lnM_lt hmb)]) (by omega) hl hw
  · refine lv_aload_n hx hb d_M_order_15 rfl (lv_at hl 0 rfl) ?_
    refine wg_Model_size hx hb hC hw bw_819 d_M_order_16 ?_
    refine lv_iload_n hx hb d_M_order_19 rfl (lv_at hl 1 rfl) ?_
    refine wl_msize hx hb hw (by omega) d_M_order_20 ?_
    refine sw_i (y := nI (lnM (M a))) (congrArg nI hza) ?_
    refine lv_aload_n hx hb d_M_order_21 rfl (lv_at hl 0 rfl) ?_
    refine wg_Model_size hx hb hC hw bw_819 d_M_order_22 ?_
    refine lv_iload_n hx hb d_M_order_25 rfl (lv_at hl 2 rfl) ?_
    refine wl_msize hx hb hw (by omega) d_M_order_26 ?_
    refine sw_i (y := nI (lnM (M b))) (congrArg nI hzb) ?_
    refine n_icmp_ge (tgt := 34) hx hb d_M_order_27 (by decide) (by omega) (by omega) (fun h1 => ?_) (fun h1 => ?_)
    · refine lv_iconst (v := nI 1) hx hb d_M_order_34 (by decide +kernel) ?_
      have h9 : cmp3 (M a) (M b) = nI 1 := cmp3_gt (lt_of_ln hmb (by omega))
      rw [h9] at hret
      exact hret _ _ _ _ hw d_M_order_35
    · refine lv_iconst (v := (-1)) hx hb d_M_order_30 (by decide +kernel) ?_
      refine lv_goto (tgt := 35) hx hb d_M_order_31 (by decide) ?_
      have h9 : cmp3 (M a) (M b) = -1 := cmp3_lt (lt_of_ln hma h1)
      rw [h9] at hret
      exact hret _ _ _ _ hw d_M_order_35
set_option maxRecDepth 100000 in
set_option maxHeartbeats 4000000 in
theorem k_M_plus (l : Launch) (T : wT) (F : wFt) (U K : wUt) (I : wIt) (O : wOt) (M Z : Nat → Nat) (G : Nat → Int32) (a b t : Nat) (ha9 : a < 20) (hb9 : b < 20) (ht9 : t < 20) (hs : M a + M b < mM) : Met l y_M_plus (.code y_M_plus c_M_plus 7 none :: bg) ({ frames := 1, cells := 0, slots := 0, locals := 22 } : Room) (mP T F U K (gI I (dgm M) Z G) O [.ref (wa T 91), .int (nI a), .int (nI b), .int (nI t)]) (mQv T F U K (gI I (dgm (va_up M t (M a + M b))) (va_up Z t (lnM (M a + M b))) G) O) 0 0 (wA T) := by
  refine wM_v (by decide) (Nat.le_of_ble_eq_true rfl) ?_
  intro p e R s m args below meth c Q ls hx hb hC hRf hRl hret hl hw
  have hRf : 1 ≤ R.frames := hRf
  have hRl : 22 ≤ R.locals := hRl
  have hl : lv_has ls 7 [(0, .ref (wa T 91)), (1, .int (nI a)), (2, .int (nI b)), (3, .int (nI t))] := hl
  refine lv_iconst (v := nI 0) hx hb d_M_plus_0 (by decide +kernel) ?_
  refine lv_istore hx hb d_M_plus_1 hl (by decide) rfl (fun ls hl => ?_)
  have hl : lv_has ls 7 [(4, .int (nI 0)), (0, .ref (wa T 91)), (1, .int (nI a)), (2, .int (nI b)), (3, .int (nI t))] := hl
  refine lv_iconst (v := nI 0) hx hb d_M_plus_3 (by decide +kernel) ?_
  refine lv_istore hx hb d_M_plus_4 hl (by decide) rfl (fun ls hl => ?_)
  have hl : lv_has ls 7 [(5, .int (nI 0)), (4, .int (nI 0)), (0, .ref (wa T 91)), (1, .int (nI a)), (2, .int (nI b)), (3, .int (nI t))] := hl
  rw [show gI I (dgm M) Z G = gI I (va_up (dgm M) t (mx (dg (M a + M b)) ((dgm M) t) 0)) Z G from by rw [mx_start]] at hw
  have ecy : nI 0 = nI (cyS (M a) (M b) 0) := by rw [cyS_0]
  have hl : lv_has ls 7 [(5, .int (nI 0)), (4, .int (nI (cyS (M a) (M b) 0))), (0, .ref (wa T 91)), (1, .int (nI a)), (2, .int (nI b)), (3, .int (nI t))] := by rw [← ecy]; exact hl
  have lp : ∀ (z9 i : Nat)  (ls : Array Slot) (H : Heap) (locs : List Loc), 108 - i = z9 → i ≤ 108 →  lv_has ls 7 [(5, .int (nI i)), (4, .int (nI (cyS (M a) (M b) i))), (0, .ref (wa T 91)), (1, .int (nI a)), (2, .int (nI b)), (3, .int (nI t))] → wH T F U K (gI I (va_up (dgm M) t (mx (dg (M a + M b)) ((dgm M) t) i)) Z G) O (wA T) s s.heap H locs → W p l e R s m args below meth c H locs 0 0 Q (F0 m 6 ls []) := by
    intro z9
    induction z9 with
    | zero =>
      intro i  ls H locs hn hle  hl hw
      refine lv_iload hx hb d_M_plus_6 (lv_at hl 0 rfl) ?_
      refine lv_bipush (v := nI 108) hx hb d_M_plus_8 (by decide +kernel) ?_
      refine n_icmp_ge (tgt := 73) hx hb d_M_plus_10 (by decide) (by omega) (by omega) (fun h0 => ?_) (fun h0 => ?_)
      · have e9 : 108 = i := by omega
        rw [show i = 108 by omega, mx_full, dgm_up] at hw
        refine lv_aload_n hx hb d_M_plus_73 rfl (lv_at hl 2 rfl) ?_
        refine lv_iload_n hx hb d_M_plus_74 rfl (lv_at hl 5 rfl) ?_
        refine wcV_v (As := [.int (nI t)]) hx hb hC hw (k_M_trim l T F U K I O (va_up M t (M a + M b)) Z G t ht9 (by rw [va_up_self]; exact hs)) lk_M_30 rfl rfl ⟨by show 0 + 1 ≤ R.frames; omega, by show 8 + (3 + 11) + 0 ≤ R.locals; omega⟩ (by omega) (we_Model ) rfl rfl hl.1 rfl (Nat.le_of_ble_eq_true rfl) ⟨Nat.zero_le _, Nat.zero_le _⟩ d_M_plus_75 (fun H locs hw => ?_)
        rw [va_up_self] at hw
        exact hret _ _ _ _ hw d_M_plus_78
      · exact absurd h0 (by omega)
    | succ z9 ih =>
      intro i  ls H locs hn hle  hl hw
      refine lv_iload hx hb d_M_plus_6 (lv_at hl 0 rfl) ?_
      refine lv_bipush (v := nI 108) hx hb d_M_plus_8 (by decide +kernel) ?_
      refine n_icmp_ge (tgt := 73) hx hb d_M_plus_10 (by decide) (by omega) (by omega) (fun h0 => ?_) (fun h0 => ?_)
      · exact absurd h0 (by omega)
      · have xa := dgm_lt (M a) i
        have xb := dgm_lt (M b) i
        have xc := cyS_le (M a) (M b) i
        refine lv_aload_n hx hb d_M_plus_13 rfl (lv_at hl 2 rfl) ?_
        refine wg_Model_d hx hb hC hw bw_818 d_M_plus_14 ?_
        refine lv_bipush (v := nI 108) hx hb d_M_plus_17 (by decide +kernel) ?_
        refine lv_iload_n hx hb d_M_plus_19 rfl (lv_at hl 3 rfl) ?_
        refine n_imul hx hb d_M_plus_20 ?_
        refine lv_iload hx hb d_M_plus_21 (lv_at hl 0 rfl) ?_
        refine n_iadd hx hb d_M_plus_23 ?_
        refine wl_md hx hb hw (by omega) d_M_plus_24 ?_
        refine sw_i (y := nI (dg (M a) i)) ((gI_d (s := a) (i := i) (by omega)).trans (congrArg nI (mx_rd (D := dgm M) a))) ?_
        refine lv_aload_n hx hb d_M_plus_25 rfl (lv_at hl 2 rfl) ?_
        refine wg_Model_d hx hb hC hw bw_818 d_M_plus_26 ?_
        refine lv_bipush (v := nI 108) hx hb d_M_plus_29 (by decide +kernel) ?_
        refine lv_iload_n hx hb d_M_plus_31 rfl (lv_at hl 4 rfl) ?_
        refine n_imul hx hb d_M_plus_32 ?_
        refine lv_iload hx hb d_M_plus_33 (lv_at hl 0 rfl) ?_
        refine n_iadd hx hb d_M_plus_35 ?_
        refine wl_md hx hb hw (by omega) d_M_plus_36 ?_
        refine sw_i (y := nI (dg (M b) i)) ((gI_d (s := b) (i := i) (by omega)).trans (congrArg nI (mx_rd (D := dgm M) b))) ?_
        refine n_iadd hx hb d_M_plus_37 ?_
        refine lv_iload hx hb d_M_plus_38 (lv_at hl 1 rfl) ?_
        refine n_iadd hx hb d_M_plus_40 ?_
        refine lv_istore hx hb d_M_plus_41 hl (by decide) rfl (fun ls hl => ?_)
        have hl : lv_has ls 7 [(6, .int (nI (((dg (M a) i) + (dg (M b) i)) + (cyS (M a) (M b) i)))), (5, .int (nI i)), (4, .int (nI (cyS (M a) (M b) i))), (0, .ref (wa T 91)), (1, .int (nI a)), (2, .int (nI b)), (3, .int (nI t))] := hl
        refine lv_aload_n hx hb d_M_plus_43 rfl (lv_at hl 3 rfl) ?_
        refine wg_Model_d hx hb hC hw bw_818 d_M_plus_44 ?_
        refine lv_bipush (v := nI 108) hx hb d_M_plus_47 (by decide +kernel) ?_
        refine lv_iload_n hx hb d_M_plus_49 rfl (lv_at hl 6 rfl) ?_
        refine n_imul hx hb d_M_plus_50 ?_
        refine lv_iload hx hb d_M_plus_51 (lv_at hl 1 rfl) ?_
        refine n_iadd hx hb d_M_plus_53 ?_
        refine lv_iload hx hb d_M_plus_54 (lv_at hl 0 rfl) ?_
        refine lv_ldc (v := nI 1048575) hx hb hC.ow (hC.hts bw_889) d_M_plus_56 ?_
        refine lv_iand hx hb d_M_plus_58 ?_
        refine sw_i (y := nI (dg (M a + M b) i)) ((mk_and (by omega)).trans (congrArg nI (dg_sum _ _ _).symm)) ?_
        refine ws_md hx hb hw (by omega) d_M_plus_59 (fun H locs hw => ?_)
        rw [show (va_up (gI I (va_up (dgm M) t (mx (dg (M a + M b)) ((dgm M) t) i)) Z G) 1 (upd ((gI I (va_up (dgm M) t (mx (dg (M a + M b)) ((dgm M) t) i)) Z G) 1) ((108 * t) + i) (nI (dg (M a + M b) i)))) = (gI I (va_up (va_up (dgm M) t (mx (dg (M a + M b)) ((dgm M) t) i)) t (va_up ((va_up (dgm M) t (mx (dg (M a + M b)) ((dgm M) t) i)) t) i (dg (M a + M b) i))) Z G) from gI_sd (s := t) (i := i) (by omega)] at hw
        rw [mx_st rfl] at hw
        refine lv_iload hx hb d_M_plus_60 (lv_at hl 0 rfl) ?_
        refine lv_bipush (v := nI 20) hx hb d_M_plus_62 (by decide +kernel) ?_
        refine lv_ishr hx hb d_M_plus_64 ?_
        refine sw_i (y := nI (cyS (M a) (M b) (i + 1))) ((mk_shr (by omega)).trans (congrArg nI (cyS_s _ _ _).symm)) ?_
        refine lv_istore hx hb d_M_plus_65 hl (by decide) rfl (fun ls hl => ?_)
        have hl : lv_has ls 7 [(4, .int (nI (cyS (M a) (M b) (i + 1)))), (6, .int (nI (((dg (M a) i) + (dg (M b) i)) + (cyS (M a) (M b) i)))), (5, .int (nI i)), (0, .ref (wa T 91)), (1, .int (nI a)), (2, .int (nI b)), (3, .int (nI t))] := hl
        refine lv_iinc (v := nI (i + 1)) hx hb d_M_plus_67 hl (k := 2) rfl (nI_add _ 1) (by decide) rfl (fun ls hl => ?_)
        have hl : lv_has ls 7 [(5, .int (nI (i + 1))), (4, .int (nI (cyS (M a) (M b) (i + 1)))), (6, .int (nI (((dg (M a) i) + (dg (M b) i)) + (cyS (M a) (M b) i)))), (0, .ref (wa T 91)), (1, .int (nI a)), (2, .int (nI b)), (3, .int (nI t))] := hl
        refine lv_goto (tgt := 6) hx hb d_M_plus_70 (by decide) ?_
        have hl := lv_sub hl [0, 1, 3, 4, 5, 6] rfl
        have hl : lv_has ls 7 [(5, .int (nI (i + 1))), (4, .int (nI (cyS (M a) (M b) (i + 1)))), (0, .ref (wa T 91)), (1, .int (nI a)), (2, .int (nI b)), (3, .int (nI t))] := hl
        exact ih (i + 1) ls _ _ (by omega) (by omega) hl hw
  exact lp 108 0 ls _ _ (by omega) (by omega) hl hw
set_option maxRecDepth 100000 in
set_option maxHeartbeats 4000000 in
theorem k_M_minus (l : Launch) (T : wT) (F : wFt) (U K : wUt) (I : wIt) (O : wOt) (M Z : Nat → Nat) (G : Nat → Int32) (a b t : Nat) (ha9 : a < 20) (hb9 : b < 20) (ht9 : t < 20) (hs : M b ≤ M a) (hma : M a < mM) : Met l y_M_minus (.code y_M_minus c_M_minus 7 none :: bg) ({ frames := 1, cells := 0, slots := 0, locals := 22 } : Room) (mP T F U K (gI I (dgm M) Z G) O [.ref (wa T 91), .int (nI a), .int (nI b), .int (nI t)]) (mQv T F U K (gI I (dgm (va_up M t (M a - M b))) (va_up Z t (lnM (M a - M b))) G) O) 0 0 (wA T) := by
  refine wM_v (by decide) (Nat.le_of_ble_eq_true rfl) ?_
  intro p e R s m args below meth c Q ls hx hb hC hRf hRl hret hl hw
  have hRf : 1 ≤ R.frames := hRf
  have hRl : 22 ≤ R.locals := hRl
  have hl : lv_has ls 7 [(0, .ref (wa T 91)), (1, .int (nI a)), (2, .int (nI b)), (3, .int (nI t))] := hl
  refine lv_iconst (v := nI 0) hx hb d_M_minus_0 (by decide +kernel) ?_
  refine lv_istore hx hb d_M_minus_1 hl (by decide) rfl (fun ls hl => ?_)
  have hl : lv_has ls 7 [(4, .int (nI 0)), (0, .ref (wa T 91)), (1, .int (nI a)), (2, .int (nI b)), (3, .int (nI t))] := hl
  refine lv_iconst (v := nI 0) hx hb d_M_minus_3 (by decide +kernel) ?_
  refine lv_istore hx hb d_M_minus_4 hl (by decide) rfl (fun ls hl => ?_)
  have hl : lv_has ls 7 [(5, .int (nI 0)), (4, .int (nI 0)), (0, .ref (wa T 91)), (1, .int (nI a)), (2, .int (nI b)), (3, .int (nI t))] := hl
  rw [show gI I (dgm M) Z G = gI I (va_up (dgm M) t (mx (dg (M a - M b)) ((dgm M) t) 0)) Z G from by rw [mx_start]] at hw
  have ecy : nI 0 = (-(nI (cyD (M a) (M b) 0))) := by rw [cyD_0]; first | done | decide +kernel
  have hl : lv_has ls 7 [(5, .int (nI 0)), (4, .int (-(nI (cyD (M a) (M b) 0)))), (0, .ref (wa T 91)), (1, .int (nI a)), (2, .int (nI b)), (3, .int (nI t))] := by rw [← ecy]; exact hl
  have lp : ∀ (z9 i : Nat)  (ls : Array Slot) (H : Heap) (locs : List Loc), 108 - i = z9 → i ≤ 108 →  lv_has ls 7 [(5, .int (nI i)), (4, .int (-(nI (cyD (M a) (M b) i)))), (0, .ref (wa T 91)), (1, .int (nI a)), (2, .int (nI b)), (3, .int (nI t))] → wH T F U K (gI I (va_up (dgm M) t (mx (dg (M a - M b)) ((dgm M) t) i)) Z G) O (wA T) s s.heap H locs → W p l e R s m args below meth c H locs 0 0 Q (F0 m 6 ls []) := by
    intro z9
    induction z9 with
    | zero =>
      intro i  ls H locs hn hle  hl hw
      refine lv_iload hx hb d_M_minus_6 (lv_at hl 0 rfl) ?_
      refine lv_bipush (v := nI 108) hx hb d_M_minus_8 (by decide +kernel) ?_
      refine n_icmp_ge (tgt := 73) hx hb d_M_minus_10 (by decide) (by omega) (by omega) (fun h0 => ?_) (fun h0 => ?_)
      · have e9 : 108 = i := by omega
        rw [show i = 108 by omega, mx_full, dgm_up] at hw
        refine lv_aload_n hx hb d_M_minus_73 rfl (lv_at hl 2 rfl) ?_
        refine lv_iload_n hx hb d_M_minus_74 rfl (lv_at hl 5 rfl) ?_
        refine wcV_v (As := [.int (nI t)]) hx hb hC hw (k_M_trim l T F U K I O (va_up M t (M a - M b)) Z G t ht9 (by rw [va_up_self]; omega)) lk_M_30 rfl rfl ⟨by show 0 + 1 ≤ R.frames; omega, by show 8 + (3 + 11) + 0 ≤ R.locals; omega⟩ (by omega) (we_Model ) rfl rfl hl.1 rfl (Nat.le_of_ble_eq_true rfl) ⟨Nat.zero_le _, Nat.zero_le _⟩ d_M_minus_75 (fun H locs hw => ?_)
        rw [va_up_self] at hw
        exact hret _ _ _ _ hw d_M_minus_78
      · exact absurd h0 (by omega)
    | succ z9 ih =>
      intro i  ls H locs hn hle  hl hw
      refine lv_iload hx hb d_M_minus_6 (lv_at hl 0 rfl) ?_
      refine lv_bipush (v := nI 108) hx hb d_M_minus_8 (by decide +kernel) ?_
      refine n_icmp_ge (tgt := 73) hx hb d_M_minus_10 (by decide) (by omega) (by omega) (fun h0 => ?_) (fun h0 => ?_)
      · exact absurd h0 (by omega)
      · have xa := dgm_lt (M a) i
        have xb := dgm_lt (M b) i
        have xc := cyD_le (M a) (M b) i
        refine lv_aload_n hx hb d_M_minus_13 rfl (lv_at hl 2 rfl) ?_
        refine wg_Model_d hx hb hC hw bw_818 d_M_minus_14 ?_
        refine lv_bipush (v := nI 108) hx hb d_M_minus_17 (by decide +kernel) ?_
        refine lv_iload_n hx hb d_M_minus_19 rfl (lv_at hl 3 rfl) ?_
        refine n_imul hx hb d_M_minus_20 ?_
        refine lv_iload hx hb d_M_minus_21 (lv_at hl 0 rfl) ?_
        refine n_iadd hx hb d_M_minus_23 ?_
        refine wl_md hx hb hw (by omega) d_M_minus_24 ?_
        refine sw_i (y := nI (dg (M a) i)) ((gI_d (s := a) (i := i) (by omega)).trans (congrArg nI (mx_rd (D := dgm M) a))) ?_
        refine lv_aload_n hx hb d_M_minus_25 rfl (lv_at hl 2 rfl) ?_
        refine wg_Model_d hx hb hC hw bw_818 d_M_minus_26 ?_
        refine lv_bipush (v := nI 108) hx hb d_M_minus_29 (by decide +kernel) ?_
        refine lv_iload_n hx hb d_M_minus_31 rfl (lv_at hl 4 rfl) ?_
        refine n_imul hx hb d_M_minus_32 ?_
        refine lv_iload hx hb d_M_minus_33 (lv_at hl 0 rfl) ?_
        refine n_iadd hx hb d_M_minus_35 ?_
        refine wl_md hx hb hw (by omega) d_M_minus_36 ?_
        refine sw_i (y := nI (dg (M b) i)) ((gI_d (s := b) (i := i) (by omega)).trans (congrArg nI (mx_rd (D := dgm M) b))) ?_
        refine lv_isub hx hb d_M_minus_37 ?_
        refine lv_iload hx hb d_M_minus_38 (lv_at hl 1 rfl) ?_
        refine lv_iadd hx hb d_M_minus_40 ?_
        refine lv_istore hx hb d_M_minus_41 hl (by decide) rfl (fun ls hl => ?_)
        have hl : lv_has ls 7 [(6, .int ((nI (dg (M a) i) - nI (dg (M b) i)) + (-(nI (cyD (M a) (M b) i))))), (5, .int (nI i)), (4, .int (-(nI (cyD (M a) (M b) i)))), (0, .ref (wa T 91)), (1, .int (nI a)), (2, .int (nI b)), (3, .int (nI t))] := hl
        refine lv_aload_n hx hb d_M_minus_43 rfl (lv_at hl 3 rfl) ?_
        refine wg_Model_d hx hb hC hw bw_818 d_M_minus_44 ?_
        refine lv_bipush (v := nI 108) hx hb d_M_minus_47 (by decide +kernel) ?_
        refine lv_iload_n hx hb d_M_minus_49 rfl (lv_at hl 6 rfl) ?_
        refine n_imul hx hb d_M_minus_50 ?_
        refine lv_iload hx hb d_M_minus_51 (lv_at hl 1 rfl) ?_
        refine n_iadd hx hb d_M_minus_53 ?_
        refine lv_iload hx hb d_M_minus_54 (lv_at hl 0 rfl) ?_
        refine lv_ldc (v := nI 1048575) hx hb hC.ow (hC.hts bw_889) d_M_minus_56 ?_
        refine lv_iand hx hb d_M_minus_58 ?_
        refine sw_i (y := nI (dg (M a - M b) i)) ((mk_and2 xa xb xc).trans (congrArg nI (dg_dif hs i).symm)) ?_
        refine ws_md hx hb hw (by omega) d_M_minus_59 (fun H locs hw => ?_)
        rw [show (va_up (gI I (va_up (dgm M) t (mx (dg (M a - M b)) ((dgm M) t) i)) Z G) 1 (upd ((gI I (va_up (dgm M) t (mx (dg (M a - M b)) ((dgm M) t) i)) Z G) 1) ((108 * t) + i) (nI (dg (M a - M b) i)))) = (gI I (va_up (va_up (dgm M) t (mx (dg (M a - M b)) ((dgm M) t) i)) t (va_up ((va_up (dgm M) t (mx (dg (M a - M b)) ((dgm M) t) i)) t) i (dg (M a - M b) i))) Z G) from gI_sd (s := t) (i := i) (by omega)] at hw
        rw [mx_st rfl] at hw
        refine lv_iload hx hb d_M_minus_60 (lv_at hl 0 rfl) ?_
        refine lv_bipush (v := nI 20) hx hb d_M_minus_62 (by decide +kernel) ?_
        refine lv_ishr hx hb d_M_minus_64 ?_
        refine sw_i (y := (-(nI (cyD (M a) (M b) (i + 1))))) ((mk_shr2 xa xb xc).trans (by rw [cyD_s])) ?_
        refine lv_istore hx hb d_M_minus_65 hl (by decide) rfl (fun ls hl => ?_)
        have hl : lv_has ls 7 [(4, .int (-(nI (cyD (M a) (M b) (i + 1))))), (6, .int ((nI (dg (M a) i) - nI (dg (M b) i)) + (-(nI (cyD (M a) (M b) i))))), (5, .int (nI i)), (0, .ref (wa T 91)), (1, .int (nI a)), (2, .int (nI b)), (3, .int (nI t))] := hl
        refine lv_iinc (v := nI (i + 1)) hx hb d_M_minus_67 hl (k := 2) rfl (nI_add _ 1) (by decide) rfl (fun ls hl => ?_)
        have hl : lv_has ls 7 [(5, .int (nI (i + 1))), (4, .int (-(nI (cyD (M a) (M b) (i + 1))))), (6, .int ((nI (dg (M a) i) - nI (dg (M b) i)) + (-(nI (cyD (M a) (M b) i))))), (0, .ref (wa T 91)), (1, .int (nI a)), (2, .int (nI b)), (3, .int (nI t))] := hl
        refine lv_goto (tgt := 6) hx hb d_M_minus_70 (by decide) ?_
        have hl := lv_sub hl [0, 1, 3, 4, 5, 6] rfl
        have hl : lv_has ls 7 [(5, .int (nI (i + 1))), (4, .int (-(nI (cyD (M a) (M b) (i + 1))))), (0, .ref (wa T 91)), (1, .int (nI a)), (2, .int (nI b)), (3, .int (nI t))] := hl
        exact ih (i + 1) ls _ _ (by omega) (by omega) hl hw
  exact lp 108 0 ls _ _ (by omega) (by omega) hl hw
