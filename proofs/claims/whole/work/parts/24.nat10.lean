/-! how many bits -/
def bl (v : Nat) : Nat := lm_len 2 v 2100
theorem vLim_two : vLim = 2 ^ 2100 := by unfold vLim; rw [vB_two]
theorem bl_lt {v : Nat} (h : v < vLim) : v < 2 ^ bl v := lm_len_lt (by decide) (by rw [← vLim_two]; exact h)
theorem bl_ge {v : Nat} (h : 0 < bl v) : 2 ^ (bl v - 1) ≤ v := lm_len_ge h
theorem bl_eq {v k : Nat} (h1 : v < 2 ^ k) (h2 : 0 < k → 2 ^ (k - 1) ≤ v) (h : k ≤ 2100) : bl v = k := lm_len_eq (by decide) h1 h2 h
theorem bl_mono {v k : Nat} (hv : v < 2 ^ k) : bl v ≤ k := by
  apply Nat.le_of_not_lt
  intro h
  have h1 := bl_ge (v := v) (by omega)
  have h2 : 2 ^ k ≤ 2 ^ (bl v - 1) := Nat.pow_le_pow_right (by decide) (by omega)
  omega
theorem bl_0 : bl 0 = 0 := bl_eq (by decide) (fun h => absurd h (by decide)) (by decide)
theorem bl_pos {v : Nat} (hv : v < vLim) (h : 0 < v) : 0 < bl v := by
  apply Nat.pos_of_ne_zero
  intro q
  have := bl_lt hv
  rw [q] at this
  omega
theorem bl_le (v : Nat) : bl v ≤ 2100 := lm_len_le _ _ _
theorem bl_shift {m s : Nat} (hm : m < vLim) (h : 2 ^ s ≤ m) : bl m = bl (m / 2 ^ s) + s := by
  have h1 := bl_lt hm
  have h0 : 0 < 2 ^ s := Nat.two_pow_pos s
  have h2 := bl_pos hm (by omega)
  have h3 := bl_ge h2
  have h4 : s < bl m := by
    apply Nat.lt_of_not_le
    intro q
    have : 2 ^ bl m ≤ 2 ^ s := Nat.pow_le_pow_right (by decide) q
    omega
  have h5 : bl (m / 2 ^ s) = bl m - s := by
    refine bl_eq ?_ (fun _ => ?_) (by have := bl_le m; omega)
    · apply Nat.div_lt_of_lt_mul
      rw [← Nat.pow_add, show s + (bl m - s) = bl m by omega]; exact h1
    · rw [Nat.le_div_iff_mul_le h0, ← Nat.pow_add, show bl m - s - 1 + s = bl m - 1 by omega]; exact h3
  omega
theorem bl_3 {m : Nat} (h0 : 0 < m) (h : m < 4) : m / 2 + 1 = bl m := by
  have e : m = 1 ∨ m = 2 ∨ m = 3 := by omega
  rcases e with rfl | rfl | rfl
  · exact (bl_eq (k := 1) (by decide) (by decide) (by decide)).symm
  · exact (bl_eq (k := 2) (by decide) (by decide) (by decide)).symm
  · exact (bl_eq (k := 2) (by decide) (by decide) (by decide)).symm
theorem lim_31 {m : Nat} (h : m < 2147483648) : m < vLim := by
  rw [vLim_two]; exact Nat.lt_of_lt_of_le (show m < 2 ^ 31 from h) (Nat.pow_le_pow_right (by decide) (by decide))
theorem bl_top {v : Nat} (h : v < vLim) (hk : 0 < kD v) : bl v = 28 * (kD v - 1) + bl (v / vB ^ (kD v - 1)) ∧ 0 < v / vB ^ (kD v - 1) ∧ v / vB ^ (kD v - 1) < 268435456 ∧ v / vB ^ (kD v - 1) % vB = v / vB ^ (kD v - 1) := by
  have h1 := kD_ge hk
  have h2 := kD_lt h
  have h4 : v / vB ^ (kD v - 1) < vB := by
    apply Nat.div_lt_of_lt_mul
    rw [← Nat.pow_succ, show (kD v - 1).succ = kD v by omega]; exact h2
  have h5 := Nat.div_pos h1 (Nat.pow_pos vB_pos)
  refine ⟨?_, h5, h4, Nat.mod_eq_of_lt h4⟩
  rw [vB_two] at h1
  have := bl_shift h h1
  rw [← vB_two] at this
  omega
theorem bl_kD {v : Nat} (h : v < vLim) : bl v ≤ 28 * kD v := by
  apply bl_mono; rw [← vB_two]; exact kD_lt h
theorem nI_decr {a k : Nat} {z : Int32} (hz : z = -(nI k)) (h : k ≤ a) : nI a + z = nI (a - k) := by rw [hz, ← Int32.sub_eq_add_neg, pk_sub h]

set_option maxRecDepth 100000 in
set_option maxHeartbeats 4000000 in
theorem k_JI_nlz (l : Launch) (T : wT) (F : wFt) (U K : wUt) (I : wIt) (O : wOt) (n : Nat) (h0 : 0 < n) (hn : n < 2147483648) : Met l y_JI_numberOfLeadingZeros (.code y_JI_numberOfLeadingZeros c_JI_numberOfLeadingZeros 2 (some .int) :: bg) ({ frames := 0, cells := 0, slots := 0, locals := 0 } : Room) (mP T F U K I O [.int (nI n)]) (mQi T (nI (32 - bl n)) F U K I O) 0 0 (wA T) := by
  refine wM_i (by decide) (Nat.le_of_ble_eq_true rfl) ?_
  intro p e R s m args below meth c Q ls hx hb hC hRf hRl hret hl hw
  have hRf : 0 ≤ R.frames := hRf
  have hRl : 0 ≤ R.locals := hRl
  have hl : lv_has ls 2 [(0, .int (nI n))] := hl
  have s73 : ∀ (t q : Nat) (ls : Array Slot) (H : Heap) (locs : List Loc), 0 < q → q < 4 → t ≤ 31 → bl n + t = 31 + bl q → lv_has ls 2 [(1, .int (nI t)), (0, .int (nI q))] → wH T F U K I O (wA T) s s.heap H locs → W p l e R s m args below meth c H locs 0 0 Q (F0 m 73 ls []) := by
    intro t q ls H locs hq hb2 ht hr hl hw
    have h3 := bl_3 hq hb2
    have hbn : 0 < bl n := bl_pos (lim_31 hn) h0
    have hbn2 : bl n ≤ 31 := bl_mono (show n < 2 ^ 31 from hn)
    refine lv_iload_n hx hb d_JI_numberOfLeadingZeros_73 rfl (lv_at hl 0 rfl) ?_
    refine lv_iload_n hx hb d_JI_numberOfLeadingZeros_74 rfl (lv_at hl 1 rfl) ?_
    refine lv_iconst (v := nI 1) hx hb d_JI_numberOfLeadingZeros_75 (by decide +kernel) ?_
    refine lv_iushr (v := nI (q / 2)) hx hb d_JI_numberOfLeadingZeros_76 (pk_ushrN (by omega) _ 1 (by decide +kernel)) ?_
    refine n_isub hx hb d_JI_numberOfLeadingZeros_77 (by omega) ?_
    refine sw_i (y := nI (32 - bl n)) (by congr 1; omega) ?_
    exact hret _ _ _ _ hw d_JI_numberOfLeadingZeros_78
  have s61 : ∀ (t q : Nat) (ls : Array Slot) (H : Heap) (locs : List Loc), 0 < q → q < 16 → t ≤ 31 → bl n + t = 31 + bl q → lv_has ls 2 [(1, .int (nI t)), (0, .int (nI q))] → wH T F U K I O (wA T) s s.heap H locs → W p l e R s m args below meth c H locs 0 0 Q (F0 m 61 ls []) := by
    intro t q ls H locs hq hb2 ht hr hl hw
    have hqL : q < vLim := lim_31 (by omega)
    refine lv_iload_n hx hb d_JI_numberOfLeadingZeros_61 rfl (lv_at hl 1 rfl) ?_
    refine lv_iconst (v := nI 4) hx hb d_JI_numberOfLeadingZeros_62 (by decide +kernel) ?_
    refine n_icmp_lt (tgt := 73) hx hb d_JI_numberOfLeadingZeros_63 (by decide) (by omega) (by omega) (fun h => ?_) (fun h => ?_)
    · exact s73 t q ls H locs hq (by omega) ht hr hl hw
    · have hs := bl_shift (s := 2) hqL (by show 4 ≤ q; omega)
      have hp : 0 < q / 2 ^ 2 := Nat.div_pos (by show 4 ≤ q; omega) (by decide)
      have hbp : 0 < bl (q / 2 ^ 2) := bl_pos (lim_31 (Nat.lt_of_le_of_lt (Nat.div_le_self _ _) (by omega))) hp
      have hbn : bl n ≤ 31 := bl_mono (show n < 2 ^ 31 from hn)
      refine lv_iinc (v := nI (t - 2)) hx hb d_JI_numberOfLeadingZeros_66 hl (k := 0) rfl (nI_decr (k := 2) (by decide +kernel) (by omega)) (by decide) rfl (fun ls hl => ?_)
      have hl : lv_has ls 2 [(1, .int (nI (t - 2))), (0, .int (nI q))] := hl
      refine lv_iload_n hx hb d_JI_numberOfLeadingZeros_69 rfl (lv_at hl 1 rfl) ?_
      refine lv_iconst (v := nI 2) hx hb d_JI_numberOfLeadingZeros_70 (by decide +kernel) ?_
      refine lv_iushr (v := nI (q / 2 ^ 2)) hx hb d_JI_numberOfLeadingZeros_71 (pk_ushrN (by omega) _ 2 (by decide +kernel)) ?_
      refine lv_istore_n hx hb d_JI_numberOfLeadingZeros_72 rfl hl (by decide) rfl (fun ls hl => ?_)
      have hl : lv_has ls 2 [(0, .int (nI (q / 2 ^ 2))), (1, .int (nI (t - 2)))] := hl
      have hl := lv_sub hl [1, 0] rfl
      have hl : lv_has ls 2 [(1, .int (nI (t - 2))), (0, .int (nI (q / 2 ^ 2)))] := hl
      have e2 : (2 : Nat) ^ 2 = 4 := rfl
      exact s73 (t - 2) (q / 2 ^ 2) ls H locs hp (by omega) (by omega) (by omega) hl hw
  have s48 : ∀ (t q : Nat) (ls : Array Slot) (H : Heap) (locs : List Loc), 0 < q → q < 256 → t ≤ 31 → bl n + t = 31 + bl q → lv_has ls 2 [(1, .int (nI t)), (0, .int (nI q))] → wH T F U K I O (wA T) s s.heap H locs → W p l e R s m args below meth c H locs 0 0 Q (F0 m 48 ls []) := by
    intro t q ls H locs hq hb2 ht hr hl hw
    have hqL : q < vLim := lim_31 (by omega)
    refine lv_iload_n hx hb d_JI_numberOfLeadingZeros_48 rfl (lv_at hl 1 rfl) ?_
    refine lv_bipush (v := nI 16) hx hb d_JI_numberOfLeadingZeros_49 (by decide +kernel) ?_
    refine n_icmp_lt (tgt := 61) hx hb d_JI_numberOfLeadingZeros_51 (by decide) (by omega) (by omega) (fun h => ?_) (fun h => ?_)
    · exact s61 t q ls H locs hq (by omega) ht hr hl hw
    · have hs := bl_shift (s := 4) hqL (by show 16 ≤ q; omega)
      have hp : 0 < q / 2 ^ 4 := Nat.div_pos (by show 16 ≤ q; omega) (by decide)
      have hbp : 0 < bl (q / 2 ^ 4) := bl_pos (lim_31 (Nat.lt_of_le_of_lt (Nat.div_le_self _ _) (by omega))) hp
      have hbn : bl n ≤ 31 := bl_mono (show n < 2 ^ 31 from hn)
      refine lv_iinc (v := nI (t - 4)) hx hb d_JI_numberOfLeadingZeros_54 hl (k := 0) rfl (nI_decr (k := 4) (by decide +kernel) (by omega)) (by decide) rfl (fun ls hl => ?_)
      have hl : lv_has ls 2 [(1, .int (nI (t - 4))), (0, .int (nI q))] := hl
      refine lv_iload_n hx hb d_JI_numberOfLeadingZeros_57 rfl (lv_at hl 1 rfl) ?_
      refine lv_iconst (v := nI 4) hx hb d_JI_numberOfLeadingZeros_58 (by decide +kernel) ?_
      refine lv_iushr (v := nI (q / 2 ^ 4)) hx hb d_JI_numberOfLeadingZeros_59 (pk_ushrN (by omega) _ 4 (by decide +kernel)) ?_
      refine lv_istore_n hx hb d_JI_numberOfLeadingZeros_60 rfl hl (by decide) rfl (fun ls hl => ?_)
      have hl : lv_has ls 2 [(0, .int (nI (q / 2 ^ 4))), (1, .int (nI (t - 4)))] := hl
      have hl := lv_sub hl [1, 0] rfl
      have hl : lv_has ls 2 [(1, .int (nI (t - 4))), (0, .int (nI (q / 2 ^ 4)))] := hl
      have e2 : (2 : Nat) ^ 4 = 16 := rfl
      exact s61 (t - 4) (q / 2 ^ 4) ls H locs hp (by omega) (by omega) (by omega) hl hw
  have s33 : ∀ (t q : Nat) (ls : Array Slot) (H : Heap) (locs : List Loc), 0 < q → q < 65536 → t ≤ 31 → bl n + t = 31 + bl q → lv_has ls 2 [(1, .int (nI t)), (0, .int (nI q))] → wH T F U K I O (wA T) s s.heap H locs → W p l e R s m args below meth c H locs 0 0 Q (F0 m 33 ls []) := by
    intro t q ls H locs hq hb2 ht hr hl hw
    have hqL : q < vLim := lim_31 (by omega)
    refine lv_iload_n hx hb d_JI_numberOfLeadingZeros_33 rfl (lv_at hl 1 rfl) ?_
    refine lv_sipush (v := nI 256) hx hb d_JI_numberOfLeadingZeros_34 (by decide +kernel) ?_
    refine n_icmp_lt (tgt := 48) hx hb d_JI_numberOfLeadingZeros_37 (by decide) (by omega) (by omega) (fun h => ?_) (fun h => ?_)
    · exact s48 t q ls H locs hq (by omega) ht hr hl hw
    · have hs := bl_shift (s := 8) hqL (by show 256 ≤ q; omega)
      have hp : 0 < q / 2 ^ 8 := Nat.div_pos (by show 256 ≤ q; omega) (by decide)
      have hbp : 0 < bl (q / 2 ^ 8) := bl_pos (lim_31 (Nat.lt_of_le_of_lt (Nat.div_le_self _ _) (by omega))) hp
      have hbn : bl n ≤ 31 := bl_mono (show n < 2 ^ 31 from hn)
      refine lv_iinc (v := nI (t - 8)) hx hb d_JI_numberOfLeadingZeros_40 hl (k := 0) rfl (nI_decr (k := 8) (by decide +kernel) (by omega)) (by decide) rfl (fun ls hl => ?_)
      have hl : lv_has ls 2 [(1, .int (nI (t - 8))), (0, .int (nI q))] := hl
      refine lv_iload_n hx hb d_JI_numberOfLeadingZeros_43 rfl (lv_at hl 1 rfl) ?_
      refine lv_bipush (v := nI 8) hx hb d_JI_numberOfLeadingZeros_44 (by decide +kernel) ?_
      refine lv_iushr (v := nI (q / 2 ^ 8)) hx hb d_JI_numberOfLeadingZeros_46 (pk_ushrN (by omega) _ 8 (by decide +kernel)) ?_
      refine lv_istore_n hx hb d_JI_numberOfLeadingZeros_47 rfl hl (by decide) rfl (fun ls hl => ?_)
      have hl : lv_has ls 2 [(0, .int (nI (q / 2 ^ 8))), (1, .int (nI (t - 8)))] := hl
      have hl := lv_sub hl [1, 0] rfl
      have hl : lv_has ls 2 [(1, .int (nI (t - 8))), (0, .int (nI (q / 2 ^ 8)))] := hl
      have e2 : (2 : Nat) ^ 8 = 256 := rfl
      exact s48 (t - 8) (q / 2 ^ 8) ls H locs hp (by omega) (by omega) (by omega) hl hw
  have s18 : ∀ (t q : Nat) (ls : Array Slot) (H : Heap) (locs : List Loc), 0 < q → q < 2147483648 → t ≤ 31 → bl n + t = 31 + bl q → lv_has ls 2 [(1, .int (nI t)), (0, .int (nI q))] → wH T F U K I O (wA T) s s.heap H locs → W p l e R s m args below meth c H locs 0 0 Q (F0 m 18 ls []) := by
    intro t q ls H locs hq hb2 ht hr hl hw
    have hqL : q < vLim := lim_31 (by omega)
    refine lv_iload_n hx hb d_JI_numberOfLeadingZeros_18 rfl (lv_at hl 1 rfl) ?_
    refine lv_ldcw (v := nI 65536) hx hb hC.ow (hC.hts bw_369) d_JI_numberOfLeadingZeros_19 ?_
    refine n_icmp_lt (tgt := 33) hx hb d_JI_numberOfLeadingZeros_22 (by decide) (by omega) (by omega) (fun h => ?_) (fun h => ?_)
    · exact s33 t q ls H locs hq (by omega) ht hr hl hw
    · have hs := bl_shift (s := 16) hqL (by show 65536 ≤ q; omega)
      have hp : 0 < q / 2 ^ 16 := Nat.div_pos (by show 65536 ≤ q; omega) (by decide)
      have hbp : 0 < bl (q / 2 ^ 16) := bl_pos (lim_31 (Nat.lt_of_le_of_lt (Nat.div_le_self _ _) (by omega))) hp
      have hbn : bl n ≤ 31 := bl_mono (show n < 2 ^ 31 from hn)
      refine lv_iinc (v := nI (t - 16)) hx hb d_JI_numberOfLeadingZeros_25 hl (k := 0) rfl (nI_decr (k := 16) (by decide +kernel) (by omega)) (by decide) rfl (fun ls hl => ?_)
      have hl : lv_has ls 2 [(1, .int (nI (t - 16))), (0, .int (nI q))] := hl
      refine lv_iload_n hx hb d_JI_numberOfLeadingZeros_28 rfl (lv_at hl 1 rfl) ?_
      refine lv_bipush (v := nI 16) hx hb d_JI_numberOfLeadingZeros_29 (by decide +kernel) ?_
      refine lv_iushr (v := nI (q / 2 ^ 16)) hx hb d_JI_numberOfLeadingZeros_31 (pk_ushrN (by omega) _ 16 (by decide +kernel)) ?_
      refine lv_istore_n hx hb d_JI_numberOfLeadingZeros_32 rfl hl (by decide) rfl (fun ls hl => ?_)
      have hl : lv_has ls 2 [(0, .int (nI (q / 2 ^ 16))), (1, .int (nI (t - 16)))] := hl
      have hl := lv_sub hl [1, 0] rfl
      have hl : lv_has ls 2 [(1, .int (nI (t - 16))), (0, .int (nI (q / 2 ^ 16)))] := hl
      have e2 : (2 : Nat) ^ 16 = 65536 := rfl
      exact s33 (t - 16) (q / 2 ^ 16) ls H locs hp (by omega) (by omega) (by omega) hl hw
  refine lv_iload_n hx hb d_JI_numberOfLeadingZeros_0 rfl (lv_at hl 0 rfl) ?_
  refine n_if_gt (tgt := 15) hx hb d_JI_numberOfLeadingZeros_1 (by decide) (by omega) (fun h => ?_) (fun h => ?_)
  · refine lv_bipush (v := nI 31) hx hb d_JI_numberOfLeadingZeros_15 (by decide +kernel) ?_
    refine lv_istore_n hx hb d_JI_numberOfLeadingZeros_17 rfl hl (by decide) rfl (fun ls hl => ?_)
    have hl : lv_has ls 2 [(1, .int (nI 31)), (0, .int (nI n))] := hl
    exact s18 31 n ls _ _ h0 hn (by omega) (by omega) hl hw
  · exact absurd h (by omega)
set_option maxRecDepth 100000 in
set_option maxHeartbeats 4000000 in
theorem k_JL_nlz (l : Launch) (T : wT) (F : wFt) (U K : wUt) (I : wIt) (O : wOt) (n : Nat) (h0 : 0 < n) (hn : n < 2147483648) : Met l y_JL_numberOfLeadingZeros (.code y_JL_numberOfLeadingZeros c_JL_numberOfLeadingZeros 3 (some .int) :: bg) ({ frames := 1, cells := 0, slots := 0, locals := 21 } : Room) (mP T F U K I O [.long (lN n)]) (mQi T (nI (64 - bl n)) F U K I O) 0 0 (wA T) := by
  refine wM_i (by decide) (Nat.le_of_ble_eq_true rfl) ?_
  intro p e R s m args below meth c Q ls hx hb hC hRf hRl hret hl hw
  have hRf : 1 ≤ R.frames := hRf
  have hRl : 21 ≤ R.locals := hRl
  have hl : lv_has ls 3 [(0, .long (lN n))] := hl
  have hbn : bl n ≤ 31 := bl_mono (show n < 2 ^ 31 from hn)
  have e32 : (2 : Nat) ^ 32 = 4294967296 := rfl
  refine lv_lload_n hx hb d_JL_numberOfLeadingZeros_0 rfl (lv_at hl 0 rfl) ?_
  refine lv_bipush (v := nI 32) hx hb d_JL_numberOfLeadingZeros_1 (by decide +kernel) ?_
  refine lv_lushr hx hb d_JL_numberOfLeadingZeros_3 rfl ?_
  refine sw_l (y := lN 0) (by rw [wb_shr (by omega) (by decide), Nat.div_eq_of_lt (by omega)]) ?_
  refine lv_l2i hx hb d_JL_numberOfLeadingZeros_4 rfl ?_
  refine sw_i (y := nI 0) (lN_i 0) ?_
  refine lv_istore_n hx hb d_JL_numberOfLeadingZeros_5 rfl hl (by decide) rfl (fun ls hl => ?_)
  have hl : lv_has ls 3 [(2, .int (nI 0)), (0, .long (lN n))] := hl
  refine lv_iload_n hx hb d_JL_numberOfLeadingZeros_6 rfl (lv_at hl 0 rfl) ?_
  refine n_if_ne (tgt := 21) hx hb d_JL_numberOfLeadingZeros_7 (by decide) (by omega) (fun h => ?_) (fun h => ?_)
  · exact absurd h (by omega)
  · refine lv_bipush (v := nI 32) hx hb d_JL_numberOfLeadingZeros_10 (by decide +kernel) ?_
    refine lv_lload_n hx hb d_JL_numberOfLeadingZeros_12 rfl (lv_at hl 1 rfl) ?_
    refine lv_l2i hx hb d_JL_numberOfLeadingZeros_13 rfl ?_
    refine sw_i (y := nI n) (lN_i n) ?_
    refine wcS_i (As := [.int (nI n)]) hx hb hC hw (k_JI_nlz l T F U K I O n h0 hn) lk_JL_308 rfl rfl ⟨by show 0 + 1 ≤ R.frames; omega, by show 8 + (2 + 11) + 0 ≤ R.locals; omega⟩ rfl hl.1 rfl (Nat.le_of_ble_eq_true rfl) ⟨Nat.zero_le _, Nat.zero_le _⟩ d_JL_numberOfLeadingZeros_14 (fun H locs hw => ?_)
    refine n_iadd hx hb d_JL_numberOfLeadingZeros_17 ?_
    refine lv_goto (tgt := 25) hx hb d_JL_numberOfLeadingZeros_18 (by decide) ?_
    refine sw_i (y := nI (64 - bl n)) (by congr 1; omega) ?_
    exact hret _ _ _ _ hw d_JL_numberOfLeadingZeros_25
set_option maxRecDepth 100000 in
set_option maxHeartbeats 4000000 in
theorem k_N_spareBits (l : Launch) (T : wT) (V : Nat → Nat) (K : wUt) (I : wIt) (O : wOt) (x : Nat) (hi : x < 34) (hV : ∀ n, n < 34 → V n < vLim) : Met l y_N_spareBits (.code y_N_spareBits c_N_spareBits 1 (some .int) :: bg) ({ frames := 2, cells := 0, slots := 0, locals := 43 } : Room) (mP T (fF V) (fU V) K I O [.ref (wa T x)]) (mQi T (nI (28 * kD (V x) - bl (V x))) (fF V) (fU V) K I O) 0 0 (wA T) := by
  refine wM_i (by decide) (Nat.le_of_ble_eq_true rfl) ?_
  intro p e R s m args below meth c Q ls hx hb hC hRf hRl hret hl hw
  have hRf : 2 ≤ R.frames := hRf
  have hRl : 43 ≤ R.locals := hRl
  have hl : lv_has ls 1 [(0, .ref (wa T x))] := hl
  have hk := kD_le (V x)
  refine lv_aload_n hx hb d_N_spareBits_0 rfl (lv_at hl 0 rfl) ?_
  refine wg_Natural_used hx hb hC hw (by omega) bw_45 d_N_spareBits_1 ?_
  refine sw_i (y := nI (kD (V x))) (rfl) ?_
  refine n_if_ne (tgt := 11) hx hb d_N_spareBits_4 (by decide) (by omega) (fun h => ?_) (fun h => ?_)
  · obtain ⟨t1, t2, t3, t4⟩ := bl_top (hV x hi) h
    have t5 : bl (V x / vB ^ (kD (V x) - 1)) ≤ 28 := bl_mono (show _ < 2 ^ 28 from t3)
    refine lv_aload_n hx hb d_N_spareBits_11 rfl (lv_at hl 0 rfl) ?_
    refine wg_Natural_limbs hx hb hC hw (by omega) bw_43 d_N_spareBits_12 ?_
    refine lv_aload_n hx hb d_N_spareBits_15 rfl (lv_at hl 0 rfl) ?_
    refine wg_Natural_used hx hb hC hw (by omega) bw_45 d_N_spareBits_16 ?_
    refine sw_i (y := nI (kD (V x))) (rfl) ?_
    refine lv_iconst (v := nI 1) hx hb d_N_spareBits_19 (by decide +kernel) ?_
    refine n_isub hx hb d_N_spareBits_20 (by omega) ?_
    refine wl_limbs hx hb hw (by omega) (by omega) d_N_spareBits_21 ?_
    refine sw_l (y := lN (V x / vB ^ (kD (V x) - 1))) (by show fD (V x) _ = _; rw [fD_lN, t4]) ?_
    refine wcS_i (As := [.long (lN (V x / vB ^ (kD (V x) - 1)))]) hx hb hC hw (k_JL_nlz l T (fF V) (fU V) K I O (V x / vB ^ (kD (V x) - 1)) t2 (by omega)) lk_N_27 rfl rfl ⟨by show 1 + 1 ≤ R.frames; omega, by show 8 + (3 + 11) + 21 ≤ R.locals; omega⟩ rfl hl.1 rfl (Nat.le_of_ble_eq_true rfl) ⟨Nat.zero_le _, Nat.zero_le _⟩ d_N_spareBits_22 (fun H locs hw => ?_)
    refine lv_bipush (v := nI 36) hx hb d_N_spareBits_25 (by decide +kernel) ?_
    refine n_isub hx hb d_N_spareBits_27 (by omega) ?_
    refine sw_i (y := nI (28 * kD (V x) - bl (V x))) (by congr 1; omega) ?_
    exact hret _ _ _ _ hw d_N_spareBits_28
  · refine lv_iconst (v := nI 0) hx hb d_N_spareBits_7 (by decide +kernel) ?_
    refine lv_goto (tgt := 28) hx hb d_N_spareBits_8 (by decide) ?_
    refine sw_i (y := nI (28 * kD (V x) - bl (V x))) (by congr 1; omega) ?_
    exact hret _ _ _ _ hw d_N_spareBits_28
set_option maxRecDepth 100000 in
set_option maxHeartbeats 4000000 in
theorem k_N_length (l : Launch) (T : wT) (V : Nat → Nat) (K : wUt) (I : wIt) (O : wOt) (x : Nat) (hi : x < 34) (hV : ∀ n, n < 34 → V n < vLim) : Met l y_N_length (.code y_N_length c_N_length 1 (some .int) :: bg) ({ frames := 3, cells := 0, slots := 0, locals := 63 } : Room) (mP T (fF V) (fU V) K I O [.ref (wa T x)]) (mQi T (nI (bl (V x))) (fF V) (fU V) K I O) 0 0 (wA T) := by
  refine wM_i (by decide) (Nat.le_of_ble_eq_true rfl) ?_
  intro p e R s m args below meth c Q ls hx hb hC hRf hRl hret hl hw
  have hRf : 3 ≤ R.frames := hRf
  have hRl : 63 ≤ R.locals := hRl
  have hl : lv_has ls 1 [(0, .ref (wa T x))] := hl
  have hk := bl_kD (hV x hi)
  refine lv_aload_n hx hb d_N_length_0 rfl (lv_at hl 0 rfl) ?_
  refine wg_Natural_used hx hb hC hw (by omega) bw_45 d_N_length_1 ?_
  refine sw_i (y := nI (kD (V x))) (rfl) ?_
  refine lv_bipush (v := nI 28) hx hb d_N_length_4 (by decide +kernel) ?_
  refine n_imul hx hb d_N_length_6 ?_
  refine lv_aload_n hx hb d_N_length_7 rfl (lv_at hl 0 rfl) ?_
  refine wcV_i (As := []) hx hb hC hw (k_N_spareBits l T V K I O x hi hV) lk_N_23 rfl rfl ⟨by show 2 + 1 ≤ R.frames; omega, by show 8 + (1 + 11) + 43 ≤ R.locals; omega⟩ (by omega) (we_Natural (by omega)) rfl rfl hl.1 rfl (Nat.le_of_ble_eq_true rfl) ⟨Nat.zero_le _, Nat.zero_le _⟩ d_N_length_8 (fun H locs hw => ?_)
  refine n_isub hx hb d_N_length_11 (by omega) ?_
  refine sw_i (y := nI (bl (V x))) (by congr 1; omega) ?_
  exact hret _ _ _ _ hw d_N_length_12
