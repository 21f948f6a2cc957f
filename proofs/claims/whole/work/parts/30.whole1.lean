/-! Whole: a number and whether it is below 0 -/
def bI (b : Bool) : Int32 := if b then 1 else 0
theorem bI_t : bI true = nI 1 := rfl
theorem bI_f : bI false = nI 0 := rfl
theorem zb1 : narrow .boolean (.int (nI 1)) = .int (nI 1) := rfl
theorem zf1 : fits .boolean (.int (nI 1)) = true := by decide +kernel
theorem zb0 : narrow .boolean (.int (nI 0)) = .int (nI 0) := rfl
theorem zf0 : fits .boolean (.int (nI 0)) = true := by decide +kernel
theorem zpos {z : Int64} (h : 0 ≤ z.toInt) : z = lN z.toInt.natAbs := by
  have h1 : z = Int64.ofInt z.toInt := (Int64.ofInt_toInt z).symm
  conv => lhs; rw [h1, ← Int.natAbs_of_nonneg h]
  rfl
theorem zneg {z : Int64} (h : z.toInt < 0) : -z = lN z.toInt.natAbs := by
  have h1 : z = Int64.ofInt z.toInt := (Int64.ofInt_toInt z).symm
  have h2 : z.toInt = -((z.toInt.natAbs : Nat) : Int) := by omega
  conv => lhs; rw [h1, h2, Int64.ofInt_neg]
  rw [Int64.neg_neg]
  rfl
theorem zabs (z : Int64) : z.toInt.natAbs < 2 ^ 64 := by
  have h1 := z.toInt_lt
  have h2 := z.le_toInt
  omega
def cmp3 (a b : Nat) : Int32 := if a < b then -1 else if a = b then 0 else 1

set_option maxRecDepth 100000 in
set_option maxHeartbeats 4000000 in
theorem k_W_take (l : Launch) (T : wT) (V : Nat → Nat) (K : wUt) (I : wIt) (O : wOt) (k a : Nat) (bt : Bool) (hk : k < 13) (ha : a < 34) (hV : ∀ n, n < 34 → V n < vLim) : Met l y_W_take (.code y_W_take c_W_take 3 none :: bg) ({ frames := 2, cells := 0, slots := 0, locals := 45 } : Room) (mP T (fF V) (fU V) K I O [.ref (wa T (68 + k)), .ref (wa T a), .int (bI bt)]) (mQv T (fF (va_up V k (V a))) (fU (va_up V k (V a))) (va_up K k (bI (bt && !decide (V a = 0)))) I O) 0 0 (wA T) := by
  refine wM_v (by decide) (Nat.le_of_ble_eq_true rfl) ?_
  intro p e R s m args below meth c Q ls hx hb hC hRf hRl hret hl hw
  have hRf : 2 ≤ R.frames := hRf
  have hRl : 45 ≤ R.locals := hRl
  have hl : lv_has ls 3 [(0, .ref (wa T (68 + k))), (1, .ref (wa T a)), (2, .int (bI bt))] := hl
  refine lv_aload_n hx hb d_W_take_0 rfl (lv_at hl 0 rfl) ?_
  refine wg_Whole_size hx hb hC hw (by omega) bw_53 d_W_take_1 ?_
  refine lv_aload_n hx hb d_W_take_4 rfl (lv_at hl 1 rfl) ?_
  refine wcV_v (As := [.ref (wa T a)]) hx hb hC hw (k_N_take l T V K I O k a (by omega) ha hV) lk_W_20 rfl rfl ⟨by show 1 + 1 ≤ R.frames; omega, by show 8 + (4 + 11) + 22 ≤ R.locals; omega⟩ (by omega) (we_Natural (by omega)) rfl rfl hl.1 rfl (Nat.le_of_ble_eq_true rfl) ⟨Nat.zero_le _, Nat.zero_le _⟩ d_W_take_5 (fun H locs hw => ?_)
  have hV1 : ∀ n, n < 34 → va_up V k (V a) n < vLim := hV_up hV (hV a ha)
  cases bt
  · have hl : lv_has ls 3 [(0, .ref (wa T (68 + k))), (1, .ref (wa T a)), (2, .int (nI 0))] := hl
    refine lv_aload_n hx hb d_W_take_8 rfl (lv_at hl 0 rfl) ?_
    refine lv_iload_n hx hb d_W_take_9 rfl (lv_at hl 2 rfl) ?_
    refine n_if_eq (tgt := 27) hx hb d_W_take_10 (by decide) (by omega) (fun hw9 => ?_) (fun hw9 => ?_)
    · refine lv_iconst (v := nI 0) hx hb d_W_take_27 (by decide +kernel) ?_
      refine wp_Whole_below hx hb hC hw (by omega) (zb0) (zf0) bw_57 d_W_take_28 (fun H locs hw => ?_)
      exact hret _ _ _ _ hw d_W_take_31
    · exact absurd hw9 (by decide)
  · have hl : lv_has ls 3 [(0, .ref (wa T (68 + k))), (1, .ref (wa T a)), (2, .int (nI 1))] := hl
    refine lv_aload_n hx hb d_W_take_8 rfl (lv_at hl 0 rfl) ?_
    refine lv_iload_n hx hb d_W_take_9 rfl (lv_at hl 2 rfl) ?_
    refine n_if_eq (tgt := 27) hx hb d_W_take_10 (by decide) (by omega) (fun hw9 => ?_) (fun hw9 => ?_)
    · exact absurd hw9 (by decide)
    · refine lv_aload_n hx hb d_W_take_13 rfl (lv_at hl 0 rfl) ?_
      refine wg_Whole_size hx hb hC hw (by omega) bw_53 d_W_take_14 ?_
      refine wcV_z (As := []) hx hb hC hw (k_N_isZero l T (va_up V k (V a)) K I O k (by omega) hV1) lk_W_24 rfl rfl ⟨by show 0 + 1 ≤ R.frames; omega, by show 8 + (1 + 11) + 0 ≤ R.locals; omega⟩ (by omega) (we_Natural (by omega)) rfl rfl hl.1 rfl (Nat.le_of_ble_eq_true rfl) ⟨Nat.zero_le _, Nat.zero_le _⟩ d_W_take_17 (fun H locs hw => ?_)
      by_cases hz : (va_up V k (V a)) k = 0
      · refine sw_i (y := nI 1) (by rw [if_pos hz]; rfl) ?_
        refine n_if_ne (tgt := 27) hx hb d_W_take_20 (by decide) (by omega) (fun hw9 => ?_) (fun hw9 => ?_)
        · refine lv_iconst (v := nI 0) hx hb d_W_take_27 (by decide +kernel) ?_
          refine wp_Whole_below hx hb hC hw (by omega) (zb0) (zf0) bw_57 d_W_take_28 (fun H locs hw => ?_)
          rw [va_up_self] at hz
          have e9 : bI (true && !decide (V a = 0)) = nI 0 := by rw [decide_eq_true hz]; rfl
          rw [← e9] at hw
          exact hret _ _ _ _ hw d_W_take_31
        · exact absurd hw9 (by decide)
      · refine sw_i (y := nI 0) (by rw [if_neg hz]; rfl) ?_
        refine n_if_ne (tgt := 27) hx hb d_W_take_20 (by decide) (by omega) (fun hw9 => ?_) (fun hw9 => ?_)
        · exact absurd hw9 (by decide)
        · refine lv_iconst (v := nI 1) hx hb d_W_take_23 (by decide +kernel) ?_
          refine lv_goto (tgt := 28) hx hb d_W_take_24 (by decide) ?_
          refine wp_Whole_below hx hb hC hw (by omega) (zb1) (zf1) bw_57 d_W_take_28 (fun H locs hw => ?_)
          rw [va_up_self] at hz
          have e9 : bI (true && !decide (V a = 0)) = nI 1 := by rw [decide_eq_false hz]; rfl
          rw [← e9] at hw
          exact hret _ _ _ _ hw d_W_take_31
set_option maxRecDepth 100000 in
set_option maxHeartbeats 4000000 in
theorem k_W_takeLong (l : Launch) (T : wT) (V : Nat → Nat) (K : wUt) (I : wIt) (O : wOt) (k : Nat) (z : Int64) (hk : k < 13) (hV : ∀ n, n < 34 → V n < vLim) : Met l y_W_takeLong (.code y_W_takeLong c_W_takeLong 3 none :: bg) ({ frames := 2, cells := 0, slots := 0, locals := 44 } : Room) (mP T (fF V) (fU V) K I O [.ref (wa T (68 + k)), .long z]) (mQv T (fF (va_up V k z.toInt.natAbs)) (fU (va_up V k z.toInt.natAbs)) (va_up K k (bI (decide (z.toInt < 0)))) I O) 0 0 (wA T) := by
  refine wM_v (by decide) (Nat.le_of_ble_eq_true rfl) ?_
  intro p e R s m args below meth c Q ls hx hb hC hRf hRl hret hl hw
  have hRf : 2 ≤ R.frames := hRf
  have hRl : 44 ≤ R.locals := hRl
  have hl : lv_has ls 3 [(0, .ref (wa T (68 + k))), (1, .long z)] := hl
  have e0 : (0 : Int64).toInt = 0 := lj_0
  refine lv_aload_n hx hb d_W_takeLong_0 rfl (lv_at hl 0 rfl) ?_
  refine wg_Whole_size hx hb hC hw (by omega) bw_53 d_W_takeLong_1 ?_
  refine lv_lload_n hx hb d_W_takeLong_4 rfl (lv_at hl 1 rfl) ?_
  refine lv_lconst (v := 0) hx hb d_W_takeLong_5 (by decide +kernel) ?_
  refine lc_ge (tgt := 15) hx hb d_W_takeLong_6 d_W_takeLong_7 (by decide) (fun h => ?_) (fun h => ?_)
  · rw [e0] at h
    refine lv_lload_n hx hb d_W_takeLong_15 rfl (lv_at hl 1 rfl) ?_
    refine sw_l (y := lN z.toInt.natAbs) (zpos h) ?_
    refine wcV_v (As := [.long (lN z.toInt.natAbs)]) hx hb hC hw (k_N_takeUnsigned l T V K I O k z.toInt.natAbs (by omega) (zabs z) hV) lk_W_28 rfl rfl ⟨by show 1 + 1 ≤ R.frames; omega, by show 8 + (3 + 11) + 22 ≤ R.locals; omega⟩ (by omega) (we_Natural (by omega)) rfl rfl hl.1 rfl (Nat.le_of_ble_eq_true rfl) ⟨Nat.zero_le _, Nat.zero_le _⟩ d_W_takeLong_16 (fun H locs hw => ?_)
    refine lv_aload_n hx hb d_W_takeLong_19 rfl (lv_at hl 0 rfl) ?_
    refine lv_lload_n hx hb d_W_takeLong_20 rfl (lv_at hl 1 rfl) ?_
    refine lv_lconst (v := 0) hx hb d_W_takeLong_21 (by decide +kernel) ?_
    refine lc_ge (tgt := 30) hx hb d_W_takeLong_22 d_W_takeLong_23 (by decide) (fun h2 => ?_) (fun h2 => ?_)
    · rw [e0] at h2
      refine lv_iconst (v := nI 0) hx hb d_W_takeLong_30 (by decide +kernel) ?_
      refine wp_Whole_below hx hb hC hw (by omega) (zb0) (zf0) bw_57 d_W_takeLong_31 (fun H locs hw => ?_)
      have e9 : bI (decide (z.toInt < 0)) = nI 0 := by rw [decide_eq_false (by omega)]; rfl
      rw [← e9] at hw
      exact hret _ _ _ _ hw d_W_takeLong_34
    · rw [e0] at h2
      exact absurd h2 (by omega)
  · rw [e0] at h
    refine lv_lload_n hx hb d_W_takeLong_10 rfl (lv_at hl 1 rfl) ?_
    refine lv_lneg hx hb d_W_takeLong_11 ?_
    refine lv_goto (tgt := 16) hx hb d_W_takeLong_12 (by decide) ?_
    refine sw_l (y := lN z.toInt.natAbs) (zneg h) ?_
    refine wcV_v (As := [.long (lN z.toInt.natAbs)]) hx hb hC hw (k_N_takeUnsigned l T V K I O k z.toInt.natAbs (by omega) (zabs z) hV) lk_W_28 rfl rfl ⟨by show 1 + 1 ≤ R.frames; omega, by show 8 + (3 + 11) + 22 ≤ R.locals; omega⟩ (by omega) (we_Natural (by omega)) rfl rfl hl.1 rfl (Nat.le_of_ble_eq_true rfl) ⟨Nat.zero_le _, Nat.zero_le _⟩ d_W_takeLong_16 (fun H locs hw => ?_)
    refine lv_aload_n hx hb d_W_takeLong_19 rfl (lv_at hl 0 rfl) ?_
    refine lv_lload_n hx hb d_W_takeLong_20 rfl (lv_at hl 1 rfl) ?_
    refine lv_lconst (v := 0) hx hb d_W_takeLong_21 (by decide +kernel) ?_
    refine lc_ge (tgt := 30) hx hb d_W_takeLong_22 d_W_takeLong_23 (by decide) (fun h2 => ?_) (fun h2 => ?_)
    · rw [e0] at h2
      exact absurd h2 (by omega)
    · rw [e0] at h2
      refine lv_iconst (v := nI 1) hx hb d_W_takeLong_26 (by decide +kernel) ?_
      refine lv_goto (tgt := 31) hx hb d_W_takeLong_27 (by decide) ?_
      refine wp_Whole_below hx hb hC hw (by omega) (zb1) (zf1) bw_57 d_W_takeLong_31 (fun H locs hw => ?_)
      have e9 : bI (decide (z.toInt < 0)) = nI 1 := by rw [decide_eq_true (by omega)]; rfl
      rw [← e9] at hw
      exact hret _ _ _ _ hw d_W_takeLong_34
set_option maxRecDepth 100000 in
set_option maxHeartbeats 4000000 in
theorem k_W_takeRaised (l : Launch) (T : wT) (V : Nat → Nat) (K : wUt) (I : wIt) (O : wOt) (k j n : Nat) (hk : k < 13) (hj : j < 13) (hjk : j ≠ k) (hn : n < 2147483648) (hkn : kD (V j) + n / 28 ≤ 74) (bj : Bool) (hKj : K j = bI bj) (hV : ∀ n, n < 34 → V n < vLim) : Met l y_W_takeRaised (.code y_W_takeRaised c_W_takeRaised 3 none :: bg) ({ frames := 2, cells := 0, slots := 0, locals := 52 } : Room) (mP T (fF V) (fU V) K I O [.ref (wa T (68 + k)), .ref (wa T (68 + j)), .int (nI n)]) (mQv T (fF (va_up V k (V j * 2 ^ n))) (fU (va_up V k (V j * 2 ^ n))) (va_up K k (bI bj)) I O) 0 0 (wA T) := by
  refine wM_v (by decide) (Nat.le_of_ble_eq_true rfl) ?_
  intro p e R s m args below meth c Q ls hx hb hC hRf hRl hret hl hw
  have hRf : 2 ≤ R.frames := hRf
  have hRl : 52 ≤ R.locals := hRl
  have hl : lv_has ls 3 [(0, .ref (wa T (68 + k))), (1, .ref (wa T (68 + j))), (2, .int (nI n))] := hl
  refine lv_aload_n hx hb d_W_takeRaised_0 rfl (lv_at hl 0 rfl) ?_
  refine wg_Whole_size hx hb hC hw (by omega) bw_53 d_W_takeRaised_1 ?_
  refine lv_aload_n hx hb d_W_takeRaised_4 rfl (lv_at hl 1 rfl) ?_
  refine wg_Whole_size hx hb hC hw (by omega) bw_53 d_W_takeRaised_5 ?_
  refine lv_iload_n hx hb d_W_takeRaised_8 rfl (lv_at hl 2 rfl) ?_
  refine wcV_v (As := [.ref (wa T j), .int (nI n)]) hx hb hC hw (k_N_takeRaised l T V K I O k j n (by omega) (by omega) hjk hn hkn hV) lk_W_46 rfl rfl ⟨by show 1 + 1 ≤ R.frames; omega, by show 8 + (11 + 11) + 22 ≤ R.locals; omega⟩ (by omega) (we_Natural (by omega)) rfl rfl hl.1 rfl (Nat.le_of_ble_eq_true rfl) ⟨Nat.zero_le _, Nat.zero_le _⟩ d_W_takeRaised_9 (fun H locs hw => ?_)
  cases bj
  · refine lv_aload_n hx hb d_W_takeRaised_12 rfl (lv_at hl 0 rfl) ?_
    refine lv_aload_n hx hb d_W_takeRaised_13 rfl (lv_at hl 1 rfl) ?_
    refine wg_Whole_below hx hb hC hw (by omega) bw_57 d_W_takeRaised_14 ?_
    refine sw_i (y := nI 0) (hKj) ?_
    refine wp_Whole_below hx hb hC hw (by omega) (zb0) (zf0) bw_57 d_W_takeRaised_17 (fun H locs hw => ?_)
    exact hret _ _ _ _ hw d_W_takeRaised_20
  · refine lv_aload_n hx hb d_W_takeRaised_12 rfl (lv_at hl 0 rfl) ?_
    refine lv_aload_n hx hb d_W_takeRaised_13 rfl (lv_at hl 1 rfl) ?_
    refine wg_Whole_below hx hb hC hw (by omega) bw_57 d_W_takeRaised_14 ?_
    refine sw_i (y := nI 1) (hKj) ?_
    refine wp_Whole_below hx hb hC hw (by omega) (zb1) (zf1) bw_57 d_W_takeRaised_17 (fun H locs hw => ?_)
    exact hret _ _ _ _ hw d_W_takeRaised_20
set_option maxRecDepth 100000 in
set_option maxHeartbeats 4000000 in
theorem k_W_takeProduct (l : Launch) (T : wT) (V : Nat → Nat) (K : wUt) (I : wIt) (O : wOt) (k i j : Nat) (hk : k < 13) (hi9 : i < 13) (hj : j < 13) (hik : i ≠ k) (hjk : j ≠ k) (hkk : kD (V i) + kD (V j) ≤ 74) (bi bj : Bool) (hKi : K i = bI bi) (hKj : K j = bI bj) (hV : ∀ n, n < 34 → V n < vLim) : Met l y_W_takeProduct (.code y_W_takeProduct c_W_takeProduct 3 none :: bg) ({ frames := 3, cells := 0, slots := 0, locals := 69 } : Room) (mP T (fF V) (fU V) K I O [.ref (wa T (68 + k)), .ref (wa T (68 + i)), .ref (wa T (68 + j))]) (mQv T (fF (va_up V k (V i * V j))) (fU (va_up V k (V i * V j))) (va_up K k (bI ((bi != bj) && !decide (V i * V j = 0)))) I O) 0 0 (wA T) := by
  refine wM_v (by decide) (Nat.le_of_ble_eq_true rfl) ?_
  intro p e R s m args below meth c Q ls hx hb hC hRf hRl hret hl hw
  have hRf : 3 ≤ R.frames := hRf
  have hRl : 69 ≤ R.locals := hRl
  have hl : lv_has ls 3 [(0, .ref (wa T (68 + k))), (1, .ref (wa T (68 + i))), (2, .ref (wa T (68 + j)))] := hl
  have hP : V i * V j < vLim := Nat.lt_of_lt_of_le (vB_mul (kD_lt (hV i (by omega))) (kD_lt (hV j (by omega)))) (vB_le (by omega))
  have hV1 : ∀ n, n < 34 → va_up V k (V i * V j) n < vLim := hV_up hV hP
  refine lv_aload_n hx hb d_W_takeProduct_0 rfl (lv_at hl 0 rfl) ?_
  refine wg_Whole_size hx hb hC hw (by omega) bw_53 d_W_takeProduct_1 ?_
  refine lv_aload_n hx hb d_W_takeProduct_4 rfl (lv_at hl 1 rfl) ?_
  refine wg_Whole_size hx hb hC hw (by omega) bw_53 d_W_takeProduct_5 ?_
  refine lv_aload_n hx hb d_W_takeProduct_8 rfl (lv_at hl 2 rfl) ?_
  refine wg_Whole_size hx hb hC hw (by omega) bw_53 d_W_takeProduct_9 ?_
  refine wcV_v (As := [.ref (wa T i), .ref (wa T j)]) hx hb hC hw (k_N_takeProduct l T V K I O k i j (by omega) (by omega) (by omega) hik hjk (by omega) hV) lk_W_43 rfl rfl ⟨by show 2 + 1 ≤ R.frames; omega, by show 8 + (4 + 11) + 46 ≤ R.locals; omega⟩ (by omega) (we_Natural (by omega)) rfl rfl hl.1 rfl (Nat.le_of_ble_eq_true rfl) ⟨Nat.zero_le _, Nat.zero_le _⟩ d_W_takeProduct_12 (fun H locs hw => ?_)
  cases bi
  · cases bj
    · refine lv_aload_n hx hb d_W_takeProduct_15 rfl (lv_at hl 0 rfl) ?_
      refine lv_aload_n hx hb d_W_takeProduct_16 rfl (lv_at hl 1 rfl) ?_
      refine wg_Whole_below hx hb hC hw (by omega) bw_57 d_W_takeProduct_17 ?_
      refine sw_i (y := nI 0) (hKi) ?_
      refine lv_aload_n hx hb d_W_takeProduct_20 rfl (lv_at hl 2 rfl) ?_
      refine wg_Whole_below hx hb hC hw (by omega) bw_57 d_W_takeProduct_21 ?_
      refine sw_i (y := nI 0) (hKj) ?_
      refine n_icmp_eq (tgt := 41) hx hb d_W_takeProduct_24 (by decide) (by omega) (by omega) (fun hw9 => ?_) (fun hw9 => ?_)
      · refine lv_iconst (v := nI 0) hx hb d_W_takeProduct_41 (by decide +kernel) ?_
        refine wp_Whole_below hx hb hC hw (by omega) (zb0) (zf0) bw_57 d_W_takeProduct_42 (fun H locs hw => ?_)
        have e9 : bI ((false != false) && !decide (V i * V j = 0)) = nI 0 := rfl
        rw [← e9] at hw
        exact hret _ _ _ _ hw d_W_takeProduct_45
      · exact absurd hw9 (by decide)
    · refine lv_aload_n hx hb d_W_takeProduct_15 rfl (lv_at hl 0 rfl) ?_
      refine lv_aload_n hx hb d_W_takeProduct_16 rfl (lv_at hl 1 rfl) ?_
      refine wg_Whole_below hx hb hC hw (by omega) bw_57 d_W_takeProduct_17 ?_
      refine sw_i (y := nI 0) (hKi) ?_
      refine lv_aload_n hx hb d_W_takeProduct_20 rfl (lv_at hl 2 rfl) ?_
      refine wg_Whole_below hx hb hC hw (by omega) bw_57 d_W_takeProduct_21 ?_
      refine sw_i (y := nI 1) (hKj) ?_
      refine n_icmp_eq (tgt := 41) hx hb d_W_takeProduct_24 (by decide) (by omega) (by omega) (fun hw9 => ?_) (fun hw9 => ?_)
      · exact absurd hw9 (by decide)
      · refine lv_aload_n hx hb d_W_takeProduct_27 rfl (lv_at hl 0 rfl) ?_
        refine wg_Whole_size hx hb hC hw (by omega) bw_53 d_W_takeProduct_28 ?_
        refine wcV_z (As := []) hx hb hC hw (k_N_isZero l T (va_up V k (V i * V j)) K I O k (by omega) hV1) lk_W_24 rfl rfl ⟨by show 0 + 1 ≤ R.frames; omega, by show 8 + (1 + 11) + 0 ≤ R.locals; omega⟩ (by omega) (we_Natural (by omega)) rfl rfl hl.1 rfl (Nat.le_of_ble_eq_true rfl) ⟨Nat.zero_le _, Nat.zero_le _⟩ d_W_takeProduct_31 (fun H locs hw => ?_)
        by_cases hz : (va_up V k (V i * V j)) k = 0
        · refine sw_i (y := nI 1) (by rw [if_pos hz]; rfl) ?_
          refine n_if_ne (tgt := 41) hx hb d_W_takeProduct_34 (by decide) (by omega) (fun hw9 => ?_) (fun hw9 => ?_)
          · rw [va_up_self] at hz
            refine lv_iconst (v := nI 0) hx hb d_W_takeProduct_41 (by decide +kernel) ?_
            refine wp_Whole_below hx hb hC hw (by omega) (zb0) (zf0) bw_57 d_W_takeProduct_42 (fun H locs hw => ?_)
            have e9 : bI ((false != true) && !decide (V i * V j = 0)) = nI 0 := by rw [decide_eq_true hz]; rfl
            rw [← e9] at hw
            exact hret _ _ _ _ hw d_W_takeProduct_45
          · exact absurd hw9 (by decide)
        · refine sw_i (y := nI 0) (by rw [if_neg hz]; rfl) ?_
          refine n_if_ne (tgt := 41) hx hb d_W_takeProduct_34 (by decide) (by omega) (fun hw9 => ?_) (fun hw9 => ?_)
          · exact absurd hw9 (by decide)
          · rw [va_up_self] at hz
            refine lv_iconst (v := nI 1) hx hb d_W_takeProduct_37 (by decide +kernel) ?_
            refine lv_goto (tgt := 42) hx hb d_W_takeProduct_38 (by decide) ?_
            refine wp_Whole_below hx hb hC hw (by omega) (zb1) (zf1) bw_57 d_W_takeProduct_42 (fun H locs hw => ?_)
            have e9 : bI ((false != true) && !decide (V i * V j = 0)) = nI 1 := by rw [decide_eq_false hz]; rfl
            rw [← e9] at hw
            exact hret _ _ _ _ hw d_W_takeProduct_45
  · cases bj
    · refine lv_aload_n hx hb d_W_takeProduct_15 rfl (lv_at hl 0 rfl) ?_
      refine lv_aload_n hx hb d_W_takeProduct_16 rfl (lv_at hl 1 rfl) ?_
      refine wg_Whole_below hx hb hC hw (by omega) bw_57 d_W_takeProduct_17 ?_
      refine sw_i (y := nI 1) (hKi) ?_
      refine lv_aload_n hx hb d_W_takeProduct_20 rfl (lv_at hl 2 rfl) ?_
      refine wg_Whole_below hx hb hC hw (by omega) bw_57 d_W_takeProduct_21 ?_
      refine sw_i (y := nI 0) (hKj) ?_
      refine n_icmp_eq (tgt := 41) hx hb d_W_takeProduct_24 (by decide) (by omega) (by omega) (fun hw9 => ?_) (fun hw9 => ?_)
      · exact absurd hw9 (by decide)
      · refine lv_aload_n hx hb d_W_takeProduct_27 rfl (lv_at hl 0 rfl) ?_
        refine wg_Whole_size hx hb hC hw (by omega) bw_53 d_W_takeProduct_28 ?_
        refine wcV_z (As := []) hx hb hC hw (k_N_isZero l T (va_up V k (V i * V j)) K I O k (by omega) hV1) lk_W_24 rfl rfl ⟨by show 0 + 1 ≤ R.frames; omega, by show 8 + (1 + 11) + 0 ≤ R.locals; omega⟩ (by omega) (we_Natural (by omega)) rfl rfl hl.1 rfl (Nat.le_of_ble_eq_true rfl) ⟨Nat.zero_le _, Nat.zero_le _⟩ d_W_takeProduct_31 (fun H locs hw => ?_)
        by_cases hz : (va_up V k (V i * V j)) k = 0
        · refine sw_i (y := nI 1) (by rw [if_pos hz]; rfl) ?_
          refine n_if_ne (tgt := 41) hx hb d_W_takeProduct_34 (by decide) (by omega) (fun hw9 => ?_) (fun hw9 => ?_)
          · rw [va_up_self] at hz
            refine lv_iconst (v := nI 0) hx hb d_W_takeProduct_41 (by decide +kernel) ?_
            refine wp_Whole_below hx hb hC hw (by omega) (zb0) (zf0) bw_57 d_W_takeProduct_42 (fun H locs hw => ?_)
            have e9 : bI ((true != false) && !decide (V i * V j = 0)) = nI 0 := by rw [decide_eq_true hz]; rfl
            rw [← e9] at hw
            exact hret _ _ _ _ hw d_W_takeProduct_45
          · exact absurd hw9 (by decide)
        · refine sw_i (y := nI 0) (by rw [if_neg hz]; rfl) ?_
          refine n_if_ne (tgt := 41) hx hb d_W_takeProduct_34 (by decide) (by omega) (fun hw9 => ?_) (fun hw9 => ?_)
          · exact absurd hw9 (by decide)
          · rw [va_up_self] at hz
            refine lv_iconst (v := nI 1) hx hb d_W_takeProduct_37 (by decide +kernel) ?_
            refine lv_goto (tgt := 42) hx hb d_W_takeProduct_38 (by decide) ?_
            refine wp_Whole_below hx hb hC hw (by omega) (zb1) (zf1) bw_57 d_W_takeProduct_42 (fun H locs hw => ?_)
            have e9 : bI ((true != false) && !decide (V i * V j = 0)) = nI 1 := by rw [decide_eq_false hz]; rfl
            rw [← e9] at hw
            exact hret _ _ _ _ hw d_W_takeProduct_45
    · refine lv_aload_n hx hb d_W_takeProduct_15 rfl (lv_at hl 0 rfl) ?_
      refine lv_aload_n hx hb d_W_takeProduct_16 rfl (lv_at hl 1 rfl) ?_
      refine wg_Whole_below hx hb hC hw (by omega) bw_57 d_W_takeProduct_17 ?_
      refine sw_i (y := nI 1) (hKi) ?_
      refine lv_aload_n hx hb d_W_takeProduct_20 rfl (lv_at hl 2 rfl) ?_
      refine wg_Whole_below hx hb hC hw (by omega) bw_57 d_W_takeProduct_21 ?_
      refine sw_i (y := nI 1) (hKj) ?_
      refine n_icmp_eq (tgt := 41) hx hb d_W_takeProduct_24 (by decide) (by omega) (by omega) (fun hw9 => ?_) (fun hw9 => ?_)
      · refine lv_iconst (v := nI 0) hx hb d_W_takeProduct_41 (by decide +kernel) ?_
        refine wp_Whole_below hx hb hC hw (by omega) (zb0) (zf0) bw_57 d_W_takeProduct_42 (fun H locs hw => ?_)
        have e9 : bI ((true != true) && !decide (V i * V j = 0)) = nI 0 := rfl
        rw [← e9] at hw
        exact hret _ _ _ _ hw d_W_takeProduct_45
      · exact absurd hw9 (by decide)
set_option maxRecDepth 100000 in
set_option maxHeartbeats 4000000 in
theorem k_W_order (l : Launch) (T : wT) (V : Nat → Nat) (K : wUt) (I : wIt) (O : wOt) (i j : Nat) (hi9 : i < 13) (hj : j < 13) (bi bj : Bool) (hKi : K i = bI bi) (hKj : K j = bI bj) (hV : ∀ n, n < 34 → V n < vLim) : Met l y_W_order (.code y_W_order c_W_order 2 (some .int) :: bg) ({ frames := 1, cells := 0, slots := 0, locals := 22 } : Room) (mP T (fF V) (fU V) K I O [.ref (wa T (68 + i)), .ref (wa T (68 + j))]) (mQi T (if bi = bj then (if bi = true then cmp3 (V j) (V i) else cmp3 (V i) (V j)) else if bi = true then (-1 : Int32) else 1) (fF V) (fU V) K I O) 0 0 (wA T) := by
  refine wM_i (by decide) (Nat.le_of_ble_eq_true rfl) ?_
  intro p e R s m args below meth c Q ls hx hb hC hRf hRl hret hl hw
  have hRf : 1 ≤ R.frames := hRf
  have hRl : 22 ≤ R.locals := hRl
  have hl : lv_has ls 2 [(0, .ref (wa T (68 + i))), (1, .ref (wa T (68 + j)))] := hl
  cases bi
  · cases bj
    · refine lv_aload_n hx hb d_W_order_0 rfl (lv_at hl 0 rfl) ?_
      refine wg_Whole_below hx hb hC hw (by omega) bw_57 d_W_order_1 ?_
      refine sw_i (y := nI 0) (hKi) ?_
      refine lv_aload_n hx hb d_W_order_4 rfl (lv_at hl 1 rfl) ?_
      refine wg_Whole_below hx hb hC hw (by omega) bw_57 d_W_order_5 ?_
      refine sw_i (y := nI 0) (hKj) ?_
      refine n_icmp_eq (tgt := 24) hx hb d_W_order_8 (by decide) (by omega) (by omega) (fun hw9 => ?_) (fun hw9 => ?_)
      · refine lv_aload_n hx hb d_W_order_24 rfl (lv_at hl 0 rfl) ?_
        refine wg_Whole_below hx hb hC hw (by omega) bw_57 d_W_order_25 ?_
        refine sw_i (y := nI 0) (hKi) ?_
        refine n_if_eq (tgt := 45) hx hb d_W_order_28 (by decide) (by omega) (fun hw9 => ?_) (fun hw9 => ?_)
        · refine lv_aload_n hx hb d_W_order_45 rfl (lv_at hl 0 rfl) ?_
          refine wg_Whole_size hx hb hC hw (by omega) bw_53 d_W_order_46 ?_
          refine lv_aload_n hx hb d_W_order_49 rfl (lv_at hl 1 rfl) ?_
          refine wg_Whole_size hx hb hC hw (by omega) bw_53 d_W_order_50 ?_
          refine wcV_i (As := [.ref (wa T j)]) hx hb hC hw (k_N_order l T V K I O i j (by omega) (by omega) hV) lk_W_36 rfl rfl ⟨by show 0 + 1 ≤ R.frames; omega, by show 8 + (3 + 11) + 0 ≤ R.locals; omega⟩ (by omega) (we_Natural (by omega)) rfl rfl hl.1 rfl (Nat.le_of_ble_eq_true rfl) ⟨Nat.zero_le _, Nat.zero_le _⟩ d_W_order_53 (fun H locs hw => ?_)
          exact hret _ _ _ _ hw d_W_order_56
        · exact absurd hw9 (by decide)
      · exact absurd hw9 (by decide)
    · refine lv_aload_n hx hb d_W_order_0 rfl (lv_at hl 0 rfl) ?_
      refine wg_Whole_below hx hb hC hw (by omega) bw_57 d_W_order_1 ?_
      refine sw_i (y := nI 0) (hKi) ?_
      refine lv_aload_n hx hb d_W_order_4 rfl (lv_at hl 1 rfl) ?_
      refine wg_Whole_below hx hb hC hw (by omega) bw_57 d_W_order_5 ?_
      refine sw_i (y := nI 1) (hKj) ?_
      refine n_icmp_eq (tgt := 24) hx hb d_W_order_8 (by decide) (by omega) (by omega) (fun hw9 => ?_) (fun hw9 => ?_)
      · exact absurd hw9 (by decide)
      · refine lv_aload_n hx hb d_W_order_11 rfl (lv_at hl 0 rfl) ?_
        refine wg_Whole_below hx hb hC hw (by omega) bw_57 d_W_order_12 ?_
        refine sw_i (y := nI 0) (hKi) ?_
        refine n_if_eq (tgt := 22) hx hb d_W_order_15 (by decide) (by omega) (fun hw9 => ?_) (fun hw9 => ?_)
        · refine lv_iconst (v := nI 1) hx hb d_W_order_22 (by decide +kernel) ?_
          exact hret _ _ _ _ hw d_W_order_23
        · exact absurd hw9 (by decide)
  · cases bj
    · refine lv_aload_n hx hb d_W_order_0 rfl (lv_at hl 0 rfl) ?_
      refine wg_Whole_below hx hb hC hw (by omega) bw_57 d_W_order_1 ?_
      refine sw_i (y := nI 1) (hKi) ?_
      refine lv_aload_n hx hb d_W_order_4 rfl (lv_at hl 1 rfl) ?_
      refine wg_Whole_below hx hb hC hw (by omega) bw_57 d_W_order_5 ?_
      refine sw_i (y := nI 0) (hKj) ?_
      refine n_icmp_eq (tgt := 24) hx hb d_W_order_8 (by decide) (by omega) (by omega) (fun hw9 => ?_) (fun hw9 => ?_)
      · exact absurd hw9 (by decide)
      · refine lv_aload_n hx hb d_W_order_11 rfl (lv_at hl 0 rfl) ?_
        refine wg_Whole_below hx hb hC hw (by omega) bw_57 d_W_order_12 ?_
        refine sw_i (y := nI 1) (hKi) ?_
        refine n_if_eq (tgt := 22) hx hb d_W_order_15 (by decide) (by omega) (fun hw9 => ?_) (fun hw9 => ?_)
        · exact absurd hw9 (by decide)
        · refine lv_iconst (v := (-1)) hx hb d_W_order_18 (by decide +kernel) ?_
          refine lv_goto (tgt := 23) hx hb d_W_order_19 (by decide) ?_
          exact hret _ _ _ _ hw d_W_order_23
    · refine lv_aload_n hx hb d_W_order_0 rfl (lv_at hl 0 rfl) ?_
      refine wg_Whole_below hx hb hC hw (by omega) bw_57 d_W_order_1 ?_
      refine sw_i (y := nI 1) (hKi) ?_
      refine lv_aload_n hx hb d_W_order_4 rfl (lv_at hl 1 rfl) ?_
      refine wg_Whole_below hx hb hC hw (by omega) bw_57 d_W_order_5 ?_
      refine sw_i (y := nI 1) (hKj) ?_
      refine n_icmp_eq (tgt := 24) hx hb d_W_order_8 (by decide) (by omega) (by omega) (fun hw9 => ?_) (fun hw9 => ?_)
      · refine lv_aload_n hx hb d_W_order_24 rfl (lv_at hl 0 rfl) ?_
        refine wg_Whole_below hx hb hC hw (by omega) bw_57 d_W_order_25 ?_
        refine sw_i (y := nI 1) (hKi) ?_
        refine n_if_eq (tgt := 45) hx hb d_W_order_28 (by decide) (by omega) (fun hw9 => ?_) (fun hw9 => ?_)
        · exact absurd hw9 (by decide)
        · refine lv_aload_n hx hb d_W_order_31 rfl (lv_at hl 1 rfl) ?_
          refine wg_Whole_size hx hb hC hw (by omega) bw_53 d_W_order_32 ?_
          refine lv_aload_n hx hb d_W_order_35 rfl (lv_at hl 0 rfl) ?_
          refine wg_Whole_size hx hb hC hw (by omega) bw_53 d_W_order_36 ?_
          refine wcV_i (As := [.ref (wa T i)]) hx hb hC hw (k_N_order l T V K I O j i (by omega) (by omega) hV) lk_W_36 rfl rfl ⟨by show 0 + 1 ≤ R.frames; omega, by show 8 + (3 + 11) + 0 ≤ R.locals; omega⟩ (by omega) (we_Natural (by omega)) rfl rfl hl.1 rfl (Nat.le_of_ble_eq_true rfl) ⟨Nat.zero_le _, Nat.zero_le _⟩ d_W_order_39 (fun H locs hw => ?_)
          refine lv_goto (tgt := 56) hx hb d_W_order_42 (by decide) ?_
          exact hret _ _ _ _ hw d_W_order_56
      · exact absurd hw9 (by decide)
set_option maxRecDepth 100000 in
set_option maxHeartbeats 4000000 in
theorem k_W_isOddAfter (l : Launch) (T : wT) (V : Nat → Nat) (K : wUt) (I : wIt) (O : wOt) (k i : Nat) (hk : k < 13) (hb9 : i < 2147483648) (bk : Bool) (hKk : K k = bI bk) (hV : ∀ n, n < 34 → V n < vLim) : Met l y_W_isOddAfter (.code y_W_isOddAfter c_W_isOddAfter 2 (some .boolean) :: bg) ({ frames := 2, cells := 0, slots := 0, locals := 44 } : Room) (mP T (fF V) (fU V) K I O [.ref (wa T (68 + k)), .int (nI i)]) (mQi T (if ((V k).testBit i != (bk && decide (V k % 2 ^ i ≠ 0))) = true then (1 : Int32) else 0) (fF V) (fU V) K I O) 0 0 (wA T) := by
  refine wM_z (by decide) (Nat.le_of_ble_eq_true rfl) (zN _) ?_
  intro p e R s m args below meth c Q ls hx hb hC hRf hRl hret hl hw
  have hRf : 2 ≤ R.frames := hRf
  have hRl : 44 ≤ R.locals := hRl
  have hl : lv_has ls 2 [(0, .ref (wa T (68 + k))), (1, .int (nI i))] := hl
  refine lv_aload_n hx hb d_W_isOddAfter_0 rfl (lv_at hl 0 rfl) ?_
  refine wg_Whole_size hx hb hC hw (by omega) bw_53 d_W_isOddAfter_1 ?_
  refine lv_iload_n hx hb d_W_isOddAfter_4 rfl (lv_at hl 1 rfl) ?_
  refine wcV_z (As := [.int (nI i)]) hx hb hC hw (k_N_hasBit l T V K I O k i (by omega) hb9 hV) lk_W_60 rfl rfl ⟨by show 1 + 1 ≤ R.frames; omega, by show 8 + (2 + 11) + 21 ≤ R.locals; omega⟩ (by omega) (we_Natural (by omega)) rfl rfl hl.1 rfl (Nat.le_of_ble_eq_true rfl) ⟨Nat.zero_le _, Nat.zero_le _⟩ d_W_isOddAfter_5 (fun H locs hw => ?_)
  generalize htb : (V k).testBit i = tb
  cases tb
  · refine sw_i (y := nI 0) rfl ?_
    cases bk
    · refine lv_aload_n hx hb d_W_isOddAfter_8 rfl (lv_at hl 0 rfl) ?_
      refine wg_Whole_below hx hb hC hw (by omega) bw_57 d_W_isOddAfter_9 ?_
      refine sw_i (y := nI 0) (hKk) ?_
      refine n_if_eq (tgt := 30) hx hb d_W_isOddAfter_12 (by decide) (by omega) (fun hw9 => ?_) (fun hw9 => ?_)
      · refine lv_iconst (v := nI 0) hx hb d_W_isOddAfter_30 (by decide +kernel) ?_
        refine n_icmp_eq (tgt := 38) hx hb d_W_isOddAfter_31 (by decide) (by omega) (by omega) (fun hw9 => ?_) (fun hw9 => ?_)
        · refine lv_iconst (v := nI 0) hx hb d_W_isOddAfter_38 (by decide +kernel) ?_
          rw [htb] at hret
          exact hret _ _ _ _ hw d_W_isOddAfter_39
        · exact absurd hw9 (by decide)
      · exact absurd hw9 (by decide)
    · refine lv_aload_n hx hb d_W_isOddAfter_8 rfl (lv_at hl 0 rfl) ?_
      refine wg_Whole_below hx hb hC hw (by omega) bw_57 d_W_isOddAfter_9 ?_
      refine sw_i (y := nI 1) (hKk) ?_
      refine n_if_eq (tgt := 30) hx hb d_W_isOddAfter_12 (by decide) (by omega) (fun hw9 => ?_) (fun hw9 => ?_)
      · exact absurd hw9 (by decide)
      · refine lv_aload_n hx hb d_W_isOddAfter_15 rfl (lv_at hl 0 rfl) ?_
        refine wg_Whole_size hx hb hC hw (by omega) bw_53 d_W_isOddAfter_16 ?_
        refine lv_iload_n hx hb d_W_isOddAfter_19 rfl (lv_at hl 1 rfl) ?_
        refine wcV_z (As := [.int (nI i)]) hx hb hC hw (k_N_hasBitBelow l T V K I O k i (by omega) hb9 hV) lk_W_50 rfl rfl ⟨by show 1 + 1 ≤ R.frames; omega, by show 8 + (4 + 11) + 21 ≤ R.locals; omega⟩ (by omega) (we_Natural (by omega)) rfl rfl hl.1 rfl (Nat.le_of_ble_eq_true rfl) ⟨Nat.zero_le _, Nat.zero_le _⟩ d_W_isOddAfter_20 (fun H locs hw => ?_)
        by_cases hz : V k % 2 ^ i ≠ 0
        · refine sw_i (y := nI 1) (by rw [if_pos hz]; rfl) ?_
          refine n_if_eq (tgt := 30) hx hb d_W_isOddAfter_23 (by decide) (by omega) (fun hw9 => ?_) (fun hw9 => ?_)
          · exact absurd hw9 (by decide)
          · refine lv_iconst (v := nI 1) hx hb d_W_isOddAfter_26 (by decide +kernel) ?_
            refine lv_goto (tgt := 31) hx hb d_W_isOddAfter_27 (by decide) ?_
            refine n_icmp_eq (tgt := 38) hx hb d_W_isOddAfter_31 (by decide) (by omega) (by omega) (fun hw9 => ?_) (fun hw9 => ?_)
            · exact absurd hw9 (by decide)
            · refine lv_iconst (v := nI 1) hx hb d_W_isOddAfter_34 (by decide +kernel) ?_
              refine lv_goto (tgt := 39) hx hb d_W_isOddAfter_35 (by decide) ?_
              rw [htb, decide_eq_true hz] at hret
              exact hret _ _ _ _ hw d_W_isOddAfter_39
        · refine sw_i (y := nI 0) (by rw [if_neg hz]; rfl) ?_
          refine n_if_eq (tgt := 30) hx hb d_W_isOddAfter_23 (by decide) (by omega) (fun hw9 => ?_) (fun hw9 => ?_)
          · refine lv_iconst (v := nI 0) hx hb d_W_isOddAfter_30 (by decide +kernel) ?_
            refine n_icmp_eq (tgt := 38) hx hb d_W_isOddAfter_31 (by decide) (by omega) (by omega) (fun hw9 => ?_) (fun hw9 => ?_)
            · refine lv_iconst (v := nI 0) hx hb d_W_isOddAfter_38 (by decide +kernel) ?_
              rw [htb, decide_eq_false hz] at hret
              exact hret _ _ _ _ hw d_W_isOddAfter_39
            · exact absurd hw9 (by decide)
          · exact absurd hw9 (by decide)
  · refine sw_i (y := nI 1) rfl ?_
    cases bk
    · refine lv_aload_n hx hb d_W_isOddAfter_8 rfl (lv_at hl 0 rfl) ?_
      refine wg_Whole_below hx hb hC hw (by omega) bw_57 d_W_isOddAfter_9 ?_
      refine sw_i (y := nI 0) (hKk) ?_
      refine n_if_eq (tgt := 30) hx hb d_W_isOddAfter_12 (by decide) (by omega) (fun hw9 => ?_) (fun hw9 => ?_)
      · refine lv_iconst (v := nI 0) hx hb d_W_isOddAfter_30 (by decide +kernel) ?_
        refine n_icmp_eq (tgt := 38) hx hb d_W_isOddAfter_31 (by decide) (by omega) (by omega) (fun hw9 => ?_) (fun hw9 => ?_)
        · exact absurd hw9 (by decide)
        · refine lv_iconst (v := nI 1) hx hb d_W_isOddAfter_34 (by decide +kernel) ?_
          refine lv_goto (tgt := 39) hx hb d_W_isOddAfter_35 (by decide) ?_
          rw [htb] at hret
          exact hret _ _ _ _ hw d_W_isOddAfter_39
      · exact absurd hw9 (by decide)
    · refine lv_aload_n hx hb d_W_isOddAfter_8 rfl (lv_at hl 0 rfl) ?_
      refine wg_Whole_below hx hb hC hw (by omega) bw_57 d_W_isOddAfter_9 ?_
      refine sw_i (y := nI 1) (hKk) ?_
      refine n_if_eq (tgt := 30) hx hb d_W_isOddAfter_12 (by decide) (by omega) (fun hw9 => ?_) (fun hw9 => ?_)
      · exact absurd hw9 (by decide)
      · refine lv_aload_n hx hb d_W_isOddAfter_15 rfl (lv_at hl 0 rfl) ?_
        refine wg_Whole_size hx hb hC hw (by omega) bw_53 d_W_isOddAfter_16 ?_
        refine lv_iload_n hx hb d_W_isOddAfter_19 rfl (lv_at hl 1 rfl) ?_
        refine wcV_z (As := [.int (nI i)]) hx hb hC hw (k_N_hasBitBelow l T V K I O k i (by omega) hb9 hV) lk_W_50 rfl rfl ⟨by show 1 + 1 ≤ R.frames; omega, by show 8 + (4 + 11) + 21 ≤ R.locals; omega⟩ (by omega) (we_Natural (by omega)) rfl rfl hl.1 rfl (Nat.le_of_ble_eq_true rfl) ⟨Nat.zero_le _, Nat.zero_le _⟩ d_W_isOddAfter_20 (fun H locs hw => ?_)
        by_cases hz : V k % 2 ^ i ≠ 0
        · refine sw_i (y := nI 1) (by rw [if_pos hz]; rfl) ?_
          refine n_if_eq (tgt := 30) hx hb d_W_isOddAfter_23 (by decide) (by omega) (fun hw9 => ?_) (fun hw9 => ?_)
          · exact absurd hw9 (by decide)
          · refine lv_iconst (v := nI 1) hx hb d_W_isOddAfter_26 (by decide +kernel) ?_
            refine lv_goto (tgt := 31) hx hb d_W_isOddAfter_27 (by decide) ?_
            refine n_icmp_eq (tgt := 38) hx hb d_W_isOddAfter_31 (by decide) (by omega) (by omega) (fun hw9 => ?_) (fun hw9 => ?_)
            · refine lv_iconst (v := nI 0) hx hb d_W_isOddAfter_38 (by decide +kernel) ?_
              rw [htb, decide_eq_true hz] at hret
              exact hret _ _ _ _ hw d_W_isOddAfter_39
            · exact absurd hw9 (by decide)
        · refine sw_i (y := nI 0) (by rw [if_neg hz]; rfl) ?_
          refine n_if_eq (tgt := 30) hx hb d_W_isOddAfter_23 (by decide) (by omega) (fun hw9 => ?_) (fun hw9 => ?_)
          · refine lv_iconst (v := nI 0) hx hb d_W_isOddAfter_30 (by decide +kernel) ?_
            refine n_icmp_eq (tgt := 38) hx hb d_W_isOddAfter_31 (by decide) (by omega) (by omega) (fun hw9 => ?_) (fun hw9 => ?_)
            · exact absurd hw9 (by decide)
            · refine lv_iconst (v := nI 1) hx hb d_W_isOddAfter_34 (by decide +kernel) ?_
              refine lv_goto (tgt := 39) hx hb d_W_isOddAfter_35 (by decide) ?_
              rw [htb, decide_eq_false hz] at hret
              exact hret _ _ _ _ hw d_W_isOddAfter_39
          · exact absurd hw9 (by decide)
