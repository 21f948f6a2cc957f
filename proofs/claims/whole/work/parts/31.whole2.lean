/-! Whole: lowered, sums -/
def sV (b s : Bool) (x y : Nat) : Nat := if b = s then x + y else if y ≤ x then x - y else y - x
def sG (b s : Bool) (x y : Nat) : Bool := if b = s then b else if y ≤ x then b else s
def sB (b s : Bool) (x y : Nat) : Bool := sG b s x y && !decide (sV b s x y = 0)
theorem sV_lt {b s : Bool} {x y : Nat} (hx : x < vB ^ 74) (hy : y < vB ^ 74) : sV b s x y < vLim := by
  have h1 : vB ^ 74 * 2 ≤ vLim := by
    have e : vLim = vB ^ 74 * 268435456 := Nat.pow_succ ..
    rw [e]; exact Nat.mul_le_mul_left _ (by decide)
  unfold sV
  generalize vB ^ 74 = P at *
  split
  · omega
  · split <;> omega

set_option maxRecDepth 100000 in
set_option maxHeartbeats 4000000 in
theorem k_W_takeLowered (l : Launch) (T : wT) (V : Nat → Nat) (K : wUt) (I : wIt) (O : wOt) (k j n : Nat) (hk : k < 13) (hj : j < 13) (hjk : j ≠ k) (hn : n < 1073741824) (hkj : kD (V j) ≤ 74) (bj : Bool) (hKj : K j = bI bj) (hV : ∀ n, n < 34 → V n < vLim) : Met l y_W_takeLowered (.code y_W_takeLowered c_W_takeLowered 4 none :: bg) ({ frames := 2, cells := 0, slots := 0, locals := 52 } : Room) (mP T (fF V) (fU V) K I O [.ref (wa T (68 + k)), .ref (wa T (68 + j)), .int (nI n)]) (mQv T (fF (va_up V k (V j / 2 ^ n + (if (bj && decide (V j % 2 ^ n ≠ 0)) = true then 1 else 0)))) (fU (va_up V k (V j / 2 ^ n + (if (bj && decide (V j % 2 ^ n ≠ 0)) = true then 1 else 0)))) (va_up K k (bI bj)) I O) 0 0 (wA T) := by
  refine wM_v (by decide) (Nat.le_of_ble_eq_true rfl) ?_
  intro p e R s m args below meth c Q ls hx hb hC hRf hRl hret hl hw
  have hRf : 2 ≤ R.frames := hRf
  have hRl : 52 ≤ R.locals := hRl
  have hl : lv_has ls 4 [(0, .ref (wa T (68 + k))), (1, .ref (wa T (68 + j))), (2, .int (nI n))] := hl
  have hq : V j / 2 ^ n < vLim := Nat.lt_of_le_of_lt (Nat.div_le_self _ _) (hV j (by omega))
  have hq2 : kD (V j / 2 ^ n) ≤ 74 := Nat.le_trans (kD_mo (hV j (by omega)) (Nat.div_le_self _ _)) hkj
  cases bj
  · refine lv_aload_n hx hb d_W_takeLowered_0 rfl (lv_at hl 1 rfl) ?_
    refine wg_Whole_below hx hb hC hw (by omega) bw_57 d_W_takeLowered_1 ?_
    refine sw_i (y := nI 0) (hKj) ?_
    refine n_if_eq (tgt := 22) hx hb d_W_takeLowered_4 (by decide) (by omega) (fun hw9 => ?_) (fun hw9 => ?_)
    · refine lv_iconst (v := nI 0) hx hb d_W_takeLowered_22 (by decide +kernel) ?_
      refine lv_istore_n hx hb d_W_takeLowered_23 rfl hl (by decide) rfl (fun ls hl => ?_)
      have hl : lv_has ls 4 [(3, .int (nI 0)), (0, .ref (wa T (68 + k))), (1, .ref (wa T (68 + j))), (2, .int (nI n))] := hl
      refine lv_aload_n hx hb d_W_takeLowered_24 rfl (lv_at hl 1 rfl) ?_
      refine wg_Whole_size hx hb hC hw (by omega) bw_53 d_W_takeLowered_25 ?_
      refine lv_aload_n hx hb d_W_takeLowered_28 rfl (lv_at hl 2 rfl) ?_
      refine wg_Whole_size hx hb hC hw (by omega) bw_53 d_W_takeLowered_29 ?_
      refine lv_iload_n hx hb d_W_takeLowered_32 rfl (lv_at hl 3 rfl) ?_
      refine wcV_v (As := [.ref (wa T j), .int (nI n)]) hx hb hC hw (k_N_takeLowered l T V K I O k j n (by omega) (by omega) hn hV) lk_W_54 rfl rfl ⟨by show 1 + 1 ≤ R.frames; omega, by show 8 + (11 + 11) + 22 ≤ R.locals; omega⟩ (by omega) (we_Natural (by omega)) rfl rfl hl.1 rfl (Nat.le_of_ble_eq_true rfl) ⟨Nat.zero_le _, Nat.zero_le _⟩ d_W_takeLowered_33 (fun H locs hw => ?_)
      refine lv_iload_n hx hb d_W_takeLowered_36 rfl (lv_at hl 0 rfl) ?_
      refine n_if_eq (tgt := 47) hx hb d_W_takeLowered_37 (by decide) (by omega) (fun hw9 => ?_) (fun hw9 => ?_)
      · refine lv_aload_n hx hb d_W_takeLowered_47 rfl (lv_at hl 1 rfl) ?_
        refine lv_aload_n hx hb d_W_takeLowered_48 rfl (lv_at hl 2 rfl) ?_
        refine wg_Whole_below hx hb hC hw (by omega) bw_57 d_W_takeLowered_49 ?_
        refine sw_i (y := nI 0) (hKj) ?_
        refine wp_Whole_below hx hb hC hw (by omega) (zb0) (zf0) bw_57 d_W_takeLowered_52 (fun H locs hw => ?_)
        have hw := hw
        exact hret _ _ _ _ hw d_W_takeLowered_55
      · exact absurd hw9 (by decide)
    · exact absurd hw9 (by decide)
  · refine lv_aload_n hx hb d_W_takeLowered_0 rfl (lv_at hl 1 rfl) ?_
    refine wg_Whole_below hx hb hC hw (by omega) bw_57 d_W_takeLowered_1 ?_
    refine sw_i (y := nI 1) (hKj) ?_
    refine n_if_eq (tgt := 22) hx hb d_W_takeLowered_4 (by decide) (by omega) (fun hw9 => ?_) (fun hw9 => ?_)
    · exact absurd hw9 (by decide)
    · refine lv_aload_n hx hb d_W_takeLowered_7 rfl (lv_at hl 1 rfl) ?_
      refine wg_Whole_size hx hb hC hw (by omega) bw_53 d_W_takeLowered_8 ?_
      refine lv_iload_n hx hb d_W_takeLowered_11 rfl (lv_at hl 2 rfl) ?_
      refine wcV_z (As := [.int (nI n)]) hx hb hC hw (k_N_hasBitBelow l T V K I O j n (by omega) (by omega) hV) lk_W_50 rfl rfl ⟨by show 1 + 1 ≤ R.frames; omega, by show 8 + (4 + 11) + 21 ≤ R.locals; omega⟩ (by omega) (we_Natural (by omega)) rfl rfl hl.1 rfl (Nat.le_of_ble_eq_true rfl) ⟨Nat.zero_le _, Nat.zero_le _⟩ d_W_takeLowered_12 (fun H locs hw => ?_)
      by_cases hz : V j % 2 ^ n ≠ 0
      · refine sw_i (y := nI 1) (by rw [if_pos hz]; rfl) ?_
        refine n_if_eq (tgt := 22) hx hb d_W_takeLowered_15 (by decide) (by omega) (fun hw9 => ?_) (fun hw9 => ?_)
        · exact absurd hw9 (by decide)
        · refine lv_iconst (v := nI 1) hx hb d_W_takeLowered_18 (by decide +kernel) ?_
          refine lv_goto (tgt := 23) hx hb d_W_takeLowered_19 (by decide) ?_
          refine lv_istore_n hx hb d_W_takeLowered_23 rfl hl (by decide) rfl (fun ls hl => ?_)
          have hl : lv_has ls 4 [(3, .int (nI 1)), (0, .ref (wa T (68 + k))), (1, .ref (wa T (68 + j))), (2, .int (nI n))] := hl
          refine lv_aload_n hx hb d_W_takeLowered_24 rfl (lv_at hl 1 rfl) ?_
          refine wg_Whole_size hx hb hC hw (by omega) bw_53 d_W_takeLowered_25 ?_
          refine lv_aload_n hx hb d_W_takeLowered_28 rfl (lv_at hl 2 rfl) ?_
          refine wg_Whole_size hx hb hC hw (by omega) bw_53 d_W_takeLowered_29 ?_
          refine lv_iload_n hx hb d_W_takeLowered_32 rfl (lv_at hl 3 rfl) ?_
          refine wcV_v (As := [.ref (wa T j), .int (nI n)]) hx hb hC hw (k_N_takeLowered l T V K I O k j n (by omega) (by omega) hn hV) lk_W_54 rfl rfl ⟨by show 1 + 1 ≤ R.frames; omega, by show 8 + (11 + 11) + 22 ≤ R.locals; omega⟩ (by omega) (we_Natural (by omega)) rfl rfl hl.1 rfl (Nat.le_of_ble_eq_true rfl) ⟨Nat.zero_le _, Nat.zero_le _⟩ d_W_takeLowered_33 (fun H locs hw => ?_)
          refine lv_iload_n hx hb d_W_takeLowered_36 rfl (lv_at hl 0 rfl) ?_
          refine n_if_eq (tgt := 47) hx hb d_W_takeLowered_37 (by decide) (by omega) (fun hw9 => ?_) (fun hw9 => ?_)
          · exact absurd hw9 (by decide)
          · refine lv_aload_n hx hb d_W_takeLowered_40 rfl (lv_at hl 1 rfl) ?_
            refine wg_Whole_size hx hb hC hw (by omega) bw_53 d_W_takeLowered_41 ?_
            refine wcV_v (As := []) hx hb hC hw (k_N_increase l T (va_up V k (V j / 2 ^ n)) K I O k (by omega) (by rw [va_up_self]; exact hq2) (hV_up hV hq)) lk_W_57 rfl rfl ⟨by show 1 + 1 ≤ R.frames; omega, by show 8 + (2 + 11) + 21 ≤ R.locals; omega⟩ (by omega) (we_Natural (by omega)) rfl rfl hl.1 rfl (Nat.le_of_ble_eq_true rfl) ⟨Nat.zero_le _, Nat.zero_le _⟩ d_W_takeLowered_44 (fun H locs hw => ?_)
            rw [va_up_self, bx_uu] at hw
            refine lv_aload_n hx hb d_W_takeLowered_47 rfl (lv_at hl 1 rfl) ?_
            refine lv_aload_n hx hb d_W_takeLowered_48 rfl (lv_at hl 2 rfl) ?_
            refine wg_Whole_below hx hb hC hw (by omega) bw_57 d_W_takeLowered_49 ?_
            refine sw_i (y := nI 1) (hKj) ?_
            refine wp_Whole_below hx hb hC hw (by omega) (zb1) (zf1) bw_57 d_W_takeLowered_52 (fun H locs hw => ?_)
            rw [decide_eq_true hz] at hret
            exact hret _ _ _ _ hw d_W_takeLowered_55
      · refine sw_i (y := nI 0) (by rw [if_neg hz]; rfl) ?_
        refine n_if_eq (tgt := 22) hx hb d_W_takeLowered_15 (by decide) (by omega) (fun hw9 => ?_) (fun hw9 => ?_)
        · refine lv_iconst (v := nI 0) hx hb d_W_takeLowered_22 (by decide +kernel) ?_
          refine lv_istore_n hx hb d_W_takeLowered_23 rfl hl (by decide) rfl (fun ls hl => ?_)
          have hl : lv_has ls 4 [(3, .int (nI 0)), (0, .ref (wa T (68 + k))), (1, .ref (wa T (68 + j))), (2, .int (nI n))] := hl
          refine lv_aload_n hx hb d_W_takeLowered_24 rfl (lv_at hl 1 rfl) ?_
          refine wg_Whole_size hx hb hC hw (by omega) bw_53 d_W_takeLowered_25 ?_
          refine lv_aload_n hx hb d_W_takeLowered_28 rfl (lv_at hl 2 rfl) ?_
          refine wg_Whole_size hx hb hC hw (by omega) bw_53 d_W_takeLowered_29 ?_
          refine lv_iload_n hx hb d_W_takeLowered_32 rfl (lv_at hl 3 rfl) ?_
          refine wcV_v (As := [.ref (wa T j), .int (nI n)]) hx hb hC hw (k_N_takeLowered l T V K I O k j n (by omega) (by omega) hn hV) lk_W_54 rfl rfl ⟨by show 1 + 1 ≤ R.frames; omega, by show 8 + (11 + 11) + 22 ≤ R.locals; omega⟩ (by omega) (we_Natural (by omega)) rfl rfl hl.1 rfl (Nat.le_of_ble_eq_true rfl) ⟨Nat.zero_le _, Nat.zero_le _⟩ d_W_takeLowered_33 (fun H locs hw => ?_)
          refine lv_iload_n hx hb d_W_takeLowered_36 rfl (lv_at hl 0 rfl) ?_
          refine n_if_eq (tgt := 47) hx hb d_W_takeLowered_37 (by decide) (by omega) (fun hw9 => ?_) (fun hw9 => ?_)
          · refine lv_aload_n hx hb d_W_takeLowered_47 rfl (lv_at hl 1 rfl) ?_
            refine lv_aload_n hx hb d_W_takeLowered_48 rfl (lv_at hl 2 rfl) ?_
            refine wg_Whole_below hx hb hC hw (by omega) bw_57 d_W_takeLowered_49 ?_
            refine sw_i (y := nI 1) (hKj) ?_
            refine wp_Whole_below hx hb hC hw (by omega) (zb1) (zf1) bw_57 d_W_takeLowered_52 (fun H locs hw => ?_)
            rw [decide_eq_false hz] at hret
            exact hret _ _ _ _ hw d_W_takeLowered_55
          · exact absurd hw9 (by decide)
        · exact absurd hw9 (by decide)
set_option maxRecDepth 100000 in
set_option maxHeartbeats 4000000 in
theorem k_W_takeSum (l : Launch) (T : wT) (V : Nat → Nat) (K : wUt) (I : wIt) (O : wOt) (k i j : Nat) (hk : k < 13) (hi9 : i < 13) (hj : j < 13) (hki : kD (V i) ≤ 74) (hkj : kD (V j) ≤ 74) (bi bj tu : Bool) (hKi : K i = bI bi) (hKj : K j = bI bj) (hV : ∀ n, n < 34 → V n < vLim) : Met l y_W_takeSum (.code y_W_takeSum c_W_takeSum 6 none :: bg) ({ frames := 2, cells := 0, slots := 0, locals := 48 } : Room) (mP T (fF V) (fU V) K I O [.ref (wa T (68 + k)), .ref (wa T (68 + i)), .ref (wa T (68 + j)), .int (bI tu)]) (mQv T (fF (va_up V k (sV bi (bj != tu) (V i) (V j)))) (fU (va_up V k (sV bi (bj != tu) (V i) (V j)))) (va_up K k (bI (sB bi (bj != tu) (V i) (V j)))) I O) 0 0 (wA T) := by
  refine wM_v (by decide) (Nat.le_of_ble_eq_true rfl) ?_
  intro p e R s m args below meth c Q ls hx hb hC hRf hRl hret hl hw
  have hRf : 2 ≤ R.frames := hRf
  have hRl : 48 ≤ R.locals := hRl
  have hl : lv_has ls 6 [(0, .ref (wa T (68 + k))), (1, .ref (wa T (68 + i))), (2, .ref (wa T (68 + j))), (3, .int (bI tu))] := hl
  have hsl : ∀ b s, sV b s (V i) (V j) < vLim := fun b s => sV_lt (Nat.lt_of_lt_of_le (kD_lt (hV i (by omega))) (vB_le hki)) (Nat.lt_of_lt_of_le (kD_lt (hV j (by omega))) (vB_le hkj))
  cases bi
  · cases bj
    · cases tu
      · have hl : lv_has ls 6 [(0, .ref (wa T (68 + k))), (1, .ref (wa T (68 + i))), (2, .ref (wa T (68 + j))), (3, .int (nI 0))] := hl
        refine lv_aload_n hx hb d_W_takeSum_0 rfl (lv_at hl 2 rfl) ?_
        refine wg_Whole_below hx hb hC hw (by omega) bw_57 d_W_takeSum_1 ?_
        refine sw_i (y := nI 0) (hKj) ?_
        refine lv_iload_n hx hb d_W_takeSum_4 rfl (lv_at hl 3 rfl) ?_
        refine n_icmp_eq (tgt := 12) hx hb d_W_takeSum_5 (by decide) (by omega) (by omega) (fun hw9 => ?_) (fun hw9 => ?_)
        · refine lv_iconst (v := nI 0) hx hb d_W_takeSum_12 (by decide +kernel) ?_
          refine lv_istore hx hb d_W_takeSum_13 hl (by decide) rfl (fun ls hl => ?_)
          have hl : lv_has ls 6 [(4, .int (nI 0)), (0, .ref (wa T (68 + k))), (1, .ref (wa T (68 + i))), (2, .ref (wa T (68 + j))), (3, .int (nI 0))] := hl
          refine lv_aload_n hx hb d_W_takeSum_15 rfl (lv_at hl 2 rfl) ?_
          refine wg_Whole_below hx hb hC hw (by omega) bw_57 d_W_takeSum_16 ?_
          refine sw_i (y := nI 0) (hKi) ?_
          refine lv_istore hx hb d_W_takeSum_19 hl (by decide) rfl (fun ls hl => ?_)
          have hl : lv_has ls 6 [(5, .int (nI 0)), (4, .int (nI 0)), (0, .ref (wa T (68 + k))), (1, .ref (wa T (68 + i))), (2, .ref (wa T (68 + j))), (3, .int (nI 0))] := hl
          refine lv_aload_n hx hb d_W_takeSum_21 rfl (lv_at hl 3 rfl) ?_
          refine wg_Whole_below hx hb hC hw (by omega) bw_57 d_W_takeSum_22 ?_
          refine sw_i (y := nI 0) (hKi) ?_
          refine lv_iload hx hb d_W_takeSum_25 (lv_at hl 1 rfl) ?_
          refine n_icmp_ne (tgt := 48) hx hb d_W_takeSum_27 (by decide) (by omega) (by omega) (fun hw9 => ?_) (fun hw9 => ?_)
          · exact absurd hw9 (by decide)
          · refine lv_aload_n hx hb d_W_takeSum_30 rfl (lv_at hl 2 rfl) ?_
            refine wg_Whole_size hx hb hC hw (by omega) bw_53 d_W_takeSum_31 ?_
            refine lv_aload_n hx hb d_W_takeSum_34 rfl (lv_at hl 3 rfl) ?_
            refine wg_Whole_size hx hb hC hw (by omega) bw_53 d_W_takeSum_35 ?_
            refine lv_aload_n hx hb d_W_takeSum_38 rfl (lv_at hl 4 rfl) ?_
            refine wg_Whole_size hx hb hC hw (by omega) bw_53 d_W_takeSum_39 ?_
            refine wcV_v (As := [.ref (wa T i), .ref (wa T j)]) hx hb hC hw (k_N_takeSum l T V K I O k i j (by omega) (by omega) (by omega) hki hkj hV) lk_W_32 rfl rfl ⟨by show 1 + 1 ≤ R.frames; omega, by show 8 + (7 + 11) + 22 ≤ R.locals; omega⟩ (by omega) (we_Natural (by omega)) rfl rfl hl.1 rfl (Nat.le_of_ble_eq_true rfl) ⟨Nat.zero_le _, Nat.zero_le _⟩ d_W_takeSum_42 (fun H locs hw => ?_)
            refine lv_goto (tgt := 99) hx hb d_W_takeSum_45 (by decide) ?_
            have eV : sV false (false != false) (V i) (V j) = V i + V j := by rfl
            have eS : sG false (false != false) (V i) (V j) = false := by rfl
            rw [← eV] at hw
            refine lv_aload_n hx hb d_W_takeSum_99 rfl (lv_at hl 2 rfl) ?_
            refine lv_iload hx hb d_W_takeSum_100 (lv_at hl 0 rfl) ?_
            refine n_if_eq (tgt := 119) hx hb d_W_takeSum_102 (by decide) (by omega) (fun hw9 => ?_) (fun hw9 => ?_)
            · refine lv_iconst (v := nI 0) hx hb d_W_takeSum_119 (by decide +kernel) ?_
              refine wp_Whole_below hx hb hC hw (by omega) (zb0) (zf0) bw_57 d_W_takeSum_120 (fun H locs hw => ?_)
              have e9 : bI (sB false (false != false) (V i) (V j)) = nI 0 := by unfold sB; rw [eS]; rfl
              rw [← e9] at hw
              exact hret _ _ _ _ hw d_W_takeSum_123
            · exact absurd hw9 (by decide)
        · exact absurd hw9 (by decide)
      · have hl : lv_has ls 6 [(0, .ref (wa T (68 + k))), (1, .ref (wa T (68 + i))), (2, .ref (wa T (68 + j))), (3, .int (nI 1))] := hl
        refine lv_aload_n hx hb d_W_takeSum_0 rfl (lv_at hl 2 rfl) ?_
        refine wg_Whole_below hx hb hC hw (by omega) bw_57 d_W_takeSum_1 ?_
        refine sw_i (y := nI 0) (hKj) ?_
        refine lv_iload_n hx hb d_W_takeSum_4 rfl (lv_at hl 3 rfl) ?_
        refine n_icmp_eq (tgt := 12) hx hb d_W_takeSum_5 (by decide) (by omega) (by omega) (fun hw9 => ?_) (fun hw9 => ?_)
        · exact absurd hw9 (by decide)
        · refine lv_iconst (v := nI 1) hx hb d_W_takeSum_8 (by decide +kernel) ?_
          refine lv_goto (tgt := 13) hx hb d_W_takeSum_9 (by decide) ?_
          refine lv_istore hx hb d_W_takeSum_13 hl (by decide) rfl (fun ls hl => ?_)
          have hl : lv_has ls 6 [(4, .int (nI 1)), (0, .ref (wa T (68 + k))), (1, .ref (wa T (68 + i))), (2, .ref (wa T (68 + j))), (3, .int (nI 1))] := hl
          refine lv_aload_n hx hb d_W_takeSum_15 rfl (lv_at hl 2 rfl) ?_
          refine wg_Whole_below hx hb hC hw (by omega) bw_57 d_W_takeSum_16 ?_
          refine sw_i (y := nI 0) (hKi) ?_
          refine lv_istore hx hb d_W_takeSum_19 hl (by decide) rfl (fun ls hl => ?_)
          have hl : lv_has ls 6 [(5, .int (nI 0)), (4, .int (nI 1)), (0, .ref (wa T (68 + k))), (1, .ref (wa T (68 + i))), (2, .ref (wa T (68 + j))), (3, .int (nI 1))] := hl
          refine lv_aload_n hx hb d_W_takeSum_21 rfl (lv_at hl 3 rfl) ?_
          refine wg_Whole_below hx hb hC hw (by omega) bw_57 d_W_takeSum_22 ?_
          refine sw_i (y := nI 0) (hKi) ?_
          refine lv_iload hx hb d_W_takeSum_25 (lv_at hl 1 rfl) ?_
          refine n_icmp_ne (tgt := 48) hx hb d_W_takeSum_27 (by decide) (by omega) (by omega) (fun hw9 => ?_) (fun hw9 => ?_)
          · refine lv_aload_n hx hb d_W_takeSum_48 rfl (lv_at hl 3 rfl) ?_
            refine wg_Whole_size hx hb hC hw (by omega) bw_53 d_W_takeSum_49 ?_
            refine lv_aload_n hx hb d_W_takeSum_52 rfl (lv_at hl 4 rfl) ?_
            refine wg_Whole_size hx hb hC hw (by omega) bw_53 d_W_takeSum_53 ?_
            refine wcV_i (As := [.ref (wa T j)]) hx hb hC hw (k_N_order l T V K I O i j (by omega) (by omega) hV) lk_W_36 rfl rfl ⟨by show 0 + 1 ≤ R.frames; omega, by show 8 + (3 + 11) + 0 ≤ R.locals; omega⟩ (by omega) (we_Natural (by omega)) rfl rfl hl.1 rfl (Nat.le_of_ble_eq_true rfl) ⟨Nat.zero_le _, Nat.zero_le _⟩ d_W_takeSum_56 (fun H locs hw => ?_)
            by_cases hlt : V i < V j
            · refine sw_i (y := -1) (by rw [if_pos hlt]) ?_
              refine lv_if_lt (tgt := 80) hx hb d_W_takeSum_59 (by decide) (fun h9 => ?_) (fun h9 => ?_)
              · refine lv_aload_n hx hb d_W_takeSum_80 rfl (lv_at hl 2 rfl) ?_
                refine wg_Whole_size hx hb hC hw (by omega) bw_53 d_W_takeSum_81 ?_
                refine lv_aload_n hx hb d_W_takeSum_84 rfl (lv_at hl 4 rfl) ?_
                refine wg_Whole_size hx hb hC hw (by omega) bw_53 d_W_takeSum_85 ?_
                refine lv_aload_n hx hb d_W_takeSum_88 rfl (lv_at hl 3 rfl) ?_
                refine wg_Whole_size hx hb hC hw (by omega) bw_53 d_W_takeSum_89 ?_
                refine wcV_v (As := [.ref (wa T j), .ref (wa T i)]) hx hb hC hw (k_N_takeDifference l T V K I O k j i (by omega) (by omega) (by omega) (by omega) hV) lk_W_40 rfl rfl ⟨by show 1 + 1 ≤ R.frames; omega, by show 8 + (7 + 11) + 22 ≤ R.locals; omega⟩ (by omega) (we_Natural (by omega)) rfl rfl hl.1 rfl (Nat.le_of_ble_eq_true rfl) ⟨Nat.zero_le _, Nat.zero_le _⟩ d_W_takeSum_92 (fun H locs hw => ?_)
                refine lv_iload hx hb d_W_takeSum_95 (lv_at hl 1 rfl) ?_
                refine lv_istore hx hb d_W_takeSum_97 hl (by decide) rfl (fun ls hl => ?_)
                have hl : lv_has ls 6 [(5, .int (nI 1)), (4, .int (nI 1)), (0, .ref (wa T (68 + k))), (1, .ref (wa T (68 + i))), (2, .ref (wa T (68 + j))), (3, .int (nI 1))] := hl
                have eV : sV false (false != true) (V i) (V j) = V j - V i := by unfold sV; rw [if_neg (by decide), if_neg (by omega)]
                have eS : sG false (false != true) (V i) (V j) = true := by unfold sG; rw [if_neg (by decide), if_neg (by omega)]; rfl
                rw [← eV] at hw
                refine lv_aload_n hx hb d_W_takeSum_99 rfl (lv_at hl 2 rfl) ?_
                refine lv_iload hx hb d_W_takeSum_100 (lv_at hl 0 rfl) ?_
                refine n_if_eq (tgt := 119) hx hb d_W_takeSum_102 (by decide) (by omega) (fun hw9 => ?_) (fun hw9 => ?_)
                · exact absurd hw9 (by decide)
                · refine lv_aload_n hx hb d_W_takeSum_105 rfl (lv_at hl 2 rfl) ?_
                  refine wg_Whole_size hx hb hC hw (by omega) bw_53 d_W_takeSum_106 ?_
                  refine wcV_z (As := []) hx hb hC hw (k_N_isZero l T (va_up V k (sV false (false != true) (V i) (V j))) K I O k (by omega) (hV_up hV (hsl _ _))) lk_W_24 rfl rfl ⟨by show 0 + 1 ≤ R.frames; omega, by show 8 + (1 + 11) + 0 ≤ R.locals; omega⟩ (by omega) (we_Natural (by omega)) rfl rfl hl.1 rfl (Nat.le_of_ble_eq_true rfl) ⟨Nat.zero_le _, Nat.zero_le _⟩ d_W_takeSum_109 (fun H locs hw => ?_)
                  by_cases hz : (va_up V k (sV false (false != true) (V i) (V j))) k = 0
                  · refine sw_i (y := nI 1) (by rw [if_pos hz]; rfl) ?_
                    refine n_if_ne (tgt := 119) hx hb d_W_takeSum_112 (by decide) (by omega) (fun hw9 => ?_) (fun hw9 => ?_)
                    · rw [va_up_self] at hz
                      refine lv_iconst (v := nI 0) hx hb d_W_takeSum_119 (by decide +kernel) ?_
                      refine wp_Whole_below hx hb hC hw (by omega) (zb0) (zf0) bw_57 d_W_takeSum_120 (fun H locs hw => ?_)
                      have e9 : bI (sB false (false != true) (V i) (V j)) = nI 0 := by unfold sB; rw [eS, decide_eq_true hz]; rfl
                      rw [← e9] at hw
                      exact hret _ _ _ _ hw d_W_takeSum_123
                    · exact absurd hw9 (by decide)
                  · refine sw_i (y := nI 0) (by rw [if_neg hz]; rfl) ?_
                    refine n_if_ne (tgt := 119) hx hb d_W_takeSum_112 (by decide) (by omega) (fun hw9 => ?_) (fun hw9 => ?_)
                    · exact absurd hw9 (by decide)
                    · rw [va_up_self] at hz
                      refine lv_iconst (v := nI 1) hx hb d_W_takeSum_115 (by decide +kernel) ?_
                      refine lv_goto (tgt := 120) hx hb d_W_takeSum_116 (by decide) ?_
                      refine wp_Whole_below hx hb hC hw (by omega) (zb1) (zf1) bw_57 d_W_takeSum_120 (fun H locs hw => ?_)
                      have e9 : bI (sB false (false != true) (V i) (V j)) = nI 1 := by unfold sB; rw [eS, decide_eq_false hz]; rfl
                      rw [← e9] at hw
                      exact hret _ _ _ _ hw d_W_takeSum_123
              · exact absurd (by decide +kernel) h9
            · refine sw_i (y := if V i = V j then 0 else 1) (by rw [if_neg hlt]) ?_
              refine lv_if_lt (tgt := 80) hx hb d_W_takeSum_59 (by decide) (fun h9 => ?_) (fun h9 => ?_)
              · exact absurd h9 (by split <;> decide +kernel)
              · refine lv_aload_n hx hb d_W_takeSum_62 rfl (lv_at hl 2 rfl) ?_
                refine wg_Whole_size hx hb hC hw (by omega) bw_53 d_W_takeSum_63 ?_
                refine lv_aload_n hx hb d_W_takeSum_66 rfl (lv_at hl 3 rfl) ?_
                refine wg_Whole_size hx hb hC hw (by omega) bw_53 d_W_takeSum_67 ?_
                refine lv_aload_n hx hb d_W_takeSum_70 rfl (lv_at hl 4 rfl) ?_
                refine wg_Whole_size hx hb hC hw (by omega) bw_53 d_W_takeSum_71 ?_
                refine wcV_v (As := [.ref (wa T i), .ref (wa T j)]) hx hb hC hw (k_N_takeDifference l T V K I O k i j (by omega) (by omega) (by omega) (by omega) hV) lk_W_40 rfl rfl ⟨by show 1 + 1 ≤ R.frames; omega, by show 8 + (7 + 11) + 22 ≤ R.locals; omega⟩ (by omega) (we_Natural (by omega)) rfl rfl hl.1 rfl (Nat.le_of_ble_eq_true rfl) ⟨Nat.zero_le _, Nat.zero_le _⟩ d_W_takeSum_74 (fun H locs hw => ?_)
                refine lv_goto (tgt := 99) hx hb d_W_takeSum_77 (by decide) ?_
                have eV : sV false (false != true) (V i) (V j) = V i - V j := by unfold sV; rw [if_neg (by decide), if_pos (by omega)]
                have eS : sG false (false != true) (V i) (V j) = false := by unfold sG; rw [if_neg (by decide), if_pos (by omega)]
                rw [← eV] at hw
                refine lv_aload_n hx hb d_W_takeSum_99 rfl (lv_at hl 2 rfl) ?_
                refine lv_iload hx hb d_W_takeSum_100 (lv_at hl 0 rfl) ?_
                refine n_if_eq (tgt := 119) hx hb d_W_takeSum_102 (by decide) (by omega) (fun hw9 => ?_) (fun hw9 => ?_)
                · refine lv_iconst (v := nI 0) hx hb d_W_takeSum_119 (by decide +kernel) ?_
                  refine wp_Whole_below hx hb hC hw (by omega) (zb0) (zf0) bw_57 d_W_takeSum_120 (fun H locs hw => ?_)
                  have e9 : bI (sB false (false != true) (V i) (V j)) = nI 0 := by unfold sB; rw [eS]; rfl
                  rw [← e9] at hw
                  exact hret _ _ _ _ hw d_W_takeSum_123
                · exact absurd hw9 (by decide)
          · exact absurd hw9 (by decide)
    · cases tu
      · have hl : lv_has ls 6 [(0, .ref (wa T (68 + k))), (1, .ref (wa T (68 + i))), (2, .ref (wa T (68 + j))), (3, .int (nI 0))] := hl
        refine lv_aload_n hx hb d_W_takeSum_0 rfl (lv_at hl 2 rfl) ?_
        refine wg_Whole_below hx hb hC hw (by omega) bw_57 d_W_takeSum_1 ?_
        refine sw_i (y := nI 1) (hKj) ?_
        refine lv_iload_n hx hb d_W_takeSum_4 rfl (lv_at hl 3 rfl) ?_
        refine n_icmp_eq (tgt := 12) hx hb d_W_takeSum_5 (by decide) (by omega) (by omega) (fun hw9 => ?_) (fun hw9 => ?_)
        · exact absurd hw9 (by decide)
        · refine lv_iconst (v := nI 1) hx hb d_W_takeSum_8 (by decide +kernel) ?_
          refine lv_goto (tgt := 13) hx hb d_W_takeSum_9 (by decide) ?_
          refine lv_istore hx hb d_W_takeSum_13 hl (by decide) rfl (fun ls hl => ?_)
          have hl : lv_has ls 6 [(4, .int (nI 1)), (0, .ref (wa T (68 + k))), (1, .ref (wa T (68 + i))), (2, .ref (wa T (68 + j))), (3, .int (nI 0))] := hl
          refine lv_aload_n hx hb d_W_takeSum_15 rfl (lv_at hl 2 rfl) ?_
          refine wg_Whole_below hx hb hC hw (by omega) bw_57 d_W_takeSum_16 ?_
          refine sw_i (y := nI 0) (hKi) ?_
          refine lv_istore hx hb d_W_takeSum_19 hl (by decide) rfl (fun ls hl => ?_)
          have hl : lv_has ls 6 [(5, .int (nI 0)), (4, .int (nI 1)), (0, .ref (wa T (68 + k))), (1, .ref (wa T (68 + i))), (2, .ref (wa T (68 + j))), (3, .int (nI 0))] := hl
          refine lv_aload_n hx hb d_W_takeSum_21 rfl (lv_at hl 3 rfl) ?_
          refine wg_Whole_below hx hb hC hw (by omega) bw_57 d_W_takeSum_22 ?_
          refine sw_i (y := nI 0) (hKi) ?_
          refine lv_iload hx hb d_W_takeSum_25 (lv_at hl 1 rfl) ?_
          refine n_icmp_ne (tgt := 48) hx hb d_W_takeSum_27 (by decide) (by omega) (by omega) (fun hw9 => ?_) (fun hw9 => ?_)
          · refine lv_aload_n hx hb d_W_takeSum_48 rfl (lv_at hl 3 rfl) ?_
            refine wg_Whole_size hx hb hC hw (by omega) bw_53 d_W_takeSum_49 ?_
            refine lv_aload_n hx hb d_W_takeSum_52 rfl (lv_at hl 4 rfl) ?_
            refine wg_Whole_size hx hb hC hw (by omega) bw_53 d_W_takeSum_53 ?_
            refine wcV_i (As := [.ref (wa T j)]) hx hb hC hw (k_N_order l T V K I O i j (by omega) (by omega) hV) lk_W_36 rfl rfl ⟨by show 0 + 1 ≤ R.frames; omega, by show 8 + (3 + 11) + 0 ≤ R.locals; omega⟩ (by omega) (we_Natural (by omega)) rfl rfl hl.1 rfl (Nat.le_of_ble_eq_true rfl) ⟨Nat.zero_le _, Nat.zero_le _⟩ d_W_takeSum_56 (fun H locs hw => ?_)
            by_cases hlt : V i < V j
            · refine sw_i (y := -1) (by rw [if_pos hlt]) ?_
              refine lv_if_lt (tgt := 80) hx hb d_W_takeSum_59 (by decide) (fun h9 => ?_) (fun h9 => ?_)
              · refine lv_aload_n hx hb d_W_takeSum_80 rfl (lv_at hl 2 rfl) ?_
                refine wg_Whole_size hx hb hC hw (by omega) bw_53 d_W_takeSum_81 ?_
                refine lv_aload_n hx hb d_W_takeSum_84 rfl (lv_at hl 4 rfl) ?_
                refine wg_Whole_size hx hb hC hw (by omega) bw_53 d_W_takeSum_85 ?_
                refine lv_aload_n hx hb d_W_takeSum_88 rfl (lv_at hl 3 rfl) ?_
                refine wg_Whole_size hx hb hC hw (by omega) bw_53 d_W_takeSum_89 ?_
                refine wcV_v (As := [.ref (wa T j), .ref (wa T i)]) hx hb hC hw (k_N_takeDifference l T V K I O k j i (by omega) (by omega) (by omega) (by omega) hV) lk_W_40 rfl rfl ⟨by show 1 + 1 ≤ R.frames; omega, by show 8 + (7 + 11) + 22 ≤ R.locals; omega⟩ (by omega) (we_Natural (by omega)) rfl rfl hl.1 rfl (Nat.le_of_ble_eq_true rfl) ⟨Nat.zero_le _, Nat.zero_le _⟩ d_W_takeSum_92 (fun H locs hw => ?_)
                refine lv_iload hx hb d_W_takeSum_95 (lv_at hl 1 rfl) ?_
                refine lv_istore hx hb d_W_takeSum_97 hl (by decide) rfl (fun ls hl => ?_)
                have hl : lv_has ls 6 [(5, .int (nI 1)), (4, .int (nI 1)), (0, .ref (wa T (68 + k))), (1, .ref (wa T (68 + i))), (2, .ref (wa T (68 + j))), (3, .int (nI 0))] := hl
                have eV : sV false (true != false) (V i) (V j) = V j - V i := by unfold sV; rw [if_neg (by decide), if_neg (by omega)]
                have eS : sG false (true != false) (V i) (V j) = true := by unfold sG; rw [if_neg (by decide), if_neg (by omega)]; rfl
                rw [← eV] at hw
                refine lv_aload_n hx hb d_W_takeSum_99 rfl (lv_at hl 2 rfl) ?_
                refine lv_iload hx hb d_W_takeSum_100 (lv_at hl 0 rfl) ?_
                refine n_if_eq (tgt := 119) hx hb d_W_takeSum_102 (by decide) (by omega) (fun hw9 => ?_) (fun hw9 => ?_)
                · exact absurd hw9 (by decide)
                · refine lv_aload_n hx hb d_W_takeSum_105 rfl (lv_at hl 2 rfl) ?_
                  refine wg_Whole_size hx hb hC hw (by omega) bw_53 d_W_takeSum_106 ?_
                  refine wcV_z (As := []) hx hb hC hw (k_N_isZero l T (va_up V k (sV false (true != false) (V i) (V j))) K I O k (by omega) (hV_up hV (hsl _ _))) lk_W_24 rfl rfl ⟨by show 0 + 1 ≤ R.frames; omega, by show 8 + (1 + 11) + 0 ≤ R.locals; omega⟩ (by omega) (we_Natural (by omega)) rfl rfl hl.1 rfl (Nat.le_of_ble_eq_true rfl) ⟨Nat.zero_le _, Nat.zero_le _⟩ d_W_takeSum_109 (fun H locs hw => ?_)
                  by_cases hz : (va_up V k (sV false (true != false) (V i) (V j))) k = 0
                  · refine sw_i (y := nI 1) (by rw [if_pos hz]; rfl) ?_
                    refine n_if_ne (tgt := 119) hx hb d_W_takeSum_112 (by decide) (by omega) (fun hw9 => ?_) (fun hw9 => ?_)
                    · rw [va_up_self] at hz
                      refine lv_iconst (v := nI 0) hx hb d_W_takeSum_119 (by decide +kernel) ?_
                      refine wp_Whole_below hx hb hC hw (by omega) (zb0) (zf0) bw_57 d_W_takeSum_120 (fun H locs hw => ?_)
                      have e9 : bI (sB false (true != false) (V i) (V j)) = nI 0 := by unfold sB; rw [eS, decide_eq_true hz]; rfl
                      rw [← e9] at hw
                      exact hret _ _ _ _ hw d_W_takeSum_123
                    · exact absurd hw9 (by decide)
                  · refine sw_i (y := nI 0) (by rw [if_neg hz]; rfl) ?_
                    refine n_if_ne (tgt := 119) hx hb d_W_takeSum_112 (by decide) (by omega) (fun hw9 => ?_) (fun hw9 => ?_)
                    · exact absurd hw9 (by decide)
                    · rw [va_up_self] at hz
                      refine lv_iconst (v := nI 1) hx hb d_W_takeSum_115 (by decide +kernel) ?_
                      refine lv_goto (tgt := 120) hx hb d_W_takeSum_116 (by decide) ?_
                      refine wp_Whole_below hx hb hC hw (by omega) (zb1) (zf1) bw_57 d_W_takeSum_120 (fun H locs hw => ?_)
                      have e9 : bI (sB false (true != false) (V i) (V j)) = nI 1 := by unfold sB; rw [eS, decide_eq_false hz]; rfl
                      rw [← e9] at hw
                      exact hret _ _ _ _ hw d_W_takeSum_123
              · exact absurd (by decide +kernel) h9
            · refine sw_i (y := if V i = V j then 0 else 1) (by rw [if_neg hlt]) ?_
              refine lv_if_lt (tgt := 80) hx hb d_W_takeSum_59 (by decide) (fun h9 => ?_) (fun h9 => ?_)
              · exact absurd h9 (by split <;> decide +kernel)
              · refine lv_aload_n hx hb d_W_takeSum_62 rfl (lv_at hl 2 rfl) ?_
                refine wg_Whole_size hx hb hC hw (by omega) bw_53 d_W_takeSum_63 ?_
                refine lv_aload_n hx hb d_W_takeSum_66 rfl (lv_at hl 3 rfl) ?_
                refine wg_Whole_size hx hb hC hw (by omega) bw_53 d_W_takeSum_67 ?_
                refine lv_aload_n hx hb d_W_takeSum_70 rfl (lv_at hl 4 rfl) ?_
                refine wg_Whole_size hx hb hC hw (by omega) bw_53 d_W_takeSum_71 ?_
                refine wcV_v (As := [.ref (wa T i), .ref (wa T j)]) hx hb hC hw (k_N_takeDifference l T V K I O k i j (by omega) (by omega) (by omega) (by omega) hV) lk_W_40 rfl rfl ⟨by show 1 + 1 ≤ R.frames; omega, by show 8 + (7 + 11) + 22 ≤ R.locals; omega⟩ (by omega) (we_Natural (by omega)) rfl rfl hl.1 rfl (Nat.le_of_ble_eq_true rfl) ⟨Nat.zero_le _, Nat.zero_le _⟩ d_W_takeSum_74 (fun H locs hw => ?_)
                refine lv_goto (tgt := 99) hx hb d_W_takeSum_77 (by decide) ?_
                have eV : sV false (true != false) (V i) (V j) = V i - V j := by unfold sV; rw [if_neg (by decide), if_pos (by omega)]
                have eS : sG false (true != false) (V i) (V j) = false := by unfold sG; rw [if_neg (by decide), if_pos (by omega)]
                rw [← eV] at hw
                refine lv_aload_n hx hb d_W_takeSum_99 rfl (lv_at hl 2 rfl) ?_
                refine lv_iload hx hb d_W_takeSum_100 (lv_at hl 0 rfl) ?_
                refine n_if_eq (tgt := 119) hx hb d_W_takeSum_102 (by decide) (by omega) (fun hw9 => ?_) (fun hw9 => ?_)
                · refine lv_iconst (v := nI 0) hx hb d_W_takeSum_119 (by decide +kernel) ?_
                  refine wp_Whole_below hx hb hC hw (by omega) (zb0) (zf0) bw_57 d_W_takeSum_120 (fun H locs hw => ?_)
                  have e9 : bI (sB false (true != false) (V i) (V j)) = nI 0 := by unfold sB; rw [eS]; rfl
                  rw [← e9] at hw
                  exact hret _ _ _ _ hw d_W_takeSum_123
                · exact absurd hw9 (by decide)
          · exact absurd hw9 (by decide)
      · have hl : lv_has ls 6 [(0, .ref (wa T (68 + k))), (1, .ref (wa T (68 + i))), (2, .ref (wa T (68 + j))), (3, .int (nI 1))] := hl
        refine lv_aload_n hx hb d_W_takeSum_0 rfl (lv_at hl 2 rfl) ?_
        refine wg_Whole_below hx hb hC hw (by omega) bw_57 d_W_takeSum_1 ?_
        refine sw_i (y := nI 1) (hKj) ?_
        refine lv_iload_n hx hb d_W_takeSum_4 rfl (lv_at hl 3 rfl) ?_
        refine n_icmp_eq (tgt := 12) hx hb d_W_takeSum_5 (by decide) (by omega) (by omega) (fun hw9 => ?_) (fun hw9 => ?_)
        · refine lv_iconst (v := nI 0) hx hb d_W_takeSum_12 (by decide +kernel) ?_
          refine lv_istore hx hb d_W_takeSum_13 hl (by decide) rfl (fun ls hl => ?_)
          have hl : lv_has ls 6 [(4, .int (nI 0)), (0, .ref (wa T (68 + k))), (1, .ref (wa T (68 + i))), (2, .ref (wa T (68 + j))), (3, .int (nI 1))] := hl
          refine lv_aload_n hx hb d_W_takeSum_15 rfl (lv_at hl 2 rfl) ?_
          refine wg_Whole_below hx hb hC hw (by omega) bw_57 d_W_takeSum_16 ?_
          refine sw_i (y := nI 0) (hKi) ?_
          refine lv_istore hx hb d_W_takeSum_19 hl (by decide) rfl (fun ls hl => ?_)
          have hl : lv_has ls 6 [(5, .int (nI 0)), (4, .int (nI 0)), (0, .ref (wa T (68 + k))), (1, .ref (wa T (68 + i))), (2, .ref (wa T (68 + j))), (3, .int (nI 1))] := hl
          refine lv_aload_n hx hb d_W_takeSum_21 rfl (lv_at hl 3 rfl) ?_
          refine wg_Whole_below hx hb hC hw (by omega) bw_57 d_W_takeSum_22 ?_
          refine sw_i (y := nI 0) (hKi) ?_
          refine lv_iload hx hb d_W_takeSum_25 (lv_at hl 1 rfl) ?_
          refine n_icmp_ne (tgt := 48) hx hb d_W_takeSum_27 (by decide) (by omega) (by omega) (fun hw9 => ?_) (fun hw9 => ?_)
          · exact absurd hw9 (by decide)
          · refine lv_aload_n hx hb d_W_takeSum_30 rfl (lv_at hl 2 rfl) ?_
            refine wg_Whole_size hx hb hC hw (by omega) bw_53 d_W_takeSum_31 ?_
            refine lv_aload_n hx hb d_W_takeSum_34 rfl (lv_at hl 3 rfl) ?_
            refine wg_Whole_size hx hb hC hw (by omega) bw_53 d_W_takeSum_35 ?_
            refine lv_aload_n hx hb d_W_takeSum_38 rfl (lv_at hl 4 rfl) ?_
            refine wg_Whole_size hx hb hC hw (by omega) bw_53 d_W_takeSum_39 ?_
            refine wcV_v (As := [.ref (wa T i), .ref (wa T j)]) hx hb hC hw (k_N_takeSum l T V K I O k i j (by omega) (by omega) (by omega) hki hkj hV) lk_W_32 rfl rfl ⟨by show 1 + 1 ≤ R.frames; omega, by show 8 + (7 + 11) + 22 ≤ R.locals; omega⟩ (by omega) (we_Natural (by omega)) rfl rfl hl.1 rfl (Nat.le_of_ble_eq_true rfl) ⟨Nat.zero_le _, Nat.zero_le _⟩ d_W_takeSum_42 (fun H locs hw => ?_)
            refine lv_goto (tgt := 99) hx hb d_W_takeSum_45 (by decide) ?_
            have eV : sV false (true != true) (V i) (V j) = V i + V j := by rfl
            have eS : sG false (true != true) (V i) (V j) = false := by rfl
            rw [← eV] at hw
            refine lv_aload_n hx hb d_W_takeSum_99 rfl (lv_at hl 2 rfl) ?_
            refine lv_iload hx hb d_W_takeSum_100 (lv_at hl 0 rfl) ?_
            refine n_if_eq (tgt := 119) hx hb d_W_takeSum_102 (by decide) (by omega) (fun hw9 => ?_) (fun hw9 => ?_)
            · refine lv_iconst (v := nI 0) hx hb d_W_takeSum_119 (by decide +kernel) ?_
              refine wp_Whole_below hx hb hC hw (by omega) (zb0) (zf0) bw_57 d_W_takeSum_120 (fun H locs hw => ?_)
              have e9 : bI (sB false (true != true) (V i) (V j)) = nI 0 := by unfold sB; rw [eS]; rfl
              rw [← e9] at hw
              exact hret _ _ _ _ hw d_W_takeSum_123
            · exact absurd hw9 (by decide)
        · exact absurd hw9 (by decide)
  · cases bj
    · cases tu
      · have hl : lv_has ls 6 [(0, .ref (wa T (68 + k))), (1, .ref (wa T (68 + i))), (2, .ref (wa T (68 + j))), (3, .int (nI 0))] := hl
        refine lv_aload_n hx hb d_W_takeSum_0 rfl (lv_at hl 2 rfl) ?_
        refine wg_Whole_below hx hb hC hw (by omega) bw_57 d_W_takeSum_1 ?_
        refine sw_i (y := nI 0) (hKj) ?_
        refine lv_iload_n hx hb d_W_takeSum_4 rfl (lv_at hl 3 rfl) ?_
        refine n_icmp_eq (tgt := 12) hx hb d_W_takeSum_5 (by decide) (by omega) (by omega) (fun hw9 => ?_) (fun hw9 => ?_)
        · refine lv_iconst (v := nI 0) hx hb d_W_takeSum_12 (by decide +kernel) ?_
          refine lv_istore hx hb d_W_takeSum_13 hl (by decide) rfl (fun ls hl => ?_)
          have hl : lv_has ls 6 [(4, .int (nI 0)), (0, .ref (wa T (68 + k))), (1, .ref (wa T (68 + i))), (2, .ref (wa T (68 + j))), (3, .int (nI 0))] := hl
          refine lv_aload_n hx hb d_W_takeSum_15 rfl (lv_at hl 2 rfl) ?_
          refine wg_Whole_below hx hb hC hw (by omega) bw_57 d_W_takeSum_16 ?_
          refine sw_i (y := nI 1) (hKi) ?_
          refine lv_istore hx hb d_W_takeSum_19 hl (by decide) rfl (fun ls hl => ?_)
          have hl : lv_has ls 6 [(5, .int (nI 1)), (4, .int (nI 0)), (0, .ref (wa T (68 + k))), (1, .ref (wa T (68 + i))), (2, .ref (wa T (68 + j))), (3, .int (nI 0))] := hl
          refine lv_aload_n hx hb d_W_takeSum_21 rfl (lv_at hl 3 rfl) ?_
          refine wg_Whole_below hx hb hC hw (by omega) bw_57 d_W_takeSum_22 ?_
          refine sw_i (y := nI 1) (hKi) ?_
          refine lv_iload hx hb d_W_takeSum_25 (lv_at hl 1 rfl) ?_
          refine n_icmp_ne (tgt := 48) hx hb d_W_takeSum_27 (by decide) (by omega) (by omega) (fun hw9 => ?_) (fun hw9 => ?_)
          · refine lv_aload_n hx hb d_W_takeSum_48 rfl (lv_at hl 3 rfl) ?_
            refine wg_Whole_size hx hb hC hw (by omega) bw_53 d_W_takeSum_49 ?_
            refine lv_aload_n hx hb d_W_takeSum_52 rfl (lv_at hl 4 rfl) ?_
            refine wg_Whole_size hx hb hC hw (by omega) bw_53 d_W_takeSum_53 ?_
            refine wcV_i (As := [.ref (wa T j)]) hx hb hC hw (k_N_order l T V K I O i j (by omega) (by omega) hV) lk_W_36 rfl rfl ⟨by show 0 + 1 ≤ R.frames; omega, by show 8 + (3 + 11) + 0 ≤ R.locals; omega⟩ (by omega) (we_Natural (by omega)) rfl rfl hl.1 rfl (Nat.le_of_ble_eq_true rfl) ⟨Nat.zero_le _, Nat.zero_le _⟩ d_W_takeSum_56 (fun H locs hw => ?_)
            by_cases hlt : V i < V j
            · refine sw_i (y := -1) (by rw [if_pos hlt]) ?_
              refine lv_if_lt (tgt := 80) hx hb d_W_takeSum_59 (by decide) (fun h9 => ?_) (fun h9 => ?_)
              · refine lv_aload_n hx hb d_W_takeSum_80 rfl (lv_at hl 2 rfl) ?_
                refine wg_Whole_size hx hb hC hw (by omega) bw_53 d_W_takeSum_81 ?_
                refine lv_aload_n hx hb d_W_takeSum_84 rfl (lv_at hl 4 rfl) ?_
                refine wg_Whole_size hx hb hC hw (by omega) bw_53 d_W_takeSum_85 ?_
                refine lv_aload_n hx hb d_W_takeSum_88 rfl (lv_at hl 3 rfl) ?_
                refine wg_Whole_size hx hb hC hw (by omega) bw_53 d_W_takeSum_89 ?_
                refine wcV_v (As := [.ref (wa T j), .ref (wa T i)]) hx hb hC hw (k_N_takeDifference l T V K I O k j i (by omega) (by omega) (by omega) (by omega) hV) lk_W_40 rfl rfl ⟨by show 1 + 1 ≤ R.frames; omega, by show 8 + (7 + 11) + 22 ≤ R.locals; omega⟩ (by omega) (we_Natural (by omega)) rfl rfl hl.1 rfl (Nat.le_of_ble_eq_true rfl) ⟨Nat.zero_le _, Nat.zero_le _⟩ d_W_takeSum_92 (fun H locs hw => ?_)
                refine lv_iload hx hb d_W_takeSum_95 (lv_at hl 1 rfl) ?_
                refine lv_istore hx hb d_W_takeSum_97 hl (by decide) rfl (fun ls hl => ?_)
                have hl : lv_has ls 6 [(5, .int (nI 0)), (4, .int (nI 0)), (0, .ref (wa T (68 + k))), (1, .ref (wa T (68 + i))), (2, .ref (wa T (68 + j))), (3, .int (nI 0))] := hl
                have eV : sV true (false != false) (V i) (V j) = V j - V i := by unfold sV; rw [if_neg (by decide), if_neg (by omega)]
                have eS : sG true (false != false) (V i) (V j) = false := by unfold sG; rw [if_neg (by decide), if_neg (by omega)]; rfl
                rw [← eV] at hw
                refine lv_aload_n hx hb d_W_takeSum_99 rfl (lv_at hl 2 rfl) ?_
                refine lv_iload hx hb d_W_takeSum_100 (lv_at hl 0 rfl) ?_
                refine n_if_eq (tgt := 119) hx hb d_W_takeSum_102 (by decide) (by omega) (fun hw9 => ?_) (fun hw9 => ?_)
                · refine lv_iconst (v := nI 0) hx hb d_W_takeSum_119 (by decide +kernel) ?_
                  refine wp_Whole_below hx hb hC hw (by omega) (zb0) (zf0) bw_57 d_W_takeSum_120 (fun H locs hw => ?_)
                  have e9 : bI (sB true (false != false) (V i) (V j)) = nI 0 := by unfold sB; rw [eS]; rfl
                  rw [← e9] at hw
                  exact hret _ _ _ _ hw d_W_takeSum_123
                · exact absurd hw9 (by decide)
              · exact absurd (by decide +kernel) h9
            · refine sw_i (y := if V i = V j then 0 else 1) (by rw [if_neg hlt]) ?_
              refine lv_if_lt (tgt := 80) hx hb d_W_takeSum_59 (by decide) (fun h9 => ?_) (fun h9 => ?_)
              · exact absurd h9 (by split <;> decide +kernel)
              · refine lv_aload_n hx hb d_W_takeSum_62 rfl (lv_at hl 2 rfl) ?_
                refine wg_Whole_size hx hb hC hw (by omega) bw_53 d_W_takeSum_63 ?_
                refine lv_aload_n hx hb d_W_takeSum_66 rfl (lv_at hl 3 rfl) ?_
                refine wg_Whole_size hx hb hC hw (by omega) bw_53 d_W_takeSum_67 ?_
                refine lv_aload_n hx hb d_W_takeSum_70 rfl (lv_at hl 4 rfl) ?_
                refine wg_Whole_size hx hb hC hw (by omega) bw_53 d_W_takeSum_71 ?_
                refine wcV_v (As := [.ref (wa T i), .ref (wa T j)]) hx hb hC hw (k_N_takeDifference l T V K I O k i j (by omega) (by omega) (by omega) (by omega) hV) lk_W_40 rfl rfl ⟨by show 1 + 1 ≤ R.frames; omega, by show 8 + (7 + 11) + 22 ≤ R.locals; omega⟩ (by omega) (we_Natural (by omega)) rfl rfl hl.1 rfl (Nat.le_of_ble_eq_true rfl) ⟨Nat.zero_le _, Nat.zero_le _⟩ d_W_takeSum_74 (fun H locs hw => ?_)
                refine lv_goto (tgt := 99) hx hb d_W_takeSum_77 (by decide) ?_
                have eV : sV true (false != false) (V i) (V j) = V i - V j := by unfold sV; rw [if_neg (by decide), if_pos (by omega)]
                have eS : sG true (false != false) (V i) (V j) = true := by unfold sG; rw [if_neg (by decide), if_pos (by omega)]
                rw [← eV] at hw
                refine lv_aload_n hx hb d_W_takeSum_99 rfl (lv_at hl 2 rfl) ?_
                refine lv_iload hx hb d_W_takeSum_100 (lv_at hl 0 rfl) ?_
                refine n_if_eq (tgt := 119) hx hb d_W_takeSum_102 (by decide) (by omega) (fun hw9 => ?_) (fun hw9 => ?_)
                · exact absurd hw9 (by decide)
                · refine lv_aload_n hx hb d_W_takeSum_105 rfl (lv_at hl 2 rfl) ?_
                  refine wg_Whole_size hx hb hC hw (by omega) bw_53 d_W_takeSum_106 ?_
                  refine wcV_z (As := []) hx hb hC hw (k_N_isZero l T (va_up V k (sV true (false != false) (V i) (V j))) K I O k (by omega) (hV_up hV (hsl _ _))) lk_W_24 rfl rfl ⟨by show 0 + 1 ≤ R.frames; omega, by show 8 + (1 + 11) + 0 ≤ R.locals; omega⟩ (by omega) (we_Natural (by omega)) rfl rfl hl.1 rfl (Nat.le_of_ble_eq_true rfl) ⟨Nat.zero_le _, Nat.zero_le _⟩ d_W_takeSum_109 (fun H locs hw => ?_)
                  by_cases hz : (va_up V k (sV true (false != false) (V i) (V j))) k = 0
                  · refine sw_i (y := nI 1) (by rw [if_pos hz]; rfl) ?_
                    refine n_if_ne (tgt := 119) hx hb d_W_takeSum_112 (by decide) (by omega) (fun hw9 => ?_) (fun hw9 => ?_)
                    · rw [va_up_self] at hz
                      refine lv_iconst (v := nI 0) hx hb d_W_takeSum_119 (by decide +kernel) ?_
                      refine wp_Whole_below hx hb hC hw (by omega) (zb0) (zf0) bw_57 d_W_takeSum_120 (fun H locs hw => ?_)
                      have e9 : bI (sB true (false != false) (V i) (V j)) = nI 0 := by unfold sB; rw [eS, decide_eq_true hz]; rfl
                      rw [← e9] at hw
                      exact hret _ _ _ _ hw d_W_takeSum_123
                    · exact absurd hw9 (by decide)
                  · refine sw_i (y := nI 0) (by rw [if_neg hz]; rfl) ?_
                    refine n_if_ne (tgt := 119) hx hb d_W_takeSum_112 (by decide) (by omega) (fun hw9 => ?_) (fun hw9 => ?_)
                    · exact absurd hw9 (by decide)
                    · rw [va_up_self] at hz
                      refine lv_iconst (v := nI 1) hx hb d_W_takeSum_115 (by decide +kernel) ?_
                      refine lv_goto (tgt := 120) hx hb d_W_takeSum_116 (by decide) ?_
                      refine wp_Whole_below hx hb hC hw (by omega) (zb1) (zf1) bw_57 d_W_takeSum_120 (fun H locs hw => ?_)
                      have e9 : bI (sB true (false != false) (V i) (V j)) = nI 1 := by unfold sB; rw [eS, decide_eq_false hz]; rfl
                      rw [← e9] at hw
                      exact hret _ _ _ _ hw d_W_takeSum_123
          · exact absurd hw9 (by decide)
        · exact absurd hw9 (by decide)
      · have hl : lv_has ls 6 [(0, .ref (wa T (68 + k))), (1, .ref (wa T (68 + i))), (2, .ref (wa T (68 + j))), (3, .int (nI 1))] := hl
        refine lv_aload_n hx hb d_W_takeSum_0 rfl (lv_at hl 2 rfl) ?_
        refine wg_Whole_below hx hb hC hw (by omega) bw_57 d_W_takeSum_1 ?_
        refine sw_i (y := nI 0) (hKj) ?_
        refine lv_iload_n hx hb d_W_takeSum_4 rfl (lv_at hl 3 rfl) ?_
        refine n_icmp_eq (tgt := 12) hx hb d_W_takeSum_5 (by decide) (by omega) (by omega) (fun hw9 => ?_) (fun hw9 => ?_)
        · exact absurd hw9 (by decide)
        · refine lv_iconst (v := nI 1) hx hb d_W_takeSum_8 (by decide +kernel) ?_
          refine lv_goto (tgt := 13) hx hb d_W_takeSum_9 (by decide) ?_
          refine lv_istore hx hb d_W_takeSum_13 hl (by decide) rfl (fun ls hl => ?_)
          have hl : lv_has ls 6 [(4, .int (nI 1)), (0, .ref (wa T (68 + k))), (1, .ref (wa T (68 + i))), (2, .ref (wa T (68 + j))), (3, .int (nI 1))] := hl
          refine lv_aload_n hx hb d_W_takeSum_15 rfl (lv_at hl 2 rfl) ?_
          refine wg_Whole_below hx hb hC hw (by omega) bw_57 d_W_takeSum_16 ?_
          refine sw_i (y := nI 1) (hKi) ?_
          refine lv_istore hx hb d_W_takeSum_19 hl (by decide) rfl (fun ls hl => ?_)
          have hl : lv_has ls 6 [(5, .int (nI 1)), (4, .int (nI 1)), (0, .ref (wa T (68 + k))), (1, .ref (wa T (68 + i))), (2, .ref (wa T (68 + j))), (3, .int (nI 1))] := hl
          refine lv_aload_n hx hb d_W_takeSum_21 rfl (lv_at hl 3 rfl) ?_
          refine wg_Whole_below hx hb hC hw (by omega) bw_57 d_W_takeSum_22 ?_
          refine sw_i (y := nI 1) (hKi) ?_
          refine lv_iload hx hb d_W_takeSum_25 (lv_at hl 1 rfl) ?_
          refine n_icmp_ne (tgt := 48) hx hb d_W_takeSum_27 (by decide) (by omega) (by omega) (fun hw9 => ?_) (fun hw9 => ?_)
          · exact absurd hw9 (by decide)
          · refine lv_aload_n hx hb d_W_takeSum_30 rfl (lv_at hl 2 rfl) ?_
            refine wg_Whole_size hx hb hC hw (by omega) bw_53 d_W_takeSum_31 ?_
            refine lv_aload_n hx hb d_W_takeSum_34 rfl (lv_at hl 3 rfl) ?_
            refine wg_Whole_size hx hb hC hw (by omega) bw_53 d_W_takeSum_35 ?_
            refine lv_aload_n hx hb d_W_takeSum_38 rfl (lv_at hl 4 rfl) ?_
            refine wg_Whole_size hx hb hC hw (by omega) bw_53 d_W_takeSum_39 ?_
            refine wcV_v (As := [.ref (wa T i), .ref (wa T j)]) hx hb hC hw (k_N_takeSum l T V K I O k i j (by omega) (by omega) (by omega) hki hkj hV) lk_W_32 rfl rfl ⟨by show 1 + 1 ≤ R.frames; omega, by show 8 + (7 + 11) + 22 ≤ R.locals; omega⟩ (by omega) (we_Natural (by omega)) rfl rfl hl.1 rfl (Nat.le_of_ble_eq_true rfl) ⟨Nat.zero_le _, Nat.zero_le _⟩ d_W_takeSum_42 (fun H locs hw => ?_)
            refine lv_goto (tgt := 99) hx hb d_W_takeSum_45 (by decide) ?_
            have eV : sV true (false != true) (V i) (V j) = V i + V j := by rfl
            have eS : sG true (false != true) (V i) (V j) = true := by rfl
            rw [← eV] at hw
            refine lv_aload_n hx hb d_W_takeSum_99 rfl (lv_at hl 2 rfl) ?_
            refine lv_iload hx hb d_W_takeSum_100 (lv_at hl 0 rfl) ?_
            refine n_if_eq (tgt := 119) hx hb d_W_takeSum_102 (by decide) (by omega) (fun hw9 => ?_) (fun hw9 => ?_)
            · exact absurd hw9 (by decide)
            · refine lv_aload_n hx hb d_W_takeSum_105 rfl (lv_at hl 2 rfl) ?_
              refine wg_Whole_size hx hb hC hw (by omega) bw_53 d_W_takeSum_106 ?_
              refine wcV_z (As := []) hx hb hC hw (k_N_isZero l T (va_up V k (sV true (false != true) (V i) (V j))) K I O k (by omega) (hV_up hV (hsl _ _))) lk_W_24 rfl rfl ⟨by show 0 + 1 ≤ R.frames; omega, by show 8 + (1 + 11) + 0 ≤ R.locals; omega⟩ (by omega) (we_Natural (by omega)) rfl rfl hl.1 rfl (Nat.le_of_ble_eq_true rfl) ⟨Nat.zero_le _, Nat.zero_le _⟩ d_W_takeSum_109 (fun H locs hw => ?_)
              by_cases hz : (va_up V k (sV true (false != true) (V i) (V j))) k = 0
              · refine sw_i (y := nI 1) (by rw [if_pos hz]; rfl) ?_
                refine n_if_ne (tgt := 119) hx hb d_W_takeSum_112 (by decide) (by omega) (fun hw9 => ?_) (fun hw9 => ?_)
                · rw [va_up_self] at hz
                  refine lv_iconst (v := nI 0) hx hb d_W_takeSum_119 (by decide +kernel) ?_
                  refine wp_Whole_below hx hb hC hw (by omega) (zb0) (zf0) bw_57 d_W_takeSum_120 (fun H locs hw => ?_)
                  have e9 : bI (sB true (false != true) (V i) (V j)) = nI 0 := by unfold sB; rw [eS, decide_eq_true hz]; rfl
                  rw [← e9] at hw
                  exact hret _ _ _ _ hw d_W_takeSum_123
                · exact absurd hw9 (by decide)
              · refine sw_i (y := nI 0) (by rw [if_neg hz]; rfl) ?_
                refine n_if_ne (tgt := 119) hx hb d_W_takeSum_112 (by decide) (by omega) (fun hw9 => ?_) (fun hw9 => ?_)
                · exact absurd hw9 (by decide)
                · rw [va_up_self] at hz
                  refine lv_iconst (v := nI 1) hx hb d_W_takeSum_115 (by decide +kernel) ?_
                  refine lv_goto (tgt := 120) hx hb d_W_takeSum_116 (by decide) ?_
                  refine wp_Whole_below hx hb hC hw (by omega) (zb1) (zf1) bw_57 d_W_takeSum_120 (fun H locs hw => ?_)
                  have e9 : bI (sB true (false != true) (V i) (V j)) = nI 1 := by unfold sB; rw [eS, decide_eq_false hz]; rfl
                  rw [← e9] at hw
                  exact hret _ _ _ _ hw d_W_takeSum_123
    · cases tu
      · have hl : lv_has ls 6 [(0, .ref (wa T (68 + k))), (1, .ref (wa T (68 + i))), (2, .ref (wa T (68 + j))), (3, .int (nI 0))] := hl
        refine lv_aload_n hx hb d_W_takeSum_0 rfl (lv_at hl 2 rfl) ?_
        refine wg_Whole_below hx hb hC hw (by omega) bw_57 d_W_takeSum_1 ?_
        refine sw_i (y := nI 1) (hKj) ?_
        refine lv_iload_n hx hb d_W_takeSum_4 rfl (lv_at hl 3 rfl) ?_
        refine n_icmp_eq (tgt := 12) hx hb d_W_takeSum_5 (by decide) (by omega) (by omega) (fun hw9 => ?_) (fun hw9 => ?_)
        · exact absurd hw9 (by decide)
        · refine lv_iconst (v := nI 1) hx hb d_W_takeSum_8 (by decide +kernel) ?_
          refine lv_goto (tgt := 13) hx hb d_W_takeSum_9 (by decide) ?_
          refine lv_istore hx hb d_W_takeSum_13 hl (by decide) rfl (fun ls hl => ?_)
          have hl : lv_has ls 6 [(4, .int (nI 1)), (0, .ref (wa T (68 + k))), (1, .ref (wa T (68 + i))), (2, .ref (wa T (68 + j))), (3, .int (nI 0))] := hl
          refine lv_aload_n hx hb d_W_takeSum_15 rfl (lv_at hl 2 rfl) ?_
          refine wg_Whole_below hx hb hC hw (by omega) bw_57 d_W_takeSum_16 ?_
          refine sw_i (y := nI 1) (hKi) ?_
          refine lv_istore hx hb d_W_takeSum_19 hl (by decide) rfl (fun ls hl => ?_)
          have hl : lv_has ls 6 [(5, .int (nI 1)), (4, .int (nI 1)), (0, .ref (wa T (68 + k))), (1, .ref (wa T (68 + i))), (2, .ref (wa T (68 + j))), (3, .int (nI 0))] := hl
          refine lv_aload_n hx hb d_W_takeSum_21 rfl (lv_at hl 3 rfl) ?_
          refine wg_Whole_below hx hb hC hw (by omega) bw_57 d_W_takeSum_22 ?_
          refine sw_i (y := nI 1) (hKi) ?_
          refine lv_iload hx hb d_W_takeSum_25 (lv_at hl 1 rfl) ?_
          refine n_icmp_ne (tgt := 48) hx hb d_W_takeSum_27 (by decide) (by omega) (by omega) (fun hw9 => ?_) (fun hw9 => ?_)
          · exact absurd hw9 (by decide)
          · refine lv_aload_n hx hb d_W_takeSum_30 rfl (lv_at hl 2 rfl) ?_
            refine wg_Whole_size hx hb hC hw (by omega) bw_53 d_W_takeSum_31 ?_
            refine lv_aload_n hx hb d_W_takeSum_34 rfl (lv_at hl 3 rfl) ?_
            refine wg_Whole_size hx hb hC hw (by omega) bw_53 d_W_takeSum_35 ?_
            refine lv_aload_n hx hb d_W_takeSum_38 rfl (lv_at hl 4 rfl) ?_
            refine wg_Whole_size hx hb hC hw (by omega) bw_53 d_W_takeSum_39 ?_
            refine wcV_v (As := [.ref (wa T i), .ref (wa T j)]) hx hb hC hw (k_N_takeSum l T V K I O k i j (by omega) (by omega) (by omega) hki hkj hV) lk_W_32 rfl rfl ⟨by show 1 + 1 ≤ R.frames; omega, by show 8 + (7 + 11) + 22 ≤ R.locals; omega⟩ (by omega) (we_Natural (by omega)) rfl rfl hl.1 rfl (Nat.le_of_ble_eq_true rfl) ⟨Nat.zero_le _, Nat.zero_le _⟩ d_W_takeSum_42 (fun H locs hw => ?_)
            refine lv_goto (tgt := 99) hx hb d_W_takeSum_45 (by decide) ?_
            have eV : sV true (true != false) (V i) (V j) = V i + V j := by rfl
            have eS : sG true (true != false) (V i) (V j) = true := by rfl
            rw [← eV] at hw
            refine lv_aload_n hx hb d_W_takeSum_99 rfl (lv_at hl 2 rfl) ?_
            refine lv_iload hx hb d_W_takeSum_100 (lv_at hl 0 rfl) ?_
            refine n_if_eq (tgt := 119) hx hb d_W_takeSum_102 (by decide) (by omega) (fun hw9 => ?_) (fun hw9 => ?_)
            · exact absurd hw9 (by decide)
            · refine lv_aload_n hx hb d_W_takeSum_105 rfl (lv_at hl 2 rfl) ?_
              refine wg_Whole_size hx hb hC hw (by omega) bw_53 d_W_takeSum_106 ?_
              refine wcV_z (As := []) hx hb hC hw (k_N_isZero l T (va_up V k (sV true (true != false) (V i) (V j))) K I O k (by omega) (hV_up hV (hsl _ _))) lk_W_24 rfl rfl ⟨by show 0 + 1 ≤ R.frames; omega, by show 8 + (1 + 11) + 0 ≤ R.locals; omega⟩ (by omega) (we_Natural (by omega)) rfl rfl hl.1 rfl (Nat.le_of_ble_eq_true rfl) ⟨Nat.zero_le _, Nat.zero_le _⟩ d_W_takeSum_109 (fun H locs hw => ?_)
              by_cases hz : (va_up V k (sV true (true != false) (V i) (V j))) k = 0
              · refine sw_i (y := nI 1) (by rw [if_pos hz]; rfl) ?_
                refine n_if_ne (tgt := 119) hx hb d_W_takeSum_112 (by decide) (by omega) (fun hw9 => ?_) (fun hw9 => ?_)
                · rw [va_up_self] at hz
                  refine lv_iconst (v := nI 0) hx hb d_W_takeSum_119 (by decide +kernel) ?_
                  refine wp_Whole_below hx hb hC hw (by omega) (zb0) (zf0) bw_57 d_W_takeSum_120 (fun H locs hw => ?_)
                  have e9 : bI (sB true (true != false) (V i) (V j)) = nI 0 := by unfold sB; rw [eS, decide_eq_true hz]; rfl
                  rw [← e9] at hw
                  exact hret _ _ _ _ hw d_W_takeSum_123
                · exact absurd hw9 (by decide)
              · refine sw_i (y := nI 0) (by rw [if_neg hz]; rfl) ?_
                refine n_if_ne (tgt := 119) hx hb d_W_takeSum_112 (by decide) (by omega) (fun hw9 => ?_) (fun hw9 => ?_)
                · exact absurd hw9 (by decide)
                · rw [va_up_self] at hz
                  refine lv_iconst (v := nI 1) hx hb d_W_takeSum_115 (by decide +kernel) ?_
                  refine lv_goto (tgt := 120) hx hb d_W_takeSum_116 (by decide) ?_
                  refine wp_Whole_below hx hb hC hw (by omega) (zb1) (zf1) bw_57 d_W_takeSum_120 (fun H locs hw => ?_)
                  have e9 : bI (sB true (true != false) (V i) (V j)) = nI 1 := by unfold sB; rw [eS, decide_eq_false hz]; rfl
                  rw [← e9] at hw
                  exact hret _ _ _ _ hw d_W_takeSum_123
      · have hl : lv_has ls 6 [(0, .ref (wa T (68 + k))), (1, .ref (wa T (68 + i))), (2, .ref (wa T (68 + j))), (3, .int (nI 1))] := hl
        refine lv_aload_n hx hb d_W_takeSum_0 rfl (lv_at hl 2 rfl) ?_
        refine wg_Whole_below hx hb hC hw (by omega) bw_57 d_W_takeSum_1 ?_
        refine sw_i (y := nI 1) (hKj) ?_
        refine lv_iload_n hx hb d_W_takeSum_4 rfl (lv_at hl 3 rfl) ?_
        refine n_icmp_eq (tgt := 12) hx hb d_W_takeSum_5 (by decide) (by omega) (by omega) (fun hw9 => ?_) (fun hw9 => ?_)
        · refine lv_iconst (v := nI 0) hx hb d_W_takeSum_12 (by decide +kernel) ?_
          refine lv_istore hx hb d_W_takeSum_13 hl (by decide) rfl (fun ls hl => ?_)
          have hl : lv_has ls 6 [(4, .int (nI 0)), (0, .ref (wa T (68 + k))), (1, .ref (wa T (68 + i))), (2, .ref (wa T (68 + j))), (3, .int (nI 1))] := hl
          refine lv_aload_n hx hb d_W_takeSum_15 rfl (lv_at hl 2 rfl) ?_
          refine wg_Whole_below hx hb hC hw (by omega) bw_57 d_W_takeSum_16 ?_
          refine sw_i (y := nI 1) (hKi) ?_
          refine lv_istore hx hb d_W_takeSum_19 hl (by decide) rfl (fun ls hl => ?_)
          have hl : lv_has ls 6 [(5, .int (nI 1)), (4, .int (nI 0)), (0, .ref (wa T (68 + k))), (1, .ref (wa T (68 + i))), (2, .ref (wa T (68 + j))), (3, .int (nI 1))] := hl
          refine lv_aload_n hx hb d_W_takeSum_21 rfl (lv_at hl 3 rfl) ?_
          refine wg_Whole_below hx hb hC hw (by omega) bw_57 d_W_takeSum_22 ?_
          refine sw_i (y := nI 1) (hKi) ?_
          refine lv_iload hx hb d_W_takeSum_25 (lv_at hl 1 rfl) ?_
          refine n_icmp_ne (tgt := 48) hx hb d_W_takeSum_27 (by decide) (by omega) (by omega) (fun hw9 => ?_) (fun hw9 => ?_)
          · refine lv_aload_n hx hb d_W_takeSum_48 rfl (lv_at hl 3 rfl) ?_
            refine wg_Whole_size hx hb hC hw (by omega) bw_53 d_W_takeSum_49 ?_
            refine lv_aload_n hx hb d_W_takeSum_52 rfl (lv_at hl 4 rfl) ?_
            refine wg_Whole_size hx hb hC hw (by omega) bw_53 d_W_takeSum_53 ?_
            refine wcV_i (As := [.ref (wa T j)]) hx hb hC hw (k_N_order l T V K I O i j (by omega) (by omega) hV) lk_W_36 rfl rfl ⟨by show 0 + 1 ≤ R.frames; omega, by show 8 + (3 + 11) + 0 ≤ R.locals; omega⟩ (by omega) (we_Natural (by omega)) rfl rfl hl.1 rfl (Nat.le_of_ble_eq_true rfl) ⟨Nat.zero_le _, Nat.zero_le _⟩ d_W_takeSum_56 (fun H locs hw => ?_)
            by_cases hlt : V i < V j
            · refine sw_i (y := -1) (by rw [if_pos hlt]) ?_
              refine lv_if_lt (tgt := 80) hx hb d_W_takeSum_59 (by decide) (fun h9 => ?_) (fun h9 => ?_)
              · refine lv_aload_n hx hb d_W_takeSum_80 rfl (lv_at hl 2 rfl) ?_
                refine wg_Whole_size hx hb hC hw (by omega) bw_53 d_W_takeSum_81 ?_
                refine lv_aload_n hx hb d_W_takeSum_84 rfl (lv_at hl 4 rfl) ?_
                refine wg_Whole_size hx hb hC hw (by omega) bw_53 d_W_takeSum_85 ?_
                refine lv_aload_n hx hb d_W_takeSum_88 rfl (lv_at hl 3 rfl) ?_
                refine wg_Whole_size hx hb hC hw (by omega) bw_53 d_W_takeSum_89 ?_
                refine wcV_v (As := [.ref (wa T j), .ref (wa T i)]) hx hb hC hw (k_N_takeDifference l T V K I O k j i (by omega) (by omega) (by omega) (by omega) hV) lk_W_40 rfl rfl ⟨by show 1 + 1 ≤ R.frames; omega, by show 8 + (7 + 11) + 22 ≤ R.locals; omega⟩ (by omega) (we_Natural (by omega)) rfl rfl hl.1 rfl (Nat.le_of_ble_eq_true rfl) ⟨Nat.zero_le _, Nat.zero_le _⟩ d_W_takeSum_92 (fun H locs hw => ?_)
                refine lv_iload hx hb d_W_takeSum_95 (lv_at hl 1 rfl) ?_
                refine lv_istore hx hb d_W_takeSum_97 hl (by decide) rfl (fun ls hl => ?_)
                have hl : lv_has ls 6 [(5, .int (nI 0)), (4, .int (nI 0)), (0, .ref (wa T (68 + k))), (1, .ref (wa T (68 + i))), (2, .ref (wa T (68 + j))), (3, .int (nI 1))] := hl
                have eV : sV true (true != true) (V i) (V j) = V j - V i := by unfold sV; rw [if_neg (by decide), if_neg (by omega)]
                have eS : sG true (true != true) (V i) (V j) = false := by unfold sG; rw [if_neg (by decide), if_neg (by omega)]; rfl
                rw [← eV] at hw
                refine lv_aload_n hx hb d_W_takeSum_99 rfl (lv_at hl 2 rfl) ?_
                refine lv_iload hx hb d_W_takeSum_100 (lv_at hl 0 rfl) ?_
                refine n_if_eq (tgt := 119) hx hb d_W_takeSum_102 (by decide) (by omega) (fun hw9 => ?_) (fun hw9 => ?_)
                · refine lv_iconst (v := nI 0) hx hb d_W_takeSum_119 (by decide +kernel) ?_
                  refine wp_Whole_below hx hb hC hw (by omega) (zb0) (zf0) bw_57 d_W_takeSum_120 (fun H locs hw => ?_)
                  have e9 : bI (sB true (true != true) (V i) (V j)) = nI 0 := by unfold sB; rw [eS]; rfl
                  rw [← e9] at hw
                  exact hret _ _ _ _ hw d_W_takeSum_123
                · exact absurd hw9 (by decide)
              · exact absurd (by decide +kernel) h9
            · refine sw_i (y := if V i = V j then 0 else 1) (by rw [if_neg hlt]) ?_
              refine lv_if_lt (tgt := 80) hx hb d_W_takeSum_59 (by decide) (fun h9 => ?_) (fun h9 => ?_)
              · exact absurd h9 (by split <;> decide +kernel)
              · refine lv_aload_n hx hb d_W_takeSum_62 rfl (lv_at hl 2 rfl) ?_
                refine wg_Whole_size hx hb hC hw (by omega) bw_53 d_W_takeSum_63 ?_
                refine lv_aload_n hx hb d_W_takeSum_66 rfl (lv_at hl 3 rfl) ?_
                refine wg_Whole_size hx hb hC hw (by omega) bw_53 d_W_takeSum_67 ?_
                refine lv_aload_n hx hb d_W_takeSum_70 rfl (lv_at hl 4 rfl) ?_
                refine wg_Whole_size hx hb hC hw (by omega) bw_53 d_W_takeSum_71 ?_
                refine wcV_v (As := [.ref (wa T i), .ref (wa T j)]) hx hb hC hw (k_N_takeDifference l T V K I O k i j (by omega) (by omega) (by omega) (by omega) hV) lk_W_40 rfl rfl ⟨by show 1 + 1 ≤ R.frames; omega, by show 8 + (7 + 11) + 22 ≤ R.locals; omega⟩ (by omega) (we_Natural (by omega)) rfl rfl hl.1 rfl (Nat.le_of_ble_eq_true rfl) ⟨Nat.zero_le _, Nat.zero_le _⟩ d_W_takeSum_74 (fun H locs hw => ?_)
                refine lv_goto (tgt := 99) hx hb d_W_takeSum_77 (by decide) ?_
                have eV : sV true (true != true) (V i) (V j) = V i - V j := by unfold sV; rw [if_neg (by decide), if_pos (by omega)]
                have eS : sG true (true != true) (V i) (V j) = true := by unfold sG; rw [if_neg (by decide), if_pos (by omega)]
                rw [← eV] at hw
                refine lv_aload_n hx hb d_W_takeSum_99 rfl (lv_at hl 2 rfl) ?_
                refine lv_iload hx hb d_W_takeSum_100 (lv_at hl 0 rfl) ?_
                refine n_if_eq (tgt := 119) hx hb d_W_takeSum_102 (by decide) (by omega) (fun hw9 => ?_) (fun hw9 => ?_)
                · exact absurd hw9 (by decide)
                · refine lv_aload_n hx hb d_W_takeSum_105 rfl (lv_at hl 2 rfl) ?_
                  refine wg_Whole_size hx hb hC hw (by omega) bw_53 d_W_takeSum_106 ?_
                  refine wcV_z (As := []) hx hb hC hw (k_N_isZero l T (va_up V k (sV true (true != true) (V i) (V j))) K I O k (by omega) (hV_up hV (hsl _ _))) lk_W_24 rfl rfl ⟨by show 0 + 1 ≤ R.frames; omega, by show 8 + (1 + 11) + 0 ≤ R.locals; omega⟩ (by omega) (we_Natural (by omega)) rfl rfl hl.1 rfl (Nat.le_of_ble_eq_true rfl) ⟨Nat.zero_le _, Nat.zero_le _⟩ d_W_takeSum_109 (fun H locs hw => ?_)
                  by_cases hz : (va_up V k (sV true (true != true) (V i) (V j))) k = 0
                  · refine sw_i (y := nI 1) (by rw [if_pos hz]; rfl) ?_
                    refine n_if_ne (tgt := 119) hx hb d_W_takeSum_112 (by decide) (by omega) (fun hw9 => ?_) (fun hw9 => ?_)
                    · rw [va_up_self] at hz
                      refine lv_iconst (v := nI 0) hx hb d_W_takeSum_119 (by decide +kernel) ?_
                      refine wp_Whole_below hx hb hC hw (by omega) (zb0) (zf0) bw_57 d_W_takeSum_120 (fun H locs hw => ?_)
                      have e9 : bI (sB true (true != true) (V i) (V j)) = nI 0 := by unfold sB; rw [eS, decide_eq_true hz]; rfl
                      rw [← e9] at hw
                      exact hret _ _ _ _ hw d_W_takeSum_123
                    · exact absurd hw9 (by decide)
                  · refine sw_i (y := nI 0) (by rw [if_neg hz]; rfl) ?_
                    refine n_if_ne (tgt := 119) hx hb d_W_takeSum_112 (by decide) (by omega) (fun hw9 => ?_) (fun hw9 => ?_)
                    · exact absurd hw9 (by decide)
                    · rw [va_up_self] at hz
                      refine lv_iconst (v := nI 1) hx hb d_W_takeSum_115 (by decide +kernel) ?_
                      refine lv_goto (tgt := 120) hx hb d_W_takeSum_116 (by decide) ?_
                      refine wp_Whole_below hx hb hC hw (by omega) (zb1) (zf1) bw_57 d_W_takeSum_120 (fun H locs hw => ?_)
                      have e9 : bI (sB true (true != true) (V i) (V j)) = nI 1 := by unfold sB; rw [eS, decide_eq_false hz]; rfl
                      rw [← e9] at hw
                      exact hret _ _ _ _ hw d_W_takeSum_123
          · exact absurd hw9 (by decide)
        · exact absurd hw9 (by decide)
