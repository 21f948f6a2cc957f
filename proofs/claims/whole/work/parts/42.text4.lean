/-! Text: a numeral is read -/
def rdS (tx : Nat → Nat) (b : Nat) : Nat → Nat → Nat → Nat
  | 0, _, acc => acc
  | m + 1, i, acc => if acc < m1024 then rdS tx b m (i + 1) (acc * b + dgN (tx i)) else acc
theorem rdS_0 (tx : Nat → Nat) (b i acc : Nat) : rdS tx b 0 i acc = acc := rfl
theorem rdS_s {tx : Nat → Nat} {b m i acc : Nat} (h : acc < m1024) : rdS tx b (m + 1) i acc = rdS tx b m (i + 1) (acc * b + dgN (tx i)) := by
  show (if acc < m1024 then _ else _) = _; rw [if_pos h]
theorem rdS_n {tx : Nat → Nat} {b i acc : Nat} (h : ¬ acc < m1024) : ∀ m, rdS tx b m i acc = acc
  | 0 => rfl
  | m + 1 => by show (if acc < m1024 then _ else _) = _; rw [if_neg h]
theorem nmB_d {tx : Nat → Nat} {n b : Nat} (h : nmB tx n b = true) : ∀ i, i < n → sgN n tx ≤ i → dgN (tx i) < b := fun i hi h1 => by
  apply Decidable.byContradiction; intro q
  rw [nmB_f hi h1 q] at h; exact absurd h (by decide)
def m1030 : Nat := 2 ^ 1030
theorem m1030_lim : m1030 ≤ vLim := by rw [vLim_two]; exact Nat.pow_le_pow_right (by decide) (by decide)
theorem rd_grow {a b d : Nat} (ha : a < m1024) (hb : b ≤ 36) (hd : d < b) : a * b + d < m1030 := by
  have h1 : a * b + d < (a + 1) * b := by rw [Nat.add_mul]; omega
  have h2 : (a + 1) * b ≤ m1024 * 64 := Nat.mul_le_mul ha (by omega)
  have h3 : m1024 * 64 = m1030 := by unfold m1024 m1030; rw [show (64 : Nat) = 2 ^ 6 from rfl, ← Nat.pow_add]
  omega
theorem bl_1024 {a : Nat} (h : a < m1030) (h1 : ¬ 1024 < bl a) : a < m1024 := Nat.lt_of_lt_of_le (bl_lt (Nat.lt_of_lt_of_le h m1030_lim)) (Nat.pow_le_pow_right (by decide) (by omega))
theorem bl_1024' {a : Nat} (h1 : 1024 < bl a) : ¬ a < m1024 := fun h => absurd (bl_mono h) (by omega)
theorem k74 {v : Nat} (h : v < m1030) : kD v ≤ 74 := kD_mono (Nat.lt_of_lt_of_le h (by rw [vB_two]; exact Nat.pow_le_pow_right (by decide) (by decide)))
theorem m1030_pos : 0 < m1030 := Nat.two_pow_pos _
theorem z64 : (0 : Int64).toInt.natAbs = 0 := by decide +kernel
theorem z64f : bI (decide ((0 : Int64).toInt < 0)) = nI 0 := by decide +kernel

set_option maxRecDepth 100000 in
set_option maxHeartbeats 4000000 in
theorem k_T_readNumeral (l : Launch) (T : wT) (V : Nat → Nat) (K : wUt) (I : wIt) (O : wOt) (n9 b9 : Nat) (tx : Nat → Nat) (hn9 : n9 ≤ 1200) (hb9 : 2 ≤ b9 ∧ b9 ≤ 36) (hd9 : ∀ i, i < n9 → sgN n9 tx ≤ i → dgN (tx i) < b9) (hK : K 14 = nI n9) (hI : I 0 = tI tx) (ht : ∀ i, tx i < 128) (hV : ∀ n, n < 34 → V n < vLim) : Met l y_T_readNumeral (.code y_T_readNumeral c_T_readNumeral 4 none :: bg) ({ frames := 4, cells := 0, slots := 0, locals := 83 } : Room) (mP T (fF V) (fU V) K I O [.ref (wa T 86), .ref (wa T 80), .int (nI b9)]) (mQv T (fF (va_up V 12 (rdS tx b9 (n9 - sgN n9 tx) (sgN n9 tx) 0))) (fU (va_up V 12 (rdS tx b9 (n9 - sgN n9 tx) (sgN n9 tx) 0))) (va_up K 12 (bI (decide (sgN n9 tx = 1) && !decide ((rdS tx b9 (n9 - sgN n9 tx) (sgN n9 tx) 0) = 0)))) I O) 0 0 (wA T) := by
  refine wM_v (by decide) (Nat.le_of_ble_eq_true rfl) ?_
  intro p e R s m args below meth c Q ls hx hb hC hRf hRl hret hl hw
  have hRf : 4 ≤ R.frames := hRf
  have hRl : 83 ≤ R.locals := hRl
  have hl : lv_has ls 4 [(0, .ref (wa T 86)), (1, .ref (wa T 80)), (2, .int (nI b9))] := hl
  have hs1 := sgN_len n9 tx
  have hs2 := sgN_le n9 tx
  have hK1 : va_up K 12 (nI 0) 14 = nI n9 := by rw [va_up_ne _ _ (by decide)]; exact hK
  refine lv_aload_n hx hb d_T_readNumeral_0 rfl (lv_at hl 1 rfl) ?_
  refine lv_lconst (v := 0) hx hb d_T_readNumeral_1 (by decide +kernel) ?_
  refine wcV_v (As := [.long (0 : Int64)]) hx hb hC hw (k_W_takeLong l T V K I O 12 0 (by omega) hV) lk_T_35 rfl rfl ⟨by show 2 + 1 ≤ R.frames; omega, by show 8 + (3 + 11) + 44 ≤ R.locals; omega⟩ (by omega) (we_Whole (by omega)) rfl rfl hl.1 rfl (Nat.le_of_ble_eq_true rfl) ⟨Nat.zero_le _, Nat.zero_le _⟩ d_T_readNumeral_2 (fun H locs hw => ?_)
  rw [z64, z64f] at hw
  refine lv_aload_n hx hb d_T_readNumeral_5 rfl (lv_at hl 0 rfl) ?_
  refine wcV_i (As := []) hx hb hC hw (k_T_signs l T _ _ (va_up K 12 (nI 0)) I O n9 tx hn9 hK1 hI ht) lk_T_27 rfl rfl ⟨by show 0 + 1 ≤ R.frames; omega, by show 8 + (1 + 11) + 0 ≤ R.locals; omega⟩ (by omega) (we_Text ) rfl rfl hl.1 rfl (Nat.le_of_ble_eq_true rfl) ⟨Nat.zero_le _, Nat.zero_le _⟩ d_T_readNumeral_6 (fun H locs hw => ?_)
  refine lv_istore_n hx hb d_T_readNumeral_9 rfl hl (by decide) rfl (fun ls hl => ?_)
  have hl : lv_has ls 4 [(3, .int (nI (sgN n9 tx))), (0, .ref (wa T 86)), (1, .ref (wa T 80)), (2, .int (nI b9))] := hl
  generalize hRD : (rdS tx b9 (n9 - sgN n9 tx) (sgN n9 tx) 0) = rd at hret ⊢
  have hL : ∀ (z9 i : Nat) (acc : Nat) (ls : Array Slot) (H : Heap) (locs : List Loc), n9 - i = z9 → i ≤ n9 → (sgN n9 tx ≤ i) → (rdS tx b9 (n9 - i) i acc = rd) → (acc < m1030) →  lv_has ls 4 [(3, .int (nI i)), (0, .ref (wa T 86)), (1, .ref (wa T 80)), (2, .int (nI b9))] → wH T (fF (va_up V 12 acc)) (fU (va_up V 12 acc)) (va_up K 12 (nI 0)) I O (wA T) s s.heap H locs → W p l e R s m args below meth c H locs 0 0 Q (F0 m 10 ls []) := by
    intro z9
    induction z9 with
    | zero =>
      intro i acc ls H locs hn hle h1 h2 h3 hl hw
      refine lv_iload_n hx hb d_T_readNumeral_10 rfl (lv_at hl 0 rfl) ?_
      refine lv_aload_n hx hb d_T_readNumeral_11 rfl (lv_at hl 1 rfl) ?_
      refine wg_Text_count hx hb hC hw bw_74 d_T_readNumeral_12 ?_
      refine sw_i (y := nI n9) (hK1) ?_
      refine n_icmp_ge (tgt := 54) hx hb d_T_readNumeral_15 (by decide) (by omega) (by omega) (fun h0 => ?_) (fun h0 => ?_)
      · have e9 : n9 = i := by omega
        have eR : acc = rd := by rw [← h2, show n9 - i = 0 by omega, rdS_0]
        have hVa : ∀ n, n < 34 → va_up V 12 acc n < vLim := hV_up hV (Nat.lt_of_lt_of_le h3 m1030_lim)
        refine lv_aload_n hx hb d_T_readNumeral_54 rfl (lv_at hl 2 rfl) ?_
        refine lv_aload_n hx hb d_T_readNumeral_55 rfl (lv_at hl 1 rfl) ?_
        refine wcV_i (As := []) hx hb hC hw (k_T_signs l T _ _ (va_up K 12 (nI 0)) I O n9 tx hn9 hK1 hI ht) lk_T_27 rfl rfl ⟨by show 0 + 1 ≤ R.frames; omega, by show 8 + (1 + 11) + 0 ≤ R.locals; omega⟩ (by omega) (we_Text ) rfl rfl hl.1 rfl (Nat.le_of_ble_eq_true rfl) ⟨Nat.zero_le _, Nat.zero_le _⟩ d_T_readNumeral_56 (fun H locs hw => ?_)
        refine lv_iconst (v := nI 1) hx hb d_T_readNumeral_59 (by decide +kernel) ?_
        refine n_icmp_ne (tgt := 77) hx hb d_T_readNumeral_60 (by decide) (by omega) (by omega) (fun h7 => ?_) (fun h7 => ?_)
        · refine lv_iconst (v := nI 0) hx hb d_T_readNumeral_77 (by decide +kernel) ?_
          refine wp_Whole_below (i := 12) hx hb hC hw (by omega) (zb0) (zf0) bw_60 d_T_readNumeral_78 (fun H locs hw => ?_)
          rw [bx_uu] at hw
          have e9 : bI (decide (sgN n9 tx = 1) && !decide (rd = 0)) = nI 0 := by rw [decide_eq_false (by omega)]; rfl
          rw [← e9, eR] at hw
          exact hret _ _ _ _ hw d_T_readNumeral_81
        · refine lv_aload_n hx hb d_T_readNumeral_63 rfl (lv_at hl 2 rfl) ?_
          refine wg_Whole_size (i := 12) hx hb hC hw (by omega) bw_56 d_T_readNumeral_64 ?_
          refine wcV_z (As := []) hx hb hC hw (k_N_isZero l T (va_up V 12 acc) (va_up K 12 (nI 0)) I O 12 (by omega) hVa) lk_T_54 rfl rfl ⟨by show 0 + 1 ≤ R.frames; omega, by show 8 + (1 + 11) + 0 ≤ R.locals; omega⟩ (by omega) (we_Natural (by omega)) rfl rfl hl.1 rfl (Nat.le_of_ble_eq_true rfl) ⟨Nat.zero_le _, Nat.zero_le _⟩ d_T_readNumeral_67 (fun H locs hw => ?_)
          by_cases hz : (va_up V 12 acc) 12 = 0
          · refine sw_i (y := nI 1) (by rw [if_pos hz]; rfl) ?_
            refine n_if_ne (tgt := 77) hx hb d_T_readNumeral_70 (by decide) (by omega) (fun hw9 => ?_) (fun hw9 => ?_)
            · refine lv_iconst (v := nI 0) hx hb d_T_readNumeral_77 (by decide +kernel) ?_
              refine wp_Whole_below (i := 12) hx hb hC hw (by omega) (zb0) (zf0) bw_60 d_T_readNumeral_78 (fun H locs hw => ?_)
              rw [va_up_self] at hz
              rw [bx_uu] at hw
              have e9 : bI (decide (sgN n9 tx = 1) && !decide (rd = 0)) = nI 0 := by rw [← eR, decide_eq_true hz]; simp [bI, nI]
              rw [← e9, eR] at hw
              exact hret _ _ _ _ hw d_T_readNumeral_81
            · exact absurd hw9 (by decide)
          · refine sw_i (y := nI 0) (by rw [if_neg hz]; rfl) ?_
            refine n_if_ne (tgt := 77) hx hb d_T_readNumeral_70 (by decide) (by omega) (fun hw9 => ?_) (fun hw9 => ?_)
            · exact absurd hw9 (by decide)
            · refine lv_iconst (v := nI 1) hx hb d_T_readNumeral_73 (by decide +kernel) ?_
              refine lv_goto (tgt := 78) hx hb d_T_readNumeral_74 (by decide) ?_
              refine wp_Whole_below (i := 12) hx hb hC hw (by omega) (zb1) (zf1) bw_60 d_T_readNumeral_78 (fun H locs hw => ?_)
              rw [va_up_self] at hz
              rw [bx_uu] at hw
              have e9 : bI (decide (sgN n9 tx = 1) && !decide (rd = 0)) = nI 1 := by rw [← eR, decide_eq_false hz, decide_eq_true (by omega)]; rfl
              rw [← e9, eR] at hw
              exact hret _ _ _ _ hw d_T_readNumeral_81
      · exact absurd h0 (by omega)
    | succ z9 ih =>
      intro i acc ls H locs hn hle h1 h2 h3 hl hw
      refine lv_iload_n hx hb d_T_readNumeral_10 rfl (lv_at hl 0 rfl) ?_
      refine lv_aload_n hx hb d_T_readNumeral_11 rfl (lv_at hl 1 rfl) ?_
      refine wg_Text_count hx hb hC hw bw_74 d_T_readNumeral_12 ?_
      refine sw_i (y := nI n9) (hK1) ?_
      refine n_icmp_ge (tgt := 54) hx hb d_T_readNumeral_15 (by decide) (by omega) (by omega) (fun h0 => ?_) (fun h0 => ?_)
      · exact absurd h0 (by omega)
      · have hVa : ∀ n, n < 34 → va_up V 12 acc n < vLim := hV_up hV (Nat.lt_of_lt_of_le h3 m1030_lim)
        refine lv_aload_n hx hb d_T_readNumeral_18 rfl (lv_at hl 2 rfl) ?_
        refine wg_Whole_size (i := 12) hx hb hC hw (by omega) bw_56 d_T_readNumeral_19 ?_
        refine wcV_i (As := []) hx hb hC hw (k_N_length l T (va_up V 12 acc) (va_up K 12 (nI 0)) I O 12 (by omega) hVa) lk_T_45 rfl rfl ⟨by show 3 + 1 ≤ R.frames; omega, by show 8 + (1 + 11) + 63 ≤ R.locals; omega⟩ (by omega) (we_Natural (by omega)) rfl rfl hl.1 rfl (Nat.le_of_ble_eq_true rfl) ⟨Nat.zero_le _, Nat.zero_le _⟩ d_T_readNumeral_22 (fun H locs hw => ?_)
        refine sw_i (y := nI (bl acc)) (by rw [va_up_self]) ?_
        have hbl := bl_le acc
        refine lv_sipush (v := nI 1024) hx hb d_T_readNumeral_25 (by decide +kernel) ?_
        refine n_icmp_gt (tgt := 54) hx hb d_T_readNumeral_28 (by decide) (by omega) (by omega) (fun h4 => ?_) (fun h4 => ?_)
        · have eR : acc = rd := by rw [← h2, rdS_n (bl_1024' h4)]
          have hVa : ∀ n, n < 34 → va_up V 12 acc n < vLim := hV_up hV (Nat.lt_of_lt_of_le h3 m1030_lim)
          refine lv_aload_n hx hb d_T_readNumeral_54 rfl (lv_at hl 2 rfl) ?_
          refine lv_aload_n hx hb d_T_readNumeral_55 rfl (lv_at hl 1 rfl) ?_
          refine wcV_i (As := []) hx hb hC hw (k_T_signs l T _ _ (va_up K 12 (nI 0)) I O n9 tx hn9 hK1 hI ht) lk_T_27 rfl rfl ⟨by show 0 + 1 ≤ R.frames; omega, by show 8 + (1 + 11) + 0 ≤ R.locals; omega⟩ (by omega) (we_Text ) rfl rfl hl.1 rfl (Nat.le_of_ble_eq_true rfl) ⟨Nat.zero_le _, Nat.zero_le _⟩ d_T_readNumeral_56 (fun H locs hw => ?_)
          refine lv_iconst (v := nI 1) hx hb d_T_readNumeral_59 (by decide +kernel) ?_
          refine n_icmp_ne (tgt := 77) hx hb d_T_readNumeral_60 (by decide) (by omega) (by omega) (fun h7 => ?_) (fun h7 => ?_)
          · refine lv_iconst (v := nI 0) hx hb d_T_readNumeral_77 (by decide +kernel) ?_
            refine wp_Whole_below (i := 12) hx hb hC hw (by omega) (zb0) (zf0) bw_60 d_T_readNumeral_78 (fun H locs hw => ?_)
            rw [bx_uu] at hw
            have e9 : bI (decide (sgN n9 tx = 1) && !decide (rd = 0)) = nI 0 := by rw [decide_eq_false (by omega)]; rfl
            rw [← e9, eR] at hw
            exact hret _ _ _ _ hw d_T_readNumeral_81
          · refine lv_aload_n hx hb d_T_readNumeral_63 rfl (lv_at hl 2 rfl) ?_
            refine wg_Whole_size (i := 12) hx hb hC hw (by omega) bw_56 d_T_readNumeral_64 ?_
            refine wcV_z (As := []) hx hb hC hw (k_N_isZero l T (va_up V 12 acc) (va_up K 12 (nI 0)) I O 12 (by omega) hVa) lk_T_54 rfl rfl ⟨by show 0 + 1 ≤ R.frames; omega, by show 8 + (1 + 11) + 0 ≤ R.locals; omega⟩ (by omega) (we_Natural (by omega)) rfl rfl hl.1 rfl (Nat.le_of_ble_eq_true rfl) ⟨Nat.zero_le _, Nat.zero_le _⟩ d_T_readNumeral_67 (fun H locs hw => ?_)
            by_cases hz : (va_up V 12 acc) 12 = 0
            · refine sw_i (y := nI 1) (by rw [if_pos hz]; rfl) ?_
              refine n_if_ne (tgt := 77) hx hb d_T_readNumeral_70 (by decide) (by omega) (fun hw9 => ?_) (fun hw9 => ?_)
              · refine lv_iconst (v := nI 0) hx hb d_T_readNumeral_77 (by decide +kernel) ?_
                refine wp_Whole_below (i := 12) hx hb hC hw (by omega) (zb0) (zf0) bw_60 d_T_readNumeral_78 (fun H locs hw => ?_)
                rw [va_up_self] at hz
                rw [bx_uu] at hw
                have e9 : bI (decide (sgN n9 tx = 1) && !decide (rd = 0)) = nI 0 := by rw [← eR, decide_eq_true hz]; simp [bI, nI]
                rw [← e9, eR] at hw
                exact hret _ _ _ _ hw d_T_readNumeral_81
              · exact absurd hw9 (by decide)
            · refine sw_i (y := nI 0) (by rw [if_neg hz]; rfl) ?_
              refine n_if_ne (tgt := 77) hx hb d_T_readNumeral_70 (by decide) (by omega) (fun hw9 => ?_) (fun hw9 => ?_)
              · exact absurd hw9 (by decide)
              · refine lv_iconst (v := nI 1) hx hb d_T_readNumeral_73 (by decide +kernel) ?_
                refine lv_goto (tgt := 78) hx hb d_T_readNumeral_74 (by decide) ?_
                refine wp_Whole_below (i := 12) hx hb hC hw (by omega) (zb1) (zf1) bw_60 d_T_readNumeral_78 (fun H locs hw => ?_)
                rw [va_up_self] at hz
                rw [bx_uu] at hw
                have e9 : bI (decide (sgN n9 tx = 1) && !decide (rd = 0)) = nI 1 := by rw [← eR, decide_eq_false hz, decide_eq_true (by omega)]; rfl
                rw [← e9, eR] at hw
                exact hret _ _ _ _ hw d_T_readNumeral_81
        · have ha := bl_1024 h3 (by omega)
          have hdg := hd9 i (by omega) h1
          refine lv_aload_n hx hb d_T_readNumeral_31 rfl (lv_at hl 2 rfl) ?_
          refine wg_Whole_size (i := 12) hx hb hC hw (by omega) bw_56 d_T_readNumeral_32 ?_
          refine lv_iload_n hx hb d_T_readNumeral_35 rfl (lv_at hl 3 rfl) ?_
          refine lv_aload_n hx hb d_T_readNumeral_36 rfl (lv_at hl 1 rfl) ?_
          refine wg_Text_codes hx hb hC hw bw_72 d_T_readNumeral_37 ?_
          refine lv_iload_n hx hb d_T_readNumeral_40 rfl (lv_at hl 0 rfl) ?_
          refine wl_codes hx hb hw (by omega) d_T_readNumeral_41 ?_
          refine sw_i (y := nI (tx i)) (congrFun hI _) ?_
          refine wcS_i (As := [.int (nI (tx i))]) hx hb hC hw (k_T_digitOf l T _ _ (va_up K 12 (nI 0)) I O (tx i) (ht i)) lk_T_31 rfl rfl ⟨by show 0 + 1 ≤ R.frames; omega, by show 8 + (1 + 11) + 0 ≤ R.locals; omega⟩ rfl hl.1 rfl (Nat.le_of_ble_eq_true rfl) ⟨Nat.zero_le _, Nat.zero_le _⟩ d_T_readNumeral_42 (fun H locs hw => ?_)
          refine sw_i (y := nI (dgN (tx i))) (by unfold dgI; rw [if_neg (by omega)]) ?_
          refine wcV_v (As := [.int (nI b9), .int (nI (dgN (tx i)))]) hx hb hC hw (k_N_pushDigit l T (va_up V 12 acc) (va_up K 12 (nI 0)) I O 12 b9 (dgN (tx i)) (by omega) hb9 hdg (by rw [va_up_self]; exact k74 h3) hVa) lk_T_50 rfl rfl ⟨by show 1 + 1 ≤ R.frames; omega, by show 8 + (7 + 11) + 22 ≤ R.locals; omega⟩ (by omega) (we_Natural (by omega)) rfl rfl hl.1 rfl (Nat.le_of_ble_eq_true rfl) ⟨Nat.zero_le _, Nat.zero_le _⟩ d_T_readNumeral_45 (fun H locs hw => ?_)
          rw [va_up_self, bx_uu] at hw
          refine lv_iinc (v := nI (i + 1)) hx hb d_T_readNumeral_48 hl (k := 0) rfl (nI_add _ 1) (by decide) rfl (fun ls hl => ?_)
          have hl : lv_has ls 4 [(3, .int (nI (i + 1))), (0, .ref (wa T 86)), (1, .ref (wa T 80)), (2, .int (nI b9))] := hl
          refine lv_goto (tgt := 10) hx hb d_T_readNumeral_51 (by decide) ?_
          exact ih (i + 1) (acc * b9 + dgN (tx i)) ls H locs (by omega) (by omega) (by omega) (by rw [← h2, show n9 - i = n9 - (i + 1) + 1 by omega, rdS_s ha]) (rd_grow ha hb9.2 hdg) hl hw
  exact hL _ (sgN n9 tx) 0 ls H locs rfl (by omega) (Nat.le_refl _) hRD m1030_pos hl hw
