/-! Text: turned round; is it a numeral -/
theorem sgN_len (n : Nat) (tx : Nat → Nat) : sgN n tx ≤ n := by unfold sgN; split <;> omega
theorem rv_end {tx t1 : Nat → Nat} {n i k : Nat} (hk : i + k + 1 = n) (h : ∀ j, t1 j = if j < n ∧ (j < i ∨ k < j) then tx (n - 1 - j) else tx j) (hi : k ≤ i) : t1 = rvT tx n := by
  funext j; rw [h j]; unfold rvT
  by_cases h1 : j < n
  · rw [if_pos h1]
    split
    · rfl
    · rw [show n - 1 - j = j by omega]
  · rw [if_neg h1, if_neg (by omega)]
theorem rv_step {tx t1 : Nat → Nat} {n i k : Nat} (hk : i + k + 1 = n) (h : ∀ j, t1 j = if j < n ∧ (j < i ∨ k < j) then tx (n - 1 - j) else tx j) (hi : i < k) : ∀ j, tU (tU t1 i (t1 k)) k (t1 i) j = if j < n ∧ (j < i + 1 ∨ k - 1 < j) then tx (n - 1 - j) else tx j := by
  intro j
  have e1 : t1 k = tx k := by rw [h k, if_neg (by omega)]
  have e2 : t1 i = tx i := by rw [h i, if_neg (by omega)]
  unfold tU
  by_cases c1 : j = k
  · rw [if_pos c1, if_pos (by omega), e2, show n - 1 - j = i by omega]
  · rw [if_neg c1]
    by_cases c2 : j = i
    · rw [if_pos c2, if_pos (by omega), e1, show n - 1 - j = k by omega]
    · rw [if_neg c2, h j]
      by_cases c3 : j < n ∧ (j < i ∨ k < j)
      · rw [if_pos c3, if_pos (by omega)]
      · rw [if_neg c3, if_neg (by omega)]
theorem tU_lt {tx : Nat → Nat} {n c : Nat} (h : ∀ i, tx i < 128) (hc : c < 128) : ∀ i, tU tx n c i < 128 := by
  intro i; unfold tU; split
  · exact hc
  · exact h i
theorem rvT_lt {tx : Nat → Nat} {n : Nat} (h : ∀ i, tx i < 128) : ∀ i, rvT tx n i < 128 := by
  intro i; unfold rvT; split <;> exact h _
theorem apT_lt {tx : Nat → Nat} {k N n : Nat} (h : ∀ i, tx i < 128) (hc : ∀ j, j < n → N / 2 ^ (8 * j) % 256 < 128) : ∀ i, apT tx k N n i < 128 := by
  intro i; unfold apT; split
  · exact hc _ (by omega)
  · exact h i

set_option maxRecDepth 100000 in
set_option maxHeartbeats 4000000 in
theorem k_T_reverse (l : Launch) (T : wT) (F : wFt) (U K : wUt) (I : wIt) (O : wOt) (n9 : Nat) (tx : Nat → Nat) (hn9 : n9 ≤ 1200) (h09 : 0 < n9) (hK : K 14 = nI n9) (hI : I 0 = tI tx) (ht : ∀ i, tx i < 128) : Met l y_T_reverse (.code y_T_reverse c_T_reverse 4 none :: bg) ({ frames := 0, cells := 0, slots := 0, locals := 0 } : Room) (mP T F U K I O [.ref (wa T 86)]) (mQv T F U K (va_up I 0 (tI (rvT tx n9))) O) 0 0 (wA T) := by
  refine wM_v (by decide) (Nat.le_of_ble_eq_true rfl) ?_
  intro p e R s m args below meth c Q ls hx hb hC hRf hRl hret hl hw
  have hRf : 0 ≤ R.frames := hRf
  have hRl : 0 ≤ R.locals := hRl
  have hl : lv_has ls 4 [(0, .ref (wa T 86))] := hl
  refine lv_iconst (v := nI 0) hx hb d_T_reverse_0 (by decide +kernel) ?_
  refine lv_istore_n hx hb d_T_reverse_1 rfl hl (by decide) rfl (fun ls hl => ?_)
  have hl : lv_has ls 4 [(1, .int (nI 0)), (0, .ref (wa T 86))] := hl
  refine lv_aload_n hx hb d_T_reverse_2 rfl (lv_at hl 1 rfl) ?_
  refine wg_Text_count hx hb hC hw bw_74 d_T_reverse_3 ?_
  refine sw_i (y := nI n9) (hK) ?_
  refine lv_iconst (v := nI 1) hx hb d_T_reverse_6 (by decide +kernel) ?_
  refine n_isub hx hb d_T_reverse_7 (by omega) ?_
  refine lv_istore_n hx hb d_T_reverse_8 rfl hl (by decide) rfl (fun ls hl => ?_)
  have hl : lv_has ls 4 [(2, .int (nI (n9 - 1))), (1, .int (nI 0)), (0, .ref (wa T 86))] := hl
  have hw : wH T F U K (va_up I 0 (tI tx)) O (wA T) s s.heap s.heap [] := by rw [← hI, va_upx]; exact hw
  have hL : ∀ (z9 i k9 : Nat) (t1 : Nat → Nat) (ls : Array Slot) (H : Heap) (locs : List Loc), k9 ≤ z9 → i + k9 + 1 = n9 → (∀ j, t1 j < 128) → (∀ j, t1 j = if j < n9 ∧ (j < i ∨ k9 < j) then tx (n9 - 1 - j) else tx j) → lv_has ls 4 [(2, .int (nI k9)), (1, .int (nI i)), (0, .ref (wa T 86))] → wH T F U K (va_up I 0 (tI t1)) O (wA T) s s.heap H locs → W p l e R s m args below meth c H locs 0 0 Q (F0 m 9 ls []) := by
    intro z9
    induction z9 with
    | zero =>
      intro i k9 t1 ls H locs hz hk h1 h2 hl hw
      refine lv_iload_n hx hb d_T_reverse_9 rfl (lv_at hl 1 rfl) ?_
      refine lv_iload_n hx hb d_T_reverse_10 rfl (lv_at hl 0 rfl) ?_
      refine n_icmp_ge (tgt := 49) hx hb d_T_reverse_11 (by decide) (by omega) (by omega) (fun h0 => ?_) (fun h0 => ?_)
      · rw [rv_end hk h2 (by omega)] at hw
        exact hret _ _ _ _ hw d_T_reverse_49
      · exact absurd h0 (by omega)
    | succ z9 ih =>
      intro i k9 t1 ls H locs hz hk h1 h2 hl hw
      refine lv_iload_n hx hb d_T_reverse_9 rfl (lv_at hl 1 rfl) ?_
      refine lv_iload_n hx hb d_T_reverse_10 rfl (lv_at hl 0 rfl) ?_
      refine n_icmp_ge (tgt := 49) hx hb d_T_reverse_11 (by decide) (by omega) (by omega) (fun h0 => ?_) (fun h0 => ?_)
      · rw [rv_end hk h2 (by omega)] at hw
        exact hret _ _ _ _ hw d_T_reverse_49
      · refine lv_aload_n hx hb d_T_reverse_14 rfl (lv_at hl 2 rfl) ?_
        refine wg_Text_codes hx hb hC hw bw_72 d_T_reverse_15 ?_
        refine lv_iload_n hx hb d_T_reverse_18 rfl (lv_at hl 1 rfl) ?_
        refine wl_codes hx hb hw (by omega) d_T_reverse_19 ?_
        refine sw_i (y := nI (t1 i)) (congrFun (va_up_self _ _ _) _) ?_
        refine lv_istore_n hx hb d_T_reverse_20 rfl hl (by decide) rfl (fun ls hl => ?_)
        have hl : lv_has ls 4 [(3, .int (nI (t1 i))), (2, .int (nI k9)), (1, .int (nI i)), (0, .ref (wa T 86))] := hl
        refine lv_aload_n hx hb d_T_reverse_21 rfl (lv_at hl 3 rfl) ?_
        refine wg_Text_codes hx hb hC hw bw_72 d_T_reverse_22 ?_
        refine lv_iload_n hx hb d_T_reverse_25 rfl (lv_at hl 2 rfl) ?_
        refine lv_aload_n hx hb d_T_reverse_26 rfl (lv_at hl 3 rfl) ?_
        refine wg_Text_codes hx hb hC hw bw_72 d_T_reverse_27 ?_
        refine lv_iload_n hx hb d_T_reverse_30 rfl (lv_at hl 1 rfl) ?_
        refine wl_codes hx hb hw (by omega) d_T_reverse_31 ?_
        refine sw_i (y := nI (t1 k9)) (congrFun (va_up_self _ _ _) _) ?_
        refine ws_codes hx hb hw (by omega) d_T_reverse_32 (fun H locs hw => ?_)
        rw [b8_all _ (h1 _), va_up_self, tI_up, bx_uu] at hw
        refine lv_aload_n hx hb d_T_reverse_33 rfl (lv_at hl 3 rfl) ?_
        refine wg_Text_codes hx hb hC hw bw_72 d_T_reverse_34 ?_
        refine lv_iload_n hx hb d_T_reverse_37 rfl (lv_at hl 1 rfl) ?_
        refine lv_iload_n hx hb d_T_reverse_38 rfl (lv_at hl 0 rfl) ?_
        refine ws_codes hx hb hw (by omega) d_T_reverse_39 (fun H locs hw => ?_)
        rw [b8_all _ (h1 _), va_up_self, tI_up, bx_uu] at hw
        refine lv_iinc (v := nI (i + 1)) hx hb d_T_reverse_40 hl (k := 2) rfl (nI_add _ 1) (by decide) rfl (fun ls hl => ?_)
        have hl : lv_has ls 4 [(1, .int (nI (i + 1))), (3, .int (nI (t1 i))), (2, .int (nI k9)), (0, .ref (wa T 86))] := hl
        refine lv_iinc (v := nI (k9 - 1)) hx hb d_T_reverse_43 hl (k := 2) rfl ((i32_m1 _).trans (nI_ms (by omega))) (by decide) rfl (fun ls hl => ?_)
        have hl : lv_has ls 4 [(2, .int (nI (k9 - 1))), (1, .int (nI (i + 1))), (3, .int (nI (t1 i))), (0, .ref (wa T 86))] := hl
        refine lv_goto (tgt := 9) hx hb d_T_reverse_46 (by decide) ?_
        have hl := lv_sub hl [0, 1, 3] rfl
        have hl : lv_has ls 4 [(2, .int (nI (k9 - 1))), (1, .int (nI (i + 1))), (0, .ref (wa T 86))] := hl
        exact ih (i + 1) (k9 - 1) _ ls H locs (by omega) (by omega) (tU_lt (tU_lt h1 (h1 _)) (h1 _)) (rv_step hk h2 (by omega)) hl hw
  exact hL (n9 - 1) 0 (n9 - 1) tx ls s.heap [] (Nat.le_refl _) (by omega) ht (fun j => by rw [if_neg (by omega)]) hl hw
set_option maxRecDepth 100000 in
set_option maxHeartbeats 4000000 in
theorem k_T_isNumeral (l : Launch) (T : wT) (F : wFt) (U K : wUt) (I : wIt) (O : wOt) (n9 b9 : Nat) (tx : Nat → Nat) (hn9 : n9 ≤ 1200) (hb9 : b9 ≤ 36) (hK : K 14 = nI n9) (hI : I 0 = tI tx) (ht : ∀ i, tx i < 128) : Met l y_T_isNumeral (.code y_T_isNumeral c_T_isNumeral 5 (some .boolean) :: bg) ({ frames := 1, cells := 0, slots := 0, locals := 20 } : Room) (mP T F U K I O [.ref (wa T 86), .int (nI b9)]) (mQi T (bI (nmB tx n9 b9)) F U K I O) 0 0 (wA T) := by
  refine wM_z (by decide) (Nat.le_of_ble_eq_true rfl) (zbI _) ?_
  intro p e R s m args below meth c Q ls hx hb hC hRf hRl hret hl hw
  have hRf : 1 ≤ R.frames := hRf
  have hRl : 20 ≤ R.locals := hRl
  have hl : lv_has ls 5 [(0, .ref (wa T 86)), (1, .int (nI b9))] := hl
  have hs1 := sgN_len n9 tx
  refine lv_aload_n hx hb d_T_isNumeral_0 rfl (lv_at hl 0 rfl) ?_
  refine wcV_i (As := []) hx hb hC hw (k_T_signs l T F U K I O n9 tx hn9 hK hI ht) lk_T_27 rfl rfl ⟨by show 0 + 1 ≤ R.frames; omega, by show 8 + (1 + 11) + 0 ≤ R.locals; omega⟩ (by omega) (we_Text ) rfl rfl hl.1 rfl (Nat.le_of_ble_eq_true rfl) ⟨Nat.zero_le _, Nat.zero_le _⟩ d_T_isNumeral_1 (fun H locs hw => ?_)
  refine lv_istore_n hx hb d_T_isNumeral_4 rfl hl (by decide) rfl (fun ls hl => ?_)
  have hl : lv_has ls 5 [(2, .int (nI (sgN n9 tx))), (0, .ref (wa T 86)), (1, .int (nI b9))] := hl
  refine lv_iload_n hx hb d_T_isNumeral_5 rfl (lv_at hl 0 rfl) ?_
  refine lv_istore_n hx hb d_T_isNumeral_6 rfl hl (by decide) rfl (fun ls hl => ?_)
  have hl : lv_has ls 5 [(3, .int (nI (sgN n9 tx))), (2, .int (nI (sgN n9 tx))), (0, .ref (wa T 86)), (1, .int (nI b9))] := hl
  have hL : ∀ (z9 i : Nat)  (ls : Array Slot) (H : Heap) (locs : List Loc), n9 - i = z9 → i ≤ n9 → (∀ j, j < i → sgN n9 tx ≤ j → dgN (tx j) < b9) → (sgN n9 tx ≤ i) →  lv_has ls 5 [(3, .int (nI i)), (2, .int (nI (sgN n9 tx))), (0, .ref (wa T 86)), (1, .int (nI b9))] → wH T F U K I O (wA T) s s.heap H locs → W p l e R s m args below meth c H locs 0 0 Q (F0 m 7 ls []) := by
    intro z9
    induction z9 with
    | zero =>
      intro i  ls H locs hn hle h1 h2 hl hw
      refine lv_iload_n hx hb d_T_isNumeral_7 rfl (lv_at hl 0 rfl) ?_
      refine lv_aload_n hx hb d_T_isNumeral_8 rfl (lv_at hl 2 rfl) ?_
      refine wg_Text_count hx hb hC hw bw_74 d_T_isNumeral_9 ?_
      refine sw_i (y := nI n9) (hK) ?_
      refine n_icmp_ge (tgt := 46) hx hb d_T_isNumeral_12 (by decide) (by omega) (by omega) (fun h0 => ?_) (fun h0 => ?_)
      · have e9 : n9 = i := by omega
        refine lv_aload_n hx hb d_T_isNumeral_46 rfl (lv_at hl 2 rfl) ?_
        refine wg_Text_count hx hb hC hw bw_74 d_T_isNumeral_47 ?_
        refine sw_i (y := nI n9) (hK) ?_
        refine lv_iload_n hx hb d_T_isNumeral_50 rfl (lv_at hl 1 rfl) ?_
        refine n_icmp_le (tgt := 58) hx hb d_T_isNumeral_51 (by decide) (by omega) (by omega) (fun h3 => ?_) (fun h3 => ?_)
        · refine lv_iconst (v := nI 0) hx hb d_T_isNumeral_58 (by decide +kernel) ?_
          refine sw_i (y := bI (nmB tx n9 b9)) (by rw [nmB_f0 (by omega)]; rfl) ?_
          exact hret _ _ _ _ hw d_T_isNumeral_59
        · refine lv_iconst (v := nI 1) hx hb d_T_isNumeral_54 (by decide +kernel) ?_
          refine lv_goto (tgt := 59) hx hb d_T_isNumeral_55 (by decide) ?_
          refine sw_i (y := bI (nmB tx n9 b9)) (by rw [nmB_t (by omega) (fun j hj hj2 => h1 j (by omega) hj2)]; rfl) ?_
          exact hret _ _ _ _ hw d_T_isNumeral_59
      · exact absurd h0 (by omega)
    | succ z9 ih =>
      intro i  ls H locs hn hle h1 h2 hl hw
      refine lv_iload_n hx hb d_T_isNumeral_7 rfl (lv_at hl 0 rfl) ?_
      refine lv_aload_n hx hb d_T_isNumeral_8 rfl (lv_at hl 2 rfl) ?_
      refine wg_Text_count hx hb hC hw bw_74 d_T_isNumeral_9 ?_
      refine sw_i (y := nI n9) (hK) ?_
      refine n_icmp_ge (tgt := 46) hx hb d_T_isNumeral_12 (by decide) (by omega) (by omega) (fun h0 => ?_) (fun h0 => ?_)
      · exact absurd h0 (by omega)
      · refine lv_aload_n hx hb d_T_isNumeral_15 rfl (lv_at hl 2 rfl) ?_
        refine wg_Text_codes hx hb hC hw bw_72 d_T_isNumeral_16 ?_
        refine lv_iload_n hx hb d_T_isNumeral_19 rfl (lv_at hl 0 rfl) ?_
        refine wl_codes hx hb hw (by omega) d_T_isNumeral_20 ?_
        refine sw_i (y := nI (tx i)) (congrFun hI _) ?_
        refine wcS_i (As := [.int (nI (tx i))]) hx hb hC hw (k_T_digitOf l T F U K I O (tx i) (ht i)) lk_T_31 rfl rfl ⟨by show 0 + 1 ≤ R.frames; omega, by show 8 + (1 + 11) + 0 ≤ R.locals; omega⟩ rfl hl.1 rfl (Nat.le_of_ble_eq_true rfl) ⟨Nat.zero_le _, Nat.zero_le _⟩ d_T_isNumeral_21 (fun H locs hw => ?_)
        refine lv_istore hx hb d_T_isNumeral_24 hl (by decide) rfl (fun ls hl => ?_)
        have hl : lv_has ls 5 [(4, .int (dgI (tx i))), (3, .int (nI i)), (2, .int (nI (sgN n9 tx))), (0, .ref (wa T 86)), (1, .int (nI b9))] := hl
        refine lv_iload hx hb d_T_isNumeral_26 (lv_at hl 0 rfl) ?_
        refine lv_iconst (v := (-1)) hx hb d_T_isNumeral_28 (by decide +kernel) ?_
        refine lv_icmp_eq (tgt := 38) hx hb d_T_isNumeral_29 (by decide) (fun h3 => ?_) (fun h3 => ?_)
        · have e9 := dgI_neg h3
          refine lv_iconst (v := nI 0) hx hb d_T_isNumeral_38 (by decide +kernel) ?_
          refine sw_i (y := bI (nmB tx n9 b9)) (by rw [nmB_f (i := i) (by omega) (by omega) (by omega)]; rfl) ?_
          exact hret _ _ _ _ hw d_T_isNumeral_39
        · obtain ⟨e8, e9⟩ := dgI_pos h3
          refine lv_iload hx hb d_T_isNumeral_32 (lv_at hl 0 rfl) ?_
          refine sw_i (y := nI (dgN (tx i))) (e8) ?_
          refine lv_iload_n hx hb d_T_isNumeral_34 rfl (lv_at hl 4 rfl) ?_
          refine n_icmp_lt (tgt := 40) hx hb d_T_isNumeral_35 (by decide) (by omega) (by omega) (fun h4 => ?_) (fun h4 => ?_)
          · refine lv_iinc (v := nI (i + 1)) hx hb d_T_isNumeral_40 hl (k := 1) rfl (nI_add _ 1) (by decide) rfl (fun ls hl => ?_)
            have hl : lv_has ls 5 [(3, .int (nI (i + 1))), (4, .int (dgI (tx i))), (2, .int (nI (sgN n9 tx))), (0, .ref (wa T 86)), (1, .int (nI b9))] := hl
            refine lv_goto (tgt := 7) hx hb d_T_isNumeral_43 (by decide) ?_
            have hl := lv_sub hl [0, 2, 3, 4] rfl
            have hl : lv_has ls 5 [(3, .int (nI (i + 1))), (2, .int (nI (sgN n9 tx))), (0, .ref (wa T 86)), (1, .int (nI b9))] := hl
            exact ih (i + 1) ls H locs (by omega) (by omega) (fun j hj hj2 => by by_cases ej : j = i; exact ej ▸ h4; exact h1 j (by omega) hj2) (by omega) hl hw
          · refine lv_iconst (v := nI 0) hx hb d_T_isNumeral_38 (by decide +kernel) ?_
            refine sw_i (y := bI (nmB tx n9 b9)) (by rw [nmB_f (i := i) (by omega) (by omega) (by omega)]; rfl) ?_
            exact hret _ _ _ _ hw d_T_isNumeral_39
  exact hL _ (sgN n9 tx) ls H locs rfl (by omega) (fun j hj hj2 => absurd hj (by omega)) (by omega) hl hw
