/-! the model: print -/
set_option maxRecDepth 100000 in
set_option maxHeartbeats 4000000 in
theorem k_M_print (l : Launch) (T : wT) (F : wFt) (U K : wUt) (I : wIt) (O : wOt) (M Z : Nat → Nat) (G : Nat → Int32) (z : Nat → Int) (hm : mI z M Z G) (n9 : Nat) (tx : Nat → Nat) (hn9 : n9 ≤ 1200) (hK : K 16 = nI n9) (hI : I 4 = tI tx) (ht : ∀ i, tx i < 128) (a b : Int32) : Met l y_M_print (.code y_M_print c_M_print 5 (some .int) :: bg) ({ frames := 2, cells := 0, slots := 0, locals := 48 } : Room) (mP T F U K (gI I (dgm M) Z G) O [.ref (wa T 91), .int a, .int b]) (mQiM T (if prC a b = 0 then nI (pL (rg b) (z (rg a)).natAbs (decide (z (rg a) < 0))) else nI 0) (mI z) F U (va_up (va_up K 16 (nI (if prC a b = 0 then pL (rg b) (z (rg a)).natAbs (decide (z (rg a) < 0)) else n9))) 15 (nI (prC a b))) (va_up I 4 (tI (if prC a b = 0 then prT tx (z (rg a)).natAbs (rg b) (decide (z (rg a) < 0)) else tx))) O) 0 0 (wA T) := by
  refine wM_iM (by decide) (Nat.le_of_ble_eq_true rfl) ?_
  intro p e R s m args below meth c Q ls hx hb hC hRf hRl hret hl hw
  have hRf : 2 ≤ R.frames := hRf
  have hRl : 48 ≤ R.locals := hRl
  have hl : lv_has ls 5 [(0, .ref (wa T 91)), (1, .int a), (2, .int b)] := hl
  rw [show gI I (dgm M) Z G = gI (va_up I 4 (tI tx)) (dgm M) Z G from by rw [← hI, va_upx]] at hw
  have hK0 : va_up K 16 (nI n9) = K := by rw [← hK, va_upx]
  rw [← hK0] at hw
  refine lv_aload_n hx hb d_M_print_0 rfl (lv_at hl 0 rfl) ?_
  refine lv_iload_n hx hb d_M_print_1 rfl (lv_at hl 1 rfl) ?_
  refine wcS_z (As := [.int a]) hx hb hC hw (k_M_is l T F U (va_up K 16 (nI n9)) (gI (va_up I 4 (tI tx)) (dgm M) Z G) O a) lk_M_66 rfl rfl ⟨by show 0 + 1 ≤ R.frames; omega, by show 8 + (1 + 11) + 0 ≤ R.locals; omega⟩ rfl hl.1 rfl (Nat.le_of_ble_eq_true rfl) ⟨Nat.zero_le _, Nat.zero_le _⟩ d_M_print_2 (fun H locs hw => ?_)
  by_cases h_a : isR a
  rotate_left
  · refine sw_i (y := nI 0) (by rw [decide_eq_false h_a]; rfl) ?_
    refine n_if_ne (tgt := 12) hx hb d_M_print_5 (by decide) (by omega) (fun hw9 => absurd hw9 (by decide)) (fun hw9 => ?_)
    refine lv_iconst (v := nI 1) hx hb d_M_print_8 (by decide +kernel) ?_
    refine lv_goto (tgt := 28) hx hb d_M_print_9 (by decide) ?_
    refine wp_Model_code hx hb hC hw bw_817 d_M_print_28 (fun H locs hw => ?_)
    refine lv_aload_n hx hb d_M_print_31 rfl (lv_at hl 0 rfl) ?_
    refine wg_Model_code hx hb hC hw bw_817 d_M_print_32 ?_
    refine sw_i (y := nI 1) (va_up_self _ _ _) ?_
    refine n_if_le (tgt := 40) hx hb d_M_print_35 (by decide) (by omega) (fun hw9 => absurd hw9 (by decide)) (fun hw9 => ?_)
    refine lv_iconst (v := nI 0) hx hb d_M_print_38 (by decide +kernel) ?_
    have hoc9 : prC a b = 1 := if_neg h_a
    simp only [hoc9, if_neg (by decide : ¬ (1 : Nat) = 0)] at hret
    exact hret _ _ _ _ _ _ _ (hm) hw d_M_print_39
  refine sw_i (y := nI 1) (by rw [decide_eq_true h_a]; rfl) ?_
  refine n_if_ne (tgt := 12) hx hb d_M_print_5 (by decide) (by omega) (fun hw9 => ?_) (fun hw9 => absurd hw9 (by decide))
  refine lv_iload_n hx hb d_M_print_12 rfl (lv_at hl 2 rfl) ?_
  refine lv_iconst (v := nI 2) hx hb d_M_print_13 (by decide +kernel) ?_
  refine lv_icmp_lt (tgt := 23) hx hb d_M_print_14 (by decide) (fun g2 => ?_) (fun g2 => ?_)
  · refine lv_iconst (v := nI 2) hx hb d_M_print_23 (by decide +kernel) ?_
    refine lv_goto (tgt := 28) hx hb d_M_print_24 (by decide) ?_
    refine wp_Model_code hx hb hC hw bw_817 d_M_print_28 (fun H locs hw => ?_)
    refine lv_aload_n hx hb d_M_print_31 rfl (lv_at hl 0 rfl) ?_
    refine wg_Model_code hx hb hC hw bw_817 d_M_print_32 ?_
    refine sw_i (y := nI 2) (va_up_self _ _ _) ?_
    refine n_if_le (tgt := 40) hx hb d_M_print_35 (by decide) (by omega) (fun hw9 => absurd hw9 (by decide)) (fun hw9 => ?_)
    refine lv_iconst (v := nI 0) hx hb d_M_print_38 (by decide +kernel) ?_
    have hoc9 : prC a b = 2 := by unfold prC; rw [if_pos h_a, if_neg (fun q => absurd g2 (Int32.not_lt.mpr q.1))]
    simp only [hoc9, if_neg (by decide : ¬ (2 : Nat) = 0)] at hret
    exact hret _ _ _ _ _ _ _ (hm) hw d_M_print_39
  refine lv_iload_n hx hb d_M_print_17 rfl (lv_at hl 2 rfl) ?_
  refine lv_bipush (v := nI 36) hx hb d_M_print_18 (by decide +kernel) ?_
  refine lv_icmp_le (tgt := 27) hx hb d_M_print_20 (by decide) (fun g36 => ?_) (fun g36 => ?_)
  rotate_left
  · refine lv_iconst (v := nI 2) hx hb d_M_print_23 (by decide +kernel) ?_
    refine lv_goto (tgt := 28) hx hb d_M_print_24 (by decide) ?_
    refine wp_Model_code hx hb hC hw bw_817 d_M_print_28 (fun H locs hw => ?_)
    refine lv_aload_n hx hb d_M_print_31 rfl (lv_at hl 0 rfl) ?_
    refine wg_Model_code hx hb hC hw bw_817 d_M_print_32 ?_
    refine sw_i (y := nI 2) (va_up_self _ _ _) ?_
    refine n_if_le (tgt := 40) hx hb d_M_print_35 (by decide) (by omega) (fun hw9 => absurd hw9 (by decide)) (fun hw9 => ?_)
    refine lv_iconst (v := nI 0) hx hb d_M_print_38 (by decide +kernel) ?_
    have hoc9 : prC a b = 2 := by unfold prC; rw [if_pos h_a, if_neg (fun q => g36 q.2)]
    simp only [hoc9, if_neg (by decide : ¬ (2 : Nat) = 0)] at hret
    exact hret _ _ _ _ _ _ _ (hm) hw d_M_print_39
  have h_b : isX b := ⟨Int32.not_lt.mp g2, g36⟩
  have hoc9 : prC a b = 0 := by unfold prC; rw [if_pos h_a, if_pos h_b]
  simp only [hoc9, if_pos] at hret
  obtain ⟨k, hk2, hk36, rfl⟩ := isX_of h_b
  obtain ⟨i, hi9, rfl⟩ := isR_of h_a
  rw [rx_nI hk36, rg_nI hi9] at hret
  have hi := hm.1 i hi9
  have hli := hi.1
  have hv := mM_of hli
  have hl : lv_has ls 5 [(0, .ref (wa T 91)), (1, .int (nI i)), (2, .int (nI k))] := hl
  have hD := ndg_le k (z i).natAbs
  have hD0 := ndg_pos k (z i).natAbs
  refine lv_iconst (v := nI 0) hx hb d_M_print_27 (by decide +kernel) ?_
  refine wp_Model_code hx hb hC hw bw_817 d_M_print_28 (fun H locs hw => ?_)
  refine lv_aload_n hx hb d_M_print_31 rfl (lv_at hl 0 rfl) ?_
  refine wg_Model_code hx hb hC hw bw_817 d_M_print_32 ?_
  refine sw_i (y := nI 0) (va_up_self _ _ _) ?_
  refine n_if_le (tgt := 40) hx hb d_M_print_35 (by decide) (by omega) (fun hw9 => ?_) (fun hw9 => absurd hw9 (by decide))
  refine lv_aload_n hx hb d_M_print_40 rfl (lv_at hl 0 rfl) ?_
  refine lv_iload_n hx hb d_M_print_41 rfl (lv_at hl 1 rfl) ?_
  refine lv_bipush (v := nI 12) hx hb d_M_print_42 (by decide +kernel) ?_
  refine wcV_v (As := [.int (nI i), .int (nI 12)]) hx hb hC hw (k_M_move l T F U (va_up (va_up K 16 (nI n9)) 15 (nI 0)) (va_up I 4 (tI tx)) O M Z G i 12 (by omega) (by omega)) lk_M_40 rfl rfl ⟨by show 0 + 1 ≤ R.frames; omega, by show 8 + (4 + 11) + 0 ≤ R.locals; omega⟩ (by omega) (we_Model ) rfl rfl hl.1 rfl (Nat.le_of_ble_eq_true rfl) ⟨Nat.zero_le _, Nat.zero_le _⟩ d_M_print_44 (fun H locs hw => ?_)
  have hm1 : mI z (va_up M 12 (M i)) (va_up Z 12 (Z i)) G := hm.out (by omega) (hm.2 i (by omega))
  have n12 : (va_up M 12 (M i)) 12 = (z i).natAbs := (va_up_self _ _ _).trans hi.2.1
  generalize (va_up M 12 (M i)) = M1 at hw hm1 n12
  generalize (va_up Z 12 (Z i)) = Z1 at hw hm1
  refine lv_aload_n hx hb d_M_print_47 rfl (lv_at hl 0 rfl) ?_
  refine lv_iconst (v := nI 0) hx hb d_M_print_48 (by decide +kernel) ?_
  refine wp_Model_length hx hb hC hw bw_821 d_M_print_49 (fun H locs hw => ?_)
  rw [va_c2 (by decide)] at hw
  have rv : ∀ (n : Nat) (M9 Z9 t0 : Nat → Nat) (z9 q : Nat) (t1 : Nat → Nat) (ls : Array Slot) (H : Heap) (locs : List Loc), n / 2 - q = z9 → q ≤ n / 2 → 0 < n → n ≤ 1200 → n = pL k (z i).natAbs (decide (z i < 0)) → rvT t0 n = prT tx (z i).natAbs k (decide (z i < 0)) → mI z M9 Z9 G → (∀ j, t1 j = if j < n ∧ (j < q ∨ n - 1 - q < j) then t0 (n - 1 - j) else t0 j) → lv_has ls 5 [(3, .int (nI q)), (0, .ref (wa T 91)), (1, .int (nI i)), (2, .int (nI k))] → wH T F U (va_up (va_up K 16 (nI n)) 15 (nI 0)) (gI (va_up I 4 (tI t1)) (dgm M9) Z9 G) O (wA T) s s.heap H locs → W p l e R s m args below meth c H locs 0 0 Q (F0 m 136 ls []) := by
    intro n M9 Z9 t0 z9
    induction z9 with
    | zero =>
      intro q t1 ls H locs hz9 hle hn0 hn12 hpl hpt hm9 ht1 hl hw
      have hl : lv_has ls 5 [(3, .int (nI q)), (0, .ref (wa T 91)), (1, .int (nI i)), (2, .int (nI k))] := hl
      refine lv_iload_n hx hb d_M_print_136 rfl (lv_at hl 0 rfl) ?_
      refine lv_aload_n hx hb d_M_print_137 rfl (lv_at hl 1 rfl) ?_
      refine wg_Model_length hx hb hC hw bw_821 d_M_print_138 ?_
      refine sw_i (y := nI n) (n16) ?_
      refine lv_iconst (v := nI 2) hx hb d_M_print_141 (by decide +kernel) ?_
      refine n_idiv hx hb d_M_print_142 (by omega) (by omega) (by omega) ?_
      refine n_icmp_ge (tgt := 194) hx hb d_M_print_143 (by decide) (by omega) (by omega) (fun h0 => ?_) (fun h0 => ?_)
      · have e1 := rv_end (i := q) (k := n - 1 - q) (by omega) ht1 (by omega)
        rw [e1, hpt] at hw
        refine lv_aload_n hx hb d_M_print_194 rfl (lv_at hl 1 rfl) ?_
        refine wg_Model_length hx hb hC hw bw_821 d_M_print_195 ?_
        refine sw_i (y := nI n) (n16) ?_
        rw [hpl] at hw ⊢
        exact hret _ _ _ _ _ _ _ (hm9) hw d_M_print_198
      · exact absurd h0 (by omega)
    | succ z9 ih =>
      intro q t1 ls H locs hz9 hle hn0 hn12 hpl hpt hm9 ht1 hl hw
      have hl : lv_has ls 5 [(3, .int (nI q)), (0, .ref (wa T 91)), (1, .int (nI i)), (2, .int (nI k))] := hl
      refine lv_iload_n hx hb d_M_print_136 rfl (lv_at hl 0 rfl) ?_
      refine lv_aload_n hx hb d_M_print_137 rfl (lv_at hl 1 rfl) ?_
      refine wg_Model_length hx hb hC hw bw_821 d_M_print_138 ?_
      refine sw_i (y := nI n) (n16) ?_
      refine lv_iconst (v := nI 2) hx hb d_M_print_141 (by decide +kernel) ?_
      refine n_idiv hx hb d_M_print_142 (by omega) (by omega) (by omega) ?_
      refine n_icmp_ge (tgt := 194) hx hb d_M_print_143 (by decide) (by omega) (by omega) (fun h0 => ?_) (fun h0 => ?_)
      · exact absurd h0 (by omega)
      · refine lv_aload_n hx hb d_M_print_146 rfl (lv_at hl 1 rfl) ?_
        refine wg_Model_text hx hb hC hw bw_822 d_M_print_147 ?_
        refine lv_iload_n hx hb d_M_print_150 rfl (lv_at hl 0 rfl) ?_
        refine wl_mtext hx hb hw (by omega) d_M_print_151 ?_
        refine sw_i (y := nI (t1 q)) (rfl) ?_
        refine lv_istore hx hb d_M_print_152 hl (by decide) rfl (fun ls hl => ?_)
        have hl : lv_has ls 5 [(4, .int (nI (t1 q))), (3, .int (nI q)), (0, .ref (wa T 91)), (1, .int (nI i)), (2, .int (nI k))] := hl
        refine lv_aload_n hx hb d_M_print_154 rfl (lv_at hl 2 rfl) ?_
        refine wg_Model_text hx hb hC hw bw_822 d_M_print_155 ?_
        refine lv_iload_n hx hb d_M_print_158 rfl (lv_at hl 1 rfl) ?_
        refine lv_aload_n hx hb d_M_print_159 rfl (lv_at hl 2 rfl) ?_
        refine wg_Model_text hx hb hC hw bw_822 d_M_print_160 ?_
        refine lv_aload_n hx hb d_M_print_163 rfl (lv_at hl 2 rfl) ?_
        refine wg_Model_length hx hb hC hw bw_821 d_M_print_164 ?_
        refine sw_i (y := nI n) (n16) ?_
        refine lv_iconst (v := nI 1) hx hb d_M_print_167 (by decide +kernel) ?_
        refine n_isub hx hb d_M_print_168 (by omega) ?_
        refine lv_iload_n hx hb d_M_print_169 rfl (lv_at hl 1 rfl) ?_
        refine n_isub hx hb d_M_print_170 (by omega) ?_
        refine wl_mtext hx hb hw (by omega) d_M_print_171 ?_
        refine sw_i (y := nI (t1 ((n - 1) - q))) (rfl) ?_
        refine ws_mtext hx hb hw (by omega) d_M_print_172 (fun H locs hw => ?_)
        rw [show (va_up (gI (va_up I 4 (tI t1)) (dgm M9) Z9 G) 4 (upd ((gI (va_up I 4 (tI t1)) (dgm M9) Z9 G) 4) q (nI (t1 ((n - 1) - q))))) = (gI (va_up I 4 (tI (tU t1 q (t1 ((n - 1) - q))))) (dgm M9) Z9 G) from gI_st] at hw
        refine lv_aload_n hx hb d_M_print_173 rfl (lv_at hl 2 rfl) ?_
        refine wg_Model_text hx hb hC hw bw_822 d_M_print_174 ?_
        refine lv_aload_n hx hb d_M_print_177 rfl (lv_at hl 2 rfl) ?_
        refine wg_Model_length hx hb hC hw bw_821 d_M_print_178 ?_
        refine sw_i (y := nI n) (n16) ?_
        refine lv_iconst (v := nI 1) hx hb d_M_print_181 (by decide +kernel) ?_
        refine n_isub hx hb d_M_print_182 (by omega) ?_
        refine lv_iload_n hx hb d_M_print_183 rfl (lv_at hl 1 rfl) ?_
        refine n_isub hx hb d_M_print_184 (by omega) ?_
        refine lv_iload hx hb d_M_print_185 (lv_at hl 0 rfl) ?_
        refine ws_mtext hx hb hw (by omega) d_M_print_187 (fun H locs hw => ?_)
        rw [show (va_up (gI (va_up I 4 (tI (tU t1 q (t1 ((n - 1) - q))))) (dgm M9) Z9 G) 4 (upd ((gI (va_up I 4 (tI (tU t1 q (t1 ((n - 1) - q))))) (dgm M9) Z9 G) 4) ((n - 1) - q) (nI (t1 q)))) = (gI (va_up I 4 (tI (tU (tU t1 q (t1 ((n - 1) - q))) ((n - 1) - q) (t1 q)))) (dgm M9) Z9 G) from gI_st] at hw
        refine lv_iinc (v := nI (q + 1)) hx hb d_M_print_188 hl (k := 1) rfl (nI_add _ 1) (by decide) rfl (fun ls hl => ?_)
        have hl : lv_has ls 5 [(3, .int (nI (q + 1))), (4, .int (nI (t1 q))), (0, .ref (wa T 91)), (1, .int (nI i)), (2, .int (nI k))] := hl
        refine lv_goto (tgt := 136) hx hb d_M_print_191 (by decide) ?_
        have hl := lv_sub hl [0, 2, 3, 4] rfl
        have hl : lv_has ls 5 [(3, .int (nI (q + 1))), (0, .ref (wa T 91)), (1, .int (nI i)), (2, .int (nI k))] := hl
        exact ih (q + 1) (tU (tU t1 q (t1 (n - 1 - q))) (n - 1 - q) (t1 q)) ls _ _ (by omega) (by omega) hn0 hn12 hpl hpt hm9 (fun j => by rw [rv_step (by omega) ht1 (by omega) j, show n - 1 - q - 1 = n - 1 - (q + 1) by omega]) hl hw
  have lp : ∀ (z9 n : Nat) (M9 Z9 t1 : Nat → Nat) (ls : Array Slot) (H : Heap) (locs : List Loc), ndg k (z i).natAbs - n = z9 → n < ndg k (z i).natAbs → mI z M9 Z9 G → M9 12 = (z i).natAbs / k ^ n → (∀ j, t1 j = if j < n then cdN ((z i).natAbs / k ^ j % k) else tx j) → lv_has ls 5 [(0, .ref (wa T 91)), (1, .int (nI i)), (2, .int (nI k))] → wH T F U (va_up (va_up K 16 (nI n)) 15 (nI 0)) (gI (va_up I 4 (tI t1)) (dgm M9) Z9 G) O (wA T) s s.heap H locs → W p l e R s m args below meth c H locs 0 0 Q (F0 m 52 ls []) := by
    intro z9
    induction z9 with
    | zero =>
      intro n M9 Z9 t1 ls H locs hz9 hlt h1 h2 h3 hl hw
      exact absurd hlt (by omega)
    | succ z9 ih =>
      intro n M9 Z9 t1 ls H locs hz9 hlt h1 h2 h3 hl hw
      have hl : lv_has ls 5 [(0, .ref (wa T 91)), (1, .int (nI i)), (2, .int (nI k))] := hl
      have hdl := Nat.mod_lt ((z i).natAbs / k ^ n) (by omega : 0 < k)
      refine lv_aload_n hx hb d_M_print_52 rfl (lv_at hl 0 rfl) ?_
      refine lv_iload_n hx hb d_M_print_53 rfl (lv_at hl 2 rfl) ?_
      refine wcV_i (As := [.int (nI k)]) hx hb hC hw (k_M_shrink l T F U (va_up (va_up K 16 (nI n)) 15 (nI 0)) (va_up I 4 (tI t1)) O M9 Z9 G k ⟨hk2, hk36⟩ (h1.2 12 (by omega))) lk_M_136 rfl rfl ⟨by show 1 + 1 ≤ R.frames; omega, by show 8 + (7 + 11) + 22 ≤ R.locals; omega⟩ (by omega) (we_Model ) rfl rfl hl.1 rfl (Nat.le_of_ble_eq_true rfl) ⟨Nat.zero_le _, Nat.zero_le _⟩ d_M_print_54 (fun H locs hw => ?_)
      refine sw_i (y := nI ((z i).natAbs / k ^ n % k)) (by rw [h2]) ?_
      have e9 : M9 12 / k = (z i).natAbs / k ^ (n + 1) := by rw [h2, Nat.div_div_eq_div_mul, ← Nat.pow_succ]
      rw [e9] at hw
      have ql : (z i).natAbs / k ^ (n + 1) < mM := Nat.lt_of_le_of_lt (Nat.div_le_self _ _) hv
      have hm2 : mI z (va_up M9 12 ((z i).natAbs / k ^ (n + 1))) (va_up Z9 12 (lnM ((z i).natAbs / k ^ (n + 1)))) G := h1.out (by omega) ql
      have n2 : (va_up M9 12 ((z i).natAbs / k ^ (n + 1))) 12 = (z i).natAbs / k ^ (n + 1) := va_up_self _ _ _
      have z2 : (va_up Z9 12 (lnM ((z i).natAbs / k ^ (n + 1)))) 12 = lnM ((z i).natAbs / k ^ (n + 1)) := va_up_self _ _ _
      generalize (va_up M9 12 ((z i).natAbs / k ^ (n + 1))) = M2 at hw hm2 n2
      generalize (va_up Z9 12 (lnM ((z i).natAbs / k ^ (n + 1)))) = Z2 at hw hm2 z2
      refine lv_istore_n hx hb d_M_print_57 rfl hl (by decide) rfl (fun ls hl => ?_)
      have hl : lv_has ls 5 [(3, .int (nI ((z i).natAbs / k ^ n % k))), (0, .ref (wa T 91)), (1, .int (nI i)), (2, .int (nI k))] := hl
      refine lv_aload_n hx hb d_M_print_58 rfl (lv_at hl 1 rfl) ?_
      refine wg_Model_text hx hb hC hw bw_822 d_M_print_59 ?_
      refine lv_aload_n hx hb d_M_print_62 rfl (lv_at hl 1 rfl) ?_
      refine wg_Model_length hx hb hC hw bw_821 d_M_print_63 ?_
      refine sw_i (y := nI n) (n16) ?_
      refine lv_iload_n hx hb d_M_print_66 rfl (lv_at hl 0 rfl) ?_
      refine lv_bipush (v := nI 10) hx hb d_M_print_67 (by decide +kernel) ?_
      refine n_icmp_ge (tgt := 79) hx hb d_M_print_69 (by decide) (by omega) (by omega) (fun h10 => ?_) (fun h10 => ?_)
      · refine lv_bipush (v := nI 87) hx hb d_M_print_79 (by decide +kernel) ?_
        refine lv_iload_n hx hb d_M_print_81 rfl (lv_at hl 0 rfl) ?_
        refine n_iadd hx hb d_M_print_82 ?_
        refine sw_i (y := nI (cdN ((z i).natAbs / k ^ n % k))) (by unfold cdN; rw [if_neg (by omega)]) ?_
        refine ws_mtext hx hb hw (by omega) d_M_print_83 (fun H locs hw => ?_)
        rw [show (va_up (gI (va_up I 4 (tI t1)) (dgm M2) Z2 G) 4 (upd ((gI (va_up I 4 (tI t1)) (dgm M2) Z2 G) 4) n (nI (cdN ((z i).natAbs / k ^ n % k))))) = (gI (va_up I 4 (tI (tU t1 n (cdN ((z i).natAbs / k ^ n % k))))) (dgm M2) Z2 G) from gI_st] at hw
        have h4 := wr_step h3
        refine lv_aload_n hx hb d_M_print_84 rfl (lv_at hl 1 rfl) ?_
        refine lv_dup hx hb d_M_print_85 rfl ?_
        refine wg_Model_length hx hb hC hw bw_821 d_M_print_86 ?_
        refine sw_i (y := nI n) (n16) ?_
        refine lv_iconst (v := nI 1) hx hb d_M_print_89 (by decide +kernel) ?_
        refine n_iadd hx hb d_M_print_90 ?_
        refine wp_Model_length hx hb hC hw bw_821 d_M_print_91 (fun H locs hw => ?_)
        rw [va_c2 (by decide)] at hw
        generalize (tU t1 n (cdN ((z i).natAbs / k ^ n % k))) = t2 at *
        have ll := lnM_le ((z i).natAbs / k ^ (n + 1))
        have lz := lnM_z ql
        refine lv_aload_n hx hb d_M_print_94 rfl (lv_at hl 1 rfl) ?_
        refine wg_Model_size hx hb hC hw bw_819 d_M_print_95 ?_
        refine lv_bipush (v := nI 12) hx hb d_M_print_98 (by decide +kernel) ?_
        refine wl_msize hx hb hw (by omega) d_M_print_100 ?_
        refine sw_i (y := nI (lnM ((z i).natAbs / k ^ (n + 1)))) (congrArg nI z2) ?_
        refine n_if_gt (tgt := 52) hx hb d_M_print_101 (by decide) (by omega) (fun h11 => ?_) (fun h11 => ?_)
        · have hne : (z i).natAbs / k ^ (n + 1) ≠ 0 := fun q => by rw [lz.mpr q] at h11; omega
          have hl2 : n + 1 < ndg k (z i).natAbs := Nat.lt_of_not_le (fun q => hne (ndg_up hk2 hli q))
          have hl := lv_sub hl [1, 2, 3] rfl
          have hl : lv_has ls 5 [(0, .ref (wa T 91)), (1, .int (nI i)), (2, .int (nI k))] := hl
          exact ih (n + 1) M2 Z2 t2 ls _ _ (by omega) hl2 hm2 n2 h4 hl hw
        · have hz : (z i).natAbs / k ^ (n + 1) = 0 := lz.mp h11
          have hnd : ndg k (z i).natAbs = n + 1 := by
                      rcases Nat.lt_or_ge (n + 1) (ndg k (z i).natAbs) with q | q
                      · exact absurd hz (ndg_lo hk2 (by omega) q)
                      · omega
          refine lv_aload_n hx hb d_M_print_104 rfl (lv_at hl 1 rfl) ?_
          refine wg_Model_sign hx hb hC hw bw_820 d_M_print_105 ?_
          refine lv_iload_n hx hb d_M_print_108 rfl (lv_at hl 2 rfl) ?_
          refine wl_msign hx hb hw (by omega) d_M_print_109 ?_
          refine sw_i (y := (G i)) (rfl) ?_
          refine sw_i (y := (sgnI (z i))) ((hm2.1 i hi9).2.2.2) ?_
          refine lv_if_ge (tgt := 134) hx hb d_M_print_110 (by decide) (fun hs => ?_) (fun hs => ?_)
          · have hneg : decide (z i < 0) = false := decide_eq_false (fun q => absurd (sg_lt.mpr q) (Int32.not_lt.mpr hs))
            rw [← hnd] at h4
            have hpf := pr_f h4
            rw [hnd] at hpf
            refine lv_iconst (v := nI 0) hx hb d_M_print_134 (by decide +kernel) ?_
            refine lv_istore_n hx hb d_M_print_135 rfl hl (by decide) rfl (fun ls hl => ?_)
            have hl : lv_has ls 5 [(3, .int (nI 0)), (0, .ref (wa T 91)), (1, .int (nI i)), (2, .int (nI k))] := hl
            exact rv (n + 1) M2 Z2 t2 ((n + 1) / 2) 0 t2 ls _ _ (by omega) (by omega) (by omega) (by omega) (by rw [hneg]; unfold pL; rw [hnd]; rfl) (by rw [hneg]; exact hpf) hm2 (fun j => by rw [if_neg (by omega)]) hl hw
          · have hneg : decide (z i < 0) = true := decide_eq_true (sg_lt.mp (Int32.not_le.mp hs))
            rw [← hnd] at h4
            have hpt := pr_t h4
            rw [hnd] at hpt
            refine lv_aload_n hx hb d_M_print_113 rfl (lv_at hl 1 rfl) ?_
            refine wg_Model_text hx hb hC hw bw_822 d_M_print_114 ?_
            refine lv_aload_n hx hb d_M_print_117 rfl (lv_at hl 1 rfl) ?_
            refine wg_Model_length hx hb hC hw bw_821 d_M_print_118 ?_
            refine sw_i (y := nI (n + 1)) (n16) ?_
            refine lv_bipush (v := nI 45) hx hb d_M_print_121 (by decide +kernel) ?_
            refine ws_mtext hx hb hw (by omega) d_M_print_123 (fun H locs hw => ?_)
            rw [show (va_up (gI (va_up I 4 (tI t2)) (dgm M2) Z2 G) 4 (upd ((gI (va_up I 4 (tI t2)) (dgm M2) Z2 G) 4) (n + 1) (nI 45))) = (gI (va_up I 4 (tI (tU t2 (n + 1) 45))) (dgm M2) Z2 G) from gI_st] at hw
            refine lv_aload_n hx hb d_M_print_124 rfl (lv_at hl 1 rfl) ?_
            refine lv_dup hx hb d_M_print_125 rfl ?_
            refine wg_Model_length hx hb hC hw bw_821 d_M_print_126 ?_
            refine sw_i (y := nI (n + 1)) (n16) ?_
            refine lv_iconst (v := nI 1) hx hb d_M_print_129 (by decide +kernel) ?_
            refine n_iadd hx hb d_M_print_130 ?_
            refine wp_Model_length hx hb hC hw bw_821 d_M_print_131 (fun H locs hw => ?_)
            rw [va_c2 (by decide)] at hw
            refine lv_iconst (v := nI 0) hx hb d_M_print_134 (by decide +kernel) ?_
            refine lv_istore_n hx hb d_M_print_135 rfl hl (by decide) rfl (fun ls hl => ?_)
            have hl : lv_has ls 5 [(3, .int (nI 0)), (0, .ref (wa T 91)), (1, .int (nI i)), (2, .int (nI k))] := hl
            exact rv (n + 1 + 1) M2 Z2 (tU t2 (n + 1) 45) ((n + 1 + 1) / 2) 0 (tU t2 (n + 1) 45) ls _ _ (by omega) (by omega) (by omega) (by omega) (by rw [hneg]; unfold pL; rw [hnd]; rfl) (by rw [hneg]; exact hpt) hm2 (fun j => by rw [if_neg (by omega)]) hl hw
      · refine lv_bipush (v := nI 48) hx hb d_M_print_72 (by decide +kernel) ?_
        refine lv_iload_n hx hb d_M_print_74 rfl (lv_at hl 0 rfl) ?_
        refine n_iadd hx hb d_M_print_75 ?_
        refine lv_goto (tgt := 83) hx hb d_M_print_76 (by decide) ?_
        refine sw_i (y := nI (cdN ((z i).natAbs / k ^ n % k))) (by unfold cdN; rw [if_pos h10]) ?_
        refine ws_mtext hx hb hw (by omega) d_M_print_83 (fun H locs hw => ?_)
        rw [show (va_up (gI (va_up I 4 (tI t1)) (dgm M2) Z2 G) 4 (upd ((gI (va_up I 4 (tI t1)) (dgm M2) Z2 G) 4) n (nI (cdN ((z i).natAbs / k ^ n % k))))) = (gI (va_up I 4 (tI (tU t1 n (cdN ((z i).natAbs / k ^ n % k))))) (dgm M2) Z2 G) from gI_st] at hw
        have h4 := wr_step h3
        refine lv_aload_n hx hb d_M_print_84 rfl (lv_at hl 1 rfl) ?_
        refine lv_dup hx hb d_M_print_85 rfl ?_
        refine wg_Model_length hx hb hC hw bw_821 d_M_print_86 ?_
        refine sw_i (y := nI n) (n16) ?_
        refine lv_iconst (v := nI 1) hx hb d_M_print_89 (by decide +kernel) ?_
        refine n_iadd hx hb d_M_print_90 ?_
        refine wp_Model_length hx hb hC hw bw_821 d_M_print_91 (fun H locs hw => ?_)
        rw [va_c2 (by decide)] at hw
        generalize (tU t1 n (cdN ((z i).natAbs / k ^ n % k))) = t2 at *
        have ll := lnM_le ((z i).natAbs / k ^ (n + 1))
        have lz := lnM_z ql
        refine lv_aload_n hx hb d_M_print_94 rfl (lv_at hl 1 rfl) ?_
        refine wg_Model_size hx hb hC hw bw_819 d_M_print_95 ?_
        refine lv_bipush (v := nI 12) hx hb d_M_print_98 (by decide +kernel) ?_
        refine wl_msize hx hb hw (by omega) d_M_print_100 ?_
        refine sw_i (y := nI (lnM ((z i).natAbs / k ^ (n + 1)))) (congrArg nI z2) ?_
        refine n_if_gt (tgt := 52) hx hb d_M_print_101 (by decide) (by omega) (fun h11 => ?_) (fun h11 => ?_)
        · have hne : (z i).natAbs / k ^ (n + 1) ≠ 0 := fun q => by rw [lz.mpr q] at h11; omega
          have hl2 : n + 1 < ndg k (z i).natAbs := Nat.lt_of_not_le (fun q => hne (ndg_up hk2 hli q))
          have hl := lv_sub hl [1, 2, 3] rfl
          have hl : lv_has ls 5 [(0, .ref (wa T 91)), (1, .int (nI i)), (2, .int (nI k))] := hl
          exact ih (n + 1) M2 Z2 t2 ls _ _ (by omega) hl2 hm2 n2 h4 hl hw
        · have hz : (z i).natAbs / k ^ (n + 1) = 0 := lz.mp h11
          have hnd : ndg k (z i).natAbs = n + 1 := by
                      rcases Nat.lt_or_ge (n + 1) (ndg k (z i).natAbs) with q | q
                      · exact absurd hz (ndg_lo hk2 (by omega) q)
                      · omega
          refine lv_aload_n hx hb d_M_print_104 rfl (lv_at hl 1 rfl) ?_
          refine wg_Model_sign hx hb hC hw bw_820 d_M_print_105 ?_
          refine lv_iload_n hx hb d_M_print_108 rfl (lv_at hl 2 rfl) ?_
          refine wl_msign hx hb hw (by omega) d_M_print_109 ?_
          refine sw_i (y := (G i)) (rfl) ?_
          refine sw_i (y := (sgnI (z i))) ((hm2.1 i hi9).2.2.2) ?_
          refine lv_if_ge (tgt := 134) hx hb d_M_print_110 (by decide) (fun hs => ?_) (fun hs => ?_)
          · have hneg : decide (z i < 0) = false := decide_eq_false (fun q => absurd (sg_lt.mpr q) (Int32.not_lt.mpr hs))
            rw [← hnd] at h4
            have hpf := pr_f h4
            rw [hnd] at hpf
            refine lv_iconst (v := nI 0) hx hb d_M_print_134 (by decide +kernel) ?_
            refine lv_istore_n hx hb d_M_print_135 rfl hl (by decide) rfl (fun ls hl => ?_)
            have hl : lv_has ls 5 [(3, .int (nI 0)), (0, .ref (wa T 91)), (1, .int (nI i)), (2, .int (nI k))] := hl
            exact rv (n + 1) M2 Z2 t2 ((n + 1) / 2) 0 t2 ls _ _ (by omega) (by omega) (by omega) (by omega) (by rw [hneg]; unfold pL; rw [hnd]; rfl) (by rw [hneg]; exact hpf) hm2 (fun j => by rw [if_neg (by omega)]) hl hw
          · have hneg : decide (z i < 0) = true := decide_eq_true (sg_lt.mp (Int32.not_le.mp hs))
            rw [← hnd] at h4
            have hpt := pr_t h4
            rw [hnd] at hpt
            refine lv_aload_n hx hb d_M_print_113 rfl (lv_at hl 1 rfl) ?_
            refine wg_Model_text hx hb hC hw bw_822 d_M_print_114 ?_
            refine lv_aload_n hx hb d_M_print_117 rfl (lv_at hl 1 rfl) ?_
            refine wg_Model_length hx hb hC hw bw_821 d_M_print_118 ?_
            refine sw_i (y := nI (n + 1)) (n16) ?_
            refine lv_bipush (v := nI 45) hx hb d_M_print_121 (by decide +kernel) ?_
            refine ws_mtext hx hb hw (by omega) d_M_print_123 (fun H locs hw => ?_)
            rw [show (va_up (gI (va_up I 4 (tI t2)) (dgm M2) Z2 G) 4 (upd ((gI (va_up I 4 (tI t2)) (dgm M2) Z2 G) 4) (n + 1) (nI 45))) = (gI (va_up I 4 (tI (tU t2 (n + 1) 45))) (dgm M2) Z2 G) from gI_st] at hw
            refine lv_aload_n hx hb d_M_print_124 rfl (lv_at hl 1 rfl) ?_
            refine lv_dup hx hb d_M_print_125 rfl ?_
            refine wg_Model_length hx hb hC hw bw_821 d_M_print_126 ?_
            refine sw_i (y := nI (n + 1)) (n16) ?_
            refine lv_iconst (v := nI 1) hx hb d_M_print_129 (by decide +kernel) ?_
            refine n_iadd hx hb d_M_print_130 ?_
            refine wp_Model_length hx hb hC hw bw_821 d_M_print_131 (fun H locs hw => ?_)
            rw [va_c2 (by decide)] at hw
            refine lv_iconst (v := nI 0) hx hb d_M_print_134 (by decide +kernel) ?_
            refine lv_istore_n hx hb d_M_print_135 rfl hl (by decide) rfl (fun ls hl => ?_)
            have hl : lv_has ls 5 [(3, .int (nI 0)), (0, .ref (wa T 91)), (1, .int (nI i)), (2, .int (nI k))] := hl
            exact rv (n + 1 + 1) M2 Z2 (tU t2 (n + 1) 45) ((n + 1 + 1) / 2) 0 (tU t2 (n + 1) 45) ls _ _ (by omega) (by omega) (by omega) (by omega) (by rw [hneg]; unfold pL; rw [hnd]; rfl) (by rw [hneg]; exact hpt) hm2 (fun j => by rw [if_neg (by omega)]) hl hw
  exact lp (ndg k (z i).natAbs) 0 M1 Z1 tx ls _ _ (by omega) hD0 hm1 (by rw [n12, Nat.pow_zero, Nat.div_one]) (fun j => by rw [if_neg (by omega)]) hl hw
