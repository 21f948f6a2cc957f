/-! the model: compare, bits, bit, low, character, wipe, thrown, digit, grow, shrink -/
theorem cm_n {x y : Int} (h : x < y) : cmpI x y = -1 := if_pos h
theorem cm_z {x y : Int} (h : x = y) : cmpI x y = nI 0 := by unfold cmpI; rw [if_neg (by omega), if_pos h]; rfl
theorem cm_p {x y : Int} (h : y < x) : cmpI x y = nI 1 := by unfold cmpI; rw [if_neg (by omega), if_neg (by omega)]; rfl
theorem cm_same {x y : Int} (h : sgnI x = sgnI y) : sgnI x * cmp3 x.natAbs y.natAbs = cmpI x y := by
  rcases sg_3 x with a | a | a <;> rcases sg_3 y with b | b | b
  · rw [sg_n a]
    rcases Int.lt_trichotomy x y with q | q | q
    · rw [cmp3_gt (by omega), cm_n q]; decide +kernel
    · rw [cmp3_eq (by omega), cm_z q]; decide +kernel
    · rw [cmp3_lt (by omega), cm_p q]; decide +kernel
  · rw [sg_n a, sg_z b] at h; exact absurd h (by decide +kernel)
  · rw [sg_n a, sg_p b] at h; exact absurd h (by decide +kernel)
  · rw [sg_z a, sg_n b] at h; exact absurd h (by decide +kernel)
  · rw [sg_z a, cmp3_eq (by omega), cm_z (by omega)]; decide +kernel
  · rw [sg_z a, sg_p b] at h; exact absurd h (by decide +kernel)
  · rw [sg_p a, sg_n b] at h; exact absurd h (by decide +kernel)
  · rw [sg_p a, sg_z b] at h; exact absurd h (by decide +kernel)
  · rw [sg_p a]
    rcases Int.lt_trichotomy x y with q | q | q
    · rw [cmp3_lt (by omega), cm_n q]; decide +kernel
    · rw [cmp3_eq (by omega), cm_z q]; decide +kernel
    · rw [cmp3_gt (by omega), cm_p q]; decide +kernel
theorem cm_ge {x y : Int} (h : sgnI x ≠ sgnI y) (h2 : sgnI y ≤ sgnI x) : cmpI x y = nI 1 := by
  rcases sg_3 x with a | a | a <;> rcases sg_3 y with b | b | b
  · exact absurd (by rw [sg_n a, sg_n b]) h
  · rw [sg_n a, sg_z b] at h2; exact absurd h2 (by decide +kernel)
  · rw [sg_n a, sg_p b] at h2; exact absurd h2 (by decide +kernel)
  · exact cm_p (by omega)
  · exact absurd (by rw [sg_z a, sg_z b]) h
  · rw [sg_z a, sg_p b] at h2; exact absurd h2 (by decide +kernel)
  · exact cm_p (by omega)
  · exact cm_p (by omega)
  · exact absurd (by rw [sg_p a, sg_p b]) h
theorem cm_lt {x y : Int} (h : sgnI x ≠ sgnI y) (h2 : ¬ sgnI y ≤ sgnI x) : cmpI x y = -1 := by
  rcases sg_3 x with a | a | a <;> rcases sg_3 y with b | b | b
  · exact absurd (by rw [sg_n a, sg_n b]) h
  · exact cm_n (by omega)
  · exact cm_n (by omega)
  · rw [sg_z a, sg_n b] at h2; exact absurd (by decide +kernel) h2
  · exact absurd (by rw [sg_z a, sg_z b]) h
  · exact cm_n (by omega)
  · rw [sg_p a, sg_n b] at h2; exact absurd (by decide +kernel) h2
  · rw [sg_p a, sg_z b] at h2; exact absurd (by decide +kernel) h2
  · exact absurd (by rw [sg_p a, sg_p b]) h
theorem bt_neg {v k : Nat} (hv : 0 < v) : (!(v - 1).testBit k) = (v.testBit k != decide (v % 2 ^ k ≠ 0)) := by
  rw [tb_iff, tb_iff]
  have hp := Nat.two_pow_pos k
  have h1 := Nat.div_add_mod v (2 ^ k)
  have h2 := Nat.mod_lt v hp
  by_cases h : v % 2 ^ k = 0
  · have hq : 0 < v / 2 ^ k := by
      apply Nat.pos_of_ne_zero; intro q
      rw [q, Nat.mul_zero, h] at h1; omega
    have e : (v - 1) / 2 ^ k = v / 2 ^ k - 1 := by
      obtain ⟨q, hq2⟩ : ∃ q, v / 2 ^ k = q + 1 := ⟨v / 2 ^ k - 1, by omega⟩
      rw [hq2] at h1 ⊢
      rw [h, Nat.mul_add, Nat.mul_one] at h1
      have e2 : v - 1 = (2 ^ k - 1) + 2 ^ k * q := by omega
      rw [e2, Nat.add_mul_div_left _ _ hp, Nat.div_eq_of_lt (by omega)]; omega
    rw [e, decide_eq_false (by omega : ¬ v % 2 ^ k ≠ 0)]
    generalize v / 2 ^ k = q at *
    by_cases h3 : q % 2 = 1
    · rw [decide_eq_true h3, decide_eq_false (by omega)]; rfl
    · rw [decide_eq_false h3, decide_eq_true (by omega)]; rfl
  · have e : (v - 1) / 2 ^ k = v / 2 ^ k := by
      have e2 : v - 1 = (v % 2 ^ k - 1) + 2 ^ k * (v / 2 ^ k) := by omega
      rw [e2, Nat.add_mul_div_left _ _ hp, Nat.div_eq_of_lt (by omega), Nat.zero_add]
    rw [e, decide_eq_true (show v % 2 ^ k ≠ 0 from h)]
    cases decide (v / 2 ^ k % 2 = 1) <;> rfl
theorem lo_step {A d i : Nat} (hA : A < 2 ^ (20 * i)) (hd : d < 1048576) (hi : i < 4) : lN A ||| (lN d <<< ((nI (20 * i)).toInt64 &&& 63)) = lN (A + d * 2 ^ (20 * i)) := by
  rw [wb_shl d (by omega)]
  by_cases h : i < 3
  · have h1 : A + d * 2 ^ (20 * i) < 2 ^ (20 * (i + 1)) := by
      have e : 2 ^ (20 * (i + 1)) = 1048576 * 2 ^ (20 * i) := by rw [Nat.mul_add, Nat.pow_add, Nat.mul_comm]
      have : (d + 1) * 2 ^ (20 * i) ≤ 1048576 * 2 ^ (20 * i) := Nat.mul_le_mul_right _ hd
      rw [Nat.add_mul, Nat.one_mul] at this; omega
    have h2 : 2 ^ (20 * (i + 1)) ≤ 2 ^ 64 := Nat.pow_le_pow_right (by decide) (by omega)
    exact g_or' rfl hA (by omega)
  · have e3 : i = 3 := by omega
    subst e3
    have e4 : lN (d * 2 ^ (20 * 3)) = lN (d % 16 * 2 ^ (20 * 3)) := by
      rw [wb_mod, wb_mod (d % 16 * 2 ^ (20 * 3))]; exact congrArg lN (by omega)
    have e5 : lN (A + d * 2 ^ (20 * 3)) = lN (A + d % 16 * 2 ^ (20 * 3)) := by
      rw [wb_mod, wb_mod (A + d % 16 * 2 ^ (20 * 3))]; exact congrArg lN (by omega)
    rw [e4, e5]
    exact g_or' rfl hA (by omega)
theorem lo_end (v : Nat) : lN (v % 2 ^ (20 * 4)) = lN v := by rw [wb_mod, wb_mod v]; exact congrArg lN (by omega)
theorem lo_mod (v i : Nat) : v % 2 ^ (20 * (i + 1)) = v % 2 ^ (20 * i) + dg v i * 2 ^ (20 * i) := by
  rw [← b20_two, ← b20_two, mod_s, Nat.mul_comm]
/-! a digit comes behind, or leaves -/
def cyG (v b n i : Nat) : Nat := (v % b20 ^ i * b + n) / b20 ^ i
theorem cyG_0 (v b n : Nat) : cyG v b n 0 = n := by unfold cyG; rw [Nat.pow_zero, Nat.mod_one, Nat.zero_mul, Nat.zero_add, Nat.div_one]
theorem cyG_le {v b n i : Nat} (hb : b ≤ 36) (hn : n ≤ 99) : cyG v b n i ≤ 200 := by
  unfold cyG
  have hp := b20_pp i
  have h1 : v % b20 ^ i * b ≤ b20 ^ i * 36 := Nat.mul_le_mul (Nat.le_of_lt (Nat.mod_lt _ hp)) hb
  have h2 : (v % b20 ^ i * b + n) / b20 ^ i < 201 := Nat.div_lt_of_lt_mul (by
    have : b20 ^ i * 99 ≥ 99 := by have := Nat.mul_le_mul_right 99 hp; omega
    omega)
  omega
theorem dg_grow (v b n i : Nat) : dg (v * b + n) i = (dg v i * b + cyG v b n i) % 1048576 := by
  unfold dg cyG
  have hp := b20_pp i
  generalize b20 ^ i = P at *
  have h1 : v * b + n = (v % P * b + n) + P * (v / P * b) := by
    conv => lhs; rw [← Nat.mod_add_div v P]
    rw [Nat.add_mul, Nat.mul_assoc]; omega
  rw [h1, Nat.add_mul_div_left _ _ hp]
  show _ % b20 = _ % b20
  rw [Nat.add_comm, Nat.add_mod, ← Nat.mod_mul_mod, ← Nat.add_mod]
theorem cyG_s (v b n i : Nat) : cyG v b n (i + 1) = (dg v i * b + cyG v b n i) / 1048576 := by
  unfold cyG
  rw [mod_s, Nat.pow_succ, ← Nat.div_div_eq_div_mul]
  have hp := b20_pp i
  have e : (v % b20 ^ i + b20 ^ i * dg v i) * b + n = (v % b20 ^ i * b + n) + b20 ^ i * (dg v i * b) := by rw [Nat.add_mul, Nat.mul_assoc]; omega
  rw [e, Nat.add_mul_div_left _ _ hp, Nat.add_comm]; rfl
theorem sk_q (v b r : Nat) (hb : 0 < b) : (v / b20 ^ (r + 1) % b * 1048576 + dg v r) / b = dg (v / b) r := by
  unfold dg
  have e : v / b20 ^ (r + 1) = v / b20 ^ r / b20 := by rw [Nat.pow_succ, Nat.div_div_eq_div_mul]
  show (v / b20 ^ (r + 1) % b * b20 + v / b20 ^ r % b20) / b = _
  rw [e, (pd_a hb b20_pos).1, Nat.div_div_eq_div_mul, Nat.div_div_eq_div_mul, Nat.mul_comm]
theorem sk_r (v b r : Nat) (hb : 0 < b) : (v / b20 ^ (r + 1) % b * 1048576 + dg v r) % b = v / b20 ^ r % b := by
  unfold dg
  have e : v / b20 ^ (r + 1) = v / b20 ^ r / b20 := by rw [Nat.pow_succ, Nat.div_div_eq_div_mul]
  show (v / b20 ^ (r + 1) % b * b20 + v / b20 ^ r % b20) % b = _
  rw [e, (pd_a hb b20_pos).2]
theorem mx_dn (f g : Nat → Nat) (r : Nat) : va_up (mx f g (r + 1)) r (g r) = mx f g r := funext fun j => by
  rw [va_va]; unfold mx
  by_cases h : j = r
  · subst h; rw [if_pos rfl, if_neg (by omega)]
  · rw [if_neg h]
    by_cases h2 : j < r
    · rw [if_pos h2, if_pos (by omega)]
    · rw [if_neg h2, if_neg (by omega)]
theorem mx_sd {D : Nat → Nat → Nat} {f g : Nat → Nat} {t r x : Nat} (hx : x = g r) : va_up (va_up D t (mx f g (r + 1))) t (va_up ((va_up D t (mx f g (r + 1))) t) r x) = va_up D t (mx f g r) := by
  rw [va_v2, va_up_self, hx, mx_dn]

set_option maxRecDepth 100000 in
set_option maxHeartbeats 4000000 in
theorem k_M_compare (l : Launch) (T : wT) (F : wFt) (U K : wUt) (I : wIt) (O : wOt) (M Z : Nat → Nat) (G : Nat → Int32) (z : Nat → Int) (hm : mI z M Z G) (a b : Int32) : Met l y_M_compare (.code y_M_compare c_M_compare 3 (some .int) :: bg) ({ frames := 2, cells := 0, slots := 0, locals := 43 } : Room) (mP T F U K (gI I (dgm M) Z G) O [.ref (wa T 91), .int a, .int b]) (mQiM T (if ocG (isR a ∧ isR b) 0 = 0 then cmpI (z (rg a)) (z (rg b)) else nI 0) (mI z) F U (va_up K 15 (nI (ocG (isR a ∧ isR b) 0))) I O) 0 0 (wA T) := by
  refine wM_iM (by decide) (Nat.le_of_ble_eq_true rfl) ?_
  intro p e R s m args below meth c Q ls hx hb hC hRf hRl hret hl hw
  have hRf : 2 ≤ R.frames := hRf
  have hRl : 43 ≤ R.locals := hRl
  have hl : lv_has ls 3 [(0, .ref (wa T 91)), (1, .int a), (2, .int b)] := hl
  refine lv_aload_n hx hb d_M_compare_0 rfl (lv_at hl 0 rfl) ?_
  refine lv_iload_n hx hb d_M_compare_1 rfl (lv_at hl 1 rfl) ?_
  refine lv_iload_n hx hb d_M_compare_2 rfl (lv_at hl 2 rfl) ?_
  refine lv_iload_n hx hb d_M_compare_3 rfl (lv_at hl 2 rfl) ?_
  refine wcV_z (As := [.int a, .int b, .int b]) hx hb hC hw (k_M_three l T F U K (gI I (dgm M) Z G) O a b b) lk_M_76 rfl rfl ⟨by show 1 + 1 ≤ R.frames; omega, by show 8 + (4 + 11) + 20 ≤ R.locals; omega⟩ (by omega) (we_Model ) rfl rfl hl.1 rfl (Nat.le_of_ble_eq_true rfl) ⟨Nat.zero_le _, Nat.zero_le _⟩ d_M_compare_4 (fun H locs hw => ?_)
  by_cases hg : isR a ∧ isR b ∧ isR b
  rotate_left
  · refine sw_i (y := nI 0) (by rw [decide_eq_false hg]; rfl) ?_
    refine n_if_ne (tgt := 12) hx hb d_M_compare_7 (by decide) (by omega) (fun hw9 => absurd hw9 (by decide)) (fun hw9 => ?_)
    refine lv_iconst (v := nI 0) hx hb d_M_compare_10 (by decide +kernel) ?_
    rw [ocG_1 hg] at hw
    rw [ocG_1 (fun q => hg ⟨q.1, q.2, q.2⟩), if_neg (by decide)] at hret
    exact hret _ _ _ _ _ _ _ (hm) hw d_M_compare_11
  refine sw_i (y := nI 1) (by rw [decide_eq_true hg]; rfl) ?_
  rw [ocG_k hg] at hw
  obtain ⟨i, hi9, rfl⟩ := isR_of hg.1
  obtain ⟨j, hj9, rfl⟩ := isR_of hg.2.1
  have hl : lv_has ls 3 [(0, .ref (wa T 91)), (1, .int (nI i)), (2, .int (nI j))] := hl
  refine n_if_ne (tgt := 12) hx hb d_M_compare_7 (by decide) (by omega) (fun hw9 => ?_) (fun hw9 => absurd hw9 (by decide))
  rw [ocG_k ⟨hg.1, hg.2.1⟩, if_pos rfl, rg_nI hi9, rg_nI hj9] at hret
  have hi := hm.1 i hi9
  have hj := hm.1 j hj9
  refine lv_aload_n hx hb d_M_compare_12 rfl (lv_at hl 0 rfl) ?_
  refine wg_Model_sign hx hb hC hw bw_820 d_M_compare_13 ?_
  refine lv_iload_n hx hb d_M_compare_16 rfl (lv_at hl 1 rfl) ?_
  refine wl_msign hx hb hw (by omega) d_M_compare_17 ?_
  refine sw_i (y := (G i)) (rfl) ?_
  refine sw_i (y := (sgnI (z i))) (hi.2.2.2) ?_
  refine lv_aload_n hx hb d_M_compare_18 rfl (lv_at hl 0 rfl) ?_
  refine wg_Model_sign hx hb hC hw bw_820 d_M_compare_19 ?_
  refine lv_iload_n hx hb d_M_compare_22 rfl (lv_at hl 2 rfl) ?_
  refine wl_msign hx hb hw (by omega) d_M_compare_23 ?_
  refine sw_i (y := (G j)) (rfl) ?_
  refine sw_i (y := (sgnI (z j))) (hj.2.2.2) ?_
  refine lv_icmp_eq (tgt := 48) hx hb d_M_compare_24 (by decide) (fun h0 => ?_) (fun h0 => ?_)
  · refine lv_aload_n hx hb d_M_compare_48 rfl (lv_at hl 0 rfl) ?_
    refine wg_Model_sign hx hb hC hw bw_820 d_M_compare_49 ?_
    refine lv_iload_n hx hb d_M_compare_52 rfl (lv_at hl 1 rfl) ?_
    refine wl_msign hx hb hw (by omega) d_M_compare_53 ?_
    refine sw_i (y := (G i)) (rfl) ?_
    refine sw_i (y := (sgnI (z i))) (hi.2.2.2) ?_
    refine lv_aload_n hx hb d_M_compare_54 rfl (lv_at hl 0 rfl) ?_
    refine lv_iload_n hx hb d_M_compare_55 rfl (lv_at hl 1 rfl) ?_
    refine lv_iload_n hx hb d_M_compare_56 rfl (lv_at hl 2 rfl) ?_
    refine wcV_i (As := [.int (nI i), .int (nI j)]) hx hb hC hw (k_M_order l T F U (va_up K 15 (nI 0)) I O M Z G i j (by omega) (by omega) hi.2.2.1 hj.2.2.1 (hm.2 i (by omega)) (hm.2 j (by omega))) lk_M_79 rfl rfl ⟨by show 0 + 1 ≤ R.frames; omega, by show 8 + (6 + 11) + 0 ≤ R.locals; omega⟩ (by omega) (we_Model ) rfl rfl hl.1 rfl (Nat.le_of_ble_eq_true rfl) ⟨Nat.zero_le _, Nat.zero_le _⟩ d_M_compare_57 (fun H locs hw => ?_)
    refine lv_imul hx hb d_M_compare_60 ?_
    refine sw_i (y := (cmpI (z i) (z j))) (by rw [hi.2.1, hj.2.1]; exact cm_same h0) ?_
    exact hret _ _ _ _ _ _ _ (hm) hw d_M_compare_61
  · refine lv_aload_n hx hb d_M_compare_27 rfl (lv_at hl 0 rfl) ?_
    refine wg_Model_sign hx hb hC hw bw_820 d_M_compare_28 ?_
    refine lv_iload_n hx hb d_M_compare_31 rfl (lv_at hl 1 rfl) ?_
    refine wl_msign hx hb hw (by omega) d_M_compare_32 ?_
    refine sw_i (y := (G i)) (rfl) ?_
    refine sw_i (y := (sgnI (z i))) (hi.2.2.2) ?_
    refine lv_aload_n hx hb d_M_compare_33 rfl (lv_at hl 0 rfl) ?_
    refine wg_Model_sign hx hb hC hw bw_820 d_M_compare_34 ?_
    refine lv_iload_n hx hb d_M_compare_37 rfl (lv_at hl 2 rfl) ?_
    refine wl_msign hx hb hw (by omega) d_M_compare_38 ?_
    refine sw_i (y := (G j)) (rfl) ?_
    refine sw_i (y := (sgnI (z j))) (hj.2.2.2) ?_
    refine lv_icmp_ge (tgt := 46) hx hb d_M_compare_39 (by decide) (fun h1 => ?_) (fun h1 => ?_)
    · refine lv_iconst (v := nI 1) hx hb d_M_compare_46 (by decide +kernel) ?_
      rw [cm_ge h0 h1] at hret
      exact hret _ _ _ _ _ _ _ (hm) hw d_M_compare_47
    · refine lv_iconst (v := (-1)) hx hb d_M_compare_42 (by decide +kernel) ?_
      refine lv_goto (tgt := 47) hx hb d_M_compare_43 (by decide) ?_
      rw [cm_lt h0 h1] at hret
      exact hret _ _ _ _ _ _ _ (hm) hw d_M_compare_47
set_option maxRecDepth 100000 in
set_option maxHeartbeats 4000000 in
theorem k_M_bits (l : Launch) (T : wT) (F : wFt) (U K : wUt) (I : wIt) (O : wOt) (M Z : Nat → Nat) (G : Nat → Int32) (z : Nat → Int) (hm : mI z M Z G) (a : Int32) : Met l y_M_bits (.code y_M_bits c_M_bits 2 (some .int) :: bg) ({ frames := 1, cells := 0, slots := 0, locals := 23 } : Room) (mP T F U K (gI I (dgm M) Z G) O [.ref (wa T 91), .int a]) (mQiM T (if ocG (isR a) 0 = 0 then nI (bl (z (rg a)).natAbs) else nI 0) (mI z) F U (va_up K 15 (nI (ocG (isR a) 0))) I O) 0 0 (wA T) := by
  refine wM_iM (by decide) (Nat.le_of_ble_eq_true rfl) ?_
  intro p e R s m args below meth c Q ls hx hb hC hRf hRl hret hl hw
  have hRf : 1 ≤ R.frames := hRf
  have hRl : 23 ≤ R.locals := hRl
  have hl : lv_has ls 2 [(0, .ref (wa T 91)), (1, .int a)] := hl
  refine lv_aload_n hx hb d_M_bits_0 rfl (lv_at hl 0 rfl) ?_
  refine lv_iload_n hx hb d_M_bits_1 rfl (lv_at hl 1 rfl) ?_
  refine wcS_z (As := [.int a]) hx hb hC hw (k_M_is l T F U K (gI I (dgm M) Z G) O a) lk_M_66 rfl rfl ⟨by show 0 + 1 ≤ R.frames; omega, by show 8 + (1 + 11) + 0 ≤ R.locals; omega⟩ rfl hl.1 rfl (Nat.le_of_ble_eq_true rfl) ⟨Nat.zero_le _, Nat.zero_le _⟩ d_M_bits_2 (fun H locs hw => ?_)
  by_cases h_a : isR a
  rotate_left
  · refine sw_i (y := nI 0) (by rw [decide_eq_false h_a]; rfl) ?_
    refine n_if_eq (tgt := 12) hx hb d_M_bits_5 (by decide) (by omega) (fun hw9 => ?_) (fun hw9 => absurd hw9 (by decide))
    refine lv_iconst (v := nI 1) hx hb d_M_bits_12 (by decide +kernel) ?_
    refine wp_Model_code hx hb hC hw bw_817 d_M_bits_13 (fun H locs hw => ?_)
    refine lv_aload_n hx hb d_M_bits_16 rfl (lv_at hl 0 rfl) ?_
    refine wg_Model_code hx hb hC hw bw_817 d_M_bits_17 ?_
    refine sw_i (y := nI 1) (va_up_self _ _ _) ?_
    refine n_if_ne (tgt := 31) hx hb d_M_bits_20 (by decide) (by omega) (fun hw9 => ?_) (fun hw9 => absurd hw9 (by decide))
    refine lv_iconst (v := nI 0) hx hb d_M_bits_31 (by decide +kernel) ?_
    rw [ocG_1 h_a, if_neg (by decide)] at hret
    exact hret _ _ _ _ _ _ _ (hm) hw d_M_bits_32
  refine sw_i (y := nI 1) (by rw [decide_eq_true h_a]; rfl) ?_
  obtain ⟨i, hi9, rfl⟩ := isR_of h_a
  have hl : lv_has ls 2 [(0, .ref (wa T 91)), (1, .int (nI i))] := hl
  refine n_if_eq (tgt := 12) hx hb d_M_bits_5 (by decide) (by omega) (fun hw9 => absurd hw9 (by decide)) (fun hw9 => ?_)
  refine lv_iconst (v := nI 0) hx hb d_M_bits_8 (by decide +kernel) ?_
  refine lv_goto (tgt := 13) hx hb d_M_bits_9 (by decide) ?_
  refine wp_Model_code hx hb hC hw bw_817 d_M_bits_13 (fun H locs hw => ?_)
  refine lv_aload_n hx hb d_M_bits_16 rfl (lv_at hl 0 rfl) ?_
  refine wg_Model_code hx hb hC hw bw_817 d_M_bits_17 ?_
  refine sw_i (y := nI 0) (va_up_self _ _ _) ?_
  refine n_if_ne (tgt := 31) hx hb d_M_bits_20 (by decide) (by omega) (fun hw9 => absurd hw9 (by decide)) (fun hw9 => ?_)
  rw [ocG_k h_a, if_pos rfl, rg_nI hi9] at hret
  have hi := hm.1 i hi9
  refine lv_aload_n hx hb d_M_bits_23 rfl (lv_at hl 0 rfl) ?_
  refine lv_iload_n hx hb d_M_bits_24 rfl (lv_at hl 1 rfl) ?_
  refine wcV_i (As := [.int (nI i)]) hx hb hC hw (k_M_bitsOf l T F U (va_up K 15 (nI 0)) I O M Z G i (by omega) hi.2.2.1 (hm.lt hi9)) lk_M_96 rfl rfl ⟨by show 0 + 1 ≤ R.frames; omega, by show 8 + (4 + 11) + 0 ≤ R.locals; omega⟩ (by omega) (we_Model ) rfl rfl hl.1 rfl (Nat.le_of_ble_eq_true rfl) ⟨Nat.zero_le _, Nat.zero_le _⟩ d_M_bits_25 (fun H locs hw => ?_)
  refine lv_goto (tgt := 32) hx hb d_M_bits_28 (by decide) ?_
  refine sw_i (y := nI (bl (z i).natAbs)) (by rw [hi.2.1]) ?_
  exact hret _ _ _ _ _ _ _ (hm) hw d_M_bits_32
set_option maxRecDepth 100000 in
set_option maxHeartbeats 4000000 in
theorem k_M_bit (l : Launch) (T : wT) (F : wFt) (U K : wUt) (I : wIt) (O : wOt) (M Z : Nat → Nat) (G : Nat → Int32) (z : Nat → Int) (hm : mI z M Z G) (a n : Int32) : Met l y_M_bit (.code y_M_bit c_M_bit 3 (some .boolean) :: bg) ({ frames := 2, cells := 0, slots := 0, locals := 48 } : Room) (mP T F U K (gI I (dgm M) Z G) O [.ref (wa T 91), .int a, .int n]) (mQiM T (if ocG (isR a ∧ 0 ≤ n) 0 = 0 then bitI (z (rg a)) (rg n) else nI 0) (mI z) F U (va_up K 15 (nI (ocG (isR a ∧ 0 ≤ n) 0))) I O) 0 0 (wA T) := by
  refine wM_zM (by decide) (Nat.le_of_ble_eq_true rfl) (by split; exact zN _; rfl) ?_
  intro p e R s m args below meth c Q ls hx hb hC hRf hRl hret hl hw
  have hRf : 2 ≤ R.frames := hRf
  have hRl : 48 ≤ R.locals := hRl
  have hl : lv_has ls 3 [(0, .ref (wa T 91)), (1, .int a), (2, .int n)] := hl
  refine lv_aload_n hx hb d_M_bit_0 rfl (lv_at hl 0 rfl) ?_
  refine lv_iload_n hx hb d_M_bit_1 rfl (lv_at hl 1 rfl) ?_
  refine wcS_z (As := [.int a]) hx hb hC hw (k_M_is l T F U K (gI I (dgm M) Z G) O a) lk_M_66 rfl rfl ⟨by show 0 + 1 ≤ R.frames; omega, by show 8 + (1 + 11) + 0 ≤ R.locals; omega⟩ rfl hl.1 rfl (Nat.le_of_ble_eq_true rfl) ⟨Nat.zero_le _, Nat.zero_le _⟩ d_M_bit_2 (fun H locs hw => ?_)
  by_cases h_a : isR a
  rotate_left
  · refine sw_i (y := nI 0) (by rw [decide_eq_false h_a]; rfl) ?_
    refine n_if_eq (tgt := 16) hx hb d_M_bit_5 (by decide) (by omega) (fun hw9 => ?_) (fun hw9 => absurd hw9 (by decide))
    refine lv_iconst (v := nI 1) hx hb d_M_bit_16 (by decide +kernel) ?_
    refine wp_Model_code hx hb hC hw bw_817 d_M_bit_17 (fun H locs hw => ?_)
    refine lv_aload_n hx hb d_M_bit_20 rfl (lv_at hl 0 rfl) ?_
    refine wg_Model_code hx hb hC hw bw_817 d_M_bit_21 ?_
    refine sw_i (y := nI 1) (va_up_self _ _ _) ?_
    refine n_if_le (tgt := 29) hx hb d_M_bit_24 (by decide) (by omega) (fun hw9 => absurd hw9 (by decide)) (fun hw9 => ?_)
    refine lv_iconst (v := nI 0) hx hb d_M_bit_27 (by decide +kernel) ?_
    rw [ocG_1 (fun q => h_a q.1), if_neg (by decide)] at hret
    exact hret _ _ _ _ _ _ _ (hm) hw d_M_bit_28
  refine sw_i (y := nI 1) (by rw [decide_eq_true h_a]; rfl) ?_
  obtain ⟨i, hi9, rfl⟩ := isR_of h_a
  have hl : lv_has ls 3 [(0, .ref (wa T 91)), (1, .int (nI i)), (2, .int n)] := hl
  refine n_if_eq (tgt := 16) hx hb d_M_bit_5 (by decide) (by omega) (fun hw9 => absurd hw9 (by decide)) (fun hw9 => ?_)
  refine lv_iload_n hx hb d_M_bit_8 rfl (lv_at hl 2 rfl) ?_
  refine lv_if_lt (tgt := 16) hx hb d_M_bit_9 (by decide) (fun hn => ?_) (fun hn => ?_)
  · refine lv_iconst (v := nI 1) hx hb d_M_bit_16 (by decide +kernel) ?_
    refine wp_Model_code hx hb hC hw bw_817 d_M_bit_17 (fun H locs hw => ?_)
    refine lv_aload_n hx hb d_M_bit_20 rfl (lv_at hl 0 rfl) ?_
    refine wg_Model_code hx hb hC hw bw_817 d_M_bit_21 ?_
    refine sw_i (y := nI 1) (va_up_self _ _ _) ?_
    refine n_if_le (tgt := 29) hx hb d_M_bit_24 (by decide) (by omega) (fun hw9 => absurd hw9 (by decide)) (fun hw9 => ?_)
    refine lv_iconst (v := nI 0) hx hb d_M_bit_27 (by decide +kernel) ?_
    rw [ocG_1 (fun q => absurd hn (Int32.not_lt.mpr q.2)), if_neg (by decide)] at hret
    exact hret _ _ _ _ _ _ _ (hm) hw d_M_bit_28
  replace hn := Int32.not_lt.mp hn
  rw [ocG_k ⟨h_a, hn⟩, if_pos rfl, rg_nI hi9] at hret
  obtain ⟨k, hk1, rfl⟩ := nn_nI hn
  rw [rg_k hk1] at hret
  have hi := hm.1 i hi9
  have hl : lv_has ls 3 [(0, .ref (wa T 91)), (1, .int (nI i)), (2, .int (nI k))] := hl
  refine lv_iconst (v := nI 0) hx hb d_M_bit_12 (by decide +kernel) ?_
  refine lv_goto (tgt := 17) hx hb d_M_bit_13 (by decide) ?_
  refine wp_Model_code hx hb hC hw bw_817 d_M_bit_17 (fun H locs hw => ?_)
  refine lv_aload_n hx hb d_M_bit_20 rfl (lv_at hl 0 rfl) ?_
  refine wg_Model_code hx hb hC hw bw_817 d_M_bit_21 ?_
  refine sw_i (y := nI 0) (va_up_self _ _ _) ?_
  refine n_if_le (tgt := 29) hx hb d_M_bit_24 (by decide) (by omega) (fun hw9 => ?_) (fun hw9 => absurd hw9 (by decide))
  refine lv_aload_n hx hb d_M_bit_29 rfl (lv_at hl 0 rfl) ?_
  refine wg_Model_sign hx hb hC hw bw_820 d_M_bit_30 ?_
  refine lv_iload_n hx hb d_M_bit_33 rfl (lv_at hl 1 rfl) ?_
  refine wl_msign hx hb hw (by omega) d_M_bit_34 ?_
  refine sw_i (y := (G i)) (rfl) ?_
  refine sw_i (y := (sgnI (z i))) (hi.2.2.2) ?_
  refine lv_if_lt (tgt := 45) hx hb d_M_bit_35 (by decide) (fun hs => ?_) (fun hs => ?_)
  · have hneg := sg_lt.mp hs
    have hv0 : 0 < M i := by rw [hi.2.1]; omega
    refine lv_aload_n hx hb d_M_bit_45 rfl (lv_at hl 0 rfl) ?_
    refine lv_bipush (v := nI 12) hx hb d_M_bit_46 (by decide +kernel) ?_
    refine lv_iconst (v := nI 1) hx hb d_M_bit_48 (by decide +kernel) ?_
    refine wcV_v (As := [.int (nI 12), .int (nI 1)]) hx hb hC hw (k_M_small l T F U (va_up K 15 (nI 0)) I O M Z G 12 1 (by omega) (by decide)) lk_M_93 rfl rfl ⟨by show 1 + 1 ≤ R.frames; omega, by show 8 + (3 + 11) + 22 ≤ R.locals; omega⟩ (by omega) (we_Model ) rfl rfl hl.1 rfl (Nat.le_of_ble_eq_true rfl) ⟨Nat.zero_le _, Nat.zero_le _⟩ d_M_bit_49 (fun H locs hw => ?_)
    have hm1 : mI z (va_up M 12 1) (va_up Z 12 (lnM 1)) G := hm.out (by omega) (lim20 (by decide))
    have o12 : (va_up M 12 1) 12 = 1 := va_up_self _ _ _
    generalize (va_up M 12 1) = M1 at hw hm1 o12
    generalize (va_up Z 12 (lnM 1)) = Z1 at hw hm1
    have i1 := hm1.1 i hi9
    refine lv_aload_n hx hb d_M_bit_52 rfl (lv_at hl 0 rfl) ?_
    refine lv_iload_n hx hb d_M_bit_53 rfl (lv_at hl 1 rfl) ?_
    refine lv_bipush (v := nI 12) hx hb d_M_bit_54 (by decide +kernel) ?_
    refine lv_bipush (v := nI 12) hx hb d_M_bit_56 (by decide +kernel) ?_
    refine wcV_v (As := [.int (nI i), .int (nI 12), .int (nI 12)]) hx hb hC hw (k_M_minus l T F U (va_up K 15 (nI 0)) I O M1 Z1 G i 12 12 (by omega) (by omega) (by omega) (by rw [o12, i1.2.1]; omega) (hm1.2 i (by omega))) lk_M_59 rfl rfl ⟨by show 1 + 1 ≤ R.frames; omega, by show 8 + (7 + 11) + 22 ≤ R.locals; omega⟩ (by omega) (we_Model ) rfl rfl hl.1 rfl (Nat.le_of_ble_eq_true rfl) ⟨Nat.zero_le _, Nat.zero_le _⟩ d_M_bit_58 (fun H locs hw => ?_)
    rw [o12, i1.2.1] at hw
    have lz9 := mM_of hi.1
    have hm2 : mI z (va_up M1 12 ((z i).natAbs - 1)) (va_up Z1 12 (lnM ((z i).natAbs - 1))) G := hm1.out (by omega) (by omega)
    have p12 : (va_up M1 12 ((z i).natAbs - 1)) 12 = (z i).natAbs - 1 := va_up_self _ _ _
    generalize (va_up M1 12 ((z i).natAbs - 1)) = M2 at hw hm2 p12
    generalize (va_up Z1 12 (lnM ((z i).natAbs - 1))) = Z2 at hw hm2
    refine lv_aload_n hx hb d_M_bit_61 rfl (lv_at hl 0 rfl) ?_
    refine lv_bipush (v := nI 12) hx hb d_M_bit_62 (by decide +kernel) ?_
    refine lv_iload_n hx hb d_M_bit_64 rfl (lv_at hl 2 rfl) ?_
    refine wcV_z (As := [.int (nI 12), .int (nI k)]) hx hb hC hw (k_M_bitOf l T F U (va_up K 15 (nI 0)) I O M2 Z2 G 12 k (by omega) (hm2.2 12 (by omega)) hk1) lk_M_100 rfl rfl ⟨by show 0 + 1 ≤ R.frames; omega, by show 8 + (3 + 11) + 0 ≤ R.locals; omega⟩ (by omega) (we_Model ) rfl rfl hl.1 rfl (Nat.le_of_ble_eq_true rfl) ⟨Nat.zero_le _, Nat.zero_le _⟩ d_M_bit_65 (fun H locs hw => ?_)
    have hb9 := bt_neg (v := (z i).natAbs) (k := k) (by omega)
    rw [← p12] at hb9
    unfold bitI at hret
    rw [decide_eq_true hneg, Bool.true_and, ← hb9] at hret
    generalize (M2 12).testBit k = tb at *
    cases tb
    · refine sw_i (y := nI 0) (rfl) ?_
      refine n_if_ne (tgt := 75) hx hb d_M_bit_68 (by decide) (by omega) (fun hw9 => absurd hw9 (by decide)) (fun hw9 => ?_)
      refine lv_iconst (v := nI 1) hx hb d_M_bit_71 (by decide +kernel) ?_
      refine lv_goto (tgt := 76) hx hb d_M_bit_72 (by decide) ?_
      exact hret _ _ _ _ _ _ _ (hm2) hw d_M_bit_76
    · refine sw_i (y := nI 1) (rfl) ?_
      refine n_if_ne (tgt := 75) hx hb d_M_bit_68 (by decide) (by omega) (fun hw9 => ?_) (fun hw9 => absurd hw9 (by decide))
      refine lv_iconst (v := nI 0) hx hb d_M_bit_75 (by decide +kernel) ?_
      exact hret _ _ _ _ _ _ _ (hm2) hw d_M_bit_76
  · have hneg : ¬ z i < 0 := fun q => hs (sg_lt.mpr q)
    unfold bitI at hret
    rw [decide_eq_false hneg, Bool.false_and, Bool.bne_false] at hret
    refine lv_aload_n hx hb d_M_bit_38 rfl (lv_at hl 0 rfl) ?_
    refine lv_iload_n hx hb d_M_bit_39 rfl (lv_at hl 1 rfl) ?_
    refine lv_iload_n hx hb d_M_bit_40 rfl (lv_at hl 2 rfl) ?_
    refine wcV_z (As := [.int (nI i), .int (nI k)]) hx hb hC hw (k_M_bitOf l T F U (va_up K 15 (nI 0)) I O M Z G i k (by omega) (hm.2 i (by omega)) hk1) lk_M_100 rfl rfl ⟨by show 0 + 1 ≤ R.frames; omega, by show 8 + (3 + 11) + 0 ≤ R.locals; omega⟩ (by omega) (we_Model ) rfl rfl hl.1 rfl (Nat.le_of_ble_eq_true rfl) ⟨Nat.zero_le _, Nat.zero_le _⟩ d_M_bit_41 (fun H locs hw => ?_)
    rw [hi.2.1]
    exact hret _ _ _ _ _ _ _ (hm) hw d_M_bit_44
set_option maxRecDepth 100000 in
set_option maxHeartbeats 4000000 in
theorem k_M_low (l : Launch) (T : wT) (F : wFt) (U K : wUt) (I : wIt) (O : wOt) (M Z : Nat → Nat) (G : Nat → Int32) (z : Nat → Int) (hm : mI z M Z G) (a : Int32) : Met l y_M_low (.code y_M_low c_M_low 5 (some .long) :: bg) ({ frames := 1, cells := 0, slots := 0, locals := 20 } : Room) (mP T F U K (gI I (dgm M) Z G) O [.ref (wa T 91), .int a]) (mQlM T (if ocG (isR a) 0 = 0 then lowI (z (rg a)) else lN 0) (mI z) F U (va_up K 15 (nI (ocG (isR a) 0))) I O) 0 0 (wA T) := by
  refine wM_lM (by decide) (Nat.le_of_ble_eq_true rfl) ?_
  intro p e R s m args below meth c Q ls hx hb hC hRf hRl hret hl hw
  have hRf : 1 ≤ R.frames := hRf
  have hRl : 20 ≤ R.locals := hRl
  have hl : lv_has ls 5 [(0, .ref (wa T 91)), (1, .int a)] := hl
  refine lv_aload_n hx hb d_M_low_0 rfl (lv_at hl 0 rfl) ?_
  refine lv_iload_n hx hb d_M_low_1 rfl (lv_at hl 1 rfl) ?_
  refine wcS_z (As := [.int a]) hx hb hC hw (k_M_is l T F U K (gI I (dgm M) Z G) O a) lk_M_66 rfl rfl ⟨by show 0 + 1 ≤ R.frames; omega, by show 8 + (1 + 11) + 0 ≤ R.locals; omega⟩ rfl hl.1 rfl (Nat.le_of_ble_eq_true rfl) ⟨Nat.zero_le _, Nat.zero_le _⟩ d_M_low_2 (fun H locs hw => ?_)
  by_cases h_a : isR a
  rotate_left
  · refine sw_i (y := nI 0) (by rw [decide_eq_false h_a]; rfl) ?_
    refine n_if_eq (tgt := 12) hx hb d_M_low_5 (by decide) (by omega) (fun hw9 => ?_) (fun hw9 => absurd hw9 (by decide))
    refine lv_iconst (v := nI 1) hx hb d_M_low_12 (by decide +kernel) ?_
    refine wp_Model_code hx hb hC hw bw_817 d_M_low_13 (fun H locs hw => ?_)
    refine lv_lconst (v := 0) hx hb d_M_low_16 (by decide +kernel) ?_
    refine sw_l (y := (lN 0)) (rfl) ?_
    refine lv_lstore_n hx hb d_M_low_17 rfl hl (by decide) rfl (fun ls hl => ?_)
    have hl : lv_has ls 5 [(2, .long (lN 0)), (0, .ref (wa T 91)), (1, .int a)] := hl
    refine lv_iconst (v := nI 0) hx hb d_M_low_18 (by decide +kernel) ?_
    refine lv_istore hx hb d_M_low_19 hl (by decide) rfl (fun ls hl => ?_)
    have hl : lv_has ls 5 [(4, .int (nI 0)), (2, .long (lN 0)), (0, .ref (wa T 91)), (1, .int a)] := hl
    refine lv_iload hx hb d_M_low_21 (lv_at hl 0 rfl) ?_
    refine lv_iconst (v := nI 4) hx hb d_M_low_23 (by decide +kernel) ?_
    refine n_icmp_ge (tgt := 62) hx hb d_M_low_24 (by decide) (by omega) (by omega) (fun h4 => ?_) (fun h4 => ?_)
    · exact absurd h4 (by decide)
    refine lv_aload_n hx hb d_M_low_27 rfl (lv_at hl 2 rfl) ?_
    refine wg_Model_code hx hb hC hw bw_817 d_M_low_28 ?_
    refine sw_i (y := nI 1) (va_up_self _ _ _) ?_
    refine n_if_ne (tgt := 62) hx hb d_M_low_31 (by decide) (by omega) (fun hw9 => ?_) (fun hw9 => absurd hw9 (by decide))
    refine lv_aload_n hx hb d_M_low_62 rfl (lv_at hl 2 rfl) ?_
    refine wg_Model_code hx hb hC hw bw_817 d_M_low_63 ?_
    refine sw_i (y := nI 1) (va_up_self _ _ _) ?_
    refine n_if_ne (tgt := 83) hx hb d_M_low_66 (by decide) (by omega) (fun hw9 => ?_) (fun hw9 => absurd hw9 (by decide))
    refine lv_lload_n hx hb d_M_low_83 rfl (lv_at hl 1 rfl) ?_
    rw [ocG_1 h_a, if_neg (by decide)] at hret
    exact hret _ _ _ _ _ _ _ (hm) hw d_M_low_84
  refine sw_i (y := nI 1) (by rw [decide_eq_true h_a]; rfl) ?_
  obtain ⟨i, hi9, rfl⟩ := isR_of h_a
  have hl : lv_has ls 5 [(0, .ref (wa T 91)), (1, .int (nI i))] := hl
  refine n_if_eq (tgt := 12) hx hb d_M_low_5 (by decide) (by omega) (fun hw9 => absurd hw9 (by decide)) (fun hw9 => ?_)
  rw [ocG_k h_a, if_pos rfl, rg_nI hi9] at hret
  have hi := hm.1 i hi9
  refine lv_iconst (v := nI 0) hx hb d_M_low_8 (by decide +kernel) ?_
  refine lv_goto (tgt := 13) hx hb d_M_low_9 (by decide) ?_
  refine wp_Model_code hx hb hC hw bw_817 d_M_low_13 (fun H locs hw => ?_)
  refine lv_lconst (v := 0) hx hb d_M_low_16 (by decide +kernel) ?_
  refine sw_l (y := (lN 0)) (rfl) ?_
  refine lv_lstore_n hx hb d_M_low_17 rfl hl (by decide) rfl (fun ls hl => ?_)
  have hl : lv_has ls 5 [(2, .long (lN 0)), (0, .ref (wa T 91)), (1, .int (nI i))] := hl
  refine lv_iconst (v := nI 0) hx hb d_M_low_18 (by decide +kernel) ?_
  refine lv_istore hx hb d_M_low_19 hl (by decide) rfl (fun ls hl => ?_)
  have hl : lv_has ls 5 [(4, .int (nI 0)), (2, .long (lN 0)), (0, .ref (wa T 91)), (1, .int (nI i))] := hl
  have e00 : lN 0 = lN (M i % 2 ^ (20 * 0)) := by rw [Nat.mul_zero, Nat.pow_zero, Nat.mod_one]
  have hl : lv_has ls 5 [(4, .int (nI 0)), (2, .long (lN (M i % 2 ^ (20 * 0)))), (0, .ref (wa T 91)), (1, .int (nI i))] := by rw [← e00]; exact hl
  have lp : ∀ (z9 q : Nat)  (ls : Array Slot) (H : Heap) (locs : List Loc), 4 - q = z9 → q ≤ 4 →  lv_has ls 5 [(4, .int (nI q)), (2, .long (lN (M i % 2 ^ (20 * q)))), (0, .ref (wa T 91)), (1, .int (nI i))] → wH T F U (va_up K 15 (nI 0)) (gI I (dgm M) Z G) O (wA T) s s.heap H locs → W p l e R s m args below meth c H locs 0 0 Q (F0 m 21 ls []) := by
    intro z9
    induction z9 with
    | zero =>
      intro q  ls H locs hn hle  hl hw
      refine lv_iload hx hb d_M_low_21 (lv_at hl 0 rfl) ?_
      refine lv_iconst (v := nI 4) hx hb d_M_low_23 (by decide +kernel) ?_
      refine n_icmp_ge (tgt := 62) hx hb d_M_low_24 (by decide) (by omega) (by omega) (fun h0 => ?_) (fun h0 => ?_)
      · have e9 : 4 = q := by omega
        refine lv_aload_n hx hb d_M_low_62 rfl (lv_at hl 2 rfl) ?_
        refine wg_Model_code hx hb hC hw bw_817 d_M_low_63 ?_
        refine sw_i (y := nI 0) (va_up_self _ _ _) ?_
        refine n_if_ne (tgt := 83) hx hb d_M_low_66 (by decide) (by omega) (fun hw9 => absurd hw9 (by decide)) (fun hw9 => ?_)
        refine lv_aload_n hx hb d_M_low_69 rfl (lv_at hl 2 rfl) ?_
        refine wg_Model_sign hx hb hC hw bw_820 d_M_low_70 ?_
        refine lv_iload_n hx hb d_M_low_73 rfl (lv_at hl 3 rfl) ?_
        refine wl_msign hx hb hw (by omega) d_M_low_74 ?_
        refine sw_i (y := (G i)) (rfl) ?_
        refine sw_i (y := (sgnI (z i))) (hi.2.2.2) ?_
        refine lv_if_ge (tgt := 83) hx hb d_M_low_75 (by decide) (fun hs => ?_) (fun hs => ?_)
        · have hv9 : lN (M i % 2 ^ (20 * q)) = lN (z i).natAbs := by rw [show q = 4 by omega, lo_end, hi.2.1]
          refine lv_lload_n hx hb d_M_low_83 rfl (lv_at hl 1 rfl) ?_
          refine sw_l (y := (lN (z i).natAbs)) (hv9) ?_
          unfold lowI at hret
          rw [if_neg (fun q => absurd (sg_lt.mpr q) (Int32.not_lt.mpr hs))] at hret
          exact hret _ _ _ _ _ _ _ (hm) hw d_M_low_84
        · have hv9 : lN (M i % 2 ^ (20 * q)) = lN (z i).natAbs := by rw [show q = 4 by omega, lo_end, hi.2.1]
          refine lv_lload_n hx hb d_M_low_78 rfl (lv_at hl 1 rfl) ?_
          refine lv_lneg hx hb d_M_low_79 ?_
          refine sw_l (y := (-(lN (z i).natAbs))) (by rw [hv9]) ?_
          refine lv_goto (tgt := 84) hx hb d_M_low_80 (by decide) ?_
          unfold lowI at hret
          rw [if_pos (sg_lt.mp (Int32.not_le.mp hs))] at hret
          exact hret _ _ _ _ _ _ _ (hm) hw d_M_low_84
      · exact absurd h0 (by omega)
    | succ z9 ih =>
      intro q  ls H locs hn hle  hl hw
      refine lv_iload hx hb d_M_low_21 (lv_at hl 0 rfl) ?_
      refine lv_iconst (v := nI 4) hx hb d_M_low_23 (by decide +kernel) ?_
      refine n_icmp_ge (tgt := 62) hx hb d_M_low_24 (by decide) (by omega) (by omega) (fun h0 => ?_) (fun h0 => ?_)
      · exact absurd h0 (by omega)
      · have hdq := dgm_lt (M i) q
        refine lv_aload_n hx hb d_M_low_27 rfl (lv_at hl 2 rfl) ?_
        refine wg_Model_code hx hb hC hw bw_817 d_M_low_28 ?_
        refine sw_i (y := nI 0) (va_up_self _ _ _) ?_
        refine n_if_ne (tgt := 62) hx hb d_M_low_31 (by decide) (by omega) (fun hw9 => absurd hw9 (by decide)) (fun hw9 => ?_)
        refine lv_lload_n hx hb d_M_low_34 rfl (lv_at hl 1 rfl) ?_
        refine lv_aload_n hx hb d_M_low_35 rfl (lv_at hl 2 rfl) ?_
        refine wg_Model_d hx hb hC hw bw_818 d_M_low_36 ?_
        refine lv_bipush (v := nI 108) hx hb d_M_low_39 (by decide +kernel) ?_
        refine lv_iload_n hx hb d_M_low_41 rfl (lv_at hl 3 rfl) ?_
        refine n_imul hx hb d_M_low_42 ?_
        refine lv_iload hx hb d_M_low_43 (lv_at hl 0 rfl) ?_
        refine n_iadd hx hb d_M_low_45 ?_
        refine wl_md hx hb hw (by omega) d_M_low_46 ?_
        refine sw_i (y := nI (dg (M i) q)) (gI_d (s := i) (i := q) (by omega)) ?_
        refine lv_i2l hx hb d_M_low_47 rfl ?_
        refine sw_l (y := (lN (dg (M i) q))) (nI_l (by omega)) ?_
        refine lv_bipush (v := nI 20) hx hb d_M_low_48 (by decide +kernel) ?_
        refine lv_iload hx hb d_M_low_50 (lv_at hl 0 rfl) ?_
        refine n_imul hx hb d_M_low_52 ?_
        refine lv_lshl hx hb d_M_low_53 rfl ?_
        refine lv_lor hx hb d_M_low_54 ?_
        refine sw_l (y := (lN (M i % 2 ^ (20 * (q + 1))))) (by rw [lo_step (Nat.mod_lt _ (Nat.two_pow_pos _)) hdq (by omega), lo_mod]) ?_
        refine lv_lstore_n hx hb d_M_low_55 rfl hl (by decide) rfl (fun ls hl => ?_)
        have hl : lv_has ls 5 [(2, .long (lN (M i % 2 ^ (20 * (q + 1))))), (4, .int (nI q)), (0, .ref (wa T 91)), (1, .int (nI i))] := hl
        refine lv_iinc (v := nI (q + 1)) hx hb d_M_low_56 hl (k := 1) rfl (nI_add _ 1) (by decide) rfl (fun ls hl => ?_)
        have hl : lv_has ls 5 [(4, .int (nI (q + 1))), (2, .long (lN (M i % 2 ^ (20 * (q + 1))))), (0, .ref (wa T 91)), (1, .int (nI i))] := hl
        refine lv_goto (tgt := 21) hx hb d_M_low_59 (by decide) ?_
        exact ih (q + 1) ls _ _ (by omega) (by omega) hl hw
  exact lp 4 0 ls _ _ (by omega) (by omega) hl hw
set_option maxRecDepth 100000 in
set_option maxHeartbeats 4000000 in
theorem k_M_character (l : Launch) (T : wT) (F : wFt) (U K : wUt) (I : wIt) (O : wOt) (M Z : Nat → Nat) (G : Nat → Int32) (z : Nat → Int) (hm : mI z M Z G) (n9 : Nat) (tx : Nat → Nat) (hn9 : n9 ≤ 1200) (hK : K 16 = nI n9) (hI : I 4 = tI tx) (ht : ∀ i, tx i < 128) (n : Int32) : Met l y_M_character (.code y_M_character c_M_character 2 (some .int) :: bg) ({ frames := 0, cells := 0, slots := 0, locals := 0 } : Room) (mP T F U K (gI I (dgm M) Z G) O [.ref (wa T 91), .int n]) (mQiM T (if ocG (0 ≤ n ∧ n < nI n9) 0 = 0 then nI (tx (rg n)) else nI 0) (mI z) F U (va_up K 15 (nI (ocG (0 ≤ n ∧ n < nI n9) 0))) I O) 0 0 (wA T) := by
  refine wM_iM (by decide) (Nat.le_of_ble_eq_true rfl) ?_
  intro p e R s m args below meth c Q ls hx hb hC hRf hRl hret hl hw
  have hRf : 0 ≤ R.frames := hRf
  have hRl : 0 ≤ R.locals := hRl
  have hl : lv_has ls 2 [(0, .ref (wa T 91)), (1, .int n)] := hl
  refine lv_aload_n hx hb d_M_character_0 rfl (lv_at hl 0 rfl) ?_
  refine lv_iload_n hx hb d_M_character_1 rfl (lv_at hl 1 rfl) ?_
  refine lv_if_lt (tgt := 17) hx hb d_M_character_2 (by decide) (fun h1 => ?_) (fun h1 => ?_)
  · refine lv_iconst (v := nI 1) hx hb d_M_character_17 (by decide +kernel) ?_
    refine wp_Model_code hx hb hC hw bw_817 d_M_character_18 (fun H locs hw => ?_)
    refine lv_aload_n hx hb d_M_character_21 rfl (lv_at hl 0 rfl) ?_
    refine wg_Model_code hx hb hC hw bw_817 d_M_character_22 ?_
    refine sw_i (y := nI 1) (va_up_self _ _ _) ?_
    refine n_if_ne (tgt := 37) hx hb d_M_character_25 (by decide) (by omega) (fun hw9 => ?_) (fun hw9 => absurd hw9 (by decide))
    refine lv_iconst (v := nI 0) hx hb d_M_character_37 (by decide +kernel) ?_
    rw [ocG_1 (fun q => absurd h1 (Int32.not_lt.mpr q.1)), if_neg (by decide)] at hret
    exact hret _ _ _ _ _ _ _ (hm) hw d_M_character_38
  replace h1 := Int32.not_lt.mp h1
  obtain ⟨k, hk1, rfl⟩ := nn_nI h1
  rw [rg_k hk1] at hret
  have hl : lv_has ls 2 [(0, .ref (wa T 91)), (1, .int (nI k))] := hl
  refine lv_iload_n hx hb d_M_character_5 rfl (lv_at hl 1 rfl) ?_
  refine lv_aload_n hx hb d_M_character_6 rfl (lv_at hl 0 rfl) ?_
  refine wg_Model_length hx hb hC hw bw_821 d_M_character_7 ?_
  refine sw_i (y := nI n9) (hK) ?_
  refine n_icmp_ge (tgt := 17) hx hb d_M_character_10 (by decide) (by omega) (by omega) (fun h2 => ?_) (fun h2 => ?_)
  · refine lv_iconst (v := nI 1) hx hb d_M_character_17 (by decide +kernel) ?_
    refine wp_Model_code hx hb hC hw bw_817 d_M_character_18 (fun H locs hw => ?_)
    refine lv_aload_n hx hb d_M_character_21 rfl (lv_at hl 0 rfl) ?_
    refine wg_Model_code hx hb hC hw bw_817 d_M_character_22 ?_
    refine sw_i (y := nI 1) (va_up_self _ _ _) ?_
    refine n_if_ne (tgt := 37) hx hb d_M_character_25 (by decide) (by omega) (fun hw9 => ?_) (fun hw9 => absurd hw9 (by decide))
    refine lv_iconst (v := nI 0) hx hb d_M_character_37 (by decide +kernel) ?_
    rw [ocG_1 (fun q => absurd ((nI_ltI hk1 (by omega)).mp q.2) (by omega)), if_neg (by decide)] at hret
    exact hret _ _ _ _ _ _ _ (hm) hw d_M_character_38
  rw [ocG_k ⟨h1, (nI_ltI hk1 (by omega)).mpr h2⟩, if_pos rfl] at hret
  refine lv_iconst (v := nI 0) hx hb d_M_character_13 (by decide +kernel) ?_
  refine lv_goto (tgt := 18) hx hb d_M_character_14 (by decide) ?_
  refine wp_Model_code hx hb hC hw bw_817 d_M_character_18 (fun H locs hw => ?_)
  refine lv_aload_n hx hb d_M_character_21 rfl (lv_at hl 0 rfl) ?_
  refine wg_Model_code hx hb hC hw bw_817 d_M_character_22 ?_
  refine sw_i (y := nI 0) (va_up_self _ _ _) ?_
  refine n_if_ne (tgt := 37) hx hb d_M_character_25 (by decide) (by omega) (fun hw9 => absurd hw9 (by decide)) (fun hw9 => ?_)
  refine lv_aload_n hx hb d_M_character_28 rfl (lv_at hl 0 rfl) ?_
  refine wg_Model_text hx hb hC hw bw_822 d_M_character_29 ?_
  refine lv_iload_n hx hb d_M_character_32 rfl (lv_at hl 1 rfl) ?_
  refine wl_mtext hx hb hw (by omega) d_M_character_33 ?_
  refine sw_i (y := nI (tx k)) (congrFun hI _) ?_
  refine lv_goto (tgt := 38) hx hb d_M_character_34 (by decide) ?_
  exact hret _ _ _ _ _ _ _ (hm) hw d_M_character_38
set_option maxRecDepth 100000 in
set_option maxHeartbeats 4000000 in
theorem k_M_wipe (l : Launch) (T : wT) (F : wFt) (U K : wUt) (I : wIt) (O : wOt) (M Z : Nat → Nat) (G : Nat → Int32) (n9 : Nat) (hK : K 16 = nI n9) : Met l y_M_wipe (.code y_M_wipe c_M_wipe 2 (some .int) :: bg) ({ frames := 0, cells := 0, slots := 0, locals := 0 } : Room) (mP T F U K (gI I (dgm M) Z G) O [.ref (wa T 91)]) (mQi T (nI n9) F U (va_up (va_up K 15 (nI 0)) 16 (nI 0)) (gI I (dgm M) Z G) O) 0 0 (wA T) := by
  refine wM_i (by decide) (Nat.le_of_ble_eq_true rfl) ?_
  intro p e R s m args below meth c Q ls hx hb hC hRf hRl hret hl hw
  have hRf : 0 ≤ R.frames := hRf
  have hRl : 0 ≤ R.locals := hRl
  have hl : lv_has ls 2 [(0, .ref (wa T 91))] := hl
  refine lv_aload_n hx hb d_M_wipe_0 rfl (lv_at hl 0 rfl) ?_
  refine lv_iconst (v := nI 0) hx hb d_M_wipe_1 (by decide +kernel) ?_
  refine wp_Model_code hx hb hC hw bw_817 d_M_wipe_2 (fun H locs hw => ?_)
  refine lv_aload_n hx hb d_M_wipe_5 rfl (lv_at hl 0 rfl) ?_
  refine wg_Model_length hx hb hC hw bw_821 d_M_wipe_6 ?_
  refine sw_i (y := nI n9) ((va_up_ne _ _ (by decide)).trans hK) ?_
  refine lv_istore_n hx hb d_M_wipe_9 rfl hl (by decide) rfl (fun ls hl => ?_)
  have hl : lv_has ls 2 [(1, .int (nI n9)), (0, .ref (wa T 91))] := hl
  refine lv_aload_n hx hb d_M_wipe_10 rfl (lv_at hl 1 rfl) ?_
  refine lv_iconst (v := nI 0) hx hb d_M_wipe_11 (by decide +kernel) ?_
  refine wp_Model_length hx hb hC hw bw_821 d_M_wipe_12 (fun H locs hw => ?_)
  refine lv_iload_n hx hb d_M_wipe_15 rfl (lv_at hl 0 rfl) ?_
  exact hret _ _ _ _ hw d_M_wipe_16
set_option maxRecDepth 100000 in
set_option maxHeartbeats 4000000 in
theorem k_M_thrown (l : Launch) (T : wT) (F : wFt) (U K : wUt) (I : wIt) (O : wOt) : Met l y_M_thrown (.code y_M_thrown c_M_thrown 1 (some .int) :: bg) ({ frames := 0, cells := 0, slots := 0, locals := 0 } : Room) (mP T F U K I O [.ref (wa T 91)]) (mQi T (K 15) F U K I O) 0 0 (wA T) := by
  refine wM_i (by decide) (Nat.le_of_ble_eq_true rfl) ?_
  intro p e R s m args below meth c Q ls hx hb hC hRf hRl hret hl hw
  have hRf : 0 ≤ R.frames := hRf
  have hRl : 0 ≤ R.locals := hRl
  have hl : lv_has ls 1 [(0, .ref (wa T 91))] := hl
  refine lv_aload_n hx hb d_M_thrown_0 rfl (lv_at hl 0 rfl) ?_
  refine wg_Model_code hx hb hC hw bw_817 d_M_thrown_1 ?_
  exact hret _ _ _ _ hw d_M_thrown_4
set_option maxRecDepth 100000 in
set_option maxHeartbeats 4000000 in
theorem k_M_digit (l : Launch) (T : wT) (F : wFt) (U K : wUt) (I : wIt) (O : wOt) (c9 : Nat) (hc9 : c9 < 128) : Met l y_M_digit (.code y_M_digit c_M_digit 1 (some .int) :: bg) ({ frames := 0, cells := 0, slots := 0, locals := 0 } : Room) (mP T F U K I O [.int (nI c9)]) (mQi T (nI (dgN c9)) F U K I O) 0 0 (wA T) := by
  refine wM_i (by decide) (Nat.le_of_ble_eq_true rfl) ?_
  intro p e R s m args below meth c Q ls hx hb hC hRf hRl hret hl hw
  have hRf : 0 ≤ R.frames := hRf
  have hRl : 0 ≤ R.locals := hRl
  have hl : lv_has ls 1 [(0, .int (nI c9))] := hl
  refine lv_iload_n hx hb d_M_digit_0 rfl (lv_at hl 0 rfl) ?_
  refine lv_bipush (v := nI 48) hx hb d_M_digit_1 (by decide +kernel) ?_
  refine n_icmp_lt (tgt := 19) hx hb d_M_digit_3 (by decide) (by omega) (by omega) (fun h1 => ?_) (fun h1 => ?_)
  · skip
    refine lv_iload_n hx hb d_M_digit_19 rfl (lv_at hl 0 rfl) ?_
    refine lv_bipush (v := nI 97) hx hb d_M_digit_20 (by decide +kernel) ?_
    refine n_icmp_lt (tgt := 38) hx hb d_M_digit_22 (by decide) (by omega) (by omega) (fun h2 => ?_) (fun h2 => ?_)
    · skip
      refine lv_iload_n hx hb d_M_digit_38 rfl (lv_at hl 0 rfl) ?_
      refine lv_bipush (v := nI 65) hx hb d_M_digit_39 (by decide +kernel) ?_
      refine n_icmp_lt (tgt := 57) hx hb d_M_digit_41 (by decide) (by omega) (by omega) (fun h3 => ?_) (fun h3 => ?_)
      · skip
        refine lv_bipush (v := nI 99) hx hb d_M_digit_57 (by decide +kernel) ?_
        have e : dgN c9 = 99 := by unfold dgN; (repeat' split) <;> omega
        rw [e] at hret
        exact hret _ _ _ _ hw d_M_digit_59
      · skip
        refine lv_iload_n hx hb d_M_digit_44 rfl (lv_at hl 0 rfl) ?_
        refine lv_bipush (v := nI 90) hx hb d_M_digit_45 (by decide +kernel) ?_
        refine n_icmp_gt (tgt := 57) hx hb d_M_digit_47 (by decide) (by omega) (by omega) (fun h4 => ?_) (fun h4 => ?_)
        · skip
          refine lv_bipush (v := nI 99) hx hb d_M_digit_57 (by decide +kernel) ?_
          have e : dgN c9 = 99 := by unfold dgN; (repeat' split) <;> omega
          rw [e] at hret
          exact hret _ _ _ _ hw d_M_digit_59
        · skip
          refine lv_iload_n hx hb d_M_digit_50 rfl (lv_at hl 0 rfl) ?_
          refine lv_bipush (v := nI 55) hx hb d_M_digit_51 (by decide +kernel) ?_
          refine n_isub hx hb d_M_digit_53 (by omega) ?_
          refine lv_goto (tgt := 59) hx hb d_M_digit_54 (by decide) ?_
          have e : dgN c9 = c9 - 55 := by unfold dgN; (repeat' split) <;> omega
          rw [e] at hret
          exact hret _ _ _ _ hw d_M_digit_59
    · skip
      refine lv_iload_n hx hb d_M_digit_25 rfl (lv_at hl 0 rfl) ?_
      refine lv_bipush (v := nI 122) hx hb d_M_digit_26 (by decide +kernel) ?_
      refine n_icmp_gt (tgt := 38) hx hb d_M_digit_28 (by decide) (by omega) (by omega) (fun h3 => ?_) (fun h3 => ?_)
      · skip
        refine lv_iload_n hx hb d_M_digit_38 rfl (lv_at hl 0 rfl) ?_
        refine lv_bipush (v := nI 65) hx hb d_M_digit_39 (by decide +kernel) ?_
        refine n_icmp_lt (tgt := 57) hx hb d_M_digit_41 (by decide) (by omega) (by omega) (fun h4 => ?_) (fun h4 => ?_)
        · skip
          refine lv_bipush (v := nI 99) hx hb d_M_digit_57 (by decide +kernel) ?_
          have e : dgN c9 = 99 := by unfold dgN; (repeat' split) <;> omega
          rw [e] at hret
          exact hret _ _ _ _ hw d_M_digit_59
        · skip
          refine lv_iload_n hx hb d_M_digit_44 rfl (lv_at hl 0 rfl) ?_
          refine lv_bipush (v := nI 90) hx hb d_M_digit_45 (by decide +kernel) ?_
          refine n_icmp_gt (tgt := 57) hx hb d_M_digit_47 (by decide) (by omega) (by omega) (fun h5 => ?_) (fun h5 => ?_)
          · skip
            refine lv_bipush (v := nI 99) hx hb d_M_digit_57 (by decide +kernel) ?_
            have e : dgN c9 = 99 := by unfold dgN; (repeat' split) <;> omega
            rw [e] at hret
            exact hret _ _ _ _ hw d_M_digit_59
          · skip
            refine lv_iload_n hx hb d_M_digit_50 rfl (lv_at hl 0 rfl) ?_
            refine lv_bipush (v := nI 55) hx hb d_M_digit_51 (by decide +kernel) ?_
            refine n_isub hx hb d_M_digit_53 (by omega) ?_
            refine lv_goto (tgt := 59) hx hb d_M_digit_54 (by decide) ?_
            have e : dgN c9 = c9 - 55 := by unfold dgN; (repeat' split) <;> omega
            rw [e] at hret
            exact hret _ _ _ _ hw d_M_digit_59
      · skip
        refine lv_iload_n hx hb d_M_digit_31 rfl (lv_at hl 0 rfl) ?_
        refine lv_bipush (v := nI 87) hx hb d_M_digit_32 (by decide +kernel) ?_
        refine n_isub hx hb d_M_digit_34 (by omega) ?_
        refine lv_goto (tgt := 59) hx hb d_M_digit_35 (by decide) ?_
        have e : dgN c9 = c9 - 87 := by unfold dgN; (repeat' split) <;> omega
        rw [e] at hret
        exact hret _ _ _ _ hw d_M_digit_59
  · skip
    refine lv_iload_n hx hb d_M_digit_6 rfl (lv_at hl 0 rfl) ?_
    refine lv_bipush (v := nI 57) hx hb d_M_digit_7 (by decide +kernel) ?_
    refine n_icmp_gt (tgt := 19) hx hb d_M_digit_9 (by decide) (by omega) (by omega) (fun h2 => ?_) (fun h2 => ?_)
    · skip
      refine lv_iload_n hx hb d_M_digit_19 rfl (lv_at hl 0 rfl) ?_
      refine lv_bipush (v := nI 97) hx hb d_M_digit_20 (by decide +kernel) ?_
      refine n_icmp_lt (tgt := 38) hx hb d_M_digit_22 (by decide) (by omega) (by omega) (fun h3 => ?_) (fun h3 => ?_)
      · skip
        refine lv_iload_n hx hb d_M_digit_38 rfl (lv_at hl 0 rfl) ?_
        refine lv_bipush (v := nI 65) hx hb d_M_digit_39 (by decide +kernel) ?_
        refine n_icmp_lt (tgt := 57) hx hb d_M_digit_41 (by decide) (by omega) (by omega) (fun h4 => ?_) (fun h4 => ?_)
        · skip
          refine lv_bipush (v := nI 99) hx hb d_M_digit_57 (by decide +kernel) ?_
          have e : dgN c9 = 99 := by unfold dgN; (repeat' split) <;> omega
          rw [e] at hret
          exact hret _ _ _ _ hw d_M_digit_59
        · skip
          refine lv_iload_n hx hb d_M_digit_44 rfl (lv_at hl 0 rfl) ?_
          refine lv_bipush (v := nI 90) hx hb d_M_digit_45 (by decide +kernel) ?_
          refine n_icmp_gt (tgt := 57) hx hb d_M_digit_47 (by decide) (by omega) (by omega) (fun h5 => ?_) (fun h5 => ?_)
          · skip
            refine lv_bipush (v := nI 99) hx hb d_M_digit_57 (by decide +kernel) ?_
            have e : dgN c9 = 99 := by unfold dgN; (repeat' split) <;> omega
            rw [e] at hret
            exact hret _ _ _ _ hw d_M_digit_59
          · skip
            refine lv_iload_n hx hb d_M_digit_50 rfl (lv_at hl 0 rfl) ?_
            refine lv_bipush (v := nI 55) hx hb d_M_digit_51 (by decide +kernel) ?_
            refine n_isub hx hb d_M_digit_53 (by omega) ?_
            refine lv_goto (tgt := 59) hx hb d_M_digit_54 (by decide) ?_
            have e : dgN c9 = c9 - 55 := by unfold dgN; (repeat' split) <;> omega
            rw [e] at hret
            exact hret _ _ _ _ hw d_M_digit_59
      · skip
        refine lv_iload_n hx hb d_M_digit_25 rfl (lv_at hl 0 rfl) ?_
        refine lv_bipush (v := nI 122) hx hb d_M_digit_26 (by decide +kernel) ?_
        refine n_icmp_gt (tgt := 38) hx hb d_M_digit_28 (by decide) (by omega) (by omega) (fun h4 => ?_) (fun h4 => ?_)
        · skip
          refine lv_iload_n hx hb d_M_digit_38 rfl (lv_at hl 0 rfl) ?_
          refine lv_bipush (v := nI 65) hx hb d_M_digit_39 (by decide +kernel) ?_
          refine n_icmp_lt (tgt := 57) hx hb d_M_digit_41 (by decide) (by omega) (by omega) (fun h5 => ?_) (fun h5 => ?_)
          · skip
            refine lv_bipush (v := nI 99) hx hb d_M_digit_57 (by decide +kernel) ?_
            have e : dgN c9 = 99 := by unfold dgN; (repeat' split) <;> omega
            rw [e] at hret
            exact hret _ _ _ _ hw d_M_digit_59
          · skip
            refine lv_iload_n hx hb d_M_digit_44 rfl (lv_at hl 0 rfl) ?_
            refine lv_bipush (v := nI 90) hx hb d_M_digit_45 (by decide +kernel) ?_
            refine n_icmp_gt (tgt := 57) hx hb d_M_digit_47 (by decide) (by omega) (by omega) (fun h6 => ?_) (fun h6 => ?_)
            · skip
              refine lv_bipush (v := nI 99) hx hb d_M_digit_57 (by decide +kernel) ?_
              have e : dgN c9 = 99 := by unfold dgN; (repeat' split) <;> omega
              rw [e] at hret
              exact hret _ _ _ _ hw d_M_digit_59
            · skip
              refine lv_iload_n hx hb d_M_digit_50 rfl (lv_at hl 0 rfl) ?_
              refine lv_bipush (v := nI 55) hx hb d_M_digit_51 (by decide +kernel) ?_
              refine n_isub hx hb d_M_digit_53 (by omega) ?_
              refine lv_goto (tgt := 59) hx hb d_M_digit_54 (by decide) ?_
              have e : dgN c9 = c9 - 55 := by unfold dgN; (repeat' split) <;> omega
              rw [e] at hret
              exact hret _ _ _ _ hw d_M_digit_59
        · skip
          refine lv_iload_n hx hb d_M_digit_31 rfl (lv_at hl 0 rfl) ?_
          refine lv_bipush (v := nI 87) hx hb d_M_digit_32 (by decide +kernel) ?_
          refine n_isub hx hb d_M_digit_34 (by omega) ?_
          refine lv_goto (tgt := 59) hx hb d_M_digit_35 (by decide) ?_
          have e : dgN c9 = c9 - 87 := by unfold dgN; (repeat' split) <;> omega
          rw [e] at hret
          exact hret _ _ _ _ hw d_M_digit_59
    · skip
      refine lv_iload_n hx hb d_M_digit_12 rfl (lv_at hl 0 rfl) ?_
      refine lv_bipush (v := nI 48) hx hb d_M_digit_13 (by decide +kernel) ?_
      refine n_isub hx hb d_M_digit_15 (by omega) ?_
      refine lv_goto (tgt := 59) hx hb d_M_digit_16 (by decide) ?_
      have e : dgN c9 = c9 - 48 := by unfold dgN; (repeat' split) <;> omega
      rw [e] at hret
      exact hret _ _ _ _ hw d_M_digit_59
set_option maxRecDepth 100000 in
set_option maxHeartbeats 4000000 in
theorem k_M_grow (l : Launch) (T : wT) (F : wFt) (U K : wUt) (I : wIt) (O : wOt) (M Z : Nat → Nat) (G : Nat → Int32) (b n9 : Nat) (hb9 : b ≤ 36) (hn9 : n9 ≤ 99) (hs : M 12 * b + n9 < mM) : Met l y_M_grow (.code y_M_grow c_M_grow 8 none :: bg) ({ frames := 1, cells := 0, slots := 0, locals := 22 } : Room) (mP T F U K (gI I (dgm M) Z G) O [.ref (wa T 91), .int (nI b), .int (nI n9)]) (mQv T F U K (gI I (dgm (va_up M 12 (M 12 * b + n9))) (va_up Z 12 (lnM (M 12 * b + n9))) G) O) 0 0 (wA T) := by
  refine wM_v (by decide) (Nat.le_of_ble_eq_true rfl) ?_
  intro p e R s m args below meth c Q ls hx hb hC hRf hRl hret hl hw
  have hRf : 1 ≤ R.frames := hRf
  have hRl : 22 ≤ R.locals := hRl
  have hl : lv_has ls 8 [(0, .ref (wa T 91)), (1, .int (nI b)), (2, .int (nI n9))] := hl
  refine lv_iload_n hx hb d_M_grow_0 rfl (lv_at hl 2 rfl) ?_
  refine lv_i2l hx hb d_M_grow_1 rfl ?_
  refine sw_l (y := (lN n9)) (nI_l (by omega)) ?_
  refine lv_lstore_n hx hb d_M_grow_2 rfl hl (by decide) rfl (fun ls hl => ?_)
  have hl : lv_has ls 8 [(3, .long (lN n9)), (0, .ref (wa T 91)), (1, .int (nI b)), (2, .int (nI n9))] := hl
  refine lv_iconst (v := nI 0) hx hb d_M_grow_3 (by decide +kernel) ?_
  refine lv_istore hx hb d_M_grow_4 hl (by decide) rfl (fun ls hl => ?_)
  have hl : lv_has ls 8 [(5, .int (nI 0)), (3, .long (lN n9)), (0, .ref (wa T 91)), (1, .int (nI b)), (2, .int (nI n9))] := hl
  rw [show gI I (dgm M) Z G = gI I (va_up (dgm M) 12 (mx (dg (M 12 * b + n9)) (dgm M 12) 0)) Z G from by rw [mx_start]] at hw
  have ec : lN n9 = lN (cyG (M 12) b n9 0) := by rw [cyG_0]
  have hl : lv_has ls 8 [(5, .int (nI 0)), (3, .long (lN (cyG (M 12) b n9 0))), (0, .ref (wa T 91)), (1, .int (nI b)), (2, .int (nI n9))] := by rw [← ec]; exact hl
  have lp : ∀ (z9 i : Nat)  (ls : Array Slot) (H : Heap) (locs : List Loc), 108 - i = z9 → i ≤ 108 →  lv_has ls 8 [(5, .int (nI i)), (3, .long (lN (cyG (M 12) b n9 i))), (0, .ref (wa T 91)), (1, .int (nI b)), (2, .int (nI n9))] → wH T F U K (gI I (va_up (dgm M) 12 (mx (dg (M 12 * b + n9)) (dgm M 12) i)) Z G) O (wA T) s s.heap H locs → W p l e R s m args below meth c H locs 0 0 Q (F0 m 6 ls []) := by
    intro z9
    induction z9 with
    | zero =>
      intro i  ls H locs hn hle  hl hw
      refine lv_iload hx hb d_M_grow_6 (lv_at hl 0 rfl) ?_
      refine lv_bipush (v := nI 108) hx hb d_M_grow_8 (by decide +kernel) ?_
      refine n_icmp_ge (tgt := 62) hx hb d_M_grow_10 (by decide) (by omega) (by omega) (fun h0 => ?_) (fun h0 => ?_)
      · have e9 : 108 = i := by omega
        rw [show i = 108 by omega, mx_full, dgm_up] at hw
        refine lv_aload_n hx hb d_M_grow_62 rfl (lv_at hl 2 rfl) ?_
        refine lv_bipush (v := nI 12) hx hb d_M_grow_63 (by decide +kernel) ?_
        refine wcV_v (As := [.int (nI 12)]) hx hb hC hw (k_M_trim l T F U K I O (va_up M 12 (M 12 * b + n9)) Z G 12 (by omega) (by rw [va_up_self]; exact hs)) lk_M_30 rfl rfl ⟨by show 0 + 1 ≤ R.frames; omega, by show 8 + (3 + 11) + 0 ≤ R.locals; omega⟩ (by omega) (we_Model ) rfl rfl hl.1 rfl (Nat.le_of_ble_eq_true rfl) ⟨Nat.zero_le _, Nat.zero_le _⟩ d_M_grow_65 (fun H locs hw => ?_)
        rw [va_up_self] at hw
        exact hret _ _ _ _ hw d_M_grow_68
      · exact absurd h0 (by omega)
    | succ z9 ih =>
      intro i  ls H locs hn hle  hl hw
      refine lv_iload hx hb d_M_grow_6 (lv_at hl 0 rfl) ?_
      refine lv_bipush (v := nI 108) hx hb d_M_grow_8 (by decide +kernel) ?_
      refine n_icmp_ge (tgt := 62) hx hb d_M_grow_10 (by decide) (by omega) (by omega) (fun h0 => ?_) (fun h0 => ?_)
      · exact absurd h0 (by omega)
      · have hd := dgm_lt (M 12) i
        have hc := cyG_le (v := M 12) (i := i) hb9 hn9
        have hm : dg (M 12) i * b ≤ 1048575 * 36 := Nat.mul_le_mul (by omega) hb9
        refine lv_aload_n hx hb d_M_grow_13 rfl (lv_at hl 2 rfl) ?_
        refine wg_Model_d hx hb hC hw bw_818 d_M_grow_14 ?_
        refine lv_sipush (v := nI 1296) hx hb d_M_grow_17 (by decide +kernel) ?_
        refine lv_iload hx hb d_M_grow_20 (lv_at hl 0 rfl) ?_
        refine n_iadd hx hb d_M_grow_22 ?_
        refine wl_md hx hb hw (by omega) d_M_grow_23 ?_
        refine sw_i (y := nI (dg (M 12) i)) ((gI_d (s := 12) (i := i) (by omega)).trans (congrArg nI (mx_rd (D := dgm M) 12))) ?_
        refine lv_i2l hx hb d_M_grow_24 rfl ?_
        refine lv_iload_n hx hb d_M_grow_25 rfl (lv_at hl 3 rfl) ?_
        refine lv_i2l hx hb d_M_grow_26 rfl ?_
        refine lv_lmul hx hb d_M_grow_27 ?_
        refine lv_lload_n hx hb d_M_grow_28 rfl (lv_at hl 1 rfl) ?_
        refine lv_ladd hx hb d_M_grow_29 ?_
        refine sw_l (y := (lN (dg (M 12) i * b + cyG (M 12) b n9 i))) (by rw [nI_l (by omega), nI_l (by omega), lN_mul, lN_add]) ?_
        refine lv_lstore hx hb d_M_grow_30 hl (by decide) rfl (fun ls hl => ?_)
        have hl : lv_has ls 8 [(6, .long (lN (dg (M 12) i * b + cyG (M 12) b n9 i))), (5, .int (nI i)), (3, .long (lN (cyG (M 12) b n9 i))), (0, .ref (wa T 91)), (1, .int (nI b)), (2, .int (nI n9))] := hl
        refine lv_aload_n hx hb d_M_grow_32 rfl (lv_at hl 3 rfl) ?_
        refine wg_Model_d hx hb hC hw bw_818 d_M_grow_33 ?_
        refine lv_sipush (v := nI 1296) hx hb d_M_grow_36 (by decide +kernel) ?_
        refine lv_iload hx hb d_M_grow_39 (lv_at hl 1 rfl) ?_
        refine n_iadd hx hb d_M_grow_41 ?_
        refine lv_lload hx hb d_M_grow_42 (lv_at hl 0 rfl) ?_
        refine lv_ldc2 (v := 1048575) hx hb hC.ow (hC.hts bw_852) d_M_grow_44 ?_
        refine lv_land hx hb d_M_grow_47 ?_
        refine sw_l (y := (lN (dg (M 12 * b + n9) i))) (by rw [lN_m20 (by omega), dg_grow]) ?_
        refine lv_l2i hx hb d_M_grow_48 rfl ?_
        refine sw_i (y := nI (dg (M 12 * b + n9) i)) (lN_i _) ?_
        refine ws_md hx hb hw (by omega) d_M_grow_49 (fun H locs hw => ?_)
        rw [show (va_up (gI I (va_up (dgm M) 12 (mx (dg (M 12 * b + n9)) (dgm M 12) i)) Z G) 1 (upd ((gI I (va_up (dgm M) 12 (mx (dg (M 12 * b + n9)) (dgm M 12) i)) Z G) 1) (1296 + i) (nI (dg (M 12 * b + n9) i)))) = (gI I (va_up (va_up (dgm M) 12 (mx (dg (M 12 * b + n9)) (dgm M 12) i)) 12 (va_up ((va_up (dgm M) 12 (mx (dg (M 12 * b + n9)) (dgm M 12) i)) 12) i (dg (M 12 * b + n9) i))) Z G) from gI_sd (s := 12) (i := i) (by omega)] at hw
        rw [mx_st rfl] at hw
        refine lv_lload hx hb d_M_grow_50 (lv_at hl 0 rfl) ?_
        refine lv_bipush (v := nI 20) hx hb d_M_grow_52 (by decide +kernel) ?_
        refine lv_lshr hx hb d_M_grow_54 rfl ?_
        refine sw_l (y := (lN (cyG (M 12) b n9 (i + 1)))) (by rw [lN_s20 (by omega), cyG_s]) ?_
        refine lv_lstore_n hx hb d_M_grow_55 rfl hl (by decide) rfl (fun ls hl => ?_)
        have hl : lv_has ls 8 [(3, .long (lN (cyG (M 12) b n9 (i + 1)))), (6, .long (lN (dg (M 12) i * b + cyG (M 12) b n9 i))), (5, .int (nI i)), (0, .ref (wa T 91)), (1, .int (nI b)), (2, .int (nI n9))] := hl
        refine lv_iinc (v := nI (i + 1)) hx hb d_M_grow_56 hl (k := 2) rfl (nI_add _ 1) (by decide) rfl (fun ls hl => ?_)
        have hl : lv_has ls 8 [(5, .int (nI (i + 1))), (3, .long (lN (cyG (M 12) b n9 (i + 1)))), (6, .long (lN (dg (M 12) i * b + cyG (M 12) b n9 i))), (0, .ref (wa T 91)), (1, .int (nI b)), (2, .int (nI n9))] := hl
        refine lv_goto (tgt := 6) hx hb d_M_grow_59 (by decide) ?_
        have hl := lv_sub hl [0, 1, 3, 4, 5] rfl
        have hl : lv_has ls 8 [(5, .int (nI (i + 1))), (3, .long (lN (cyG (M 12) b n9 (i + 1)))), (0, .ref (wa T 91)), (1, .int (nI b)), (2, .int (nI n9))] := hl
        exact ih (i + 1) ls _ _ (by omega) (by omega) hl hw
  exact lp 108 0 ls _ _ (by omega) (by omega) hl hw
set_option maxRecDepth 100000 in
set_option maxHeartbeats 4000000 in
theorem k_M_shrink (l : Launch) (T : wT) (F : wFt) (U K : wUt) (I : wIt) (O : wOt) (M Z : Nat → Nat) (G : Nat → Int32) (b : Nat) (hb9 : 2 ≤ b ∧ b ≤ 36) (hm : M 12 < mM) : Met l y_M_shrink (.code y_M_shrink c_M_shrink 7 (some .int) :: bg) ({ frames := 1, cells := 0, slots := 0, locals := 22 } : Room) (mP T F U K (gI I (dgm M) Z G) O [.ref (wa T 91), .int (nI b)]) (mQi T (nI (M 12 % b)) F U K (gI I (dgm (va_up M 12 (M 12 / b))) (va_up Z 12 (lnM (M 12 / b))) G) O) 0 0 (wA T) := by
  refine wM_i (by decide) (Nat.le_of_ble_eq_true rfl) ?_
  intro p e R s m args below meth c Q ls hx hb hC hRf hRl hret hl hw
  have hRf : 1 ≤ R.frames := hRf
  have hRl : 22 ≤ R.locals := hRl
  have hl : lv_has ls 7 [(0, .ref (wa T 91)), (1, .int (nI b))] := hl
  refine lv_lconst (v := 0) hx hb d_M_shrink_0 (by decide +kernel) ?_
  refine sw_l (y := (lN 0)) (rfl) ?_
  refine lv_lstore_n hx hb d_M_shrink_1 rfl hl (by decide) rfl (fun ls hl => ?_)
  have hl : lv_has ls 7 [(2, .long (lN 0)), (0, .ref (wa T 91)), (1, .int (nI b))] := hl
  refine lv_bipush (v := nI 107) hx hb d_M_shrink_2 (by decide +kernel) ?_
  refine sw_i (y := (nI 108 - 1)) (by decide +kernel) ?_
  refine lv_istore hx hb d_M_shrink_4 hl (by decide) rfl (fun ls hl => ?_)
  have hl : lv_has ls 7 [(4, .int (nI 108 - 1)), (2, .long (lN 0)), (0, .ref (wa T 91)), (1, .int (nI b))] := hl
  rw [show gI I (dgm M) Z G = gI I (va_up (dgm M) 12 (mx (dg (M 12)) (dg (M 12 / b)) 108)) Z G from by rw [mx_full, dgm_up, va_upx]] at hw
  have ec : lN 0 = lN (M 12 / b20 ^ 108 % b) := by rw [Nat.div_eq_of_lt (show M 12 < b20 ^ 108 from hm), Nat.zero_mod]
  have hl : lv_has ls 7 [(4, .int (nI 108 - 1)), (2, .long (lN (M 12 / b20 ^ 108 % b))), (0, .ref (wa T 91)), (1, .int (nI b))] := by rw [← ec]; exact hl
  have lp : ∀ (q : Nat) (ls : Array Slot) (H : Heap) (locs : List Loc), q ≤ 108 → lv_has ls 7 [(4, .int (nI q - 1)), (2, .long (lN (M 12 / b20 ^ q % b))), (0, .ref (wa T 91)), (1, .int (nI b))] → wH T F U K (gI I (va_up (dgm M) 12 (mx (dg (M 12)) (dg (M 12 / b)) q)) Z G) O (wA T) s s.heap H locs → W p l e R s m args below meth c H locs 0 0 Q (F0 m 6 ls []) := by
    intro q
    induction q with
    | zero =>
      intro ls H locs hq hl hw
      have hl : lv_has ls 7 [(4, .int (nI 0 - 1)), (2, .long (lN (M 12 / b20 ^ 0 % b))), (0, .ref (wa T 91)), (1, .int (nI b))] := hl
      refine lv_iload hx hb d_M_shrink_6 (lv_at hl 0 rfl) ?_
      refine d_if_lt (tgt := 59) hx hb d_M_shrink_8 (by decide) (by omega) (fun h0 => ?_) (fun h0 => ?_)
      · rw [mx_0, dgm_up] at hw
        refine lv_aload_n hx hb d_M_shrink_59 rfl (lv_at hl 2 rfl) ?_
        refine lv_bipush (v := nI 12) hx hb d_M_shrink_60 (by decide +kernel) ?_
        refine wcV_v (As := [.int (nI 12)]) hx hb hC hw (k_M_trim l T F U K I O (va_up M 12 (M 12 / b)) Z G 12 (by omega) (by rw [va_up_self]; exact Nat.lt_of_le_of_lt (Nat.div_le_self _ _) hm)) lk_M_30 rfl rfl ⟨by show 0 + 1 ≤ R.frames; omega, by show 8 + (3 + 11) + 0 ≤ R.locals; omega⟩ (by omega) (we_Model ) rfl rfl hl.1 rfl (Nat.le_of_ble_eq_true rfl) ⟨Nat.zero_le _, Nat.zero_le _⟩ d_M_shrink_62 (fun H locs hw => ?_)
        rw [va_up_self] at hw
        refine lv_lload_n hx hb d_M_shrink_65 rfl (lv_at hl 1 rfl) ?_
        refine lv_l2i hx hb d_M_shrink_66 rfl ?_
        refine sw_i (y := nI (M 12 % b)) (by rw [lN_i, Nat.pow_zero, Nat.div_one]) ?_
        exact hret _ _ _ _ hw d_M_shrink_67
      · exact absurd h0 (by omega)
    | succ r ih =>
      intro ls H locs hq hl hw
      rw [nI_pred] at hl
      have hl : lv_has ls 7 [(4, .int (nI r)), (2, .long (lN (M 12 / b20 ^ (r + 1) % b))), (0, .ref (wa T 91)), (1, .int (nI b))] := hl
      refine lv_iload hx hb d_M_shrink_6 (lv_at hl 0 rfl) ?_
      refine n_if_lt hx hb d_M_shrink_8 (by decide) (by omega) ?_
      have hd := dgm_lt (M 12) r
      have hrl := Nat.mod_lt (M 12 / b20 ^ (r + 1)) (by omega : 0 < b)
      have hqe := sk_q (M 12) b r (by omega)
      have hre := sk_r (M 12) b r (by omega)
      have hg := dgm_lt (M 12 / b) r
      refine lv_lload_n hx hb d_M_shrink_11 rfl (lv_at hl 1 rfl) ?_
      refine lv_bipush (v := nI 20) hx hb d_M_shrink_12 (by decide +kernel) ?_
      refine lv_lshl hx hb d_M_shrink_14 rfl ?_
      refine sw_l (y := (lN (M 12 / b20 ^ (r + 1) % b * 1048576))) (wb_shl _ (k := 20) (by decide)) ?_
      refine lv_aload_n hx hb d_M_shrink_15 rfl (lv_at hl 2 rfl) ?_
      refine wg_Model_d hx hb hC hw bw_818 d_M_shrink_16 ?_
      refine lv_sipush (v := nI 1296) hx hb d_M_shrink_19 (by decide +kernel) ?_
      refine lv_iload hx hb d_M_shrink_22 (lv_at hl 0 rfl) ?_
      refine n_iadd hx hb d_M_shrink_24 ?_
      refine wl_md hx hb hw (by omega) d_M_shrink_25 ?_
      refine sw_i (y := nI (dg (M 12) r)) ((gI_d (s := 12) (i := r) (by omega)).trans (congrArg nI (by rw [va_up_self]; exact if_pos (Nat.lt_succ_self r)))) ?_
      refine lv_i2l hx hb d_M_shrink_26 rfl ?_
      refine lv_ladd hx hb d_M_shrink_27 ?_
      refine sw_l (y := (lN (M 12 / b20 ^ (r + 1) % b * 1048576 + dg (M 12) r))) (by rw [nI_l (by omega), lN_add]) ?_
      have ht9 : M 12 / b20 ^ (r + 1) % b * 1048576 + dg (M 12) r < 9223372036854775808 := by omega
      refine lv_lstore hx hb d_M_shrink_28 hl (by decide) rfl (fun ls hl => ?_)
      have hl : lv_has ls 7 [(5, .long (lN (M 12 / b20 ^ (r + 1) % b * 1048576 + dg (M 12) r))), (4, .int (nI r)), (2, .long (lN (M 12 / b20 ^ (r + 1) % b))), (0, .ref (wa T 91)), (1, .int (nI b))] := hl
      refine lv_aload_n hx hb d_M_shrink_30 rfl (lv_at hl 3 rfl) ?_
      refine wg_Model_d hx hb hC hw bw_818 d_M_shrink_31 ?_
      refine lv_sipush (v := nI 1296) hx hb d_M_shrink_34 (by decide +kernel) ?_
      refine lv_iload hx hb d_M_shrink_37 (lv_at hl 1 rfl) ?_
      refine n_iadd hx hb d_M_shrink_39 ?_
      refine lv_lload hx hb d_M_shrink_40 (lv_at hl 0 rfl) ?_
      refine lv_iload_n hx hb d_M_shrink_42 rfl (lv_at hl 4 rfl) ?_
      refine lv_i2l hx hb d_M_shrink_43 rfl ?_
      refine sw_l (y := (lN b)) (nI_l (by omega)) ?_
      refine lv_ldiv hx hb d_M_shrink_44 (lN_ne0 (by omega) (by omega)) ?_
      refine sw_l (y := (lN (dg (M 12 / b) r))) (by rw [pk_lDiv ht9 (by omega) (by omega), hqe]) ?_
      refine lv_l2i hx hb d_M_shrink_45 rfl ?_
      refine sw_i (y := nI (dg (M 12 / b) r)) (lN_i _) ?_
      refine ws_md hx hb hw (by omega) d_M_shrink_46 (fun H locs hw => ?_)
      rw [show (va_up (gI I (va_up (dgm M) 12 (mx (dg (M 12)) (dg (M 12 / b)) (r + 1))) Z G) 1 (upd ((gI I (va_up (dgm M) 12 (mx (dg (M 12)) (dg (M 12 / b)) (r + 1))) Z G) 1) (1296 + r) (nI (dg (M 12 / b) r)))) = (gI I (va_up (va_up (dgm M) 12 (mx (dg (M 12)) (dg (M 12 / b)) (r + 1))) 12 (va_up ((va_up (dgm M) 12 (mx (dg (M 12)) (dg (M 12 / b)) (r + 1))) 12) r (dg (M 12 / b) r))) Z G) from gI_sd (s := 12) (i := r) (by omega)] at hw
      rw [mx_sd rfl] at hw
      refine lv_lload hx hb d_M_shrink_47 (lv_at hl 0 rfl) ?_
      refine lv_iload_n hx hb d_M_shrink_49 rfl (lv_at hl 4 rfl) ?_
      refine lv_i2l hx hb d_M_shrink_50 rfl ?_
      refine sw_l (y := (lN b)) (nI_l (by omega)) ?_
      refine lv_lrem hx hb d_M_shrink_51 (lN_ne0 (by omega) (by omega)) ?_
      refine sw_l (y := (lN (M 12 / b20 ^ r % b))) (by rw [pk_lRem ht9 (by omega) (by omega), hre]) ?_
      refine lv_lstore_n hx hb d_M_shrink_52 rfl hl (by decide) rfl (fun ls hl => ?_)
      have hl : lv_has ls 7 [(2, .long (lN (M 12 / b20 ^ r % b))), (5, .long (lN (M 12 / b20 ^ (r + 1) % b * 1048576 + dg (M 12) r))), (4, .int (nI r)), (0, .ref (wa T 91)), (1, .int (nI b))] := hl
      refine lv_iinc (v := (nI r - 1)) hx hb d_M_shrink_53 hl (k := 2) rfl (i32_m1 _) (by decide) rfl (fun ls hl => ?_)
      have hl : lv_has ls 7 [(4, .int (nI r - 1)), (2, .long (lN (M 12 / b20 ^ r % b))), (5, .long (lN (M 12 / b20 ^ (r + 1) % b * 1048576 + dg (M 12) r))), (0, .ref (wa T 91)), (1, .int (nI b))] := hl
      refine lv_goto (tgt := 6) hx hb d_M_shrink_56 (by decide) ?_
      have hl := lv_sub hl [0, 1, 3, 4] rfl
      have hl : lv_has ls 7 [(4, .int (nI r - 1)), (2, .long (lN (M 12 / b20 ^ r % b))), (0, .ref (wa T 91)), (1, .int (nI b))] := hl
      exact ih ls H locs (by omega) hl hw
  exact lp 108 ls _ _ (by omega) hl hw
