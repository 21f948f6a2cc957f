/-! Natural: order, increase, digits in a radix -/
theorem lN_ne0 {n : Nat} (h0 : 0 < n) (h : n < 9223372036854775808) : ¬ lN n = 0 := fun q => by
  have q2 : lN n = lN 0 := q
  rw [pk_lEQ (by omega) (by omega)] at q2
  omega
theorem pd_a {a rx B : Nat} (hr : 0 < rx) (hB : 0 < B) : (a / B % rx * B + a % B) / rx = a / rx % B ∧ (a / B % rx * B + a % B) % rx = a % rx := by
  have e1 := Nat.div_add_mod a B
  have e2 := Nat.div_add_mod (a / B) rx
  have h1 := Nat.mod_lt (a / B) hr
  have h2 := Nat.mod_lt a hB
  have h3 : a / B % rx * B + a % B < B * rx := by
    have : (a / B % rx + 1) * B ≤ rx * B := Nat.mul_le_mul_right B h1
    have e3 : (a / B % rx + 1) * B = a / B % rx * B + B := by rw [Nat.add_mul, Nat.one_mul]
    rw [Nat.mul_comm B rx]; omega
  have e4 : a = (a / B % rx * B + a % B) + rx * (a / B / rx * B) := by
    have e5 : B * (a / B) = B * (rx * (a / B / rx) + a / B % rx) := by rw [e2]
    have e6 : B * (rx * (a / B / rx) + a / B % rx) = rx * (a / B / rx * B) + a / B % rx * B := by grind
    omega
  constructor
  · have e7 : a / rx = (a / B % rx * B + a % B) / rx + a / B / rx * B := by
      conv => lhs; rw [e4]
      rw [Nat.add_mul_div_left _ _ hr]
    rw [e7, Nat.add_mul_mod_self_right]
    exact (Nat.mod_eq_of_lt (Nat.div_lt_of_lt_mul (by rw [Nat.mul_comm rx B]; exact h3))).symm
  · conv => rhs; rw [e4]
    rw [Nat.add_mul_mod_self_left]
theorem pd_q (v rx r : Nat) (hr : 0 < rx) : (v / vB ^ (r + 1) % rx * vB + v / vB ^ r % vB) / rx = v / rx / vB ^ r % vB := by
  have e : v / vB ^ (r + 1) = v / vB ^ r / vB := by rw [Nat.pow_succ, Nat.div_div_eq_div_mul]
  rw [e, (pd_a hr vB_pos).1, Nat.div_div_eq_div_mul, Nat.div_div_eq_div_mul, Nat.mul_comm]
theorem pd_r (v rx r : Nat) (hr : 0 < rx) : (v / vB ^ (r + 1) % rx * vB + v / vB ^ r % vB) % rx = v / vB ^ r % rx := by
  have e : v / vB ^ (r + 1) = v / vB ^ r / vB := by rw [Nat.pow_succ, Nat.div_div_eq_div_mul]
  rw [e, (pd_a hr vB_pos).2]
theorem pd_h {v rx r : Nat} (hr : rx ≤ 36) (h0 : 0 < rx) : v / vB ^ (r + 1) % rx * vB + v / vB ^ r % vB < 9223372036854775808 := by
  have h1 := Nat.mod_lt (v / vB ^ (r + 1)) h0
  have h2 := Nat.mod_lt (v / vB ^ r) vB_pos
  have e : vB = 268435456 := rfl
  rw [e] at h2 ⊢
  have : v / 268435456 ^ (r + 1) % rx < rx := h1
  omega
theorem ps_step {f : Nat → Int64} {i rx : Nat} {c d t : Int64} {S : Int} (hr : 2 ≤ rx ∧ rx ≤ 36) (hc : 0 ≤ c.toInt ∧ c.toInt ≤ 36) (hd : 0 ≤ d.toInt ∧ d.toInt < 268435456) (ht : t = c + d * lN rx) (h : lm_ev b28 (nd f) i + c.toInt * b28 ^ i = S) :
    (0 ≤ (t >>> ((nI 28).toInt64 &&& 63)).toInt ∧ (t >>> ((nI 28).toInt64 &&& 63)).toInt ≤ 36) ∧ lm_ev b28 (nd (vp_updL f i (t &&& 268435455))) (i + 1) + (t >>> ((nI 28).toInt64 &&& 63)).toInt * b28 ^ (i + 1) = S + (d.toInt * rx) * b28 ^ i := by
  have er : (lN rx).toInt = (rx : Int) := lj_lN (by omega)
  have hm := lm_mulbd hd.1 (show (0 : Int) ≤ (rx : Int) by omega) (show d.toInt ≤ 268435455 by omega) (show (rx : Int) ≤ 36 by omega)
  have e0 : (d * lN rx).toInt = d.toInt * rx := by rw [lj_mul (by rw [er]; omega) (by rw [er]; omega), er]
  have e2 : t.toInt = c.toInt + d.toInt * rx := by rw [ht, lj_add (by rw [e0]; omega) (by rw [e0]; omega), e0]
  refine ⟨?_, nd_carry e2 h⟩
  have e3 : (t >>> ((nI 28).toInt64 &&& 63)).toInt = t.toInt / 268435456 := lj_shr28 t
  rw [e3, e2]; omega
theorem i64_mask : (268435455 : Int64).toInt = 268435455 := by decide +kernel

set_option maxRecDepth 100000 in
set_option maxHeartbeats 4000000 in
theorem k_N_isOne (l : Launch) (T : wT) (V : Nat → Nat) (K : wUt) (I : wIt) (O : wOt) (x : Nat) (hi : x < 34) (hV : ∀ n, n < 34 → V n < vLim) : Met l y_N_isOne (.code y_N_isOne c_N_isOne 1 (some .boolean) :: bg) ({ frames := 0, cells := 0, slots := 0, locals := 0 } : Room) (mP T (fF V) (fU V) K I O [.ref (wa T x)]) (mQi T (if V x = 1 then (1 : Int32) else 0) (fF V) (fU V) K I O) 0 0 (wA T) := by
  refine wM_z (by decide) (Nat.le_of_ble_eq_true rfl) (zN _) ?_
  intro p e R s m args below meth c Q ls hx hb hC hRf hRl hret hl hw
  have hRf : 0 ≤ R.frames := hRf
  have hRl : 0 ≤ R.locals := hRl
  have hl : lv_has ls 1 [(0, .ref (wa T x))] := hl
  have h1 := kD_le (V x)
  refine lv_aload_n hx hb d_N_isOne_0 rfl (lv_at hl 0 rfl) ?_
  refine wg_Natural_used hx hb hC hw (by omega) bw_45 d_N_isOne_1 ?_
  refine sw_i (y := nI (kD (V x))) (rfl) ?_
  refine lv_iconst (v := nI 1) hx hb d_N_isOne_4 (by decide +kernel) ?_
  refine n_icmp_ne (tgt := 23) hx hb d_N_isOne_5 (by decide) (by omega) (by omega) (fun h => ?_) (fun h => ?_)
  · refine lv_iconst (v := nI 0) hx hb d_N_isOne_23 (by decide +kernel) ?_
    refine sw_i (y := (if V x = 1 then (1 : Int32) else 0)) (by rw [if_neg (fun q => h (by rw [q]; decide +kernel))]; rfl) ?_
    exact hret _ _ _ _ hw d_N_isOne_24
  · have h2 : lm_ev b28 (nd (fD (V x))) 1 = (V x : Int) := by rw [← h]; exact fD_evI (hV x hi)
    have h3 : nd (fD (V x)) 0 = (V x : Int) := by rw [← h2]; simp [lm_ev]
    refine lv_aload_n hx hb d_N_isOne_8 rfl (lv_at hl 0 rfl) ?_
    refine wg_Natural_limbs hx hb hC hw (by omega) bw_43 d_N_isOne_9 ?_
    refine lv_iconst (v := nI 0) hx hb d_N_isOne_12 (by decide +kernel) ?_
    refine wl_limbs hx hb hw (by omega) (by omega) d_N_isOne_13 ?_
    refine lv_lconst (v := 1) hx hb d_N_isOne_14 (by decide +kernel) ?_
    refine lc_ne (tgt := 23) hx hb d_N_isOne_15 d_N_isOne_16 (by decide) (fun h8 => ?_) (fun h8 => ?_)
    · refine lv_iconst (v := nI 0) hx hb d_N_isOne_23 (by decide +kernel) ?_
      refine sw_i (y := (if V x = 1 then (1 : Int32) else 0)) (by rw [if_neg (fun q => h8 (by show nd (fD (V x)) 0 = _; rw [h3, q]; decide +kernel))]; rfl) ?_
      exact hret _ _ _ _ hw d_N_isOne_24
    · refine lv_iconst (v := nI 1) hx hb d_N_isOne_19 (by decide +kernel) ?_
      refine lv_goto (tgt := 24) hx hb d_N_isOne_20 (by decide) ?_
      refine sw_i (y := (if V x = 1 then (1 : Int32) else 0)) (by rw [if_pos (by have h9 : nd (fD (V x)) 0 = (1 : Int64).toInt := h8; rw [h3, lj_1] at h9; omega)]; rfl) ?_
      exact hret _ _ _ _ hw d_N_isOne_24
set_option maxRecDepth 100000 in
set_option maxHeartbeats 4000000 in
theorem k_N_order (l : Launch) (T : wT) (V : Nat → Nat) (K : wUt) (I : wIt) (O : wOt) (x y : Nat) (hi : x < 34) (hy9 : y < 34) (hV : ∀ n, n < 34 → V n < vLim) : Met l y_N_order (.code y_N_order c_N_order 3 (some .int) :: bg) ({ frames := 0, cells := 0, slots := 0, locals := 0 } : Room) (mP T (fF V) (fU V) K I O [.ref (wa T x), .ref (wa T y)]) (mQi T (if V x < V y then (-1 : Int32) else if V x = V y then 0 else 1) (fF V) (fU V) K I O) 0 0 (wA T) := by
  refine wM_i (by decide) (Nat.le_of_ble_eq_true rfl) ?_
  intro p e R s m args below meth c Q ls hx hb hC hRf hRl hret hl hw
  have hRf : 0 ≤ R.frames := hRf
  have hRl : 0 ≤ R.locals := hRl
  have hl : lv_has ls 3 [(0, .ref (wa T x)), (1, .ref (wa T y))] := hl
  have h1 := kD_le (V x)
  have h2 := kD_le (V y)
  refine lv_aload_n hx hb d_N_order_0 rfl (lv_at hl 0 rfl) ?_
  refine wg_Natural_used hx hb hC hw (by omega) bw_45 d_N_order_1 ?_
  refine sw_i (y := nI (kD (V x))) (rfl) ?_
  refine lv_aload_n hx hb d_N_order_4 rfl (lv_at hl 1 rfl) ?_
  refine wg_Natural_used hx hb hC hw (by omega) bw_45 d_N_order_5 ?_
  refine sw_i (y := nI (kD (V y))) (rfl) ?_
  refine n_icmp_eq (tgt := 28) hx hb d_N_order_8 (by decide) (by omega) (by omega) (fun h => ?_) (fun h => ?_)
  · refine lv_aload_n hx hb d_N_order_28 rfl (lv_at hl 0 rfl) ?_
    refine wg_Natural_used hx hb hC hw (by omega) bw_45 d_N_order_29 ?_
    refine sw_i (y := nI (kD (V x))) (rfl) ?_
    refine lv_iconst (v := nI 1) hx hb d_N_order_32 (by decide +kernel) ?_
    refine lv_isub hx hb d_N_order_33 ?_
    refine sw_i (y := (nI (kD (V x)) - 1)) (rfl) ?_
    refine lv_istore_n hx hb d_N_order_34 rfl hl (by decide) rfl (fun ls hl => ?_)
    have hl : lv_has ls 3 [(2, .int (nI (kD (V x)) - 1)), (0, .ref (wa T x)), (1, .ref (wa T y))] := hl
    have vx := fD_evI (hV x hi)
    have vy := fD_evI (hV y hy9)
    rw [← h] at vy
    have lp : ∀ (q : Nat)  (ls : Array Slot) (H : Heap) (locs : List Loc), (∀ j, q ≤ j → j < kD (V x) → fD (V x) j = fD (V y) j) → (q ≤ kD (V x)) →  lv_has ls 3 [(2, .int (nI q - 1)), (0, .ref (wa T x)), (1, .ref (wa T y))] → wH T (fF V) (fU V) K I O (wA T) s s.heap H locs → W p l e R s m args below meth c H locs 0 0 Q (F0 m 35 ls []) := by
      intro q
      induction q with
      | zero =>
        intro  ls H locs h1 h2 hl hw
        refine lv_iload_n hx hb d_N_order_35 rfl (lv_at hl 0 rfl) ?_
        refine d_if_lt (tgt := 83) hx hb d_N_order_36 (by decide) (by omega) (fun h0 => ?_) (fun h0 => ?_)
        · refine lv_iconst (v := nI 0) hx hb d_N_order_83 (by decide +kernel) ?_
          have e9 : V x = V y := by
            have : (V x : Int) = V y := by rw [← vx, ← vy]; exact lm_congr (fun j hj => by unfold nd; rw [h1 j (by omega) hj])
            omega
          refine sw_i (y := (if V x < V y then (-1 : Int32) else if V x = V y then 0 else 1)) (by rw [if_neg (by omega), if_pos e9]; rfl) ?_
          exact hret _ _ _ _ hw d_N_order_84
        · exact absurd h0 (by omega)
      | succ q ih =>
        intro  ls H locs h1 h2 hl hw
        rw [nI_pred] at hl
        have hl : lv_has ls 3 [(2, .int (nI q)), (0, .ref (wa T x)), (1, .ref (wa T y))] := hl
        refine lv_iload_n hx hb d_N_order_35 rfl (lv_at hl 0 rfl) ?_
        refine n_if_lt hx hb d_N_order_36 (by decide) (by omega) ?_
        refine lv_aload_n hx hb d_N_order_39 rfl (lv_at hl 1 rfl) ?_
        refine wg_Natural_limbs hx hb hC hw (by omega) bw_43 d_N_order_40 ?_
        refine lv_iload_n hx hb d_N_order_43 rfl (lv_at hl 0 rfl) ?_
        refine wl_limbs hx hb hw (by omega) (by omega) d_N_order_44 ?_
        refine lv_aload_n hx hb d_N_order_45 rfl (lv_at hl 2 rfl) ?_
        refine wg_Natural_limbs hx hb hC hw (by omega) bw_43 d_N_order_46 ?_
        refine lv_iload_n hx hb d_N_order_49 rfl (lv_at hl 0 rfl) ?_
        refine wl_limbs hx hb hw (by omega) (by omega) d_N_order_50 ?_
        refine lc_eq (tgt := 77) hx hb d_N_order_51 d_N_order_52 (by decide) (fun h8 => ?_) (fun h8 => ?_)
        · refine lv_iinc (v := (nI q - 1)) hx hb d_N_order_77 hl (k := 0) rfl (i32_m1 _) (by decide) rfl (fun ls hl => ?_)
          have hl : lv_has ls 3 [(2, .int (nI q - 1)), (0, .ref (wa T x)), (1, .ref (wa T y))] := hl
          refine lv_goto (tgt := 35) hx hb d_N_order_80 (by decide) ?_
          refine ih ls H locs (fun j a1 a2 => ?_) (by omega) hl hw
          by_cases ej : j = q
          · rw [ej]; exact lj_inj h8
          · exact h1 j (by omega) a2
        · refine lv_aload_n hx hb d_N_order_55 rfl (lv_at hl 1 rfl) ?_
          refine wg_Natural_limbs hx hb hC hw (by omega) bw_43 d_N_order_56 ?_
          refine lv_iload_n hx hb d_N_order_59 rfl (lv_at hl 0 rfl) ?_
          refine wl_limbs hx hb hw (by omega) (by omega) d_N_order_60 ?_
          refine lv_aload_n hx hb d_N_order_61 rfl (lv_at hl 2 rfl) ?_
          refine wg_Natural_limbs hx hb hC hw (by omega) bw_43 d_N_order_62 ?_
          refine lv_iload_n hx hb d_N_order_65 rfl (lv_at hl 0 rfl) ?_
          refine wl_limbs hx hb hw (by omega) (by omega) d_N_order_66 ?_
          refine lc_ge (tgt := 75) hx hb d_N_order_67 d_N_order_68 (by decide) (fun h7 => ?_) (fun h7 => ?_)
          · refine lv_iconst (v := nI 1) hx hb d_N_order_75 (by decide +kernel) ?_
            have e7 : lm_ev b28 (nd (fD (V y))) (q + 1) < lm_ev b28 (nd (fD (V x))) (q + 1) := lm_ltN b28_pos (fun j _ => (fD_in (V y) j).2) (fun j _ => (fD_in (V x) j).1) (by have h6 : nd (fD (V y)) q ≤ nd (fD (V x)) q := h7; have h5 : nd (fD (V x)) q ≠ nd (fD (V y)) q := h8; omega)
            have e6 := lm_ltUp (B := b28) (n := kD (V x)) h2 (fun j a1 a2 => by unfold nd; rw [h1 j a1 a2]) e7
            rw [vx, vy] at e6
            refine sw_i (y := (if V x < V y then (-1 : Int32) else if V x = V y then 0 else 1)) (by rw [if_neg (by omega), if_neg (by omega)]; rfl) ?_
            exact hret _ _ _ _ hw d_N_order_76
          · refine lv_iconst (v := (-1)) hx hb d_N_order_71 (by decide +kernel) ?_
            refine lv_goto (tgt := 76) hx hb d_N_order_72 (by decide) ?_
            have e7 : lm_ev b28 (nd (fD (V x))) (q + 1) < lm_ev b28 (nd (fD (V y))) (q + 1) := lm_ltN b28_pos (fun j _ => (fD_in (V x) j).2) (fun j _ => (fD_in (V y) j).1) h7
            have e6 := lm_ltUp (B := b28) (n := kD (V x)) h2 (fun j a1 a2 => by unfold nd; rw [h1 j a1 a2]) e7
            rw [vx, vy] at e6
            refine sw_i (y := (if V x < V y then (-1 : Int32) else if V x = V y then 0 else 1)) (by rw [if_pos (by omega)]) ?_
            exact hret _ _ _ _ hw d_N_order_76
    exact lp (kD (V x)) ls _ _ (fun j a1 a2 => absurd a2 (by omega)) (Nat.le_refl _) hl hw
  · refine lv_aload_n hx hb d_N_order_11 rfl (lv_at hl 0 rfl) ?_
    refine wg_Natural_used hx hb hC hw (by omega) bw_45 d_N_order_12 ?_
    refine sw_i (y := nI (kD (V x))) (rfl) ?_
    refine lv_aload_n hx hb d_N_order_15 rfl (lv_at hl 1 rfl) ?_
    refine wg_Natural_used hx hb hC hw (by omega) bw_45 d_N_order_16 ?_
    refine sw_i (y := nI (kD (V y))) (rfl) ?_
    refine n_icmp_ge (tgt := 26) hx hb d_N_order_19 (by decide) (by omega) (by omega) (fun h8 => ?_) (fun h8 => ?_)
    · refine lv_iconst (v := nI 1) hx hb d_N_order_26 (by decide +kernel) ?_
      have e9 := kD_less (a := V y) (b := V x) (hV y hy9) (by omega)
      refine sw_i (y := (if V x < V y then (-1 : Int32) else if V x = V y then 0 else 1)) (by rw [if_neg (by omega), if_neg (by omega)]; rfl) ?_
      exact hret _ _ _ _ hw d_N_order_27
    · refine lv_iconst (v := (-1)) hx hb d_N_order_22 (by decide +kernel) ?_
      refine lv_goto (tgt := 27) hx hb d_N_order_23 (by decide) ?_
      have e9 := kD_less (a := V x) (b := V y) (hV x hi) (by omega)
      refine sw_i (y := (if V x < V y then (-1 : Int32) else if V x = V y then 0 else 1)) (by rw [if_pos (by omega)]) ?_
      exact hret _ _ _ _ hw d_N_order_27
set_option maxRecDepth 100000 in
set_option maxHeartbeats 4000000 in
theorem k_N_pushDigit (l : Launch) (T : wT) (V : Nat → Nat) (K : wUt) (I : wIt) (O : wOt) (x rx dg : Nat) (hi : x < 34) (hr : 2 ≤ rx ∧ rx ≤ 36) (hg : dg < rx) (hk : kD (V x) ≤ 74) (hV : ∀ n, n < 34 → V n < vLim) : Met l y_N_pushDigit (.code y_N_pushDigit c_N_pushDigit 7 none :: bg) ({ frames := 1, cells := 0, slots := 0, locals := 22 } : Room) (mP T (fF V) (fU V) K I O [.ref (wa T x), .int (nI rx), .int (nI dg)]) (mQv T (fF (va_up V x (V x * rx + dg))) (fU (va_up V x (V x * rx + dg))) K I O) 0 0 (wA T) := by
  refine wM_v (by decide) (Nat.le_of_ble_eq_true rfl) ?_
  intro p e R s m args below meth c Q ls hx hb hC hRf hRl hret hl hw
  have hRf : 1 ≤ R.frames := hRf
  have hRl : 22 ≤ R.locals := hRl
  have hl : lv_has ls 7 [(0, .ref (wa T x)), (1, .int (nI rx)), (2, .int (nI dg))] := hl
  refine lv_iload_n hx hb d_N_pushDigit_0 rfl (lv_at hl 2 rfl) ?_
  refine lv_i2l hx hb d_N_pushDigit_1 rfl ?_
  refine sw_l (y := lN dg) (nI_l (by omega)) ?_
  refine lv_lstore_n hx hb d_N_pushDigit_2 rfl hl (by decide) rfl (fun ls hl => ?_)
  have hl : lv_has ls 7 [(3, .long (lN dg)), (0, .ref (wa T x)), (1, .int (nI rx)), (2, .int (nI dg))] := hl
  refine lv_aload_n hx hb d_N_pushDigit_3 rfl (lv_at hl 1 rfl) ?_
  refine wg_Natural_used hx hb hC hw (by omega) bw_45 d_N_pushDigit_4 ?_
  refine sw_i (y := nI (kD (V x))) (rfl) ?_
  refine lv_istore hx hb d_N_pushDigit_7 hl (by decide) rfl (fun ls hl => ?_)
  have hl : lv_has ls 7 [(5, .int (nI (kD (V x)))), (3, .long (lN dg)), (0, .ref (wa T x)), (1, .int (nI rx)), (2, .int (nI dg))] := hl
  refine lv_iconst (v := nI 0) hx hb d_N_pushDigit_9 (by decide +kernel) ?_
  refine lv_istore hx hb d_N_pushDigit_10 hl (by decide) rfl (fun ls hl => ?_)
  have hl : lv_has ls 7 [(6, .int (nI 0)), (5, .int (nI (kD (V x)))), (3, .long (lN dg)), (0, .ref (wa T x)), (1, .int (nI rx)), (2, .int (nI dg))] := hl
  rw [← va_upx (fF V) x] at hw
  have lp : ∀ (n i : Nat) (f : Nat → Int64) (cy : Int64) (ls : Array Slot) (H : Heap) (locs : List Loc), (kD (V x)) - i = n → i ≤ (kD (V x)) → (0 ≤ cy.toInt ∧ cy.toInt ≤ 36) → (lm_ev b28 (nd f) i + cy.toInt * b28 ^ i = lm_ev b28 (nd (fD (V x))) i * rx + dg) → (∀ j, j < i → 0 ≤ nd f j ∧ nd f j < b28) → (∀ j, i ≤ j → f j = fD (V x) j) →  lv_has ls 7 [(6, .int (nI i)), (5, .int (nI (kD (V x)))), (3, .long cy), (0, .ref (wa T x)), (1, .int (nI rx)), (2, .int (nI dg))] → wH T (va_up (fF V) x f) (fU V) K I O (wA T) s s.heap H locs → W p l e R s m args below meth c H locs 0 0 Q (F0 m 12 ls []) := by
    intro n
    induction n with
    | zero =>
      intro i f cy ls H locs hn hle h1 h2 h3 h4 hl hw
      refine lv_iload hx hb d_N_pushDigit_12 (lv_at hl 0 rfl) ?_
      refine lv_iload hx hb d_N_pushDigit_14 (lv_at hl 1 rfl) ?_
      refine n_icmp_ge (tgt := 55) hx hb d_N_pushDigit_16 (by decide) (by omega) (by omega) (fun h0 => ?_) (fun h0 => ?_)
      · have e9 : kD (V x) = i := by omega
        subst e9
        refine lv_aload_n hx hb d_N_pushDigit_55 rfl (lv_at hl 3 rfl) ?_
        refine wg_Natural_limbs hx hb hC hw (by omega) bw_43 d_N_pushDigit_56 ?_
        refine lv_iload hx hb d_N_pushDigit_59 (lv_at hl 1 rfl) ?_
        refine lv_lload_n hx hb d_N_pushDigit_61 rfl (lv_at hl 2 rfl) ?_
        refine ws_limbs hx hb hw (by omega) (by omega) d_N_pushDigit_62 (fun H locs hw => ?_)
        refine lv_aload_n hx hb d_N_pushDigit_63 rfl (lv_at hl 3 rfl) ?_
        refine lv_iload hx hb d_N_pushDigit_64 (lv_at hl 1 rfl) ?_
        refine lv_iconst (v := nI 1) hx hb d_N_pushDigit_66 (by decide +kernel) ?_
        refine n_iadd hx hb d_N_pushDigit_67 ?_
        rw [bx_uu, va_up_self] at hw
        have s1 : ∀ j, j < kD (V x) + 1 → 0 ≤ nd (vp_updL f (kD (V x)) cy) j ∧ nd (vp_updL f (kD (V x)) cy) j < b28 := fun j hj => by
          by_cases ej : j = kD (V x)
          · rw [ej, nd_upd]; exact ⟨h1.1, by show cy.toInt < 268435456; omega⟩
          · rw [nd_updN ej]; exact h3 j (by omega)
        have s2 : lm_ev b28 (nd (vp_updL f (kD (V x)) cy)) (kD (V x) + 1) = ((V x * rx + dg : Nat) : Int) := by
          rw [lm_evs, nd_upd, nd_evU (Nat.le_refl _), h2, fD_evI (hV x hi)]; simp
        refine wcV_v (As := [.int (nI ((kD (V x)) + 1))]) hx hb hC hw (k_N_settle l T (va_up (fF V) x (vp_updL f (kD (V x)) cy)) (fU V) K I O x (kD (V x)) (kD (V x) + 1) (V x * rx + dg) hi rfl (kD_le _) (by omega) (by rw [va_up_self]; exact s1) (fun j a1 a2 a3 => by rw [va_up_self, pk_uLn (by omega), h4 j (by omega)]; exact fD_zero (hV x hi) a2) (by rw [va_up_self]; exact s2)) lk_N_39 rfl rfl ⟨by show 0 + 1 ≤ R.frames; omega, by show 8 + (3 + 11) + 0 ≤ R.locals; omega⟩ (by omega) (we_Natural (by omega)) rfl rfl hl.1 rfl (Nat.le_of_ble_eq_true rfl) ⟨Nat.zero_le _, Nat.zero_le _⟩ d_N_pushDigit_68 (fun H locs hw => ?_)
        rw [bx_uu, fF_up, fU_up] at hw
        exact hret _ _ _ _ hw d_N_pushDigit_71
      · exact absurd h0 (by omega)
    | succ n ih =>
      intro i f cy ls H locs hn hle h1 h2 h3 h4 hl hw
      refine lv_iload hx hb d_N_pushDigit_12 (lv_at hl 0 rfl) ?_
      refine lv_iload hx hb d_N_pushDigit_14 (lv_at hl 1 rfl) ?_
      refine n_icmp_ge (tgt := 55) hx hb d_N_pushDigit_16 (by decide) (by omega) (by omega) (fun h0 => ?_) (fun h0 => ?_)
      · exact absurd h0 (by omega)
      · refine lv_lload_n hx hb d_N_pushDigit_19 rfl (lv_at hl 2 rfl) ?_
        refine lv_aload_n hx hb d_N_pushDigit_20 rfl (lv_at hl 3 rfl) ?_
        refine wg_Natural_limbs hx hb hC hw (by omega) bw_43 d_N_pushDigit_21 ?_
        refine lv_iload hx hb d_N_pushDigit_24 (lv_at hl 0 rfl) ?_
        refine wl_limbs hx hb hw (by omega) (by omega) d_N_pushDigit_26 ?_
        refine sw_l (y := fD (V x) i) (pv_alias h4) ?_
        refine lv_iload_n hx hb d_N_pushDigit_27 rfl (lv_at hl 4 rfl) ?_
        refine lv_i2l hx hb d_N_pushDigit_28 rfl ?_
        refine sw_l (y := lN rx) (nI_l (by omega)) ?_
        refine lv_lmul hx hb d_N_pushDigit_29 ?_
        refine lv_ladd hx hb d_N_pushDigit_30 ?_
        refine lv_topl (fun t et => ?_)
        refine lv_lstore_n hx hb d_N_pushDigit_31 rfl hl (by decide) rfl (fun ls hl => ?_)
        have hl : lv_has ls 7 [(3, .long t), (6, .int (nI i)), (5, .int (nI (kD (V x)))), (0, .ref (wa T x)), (1, .int (nI rx)), (2, .int (nI dg))] := hl
        refine lv_aload_n hx hb d_N_pushDigit_32 rfl (lv_at hl 3 rfl) ?_
        refine wg_Natural_limbs hx hb hC hw (by omega) bw_43 d_N_pushDigit_33 ?_
        refine lv_iload hx hb d_N_pushDigit_36 (lv_at hl 1 rfl) ?_
        refine lv_lload_n hx hb d_N_pushDigit_38 rfl (lv_at hl 0 rfl) ?_
        refine lv_ldc2 (v := 268435455) hx hb hC.ow (hC.hts bw_300) d_N_pushDigit_39 ?_
        refine lv_land hx hb d_N_pushDigit_42 ?_
        refine ws_limbs hx hb hw (by omega) (by omega) d_N_pushDigit_43 (fun H locs hw => ?_)
        refine lv_lload_n hx hb d_N_pushDigit_44 rfl (lv_at hl 0 rfl) ?_
        refine lv_bipush (v := nI 28) hx hb d_N_pushDigit_45 (by decide +kernel) ?_
        refine lv_lshr hx hb d_N_pushDigit_47 rfl ?_
        refine lv_lstore_n hx hb d_N_pushDigit_48 rfl hl (by decide) rfl (fun ls hl => ?_)
        have hl : lv_has ls 7 [(3, .long (t >>> ((nI 28).toInt64 &&& 63))), (6, .int (nI i)), (5, .int (nI (kD (V x)))), (0, .ref (wa T x)), (1, .int (nI rx)), (2, .int (nI dg))] := hl
        refine lv_iinc (v := nI (i + 1)) hx hb d_N_pushDigit_49 hl (k := 1) rfl (nI_add _ 1) (by decide) rfl (fun ls hl => ?_)
        have hl : lv_has ls 7 [(6, .int (nI (i + 1))), (3, .long (t >>> ((nI 28).toInt64 &&& 63))), (5, .int (nI (kD (V x)))), (0, .ref (wa T x)), (1, .int (nI rx)), (2, .int (nI dg))] := hl
        refine lv_goto (tgt := 12) hx hb d_N_pushDigit_52 (by decide) ?_
        rw [bx_uu, va_up_self] at hw
        have hl := lv_sub hl [0, 2, 1, 3, 4, 5] rfl
        have hl : lv_has ls 7 [(6, .int (nI (i + 1))), (5, .int (nI (kD (V x)))), (3, .long (t >>> ((nI 28).toInt64 &&& 63))), (0, .ref (wa T x)), (1, .int (nI rx)), (2, .int (nI dg))] := hl
        have q := ps_step hr h1 (fD_in (V x) i) et h2
        exact ih (i + 1) _ _ ls H locs (by omega) (by omega) q.1 (q.2.trans (by rw [lm_evs]; show _ + nd (fD (V x)) i * _ * _ = _; grind)) (pu_in h3) (fun j hj => by rw [pk_uLn (by omega)]; exact h4 j (by omega)) hl hw
  exact lp (kD (V x)) 0 (fD (V x)) (lN dg) ls _ _ (by omega) (by omega) (by rw [lj_lN (by omega)]; omega) (by rw [lm_ev0, lj_lN (by omega)]; simp) (fun j h => absurd h (by omega)) (fun _ _ => rfl) hl hw
set_option maxRecDepth 100000 in
set_option maxHeartbeats 4000000 in
theorem k_N_popDigit (l : Launch) (T : wT) (V : Nat → Nat) (K : wUt) (I : wIt) (O : wOt) (x rx : Nat) (hi : x < 34) (hr : 2 ≤ rx ∧ rx ≤ 36) (hV : ∀ n, n < 34 → V n < vLim) : Met l y_N_popDigit (.code y_N_popDigit c_N_popDigit 7 (some .int) :: bg) ({ frames := 1, cells := 0, slots := 0, locals := 22 } : Room) (mP T (fF V) (fU V) K I O [.ref (wa T x), .int (nI rx)]) (mQi T (nI (V x % rx)) (fF (va_up V x (V x / rx))) (fU (va_up V x (V x / rx))) K I O) 0 0 (wA T) := by
  refine wM_i (by decide) (Nat.le_of_ble_eq_true rfl) ?_
  intro p e R s m args below meth c Q ls hx hb hC hRf hRl hret hl hw
  have hRf : 1 ≤ R.frames := hRf
  have hRl : 22 ≤ R.locals := hRl
  have hl : lv_has ls 7 [(0, .ref (wa T x)), (1, .int (nI rx))] := hl
  have h9 := kD_le (V x)
  refine lv_lconst (v := 0) hx hb d_N_popDigit_0 (by decide +kernel) ?_
  refine lv_lstore_n hx hb d_N_popDigit_1 rfl hl (by decide) rfl (fun ls hl => ?_)
  have hl : lv_has ls 7 [(2, .long (0 : Int64)), (0, .ref (wa T x)), (1, .int (nI rx))] := hl
  refine lv_aload_n hx hb d_N_popDigit_2 rfl (lv_at hl 1 rfl) ?_
  refine wg_Natural_used hx hb hC hw (by omega) bw_45 d_N_popDigit_3 ?_
  refine sw_i (y := nI (kD (V x))) (rfl) ?_
  refine lv_iconst (v := nI 1) hx hb d_N_popDigit_6 (by decide +kernel) ?_
  refine lv_isub hx hb d_N_popDigit_7 ?_
  refine sw_i (y := (nI (kD (V x)) - 1)) (rfl) ?_
  refine lv_istore hx hb d_N_popDigit_8 hl (by decide) rfl (fun ls hl => ?_)
  have hl : lv_has ls 7 [(4, .int (nI (kD (V x)) - 1)), (2, .long (0 : Int64)), (0, .ref (wa T x)), (1, .int (nI rx))] := hl
  rw [← va_upx (fF V) x] at hw
  have lp : ∀ (q : Nat) (f : Nat → Int64) (lf : Int64) (ls : Array Slot) (H : Heap) (locs : List Loc), (∀ j, q ≤ j → j < 75 → f j = fD (V x / rx) j) → (∀ j, j < q → f j = fD (V x) j) → (lf = lN (V x / vB ^ q % rx)) → (q ≤ 75) →  lv_has ls 7 [(4, .int (nI q - 1)), (2, .long lf), (0, .ref (wa T x)), (1, .int (nI rx))] → wH T (va_up (fF V) x f) (fU V) K I O (wA T) s s.heap H locs → W p l e R s m args below meth c H locs 0 0 Q (F0 m 10 ls []) := by
    intro q
    induction q with
    | zero =>
      intro f lf ls H locs h1 h2 h3 h4 hl hw
      refine lv_iload hx hb d_N_popDigit_10 (lv_at hl 0 rfl) ?_
      refine d_if_lt (tgt := 54) hx hb d_N_popDigit_12 (by decide) (by omega) (fun h0 => ?_) (fun h0 => ?_)
      · refine lv_aload_n hx hb d_N_popDigit_54 rfl (lv_at hl 2 rfl) ?_
        refine lv_aload_n hx hb d_N_popDigit_55 rfl (lv_at hl 2 rfl) ?_
        refine wg_Natural_used hx hb hC hw (by omega) bw_45 d_N_popDigit_56 ?_
        refine sw_i (y := nI (kD (V x))) (rfl) ?_
        have s2 : lm_ev b28 (nd f) (kD (V x)) = ((V x / rx : Nat) : Int) := by
          rw [lm_congr (g := nd (fD (V x / rx))) (fun j hj => by unfold nd; rw [h1 j (by omega) (by omega)]), fD_ev, Nat.mod_eq_of_lt (Nat.lt_of_le_of_lt (Nat.div_le_self _ _) (kD_lt (hV x hi)))]
        refine wcV_v (As := [.int (nI (kD (V x)))]) hx hb hC hw (k_N_settle l T (va_up (fF V) x f) (fU V) K I O x (kD (V x)) (kD (V x)) (V x / rx) hi rfl (kD_le _) (kD_le _) (fun j hj => by rw [va_up_self]; unfold nd; rw [h1 j (by omega) (by omega)]; exact fD_in _ _) (fun j a1 a2 a3 => by rw [va_up_self, h1 j (by omega) a3]; unfold fD; rw [Nat.div_eq_of_lt (Nat.lt_of_le_of_lt (Nat.div_le_self _ _) (Nat.lt_of_lt_of_le (kD_lt (hV x hi)) (vB_le a1)))]; decide +kernel) (by rw [va_up_self]; exact s2)) lk_N_39 rfl rfl ⟨by show 0 + 1 ≤ R.frames; omega, by show 8 + (3 + 11) + 0 ≤ R.locals; omega⟩ (by omega) (we_Natural (by omega)) rfl rfl hl.1 rfl (Nat.le_of_ble_eq_true rfl) ⟨Nat.zero_le _, Nat.zero_le _⟩ d_N_popDigit_59 (fun H locs hw => ?_)
        rw [bx_uu, fF_up, fU_up] at hw
        refine lv_lload_n hx hb d_N_popDigit_62 rfl (lv_at hl 1 rfl) ?_
        refine lv_l2i hx hb d_N_popDigit_63 rfl ?_
        refine sw_i (y := nI (V x % rx)) (by rw [h3, Nat.pow_zero, Nat.div_one, lN_i]) ?_
        exact hret _ _ _ _ hw d_N_popDigit_64
      · exact absurd h0 (by omega)
    | succ q ih =>
      intro f lf ls H locs h1 h2 h3 h4 hl hw
      rw [nI_pred] at hl
      have hl : lv_has ls 7 [(4, .int (nI q)), (2, .long lf), (0, .ref (wa T x)), (1, .int (nI rx))] := hl
      refine lv_iload hx hb d_N_popDigit_10 (lv_at hl 0 rfl) ?_
      refine n_if_lt hx hb d_N_popDigit_12 (by decide) (by omega) ?_
      subst h3
      refine lv_lload_n hx hb d_N_popDigit_15 rfl (lv_at hl 1 rfl) ?_
      refine lv_ldc2 (v := 268435456) hx hb hC.ow (hC.hts bw_795) d_N_popDigit_16 ?_
      refine lv_lmul hx hb d_N_popDigit_19 ?_
      refine lv_aload_n hx hb d_N_popDigit_20 rfl (lv_at hl 2 rfl) ?_
      refine wg_Natural_limbs hx hb hC hw (by omega) bw_43 d_N_popDigit_21 ?_
      refine lv_iload hx hb d_N_popDigit_24 (lv_at hl 0 rfl) ?_
      refine wl_limbs hx hb hw (by omega) (by omega) d_N_popDigit_26 ?_
      refine sw_l (y := lN (V x / vB ^ q % vB)) (by rw [va_up_self, h2 q (by omega)]; rfl) ?_
      refine lv_ladd hx hb d_N_popDigit_27 ?_
      refine sw_l (y := lN (V x / vB ^ (q + 1) % rx * vB + V x / vB ^ q % vB)) (by rw [← lN_add, ← lN_mul]; rfl) ?_
      refine lv_lstore hx hb d_N_popDigit_28 hl (by decide) rfl (fun ls hl => ?_)
      have hl : lv_has ls 7 [(5, .long (lN (V x / vB ^ (q + 1) % rx * vB + V x / vB ^ q % vB))), (4, .int (nI q)), (2, .long (lN (V x / vB ^ (q + 1) % rx))), (0, .ref (wa T x)), (1, .int (nI rx))] := hl
      refine lv_aload_n hx hb d_N_popDigit_30 rfl (lv_at hl 3 rfl) ?_
      refine wg_Natural_limbs hx hb hC hw (by omega) bw_43 d_N_popDigit_31 ?_
      refine lv_iload hx hb d_N_popDigit_34 (lv_at hl 1 rfl) ?_
      refine lv_lload hx hb d_N_popDigit_36 (lv_at hl 0 rfl) ?_
      refine lv_iload_n hx hb d_N_popDigit_38 rfl (lv_at hl 4 rfl) ?_
      refine lv_i2l hx hb d_N_popDigit_39 rfl ?_
      refine sw_l (y := lN rx) (nI_l (by omega)) ?_
      refine lv_ldiv hx hb d_N_popDigit_40 (lN_ne0 (by omega) (by omega)) ?_
      refine sw_l (y := lN (V x / rx / vB ^ q % vB)) (by rw [pk_lDiv (pd_h hr.2 (by omega)) (by omega) (by omega), pd_q _ _ _ (by omega)]) ?_
      refine ws_limbs hx hb hw (by omega) (by omega) d_N_popDigit_41 (fun H locs hw => ?_)
      refine lv_lload hx hb d_N_popDigit_42 (lv_at hl 0 rfl) ?_
      refine lv_iload_n hx hb d_N_popDigit_44 rfl (lv_at hl 4 rfl) ?_
      refine lv_i2l hx hb d_N_popDigit_45 rfl ?_
      refine sw_l (y := lN rx) (nI_l (by omega)) ?_
      refine lv_lrem hx hb d_N_popDigit_46 (lN_ne0 (by omega) (by omega)) ?_
      refine sw_l (y := lN (V x / vB ^ q % rx)) (by rw [pk_lRem (pd_h hr.2 (by omega)) (by omega) (by omega), pd_r _ _ _ (by omega)]) ?_
      refine lv_lstore_n hx hb d_N_popDigit_47 rfl hl (by decide) rfl (fun ls hl => ?_)
      have hl : lv_has ls 7 [(2, .long (lN (V x / vB ^ q % rx))), (5, .long (lN (V x / vB ^ (q + 1) % rx * vB + V x / vB ^ q % vB))), (4, .int (nI q)), (0, .ref (wa T x)), (1, .int (nI rx))] := hl
      refine lv_iinc (v := (nI q - 1)) hx hb d_N_popDigit_48 hl (k := 2) rfl (i32_m1 _) (by decide) rfl (fun ls hl => ?_)
      have hl : lv_has ls 7 [(4, .int (nI q - 1)), (2, .long (lN (V x / vB ^ q % rx))), (5, .long (lN (V x / vB ^ (q + 1) % rx * vB + V x / vB ^ q % vB))), (0, .ref (wa T x)), (1, .int (nI rx))] := hl
      refine lv_goto (tgt := 10) hx hb d_N_popDigit_51 (by decide) ?_
      rw [bx_uu, va_up_self] at hw
      have hl := lv_sub hl [0, 1, 3, 4] rfl
      refine ih _ _ ls H locs (fun j a1 a2 => ?_) (fun j a1 => ?_) rfl (by omega) hl hw
      · by_cases ej : j = q
        · rw [ej, pk_uLs]; rfl
        · rw [pk_uLn ej]; exact h1 j (by omega) a2
      · rw [pk_uLn (by omega)]; exact h2 j (by omega)
  refine lp (kD (V x)) (fD (V x)) 0 ls _ _ (fun j a1 a2 => ?_) (fun _ _ => rfl) (by rw [Nat.div_eq_of_lt (kD_lt (hV x hi)), Nat.zero_mod]; rfl) h9 hl hw
  rw [fD_zero (hV x hi) a1]; unfold fD; rw [Nat.div_eq_of_lt (Nat.lt_of_le_of_lt (Nat.div_le_self _ _) (Nat.lt_of_lt_of_le (kD_lt (hV x hi)) (vB_le a1)))]; decide +kernel
