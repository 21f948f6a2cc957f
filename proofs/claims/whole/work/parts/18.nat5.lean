/-! Natural: products and squares of numbers -/
theorem fD0 (j : Nat) : fD 0 j = 0 := by unfold fD; rw [Nat.zero_div, Nat.zero_mod]; decide +kernel
theorem nd_z {f : Nat → Int64} (h : ∀ j, f j = 0) : ∀ n, lm_ev b28 (nd f) n = 0
  | 0 => rfl
  | n + 1 => by rw [lm_evs, nd_z h n, nd_0 (h n)]; simp
theorem gaf_mul1 {g y : Int64} (hg : 0 ≤ g.toInt ∧ g.toInt < 268435456) (hy : 0 ≤ y.toInt ∧ y.toInt < 268435456) : 0 ≤ g.toInt * y.toInt ∧ g.toInt * y.toInt ≤ 72057594037927936 := by
  have h := lm_mulbd hg.1 hy.1 (show g.toInt ≤ 268435456 by omega) (show y.toInt ≤ 268435456 by omega)
  have e : (268435456 : Int) * 268435456 = 72057594037927936 := by decide
  rw [e] at h; exact h
theorem gaf_bd {to fr : Nat → Int64} {lf st n : Nat} {g : Int64} {M D : Int} (ht : ∀ j, j < 75 → 0 ≤ nd to j ∧ nd to j ≤ M) (hM : M ≤ 8000000000000000000) (hg : 0 ≤ g.toInt ∧ g.toInt ≤ 536870912) (hf : ∀ j, 0 ≤ nd fr j ∧ nd fr j < b28) (hD : ∀ j, g.toInt * nd fr j ≤ D) (hD0 : 0 ≤ D) : ∀ j, j < 75 → 0 ≤ nd (gaf to fr lf g st n) j ∧ nd (gaf to fr lf g st n) j ≤ M + D := by
  intro j hj
  have h1 := ht j hj
  by_cases e : lf + st ≤ j ∧ j < lf + st + n
  · have h2 : nd (gaf to fr lf g st n) j = nd to j + g.toInt * nd fr (j - lf) := by
      show (gaf to fr lf g st n j).toInt = _
      rw [gaf_in e.1 e.2]
      exact gaf_toInt ⟨h1.1, by have := h1.2; show nd to j ≤ _; omega⟩ hg (hf _)
    have h3 := hD (j - lf)
    have h4 : 0 ≤ g.toInt * nd fr (j - lf) := Int.mul_nonneg hg.1 (hf _).1
    rw [h2]; omega
  · have h2 : nd (gaf to fr lf g st n) j = nd to j := by unfold nd; rw [gaf_out (by omega)]
    rw [h2]; omega
theorem vB_mul {a b m n : Nat} (ha : a < vB ^ m) (hb : b < vB ^ n) : a * b < vB ^ (m + n) := by
  rw [Nat.pow_add]
  exact Nat.mul_lt_mul'' ha hb

set_option maxRecDepth 100000 in
set_option maxHeartbeats 4000000 in
theorem k_N_takeProduct (l : Launch) (T : wT) (V : Nat → Nat) (K : wUt) (I : wIt) (O : wOt) (x a b : Nat) (hi : x < 34) (ha : a < 34) (hb9 : b < 34) (hxa : a ≠ x) (hxb : b ≠ x) (hk : kD (V a) + kD (V b) ≤ 75) (hV : ∀ n, n < 34 → V n < vLim) : Met l y_N_takeProduct (.code y_N_takeProduct c_N_takeProduct 4 none :: bg) ({ frames := 2, cells := 0, slots := 0, locals := 46 } : Room) (mP T (fF V) (fU V) K I O [.ref (wa T x), .ref (wa T a), .ref (wa T b)]) (mQv T (fF (va_up V x (V a * V b))) (fU (va_up V x (V a * V b))) K I O) 0 0 (wA T) := by
  refine wM_v (by decide) (Nat.le_of_ble_eq_true rfl) ?_
  intro p e R s m args below meth c Q ls hx hb hC hRf hRl hret hl hw
  have hRf : 2 ≤ R.frames := hRf
  have hRl : 46 ≤ R.locals := hRl
  have hl : lv_has ls 4 [(0, .ref (wa T x)), (1, .ref (wa T a)), (2, .ref (wa T b))] := hl
  refine lv_aload_n hx hb d_N_takeProduct_0 rfl (lv_at hl 0 rfl) ?_
  refine wcV_v (As := []) hx hb hC hw (k_N_clear l T V K I O x hi hV) lk_N_48 rfl rfl ⟨by show 1 + 1 ≤ R.frames; omega, by show 8 + (1 + 11) + 22 ≤ R.locals; omega⟩ (by omega) (we_Natural (by omega)) rfl rfl hl.1 rfl (Nat.le_of_ble_eq_true rfl) ⟨Nat.zero_le _, Nat.zero_le _⟩ d_N_takeProduct_1 (fun H locs hw => ?_)
  have ua : fU (va_up V x 0) a = nI (kD (V a)) := by unfold fU; rw [va_up_ne _ _ hxa]; rfl
  have ub : fU (va_up V x 0) b = nI (kD (V b)) := by unfold fU; rw [va_up_ne _ _ hxb]; rfl
  have ux : fU (va_up V x 0) x = nI (kD 0) := by unfold fU; rw [va_up_self]; rfl
  have fa : ∀ f : Nat → Int64, va_up (fF (va_up V x 0)) x f a = fD (V a) := fun f => by rw [va_up_ne _ _ hxa]; unfold fF; rw [va_up_ne _ _ hxa]
  have fb : ∀ f : Nat → Int64, va_up (fF (va_up V x 0)) x f b = fD (V b) := fun f => by rw [va_up_ne _ _ hxb]; unfold fF; rw [va_up_ne _ _ hxb]
  have fx : ∀ j, fF (va_up V x 0) x j = 0 := fun j => by unfold fF; rw [va_up_self]; exact fD0 j
  refine lv_iconst (v := nI 0) hx hb d_N_takeProduct_4 (by decide +kernel) ?_
  refine lv_istore_n hx hb d_N_takeProduct_5 rfl hl (by decide) rfl (fun ls hl => ?_)
  have hl : lv_has ls 4 [(3, .int (nI 0)), (0, .ref (wa T x)), (1, .ref (wa T a)), (2, .ref (wa T b))] := hl
  rw [← va_upx (fF (va_up V x 0)) x] at hw
  have lp : ∀ (n i : Nat) (f : Nat → Int64) (ls : Array Slot) (H : Heap) (locs : List Loc), (kD (V a)) - i = n → i ≤ (kD (V a)) → (∀ j, j < 75 → 0 ≤ nd f j ∧ nd f j ≤ (i : Int) * 72057594037927936) → (lm_ev b28 (nd f) 75 = lm_ev b28 (nd (fD (V a))) i * (V b : Int)) → (∀ j, i + kD (V b) ≤ j → j < 75 → f j = 0) →  lv_has ls 4 [(3, .int (nI i)), (0, .ref (wa T x)), (1, .ref (wa T a)), (2, .ref (wa T b))] → wH T (va_up (fF (va_up V x 0)) x f) (fU (va_up V x 0)) K I O (wA T) s s.heap H locs → W p l e R s m args below meth c H locs 0 0 Q (F0 m 6 ls []) := by
    intro n
    induction n with
    | zero =>
      intro i f ls H locs hn hle h1 h2 h3 hl hw
      refine lv_iload_n hx hb d_N_takeProduct_6 rfl (lv_at hl 0 rfl) ?_
      refine lv_aload_n hx hb d_N_takeProduct_7 rfl (lv_at hl 2 rfl) ?_
      refine wg_Natural_used hx hb hC hw (by omega) bw_45 d_N_takeProduct_8 ?_
      refine sw_i (y := nI (kD (V a))) (ua) ?_
      refine n_icmp_ge (tgt := 33) hx hb d_N_takeProduct_11 (by decide) (by omega) (by omega) (fun h0 => ?_) (fun h0 => ?_)
      · have e9 : kD (V a) = i := by omega
        subst e9
        refine lv_aload_n hx hb d_N_takeProduct_33 rfl (lv_at hl 1 rfl) ?_
        refine lv_aload_n hx hb d_N_takeProduct_34 rfl (lv_at hl 2 rfl) ?_
        refine wg_Natural_used hx hb hC hw (by omega) bw_45 d_N_takeProduct_35 ?_
        refine sw_i (y := nI (kD (V a))) (ua) ?_
        refine lv_aload_n hx hb d_N_takeProduct_38 rfl (lv_at hl 3 rfl) ?_
        refine wg_Natural_used hx hb hC hw (by omega) bw_45 d_N_takeProduct_39 ?_
        refine sw_i (y := nI (kD (V b))) (ub) ?_
        refine n_iadd hx hb d_N_takeProduct_42 ?_
        have s1 : lm_ev b28 (nd f) (kD (V a) + kD (V b)) = ((V a * V b : Nat) : Int) := by
          rw [← lm_tail (n := 75) hk (fun j a1 a2 => nd_0 (h3 j a1 a2)), h2, fD_evI (hV a ha)]; simp
        refine wcV_v (As := [.int (nI ((kD (V a)) + (kD (V b))))]) hx hb hC hw (k_N_carryUp l T (va_up (fF (va_up V x 0)) x f) (fU (va_up V x 0)) K I O x (kD 0) (kD (V a) + kD (V b)) (V a * V b) hi ux (kD_le _) hk (fun j hj => by rw [va_up_self]; have := h1 j (by omega); have := kD_le (V a); omega) (fun j a1 a2 a3 => by rw [va_up_self]; exact h3 j a1 a3) (by rw [va_up_self]; exact s1) (vB_mul (kD_lt (hV a ha)) (kD_lt (hV b hb9)))) lk_N_55 rfl rfl ⟨by show 1 + 1 ≤ R.frames; omega, by show 8 + (5 + 11) + 22 ≤ R.locals; omega⟩ (by omega) (we_Natural (by omega)) rfl rfl hl.1 rfl (Nat.le_of_ble_eq_true rfl) ⟨Nat.zero_le _, Nat.zero_le _⟩ d_N_takeProduct_43 (fun H locs hw => ?_)
        rw [bx_uu, fF_up, fU_up, bx_uu] at hw
        exact hret _ _ _ _ hw d_N_takeProduct_46
      · exact absurd h0 (by omega)
    | succ n ih =>
      intro i f ls H locs hn hle h1 h2 h3 hl hw
      refine lv_iload_n hx hb d_N_takeProduct_6 rfl (lv_at hl 0 rfl) ?_
      refine lv_aload_n hx hb d_N_takeProduct_7 rfl (lv_at hl 2 rfl) ?_
      refine wg_Natural_used hx hb hC hw (by omega) bw_45 d_N_takeProduct_8 ?_
      refine sw_i (y := nI (kD (V a))) (ua) ?_
      refine n_icmp_ge (tgt := 33) hx hb d_N_takeProduct_11 (by decide) (by omega) (by omega) (fun h0 => ?_) (fun h0 => ?_)
      · exact absurd h0 (by omega)
      · refine lv_aload_n hx hb d_N_takeProduct_14 rfl (lv_at hl 1 rfl) ?_
        refine lv_aload_n hx hb d_N_takeProduct_15 rfl (lv_at hl 3 rfl) ?_
        refine lv_iconst (v := nI 0) hx hb d_N_takeProduct_16 (by decide +kernel) ?_
        refine lv_iload_n hx hb d_N_takeProduct_17 rfl (lv_at hl 0 rfl) ?_
        refine lv_aload_n hx hb d_N_takeProduct_18 rfl (lv_at hl 2 rfl) ?_
        refine wg_Natural_limbs hx hb hC hw (by omega) bw_43 d_N_takeProduct_19 ?_
        refine lv_iload_n hx hb d_N_takeProduct_22 rfl (lv_at hl 0 rfl) ?_
        refine wl_limbs hx hb hw (by omega) (by omega) d_N_takeProduct_23 ?_
        refine sw_l (y := fD (V a) i) (by rw [fa]) ?_
        refine wcV_v (As := [.ref (wa T b), .int (nI 0), .int (nI i), .long (fD (V a) i)]) hx hb hC hw (k_N_gather l T (va_up (fF (va_up V x 0)) x f) (fU (va_up V x 0)) K I O x b 0 i (kD (V b)) (fD (V a) i) hi hb9 hxb ub (Nat.zero_le _) (by omega)) lk_N_51 rfl rfl ⟨by show 0 + 1 ≤ R.frames; omega, by show 8 + (10 + 11) + 0 ≤ R.locals; omega⟩ (by omega) (we_Natural (by omega)) rfl rfl hl.1 rfl (Nat.le_of_ble_eq_true rfl) ⟨Nat.zero_le _, Nat.zero_le _⟩ d_N_takeProduct_24 (fun H locs hw => ?_)
        rw [bx_uu, va_up_self, fb, Nat.sub_zero] at hw
        refine lv_iinc (v := nI (i + 1)) hx hb d_N_takeProduct_27 hl (k := 0) rfl (nI_add _ 1) (by decide) rfl (fun ls hl => ?_)
        have hl : lv_has ls 4 [(3, .int (nI (i + 1))), (0, .ref (wa T x)), (1, .ref (wa T a)), (2, .ref (wa T b))] := hl
        refine lv_goto (tgt := 6) hx hb d_N_takeProduct_30 (by decide) ?_
        have g1 : 0 ≤ (fD (V a) i).toInt ∧ (fD (V a) i).toInt < 268435456 := fD_in (V a) i
        have q1 := gaf_bd (to := f) (fr := fD (V b)) (lf := i) (st := 0) (n := kD (V b)) (g := fD (V a) i) (D := 72057594037927936) h1 (by have := kD_le (V a); omega) ⟨g1.1, by omega⟩ (fD_in (V b)) (fun j => (gaf_mul1 g1 (fD_in (V b) j)).2) (by decide)
        have q2 := gaf_ev (to := f) (fr := fD (V b)) (lf := i) (g := fD (V a) i) (st := 0) (N := 75) (fun j hj => ⟨(h1 j hj).1, by have := (h1 j hj).2; have := kD_le (V a); omega⟩) ⟨g1.1, by omega⟩ (fD_in (V b)) (n := kD (V b)) (by omega)
        refine ih (i + 1) _ ls H locs (by omega) (by omega) (fun j hj => ?_) ?_ (fun j a1 a2 => ?_) hl hw
        · have := q1 j hj; omega
        · rw [q2, h2, Nat.zero_add, fD_evI (hV b hb9), lm_ev0, lm_evs]
          show _ + nd (fD (V a)) i * b28 ^ i * _ = _
          grind
        · rw [gaf_out (by omega)]; exact h3 j (by omega) a2
  exact lp (kD (V a)) 0 _ ls _ _ (by omega) (by omega) (fun j _ => by rw [nd_0 (fx j)]; omega) (by rw [nd_z fx, lm_ev0]; simp) (fun j _ _ => fx j) hl hw
set_option maxRecDepth 100000 in
set_option maxHeartbeats 4000000 in
theorem k_N_takeSquare (l : Launch) (T : wT) (V : Nat → Nat) (K : wUt) (I : wIt) (O : wOt) (x a : Nat) (hi : x < 34) (ha : a < 34) (hxa : a ≠ x) (hk : 2 * kD (V a) ≤ 75) (hV : ∀ n, n < 34 → V n < vLim) : Met l y_N_takeSquare (.code y_N_takeSquare c_N_takeSquare 3 none :: bg) ({ frames := 2, cells := 0, slots := 0, locals := 46 } : Room) (mP T (fF V) (fU V) K I O [.ref (wa T x), .ref (wa T a)]) (mQv T (fF (va_up V x (V a * V a))) (fU (va_up V x (V a * V a))) K I O) 0 0 (wA T) := by
  refine wM_v (by decide) (Nat.le_of_ble_eq_true rfl) ?_
  intro p e R s m args below meth c Q ls hx hb hC hRf hRl hret hl hw
  have hRf : 2 ≤ R.frames := hRf
  have hRl : 46 ≤ R.locals := hRl
  have hl : lv_has ls 3 [(0, .ref (wa T x)), (1, .ref (wa T a))] := hl
  refine lv_aload_n hx hb d_N_takeSquare_0 rfl (lv_at hl 0 rfl) ?_
  refine wcV_v (As := []) hx hb hC hw (k_N_clear l T V K I O x hi hV) lk_N_48 rfl rfl ⟨by show 1 + 1 ≤ R.frames; omega, by show 8 + (1 + 11) + 22 ≤ R.locals; omega⟩ (by omega) (we_Natural (by omega)) rfl rfl hl.1 rfl (Nat.le_of_ble_eq_true rfl) ⟨Nat.zero_le _, Nat.zero_le _⟩ d_N_takeSquare_1 (fun H locs hw => ?_)
  have ua : fU (va_up V x 0) a = nI (kD (V a)) := by unfold fU; rw [va_up_ne _ _ hxa]; rfl
  have ux : fU (va_up V x 0) x = nI (kD 0) := by unfold fU; rw [va_up_self]; rfl
  have fa : ∀ f : Nat → Int64, va_up (fF (va_up V x 0)) x f a = fD (V a) := fun f => by rw [va_up_ne _ _ hxa]; unfold fF; rw [va_up_ne _ _ hxa]
  have fx : ∀ j, fF (va_up V x 0) x j = 0 := fun j => by unfold fF; rw [va_up_self]; exact fD0 j
  refine lv_iconst (v := nI 0) hx hb d_N_takeSquare_4 (by decide +kernel) ?_
  refine lv_istore_n hx hb d_N_takeSquare_5 rfl hl (by decide) rfl (fun ls hl => ?_)
  have hl : lv_has ls 3 [(2, .int (nI 0)), (0, .ref (wa T x)), (1, .ref (wa T a))] := hl
  rw [← va_upx (fF (va_up V x 0)) x] at hw
  have lp : ∀ (n i : Nat) (f : Nat → Int64) (ls : Array Slot) (H : Heap) (locs : List Loc), (kD (V a)) - i = n → i ≤ (kD (V a)) → (∀ j, j < 75 → 0 ≤ nd f j ∧ nd f j ≤ (i : Int) * 144115188075855872) → (lm_ev b28 (nd f) 75 = (V a : Int) * (V a : Int) - ((V a : Int) - lm_ev b28 (nd (fD (V a))) i) * ((V a : Int) - lm_ev b28 (nd (fD (V a))) i)) → (∀ j, i + kD (V a) ≤ j → j < 75 → f j = 0) →  lv_has ls 3 [(2, .int (nI i)), (0, .ref (wa T x)), (1, .ref (wa T a))] → wH T (va_up (fF (va_up V x 0)) x f) (fU (va_up V x 0)) K I O (wA T) s s.heap H locs → W p l e R s m args below meth c H locs 0 0 Q (F0 m 6 ls []) := by
    intro n
    induction n with
    | zero =>
      intro i f ls H locs hn hle h1 h2 h3 hl hw
      refine lv_iload_n hx hb d_N_takeSquare_6 rfl (lv_at hl 0 rfl) ?_
      refine lv_aload_n hx hb d_N_takeSquare_7 rfl (lv_at hl 2 rfl) ?_
      refine wg_Natural_used hx hb hC hw (by omega) bw_45 d_N_takeSquare_8 ?_
      refine sw_i (y := nI (kD (V a))) (ua) ?_
      refine n_icmp_ge (tgt := 63) hx hb d_N_takeSquare_11 (by decide) (by omega) (by omega) (fun h0 => ?_) (fun h0 => ?_)
      · have e9 : kD (V a) = i := by omega
        subst e9
        refine lv_aload_n hx hb d_N_takeSquare_63 rfl (lv_at hl 1 rfl) ?_
        refine lv_iconst (v := nI 2) hx hb d_N_takeSquare_64 (by decide +kernel) ?_
        refine lv_aload_n hx hb d_N_takeSquare_65 rfl (lv_at hl 2 rfl) ?_
        refine wg_Natural_used hx hb hC hw (by omega) bw_45 d_N_takeSquare_66 ?_
        refine sw_i (y := nI (kD (V a))) (ua) ?_
        refine n_imul hx hb d_N_takeSquare_69 ?_
        have s1 : lm_ev b28 (nd f) (2 * kD (V a)) = ((V a * V a : Nat) : Int) := by
          rw [← lm_tail (n := 75) hk (fun j a1 a2 => nd_0 (h3 j (by omega) a2)), h2, fD_evI (hV a ha)]; simp
        refine wcV_v (As := [.int (nI (2 * (kD (V a))))]) hx hb hC hw (k_N_carryUp l T (va_up (fF (va_up V x 0)) x f) (fU (va_up V x 0)) K I O x (kD 0) (2 * kD (V a)) (V a * V a) hi ux (kD_le _) hk (fun j hj => by rw [va_up_self]; have := h1 j (by omega); omega) (fun j a1 a2 a3 => by rw [va_up_self]; exact h3 j (by omega) a3) (by rw [va_up_self]; exact s1) (by rw [Nat.two_mul]; exact vB_mul (kD_lt (hV a ha)) (kD_lt (hV a ha)))) lk_N_55 rfl rfl ⟨by show 1 + 1 ≤ R.frames; omega, by show 8 + (5 + 11) + 22 ≤ R.locals; omega⟩ (by omega) (we_Natural (by omega)) rfl rfl hl.1 rfl (Nat.le_of_ble_eq_true rfl) ⟨Nat.zero_le _, Nat.zero_le _⟩ d_N_takeSquare_70 (fun H locs hw => ?_)
        rw [bx_uu, fF_up, fU_up, bx_uu] at hw
        exact hret _ _ _ _ hw d_N_takeSquare_73
      · exact absurd h0 (by omega)
    | succ n ih =>
      intro i f ls H locs hn hle h1 h2 h3 hl hw
      refine lv_iload_n hx hb d_N_takeSquare_6 rfl (lv_at hl 0 rfl) ?_
      refine lv_aload_n hx hb d_N_takeSquare_7 rfl (lv_at hl 2 rfl) ?_
      refine wg_Natural_used hx hb hC hw (by omega) bw_45 d_N_takeSquare_8 ?_
      refine sw_i (y := nI (kD (V a))) (ua) ?_
      refine n_icmp_ge (tgt := 63) hx hb d_N_takeSquare_11 (by decide) (by omega) (by omega) (fun h0 => ?_) (fun h0 => ?_)
      · exact absurd h0 (by omega)
      · refine lv_aload_n hx hb d_N_takeSquare_14 rfl (lv_at hl 1 rfl) ?_
        refine wg_Natural_limbs hx hb hC hw (by omega) bw_43 d_N_takeSquare_15 ?_
        refine lv_iconst (v := nI 2) hx hb d_N_takeSquare_18 (by decide +kernel) ?_
        refine lv_iload_n hx hb d_N_takeSquare_19 rfl (lv_at hl 0 rfl) ?_
        refine n_imul hx hb d_N_takeSquare_20 ?_
        refine lv_dup2_11 hx hb d_N_takeSquare_21 rfl rfl ?_
        refine wl_limbs hx hb hw (by omega) (by omega) d_N_takeSquare_22 ?_
        refine sw_l (y := f (2 * i)) (by rw [va_up_self]) ?_
        refine lv_aload_n hx hb d_N_takeSquare_23 rfl (lv_at hl 2 rfl) ?_
        refine wg_Natural_limbs hx hb hC hw (by omega) bw_43 d_N_takeSquare_24 ?_
        refine lv_iload_n hx hb d_N_takeSquare_27 rfl (lv_at hl 0 rfl) ?_
        refine wl_limbs hx hb hw (by omega) (by omega) d_N_takeSquare_28 ?_
        refine sw_l (y := fD (V a) i) (by rw [fa]) ?_
        refine lv_aload_n hx hb d_N_takeSquare_29 rfl (lv_at hl 2 rfl) ?_
        refine wg_Natural_limbs hx hb hC hw (by omega) bw_43 d_N_takeSquare_30 ?_
        refine lv_iload_n hx hb d_N_takeSquare_33 rfl (lv_at hl 0 rfl) ?_
        refine wl_limbs hx hb hw (by omega) (by omega) d_N_takeSquare_34 ?_
        refine sw_l (y := fD (V a) i) (by rw [fa]) ?_
        refine lv_lmul hx hb d_N_takeSquare_35 ?_
        refine lv_ladd hx hb d_N_takeSquare_36 ?_
        refine ws_limbs hx hb hw (by omega) (by omega) d_N_takeSquare_37 (fun H locs hw => ?_)
        rw [bx_uu, va_up_self] at hw
        generalize hf2 : vp_updL f (2 * i) (f (2 * i) + fD (V a) i * fD (V a) i) = f2 at hw
        refine lv_aload_n hx hb d_N_takeSquare_38 rfl (lv_at hl 1 rfl) ?_
        refine lv_aload_n hx hb d_N_takeSquare_39 rfl (lv_at hl 2 rfl) ?_
        refine lv_iload_n hx hb d_N_takeSquare_40 rfl (lv_at hl 0 rfl) ?_
        refine lv_iconst (v := nI 1) hx hb d_N_takeSquare_41 (by decide +kernel) ?_
        refine n_iadd hx hb d_N_takeSquare_42 ?_
        refine lv_iload_n hx hb d_N_takeSquare_43 rfl (lv_at hl 0 rfl) ?_
        refine lv_ldc2 (v := 2) hx hb hC.ow (hC.hts bw_572) d_N_takeSquare_44 ?_
        refine lv_aload_n hx hb d_N_takeSquare_47 rfl (lv_at hl 2 rfl) ?_
        refine wg_Natural_limbs hx hb hC hw (by omega) bw_43 d_N_takeSquare_48 ?_
        refine lv_iload_n hx hb d_N_takeSquare_51 rfl (lv_at hl 0 rfl) ?_
        refine wl_limbs hx hb hw (by omega) (by omega) d_N_takeSquare_52 ?_
        refine sw_l (y := fD (V a) i) (by rw [fa]) ?_
        refine lv_lmul hx hb d_N_takeSquare_53 ?_
        refine sw_l (y := (2 : Int64) * fD (V a) i) rfl ?_
        refine wcV_v (As := [.ref (wa T a), .int (nI (i + 1)), .int (nI i), .long ((2 : Int64) * fD (V a) i)]) hx hb hC hw (k_N_gather l T (va_up (fF (va_up V x 0)) x f2) (fU (va_up V x 0)) K I O x a (i + 1) i (kD (V a)) ((2 : Int64) * fD (V a) i) hi ha hxa ua (by omega) (by omega)) lk_N_51 rfl rfl ⟨by show 0 + 1 ≤ R.frames; omega, by show 8 + (10 + 11) + 0 ≤ R.locals; omega⟩ (by omega) (we_Natural (by omega)) rfl rfl hl.1 rfl (Nat.le_of_ble_eq_true rfl) ⟨Nat.zero_le _, Nat.zero_le _⟩ d_N_takeSquare_54 (fun H locs hw => ?_)
        rw [bx_uu, va_up_self, fa] at hw
        refine lv_iinc (v := nI (i + 1)) hx hb d_N_takeSquare_57 hl (k := 0) rfl (nI_add _ 1) (by decide) rfl (fun ls hl => ?_)
        have hl : lv_has ls 3 [(2, .int (nI (i + 1))), (0, .ref (wa T x)), (1, .ref (wa T a))] := hl
        refine lv_goto (tgt := 6) hx hb d_N_takeSquare_60 (by decide) ?_
        have g1 : 0 ≤ (fD (V a) i).toInt ∧ (fD (V a) i).toInt < 268435456 := fD_in (V a) i
        have g2 : ((2 : Int64) * fD (V a) i).toInt = 2 * (fD (V a) i).toInt := by
          have e2 : (2 : Int64).toInt = 2 := by decide +kernel
          rw [lj_mul (by rw [e2]; omega) (by rw [e2]; omega), e2]
        have g3 := gaf_mul1 g1 g1
        have m1 : (f (2 * i) + fD (V a) i * fD (V a) i).toInt = nd f (2 * i) + (fD (V a) i).toInt * (fD (V a) i).toInt := gaf_toInt ⟨(h1 _ (by omega)).1, by have := (h1 (2 * i) (by omega)).2; show nd f (2 * i) ≤ _; omega⟩ ⟨g1.1, by omega⟩ g1
        have h1b : ∀ j, j < 75 → 0 ≤ nd f2 j ∧ nd f2 j ≤ (i : Int) * 144115188075855872 + 72057594037927936 := fun j hj => by
          have h9 := h1 j hj
          rw [← hf2]
          by_cases ej : j = 2 * i
          · rw [ej, nd_upd, m1, ← ej]; omega
          · rw [nd_updN ej]; omega
        have h1c : ∀ j, j < 75 → (j < i + (i + 1) ∨ i + (i + 1) + (kD (V a) - (i + 1)) ≤ j) ∨ nd f2 j = nd f j := fun j hj => by
          by_cases ej : j = 2 * i
          · exact Or.inl (Or.inl (by omega))
          · exact Or.inr (by rw [← hf2, nd_updN ej])
        have q2 := gaf_ev (to := f2) (fr := fD (V a)) (lf := i) (g := (2 : Int64) * fD (V a) i) (st := i + 1) (N := 75) (fun j hj => ⟨(h1b j hj).1, by have := (h1b j hj).2; omega⟩) (by rw [g2]; omega) (fD_in (V a)) (n := kD (V a) - (i + 1)) (by omega)
        refine ih (i + 1) _ ls H locs (by omega) (by omega) (fun j hj => ?_) ?_ (fun j a1 a2 => ?_) hl hw
        · by_cases ej : i + (i + 1) ≤ j ∧ j < i + (i + 1) + (kD (V a) - (i + 1))
          · have e5 : nd f2 j = nd f j := by rcases h1c j hj with h9 | h9; · omega
                                             · exact h9
            have e6 : nd (gaf f2 (fD (V a)) i ((2 : Int64) * fD (V a) i) (i + 1) (kD (V a) - (i + 1))) j = nd f2 j + ((2 : Int64) * fD (V a) i).toInt * nd (fD (V a)) (j - i) := by
              show (gaf _ _ _ _ _ _ j).toInt = _
              rw [gaf_in ej.1 ej.2]
              exact gaf_toInt ⟨(h1b j hj).1, by have := (h1b j hj).2; show nd f2 j ≤ _; omega⟩ (by rw [g2]; omega) (fD_in (V a) (j - i))
            have e7 := gaf_mul1 g1 (fD_in (V a) (j - i))
            have e8 : (2 * (fD (V a) i).toInt) * nd (fD (V a)) (j - i) = 2 * ((fD (V a) i).toInt * nd (fD (V a)) (j - i)) := by grind
            have e9 := h1 j hj
            have e7b : 0 ≤ (fD (V a) i).toInt * nd (fD (V a)) (j - i) ∧ (fD (V a) i).toInt * nd (fD (V a)) (j - i) ≤ 72057594037927936 := e7
            rw [e6, e5, g2, e8]; omega
          · have e6 : nd (gaf f2 (fD (V a)) i ((2 : Int64) * fD (V a) i) (i + 1) (kD (V a) - (i + 1))) j = nd f2 j := by unfold nd; rw [gaf_out (by omega)]
            have e9 := h1b j hj
            rw [e6]; omega
        · have e3 : i + 1 + (kD (V a) - (i + 1)) = kD (V a) := by omega
          have e4 : lm_ev b28 (nd f2) 75 = lm_ev b28 (nd f) 75 + (nd (fD (V a)) i * nd (fD (V a)) i) * b28 ^ (2 * i) := by
            rw [← hf2, nd_upd_ev (by omega), m1]
            show _ + (nd f (2 * i) + nd (fD (V a)) i * nd (fD (V a)) i - nd f (2 * i)) * _ = _
            grind
          rw [q2, e4, e3, h2, g2, fD_evI (hV a ha), lm_evs, Nat.two_mul, Int.pow_add]
          show _ + 2 * nd (fD (V a)) i * _ * _ = _
          grind
        · rw [gaf_out (by omega), ← hf2, pk_uLn (by omega)]; exact h3 j (by omega) a2
  exact lp (kD (V a)) 0 _ ls _ _ (by omega) (by omega) (fun j _ => by rw [nd_0 (fx j)]; omega) (by rw [nd_z fx, lm_ev0]; grind) (fun j _ _ => fx j) hl hw
