/-! Natural: products -/
def gaf (to fr : Nat → Int64) (lf : Nat) (g : Int64) (st : Nat) : Nat → Nat → Int64
  | 0 => to
  | n + 1 => vp_updL (gaf to fr lf g st n) (lf + (st + n)) (gaf to fr lf g st n (lf + (st + n)) + g * fr (st + n))
theorem gaf_s (to fr : Nat → Int64) (lf : Nat) (g : Int64) (st n : Nat) : gaf to fr lf g st (n + 1) = vp_updL (gaf to fr lf g st n) (lf + (st + n)) (gaf to fr lf g st n (lf + (st + n)) + g * fr (st + n)) := rfl
theorem gaf_out {to fr : Nat → Int64} {lf : Nat} {g : Int64} {st : Nat} : ∀ {n j : Nat}, (j < lf + st ∨ lf + st + n ≤ j) → gaf to fr lf g st n j = to j
  | 0, _, _ => rfl
  | n + 1, j, h => by rw [gaf_s, pk_uLn (by omega)]; exact gaf_out (by omega)
theorem gaf_in {to fr : Nat → Int64} {lf : Nat} {g : Int64} {st : Nat} : ∀ {n j : Nat}, lf + st ≤ j → j < lf + st + n → gaf to fr lf g st n j = to j + g * fr (j - lf)
  | 0, _, h1, h2 => absurd h2 (by omega)
  | n + 1, j, h1, h2 => by
    by_cases e : j = lf + (st + n)
    · rw [gaf_s, e, pk_uLs, gaf_out (by omega), Nat.add_sub_cancel_left]
    · rw [gaf_s, pk_uLn e]; exact gaf_in h1 (by omega)
theorem gaf_mul {g y : Int64} (hg : 0 ≤ g.toInt ∧ g.toInt ≤ 536870912) (hy : 0 ≤ y.toInt ∧ y.toInt < 268435456) : (g * y).toInt = g.toInt * y.toInt ∧ 0 ≤ g.toInt * y.toInt ∧ g.toInt * y.toInt ≤ 144115188075855872 := by
  have h := lm_mulbd hg.1 hy.1 hg.2 (show y.toInt ≤ 268435456 by omega)
  have e : (536870912 : Int) * 268435456 = 144115188075855872 := by decide
  rw [e] at h
  exact ⟨lj_mul (by omega) (by omega), h.1, h.2⟩
theorem gaf_toInt {x g y : Int64} (hx : 0 ≤ x.toInt ∧ x.toInt ≤ 8000000000000000000) (hg : 0 ≤ g.toInt ∧ g.toInt ≤ 536870912) (hy : 0 ≤ y.toInt ∧ y.toInt < 268435456) : (x + g * y).toInt = x.toInt + g.toInt * y.toInt := by
  obtain ⟨h1, h2, h3⟩ := gaf_mul hg hy
  rw [lj_add (by omega) (by omega), h1]
theorem gaf_ev {to fr : Nat → Int64} {lf : Nat} {g : Int64} {st N : Nat} (ht : ∀ j, j < N → 0 ≤ nd to j ∧ nd to j ≤ 8000000000000000000) (hg : 0 ≤ g.toInt ∧ g.toInt ≤ 536870912) (hf : ∀ j, 0 ≤ nd fr j ∧ nd fr j < b28) : ∀ {n : Nat}, lf + st + n ≤ N → lm_ev b28 (nd (gaf to fr lf g st n)) N = lm_ev b28 (nd to) N + g.toInt * b28 ^ lf * (lm_ev b28 (nd fr) (st + n) - lm_ev b28 (nd fr) st)
  | 0, _ => by show lm_ev b28 (nd to) N = _; rw [Nat.add_zero]; grind
  | n + 1, h => by
    have e0 : lm_ev b28 (nd fr) (st + (n + 1)) = lm_ev b28 (nd fr) (st + n) + nd fr (st + n) * b28 ^ (st + n) := rfl
    have e1 : nd (gaf to fr lf g st n) (lf + (st + n)) = nd to (lf + (st + n)) := by unfold nd; rw [gaf_out (by omega)]
    have e2 : (to (lf + (st + n)) + g * fr (st + n)).toInt = nd to (lf + (st + n)) + g.toInt * nd fr (st + n) := gaf_toInt (ht _ (by omega)) hg (hf _)
    rw [gaf_s, nd_upd_ev (by omega), gaf_ev ht hg hf (by omega), gaf_out (by omega), e2, e1, e0, Int.pow_add]
    grind
theorem cu_step {f : Nat → Int64} {i : Nat} {c x t : Int64} {S : Int} (hc : 0 ≤ c.toInt ∧ c.toInt ≤ 68719476736) (hx : 0 ≤ x.toInt ∧ x.toInt ≤ 8000000000000000000) (ht : t = c + x) (h : lm_ev b28 (nd f) i + c.toInt * b28 ^ i = S) :
    (0 ≤ (t >>> ((nI 28).toInt64 &&& 63)).toInt ∧ (t >>> ((nI 28).toInt64 &&& 63)).toInt ≤ 68719476736) ∧ lm_ev b28 (nd (vp_updL f i (t &&& 268435455))) (i + 1) + (t >>> ((nI 28).toInt64 &&& 63)).toInt * b28 ^ (i + 1) = S + x.toInt * b28 ^ i := by
  have e2 : t.toInt = c.toInt + x.toInt := by rw [ht, lj_add (by omega) (by omega)]
  refine ⟨?_, nd_carry e2 h⟩
  have e3 : (t >>> ((nI 28).toInt64 &&& 63)).toInt = t.toInt / 268435456 := lj_shr28 t
  rw [e3, e2]; omega
theorem cu_end {f : Nat → Int64} {n v : Nat} {c : Int} (hd : ∀ j, j < n → 0 ≤ nd f j ∧ nd f j < b28) (hc : 0 ≤ c) (h : lm_ev b28 (nd f) n + c * b28 ^ n = (v : Int)) (hv : v < vB ^ n) : c = 0 := by
  have h1 := lm_nonneg b28_pos (f := nd f) (n := n) (fun j hj => (hd j hj).1)
  have h2 := lm_powpos b28_pos n
  have h3 : (v : Int) < b28 ^ n := by rw [← vB_c, ← Int.natCast_pow]; exact Int.ofNat_lt.mpr hv
  by_cases e : c = 0
  · exact e
  · have h4 : 1 * b28 ^ n ≤ c * b28 ^ n := Int.mul_le_mul_of_nonneg_right (by omega) (by omega)
    omega

set_option maxRecDepth 100000 in
set_option maxHeartbeats 4000000 in
theorem k_N_gather (l : Launch) (T : wT) (F : wFt) (U K : wUt) (I : wIt) (O : wOt) (x b st lf kb : Nat) (g : Int64) (hi : x < 34) (hb9 : b < 34) (hxb : b ≠ x) (hU : U b = nI kb) (hst : st ≤ kb) (hlf : lf + kb ≤ 75) : Met l y_N_gather (.code y_N_gather c_N_gather 10 none :: bg) ({ frames := 0, cells := 0, slots := 0, locals := 0 } : Room) (mP T F U K I O [.ref (wa T x), .ref (wa T b), .int (nI st), .int (nI lf), .long g]) (mQv T (va_up F x (gaf (F x) (F b) lf g st (kb - st))) U K I O) 0 0 (wA T) := by
  refine wM_v (by decide) (Nat.le_of_ble_eq_true rfl) ?_
  intro p e R s m args below meth c Q ls hx hb hC hRf hRl hret hl hw
  have hRf : 0 ≤ R.frames := hRf
  have hRl : 0 ≤ R.locals := hRl
  have hl : lv_has ls 10 [(0, .ref (wa T x)), (1, .ref (wa T b)), (2, .int (nI st)), (3, .int (nI lf)), (4, .long g)] := hl
  refine lv_aload_n hx hb d_N_gather_0 rfl (lv_at hl 0 rfl) ?_
  refine wg_Natural_limbs hx hb hC hw (by omega) bw_43 d_N_gather_1 ?_
  refine lv_astore hx hb d_N_gather_4 hl (by decide) rfl (fun ls hl => ?_)
  have hl : lv_has ls 10 [(6, .ref (wa T (34 + x))), (0, .ref (wa T x)), (1, .ref (wa T b)), (2, .int (nI st)), (3, .int (nI lf)), (4, .long g)] := hl
  refine lv_aload_n hx hb d_N_gather_6 rfl (lv_at hl 2 rfl) ?_
  refine wg_Natural_limbs hx hb hC hw (by omega) bw_43 d_N_gather_7 ?_
  refine lv_astore hx hb d_N_gather_10 hl (by decide) rfl (fun ls hl => ?_)
  have hl : lv_has ls 10 [(7, .ref (wa T (34 + b))), (6, .ref (wa T (34 + x))), (0, .ref (wa T x)), (1, .ref (wa T b)), (2, .int (nI st)), (3, .int (nI lf)), (4, .long g)] := hl
  refine lv_aload_n hx hb d_N_gather_12 rfl (lv_at hl 3 rfl) ?_
  refine wg_Natural_used hx hb hC hw (by omega) bw_45 d_N_gather_13 ?_
  refine sw_i (y := nI kb) (hU) ?_
  refine lv_istore hx hb d_N_gather_16 hl (by decide) rfl (fun ls hl => ?_)
  have hl : lv_has ls 10 [(8, .int (nI kb)), (7, .ref (wa T (34 + b))), (6, .ref (wa T (34 + x))), (0, .ref (wa T x)), (1, .ref (wa T b)), (2, .int (nI st)), (3, .int (nI lf)), (4, .long g)] := hl
  refine lv_iload_n hx hb d_N_gather_18 rfl (lv_at hl 5 rfl) ?_
  refine lv_istore hx hb d_N_gather_19 hl (by decide) rfl (fun ls hl => ?_)
  have hl : lv_has ls 10 [(9, .int (nI st)), (8, .int (nI kb)), (7, .ref (wa T (34 + b))), (6, .ref (wa T (34 + x))), (0, .ref (wa T x)), (1, .ref (wa T b)), (2, .int (nI st)), (3, .int (nI lf)), (4, .long g)] := hl
  rw [← va_upx F x] at hw
  have lp : ∀ (n i : Nat)  (ls : Array Slot) (H : Heap) (locs : List Loc), kb - i = n → i ≤ kb → (st ≤ i) →  lv_has ls 10 [(9, .int (nI i)), (8, .int (nI kb)), (7, .ref (wa T (34 + b))), (6, .ref (wa T (34 + x))), (0, .ref (wa T x)), (1, .ref (wa T b)), (2, .int (nI st)), (3, .int (nI lf)), (4, .long g)] → wH T (va_up F x (gaf (F x) (F b) lf g st (i - st))) U K I O (wA T) s s.heap H locs → W p l e R s m args below meth c H locs 0 0 Q (F0 m 21 ls []) := by
    intro n
    induction n with
    | zero =>
      intro i  ls H locs hn hle h1 hl hw
      refine lv_iload hx hb d_N_gather_21 (lv_at hl 0 rfl) ?_
      refine lv_iload hx hb d_N_gather_23 (lv_at hl 1 rfl) ?_
      refine n_icmp_ge (tgt := 52) hx hb d_N_gather_25 (by decide) (by omega) (by omega) (fun h0 => ?_) (fun h0 => ?_)
      · have e9 : kb = i := by omega
        subst e9
        exact hret _ _ _ _ hw d_N_gather_52
      · exact absurd h0 (by omega)
    | succ n ih =>
      intro i  ls H locs hn hle h1 hl hw
      refine lv_iload hx hb d_N_gather_21 (lv_at hl 0 rfl) ?_
      refine lv_iload hx hb d_N_gather_23 (lv_at hl 1 rfl) ?_
      refine n_icmp_ge (tgt := 52) hx hb d_N_gather_25 (by decide) (by omega) (by omega) (fun h0 => ?_) (fun h0 => ?_)
      · exact absurd h0 (by omega)
      · obtain ⟨r, rfl⟩ : ∃ r, i = st + r := ⟨i - st, by omega⟩
        rw [show st + r - st = r by omega] at hw
        refine lv_aload hx hb d_N_gather_28 (lv_at hl 3 rfl) ?_
        refine lv_iload_n hx hb d_N_gather_30 rfl (lv_at hl 7 rfl) ?_
        refine lv_iload hx hb d_N_gather_31 (lv_at hl 0 rfl) ?_
        refine n_iadd hx hb d_N_gather_33 ?_
        refine lv_dup2_11 hx hb d_N_gather_34 rfl rfl ?_
        refine wl_limbs hx hb hw (by omega) (by omega) d_N_gather_35 ?_
        refine sw_l (y := gaf (F x) (F b) lf g st r (lf + (st + r))) (by rw [va_up_self]) ?_
        refine lv_lload hx hb d_N_gather_36 (lv_at hl 8 rfl) ?_
        refine lv_aload hx hb d_N_gather_38 (lv_at hl 2 rfl) ?_
        refine lv_iload hx hb d_N_gather_40 (lv_at hl 0 rfl) ?_
        refine wl_limbs hx hb hw (by omega) (by omega) d_N_gather_42 ?_
        refine sw_l (y := F b (st + r)) (by rw [va_up_ne _ _ hxb]) ?_
        refine lv_lmul hx hb d_N_gather_43 ?_
        refine lv_ladd hx hb d_N_gather_44 ?_
        refine ws_limbs hx hb hw (by omega) (by omega) d_N_gather_45 (fun H locs hw => ?_)
        refine lv_iinc (v := nI (st + r + 1)) hx hb d_N_gather_46 hl (k := 0) rfl (nI_add _ 1) (by decide) rfl (fun ls hl => ?_)
        have hl : lv_has ls 10 [(9, .int (nI (st + r + 1))), (8, .int (nI kb)), (7, .ref (wa T (34 + b))), (6, .ref (wa T (34 + x))), (0, .ref (wa T x)), (1, .ref (wa T b)), (2, .int (nI st)), (3, .int (nI lf)), (4, .long g)] := hl
        refine lv_goto (tgt := 21) hx hb d_N_gather_49 (by decide) ?_
        rw [bx_uu, va_up_self, ← gaf_s] at hw
        refine ih (st + r + 1) ls H locs (by omega) (by omega) (by omega) hl ?_
        rw [show st + r + 1 - st = r + 1 by omega]; exact hw
  exact lp (kb - st) st ls _ _ rfl hst (Nat.le_refl st) hl (by rw [Nat.sub_self]; exact hw)
set_option maxRecDepth 100000 in
set_option maxHeartbeats 4000000 in
theorem k_N_carryUp (l : Launch) (T : wT) (F : wFt) (U K : wUt) (I : wIt) (O : wOt) (x k0 en v : Nat) (hi : x < 34) (hU : U x = nI k0) (hk : k0 ≤ 75) (he : en ≤ 75) (hd : ∀ j, j < en → 0 ≤ nd (F x) j ∧ nd (F x) j ≤ 8000000000000000000) (hz : ∀ j, en ≤ j → k0 ≤ j → j < 75 → F x j = 0) (hv : lm_ev b28 (nd (F x)) en = (v : Int)) (hv2 : v < vB ^ en) : Met l y_N_carryUp (.code y_N_carryUp c_N_carryUp 5 none :: bg) ({ frames := 1, cells := 0, slots := 0, locals := 22 } : Room) (mP T F U K I O [.ref (wa T x), .int (nI en)]) (mQv T (va_up F x (fD v)) (va_up U x (uD v)) K I O) 0 0 (wA T) := by
  refine wM_v (by decide) (Nat.le_of_ble_eq_true rfl) ?_
  intro p e R s m args below meth c Q ls hx hb hC hRf hRl hret hl hw
  have hRf : 1 ≤ R.frames := hRf
  have hRl : 22 ≤ R.locals := hRl
  have hl : lv_has ls 5 [(0, .ref (wa T x)), (1, .int (nI en))] := hl
  refine lv_lconst (v := 0) hx hb d_N_carryUp_0 (by decide +kernel) ?_
  refine lv_lstore_n hx hb d_N_carryUp_1 rfl hl (by decide) rfl (fun ls hl => ?_)
  have hl : lv_has ls 5 [(2, .long (0 : Int64)), (0, .ref (wa T x)), (1, .int (nI en))] := hl
  refine lv_iconst (v := nI 0) hx hb d_N_carryUp_2 (by decide +kernel) ?_
  refine lv_istore hx hb d_N_carryUp_3 hl (by decide) rfl (fun ls hl => ?_)
  have hl : lv_has ls 5 [(4, .int (nI 0)), (2, .long (0 : Int64)), (0, .ref (wa T x)), (1, .int (nI en))] := hl
  rw [← va_upx F x] at hw
  have lp : ∀ (n i : Nat) (f : Nat → Int64) (cy : Int64) (ls : Array Slot) (H : Heap) (locs : List Loc), en - i = n → i ≤ en → (0 ≤ cy.toInt ∧ cy.toInt ≤ 68719476736) → (lm_ev b28 (nd f) i + cy.toInt * b28 ^ i = lm_ev b28 (nd (F x)) i) → (∀ j, j < i → 0 ≤ nd f j ∧ nd f j < b28) → (∀ j, i ≤ j → f j = F x j) →  lv_has ls 5 [(4, .int (nI i)), (2, .long cy), (0, .ref (wa T x)), (1, .int (nI en))] → wH T (va_up F x f) U K I O (wA T) s s.heap H locs → W p l e R s m args below meth c H locs 0 0 Q (F0 m 5 ls []) := by
    intro n
    induction n with
    | zero =>
      intro i f cy ls H locs hn hle h1 h2 h3 h4 hl hw
      refine lv_iload hx hb d_N_carryUp_5 (lv_at hl 0 rfl) ?_
      refine lv_iload_n hx hb d_N_carryUp_7 rfl (lv_at hl 3 rfl) ?_
      refine n_icmp_ge (tgt := 44) hx hb d_N_carryUp_8 (by decide) (by omega) (by omega) (fun h0 => ?_) (fun h0 => ?_)
      · have e9 : en = i := by omega
        subst e9
        refine lv_aload_n hx hb d_N_carryUp_44 rfl (lv_at hl 2 rfl) ?_
        refine lv_iload_n hx hb d_N_carryUp_45 rfl (lv_at hl 3 rfl) ?_
        rw [hv] at h2
        have c0 := cu_end h3 h1.1 h2 hv2
        have s2 : lm_ev b28 (nd f) en = (v : Int) := by rw [c0] at h2; omega
        refine wcV_v (As := [.int (nI en)]) hx hb hC hw (k_N_settle l T (va_up F x f) U K I O x k0 en v hi hU hk he (by rw [va_up_self]; exact h3) (fun j a1 a2 a3 => by rw [va_up_self, h4 j (by omega)]; exact hz j a1 a2 a3) (by rw [va_up_self]; exact s2)) lk_N_39 rfl rfl ⟨by show 0 + 1 ≤ R.frames; omega, by show 8 + (3 + 11) + 0 ≤ R.locals; omega⟩ (by omega) (we_Natural (by omega)) rfl rfl hl.1 rfl (Nat.le_of_ble_eq_true rfl) ⟨Nat.zero_le _, Nat.zero_le _⟩ d_N_carryUp_46 (fun H locs hw => ?_)
        rw [bx_uu] at hw
        exact hret _ _ _ _ hw d_N_carryUp_49
      · exact absurd h0 (by omega)
    | succ n ih =>
      intro i f cy ls H locs hn hle h1 h2 h3 h4 hl hw
      refine lv_iload hx hb d_N_carryUp_5 (lv_at hl 0 rfl) ?_
      refine lv_iload_n hx hb d_N_carryUp_7 rfl (lv_at hl 3 rfl) ?_
      refine n_icmp_ge (tgt := 44) hx hb d_N_carryUp_8 (by decide) (by omega) (by omega) (fun h0 => ?_) (fun h0 => ?_)
      · exact absurd h0 (by omega)
      · refine lv_lload_n hx hb d_N_carryUp_11 rfl (lv_at hl 1 rfl) ?_
        refine lv_aload_n hx hb d_N_carryUp_12 rfl (lv_at hl 2 rfl) ?_
        refine wg_Natural_limbs hx hb hC hw (by omega) bw_43 d_N_carryUp_13 ?_
        refine lv_iload hx hb d_N_carryUp_16 (lv_at hl 0 rfl) ?_
        refine wl_limbs hx hb hw (by omega) (by omega) d_N_carryUp_18 ?_
        refine sw_l (y := F x i) (by rw [va_up_self]; exact h4 i (Nat.le_refl i)) ?_
        refine lv_ladd hx hb d_N_carryUp_19 ?_
        refine lv_topl (fun t et => ?_)
        refine lv_lstore_n hx hb d_N_carryUp_20 rfl hl (by decide) rfl (fun ls hl => ?_)
        have hl : lv_has ls 5 [(2, .long t), (4, .int (nI i)), (0, .ref (wa T x)), (1, .int (nI en))] := hl
        refine lv_aload_n hx hb d_N_carryUp_21 rfl (lv_at hl 2 rfl) ?_
        refine wg_Natural_limbs hx hb hC hw (by omega) bw_43 d_N_carryUp_22 ?_
        refine lv_iload hx hb d_N_carryUp_25 (lv_at hl 1 rfl) ?_
        refine lv_lload_n hx hb d_N_carryUp_27 rfl (lv_at hl 0 rfl) ?_
        refine lv_ldc2 (v := 268435455) hx hb hC.ow (hC.hts bw_300) d_N_carryUp_28 ?_
        refine lv_land hx hb d_N_carryUp_31 ?_
        refine ws_limbs hx hb hw (by omega) (by omega) d_N_carryUp_32 (fun H locs hw => ?_)
        refine lv_lload_n hx hb d_N_carryUp_33 rfl (lv_at hl 0 rfl) ?_
        refine lv_bipush (v := nI 28) hx hb d_N_carryUp_34 (by decide +kernel) ?_
        refine lv_lshr hx hb d_N_carryUp_36 rfl ?_
        refine lv_lstore_n hx hb d_N_carryUp_37 rfl hl (by decide) rfl (fun ls hl => ?_)
        have hl : lv_has ls 5 [(2, .long (t >>> ((nI 28).toInt64 &&& 63))), (4, .int (nI i)), (0, .ref (wa T x)), (1, .int (nI en))] := hl
        refine lv_iinc (v := nI (i + 1)) hx hb d_N_carryUp_38 hl (k := 1) rfl (nI_add _ 1) (by decide) rfl (fun ls hl => ?_)
        have hl : lv_has ls 5 [(4, .int (nI (i + 1))), (2, .long (t >>> ((nI 28).toInt64 &&& 63))), (0, .ref (wa T x)), (1, .int (nI en))] := hl
        refine lv_goto (tgt := 5) hx hb d_N_carryUp_41 (by decide) ?_
        rw [bx_uu, va_up_self] at hw
        have q := cu_step h1 (hd i (by omega)) et h2
        exact ih (i + 1) _ _ ls H locs (by omega) (by omega) q.1 q.2 (pu_in h3) (fun j hj => by rw [pk_uLn (by omega)]; exact h4 j (by omega)) hl hw
  exact lp en 0 (F x) 0 ls _ _ (by omega) (by omega) (by decide +kernel) (by rw [lm_ev0, lj_0]; rfl) (fun j h => absurd h (by omega)) (fun _ _ => rfl) hl hw
