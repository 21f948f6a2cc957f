/-! Division: one limb of the quotient -/
theorem dg_add {a b fr : Nat} (ha : a < vB ^ fr) (j : Nat) : (a + vB ^ fr * b) / vB ^ j % vB = if j < fr then a / vB ^ j % vB else b / vB ^ (j - fr) % vB := by
  split
  · rename_i h
    have e1 : vB ^ fr * b = vB ^ j * (vB * (vB ^ (fr - j - 1) * b)) := by
      rw [← Nat.mul_assoc, ← Nat.mul_assoc, ← Nat.pow_succ, ← Nat.pow_add, show j.succ + (fr - j - 1) = fr by omega]
    rw [e1, Nat.add_mul_div_left _ _ (Nat.pow_pos vB_pos), Nat.add_mul_mod_self_left]
  · rename_i h
    have e1 : vB ^ j = vB ^ fr * vB ^ (j - fr) := by rw [← Nat.pow_add, show fr + (j - fr) = j by omega]
    rw [e1, ← Nat.div_div_eq_div_mul, Nat.add_mul_div_left _ _ (Nat.pow_pos vB_pos), Nat.div_eq_of_lt ha, Nat.zero_add]
theorem ta_eq {r v fr n : Nat} (hr : r < v * vB ^ fr * vB) (hv : v < vB ^ n) (hv0 : 0 < v) (j : Nat) : ta (fD r) fr n (r / vB ^ fr % v) 0 j = fD (r % (v * vB ^ fr)) j := by
  have hp : 0 < vB ^ fr := Nat.pow_pos vB_pos
  have hm := Nat.mod_lt r hp
  have e0 : r % (v * vB ^ fr) = r % vB ^ fr + vB ^ fr * (r / vB ^ fr % v) := by rw [Nat.mul_comm, Nat.mod_mul]
  have e1 : r = r % vB ^ fr + vB ^ fr * (r / vB ^ fr) := (Nat.mod_add_div r (vB ^ fr)).symm
  have hu : r / vB ^ fr % v < vB ^ n := Nat.lt_trans (Nat.mod_lt _ hv0) hv
  have hu2 : r / vB ^ fr < vB ^ (n + 1) := by
    apply Nat.div_lt_of_lt_mul
    have h1 : v * vB ^ fr * vB ≤ vB ^ n * vB ^ fr * vB := Nat.mul_le_mul_right _ (Nat.mul_le_mul_right _ (Nat.le_of_lt hv))
    have h2 : vB ^ n * vB ^ fr * vB = vB ^ fr * vB ^ (n + 1) := by rw [Nat.pow_succ]; grind
    exact Nat.lt_of_lt_of_le hr (Nat.le_trans h1 (Nat.le_of_eq h2))
  unfold ta
  rw [fD_lN (r % (v * vB ^ fr)), e0, dg_add hm]
  by_cases c1 : fr ≤ j ∧ j < fr + n
  · rw [if_pos c1, if_neg (by omega), fD_lN]
  · rw [if_neg c1]
    by_cases c2 : j = fr + n
    · rw [if_pos c2, if_neg (by omega), Nat.div_eq_of_lt (by rw [show j - fr = n by omega]; exact hu), Nat.zero_mod]; rfl
    · rw [if_neg c2, fD_lN]
      conv => lhs; rw [e1]
      rw [dg_add hm]
      split
      · rfl
      · have h3 := vB_le (show n + 1 ≤ j - fr by omega)
        have h4 := vB_le (show n ≤ n + 1 by omega)
        rw [Nat.div_eq_of_lt (by omega), Nat.div_eq_of_lt (by omega)]
theorem ta_ta (f : Nat → Int64) (fr n X X' : Nat) (t t' : Int64) : ta (ta f fr n X t) fr n X' t' = ta f fr n X' t' := funext fun j => by
  unfold ta
  by_cases c1 : fr ≤ j ∧ j < fr + n
  · simp only [if_pos c1]
  · by_cases c2 : j = fr + n
    · simp only [if_neg c1, if_pos c2]
    · simp only [if_neg c1, if_neg c2]
theorem wnd_ev {r fr m : Nat} (h : r / vB ^ fr < vB ^ m) : lm_ev b28 (fun j => nd (fD r) (fr + j)) m = ((r / vB ^ fr : Nat) : Int) := by
  have e1 : lm_ev b28 (fun j => nd (fD r) (fr + j)) m = lm_ev b28 (nd (fD (r / vB ^ fr))) m := lm_congr (fun j _ => by
    show nd (fD r) (fr + j) = _
    rw [fD_nd, fD_nd]
    show ((r / vB ^ (fr + j) % vB : Nat) : Int) = ((r / vB ^ fr / vB ^ j % vB : Nat) : Int)
    rw [Nat.div_div_eq_div_mul, ← Nat.pow_add])
  rw [e1, fD_ev, Nat.mod_eq_of_lt h]
/-- the guess is the limb, or one above it -/
theorem nl_case {r v fr gg : Nat} (hv0 : 0 < v) (g2 : r < (gg + 1) * (v * vB ^ fr)) (g3 : gg * (v * vB ^ fr) ≤ r + v * vB ^ fr) : gg = r / (v * vB ^ fr) ∨ gg = r / (v * vB ^ fr) + 1 := by
  have hw : 0 < v * vB ^ fr := Nat.mul_pos hv0 (Nat.pow_pos vB_pos)
  generalize v * vB ^ fr = w at *
  have h1 : r / w < gg + 1 := Nat.div_lt_of_lt_mul (by rw [Nat.mul_comm]; exact g2)
  have h2 : gg ≤ (r + w) / w := (Nat.le_div_iff_mul_le hw).mpr g3
  rw [Nat.add_div_right _ hw] at h2
  omega

set_option maxRecDepth 100000 in
set_option maxHeartbeats 4000000 in
theorem k_D_nextLimb (l : Launch) (T : wT) (F : wFt) (U K : wUt) (I : wIt) (O : wOt) (d fr n v r kr : Nat) (hd3 : d < 3) (hn1 : 1 ≤ n) (hfr : fr + n ≤ 74) (hU : U (15 + 3 * d) = nI n) (hv : v < vB ^ n) (hvt : vB ^ n ≤ 2 * v) (hL : F (15 + 3 * d) = fD v) (hUr : U (14 + 3 * d) = nI kr) (hkr : kr ≤ 75) (hrk : r < vB ^ kr) (hR : F (14 + 3 * d) = fD r) (hr : r < v * vB ^ fr * vB) : Met l y_D_nextLimb (.code y_D_nextLimb c_D_nextLimb 4 (some .long) :: bg) ({ frames := 2, cells := 0, slots := 0, locals := 57 } : Room) (mP T F U K I O [.ref (wa T (81 + d)), .int (nI fr)]) (mQl T (lN (r / (v * vB ^ fr))) (va_up F (14 + 3 * d) (fD (r % (v * vB ^ fr)))) U K I O) 0 0 (wA T) := by
  refine wM_l (by decide) (Nat.le_of_ble_eq_true rfl) ?_
  intro p e R s m args below meth c Q ls hx hb hC hRf hRl hret hl hw
  have hRf : 2 ≤ R.frames := hRf
  have hRl : 57 ≤ R.locals := hRl
  have hl : lv_has ls 4 [(0, .ref (wa T (81 + d))), (1, .int (nI fr))] := hl
  have hv0 : 0 < v := by have := Nat.pow_pos (n := n) vB_pos; omega
  have hu : r / vB ^ fr < v * vB := Nat.div_lt_of_lt_mul (by rw [← Nat.mul_assoc, Nat.mul_comm (vB ^ fr)]; exact hr)
  have hu2 : r / vB ^ fr < vB ^ (n + 1) := by rw [Nat.pow_succ]; exact Nat.lt_of_lt_of_le hu (Nat.mul_le_mul_right _ (Nat.le_of_lt hv))
  have hD := wnd_ev hu2
  have hq : r / (v * vB ^ fr) = r / vB ^ fr / v := by rw [Nat.div_div_eq_div_mul, Nat.mul_comm]
  have hxv := Nat.mod_lt (r / vB ^ fr) hv0
  have hda := Nat.div_add_mod (r / vB ^ fr) v
  have hBn : b28 ^ n = ((vB ^ n : Nat) : Int) := by rw [← vB_c, Int.natCast_pow]
  refine lv_aload_n hx hb d_D_nextLimb_0 rfl (lv_at hl 0 rfl) ?_
  refine lv_iload_n hx hb d_D_nextLimb_1 rfl (lv_at hl 1 rfl) ?_
  refine lv_aload_n hx hb d_D_nextLimb_2 rfl (lv_at hl 0 rfl) ?_
  refine wg_Division_lifted hx hb hC hw (by omega) bw_97 d_D_nextLimb_3 ?_
  refine wg_Natural_used hx hb hC hw (by omega) bw_46 d_D_nextLimb_6 ?_
  refine sw_i (y := nI n) (hU) ?_
  refine n_iadd hx hb d_D_nextLimb_9 ?_
  refine wcV_lp (As := [.int (nI (fr + n))]) hx hb hC hw (k_D_guessLimb l T F U K I O d fr n v r kr hd3 hn1 hfr hU hv hvt (fun j => by rw [hL]) hUr hkr hrk (fun j => by rw [hR]) hr) lk_D_73 rfl rfl ⟨by show 1 + 1 ≤ R.frames; omega, by show 8 + (15 + 11) + 23 ≤ R.locals; omega⟩ (by omega) (we_Division hd3) rfl rfl hl.1 rfl (Nat.le_of_ble_eq_true rfl) ⟨Nat.zero_le _, Nat.zero_le _⟩ d_D_nextLimb_10 (fun g9 H locs hPg hw => ?_)
  obtain ⟨gg, rfl, g1, g2, g3⟩ := hPg
  have hcase := nl_case hv0 g2 g3
  rw [hq] at hcase
  clear g2 g3
  generalize hqq : r / vB ^ fr / v = q at hcase hq hda
  rw [hq] at hret
  have hxx : r / vB ^ fr % v < vB ^ n := Nat.lt_trans hxv hv
  refine lv_lstore_n hx hb d_D_nextLimb_13 rfl hl (by decide) rfl (fun ls hl => ?_)
  have hl : lv_has ls 4 [(2, .long (lN gg)), (0, .ref (wa T (81 + d))), (1, .int (nI fr))] := hl
  refine lv_aload_n hx hb d_D_nextLimb_14 rfl (lv_at hl 1 rfl) ?_
  refine lv_iload_n hx hb d_D_nextLimb_15 rfl (lv_at hl 2 rfl) ?_
  refine lv_lload_n hx hb d_D_nextLimb_16 rfl (lv_at hl 0 rfl) ?_
  rcases hcase with hc | hc
  · subst hc
    refine wcV_z (As := [.int (nI fr), .long (lN gg)]) hx hb hC hw (k_D_takeAway l T F U K I O d fr n v (r / vB ^ fr % v) 0 hd3 (by omega) hfr hU hv (fun j => by rw [hL]) gg (r / vB ^ fr) g1 (fun j _ => by rw [hR]; exact fD_in _ _) (by rw [hR]; exact hD) hxx (by
        have e1 : ((r / vB ^ fr : Nat) : Int) = (v : Int) * (gg : Int) + ((r / vB ^ fr % v : Nat) : Int) := by exact_mod_cast hda.symm
        rw [e1, lj_0]; grind)) lk_D_76 rfl rfl ⟨by show 0 + 1 ≤ R.frames; omega, by show 8 + (10 + 11) + 0 ≤ R.locals; omega⟩ (by omega) (we_Division (by omega)) rfl rfl hl.1 rfl (Nat.le_of_ble_eq_true rfl) ⟨Nat.zero_le _, Nat.zero_le _⟩ d_D_nextLimb_17 (fun H locs hw => ?_)
    refine sw_i (y := nI 1) (by rw [if_pos (by decide +kernel)]; rfl) ?_
    refine n_if_eq (tgt := 25) hx hb d_D_nextLimb_20 (by decide) (by omega) (fun h => ?_) (fun h => ?_)
    · exact absurd h (by decide)
    · refine lv_lload_n hx hb d_D_nextLimb_23 rfl (lv_at hl 0 rfl) ?_
      have hw := wH.canon (g := fD (r % (v * vB ^ fr))) (by omega) hw (fun j _ => by rw [hR]; exact ta_eq hr hv hv0 j)
      exact hret _ _ _ _ hw d_D_nextLimb_24
  · subst hc
    have e1 : ((r / vB ^ fr : Nat) : Int) = (v : Int) * (q : Int) + ((r / vB ^ fr % v : Nat) : Int) := by exact_mod_cast hda.symm
    have em : (-1 : Int64).toInt = -1 := by decide +kernel
    have e2 : ((vB ^ n + r / vB ^ fr % v - v : Nat) : Int) = ((vB ^ n : Nat) : Int) + ((r / vB ^ fr % v : Nat) : Int) - (v : Int) := by omega
    have hX0 : vB ^ n + r / vB ^ fr % v - v < vB ^ n := by omega
    refine wcV_z (As := [.int (nI fr), .long (lN (q + 1))]) hx hb hC hw (k_D_takeAway l T F U K I O d fr n v (vB ^ n + r / vB ^ fr % v - v) (-1) hd3 (by omega) hfr hU hv (fun j => by rw [hL]) (q + 1) (r / vB ^ fr) g1 (fun j _ => by rw [hR]; exact fD_in _ _) (by rw [hR]; exact hD) hX0 (by
        rw [e1, e2, em, hBn]; push_cast; grind)) lk_D_76 rfl rfl ⟨by show 0 + 1 ≤ R.frames; omega, by show 8 + (10 + 11) + 0 ≤ R.locals; omega⟩ (by omega) (we_Division (by omega)) rfl rfl hl.1 rfl (Nat.le_of_ble_eq_true rfl) ⟨Nat.zero_le _, Nat.zero_le _⟩ d_D_nextLimb_17 (fun H locs hw => ?_)
    refine sw_i (y := nI 0) (by rw [if_neg (by decide +kernel)]; rfl) ?_
    refine n_if_eq (tgt := 25) hx hb d_D_nextLimb_20 (by decide) (by omega) (fun h => ?_) (fun h => ?_)
    · refine lv_aload_n hx hb d_D_nextLimb_25 rfl (lv_at hl 1 rfl) ?_
      refine lv_iload_n hx hb d_D_nextLimb_26 rfl (lv_at hl 2 rfl) ?_
      refine wcV_v (As := [.int (nI fr)]) hx hb hC hw (k_D_putBack l T (va_up F (14 + 3 * d) (ta (F (14 + 3 * d)) fr n (vB ^ n + r / vB ^ fr % v - v) (-1))) U K I O d fr n v (r / vB ^ fr % v) 0 hd3 (by omega) hfr hU hv (fun j => by rw [va_up_ne _ _ (by omega), hL]) (vB ^ n + r / vB ^ fr % v - v) (-1) hX0 (fun j hj => by rw [va_up_self]; unfold ta; rw [if_pos (by omega), show fr + j - fr = j by omega]) (by rw [va_up_self]; unfold ta; rw [if_neg (by omega), if_pos rfl]) (by rw [em]; decide) hxx (by
          rw [e2, em, hBn, lj_0]; omega)) lk_D_80 rfl rfl ⟨by show 0 + 1 ≤ R.frames; omega, by show 8 + (6 + 11) + 0 ≤ R.locals; omega⟩ (by omega) (we_Division (by omega)) rfl rfl hl.1 rfl (Nat.le_of_ble_eq_true rfl) ⟨Nat.zero_le _, Nat.zero_le _⟩ d_D_nextLimb_27 (fun H locs hw => ?_)
      rw [bx_uu, va_up_self, ta_ta] at hw
      have hw := wH.canon (g := fD (r % (v * vB ^ fr))) (by omega) hw (fun j _ => by rw [hR]; exact ta_eq hr hv hv0 j)
      refine lv_lload_n hx hb d_D_nextLimb_30 rfl (lv_at hl 0 rfl) ?_
      refine lv_lconst (v := 1) hx hb d_D_nextLimb_31 (by decide +kernel) ?_
      refine lv_lsub hx hb d_D_nextLimb_32 ?_
      refine sw_l (y := lN q) (lN_sub (b := 1) (by omega)) ?_
      exact hret _ _ _ _ hw d_D_nextLimb_33
    · exact absurd h (by decide)
