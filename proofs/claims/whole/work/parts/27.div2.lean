/-! Division: the guess -/
theorem k_N_atG (l : Launch) (T : wT) (F : wFt) (U K : wUt) (I : wIt) (O : wOt) (x a b k : Nat) (hi : x < 34) (hU : U x = nI k) (hk : k ≤ 75) (ha : a < 1073741824) (hb : b < 1073741824) : Met l y_N_at (.code y_N_at c_N_at 2 (some .long) :: bg) ({ frames := 0, cells := 0, slots := 0, locals := 0 } : Room) (mP T F U K I O [.ref (wa T x), .int (nI a - nI b)]) (mQl T (if b ≤ a ∧ a - b < k then F x (a - b) else 0) F U K I O) 0 0 (wA T) := by
  by_cases h : b ≤ a
  · rw [pk_sub h]
    have h1 := k_N_at l T F U K I O x (a - b) k hi hU hk (by omega)
    by_cases h2 : a - b < k
    · rw [if_pos ⟨h, h2⟩]; rw [if_pos h2] at h1; exact h1
    · rw [if_neg (fun q => h2 q.2)]; rw [if_neg h2] at h1; exact h1
  · rw [if_neg (fun q => h q.1)]
    exact k_N_atN l T F U K I O x _ hi (pk_sneg (by omega) (by omega))
theorem gz_init {r w v1 h Q vl ul : Nat} (hr : r = h * Q + ul) (hw : w = v1 * Q + vl) (hul : ul < Q) (hv1 : 0 < v1) : r < (h / v1 + 1) * w := by
  have := kn_c (h := (h : Int)) (v1 := v1) (P := Q) (vl := vl) (ul := ul) (by omega) (by omega) (by omega) (by omega) (by omega)
  rw [hr, hw]
  exact_mod_cast this
theorem gz_down {r w V2 U3 Q vl ul g B : Nat} (hr : r * B = U3 * Q + ul) (hw : w * B = V2 * Q + vl) (hul : ul < Q) (ht : U3 < g * V2) : r < g * w := by
  have := kn_b (g := (g : Int)) (V2 := V2) (P := Q) (vl := vl) (U3 := U3) (ul := ul) (by omega) (by omega) (by omega) (by omega) (by exact_mod_cast ht)
  have h2 : U3 * Q + ul < g * (V2 * Q + vl) := by exact_mod_cast this
  rw [← hr, ← hw, ← Nat.mul_assoc] at h2
  exact Nat.lt_of_mul_lt_mul_right h2
theorem gz_stop {r w V2 U3 Q vl ul g B : Nat} (hB : 0 < B) (hr : r * B = U3 * Q + ul) (hw : w * B = V2 * Q + vl) (hvl : vl < Q) (ht : g * V2 ≤ U3) (hgV : g ≤ V2 + 1) : g * w ≤ r + w := by
  by_cases h0 : g = 0
  · rw [h0, Nat.zero_mul]; omega
  · have := kn_a (g := (g : Int)) (V2 := V2) (P := Q) (vl := vl) (U3 := U3) (ul := ul) (by omega) (by omega) (by omega) (by omega) (by omega) (by exact_mod_cast ht)
    obtain ⟨g', rfl⟩ : ∃ g', g = g' + 1 := ⟨g - 1, by omega⟩
    have e1 : ((g' + 1 : Nat) : Int) - 1 = (g' : Int) := by omega
    rw [e1] at this
    have h2 : g' * (V2 * Q + vl) ≤ U3 * Q + ul := by exact_mod_cast this
    rw [← hr, ← hw, ← Nat.mul_assoc] at h2
    have h3 := Nat.le_of_mul_le_mul_right h2 hB
    rw [Nat.add_mul, Nat.one_mul]; omega
theorem hd_eq {r k : Nat} (h : r / vB ^ k < vB * vB) : r / vB ^ (k + 1) % vB * vB + r / vB ^ k % vB = r / vB ^ k := by
  have e : r / vB ^ (k + 1) = r / vB ^ k / vB := by rw [Nat.pow_succ, Nat.div_div_eq_div_mul]
  rw [e, Nat.mod_eq_of_lt (Nat.div_lt_of_lt_mul h), Nat.mul_comm]
  exact Nat.div_add_mod _ _
theorem sh_dg {v k n : Nat} (hv : v < vB ^ n) : (if 2 ≤ k ∧ k - 2 < n then fD v (k - 2) else 0) = lN (v * vB / vB ^ (k - 1) % vB) := by
  by_cases h : 2 ≤ k
  · obtain ⟨j, rfl⟩ : ∃ j, k = j + 2 := ⟨k - 2, by omega⟩
    have e1 : v * vB / vB ^ (j + 2 - 1) = v / vB ^ j := by
      rw [show j + 2 - 1 = j + 1 by omega, Nat.pow_succ, Nat.mul_div_mul_right _ _ vB_pos]
    rw [e1, show j + 2 - 2 = j by omega]
    by_cases h2 : j < n
    · rw [if_pos ⟨h, h2⟩, fD_lN]
    · rw [if_neg (fun q => h2 q.2), Nat.div_eq_of_lt (Nat.lt_of_lt_of_le hv (vB_le (by omega))), Nat.zero_mod]; rfl
  · rw [if_neg (fun q => h q.1), show k - 1 = 0 by omega, Nat.pow_zero, Nat.div_one, Nat.mul_mod_left]; rfl
theorem sh_two {v k : Nat} : v * vB / vB ^ k = v / vB ^ k * vB + v * vB / vB ^ k % vB := by
  have h1 : v * vB / vB ^ k / vB = v / vB ^ k := by
    rw [Nat.div_div_eq_div_mul, Nat.mul_div_mul_right _ _ vB_pos]
  have := Nat.div_add_mod (v * vB / vB ^ k) vB
  rw [h1, Nat.mul_comm] at this
  omega
theorem gz_all {v r fr n0 : Nat} (hv : v < vB ^ (n0 + 1)) (hvt : vB ^ (n0 + 1) ≤ 2 * v) (hr : r < v * vB ^ fr * vB) : ∃ v1 h1 s2 t3 : Nat, v / vB ^ n0 % vB = v1 ∧ r / vB ^ (fr + n0 + 1) % vB * vB + r / vB ^ (fr + n0) % vB = h1 ∧ v * vB / vB ^ n0 % vB = s2 ∧ r * vB / vB ^ (fr + n0) % vB = t3 ∧ 134217728 ≤ v1 ∧ v1 < 268435456 ∧ h1 < 72057594037927936 ∧ s2 < 268435456 ∧ t3 < 268435456 ∧ r < (min (h1 / v1) 268435455 + 1) * (v * vB ^ fr) ∧ (∀ g, h1 * 268435456 + t3 < g * (v1 * 268435456 + s2) → r < g * (v * vB ^ fr)) ∧ (∀ g, g < 268435456 → g * (v1 * 268435456 + s2) ≤ h1 * 268435456 + t3 → g * (v * vB ^ fr) ≤ r + v * vB ^ fr) := by
  have eB : vB = 268435456 := rfl
  have hP0 : 0 < vB ^ n0 := Nat.pow_pos vB_pos
  have hPf : 0 < vB ^ fr := Nat.pow_pos vB_pos
  have hQ : vB ^ (fr + n0) = vB ^ fr * vB ^ n0 := Nat.pow_add _ _ _
  have hQ0 : 0 < vB ^ (fr + n0) := Nat.pow_pos vB_pos
  have v1lt : v / vB ^ n0 < vB := Nat.div_lt_of_lt_mul (by rw [← Nat.pow_succ]; exact hv)
  have v1ge : 134217728 ≤ v / vB ^ n0 := by
    rw [Nat.le_div_iff_mul_le hP0]
    have e1 : vB ^ (n0 + 1) = vB ^ n0 * 268435456 := Nat.pow_succ ..
    generalize vB ^ n0 = P0 at *
    omega
  have hh : r / vB ^ (fr + n0) < vB * vB := by
    apply Nat.div_lt_of_lt_mul
    have h1 : v * vB ^ fr * vB ≤ vB ^ (n0 + 1) * vB ^ fr * vB := Nat.mul_le_mul_right _ (Nat.mul_le_mul_right _ (Nat.le_of_lt hv))
    have h2 : vB ^ (n0 + 1) * vB ^ fr * vB = vB ^ (fr + n0) * (vB * vB) := by rw [hQ, Nat.pow_succ]; grind
    exact Nat.lt_of_lt_of_le hr (Nat.le_trans h1 (Nat.le_of_eq h2))
  have hhe := hd_eq hh
  have e4 : v / vB ^ n0 % vB = v / vB ^ n0 := Nat.mod_eq_of_lt v1lt
  have s2lt : v * vB / vB ^ n0 % vB < vB := Nat.mod_lt _ vB_pos
  have t3lt : r * vB / vB ^ (fr + n0) % vB < vB := Nat.mod_lt _ vB_pos
  have eV2 : v * vB / vB ^ n0 = v / vB ^ n0 * vB + v * vB / vB ^ n0 % vB := sh_two
  have eU3 : r * vB / vB ^ (fr + n0) = r / vB ^ (fr + n0) * vB + r * vB / vB ^ (fr + n0) % vB := sh_two
  have wr : r * vB = (r / vB ^ (fr + n0) * vB + r * vB / vB ^ (fr + n0) % vB) * vB ^ (fr + n0) + r * vB % vB ^ (fr + n0) := by
    rw [← eU3]; have := Nat.div_add_mod (r * vB) (vB ^ (fr + n0)); rw [Nat.mul_comm] at this; exact this.symm
  have ww : v * vB ^ fr * vB = (v / vB ^ n0 * vB + v * vB / vB ^ n0 % vB) * vB ^ (fr + n0) + v * vB % vB ^ n0 * vB ^ fr := by
    rw [← eV2, hQ]
    have := Nat.div_add_mod (v * vB) (vB ^ n0)
    have h2 : v * vB ^ fr * vB = (v * vB) * vB ^ fr := by grind
    rw [h2]
    conv => lhs; rw [← this]
    grind
  have wl : v * vB % vB ^ n0 * vB ^ fr < vB ^ (fr + n0) := by
    rw [hQ, Nat.mul_comm (vB ^ fr)]; exact Nat.mul_lt_mul_of_pos_right (Nat.mod_lt _ hP0) hPf
  have w0 : v * vB ^ fr = v / vB ^ n0 * vB ^ (fr + n0) + v % vB ^ n0 * vB ^ fr := by
    have := Nat.div_add_mod v (vB ^ n0)
    conv => lhs; rw [← this]
    rw [hQ]; grind
  have r0 : r = r / vB ^ (fr + n0) * vB ^ (fr + n0) + r % vB ^ (fr + n0) := by have := Nat.div_add_mod r (vB ^ (fr + n0)); rw [Nat.mul_comm] at this; exact this.symm
  have hq := gz_init r0 w0 (Nat.mod_lt _ hQ0) (Nat.lt_of_lt_of_le (by decide) v1ge)
  refine ⟨v / vB ^ n0, r / vB ^ (fr + n0), _, _, e4, hhe, rfl, rfl, v1ge, v1lt, hh, s2lt, t3lt, ?_, fun g hg => ?_, fun g hg1 hg2 => ?_⟩
  · by_cases hm : r / vB ^ (fr + n0) / (v / vB ^ n0) ≤ 268435455
    · rw [Nat.min_eq_left hm]; exact hq
    · rw [Nat.min_eq_right (by omega)]
      have h9 : (268435455 + 1) * (v * vB ^ fr) = v * vB ^ fr * vB := Nat.mul_comm ..
      rw [h9]; exact hr
  · exact gz_down wr ww (Nat.mod_lt _ hQ0) hg
  · refine gz_stop vB_pos wr ww wl hg2 ?_
    show g ≤ v / vB ^ n0 * 268435456 + v * vB / vB ^ n0 % vB + 1
    generalize v * vB / vB ^ n0 % vB = s2
    generalize v / vB ^ n0 = v1 at v1ge
    omega
theorem lNi_lt {a b : Nat} (ha : a < 9223372036854775808) (hb : b < 9223372036854775808) : (lN a).toInt < (lN b).toInt ↔ a < b := by rw [lj_lN ha, lj_lN hb]; exact Int.ofNat_lt
theorem lNi_le {a b : Nat} (ha : a < 9223372036854775808) (hb : b < 9223372036854775808) : (lN a).toInt ≤ (lN b).toInt ↔ a ≤ b := by rw [lj_lN ha, lj_lN hb]; exact Int.ofNat_le
theorem gq_c {gg v1 s2 lf h1 t3 M : Nat} (h3 : lf + gg * v1 = h1) (h7 : gg * s2 ≤ lf * M + t3) : gg * (v1 * M + s2) ≤ h1 * M + t3 := by
  rw [Nat.mul_add, ← Nat.mul_assoc]
  subst h3
  rw [Nat.add_mul lf]
  generalize gg * v1 * M = Y at *
  generalize gg * s2 = C at *
  generalize lf * M = X at *
  omega
theorem gq_d {gg v1 s2 lf h1 t3 M : Nat} (h3 : lf + gg * v1 = h1) (h7 : lf * M + t3 < gg * s2) : h1 * M + t3 < gg * (v1 * M + s2) := by
  rw [Nat.mul_add, ← Nat.mul_assoc]
  subst h3
  rw [Nat.add_mul lf]
  generalize gg * v1 * M = Y at *
  generalize gg * s2 = C at *
  generalize lf * M = X at *
  omega
theorem gq_i {i lf v1 : Nat} (h : i * 134217728 ≤ lf) (h2 : 134217728 ≤ v1) : (i + 1) * 134217728 ≤ lf + v1 := by
  rw [Nat.add_mul, Nat.one_mul]; exact Nat.add_le_add h h2
theorem gq_l {gg v1 lf h1 : Nat} (hg : 0 < gg) (h3 : lf + gg * v1 = h1) : lf + v1 + (gg - 1) * v1 = h1 := by
  obtain ⟨g9, rfl⟩ : ∃ g9, gg = g9 + 1 := ⟨gg - 1, by omega⟩
  rw [Nat.add_mul, Nat.one_mul] at h3
  rw [show g9 + 1 - 1 = g9 from rfl]
  generalize g9 * v1 = A at *
  omega
theorem lN_minM (a : Nat) (ha : a < 9223372036854775808) : (if (268435455 : Int64) < lN a then (268435455 : Int64) else lN a) = lN (min a 268435455) := by
  have e : (268435455 : Int64) = lN 268435455 := rfl
  rw [e]
  split
  · rename_i h; rw [pk_lLT (by omega) (by omega)] at h; congr 1; omega
  · rename_i h; rw [pk_lLT (by omega) (by omega)] at h; congr 1; omega

set_option maxRecDepth 100000 in
set_option maxHeartbeats 4000000 in
theorem k_D_guessLimb (l : Launch) (T : wT) (F : wFt) (U K : wUt) (I : wIt) (O : wOt) (d fr n v r kr : Nat) (hd3 : d < 3) (hn1 : 1 ≤ n) (hfr : fr + n ≤ 74) (hU : U (15 + 3 * d) = nI n) (hv : v < vB ^ n) (hvt : vB ^ n ≤ 2 * v) (hL : ∀ j, F (15 + 3 * d) j = fD v j) (hUr : U (14 + 3 * d) = nI kr) (hkr : kr ≤ 75) (hrk : r < vB ^ kr) (hR : ∀ j, F (14 + 3 * d) j = fD r j) (hr : r < v * vB ^ fr * vB) : Met l y_D_guessLimb (.code y_D_guessLimb c_D_guessLimb 15 (some .long) :: bg) ({ frames := 1, cells := 0, slots := 0, locals := 23 } : Room) (mP T F U K I O [.ref (wa T (81 + d)), .int (nI (fr + n))]) (mQlp T (fun x => ∃ gg : Nat, x = lN gg ∧ gg < 268435456 ∧ r < (gg + 1) * (v * vB ^ fr) ∧ gg * (v * vB ^ fr) ≤ r + v * vB ^ fr) F U K I O) 0 0 (wA T) := by
  refine wM_lp (by decide) (Nat.le_of_ble_eq_true rfl) ?_
  intro p e R s m args below meth c Q ls hx hb hC hRf hRl hret hl hw
  have hRf : 1 ≤ R.frames := hRf
  have hRl : 23 ≤ R.locals := hRl
  have hl : lv_has ls 15 [(0, .ref (wa T (81 + d))), (1, .int (nI (fr + n)))] := hl
  obtain ⟨n0, rfl⟩ : ∃ n0, n = n0 + 1 := ⟨n - 1, by omega⟩
  obtain ⟨v1, h1, s2, t3, ev1, eh1, es2, et3, v1ge, v1lt, hh, s2lt, t3lt, hgi, hdn, hst⟩ := gz_all hv hvt hr
  have ld2 : (if 2 ≤ n0 + 1 ∧ n0 + 1 - 2 < n0 + 1 then F (15 + 3 * d) (n0 + 1 - 2) else 0) = lN s2 := by rw [hL, sh_dg (k := n0 + 1) hv, show n0 + 1 - 1 = n0 by omega, es2]
  have ld3 : (if 2 ≤ fr + (n0 + 1) ∧ fr + (n0 + 1) - 2 < kr then F (14 + 3 * d) (fr + (n0 + 1) - 2) else 0) = lN t3 := by rw [hR, sh_dg (k := fr + (n0 + 1)) hrk, show fr + (n0 + 1) - 1 = fr + n0 by omega, et3]
  have ld1 : F (15 + 3 * d) (n0 + 1 - 1) = lN v1 := by rw [hL, fD_lN]; exact congrArg lN ev1
  have ldh : F (14 + 3 * d) (fr + (n0 + 1)) * (268435456 : Int64) + F (14 + 3 * d) (fr + (n0 + 1) - 1) = lN h1 := by
    have e5 : F (14 + 3 * d) (fr + (n0 + 1)) = lN (r / vB ^ (fr + n0 + 1) % vB) := by rw [hR]; rfl
    have e6 : F (14 + 3 * d) (fr + (n0 + 1) - 1) = lN (r / vB ^ (fr + n0) % vB) := by rw [hR]; rfl
    have e7 : (268435456 : Int64) = lN vB := rfl
    rw [e5, e6, e7, lN_mul, lN_add, eh1]
  clear hv hvt hr hrk ev1 eh1 es2 et3
  generalize v * vB ^ fr = w9 at hgi hdn hst hret
  have hl : lv_has ls 15 [(0, .ref (wa T (81 + d))), (1, .int (nI (fr + (n0 + 1))))] := hl
  refine lv_aload_n hx hb d_D_guessLimb_0 rfl (lv_at hl 0 rfl) ?_
  refine wg_Division_lifted hx hb hC hw (by omega) bw_97 d_D_guessLimb_1 ?_
  refine wg_Natural_limbs hx hb hC hw (by omega) bw_44 d_D_guessLimb_4 ?_
  refine lv_aload_n hx hb d_D_guessLimb_7 rfl (lv_at hl 0 rfl) ?_
  refine wg_Division_lifted hx hb hC hw (by omega) bw_97 d_D_guessLimb_8 ?_
  refine wg_Natural_used hx hb hC hw (by omega) bw_46 d_D_guessLimb_11 ?_
  refine sw_i (y := nI (n0 + 1)) (hU) ?_
  refine lv_iconst (v := nI 1) hx hb d_D_guessLimb_14 (by decide +kernel) ?_
  refine n_isub hx hb d_D_guessLimb_15 (by omega) ?_
  refine wl_limbs hx hb hw (by omega) (by omega) d_D_guessLimb_16 ?_
  refine sw_l (y := lN v1) (ld1) ?_
  refine lv_lstore_n hx hb d_D_guessLimb_17 rfl hl (by decide) rfl (fun ls hl => ?_)
  have hl : lv_has ls 15 [(2, .long (lN v1)), (0, .ref (wa T (81 + d))), (1, .int (nI (fr + (n0 + 1))))] := hl
  refine lv_aload_n hx hb d_D_guessLimb_18 rfl (lv_at hl 1 rfl) ?_
  refine wg_Division_lifted hx hb hC hw (by omega) bw_97 d_D_guessLimb_19 ?_
  refine lv_aload_n hx hb d_D_guessLimb_22 rfl (lv_at hl 1 rfl) ?_
  refine wg_Division_lifted hx hb hC hw (by omega) bw_97 d_D_guessLimb_23 ?_
  refine wg_Natural_used hx hb hC hw (by omega) bw_46 d_D_guessLimb_26 ?_
  refine sw_i (y := nI (n0 + 1)) (hU) ?_
  refine lv_iconst (v := nI 2) hx hb d_D_guessLimb_29 (by decide +kernel) ?_
  refine lv_isub hx hb d_D_guessLimb_30 ?_
  refine wcV_l (As := [.int (nI (n0 + 1) - nI 2)]) hx hb hC hw (k_N_atG l T F U K I O (15 + 3 * d) (n0 + 1) 2 (n0 + 1) (by omega) hU (by omega) (by omega) (by omega)) lk_D_83 rfl rfl ⟨by show 0 + 1 ≤ R.frames; omega, by show 8 + (2 + 11) + 0 ≤ R.locals; omega⟩ (by omega) (we_Natural (by omega)) rfl rfl hl.1 rfl (Nat.le_of_ble_eq_true rfl) ⟨Nat.zero_le _, Nat.zero_le _⟩ d_D_guessLimb_31 (fun H locs hw => ?_)
  refine sw_l (y := lN s2) (ld2) ?_
  refine lv_lstore hx hb d_D_guessLimb_34 hl (by decide) rfl (fun ls hl => ?_)
  have hl : lv_has ls 15 [(4, .long (lN s2)), (2, .long (lN v1)), (0, .ref (wa T (81 + d))), (1, .int (nI (fr + (n0 + 1))))] := hl
  refine lv_aload_n hx hb d_D_guessLimb_36 rfl (lv_at hl 2 rfl) ?_
  refine wg_Division_rest hx hb hC hw (by omega) bw_93 d_D_guessLimb_37 ?_
  refine wg_Natural_limbs hx hb hC hw (by omega) bw_44 d_D_guessLimb_40 ?_
  refine lv_iload_n hx hb d_D_guessLimb_43 rfl (lv_at hl 3 rfl) ?_
  refine wl_limbs hx hb hw (by omega) (by omega) d_D_guessLimb_44 ?_
  refine lv_ldc2 (v := 268435456) hx hb hC.ow (hC.hts bw_487) d_D_guessLimb_45 ?_
  refine lv_lmul hx hb d_D_guessLimb_48 ?_
  refine lv_aload_n hx hb d_D_guessLimb_49 rfl (lv_at hl 2 rfl) ?_
  refine wg_Division_rest hx hb hC hw (by omega) bw_93 d_D_guessLimb_50 ?_
  refine wg_Natural_limbs hx hb hC hw (by omega) bw_44 d_D_guessLimb_53 ?_
  refine lv_iload_n hx hb d_D_guessLimb_56 rfl (lv_at hl 3 rfl) ?_
  refine lv_iconst (v := nI 1) hx hb d_D_guessLimb_57 (by decide +kernel) ?_
  refine n_isub hx hb d_D_guessLimb_58 (by omega) ?_
  refine wl_limbs hx hb hw (by omega) (by omega) d_D_guessLimb_59 ?_
  refine lv_ladd hx hb d_D_guessLimb_60 ?_
  refine sw_l (y := lN h1) (ldh) ?_
  refine lv_lstore hx hb d_D_guessLimb_61 hl (by decide) rfl (fun ls hl => ?_)
  have hl : lv_has ls 15 [(6, .long (lN h1)), (4, .long (lN s2)), (2, .long (lN v1)), (0, .ref (wa T (81 + d))), (1, .int (nI (fr + (n0 + 1))))] := hl
  refine lv_aload_n hx hb d_D_guessLimb_63 rfl (lv_at hl 3 rfl) ?_
  refine wg_Division_rest hx hb hC hw (by omega) bw_93 d_D_guessLimb_64 ?_
  refine lv_iload_n hx hb d_D_guessLimb_67 rfl (lv_at hl 4 rfl) ?_
  refine lv_iconst (v := nI 2) hx hb d_D_guessLimb_68 (by decide +kernel) ?_
  refine lv_isub hx hb d_D_guessLimb_69 ?_
  refine wcV_l (As := [.int (nI (fr + (n0 + 1)) - nI 2)]) hx hb hC hw (k_N_atG l T F U K I O (14 + 3 * d) (fr + (n0 + 1)) 2 kr (by omega) hUr hkr (by omega) (by omega)) lk_D_83 rfl rfl ⟨by show 0 + 1 ≤ R.frames; omega, by show 8 + (2 + 11) + 0 ≤ R.locals; omega⟩ (by omega) (we_Natural (by omega)) rfl rfl hl.1 rfl (Nat.le_of_ble_eq_true rfl) ⟨Nat.zero_le _, Nat.zero_le _⟩ d_D_guessLimb_70 (fun H locs hw => ?_)
  refine sw_l (y := lN t3) (ld3) ?_
  refine lv_lstore hx hb d_D_guessLimb_73 hl (by decide) rfl (fun ls hl => ?_)
  have hl : lv_has ls 15 [(8, .long (lN t3)), (6, .long (lN h1)), (4, .long (lN s2)), (2, .long (lN v1)), (0, .ref (wa T (81 + d))), (1, .int (nI (fr + (n0 + 1))))] := hl
  refine lv_lload hx hb d_D_guessLimb_75 (lv_at hl 1 rfl) ?_
  refine lv_lload_n hx hb d_D_guessLimb_77 rfl (lv_at hl 3 rfl) ?_
  refine lv_ldiv hx hb d_D_guessLimb_78 (lN_ne0 (by omega) (by omega)) ?_
  refine sw_l (y := lN (h1 / v1)) (pk_lDiv (by omega) (by omega) (by omega)) ?_
  have hq0 : h1 / v1 ≤ h1 := Nat.div_le_self _ _
  have hq1 : h1 / v1 * v1 ≤ h1 := Nat.div_mul_le_self _ _
  refine lv_ldc2 (v := 268435455) hx hb hC.ow (hC.hts bw_488) d_D_guessLimb_79 ?_
  refine wm_minJ hx hb hC ml_489 hl.1 (by omega) (by show 0 + 15 ≤ R.locals; omega) ⟨Nat.zero_le _, Nat.zero_le _⟩ d_D_guessLimb_82 ?_
  refine sw_l (y := lN (min (h1 / v1) 268435455)) (lN_minM _ (by omega)) ?_
  have hg0 : min (h1 / v1) 268435455 * v1 ≤ h1 := Nat.le_trans (Nat.mul_le_mul_right _ (Nat.min_le_left _ _)) hq1
  have hgl : min (h1 / v1) 268435455 < 268435456 := by omega
  generalize hgg : min (h1 / v1) 268435455 = g0 at hg0 hgi hgl
  clear hq0 hq1 hgg
  refine lv_lstore hx hb d_D_guessLimb_85 hl (by decide) rfl (fun ls hl => ?_)
  have hl : lv_has ls 15 [(10, .long (lN g0)), (8, .long (lN t3)), (6, .long (lN h1)), (4, .long (lN s2)), (2, .long (lN v1)), (0, .ref (wa T (81 + d))), (1, .int (nI (fr + (n0 + 1))))] := hl
  refine lv_lload hx hb d_D_guessLimb_87 (lv_at hl 2 rfl) ?_
  refine lv_lload hx hb d_D_guessLimb_89 (lv_at hl 0 rfl) ?_
  refine lv_lload_n hx hb d_D_guessLimb_91 rfl (lv_at hl 4 rfl) ?_
  refine lv_lmul hx hb d_D_guessLimb_92 ?_
  refine lv_lsub hx hb d_D_guessLimb_93 ?_
  refine sw_l (y := lN (h1 - g0 * v1)) (by rw [lN_mul, lN_sub hg0]) ?_
  refine lv_lstore hx hb d_D_guessLimb_94 hl (by decide) rfl (fun ls hl => ?_)
  have hl : lv_has ls 15 [(12, .long (lN (h1 - g0 * v1))), (10, .long (lN g0)), (8, .long (lN t3)), (6, .long (lN h1)), (4, .long (lN s2)), (2, .long (lN v1)), (0, .ref (wa T (81 + d))), (1, .int (nI (fr + (n0 + 1))))] := hl
  refine lv_iconst (v := nI 0) hx hb d_D_guessLimb_96 (by decide +kernel) ?_
  refine lv_istore hx hb d_D_guessLimb_97 hl (by decide) rfl (fun ls hl => ?_)
  have hl : lv_has ls 15 [(14, .int (nI 0)), (12, .long (lN (h1 - g0 * v1))), (10, .long (lN g0)), (8, .long (lN t3)), (6, .long (lN h1)), (4, .long (lN s2)), (2, .long (lN v1)), (0, .ref (wa T (81 + d))), (1, .int (nI (fr + (n0 + 1))))] := hl
  have fin : ∀ (i gg lf : Nat) (ls : Array Slot) (H : Heap) (locs : List Loc), gg < 268435456 → r < (gg + 1) * w9 → gg * (v1 * 268435456 + s2) ≤ h1 * 268435456 + t3 → lv_has ls 15 [(14, .int (nI i)), (12, .long (lN lf)), (10, .long (lN gg)), (8, .long (lN t3)), (6, .long (lN h1)), (4, .long (lN s2)), (2, .long (lN v1)), (0, .ref (wa T (81 + d))), (1, .int (nI (fr + (n0 + 1))))] → wH T F U K I O (wA T) s s.heap H locs → W p l e R s m args below meth c H locs 0 0 Q (F0 m 150 ls []) := by
    intro i gg lf ls H locs hg1 hg2 hg3 hl hw
    refine lv_lload hx hb d_D_guessLimb_150 (lv_at hl 2 rfl) ?_
    exact hret _ _ _ _ _ ⟨gg, rfl, hg1, hg2, hst gg hg1 hg3⟩ hw d_D_guessLimb_152
  have big : ∀ gg lf : Nat, gg < 268435456 → lf + gg * v1 = h1 → 268435456 ≤ lf → gg * (v1 * 268435456 + s2) ≤ h1 * 268435456 + t3 := fun gg lf a1 a2 a3 => by
    have h2 : gg * s2 ≤ 268435456 * 268435456 := Nat.mul_le_mul (by omega) (by omega)
    have h3 : gg * (v1 * 268435456 + s2) = gg * v1 * 268435456 + gg * s2 := by grind
    omega
  have lp : ∀ (z9 i : Nat) (gg : Nat) (lf : Nat) (ls : Array Slot) (H : Heap) (locs : List Loc), 2 - i = z9 → i ≤ 2 → (gg < 268435456) → (r < (gg + 1) * w9) → (lf + gg * v1 = h1) → (i * 134217728 ≤ lf) →  lv_has ls 15 [(14, .int (nI i)), (12, .long (lN lf)), (10, .long (lN gg)), (8, .long (lN t3)), (6, .long (lN h1)), (4, .long (lN s2)), (2, .long (lN v1)), (0, .ref (wa T (81 + d))), (1, .int (nI (fr + (n0 + 1))))] → wH T F U K I O (wA T) s s.heap H locs → W p l e R s m args below meth c H locs 0 0 Q (F0 m 99 ls []) := by
    intro z9
    induction z9 with
    | zero =>
      intro i gg lf ls H locs hn hle h11 h2 h3 h4 hl hw
      refine lv_iload hx hb d_D_guessLimb_99 (lv_at hl 0 rfl) ?_
      refine lv_iconst (v := nI 2) hx hb d_D_guessLimb_101 (by decide +kernel) ?_
      refine n_icmp_ge (tgt := 150) hx hb d_D_guessLimb_102 (by decide) (by omega) (by omega) (fun h0 => ?_) (fun h0 => ?_)
      · have e9 : 2 = i := by omega
        exact fin i gg lf ls H locs h11 h2 (big gg lf h11 h3 (by omega)) hl hw
      · exact absurd h0 (by omega)
    | succ z9 ih =>
      intro i gg lf ls H locs hn hle h11 h2 h3 h4 hl hw
      refine lv_iload hx hb d_D_guessLimb_99 (lv_at hl 0 rfl) ?_
      refine lv_iconst (v := nI 2) hx hb d_D_guessLimb_101 (by decide +kernel) ?_
      refine n_icmp_ge (tgt := 150) hx hb d_D_guessLimb_102 (by decide) (by omega) (by omega) (fun h0 => ?_) (fun h0 => ?_)
      · exact absurd h0 (by omega)
      · have hgs : gg * s2 ≤ 268435456 * 268435456 := Nat.mul_le_mul (by omega) (by omega)
        have b0 : lf < 9223372036854775808 := by omega
        have b1 : gg * s2 < 9223372036854775808 := by omega
        refine lv_lload hx hb d_D_guessLimb_105 (lv_at hl 1 rfl) ?_
        refine lv_ldc2 (v := 268435456) hx hb hC.ow (hC.hts bw_487) d_D_guessLimb_107 ?_
        refine lc_ge (tgt := 150) hx hb d_D_guessLimb_110 d_D_guessLimb_111 (by decide) (fun h8 => ?_) (fun h8 => ?_)
        · replace h8 : 268435456 ≤ lf := (lNi_le (a := 268435456) (b := lf) (by decide) b0).mp h8
          exact fin i gg lf ls H locs h11 h2 (big gg lf h11 h3 h8) hl hw
        · replace h8 : lf < 268435456 := (lNi_lt (a := lf) (b := 268435456) b0 (by decide)).mp h8
          have b2 : lf * 268435456 + t3 < 9223372036854775808 := by omega
          refine lv_lload hx hb d_D_guessLimb_114 (lv_at hl 2 rfl) ?_
          refine lv_lload hx hb d_D_guessLimb_116 (lv_at hl 5 rfl) ?_
          refine lv_lmul hx hb d_D_guessLimb_118 ?_
          refine sw_l (y := lN (gg * s2)) (lN_mul _ _) ?_
          refine lv_lload hx hb d_D_guessLimb_119 (lv_at hl 1 rfl) ?_
          refine lv_ldc2 (v := 268435456) hx hb hC.ow (hC.hts bw_487) d_D_guessLimb_121 ?_
          refine lv_lmul hx hb d_D_guessLimb_124 ?_
          refine lv_lload hx hb d_D_guessLimb_125 (lv_at hl 3 rfl) ?_
          refine lv_ladd hx hb d_D_guessLimb_127 ?_
          refine sw_l (y := lN (lf * 268435456 + t3)) (by rw [show (268435456 : Int64) = lN 268435456 from rfl, lN_mul, lN_add]) ?_
          refine lc_le (tgt := 150) hx hb d_D_guessLimb_128 d_D_guessLimb_129 (by decide) (fun h7 => ?_) (fun h7 => ?_)
          · replace h7 : gg * s2 ≤ lf * 268435456 + t3 := (lNi_le b1 b2).mp h7
            exact fin i gg lf ls H locs h11 h2 (gq_c h3 h7) hl hw
          · replace h7 : lf * 268435456 + t3 < gg * s2 := (lNi_lt b2 b1).mp h7
            have hg0 : 0 < gg := by apply Nat.pos_of_ne_zero; intro q; subst q; rw [Nat.zero_mul] at h7; exact absurd h7 (Nat.not_lt_zero _)
            have k1 := gq_d h3 h7
            have k2 := hdn gg k1
            have k3 := gq_l hg0 h3
            have k4 := gq_i h4 v1ge
            clear k1 h7
            refine lv_lload hx hb d_D_guessLimb_132 (lv_at hl 2 rfl) ?_
            refine lv_lconst (v := 1) hx hb d_D_guessLimb_134 (by decide +kernel) ?_
            refine lv_lsub hx hb d_D_guessLimb_135 ?_
            refine sw_l (y := lN (gg - 1)) (lN_sub (b := 1) hg0) ?_
            refine lv_lstore hx hb d_D_guessLimb_136 hl (by decide) rfl (fun ls hl => ?_)
            have hl : lv_has ls 15 [(10, .long (lN (gg - 1))), (14, .int (nI i)), (12, .long (lN lf)), (8, .long (lN t3)), (6, .long (lN h1)), (4, .long (lN s2)), (2, .long (lN v1)), (0, .ref (wa T (81 + d))), (1, .int (nI (fr + (n0 + 1))))] := hl
            refine lv_lload hx hb d_D_guessLimb_138 (lv_at hl 2 rfl) ?_
            refine lv_lload_n hx hb d_D_guessLimb_140 rfl (lv_at hl 6 rfl) ?_
            refine lv_ladd hx hb d_D_guessLimb_141 ?_
            refine sw_l (y := lN (lf + v1)) (lN_add _ _) ?_
            refine lv_lstore hx hb d_D_guessLimb_142 hl (by decide) rfl (fun ls hl => ?_)
            have hl : lv_has ls 15 [(12, .long (lN (lf + v1))), (10, .long (lN (gg - 1))), (14, .int (nI i)), (8, .long (lN t3)), (6, .long (lN h1)), (4, .long (lN s2)), (2, .long (lN v1)), (0, .ref (wa T (81 + d))), (1, .int (nI (fr + (n0 + 1))))] := hl
            refine lv_iinc (v := nI (i + 1)) hx hb d_D_guessLimb_144 hl (k := 2) rfl (nI_add _ 1) (by decide) rfl (fun ls hl => ?_)
            have hl : lv_has ls 15 [(14, .int (nI (i + 1))), (12, .long (lN (lf + v1))), (10, .long (lN (gg - 1))), (8, .long (lN t3)), (6, .long (lN h1)), (4, .long (lN s2)), (2, .long (lN v1)), (0, .ref (wa T (81 + d))), (1, .int (nI (fr + (n0 + 1))))] := hl
            refine lv_goto (tgt := 99) hx hb d_D_guessLimb_147 (by decide) ?_
            exact ih (i + 1) (gg - 1) (lf + v1) ls H locs (by omega) (by omega) (by omega) (by rw [show gg - 1 + 1 = gg by omega]; exact k2) k3 k4 hl hw
  exact lp 2 0 g0 (h1 - g0 * v1) ls _ _ rfl (by decide) hgl hgi (Nat.sub_add_cancel hg0) (by rw [Nat.zero_mul]; exact Nat.zero_le _) hl hw
