/-! Division: run -/
def dvL (V : Nat → Nat) (d a b : Nat) : Nat := if V b = 0 ∨ V a < V b then V (15 + 3 * d) else V b * 2 ^ (28 * kD (V b) - bl (V b))
def dvV (V : Nat → Nat) (d a b : Nat) : Nat → Nat := va_up (va_up (va_up V (15 + 3 * d) (dvL V d a b)) (13 + 3 * d) (V a / V b)) (14 + 3 * d) (V a % V b)
theorem hV_up {V : Nat → Nat} {x v : Nat} (hV : ∀ n, n < 34 → V n < vLim) (hv : v < vLim) : ∀ n, n < 34 → va_up V x v n < vLim := fun n hn => by
  by_cases e : n = x
  · rw [e, va_up_self]; exact hv
  · rw [va_up_ne _ _ e]; exact hV n hn
theorem va_drop {α : Type} (f : Nat → α) {r q : Nat} (h : q ≠ r) (x y z : α) : va_up (va_up (va_up f r x) q y) r z = va_up (va_up f q y) r z := funext fun j => by
  by_cases e : j = r
  · rw [e, va_up_self, va_up_self]
  · rw [va_up_ne _ _ e, va_up_ne _ _ e]
    by_cases e2 : j = q
    · rw [e2, va_up_self, va_up_self]
    · rw [va_up_ne _ _ e2, va_up_ne _ _ e2, va_up_ne _ _ e]
theorem va_comm {α : Type} (f : Nat → α) {r q : Nat} (h : q ≠ r) (y z : α) : va_up (va_up f q y) r z = va_up (va_up f r z) q y := funext fun j => by
  by_cases e : j = r
  · rw [e, va_up_self, va_up_ne _ _ (fun k => h k.symm), va_up_self]
  · rw [va_up_ne _ _ e]
    by_cases e2 : j = q
    · rw [e2, va_up_self, va_up_self]
    · rw [va_up_ne _ _ e2, va_up_ne _ _ e2, va_up_ne _ _ e]
theorem sp_lt {v : Nat} (h : v < vLim) (hk : 0 < kD v) : 28 * kD v - bl v < 28 ∧ bl v ≤ 28 * kD v := by
  obtain ⟨t1, t2, t3, t4⟩ := bl_top h hk
  have h2 := bl_pos (v := v / vB ^ (kD v - 1)) (lim_31 (by omega)) t2
  have h3 := bl_kD h
  omega
/-- lifted by its spare bits a number fills its highest limb -/
theorem sp_norm {v : Nat} (h : v < vLim) (hk : 0 < kD v) : v * 2 ^ (28 * kD v - bl v) < vB ^ kD v ∧ vB ^ kD v ≤ 2 * (v * 2 ^ (28 * kD v - bl v)) := by
  have h1 := (sp_lt h hk).2
  have h2 := bl_lt h
  have h3 : 0 < bl v := by
    apply Nat.pos_of_ne_zero; intro q; rw [q] at h2; exact kDp hk (by omega)
  have h4 := bl_ge h3
  have e1 : vB ^ kD v = 2 ^ bl v * 2 ^ (28 * kD v - bl v) := by rw [vB_two, ← Nat.pow_add, show bl v + (28 * kD v - bl v) = 28 * kD v by omega]
  have hp : 0 < 2 ^ (28 * kD v - bl v) := Nat.two_pow_pos _
  rw [e1]
  constructor
  · exact Nat.mul_lt_mul_of_pos_right h2 hp
  · rw [← Nat.mul_assoc]
    apply Nat.mul_le_mul_right
    have e2 : 2 ^ bl v = 2 * 2 ^ (bl v - 1) := by rw [← Nat.pow_succ', show (bl v - 1).succ = bl v by omega]
    omega
theorem kD_norm {v n : Nat} (h1 : v < vB ^ n) (h2 : vB ^ n ≤ 2 * v) (hn : 1 ≤ n) (hn2 : n ≤ 75) : kD v = n := by
  refine kD_eq h1 (fun _ => ?_) hn2
  have e : vB ^ n = vB ^ (n - 1) * 268435456 := by
    conv => lhs; rw [show n = n - 1 + 1 by omega]
    exact Nat.pow_succ ..
  generalize vB ^ (n - 1) = P at *
  omega
theorem kD_mo {a b : Nat} (ha : a < vLim) (h : b ≤ a) : kD b ≤ kD a := kD_mono (Nat.lt_of_le_of_lt h (kD_lt ha))
theorem dq_lt {A v k n : Nat} (hA : A < vB ^ k) (hv : vB ^ n ≤ 2 * v) (hn : 1 ≤ n) (hnk : n ≤ k) : A / v < vB ^ (k - n + 1) := by
  have e : vB ^ n = vB ^ (n - 1) * 268435456 := by
    conv => lhs; rw [show n = n - 1 + 1 by omega]
    exact Nat.pow_succ ..
  have h1 : vB ^ (n - 1) ≤ v := by
    generalize vB ^ (n - 1) = P at *
    omega
  apply Nat.div_lt_of_lt_mul
  have h2 : vB ^ k = vB ^ (n - 1) * vB ^ (k - n + 1) := by rw [← Nat.pow_add, show n - 1 + (k - n + 1) = k by omega]
  rw [h2] at hA
  exact Nat.lt_of_lt_of_le hA (Nat.mul_le_mul_right _ h1)
theorem dg_quot (A v q : Nat) : A % (v * vB ^ (q + 1)) / (v * vB ^ q) = A / v / vB ^ q % vB := by
  rw [Nat.pow_succ, ← Nat.mul_assoc, Nat.mod_mul_right_div_self, Nat.div_div_eq_div_mul]
theorem dg_rest (A v q : Nat) : A % (v * vB ^ (q + 1)) % (v * vB ^ q) = A % (v * vB ^ q) := by
  apply Nat.mod_mod_of_dvd
  rw [Nat.pow_succ, ← Nat.mul_assoc]
  exact ⟨vB, rfl⟩

set_option maxRecDepth 100000 in
set_option maxHeartbeats 4000000 in
theorem k_D_run (l : Launch) (T : wT) (V : Nat → Nat) (K : wUt) (I : wIt) (O : wOt) (d a b : Nat) (hd3 : d < 3) (ha : a < 34) (hb9 : b < 34) (hao : a < 13 + 3 * d ∨ 15 + 3 * d < a) (hbo : b < 13 + 3 * d ∨ 15 + 3 * d < b) (hA : V a * 2 ^ (28 * kD (V b) - bl (V b)) < vB ^ 74) (hV : ∀ n, n < 34 → V n < vLim) : Met l y_D_run (.code y_D_run c_D_run 6 none :: bg) ({ frames := 3, cells := 0, slots := 0, locals := 80 } : Room) (mP T (fF V) (fU V) K I O [.ref (wa T (81 + d)), .ref (wa T a), .ref (wa T b)]) (mQv T (fF (dvV V d a b)) (fU (dvV V d a b)) K I O) 0 0 (wA T) := by
  refine wM_v (by decide) (Nat.le_of_ble_eq_true rfl) ?_
  intro p e R s m args below meth c Q ls hx hb hC hRf hRl hret hl hw
  have hRf : 3 ≤ R.frames := hRf
  have hRl : 80 ≤ R.locals := hRl
  have hl : lv_has ls 6 [(0, .ref (wa T (81 + d))), (1, .ref (wa T a)), (2, .ref (wa T b))] := hl
  have hVa : V a < vB ^ 74 := Nat.lt_of_le_of_lt (Nat.le_mul_of_pos_right _ (Nat.two_pow_pos _)) hA
  have hka : kD (V a) ≤ 74 := kD_mono hVa
  have hlim : vB ^ 74 ≤ vLim := vB_le (by decide)
  refine lv_aload_n hx hb d_D_run_0 rfl (lv_at hl 0 rfl) ?_
  refine wg_Division_quotient hx hb hC hw (by omega) bw_90 d_D_run_1 ?_
  refine wcV_v (As := []) hx hb hC hw (k_N_clear l T V K I O (13 + 3 * d) (by omega) hV) lk_D_24 rfl rfl ⟨by show 1 + 1 ≤ R.frames; omega, by show 8 + (1 + 11) + 22 ≤ R.locals; omega⟩ (by omega) (we_Natural (by omega)) rfl rfl hl.1 rfl (Nat.le_of_ble_eq_true rfl) ⟨Nat.zero_le _, Nat.zero_le _⟩ d_D_run_4 (fun H locs hw => ?_)
  generalize hV1 : va_up V (13 + 3 * d) 0 = V1 at hw
  have hV1L : ∀ n, n < 34 → V1 n < vLim := by rw [← hV1]; exact hV_up hV (by decide +kernel)
  have v1a : V1 a = V a := by rw [← hV1]; exact va_up_ne _ _ (by omega)
  have v1b : V1 b = V b := by rw [← hV1]; exact va_up_ne _ _ (by omega)
  refine lv_aload_n hx hb d_D_run_7 rfl (lv_at hl 2 rfl) ?_
  refine wcV_z (As := []) hx hb hC hw (k_N_isZero l T V1 K I O b hb9 hV1L) lk_D_27 rfl rfl ⟨by show 0 + 1 ≤ R.frames; omega, by show 8 + (1 + 11) + 0 ≤ R.locals; omega⟩ (by omega) (we_Natural (by omega)) rfl rfl hl.1 rfl (Nat.le_of_ble_eq_true rfl) ⟨Nat.zero_le _, Nat.zero_le _⟩ d_D_run_8 (fun H locs hw => ?_)
  have early : (V b = 0 ∨ V a < V b) → ∀ (ls : Array Slot) (H : Heap) (locs : List Loc), lv_has ls 6 [(0, .ref (wa T (81 + d))), (1, .ref (wa T a)), (2, .ref (wa T b))] → wH T (fF V1) (fU V1) K I O (wA T) s s.heap H locs → W p l e R s m args below meth c H locs 0 0 Q (F0 m 22 ls []) := by
    intro hc ls H locs hl hw
    refine lv_aload_n hx hb d_D_run_22 rfl (lv_at hl 0 rfl) ?_
    refine wg_Division_rest hx hb hC hw (by omega) bw_93 d_D_run_23 ?_
    refine lv_aload_n hx hb d_D_run_26 rfl (lv_at hl 1 rfl) ?_
    refine wcV_v (As := [.ref (wa T a)]) hx hb hC hw (k_N_take l T V1 K I O (14 + 3 * d) a (by omega) ha hV1L) lk_D_35 rfl rfl ⟨by show 1 + 1 ≤ R.frames; omega, by show 8 + (4 + 11) + 22 ≤ R.locals; omega⟩ (by omega) (we_Natural (by omega)) rfl rfl hl.1 rfl (Nat.le_of_ble_eq_true rfl) ⟨Nat.zero_le _, Nat.zero_le _⟩ d_D_run_27 (fun H locs hw => ?_)
    have e0 : V a / V b = 0 ∧ V a % V b = V a := by
      rcases hc with h | h
      · rw [h]; exact ⟨Nat.div_zero _, Nat.mod_zero _⟩
      · exact ⟨Nat.div_eq_of_lt h, Nat.mod_eq_of_lt h⟩
    have e1 : va_up V1 (14 + 3 * d) (V1 a) = dvV V d a b := by unfold dvV dvL; rw [if_pos hc, va_upx, e0.1, e0.2, hV1, v1a]
    rw [e1] at hw
    exact hret _ _ _ _ hw d_D_run_30
  by_cases hb0 : V b = 0
  · refine sw_i (y := nI 1) (by rw [v1b, if_pos hb0]; rfl) ?_
    refine n_if_ne (tgt := 22) hx hb d_D_run_11 (by decide) (by omega) (fun h => ?_) (fun h => ?_)
    · exact early (Or.inl hb0) ls H locs hl hw
    · exact absurd h (by decide)
  · refine sw_i (y := nI 0) (by rw [v1b, if_neg hb0]; rfl) ?_
    refine n_if_ne (tgt := 22) hx hb d_D_run_11 (by decide) (by omega) (fun h => ?_) (fun h => ?_)
    · exact absurd h (by decide)
    · refine lv_aload_n hx hb d_D_run_14 rfl (lv_at hl 1 rfl) ?_
      refine lv_aload_n hx hb d_D_run_15 rfl (lv_at hl 2 rfl) ?_
      refine wcV_i (As := [.ref (wa T b)]) hx hb hC hw (k_N_order l T V1 K I O a b ha hb9 hV1L) lk_D_31 rfl rfl ⟨by show 0 + 1 ≤ R.frames; omega, by show 8 + (3 + 11) + 0 ≤ R.locals; omega⟩ (by omega) (we_Natural (by omega)) rfl rfl hl.1 rfl (Nat.le_of_ble_eq_true rfl) ⟨Nat.zero_le _, Nat.zero_le _⟩ d_D_run_16 (fun H locs hw => ?_)
      by_cases hab : V a < V b
      · refine sw_i (y := -1) (by rw [v1a, v1b, if_pos hab]) ?_
        refine lv_if_ge (tgt := 31) hx hb d_D_run_19 (by decide) (fun h9 => ?_) (fun h9 => ?_)
        · exact absurd h9 (by decide +kernel)
        · exact early (Or.inr hab) ls H locs hl hw
      · refine sw_i (y := if V a = V b then 0 else 1) (by rw [v1a, v1b, if_neg hab]) ?_
        refine lv_if_ge (tgt := 31) hx hb d_D_run_19 (by decide) (fun h9 => ?_) (fun h9 => ?_)
        · clear early
          have hkb : 0 < kD (V b) := by apply Nat.pos_of_ne_zero; intro q; exact hb0 (kD0 (hV b hb9) q)
          obtain ⟨nb1, nb2⟩ := sp_norm (hV b hb9) hkb
          have hs28 := (sp_lt (hV b hb9) hkb).1
          have hbl : V b ≤ V a := by omega
          have hkb2 : kD (V b) ≤ kD (V a) := kD_mo (hV a ha) hbl
          refine lv_aload_n hx hb d_D_run_31 rfl (lv_at hl 2 rfl) ?_
          refine wcV_i (As := []) hx hb hC hw (k_N_spareBits l T V1 K I O b hb9 hV1L) lk_D_39 rfl rfl ⟨by show 2 + 1 ≤ R.frames; omega, by show 8 + (1 + 11) + 43 ≤ R.locals; omega⟩ (by omega) (we_Natural (by omega)) rfl rfl hl.1 rfl (Nat.le_of_ble_eq_true rfl) ⟨Nat.zero_le _, Nat.zero_le _⟩ d_D_run_32 (fun H locs hw => ?_)
          rw [v1b]
          have hdvL : dvL V d a b = V b * 2 ^ (28 * kD (V b) - bl (V b)) := by unfold dvL; rw [if_neg (by omega)]
          generalize hsg : 28 * kD (V b) - bl (V b) = sp at hA nb1 nb2 hs28 hdvL
          have hs0 : sp / 28 = 0 := Nat.div_eq_of_lt hs28
          have hlv : V b * 2 ^ sp < vLim := Nat.lt_of_lt_of_le nb1 (vB_le (kD_le _))
          have hla : V a * 2 ^ sp < vLim := Nat.lt_of_lt_of_le hA hlim
          refine lv_istore_n hx hb d_D_run_35 rfl hl (by decide) rfl (fun ls hl => ?_)
          have hl : lv_has ls 6 [(3, .int (nI sp)), (0, .ref (wa T (81 + d))), (1, .ref (wa T a)), (2, .ref (wa T b))] := hl
          refine lv_aload_n hx hb d_D_run_36 rfl (lv_at hl 1 rfl) ?_
          refine wg_Division_lifted hx hb hC hw (by omega) bw_97 d_D_run_37 ?_
          refine lv_aload_n hx hb d_D_run_40 rfl (lv_at hl 3 rfl) ?_
          refine lv_iload_n hx hb d_D_run_41 rfl (lv_at hl 0 rfl) ?_
          refine wcV_v (As := [.ref (wa T b), .int (nI sp)]) hx hb hC hw (k_N_takeRaised l T V1 K I O (15 + 3 * d) b sp (by omega) hb9 (by omega) (by omega) (by rw [v1b, hs0]; omega) hV1L) lk_D_43 rfl rfl ⟨by show 1 + 1 ≤ R.frames; omega, by show 8 + (11 + 11) + 22 ≤ R.locals; omega⟩ (by omega) (we_Natural (by omega)) rfl rfl hl.1 rfl (Nat.le_of_ble_eq_true rfl) ⟨Nat.zero_le _, Nat.zero_le _⟩ d_D_run_42 (fun H locs hw => ?_)
          rw [v1b] at hw
          generalize hV3 : va_up V1 (15 + 3 * d) (V b * 2 ^ sp) = V3 at hw
          have hV3L : ∀ n, n < 34 → V3 n < vLim := by rw [← hV3]; exact hV_up hV1L hlv
          have v3a : V3 a = V a := by rw [← hV3, va_up_ne _ _ (by omega)]; exact v1a
          refine lv_aload_n hx hb d_D_run_45 rfl (lv_at hl 1 rfl) ?_
          refine wg_Division_rest hx hb hC hw (by omega) bw_93 d_D_run_46 ?_
          refine lv_aload_n hx hb d_D_run_49 rfl (lv_at hl 2 rfl) ?_
          refine lv_iload_n hx hb d_D_run_50 rfl (lv_at hl 0 rfl) ?_
          refine wcV_v (As := [.ref (wa T a), .int (nI sp)]) hx hb hC hw (k_N_takeRaised l T V3 K I O (14 + 3 * d) a sp (by omega) ha (by omega) (by omega) (by rw [v3a, hs0]; omega) hV3L) lk_D_43 rfl rfl ⟨by show 1 + 1 ≤ R.frames; omega, by show 8 + (11 + 11) + 22 ≤ R.locals; omega⟩ (by omega) (we_Natural (by omega)) rfl rfl hl.1 rfl (Nat.le_of_ble_eq_true rfl) ⟨Nat.zero_le _, Nat.zero_le _⟩ d_D_run_51 (fun H locs hw => ?_)
          rw [v3a] at hw
          generalize hV4 : va_up V3 (14 + 3 * d) (V a * 2 ^ sp) = V4 at hw
          have hV4L : ∀ n, n < 34 → V4 n < vLim := by rw [← hV4]; exact hV_up hV3L hla
          have v4r : V4 (14 + 3 * d) = V a * 2 ^ sp := by rw [← hV4, va_up_self]
          have v4l : V4 (15 + 3 * d) = V b * 2 ^ sp := by rw [← hV4, va_up_ne _ _ (by omega), ← hV3, va_up_self]
          have v4q : V4 (13 + 3 * d) = 0 := by rw [← hV4, va_up_ne _ _ (by omega), ← hV3, va_up_ne _ _ (by omega), ← hV1, va_up_self]
          have qe : V a * 2 ^ sp / (V b * 2 ^ sp) = V a / V b := Nat.mul_div_mul_right _ _ (Nat.two_pow_pos _)
          have re : V a * 2 ^ sp % (V b * 2 ^ sp) / 2 ^ sp = V a % V b := by rw [Nat.mul_mod_mul_right, Nat.mul_div_cancel _ (Nat.two_pow_pos _)]
          have hge : V b * 2 ^ sp ≤ V a * 2 ^ sp := Nat.mul_le_mul_right _ hbl
          generalize V a * 2 ^ sp = A9 at hA hla v4r qe re hge hV4
          generalize V b * 2 ^ sp = v9 at nb1 nb2 hlv v4l qe re hge hV3 hdvL
          generalize hnn : kD (V b) = nn at nb1 nb2 hkb hkb2
          have hn9 : kD v9 = nn := kD_norm nb1 nb2 hkb (by rw [← hnn]; exact kD_le _)
          have hk74 : kD A9 ≤ 74 := kD_mono hA
          have hnk : nn ≤ kD A9 := by rw [← hn9]; exact kD_mo hla hge
          have hAk : A9 < vB ^ kD A9 := kD_lt hla
          have ur : fU V4 (14 + 3 * d) = nI (kD A9) := by unfold fU; rw [v4r]; rfl
          have ul : fU V4 (15 + 3 * d) = nI nn := by unfold fU; rw [v4l]; unfold uD; rw [hn9]
          have uq : fU V4 (13 + 3 * d) = nI (kD 0) := by unfold fU; rw [v4q]; rfl
          refine lv_aload_n hx hb d_D_run_54 rfl (lv_at hl 1 rfl) ?_
          refine wg_Division_rest hx hb hC hw (by omega) bw_93 d_D_run_55 ?_
          refine wg_Natural_used hx hb hC hw (by omega) bw_46 d_D_run_58 ?_
          refine sw_i (y := nI (kD A9)) (ur) ?_
          refine lv_aload_n hx hb d_D_run_61 rfl (lv_at hl 1 rfl) ?_
          refine wg_Division_lifted hx hb hC hw (by omega) bw_97 d_D_run_62 ?_
          refine wg_Natural_used hx hb hC hw (by omega) bw_46 d_D_run_65 ?_
          refine sw_i (y := nI nn) (ul) ?_
          refine n_isub hx hb d_D_run_68 (by omega) ?_
          refine lv_istore hx hb d_D_run_69 hl (by decide) rfl (fun ls hl => ?_)
          have hl : lv_has ls 6 [(4, .int (nI ((kD A9) - nn))), (3, .int (nI sp)), (0, .ref (wa T (81 + d))), (1, .ref (wa T a)), (2, .ref (wa T b))] := hl
          refine lv_iload hx hb d_D_run_71 (lv_at hl 0 rfl) ?_
          refine sw_i (y := (nI (kD A9 - nn + 1) - 1)) ((nI_pred _).symm) ?_
          refine lv_istore hx hb d_D_run_73 hl (by decide) rfl (fun ls hl => ?_)
          have hl : lv_has ls 6 [(5, .int (nI (kD A9 - nn + 1) - 1)), (4, .int (nI ((kD A9) - nn))), (3, .int (nI sp)), (0, .ref (wa T (81 + d))), (1, .ref (wa T a)), (2, .ref (wa T b))] := hl
          have hv0 : 0 < v9 := by have := Nat.pow_pos (n := nn) vB_pos; omega
          have hAv : A9 < v9 * vB ^ (kD A9 - nn + 1) := by have h1 := dq_lt hAk nb2 hkb hnk; have h2 := Nat.lt_mul_div_succ A9 hv0; exact Nat.lt_of_lt_of_le h2 (Nat.mul_le_mul_left _ h1)
          have f0 : fF V4 = va_up (va_up (fF V4) (14 + 3 * d) (fD A9)) (13 + 3 * d) (fD 0) := by rw [fF_up, fF_up, ← v4r, va_upx, ← v4q, va_upx]
          rw [f0] at hw
          have lp : ∀ (q : Nat) (rr : Nat) (qf : Nat → Int64) (ls : Array Slot) (H : Heap) (locs : List Loc), (rr = A9 % (v9 * vB ^ q)) → (∀ j, q ≤ j → j < 75 → qf j = fD (A9 / v9) j) → (q ≤ kD A9 - nn + 1) →  lv_has ls 6 [(5, .int (nI q - 1)), (4, .int (nI (kD A9 - nn))), (3, .int (nI sp)), (0, .ref (wa T (81 + d))), (1, .ref (wa T a)), (2, .ref (wa T b))] → wH T (va_up (va_up (fF V4) (14 + 3 * d) (fD rr)) (13 + 3 * d) qf) (fU V4) K I O (wA T) s s.heap H locs → W p l e R s m args below meth c H locs 0 0 Q (F0 m 75 ls []) := by
            intro q
            induction q with
            | zero =>
              intro rr qf ls H locs h1 h2 h3 hl hw
              refine lv_iload hx hb d_D_run_75 (lv_at hl 0 rfl) ?_
              refine d_if_lt (tgt := 102) hx hb d_D_run_77 (by decide) (by omega) (fun h0 => ?_) (fun h0 => ?_)
              · rw [Nat.pow_zero, Nat.mul_one] at h1
                have hrl : rr < vB ^ kD A9 := by rw [h1]; exact Nat.lt_of_le_of_lt (Nat.mod_le _ _) hAk
                refine lv_aload_n hx hb d_D_run_102 rfl (lv_at hl 3 rfl) ?_
                refine wg_Division_quotient hx hb hC hw (by omega) bw_90 d_D_run_103 ?_
                refine lv_iload hx hb d_D_run_106 (lv_at hl 1 rfl) ?_
                refine lv_iconst (v := nI 1) hx hb d_D_run_108 (by decide +kernel) ?_
                refine n_iadd hx hb d_D_run_109 ?_
                refine wcV_v (As := [.int (nI ((kD A9 - nn) + 1))]) hx hb hC hw (k_N_settle l T (va_up (va_up (fF V4) (14 + 3 * d) (fD rr)) (13 + 3 * d) qf) (fU V4) K I O (13 + 3 * d) (kD 0) (kD A9 - nn + 1) (A9 / v9) (by omega) uq (kD_le _) (by omega) (fun j hj => by rw [va_up_self]; unfold nd; rw [h2 j (by omega) (by omega)]; exact fD_in _ _) (fun j a1 a2 a3 => by rw [va_up_self, h2 j (by omega) a3, fD_lN, Nat.div_eq_of_lt (Nat.lt_of_lt_of_le (dq_lt hAk nb2 hkb hnk) (vB_le a1)), Nat.zero_mod]; rfl) (by rw [va_up_self]; exact fD_evL (dq_lt hAk nb2 hkb hnk) (fun j hj => h2 j (by omega) (by omega)))) lk_D_59 rfl rfl ⟨by show 0 + 1 ≤ R.frames; omega, by show 8 + (3 + 11) + 0 ≤ R.locals; omega⟩ (by omega) (we_Natural (by omega)) rfl rfl hl.1 rfl (Nat.le_of_ble_eq_true rfl) ⟨Nat.zero_le _, Nat.zero_le _⟩ d_D_run_110 (fun H locs hw => ?_)
                rw [bx_uu] at hw
                have ur2 : va_up (fU V4) (13 + 3 * d) (uD (A9 / v9)) (14 + 3 * d) = nI (kD A9) := by rw [va_up_ne _ _ (by omega)]; exact ur
                refine lv_aload_n hx hb d_D_run_113 rfl (lv_at hl 3 rfl) ?_
                refine wg_Division_rest hx hb hC hw (by omega) bw_93 d_D_run_114 ?_
                refine lv_aload_n hx hb d_D_run_117 rfl (lv_at hl 3 rfl) ?_
                refine wg_Division_rest hx hb hC hw (by omega) bw_93 d_D_run_118 ?_
                refine wg_Natural_used hx hb hC hw (by omega) bw_46 d_D_run_121 ?_
                refine sw_i (y := nI (kD A9)) (ur2) ?_
                refine wcV_v (As := [.int (nI (kD A9))]) hx hb hC hw (k_N_settle l T (va_up (va_up (fF V4) (14 + 3 * d) (fD rr)) (13 + 3 * d) (fD (A9 / v9))) (va_up (fU V4) (13 + 3 * d) (uD (A9 / v9))) K I O (14 + 3 * d) (kD A9) (kD A9) rr (by omega) ur2 (by omega) (by omega) (fun j hj => by rw [va_up_ne _ _ (by omega), va_up_self]; exact fD_in _ _) (fun j a1 a2 a3 => by rw [va_up_ne _ _ (by omega), va_up_self, fD_lN, Nat.div_eq_of_lt (Nat.lt_of_lt_of_le hrl (vB_le a1)), Nat.zero_mod]; rfl) (by rw [va_up_ne _ _ (by omega), va_up_self]; exact fD_evL hrl (fun _ _ => rfl))) lk_D_59 rfl rfl ⟨by show 0 + 1 ≤ R.frames; omega, by show 8 + (3 + 11) + 0 ≤ R.locals; omega⟩ (by omega) (we_Natural (by omega)) rfl rfl hl.1 rfl (Nat.le_of_ble_eq_true rfl) ⟨Nat.zero_le _, Nat.zero_le _⟩ d_D_run_124 (fun H locs hw => ?_)
                rw [va_drop _ (by omega), fF_up, fF_up, fU_up, fU_up] at hw
                have hq9 : A9 / v9 < vLim := Nat.lt_of_le_of_lt (Nat.div_le_self _ _) hla
                have hr9 : rr < vLim := Nat.lt_of_lt_of_le hrl (vB_le (kD_le _))
                refine lv_aload_n hx hb d_D_run_127 rfl (lv_at hl 3 rfl) ?_
                refine wg_Division_rest hx hb hC hw (by omega) bw_93 d_D_run_128 ?_
                refine lv_aload_n hx hb d_D_run_131 rfl (lv_at hl 3 rfl) ?_
                refine wg_Division_rest hx hb hC hw (by omega) bw_93 d_D_run_132 ?_
                refine lv_iload_n hx hb d_D_run_135 rfl (lv_at hl 2 rfl) ?_
                refine wcV_v (As := [.ref (wa T (14 + 3 * d)), .int (nI sp)]) hx hb hC hw (k_N_takeLowered l T (va_up (va_up V4 (13 + 3 * d) (A9 / v9)) (14 + 3 * d) rr) K I O (14 + 3 * d) (14 + 3 * d) sp (by omega) (by omega) (by omega) (hV_up (hV_up hV4L hq9) hr9)) lk_D_63 rfl rfl ⟨by show 1 + 1 ≤ R.frames; omega, by show 8 + (11 + 11) + 22 ≤ R.locals; omega⟩ (by omega) (we_Natural (by omega)) rfl rfl hl.1 rfl (Nat.le_of_ble_eq_true rfl) ⟨Nat.zero_le _, Nat.zero_le _⟩ d_D_run_136 (fun H locs hw => ?_)
                rw [va_up_self, bx_uu, h1, re, qe] at hw
                have e9 : va_up (va_up V4 (13 + 3 * d) (V a / V b)) (14 + 3 * d) (V a % V b) = dvV V d a b := by
                  unfold dvV; rw [hdvL, ← hV4, va_drop _ (by omega), ← hV3, ← hV1, va_comm V (by omega) 0 v9, bx_uu]
                rw [e9] at hw
                exact hret _ _ _ _ hw d_D_run_139
              · exact absurd h0 (by omega)
            | succ q ih =>
              intro rr qf ls H locs h1 h2 h3 hl hw
              rw [nI_pred] at hl
              have hl : lv_has ls 6 [(5, .int (nI q)), (4, .int (nI (kD A9 - nn))), (3, .int (nI sp)), (0, .ref (wa T (81 + d))), (1, .ref (wa T a)), (2, .ref (wa T b))] := hl
              refine lv_iload hx hb d_D_run_75 (lv_at hl 0 rfl) ?_
              refine n_if_lt hx hb d_D_run_77 (by decide) (by omega) ?_
              have hmod : A9 % (v9 * vB ^ (q + 1)) < v9 * vB ^ q * vB := by rw [Nat.mul_assoc, ← Nat.pow_succ]; exact Nat.mod_lt _ (Nat.mul_pos hv0 (Nat.pow_pos vB_pos))
              subst h1
              generalize hrg : A9 % (v9 * vB ^ (q + 1)) = rr at hw hmod
              have hrl : rr < vB ^ kD A9 := by rw [← hrg]; exact Nat.lt_of_le_of_lt (Nat.mod_le _ _) hAk
              refine lv_aload_n hx hb d_D_run_80 rfl (lv_at hl 3 rfl) ?_
              refine wg_Division_quotient hx hb hC hw (by omega) bw_90 d_D_run_81 ?_
              refine wg_Natural_limbs hx hb hC hw (by omega) bw_44 d_D_run_84 ?_
              refine lv_iload hx hb d_D_run_87 (lv_at hl 0 rfl) ?_
              refine lv_aload_n hx hb d_D_run_89 rfl (lv_at hl 3 rfl) ?_
              refine lv_iload hx hb d_D_run_90 (lv_at hl 0 rfl) ?_
              refine wcV_l (As := [.int (nI q)]) hx hb hC hw (k_D_nextLimb l T (va_up (va_up (fF V4) (14 + 3 * d) (fD rr)) (13 + 3 * d) qf) (fU V4) K I O d q nn v9 rr (kD A9) hd3 hkb (by omega) ul nb1 nb2 (by rw [va_up_ne _ _ (by omega), va_up_ne _ _ (by omega)]; unfold fF; rw [v4l]) ur (by omega) hrl (by rw [va_up_ne _ _ (by omega), va_up_self]) hmod) lk_D_55 rfl rfl ⟨by show 2 + 1 ≤ R.frames; omega, by show 8 + (4 + 11) + 57 ≤ R.locals; omega⟩ (by omega) (we_Division (by omega)) rfl rfl hl.1 rfl (Nat.le_of_ble_eq_true rfl) ⟨Nat.zero_le _, Nat.zero_le _⟩ d_D_run_92 (fun H locs hw => ?_)
              rw [va_drop _ (by omega), va_comm _ (by omega)] at hw
              refine ws_limbs hx hb hw (by omega) (by omega) d_D_run_95 (fun H locs hw => ?_)
              rw [bx_uu, va_up_self] at hw
              refine lv_iinc (v := (nI q - 1)) hx hb d_D_run_96 hl (k := 0) rfl (i32_m1 _) (by decide) rfl (fun ls hl => ?_)
              have hl : lv_has ls 6 [(5, .int (nI q - 1)), (4, .int (nI (kD A9 - nn))), (3, .int (nI sp)), (0, .ref (wa T (81 + d))), (1, .ref (wa T a)), (2, .ref (wa T b))] := hl
              refine lv_goto (tgt := 75) hx hb d_D_run_99 (by decide) ?_
              refine ih _ _ ls H locs (by rw [← hrg]; exact dg_rest _ _ _) (fun j a1 a2 => ?_) (by omega) hl hw
              by_cases ej : j = q
              · rw [ej, pk_uLs, fD_lN, ← hrg, dg_quot]
              · rw [pk_uLn ej]; exact h2 j (by omega) a2
          refine lp (kD A9 - nn + 1) A9 (fD 0) ls _ _ (Nat.mod_eq_of_lt hAv).symm (fun j a1 a2 => ?_) (Nat.le_refl _) hl hw
          rw [fD0, fD_lN, Nat.div_eq_of_lt (Nat.lt_of_lt_of_le (dq_lt hAk nb2 hkb hnk) (vB_le a1)), Nat.zero_mod]; rfl
        · exact absurd (by split <;> decide +kernel) h9
set_option maxRecDepth 100000 in
set_option maxHeartbeats 4000000 in
theorem k_D_stepOver (l : Launch) (T : wT) (V : Nat → Nat) (K : wUt) (I : wIt) (O : wOt) (d b : Nat) (hd3 : d < 3) (hb9 : b < 34) (hbo : b < 13 + 3 * d ∨ 15 + 3 * d < b) (hk : kD (V (13 + 3 * d)) ≤ 74) (hle : V (14 + 3 * d) ≤ V b) (hV : ∀ n, n < 34 → V n < vLim) : Met l y_D_stepOver (.code y_D_stepOver c_D_stepOver 2 none :: bg) ({ frames := 2, cells := 0, slots := 0, locals := 48 } : Room) (mP T (fF V) (fU V) K I O [.ref (wa T (81 + d)), .ref (wa T b)]) (mQv T (fF (va_up (va_up V (13 + 3 * d) (V (13 + 3 * d) + 1)) (14 + 3 * d) (V b - V (14 + 3 * d)))) (fU (va_up (va_up V (13 + 3 * d) (V (13 + 3 * d) + 1)) (14 + 3 * d) (V b - V (14 + 3 * d)))) K I O) 0 0 (wA T) := by
  refine wM_v (by decide) (Nat.le_of_ble_eq_true rfl) ?_
  intro p e R s m args below meth c Q ls hx hb hC hRf hRl hret hl hw
  have hRf : 2 ≤ R.frames := hRf
  have hRl : 48 ≤ R.locals := hRl
  have hl : lv_has ls 2 [(0, .ref (wa T (81 + d))), (1, .ref (wa T b))] := hl
  have hq : V (13 + 3 * d) + 1 < vLim := Nat.lt_of_le_of_lt (kD_lt (hV _ (by omega))) (Nat.lt_of_le_of_lt (vB_le hk) (Nat.pow_lt_pow_right (by decide) (by decide)))
  refine lv_aload_n hx hb d_D_stepOver_0 rfl (lv_at hl 0 rfl) ?_
  refine wg_Division_quotient hx hb hC hw (by omega) bw_90 d_D_stepOver_1 ?_
  refine wcV_v (As := []) hx hb hC hw (k_N_increase l T V K I O (13 + 3 * d) (by omega) hk hV) lk_D_66 rfl rfl ⟨by show 1 + 1 ≤ R.frames; omega, by show 8 + (2 + 11) + 21 ≤ R.locals; omega⟩ (by omega) (we_Natural (by omega)) rfl rfl hl.1 rfl (Nat.le_of_ble_eq_true rfl) ⟨Nat.zero_le _, Nat.zero_le _⟩ d_D_stepOver_4 (fun H locs hw => ?_)
  refine lv_aload_n hx hb d_D_stepOver_7 rfl (lv_at hl 0 rfl) ?_
  refine wg_Division_rest hx hb hC hw (by omega) bw_93 d_D_stepOver_8 ?_
  refine lv_aload_n hx hb d_D_stepOver_11 rfl (lv_at hl 1 rfl) ?_
  refine lv_aload_n hx hb d_D_stepOver_12 rfl (lv_at hl 0 rfl) ?_
  refine wg_Division_rest hx hb hC hw (by omega) bw_93 d_D_stepOver_13 ?_
  refine wcV_v (As := [.ref (wa T b), .ref (wa T (14 + 3 * d))]) hx hb hC hw (k_N_takeDifference l T (va_up V (13 + 3 * d) (V (13 + 3 * d) + 1)) K I O (14 + 3 * d) b (14 + 3 * d) (by omega) hb9 (by omega) (by rw [va_up_ne _ _ (by omega), va_up_ne _ _ (by omega)]; exact hle) (hV_up hV hq)) lk_D_69 rfl rfl ⟨by show 1 + 1 ≤ R.frames; omega, by show 8 + (7 + 11) + 22 ≤ R.locals; omega⟩ (by omega) (we_Natural (by omega)) rfl rfl hl.1 rfl (Nat.le_of_ble_eq_true rfl) ⟨Nat.zero_le _, Nat.zero_le _⟩ d_D_stepOver_16 (fun H locs hw => ?_)
  rw [va_up_ne V (j := b) _ (by omega), va_up_ne V (j := 14 + 3 * d) _ (by omega)] at hw
  exact hret _ _ _ _ hw d_D_stepOver_19
