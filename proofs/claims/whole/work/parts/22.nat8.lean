/-! Natural: shifts, one more, one bit -/
theorem dgs (y s : Nat) (hs : s ≤ 28) : y / 2 ^ (28 - s) % vB = (y / vB % vB * 2 ^ s + y % vB / 2 ^ (28 - s)) % vB := by
  have e1 : vB = 2 ^ s * 2 ^ (28 - s) := by rw [← Nat.pow_add, show s + (28 - s) = 28 by omega]; rfl
  have hp : 0 < 2 ^ (28 - s) := Nat.two_pow_pos _
  have e2 : y / 2 ^ (28 - s) = y / vB * 2 ^ s + y % vB / 2 ^ (28 - s) := by
    have e3 : y = y % vB + 2 ^ (28 - s) * (y / vB * 2 ^ s) := by
      have := Nat.mod_add_div y vB
      have e4 : 2 ^ (28 - s) * (y / vB * 2 ^ s) = vB * (y / vB) := by
        conv => rhs; rw [e1]
        have : (2 ^ s * 2 ^ (28 - s)) = vB := e1.symm
        rw [← e1]
        conv => rhs; rw [e1]
        grind
      omega
    conv => lhs; rw [e3]
    rw [Nat.add_mul_div_left _ _ hp]
    omega
  rw [e2, Nat.add_mod, Nat.mul_mod]
  conv => rhs; rw [Nat.add_mod, Nat.mul_mod]
  simp only [Nat.mod_mod]
/-- the digits of a number times 2^n -/
theorem up_dg (v n i : Nat) : v * 2 ^ n / vB ^ (n / 28 + (i + 1)) % vB = (v / vB ^ (i + 1) % vB * 2 ^ (n % 28) + v / vB ^ i % vB / 2 ^ (28 - n % 28)) % vB := by
  have hm : n % 28 < 28 := Nat.mod_lt _ (by decide)
  have e1 : v * 2 ^ n / vB ^ (n / 28 + (i + 1)) = v / vB ^ i / 2 ^ (28 - n % 28) := by
    have h1 : 2 ^ n = 2 ^ (28 * (n / 28)) * 2 ^ (n % 28) := by rw [← Nat.pow_add, Nat.div_add_mod]
    have h2 : vB ^ (n / 28 + (i + 1)) = 2 ^ (28 * (n / 28)) * 2 ^ (n % 28) * (vB ^ i * 2 ^ (28 - n % 28)) := by
      rw [vB_two, vB_two, ← Nat.pow_add, ← Nat.pow_add, ← Nat.pow_add]; congr 1; omega
    rw [h1, h2, Nat.mul_comm v, Nat.mul_div_mul_left _ _ (by rw [← Nat.pow_add]; exact Nat.two_pow_pos _), Nat.div_div_eq_div_mul]
  rw [e1, dgs _ _ (by omega)]
  rw [Nat.pow_succ, ← Nat.div_div_eq_div_mul]
theorem up_dg0 (v n : Nat) : v * 2 ^ n / vB ^ (n / 28) % vB = (v / vB ^ 0 % vB * 2 ^ (n % 28)) % vB := by
  have h1 : 2 ^ n = vB ^ (n / 28) * 2 ^ (n % 28) := by rw [vB_two, ← Nat.pow_add, Nat.div_add_mod]
  rw [h1, ← Nat.mul_assoc, Nat.mul_comm v, Nat.mul_assoc, Nat.mul_div_cancel_left _ (Nat.pow_pos vB_pos), Nat.pow_zero, Nat.div_one, Nat.mul_mod]
  conv => rhs; rw [Nat.mul_mod]
  simp only [Nat.mod_mod]
theorem up_dgz {v n j : Nat} (h : j < n / 28) : v * 2 ^ n / vB ^ j % vB = 0 := by
  have h1 : 2 ^ n = vB ^ j * (vB * 2 ^ (n - 28 * (j + 1))) := by
    rw [vB_two, show vB = 2 ^ 28 from rfl, ← Nat.pow_add, ← Nat.pow_add]; congr 1; omega
  have h2 : v * 2 ^ n = vB ^ j * (v * 2 ^ (n - 28 * (j + 1)) * vB) := by rw [h1]; grind
  rw [h2, Nat.mul_div_cancel_left _ (Nat.pow_pos vB_pos), Nat.mul_mod_left]
theorem up_lt {v n k : Nat} (h : v < vB ^ k) : v * 2 ^ n < vB ^ (k + n / 28 + 1) := by
  have h1 : 2 ^ n < vB ^ (n / 28 + 1) := by
    rw [vB_two]; exact Nat.pow_lt_pow_right (by decide) (by omega)
  have := vB_mul h h1
  rw [Nat.add_assoc]; exact this
theorem dn_dg (v n i : Nat) : v / 2 ^ n / vB ^ i % vB = (v / vB ^ (n / 28 + i + 1) % vB * 2 ^ (28 - n % 28) + v / vB ^ (n / 28 + i) % vB / 2 ^ (n % 28)) % vB := by
  have hm : n % 28 < 28 := Nat.mod_lt _ (by decide)
  have e1 : v / 2 ^ n / vB ^ i = v / vB ^ (n / 28 + i) / 2 ^ (28 - (28 - n % 28)) := by
    rw [Nat.div_div_eq_div_mul, Nat.div_div_eq_div_mul, vB_two, vB_two, ← Nat.pow_add, ← Nat.pow_add]
    congr 2; omega
  rw [e1, dgs _ _ (by omega), Nat.pow_succ, ← Nat.div_div_eq_div_mul, show 28 - (28 - n % 28) = n % 28 by omega]
/-- the machine's words for it -/
theorem sh_or {a b s : Nat} (hs : s < 28) (ha : a < 268435456) (hb : b < 268435456) : (lN a <<< ((nI s).toInt64 &&& 63) ||| lN b >>> ((nI (28 - s)).toInt64 &&& 63)) &&& 268435455 = lN ((a * 2 ^ s + b / 2 ^ (28 - s)) % vB) := by
  have h1 : 2 ^ s ≤ 2 ^ 27 := Nat.pow_le_pow_right (by decide) (by omega)
  have h2 : a * 2 ^ s ≤ 268435456 * 2 ^ 27 := Nat.mul_le_mul (by omega) h1
  have h3 : b / 2 ^ (28 - s) < 2 ^ s := by
    apply Nat.div_lt_of_lt_mul
    rw [← Nat.pow_add, show 28 - s + s = 28 by omega]; exact hb
  have e27 : (2 : Nat) ^ 27 = 134217728 := rfl
  rw [wb_shl a (by omega), lN_shrN (by omega) (by omega), g_or (k := s) rfl h3 (by omega), lN_lim, wb_mask (by omega) (by decide)]
  rfl
theorem sh_orD {a b s : Nat} (hs : s < 28) (ha : a < 268435456) (hb : b < 268435456) : (lN b >>> ((nI s).toInt64 &&& 63) ||| lN a <<< ((nI (28 - s)).toInt64 &&& 63)) &&& 268435455 = lN ((a * 2 ^ (28 - s) + b / 2 ^ s) % vB) := by
  have h1 : 2 ^ (28 - s) ≤ 2 ^ 28 := Nat.pow_le_pow_right (by decide) (by omega)
  have h2 : a * 2 ^ (28 - s) ≤ 268435456 * 2 ^ 28 := Nat.mul_le_mul (by omega) h1
  have h3 : b / 2 ^ s < 2 ^ (28 - s) := by
    apply Nat.div_lt_of_lt_mul
    rw [← Nat.pow_add, show s + (28 - s) = 28 by omega]; exact hb
  have e28 : (2 : Nat) ^ 28 = 268435456 := rfl
  rw [wb_shl a (by omega), lN_shrN (by omega) (by omega), g_or' (k := 28 - s) rfl h3 (by omega), lN_lim, wb_mask (by omega) (by decide), Nat.add_comm]
  rfl
theorem sh_l0 {a s : Nat} (hs : s < 28) (ha : a < 268435456) : lN a <<< ((nI s).toInt64 &&& 63) &&& 268435455 = lN (a * 2 ^ s % vB) := by
  have h1 : 2 ^ s ≤ 2 ^ 27 := Nat.pow_le_pow_right (by decide) (by omega)
  have h2 : a * 2 ^ s ≤ 268435456 * 2 ^ 27 := Nat.mul_le_mul (by omega) h1
  have e27 : (2 : Nat) ^ 27 = 134217728 := rfl
  rw [wb_shl a (by omega), lN_lim, wb_mask (by omega) (by decide)]
  rfl
theorem fD_evL {v n : Nat} {f : Nat → Int64} (hv : v < vB ^ n) (h : ∀ j, j < n → f j = fD v j) : lm_ev b28 (nd f) n = (v : Int) := by
  rw [lm_congr (g := nd (fD v)) (fun j hj => by unfold nd; rw [h j hj]), fD_ev, Nat.mod_eq_of_lt hv]

set_option maxRecDepth 100000 in
set_option maxHeartbeats 4000000 in
theorem k_N_takeRaised (l : Launch) (T : wT) (V : Nat → Nat) (K : wUt) (I : wIt) (O : wOt) (x a n : Nat) (hi : x < 34) (ha : a < 34) (hxa : a ≠ x) (hn : n < 2147483648) (hk : kD (V a) + n / 28 ≤ 74) (hV : ∀ n, n < 34 → V n < vLim) : Met l y_N_takeRaised (.code y_N_takeRaised c_N_takeRaised 11 none :: bg) ({ frames := 1, cells := 0, slots := 0, locals := 22 } : Room) (mP T (fF V) (fU V) K I O [.ref (wa T x), .ref (wa T a), .int (nI n)]) (mQv T (fF (va_up V x (V a * 2 ^ n))) (fU (va_up V x (V a * 2 ^ n))) K I O) 0 0 (wA T) := by
  refine wM_v (by decide) (Nat.le_of_ble_eq_true rfl) ?_
  intro p e R s m args below meth c Q ls hx hb hC hRf hRl hret hl hw
  have hRf : 1 ≤ R.frames := hRf
  have hRl : 22 ≤ R.locals := hRl
  have hl : lv_has ls 11 [(0, .ref (wa T x)), (1, .ref (wa T a)), (2, .int (nI n))] := hl
  have hm : n % 28 < 28 := Nat.mod_lt _ (by decide)
  refine lv_iload_n hx hb d_N_takeRaised_0 rfl (lv_at hl 2 rfl) ?_
  refine lv_bipush (v := nI 28) hx hb d_N_takeRaised_1 (by decide +kernel) ?_
  refine n_idiv hx hb d_N_takeRaised_3 (by omega) (by omega) (by omega) ?_
  refine lv_istore_n hx hb d_N_takeRaised_4 rfl hl (by decide) rfl (fun ls hl => ?_)
  have hl : lv_has ls 11 [(3, .int (nI (n / 28))), (0, .ref (wa T x)), (1, .ref (wa T a)), (2, .int (nI n))] := hl
  refine lv_iload_n hx hb d_N_takeRaised_5 rfl (lv_at hl 3 rfl) ?_
  refine lv_bipush (v := nI 28) hx hb d_N_takeRaised_6 (by decide +kernel) ?_
  refine n_irem hx hb d_N_takeRaised_8 (by omega) (by omega) (by omega) ?_
  refine lv_istore hx hb d_N_takeRaised_9 hl (by decide) rfl (fun ls hl => ?_)
  have hl : lv_has ls 11 [(4, .int (nI (n % 28))), (3, .int (nI (n / 28))), (0, .ref (wa T x)), (1, .ref (wa T a)), (2, .int (nI n))] := hl
  refine lv_aload_n hx hb d_N_takeRaised_11 rfl (lv_at hl 3 rfl) ?_
  refine wg_Natural_used hx hb hC hw (by omega) bw_45 d_N_takeRaised_12 ?_
  refine sw_i (y := nI (kD (V a))) (rfl) ?_
  refine lv_iload_n hx hb d_N_takeRaised_15 rfl (lv_at hl 1 rfl) ?_
  refine n_iadd hx hb d_N_takeRaised_16 ?_
  refine lv_iconst (v := nI 1) hx hb d_N_takeRaised_17 (by decide +kernel) ?_
  refine n_iadd hx hb d_N_takeRaised_18 ?_
  refine lv_istore hx hb d_N_takeRaised_19 hl (by decide) rfl (fun ls hl => ?_)
  have hl : lv_has ls 11 [(5, .int (nI (((kD (V a)) + (n / 28)) + 1))), (4, .int (nI (n % 28))), (3, .int (nI (n / 28))), (0, .ref (wa T x)), (1, .ref (wa T a)), (2, .int (nI n))] := hl
  refine lv_lconst (v := 0) hx hb d_N_takeRaised_21 (by decide +kernel) ?_
  refine lv_lstore hx hb d_N_takeRaised_22 hl (by decide) rfl (fun ls hl => ?_)
  have hl : lv_has ls 11 [(6, .long (0 : Int64)), (5, .int (nI (((kD (V a)) + (n / 28)) + 1))), (4, .int (nI (n % 28))), (3, .int (nI (n / 28))), (0, .ref (wa T x)), (1, .ref (wa T a)), (2, .int (nI n))] := hl
  refine lv_aload_n hx hb d_N_takeRaised_24 rfl (lv_at hl 5 rfl) ?_
  refine wg_Natural_used hx hb hC hw (by omega) bw_45 d_N_takeRaised_25 ?_
  refine sw_i (y := nI (kD (V a))) (rfl) ?_
  refine lv_istore hx hb d_N_takeRaised_28 hl (by decide) rfl (fun ls hl => ?_)
  have hl : lv_has ls 11 [(8, .int (nI (kD (V a)))), (6, .long (0 : Int64)), (5, .int (nI (((kD (V a)) + (n / 28)) + 1))), (4, .int (nI (n % 28))), (3, .int (nI (n / 28))), (0, .ref (wa T x)), (1, .ref (wa T a)), (2, .int (nI n))] := hl
  rw [← va_upx (fF V) x] at hw
  have lp : ∀ (q : Nat) (f : Nat → Int64) (ls : Array Slot) (H : Heap) (locs : List Loc), q ≤ kD (V a) → (∀ j, n / 28 + q < j → j ≤ n / 28 + kD (V a) → f j = fD (V a * 2 ^ n) j) → (∀ j, n / 28 + kD (V a) < j → f j = fD (V x) j) → lv_has ls 11 [(8, .int (nI q)), (6, .long (lN (V a / vB ^ q % vB))), (5, .int (nI (kD (V a) + n / 28 + 1))), (4, .int (nI (n % 28))), (3, .int (nI (n / 28))), (0, .ref (wa T x)), (1, .ref (wa T a)), (2, .int (nI n))] → wH T (va_up (fF V) x f) (fU V) K I O (wA T) s s.heap H locs → W p l e R s m args below meth c H locs 0 0 Q (F0 m 30 ls []) := by
    intro q
    induction q with
    | zero =>
      intro f ls H locs hq h1 h2 hl hw
      refine lv_iload hx hb d_N_takeRaised_30 (lv_at hl 0 rfl) ?_
      refine n_if_le (tgt := 83) hx hb d_N_takeRaised_32 (by decide) (by omega) (fun h0 => ?_) (fun h0 => ?_)
      · refine lv_aload_n hx hb d_N_takeRaised_83 rfl (lv_at hl 5 rfl) ?_
        refine wg_Natural_limbs hx hb hC hw (by omega) bw_43 d_N_takeRaised_84 ?_
        refine lv_iload_n hx hb d_N_takeRaised_87 rfl (lv_at hl 4 rfl) ?_
        refine lv_lload hx hb d_N_takeRaised_88 (lv_at hl 1 rfl) ?_
        refine lv_iload hx hb d_N_takeRaised_90 (lv_at hl 3 rfl) ?_
        refine lv_lshl hx hb d_N_takeRaised_92 rfl ?_
        refine lv_ldc2 (v := 268435455) hx hb hC.ow (hC.hts bw_300) d_N_takeRaised_93 ?_
        refine lv_land hx hb d_N_takeRaised_96 ?_
        refine sw_l (y := lN (V a / vB ^ 0 % vB * 2 ^ (n % 28) % vB)) (sh_l0 (by omega) (dg_lt _ _)) ?_
        refine ws_limbs hx hb hw (by omega) (by omega) d_N_takeRaised_97 (fun H locs hw => ?_)
        refine lv_iconst (v := nI 0) hx hb d_N_takeRaised_98 (by decide +kernel) ?_
        refine lv_istore hx hb d_N_takeRaised_99 hl (by decide) rfl (fun ls hl => ?_)
        have hl : lv_has ls 11 [(8, .int (nI 0)), (6, .long (lN (V a / vB ^ 0 % vB))), (5, .int (nI (kD (V a) + n / 28 + 1))), (4, .int (nI (n % 28))), (3, .int (nI (n / 28))), (0, .ref (wa T x)), (1, .ref (wa T a)), (2, .int (nI n))] := hl
        rw [bx_uu, va_up_self] at hw
        generalize hf : vp_updL f (n / 28) (lN (V a / vB ^ 0 % vB * 2 ^ (n % 28) % vB)) = f1 at hw
        have g1 : ∀ j, n / 28 ≤ j → j ≤ n / 28 + kD (V a) → f1 j = fD (V a * 2 ^ n) j := fun j a1 a2 => by
          rw [← hf]
          by_cases ej : j = n / 28
          · rw [ej, pk_uLs, fD_lN, up_dg0]
          · rw [pk_uLn ej]; exact h1 j (by omega) a2
        have g2 : ∀ j, n / 28 + kD (V a) < j → f1 j = fD (V x) j := fun j a1 => by rw [← hf, pk_uLn (by omega)]; exact h2 j a1
        clear h1 h2
        have lq : ∀ (z9 i : Nat) (g : Nat → Int64) (ls : Array Slot) (H : Heap) (locs : List Loc), (n / 28) - i = z9 → i ≤ (n / 28) → (∀ j, j < i → g j = 0) → (∀ j, i ≤ j → g j = f1 j) →  lv_has ls 11 [(8, .int (nI i)), (6, .long (lN (V a / vB ^ 0 % vB))), (5, .int (nI (kD (V a) + n / 28 + 1))), (4, .int (nI (n % 28))), (3, .int (nI (n / 28))), (0, .ref (wa T x)), (1, .ref (wa T a)), (2, .int (nI n))] → wH T (va_up (fF V) x g) (fU V) K I O (wA T) s s.heap H locs → W p l e R s m args below meth c H locs 0 0 Q (F0 m 101 ls []) := by
          intro z9
          induction z9 with
          | zero =>
            intro i g ls H locs hn hle h1 h2 hl hw
            refine lv_iload hx hb d_N_takeRaised_101 (lv_at hl 0 rfl) ?_
            refine lv_iload_n hx hb d_N_takeRaised_103 rfl (lv_at hl 4 rfl) ?_
            refine n_icmp_ge (tgt := 121) hx hb d_N_takeRaised_104 (by decide) (by omega) (by omega) (fun h0 => ?_) (fun h0 => ?_)
            · have e9 : n / 28 = i := by omega
              subst e9
              refine lv_aload_n hx hb d_N_takeRaised_121 rfl (lv_at hl 5 rfl) ?_
              refine lv_iload hx hb d_N_takeRaised_122 (lv_at hl 2 rfl) ?_
              have s0 : ∀ j, j < kD (V a) + n / 28 + 1 → g j = fD (V a * 2 ^ n) j := fun j hj => by
                by_cases ej : j < n / 28
                · rw [h1 j ej, fD_lN, up_dgz ej]; decide +kernel
                · rw [h2 j (by omega)]; exact g1 j (by omega) (by omega)
              have hW := up_lt (n := n) (kD_lt (hV a ha))
              refine wcV_v (As := [.int (nI (kD (V a) + n / 28 + 1))]) hx hb hC hw (k_N_settle l T (va_up (fF V) x g) (fU V) K I O x (kD (V x)) (kD (V a) + n / 28 + 1) (V a * 2 ^ n) hi rfl (kD_le _) (by omega) (fun j hj => by rw [va_up_self]; unfold nd; rw [s0 j hj]; exact fD_in _ _) (fun j a1 a2 a3 => by rw [va_up_self, h2 j (by omega), g2 j (by omega)]; exact fD_zero (hV x hi) a2) (by rw [va_up_self]; exact fD_evL hW s0)) lk_N_39 rfl rfl ⟨by show 0 + 1 ≤ R.frames; omega, by show 8 + (3 + 11) + 0 ≤ R.locals; omega⟩ (by omega) (we_Natural (by omega)) rfl rfl hl.1 rfl (Nat.le_of_ble_eq_true rfl) ⟨Nat.zero_le _, Nat.zero_le _⟩ d_N_takeRaised_124 (fun H locs hw => ?_)
              rw [bx_uu, fF_up, fU_up] at hw
              exact hret _ _ _ _ hw d_N_takeRaised_127
            · exact absurd h0 (by omega)
          | succ z9 ih =>
            intro i g ls H locs hn hle h1 h2 hl hw
            refine lv_iload hx hb d_N_takeRaised_101 (lv_at hl 0 rfl) ?_
            refine lv_iload_n hx hb d_N_takeRaised_103 rfl (lv_at hl 4 rfl) ?_
            refine n_icmp_ge (tgt := 121) hx hb d_N_takeRaised_104 (by decide) (by omega) (by omega) (fun h0 => ?_) (fun h0 => ?_)
            · exact absurd h0 (by omega)
            · refine lv_aload_n hx hb d_N_takeRaised_107 rfl (lv_at hl 5 rfl) ?_
              refine wg_Natural_limbs hx hb hC hw (by omega) bw_43 d_N_takeRaised_108 ?_
              refine lv_iload hx hb d_N_takeRaised_111 (lv_at hl 0 rfl) ?_
              refine lv_lconst (v := 0) hx hb d_N_takeRaised_113 (by decide +kernel) ?_
              refine ws_limbs hx hb hw (by omega) (by omega) d_N_takeRaised_114 (fun H locs hw => ?_)
              refine lv_iinc (v := nI (i + 1)) hx hb d_N_takeRaised_115 hl (k := 0) rfl (nI_add _ 1) (by decide) rfl (fun ls hl => ?_)
              have hl : lv_has ls 11 [(8, .int (nI (i + 1))), (6, .long (lN (V a / vB ^ 0 % vB))), (5, .int (nI (kD (V a) + n / 28 + 1))), (4, .int (nI (n % 28))), (3, .int (nI (n / 28))), (0, .ref (wa T x)), (1, .ref (wa T a)), (2, .int (nI n))] := hl
              refine lv_goto (tgt := 101) hx hb d_N_takeRaised_118 (by decide) ?_
              rw [bx_uu, va_up_self] at hw
              refine ih (i + 1) _ ls H locs (by omega) (by omega) (fun j hj => ?_) (fun j hj => ?_) hl hw
              · by_cases ej : j = i
                · rw [ej, pk_uLs]
                · rw [pk_uLn ej]; exact h1 j (by omega)
              · rw [pk_uLn (by omega)]; exact h2 j (by omega)
        exact lq (n / 28) 0 f1 ls _ _ (by omega) (by omega) (fun j h => absurd h (by omega)) (fun _ _ => rfl) hl hw
      · exact absurd h0 (by omega)
    | succ q ih =>
      intro f ls H locs hq h1 h2 hl hw
      refine lv_iload hx hb d_N_takeRaised_30 (lv_at hl 0 rfl) ?_
      refine n_if_le (tgt := 83) hx hb d_N_takeRaised_32 (by decide) (by omega) (fun h0 => ?_) (fun h0 => ?_)
      · exact absurd h0 (by omega)
      · refine lv_aload_n hx hb d_N_takeRaised_35 rfl (lv_at hl 6 rfl) ?_
        refine wg_Natural_limbs hx hb hC hw (by omega) bw_43 d_N_takeRaised_36 ?_
        refine lv_iload hx hb d_N_takeRaised_39 (lv_at hl 0 rfl) ?_
        refine lv_iconst (v := nI 1) hx hb d_N_takeRaised_41 (by decide +kernel) ?_
        refine n_isub hx hb d_N_takeRaised_42 (by omega) ?_
        refine wl_limbs hx hb hw (by omega) (by omega) d_N_takeRaised_43 ?_
        refine sw_l (y := lN (V a / vB ^ q % vB)) (by rw [va_up_ne _ _ hxa]; rfl) ?_
        refine lv_lstore hx hb d_N_takeRaised_44 hl (by decide) rfl (fun ls hl => ?_)
        have hl : lv_has ls 11 [(9, .long (lN (V a / vB ^ q % vB))), (8, .int (nI (q + 1))), (6, .long (lN (V a / vB ^ (q + 1) % vB))), (5, .int (nI (kD (V a) + n / 28 + 1))), (4, .int (nI (n % 28))), (3, .int (nI (n / 28))), (0, .ref (wa T x)), (1, .ref (wa T a)), (2, .int (nI n))] := hl
        refine lv_aload_n hx hb d_N_takeRaised_46 rfl (lv_at hl 6 rfl) ?_
        refine wg_Natural_limbs hx hb hC hw (by omega) bw_43 d_N_takeRaised_47 ?_
        refine lv_iload_n hx hb d_N_takeRaised_50 rfl (lv_at hl 5 rfl) ?_
        refine lv_iload hx hb d_N_takeRaised_51 (lv_at hl 1 rfl) ?_
        refine n_iadd hx hb d_N_takeRaised_53 ?_
        refine lv_lload hx hb d_N_takeRaised_54 (lv_at hl 2 rfl) ?_
        refine lv_iload hx hb d_N_takeRaised_56 (lv_at hl 4 rfl) ?_
        refine lv_lshl hx hb d_N_takeRaised_58 rfl ?_
        refine lv_lload hx hb d_N_takeRaised_59 (lv_at hl 0 rfl) ?_
        refine lv_bipush (v := nI 28) hx hb d_N_takeRaised_61 (by decide +kernel) ?_
        refine lv_iload hx hb d_N_takeRaised_63 (lv_at hl 4 rfl) ?_
        refine n_isub hx hb d_N_takeRaised_65 (by omega) ?_
        refine lv_lshr hx hb d_N_takeRaised_66 rfl ?_
        refine lv_lor hx hb d_N_takeRaised_67 ?_
        refine lv_ldc2 (v := 268435455) hx hb hC.ow (hC.hts bw_300) d_N_takeRaised_68 ?_
        refine lv_land hx hb d_N_takeRaised_71 ?_
        refine sw_l (y := lN (V a * 2 ^ n / vB ^ (n / 28 + (q + 1)) % vB)) (by rw [sh_or (by omega) (dg_lt _ _) (dg_lt _ _), up_dg]) ?_
        refine ws_limbs hx hb hw (by omega) (by omega) d_N_takeRaised_72 (fun H locs hw => ?_)
        refine lv_lload hx hb d_N_takeRaised_73 (lv_at hl 0 rfl) ?_
        refine lv_lstore hx hb d_N_takeRaised_75 hl (by decide) rfl (fun ls hl => ?_)
        have hl : lv_has ls 11 [(6, .long (lN (V a / vB ^ q % vB))), (9, .long (lN (V a / vB ^ q % vB))), (8, .int (nI (q + 1))), (5, .int (nI (kD (V a) + n / 28 + 1))), (4, .int (nI (n % 28))), (3, .int (nI (n / 28))), (0, .ref (wa T x)), (1, .ref (wa T a)), (2, .int (nI n))] := hl
        refine lv_iinc (v := nI q) hx hb d_N_takeRaised_77 hl (k := 2) rfl ((i32_m1 _).trans (nI_pred q)) (by decide) rfl (fun ls hl => ?_)
        have hl : lv_has ls 11 [(8, .int (nI q)), (6, .long (lN (V a / vB ^ q % vB))), (9, .long (lN (V a / vB ^ q % vB))), (5, .int (nI (kD (V a) + n / 28 + 1))), (4, .int (nI (n % 28))), (3, .int (nI (n / 28))), (0, .ref (wa T x)), (1, .ref (wa T a)), (2, .int (nI n))] := hl
        refine lv_goto (tgt := 30) hx hb d_N_takeRaised_80 (by decide) ?_
        rw [bx_uu, va_up_self] at hw
        have hl := lv_sub hl [0, 1, 3, 4, 5, 6, 7, 8] rfl
        have hl : lv_has ls 11 [(8, .int (nI q)), (6, .long (lN (V a / vB ^ q % vB))), (5, .int (nI (kD (V a) + n / 28 + 1))), (4, .int (nI (n % 28))), (3, .int (nI (n / 28))), (0, .ref (wa T x)), (1, .ref (wa T a)), (2, .int (nI n))] := hl
        refine ih _ ls H locs (by omega) (fun j a1 a2 => ?_) (fun j a1 => ?_) hl hw
        · by_cases ej : j = n / 28 + (q + 1)
          · rw [ej, pk_uLs, fD_lN]
          · rw [pk_uLn ej]; exact h1 j (by omega) a2
        · rw [pk_uLn (by omega)]; exact h2 j a1
  have e9 : (0 : Int64) = lN (V a / vB ^ kD (V a) % vB) := by rw [Nat.div_eq_of_lt (kD_lt (hV a ha)), Nat.zero_mod]; rfl
  rw [e9] at hl
  exact lp (kD (V a)) (fD (V x)) ls _ _ (Nat.le_refl _) (fun j a1 a2 => absurd a1 (by omega)) (fun _ _ => rfl) hl hw
