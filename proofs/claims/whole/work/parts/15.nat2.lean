/-! Natural: contracts over the numbers -/
def fF (V : Nat → Nat) : wFt := fun n => fD (V n)
def fU (V : Nat → Nat) : wUt := fun n => uD (V n)
theorem fF_up (V : Nat → Nat) (x v : Nat) : va_up (fF V) x (fD v) = fF (va_up V x v) := funext fun j => by
  by_cases h : j = x
  · rw [h, va_up_self]; unfold fF; rw [va_up_self]
  · rw [va_up_ne _ _ h]; unfold fF; rw [va_up_ne _ _ h]
theorem fU_up (V : Nat → Nat) (x v : Nat) : va_up (fU V) x (uD v) = fU (va_up V x v) := funext fun j => by
  by_cases h : j = x
  · rw [h, va_up_self]; unfold fU; rw [va_up_self]
  · rw [va_up_ne _ _ h]; unfold fU; rw [va_up_ne _ _ h]
theorem zN (b : Prop) [Decidable b] : narrow .boolean (.int (if b then (1 : Int32) else 0)) = .int (if b then 1 else 0) := by split <;> rfl
theorem kD0 {v : Nat} (h : v < vLim) (hk : kD v = 0) : v = 0 := by
  have := kD_lt h
  rw [hk] at this
  simpa using this
theorem kDp {v : Nat} (hk : 0 < kD v) : v ≠ 0 := by
  have h1 := kD_ge hk
  have h2 : 0 < vB ^ (kD v - 1) := Nat.pow_pos vB_pos
  omega
theorem kD_less {a b : Nat} (ha : a < vLim) (h : kD a < kD b) : a < b := by
  have h1 := kD_lt ha
  have h2 := kD_ge (v := b) (by omega)
  have h3 := vB_le (show kD a ≤ kD b - 1 by omega)
  omega
theorem fD_evI {v : Nat} (h : v < vLim) : lm_ev b28 (nd (fD v)) (kD v) = (v : Int) := fD_ev_k h (Nat.le_refl _)
theorem i32_m1 (a : Int32) : a + Int32.ofInt (-1) = a - 1 := by rw [Int32.sub_eq_add_neg]; rfl

set_option maxRecDepth 100000 in
set_option maxHeartbeats 4000000 in
theorem k_N_isZero (l : Launch) (T : wT) (V : Nat → Nat) (K : wUt) (I : wIt) (O : wOt) (x : Nat) (hi : x < 34) (hV : ∀ n, n < 34 → V n < vLim) : Met l y_N_isZero (.code y_N_isZero c_N_isZero 1 (some .boolean) :: bg) ({ frames := 0, cells := 0, slots := 0, locals := 0 } : Room) (mP T (fF V) (fU V) K I O [.ref (wa T x)]) (mQi T (if V x = 0 then (1 : Int32) else 0) (fF V) (fU V) K I O) 0 0 (wA T) := by
  refine wM_z (by decide) (Nat.le_of_ble_eq_true rfl) (zN _) ?_
  intro p e R s m args below meth c Q ls hx hb hC hRf hRl hret hl hw
  have hRf : 0 ≤ R.frames := hRf
  have hRl : 0 ≤ R.locals := hRl
  have hl : lv_has ls 1 [(0, .ref (wa T x))] := hl
  have h1 := kD_le (V x)
  refine lv_aload_n hx hb d_N_isZero_0 rfl (lv_at hl 0 rfl) ?_
  refine wg_Natural_used hx hb hC hw (by omega) bw_45 d_N_isZero_1 ?_
  refine sw_i (y := nI (kD (V x))) (rfl) ?_
  refine n_if_ne (tgt := 11) hx hb d_N_isZero_4 (by decide) (by omega) (fun h => ?_) (fun h => ?_)
  · refine lv_iconst (v := nI 0) hx hb d_N_isZero_11 (by decide +kernel) ?_
    refine sw_i (y := (if V x = 0 then (1 : Int32) else 0)) (by rw [if_neg (kDp h)]; rfl) ?_
    exact hret _ _ _ _ hw d_N_isZero_12
  · refine lv_iconst (v := nI 1) hx hb d_N_isZero_7 (by decide +kernel) ?_
    refine lv_goto (tgt := 12) hx hb d_N_isZero_8 (by decide) ?_
    refine sw_i (y := (if V x = 0 then (1 : Int32) else 0)) (by rw [if_pos (kD0 (hV x hi) h)]; rfl) ?_
    exact hret _ _ _ _ hw d_N_isZero_12
set_option maxRecDepth 100000 in
set_option maxHeartbeats 4000000 in
theorem k_N_at (l : Launch) (T : wT) (F : wFt) (U K : wUt) (I : wIt) (O : wOt) (x j k : Nat) (hi : x < 34) (hU : U x = nI k) (hk : k ≤ 75) (hj : j < 2147483648) : Met l y_N_at (.code y_N_at c_N_at 2 (some .long) :: bg) ({ frames := 0, cells := 0, slots := 0, locals := 0 } : Room) (mP T F U K I O [.ref (wa T x), .int (nI j)]) (mQl T (if j < k then F x j else 0) F U K I O) 0 0 (wA T) := by
  refine wM_l (by decide) (Nat.le_of_ble_eq_true rfl) ?_
  intro p e R s m args below meth c Q ls hx hb hC hRf hRl hret hl hw
  have hRf : 0 ≤ R.frames := hRf
  have hRl : 0 ≤ R.locals := hRl
  have hl : lv_has ls 2 [(0, .ref (wa T x)), (1, .int (nI j))] := hl
  refine lv_iload_n hx hb d_N_at_0 rfl (lv_at hl 1 rfl) ?_
  refine n_if_lt hx hb d_N_at_1 (by decide) (by omega) ?_
  refine lv_iload_n hx hb d_N_at_4 rfl (lv_at hl 1 rfl) ?_
  refine lv_aload_n hx hb d_N_at_5 rfl (lv_at hl 0 rfl) ?_
  refine wg_Natural_used hx hb hC hw (by omega) bw_45 d_N_at_6 ?_
  refine sw_i (y := nI k) (hU) ?_
  refine n_icmp_ge (tgt := 21) hx hb d_N_at_9 (by decide) (by omega) (by omega) (fun h => ?_) (fun h => ?_)
  · refine lv_lconst (v := 0) hx hb d_N_at_21 (by decide +kernel) ?_
    refine sw_l (y := (if j < k then F x j else 0)) (by rw [if_neg (by omega)]) ?_
    exact hret _ _ _ _ hw d_N_at_22
  · refine lv_aload_n hx hb d_N_at_12 rfl (lv_at hl 0 rfl) ?_
    refine wg_Natural_limbs hx hb hC hw (by omega) bw_43 d_N_at_13 ?_
    refine lv_iload_n hx hb d_N_at_16 rfl (lv_at hl 1 rfl) ?_
    refine wl_limbs hx hb hw (by omega) (by omega) d_N_at_17 ?_
    refine lv_goto (tgt := 22) hx hb d_N_at_18 (by decide) ?_
    refine sw_l (y := (if j < k then F x j else 0)) (by rw [if_pos h]) ?_
    exact hret _ _ _ _ hw d_N_at_22
set_option maxRecDepth 100000 in
set_option maxHeartbeats 4000000 in
theorem k_N_atN (l : Launch) (T : wT) (F : wFt) (U K : wUt) (I : wIt) (O : wOt) (x : Nat) (j : Int32) (hi : x < 34) (hj : j < 0) : Met l y_N_at (.code y_N_at c_N_at 2 (some .long) :: bg) ({ frames := 0, cells := 0, slots := 0, locals := 0 } : Room) (mP T F U K I O [.ref (wa T x), .int j]) (mQl T (0 : Int64) F U K I O) 0 0 (wA T) := by
  refine wM_l (by decide) (Nat.le_of_ble_eq_true rfl) ?_
  intro p e R s m args below meth c Q ls hx hb hC hRf hRl hret hl hw
  have hRf : 0 ≤ R.frames := hRf
  have hRl : 0 ≤ R.locals := hRl
  have hl : lv_has ls 2 [(0, .ref (wa T x)), (1, .int j)] := hl
  refine lv_iload_n hx hb d_N_at_0 rfl (lv_at hl 1 rfl) ?_
  refine lv_if_lt (tgt := 21) hx hb d_N_at_1 (by decide) (fun h => ?_) (fun h => ?_)
  · refine lv_lconst (v := 0) hx hb d_N_at_21 (by decide +kernel) ?_
    exact hret _ _ _ _ hw d_N_at_22
  · exact absurd hj h
set_option maxRecDepth 100000 in
set_option maxHeartbeats 4000000 in
theorem k_N_clear (l : Launch) (T : wT) (V : Nat → Nat) (K : wUt) (I : wIt) (O : wOt) (x : Nat) (hi : x < 34) (hV : ∀ n, n < 34 → V n < vLim) : Met l y_N_clear (.code y_N_clear c_N_clear 1 none :: bg) ({ frames := 1, cells := 0, slots := 0, locals := 22 } : Room) (mP T (fF V) (fU V) K I O [.ref (wa T x)]) (mQv T (fF (va_up V x 0)) (fU (va_up V x 0)) K I O) 0 0 (wA T) := by
  refine wM_v (by decide) (Nat.le_of_ble_eq_true rfl) ?_
  intro p e R s m args below meth c Q ls hx hb hC hRf hRl hret hl hw
  have hRf : 1 ≤ R.frames := hRf
  have hRl : 22 ≤ R.locals := hRl
  have hl : lv_has ls 1 [(0, .ref (wa T x))] := hl
  refine lv_aload_n hx hb d_N_clear_0 rfl (lv_at hl 0 rfl) ?_
  refine lv_iconst (v := nI 0) hx hb d_N_clear_1 (by decide +kernel) ?_
  refine wcV_v (As := [.int (nI 0)]) hx hb hC hw (k_N_settle l T (fF V) (fU V) K I O x (kD (V x)) 0 0 hi rfl (kD_le _) (by omega) (fun j h => absurd h (by omega)) (fun j _ a b => fD_zero (hV x hi) a) rfl) lk_N_39 rfl rfl ⟨by show 0 + 1 ≤ R.frames; omega, by show 8 + (3 + 11) + 0 ≤ R.locals; omega⟩ (by omega) (we_Natural (by omega)) rfl rfl hl.1 rfl (Nat.le_of_ble_eq_true rfl) ⟨Nat.zero_le _, Nat.zero_le _⟩ d_N_clear_2 (fun H locs hw => ?_)
  rw [fF_up, fU_up] at hw
  exact hret _ _ _ _ hw d_N_clear_5
set_option maxRecDepth 100000 in
set_option maxHeartbeats 4000000 in
theorem k_N_take (l : Launch) (T : wT) (V : Nat → Nat) (K : wUt) (I : wIt) (O : wOt) (x a : Nat) (hi : x < 34) (ha : a < 34) (hV : ∀ n, n < 34 → V n < vLim) : Met l y_N_take (.code y_N_take c_N_take 4 none :: bg) ({ frames := 1, cells := 0, slots := 0, locals := 22 } : Room) (mP T (fF V) (fU V) K I O [.ref (wa T x), .ref (wa T a)]) (mQv T (fF (va_up V x (V a))) (fU (va_up V x (V a))) K I O) 0 0 (wA T) := by
  refine wM_v (by decide) (Nat.le_of_ble_eq_true rfl) ?_
  intro p e R s m args below meth c Q ls hx hb hC hRf hRl hret hl hw
  have hRf : 1 ≤ R.frames := hRf
  have hRl : 22 ≤ R.locals := hRl
  have hl : lv_has ls 4 [(0, .ref (wa T x)), (1, .ref (wa T a))] := hl
  have h9 := kD_le (V a)
  refine lv_aload_n hx hb d_N_take_0 rfl (lv_at hl 1 rfl) ?_
  refine wg_Natural_used hx hb hC hw (by omega) bw_45 d_N_take_1 ?_
  refine sw_i (y := nI (kD (V a))) (rfl) ?_
  refine lv_istore_n hx hb d_N_take_4 rfl hl (by decide) rfl (fun ls hl => ?_)
  have hl : lv_has ls 4 [(2, .int (nI (kD (V a)))), (0, .ref (wa T x)), (1, .ref (wa T a))] := hl
  refine lv_iconst (v := nI 0) hx hb d_N_take_5 (by decide +kernel) ?_
  refine lv_istore_n hx hb d_N_take_6 rfl hl (by decide) rfl (fun ls hl => ?_)
  have hl : lv_has ls 4 [(3, .int (nI 0)), (2, .int (nI (kD (V a)))), (0, .ref (wa T x)), (1, .ref (wa T a))] := hl
  rw [← va_upx (fF V) x] at hw
  have lp : ∀ (n i : Nat) (f : Nat → Int64) (ls : Array Slot) (H : Heap) (locs : List Loc), kD (V a) - i = n → i ≤ kD (V a) → (∀ j, j < i → f j = fD (V a) j) → (∀ j, i ≤ j → f j = fD (V x) j) → lv_has ls 4 [(3, .int (nI i)), (2, .int (nI (kD (V a)))), (0, .ref (wa T x)), (1, .ref (wa T a))] → wH T (va_up (fF V) x f) (fU V) K I O (wA T) s s.heap H locs → W p l e R s m args below meth c H locs 0 0 Q (F0 m 7 ls []) := by
    intro n
    induction n with
    | zero =>
      intro i f ls H locs hn hi2 h1 h2 hl hw
      refine lv_iload_n hx hb d_N_take_7 rfl (lv_at hl 0 rfl) ?_
      refine lv_iload_n hx hb d_N_take_8 rfl (lv_at hl 1 rfl) ?_
      refine n_icmp_ge (tgt := 30) hx hb d_N_take_9 (by decide) (by omega) (by omega) (fun h => ?_) (fun h => ?_)
      · refine lv_aload_n hx hb d_N_take_30 rfl (lv_at hl 2 rfl) ?_
        refine lv_iload_n hx hb d_N_take_31 rfl (lv_at hl 1 rfl) ?_
        have e9 : i = kD (V a) := by omega
        subst e9
        refine wcV_v (As := [.int (nI (kD (V a)))]) hx hb hC hw (k_N_settle l T (va_up (fF V) x f) (fU V) K I O x (kD (V x)) (kD (V a)) (V a) hi rfl (kD_le _) (kD_le _) (fun j hj => by rw [va_up_self]; unfold nd; rw [h1 j hj]; exact fD_in _ _) (fun j a1 a2 a3 => by rw [va_up_self, h2 j a1]; exact fD_zero (hV x hi) a2) (by rw [va_up_self, ← fD_evI (hV a ha)]; exact lm_congr (fun j hj => by unfold nd; rw [h1 j hj]))) lk_N_39 rfl rfl ⟨by show 0 + 1 ≤ R.frames; omega, by show 8 + (3 + 11) + 0 ≤ R.locals; omega⟩ (by omega) (we_Natural (by omega)) rfl rfl hl.1 rfl (Nat.le_of_ble_eq_true rfl) ⟨Nat.zero_le _, Nat.zero_le _⟩ d_N_take_32 (fun H locs hw => ?_)
        rw [bx_uu, fF_up, fU_up] at hw
        exact hret _ _ _ _ hw d_N_take_35
      · exact absurd h (by omega)
    | succ n ih =>
      intro i f ls H locs hn hi2 h1 h2 hl hw
      refine lv_iload_n hx hb d_N_take_7 rfl (lv_at hl 0 rfl) ?_
      refine lv_iload_n hx hb d_N_take_8 rfl (lv_at hl 1 rfl) ?_
      refine n_icmp_ge (tgt := 30) hx hb d_N_take_9 (by decide) (by omega) (by omega) (fun h => ?_) (fun h => ?_)
      · exact absurd h (by omega)
      · refine lv_aload_n hx hb d_N_take_12 rfl (lv_at hl 2 rfl) ?_
        refine wg_Natural_limbs hx hb hC hw (by omega) bw_43 d_N_take_13 ?_
        refine lv_iload_n hx hb d_N_take_16 rfl (lv_at hl 0 rfl) ?_
        refine lv_aload_n hx hb d_N_take_17 rfl (lv_at hl 3 rfl) ?_
        refine wg_Natural_limbs hx hb hC hw (by omega) bw_43 d_N_take_18 ?_
        refine lv_iload_n hx hb d_N_take_21 rfl (lv_at hl 0 rfl) ?_
        refine wl_limbs hx hb hw (by omega) (by omega) d_N_take_22 ?_
        refine sw_l (y := fD (V a) i) (by
            by_cases ea : a = x
            · subst ea; rw [va_up_self]; exact h2 i (Nat.le_refl i)
            · rw [va_up_ne _ _ ea]; rfl) ?_
        refine ws_limbs hx hb hw (by omega) (by omega) d_N_take_23 (fun H locs hw => ?_)
        refine lv_iinc (v := nI (i + 1)) hx hb d_N_take_24 hl (k := 0) rfl (nI_add _ 1) (by decide) rfl (fun ls hl => ?_)
        have hl : lv_has ls 4 [(3, .int (nI (i + 1))), (2, .int (nI (kD (V a)))), (0, .ref (wa T x)), (1, .ref (wa T a))] := hl
        refine lv_goto (tgt := 7) hx hb d_N_take_27 (by decide) ?_
        rw [bx_uu, va_up_self] at hw
        refine ih (i + 1) _ ls H locs (by omega) (by omega) (fun j hj => ?_) (fun j hj => ?_) hl hw
        · by_cases ej : j = i
          · rw [ej, pk_uLs]
          · rw [pk_uLn ej]; exact h1 j (by omega)
        · rw [pk_uLn (by omega)]; exact h2 j (by omega)
  exact lp (kD (V a)) 0 (fD (V x)) ls _ _ (by omega) (by omega) (fun j h => absurd h (by omega)) (fun _ _ => rfl) hl hw
