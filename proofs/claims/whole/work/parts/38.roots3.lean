/-! Roots: run -/
def rPr (V : Nat → Nat) (K : wUt) (a kk : Nat) (V' : Nat → Nat) (K' : wUt) : Prop := K' = K ∧ (∀ n, n < 34 → V' n < vLim) ∧ (∀ n, n < 13 → V' n = V n) ∧ V' 22 ^ kk ≤ V a ∧ V a < (V' 22 + 1) ^ kk
theorem ml_low {f q : Nat} (h : f % 2 ^ (q + 1) = 0) : f % 2 ^ q = 0 ∧ (f + 2 ^ q) % 2 ^ q = 0 := by
  have h1 : f % 2 ^ q = 0 := by
    have : f % 2 ^ (q + 1) % 2 ^ q = f % 2 ^ q := Nat.mod_mod_of_dvd _ ⟨2, by rw [Nat.pow_succ]⟩
    rw [← this, h, Nat.zero_mod]
  exact ⟨h1, by rw [Nat.add_mod_right]; exact h1⟩
theorem ml_up {f q z : Nat} (h : f % 2 ^ (q + 1) = 0) (hz : q + 1 ≤ z) (hf : f < 2 ^ z) : f + 2 ^ (q + 1) ≤ 2 ^ z := by
  have h1 : 2 ^ z = 2 ^ (q + 1) * 2 ^ (z - (q + 1)) := by rw [← Nat.pow_add, show q + 1 + (z - (q + 1)) = z by omega]
  have h2 : f = 2 ^ (q + 1) * (f / 2 ^ (q + 1)) := by have := Nat.div_add_mod f (2 ^ (q + 1)); omega
  have hp : 0 < 2 ^ (q + 1) := Nat.two_pow_pos _
  rw [h1] at hf ⊢
  have h3 : f / 2 ^ (q + 1) < 2 ^ (z - (q + 1)) := Nat.div_lt_of_lt_mul hf
  have h4 : 2 ^ (q + 1) * (f / 2 ^ (q + 1) + 1) ≤ 2 ^ (q + 1) * 2 ^ (z - (q + 1)) := Nat.mul_le_mul_left _ h3
  rw [Nat.mul_add, Nat.mul_one, ← h2] at h4
  exact h4

set_option maxRecDepth 100000 in
set_option maxHeartbeats 4000000 in
theorem k_O_run (l : Launch) (T : wT) (V : Nat → Nat) (K : wUt) (I : wIt) (O : wOt) (a kk : Nat) (ha : a < 13) (hk0 : 0 < kk) (hk1 : kk < 2147483648) (ha1 : V a < m1024) (hV : ∀ n, n < 34 → V n < vLim) : Met l y_O_run (.code y_O_run c_O_run 4 none :: bg) ({ frames := 4, cells := 0, slots := 0, locals := 93 } : Room) (mP T (fF V) (fU V) K I O [.ref (wa T 88), .ref (wa T a), .int (nI kk)]) (mQvp T (rPr V K a kk) I O) 0 0 (wA T) := by
  refine wM_vp (by decide) (Nat.le_of_ble_eq_true rfl) ?_
  intro p e R s m args below meth c Q ls hx hb hC hRf hRl hret hl hw
  have hRf : 4 ≤ R.frames := hRf
  have hRl : 93 ≤ R.locals := hRl
  have hl : lv_has ls 4 [(0, .ref (wa T 88)), (1, .ref (wa T a)), (2, .int (nI kk))] := hl
  have hma := m1024_lim
  have hbl : bl (V a) ≤ 1024 := bl_mono ha1
  refine lv_aload_n hx hb d_O_run_0 rfl (lv_at hl 0 rfl) ?_
  refine wg_Roots_found hx hb hC hw bw_113 d_O_run_1 ?_
  refine wcV_v (As := []) hx hb hC hw (k_N_clear l T V K I O 22 (by omega) hV) lk_O_25 rfl rfl ⟨by show 1 + 1 ≤ R.frames; omega, by show 8 + (1 + 11) + 22 ≤ R.locals; omega⟩ (by omega) (we_Natural (by omega)) rfl rfl hl.1 rfl (Nat.le_of_ble_eq_true rfl) ⟨Nat.zero_le _, Nat.zero_le _⟩ d_O_run_4 (fun H locs hw => ?_)
  generalize hV1 : va_up V 22 0 = V1 at hw
  have l1 : ∀ n, n < 34 → V1 n < vLim := by rw [← hV1]; exact hV_up hV (by decide +kernel)
  have o1 : ∀ n, n ≠ 22 → V1 n = V n := fun n h => by rw [← hV1]; exact va_up_ne _ _ h
  have x1 : V1 22 = 0 := by rw [← hV1]; exact va_up_self _ _ _
  refine lv_aload_n hx hb d_O_run_7 rfl (lv_at hl 1 rfl) ?_
  refine wcV_z (As := []) hx hb hC hw (k_N_isZero l T V1 K I O a (by omega) l1) lk_O_28 rfl rfl ⟨by show 0 + 1 ≤ R.frames; omega, by show 8 + (1 + 11) + 0 ≤ R.locals; omega⟩ (by omega) (we_Natural (by omega)) rfl rfl hl.1 rfl (Nat.le_of_ble_eq_true rfl) ⟨Nat.zero_le _, Nat.zero_le _⟩ d_O_run_8 (fun H locs hw => ?_)
  rw [o1 a (by omega)]
  by_cases hz : V a = 0
  · refine sw_i (y := nI 1) (by rw [if_pos hz]; rfl) ?_
    refine n_if_ne (tgt := 19) hx hb d_O_run_11 (by decide) (by omega) (fun hw9 => ?_) (fun hw9 => ?_)
    · exact hret V1 K _ _ _ _ ⟨rfl, l1, fun n h => o1 n (by omega), by rw [x1, hz, Nat.zero_pow hk0]; exact Nat.le_refl 0, by rw [x1, hz, Nat.zero_add, Nat.one_pow]; decide⟩ hw d_O_run_19
    · exact absurd hw9 (by decide)
  · refine sw_i (y := nI 0) (by rw [if_neg hz]; rfl) ?_
    refine n_if_ne (tgt := 19) hx hb d_O_run_11 (by decide) (by omega) (fun hw9 => ?_) (fun hw9 => ?_)
    · exact absurd hw9 (by decide)
    · refine lv_iload_n hx hb d_O_run_14 rfl (lv_at hl 2 rfl) ?_
      refine lv_iconst (v := nI 1) hx hb d_O_run_15 (by decide +kernel) ?_
      refine n_icmp_ge (tgt := 20) hx hb d_O_run_16 (by decide) (by omega) (by omega) (fun h9 => ?_) (fun h9 => ?_)
      · have hbp : 0 < bl (V a) := bl_pos (hV a (by omega)) (by omega)
        refine lv_aload_n hx hb d_O_run_20 rfl (lv_at hl 1 rfl) ?_
        refine wcV_i (As := []) hx hb hC hw (k_N_length l T V1 K I O a (by omega) l1) lk_O_32 rfl rfl ⟨by show 3 + 1 ≤ R.frames; omega, by show 8 + (1 + 11) + 63 ≤ R.locals; omega⟩ (by omega) (we_Natural (by omega)) rfl rfl hl.1 rfl (Nat.le_of_ble_eq_true rfl) ⟨Nat.zero_le _, Nat.zero_le _⟩ d_O_run_21 (fun H locs hw => ?_)
        rw [o1 a (by omega)]
        refine lv_iconst (v := nI 1) hx hb d_O_run_24 (by decide +kernel) ?_
        refine n_isub hx hb d_O_run_25 (by omega) ?_
        refine lv_iload_n hx hb d_O_run_26 rfl (lv_at hl 2 rfl) ?_
        refine n_idiv hx hb d_O_run_27 (by omega) (by omega) (by omega) ?_
        have hzl : (bl (V a) - 1) / kk ≤ bl (V a) - 1 := Nat.div_le_self _ _
        have hzk : bl (V a) ≤ ((bl (V a) - 1) / kk + 1) * kk := by have := Nat.lt_mul_div_succ (bl (V a) - 1) hk0; rw [Nat.mul_comm] at this; omega
        generalize hzz : (bl (V a) - 1) / kk = z at hzl hzk
        refine sw_i (y := (nI (z + 1) - 1)) ((nI_pred _).symm) ?_
        refine lv_istore_n hx hb d_O_run_28 rfl hl (by decide) rfl (fun ls hl => ?_)
        have hl : lv_has ls 4 [(3, .int (nI (z + 1) - 1)), (0, .ref (wa T 88)), (1, .ref (wa T a)), (2, .int (nI kk))] := hl
        have lp : ∀ (q : Nat) (V9 : Nat → Nat) (ls : Array Slot) (H : Heap) (locs : List Loc), (∀ n, n < 34 → V9 n < vLim) → (∀ n, n < 13 → V9 n = V n) → (V9 22 % 2 ^ q = 0) → (V9 22 ^ kk ≤ V a) → (V a < (V9 22 + 2 ^ q) ^ kk) → (V9 22 < 2 ^ (z + 1)) → (q ≤ z + 1) →  lv_has ls 4 [(3, .int (nI q - 1)), (0, .ref (wa T 88)), (1, .ref (wa T a)), (2, .int (nI kk))] → wH T (fF V9) (fU V9) K I O (wA T) s s.heap H locs → W p l e R s m args below meth c H locs 0 0 Q (F0 m 29 ls []) := by
          intro q
          induction q with
          | zero =>
            intro V9 ls H locs h1 h2 h3 h4 h5 h6 h7 hl hw
            refine lv_iload_n hx hb d_O_run_29 rfl (lv_at hl 0 rfl) ?_
            refine d_if_lt (tgt := 78) hx hb d_O_run_30 (by decide) (by omega) (fun h0 => ?_) (fun h0 => ?_)
            · exact hret V9 K _ _ _ _ ⟨rfl, h1, h2, h4, by rw [Nat.pow_zero] at h5; exact h5⟩ hw d_O_run_78
            · exact absurd h0 (by omega)
          | succ q ih =>
            intro V9 ls H locs h1 h2 h3 h4 h5 h6 h7 hl hw
            rw [nI_pred] at hl
            have hl : lv_has ls 4 [(3, .int (nI q)), (0, .ref (wa T 88)), (1, .ref (wa T a)), (2, .int (nI kk))] := hl
            refine lv_iload_n hx hb d_O_run_29 rfl (lv_at hl 0 rfl) ?_
            refine n_if_lt hx hb d_O_run_30 (by decide) (by omega) ?_
            have lw := ml_low h3
            have up9 := ml_up h3 h7 h6
            have hpq : 0 < 2 ^ q := Nat.two_pow_pos _
            have e2 : 2 ^ (q + 1) = 2 ^ q + 2 ^ q := by rw [Nat.pow_succ]; omega
            have tlt : V9 22 + 2 ^ q < 2 ^ (z + 1) := by omega
            have t1 : 2 ^ (z + 1) ≤ m1024 := Nat.pow_le_pow_right (by decide) (by omega)
            refine lv_aload_n hx hb d_O_run_33 rfl (lv_at hl 1 rfl) ?_
            refine wg_Roots_trial hx hb hC hw bw_115 d_O_run_34 ?_
            refine lv_aload_n hx hb d_O_run_37 rfl (lv_at hl 1 rfl) ?_
            refine wg_Roots_found hx hb hC hw bw_113 d_O_run_38 ?_
            refine wcV_v (As := [.ref (wa T 22)]) hx hb hC hw (k_N_take l T V9 K I O 23 22 (by omega) (by omega) h1) lk_O_36 rfl rfl ⟨by show 1 + 1 ≤ R.frames; omega, by show 8 + (4 + 11) + 22 ≤ R.locals; omega⟩ (by omega) (we_Natural (by omega)) rfl rfl hl.1 rfl (Nat.le_of_ble_eq_true rfl) ⟨Nat.zero_le _, Nat.zero_le _⟩ d_O_run_41 (fun H locs hw => ?_)
            generalize hVa : va_up V9 23 (V9 22) = Va at hw
            have la : ∀ n, n < 34 → Va n < vLim := by rw [← hVa]; exact hV_up h1 (h1 22 (by omega))
            have oa : ∀ n, n ≠ 23 → Va n = V9 n := fun n h => by rw [← hVa]; exact va_up_ne _ _ h
            have xa : Va 23 = V9 22 := by rw [← hVa]; exact va_up_self _ _ _
            refine lv_aload_n hx hb d_O_run_44 rfl (lv_at hl 1 rfl) ?_
            refine wg_Roots_trial hx hb hC hw bw_115 d_O_run_45 ?_
            refine lv_iload_n hx hb d_O_run_48 rfl (lv_at hl 0 rfl) ?_
            refine wcV_v (As := [.int (nI q)]) hx hb hC hw (k_N_putBit l T Va K I O 23 q (by omega) (by omega) (by rw [xa]; exact h3) la) lk_O_40 rfl rfl ⟨by show 1 + 1 ≤ R.frames; omega, by show 8 + (3 + 11) + 21 ≤ R.locals; omega⟩ (by omega) (we_Natural (by omega)) rfl rfl hl.1 rfl (Nat.le_of_ble_eq_true rfl) ⟨Nat.zero_le _, Nat.zero_le _⟩ d_O_run_49 (fun H locs hw => ?_)
            rw [xa] at hw
            generalize hVb : va_up Va 23 (V9 22 + 2 ^ q) = Vb at hw
            have lb : ∀ n, n < 34 → Vb n < vLim := by rw [← hVb]; exact hV_up la (by omega)
            have ob : ∀ n, n ≠ 23 → Vb n = V9 n := fun n h => by rw [← hVb, va_up_ne _ _ h]; exact oa n h
            have xb : Vb 23 = V9 22 + 2 ^ q := by rw [← hVb]; exact va_up_self _ _ _
            have ba : Vb a = V a := by rw [ob a (by omega)]; exact h2 a ha
            refine lv_aload_n hx hb d_O_run_52 rfl (lv_at hl 1 rfl) ?_
            refine lv_aload_n hx hb d_O_run_53 rfl (lv_at hl 2 rfl) ?_
            refine lv_iload_n hx hb d_O_run_54 rfl (lv_at hl 3 rfl) ?_
            refine wcV_zp (As := [.ref (wa T a), .int (nI kk)]) hx hb hC hw (k_O_isTrialWithin l T Vb K I O a kk ha hk0 hk1 (by rw [ba]; exact ha1) (by omega) (by omega) lb) lk_O_44 rfl rfl ⟨by show 3 + 1 ≤ R.frames; omega, by show 8 + (5 + 11) + 69 ≤ R.locals; omega⟩ (by omega) (we_Roots) rfl rfl hl.1 rfl (Nat.le_of_ble_eq_true rfl) ⟨Nat.zero_le _, Nat.zero_le _⟩ d_O_run_55 (fun Vc H locs hPc hw => ?_)
            obtain ⟨lc, oc⟩ := hPc
            rw [xb, ba]
            have rc : ∀ n, n < 13 → Vc n = V n := fun n h => by rw [oc n (by omega), ob n (by omega)]; exact h2 n h
            have c22 : Vc 22 = V9 22 := by rw [oc 22 (by omega), ob 22 (by decide)]
            have c23 : Vc 23 = V9 22 + 2 ^ q := by rw [oc 23 (by omega)]; exact xb
            by_cases hw8 : (V9 22 + 2 ^ q) ^ kk ≤ V a
            · refine sw_i (y := nI 1) (by rw [if_pos hw8]; rfl) ?_
              refine n_if_eq (tgt := 72) hx hb d_O_run_58 (by decide) (by omega) (fun hw9 => ?_) (fun hw9 => ?_)
              · exact absurd hw9 (by decide)
              · refine lv_aload_n hx hb d_O_run_61 rfl (lv_at hl 1 rfl) ?_
                refine wg_Roots_found hx hb hC hw bw_113 d_O_run_62 ?_
                refine lv_aload_n hx hb d_O_run_65 rfl (lv_at hl 1 rfl) ?_
                refine wg_Roots_trial hx hb hC hw bw_115 d_O_run_66 ?_
                refine wcV_v (As := [.ref (wa T 23)]) hx hb hC hw (k_N_take l T Vc K I O 22 23 (by omega) (by omega) lc) lk_O_36 rfl rfl ⟨by show 1 + 1 ≤ R.frames; omega, by show 8 + (4 + 11) + 22 ≤ R.locals; omega⟩ (by omega) (we_Natural (by omega)) rfl rfl hl.1 rfl (Nat.le_of_ble_eq_true rfl) ⟨Nat.zero_le _, Nat.zero_le _⟩ d_O_run_69 (fun H locs hw => ?_)
                rw [c23] at hw
                refine lv_iinc (v := (nI q - 1)) hx hb d_O_run_72 hl (k := 0) rfl (i32_m1 _) (by decide) rfl (fun ls hl => ?_)
                have hl : lv_has ls 4 [(3, .int (nI q - 1)), (0, .ref (wa T 88)), (1, .ref (wa T a)), (2, .int (nI kk))] := hl
                refine lv_goto (tgt := 29) hx hb d_O_run_75 (by decide) ?_
                exact ih (va_up Vc 22 (V9 22 + 2 ^ q)) ls H locs (hV_up lc (by omega)) (fun n h => by rw [va_up_ne _ _ (by omega)]; exact rc n h) (by rw [va_up_self]; exact lw.2) (by rw [va_up_self]; exact hw8) (by rw [va_up_self, Nat.add_assoc, ← e2]; exact h5) (by rw [va_up_self]; exact tlt) (by omega) hl hw
            · refine sw_i (y := nI 0) (by rw [if_neg hw8]; rfl) ?_
              refine n_if_eq (tgt := 72) hx hb d_O_run_58 (by decide) (by omega) (fun hw9 => ?_) (fun hw9 => ?_)
              · refine lv_iinc (v := (nI q - 1)) hx hb d_O_run_72 hl (k := 0) rfl (i32_m1 _) (by decide) rfl (fun ls hl => ?_)
                have hl : lv_has ls 4 [(3, .int (nI q - 1)), (0, .ref (wa T 88)), (1, .ref (wa T a)), (2, .int (nI kk))] := hl
                refine lv_goto (tgt := 29) hx hb d_O_run_75 (by decide) ?_
                exact ih Vc ls H locs lc rc (by rw [c22]; exact lw.1) (by rw [c22]; exact h4) (by rw [c22]; exact Nat.lt_of_not_le hw8) (by rw [c22]; exact h6) (by omega) hl hw
              · exact absurd hw9 (by decide)
        exact lp (z + 1) V1 ls _ _ l1 (fun n h => o1 n (by omega)) (by rw [x1]; exact Nat.zero_mod _) (by rw [x1, Nat.zero_pow hk0]; exact Nat.zero_le _) (by rw [x1, Nat.zero_add, ← Nat.pow_mul]; exact Nat.lt_of_lt_of_le (bl_lt (hV a (by omega))) (Nat.pow_le_pow_right (by decide) hzk)) (by rw [x1]; exact Nat.two_pow_pos _) (Nat.le_refl _) hl hw
      · exact absurd h9 (by omega)
