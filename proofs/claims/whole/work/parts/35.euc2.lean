/-! Euclid: run -/
theorem k37' {v : Nat} (h : v ≤ m1024) : kD v ≤ 37 := kD_mono (Nat.lt_of_le_of_lt h (by rw [vB_two]; exact Nat.pow_lt_pow_right (by decide) (by decide)))
def eSt (a b i r0 r1 : Nat) : Prop := i ≤ 2049 ∧ (i = 0 ∨ (r1 < r0 ∧ r0 * r1 < 2 ^ (2049 - i)))
theorem eSt_go {a b i r0 r1 : Nat} (h : eSt a b i r0 r1) (h1 : 0 < r1) (hr0 : r0 < m1024) (hr1 : r1 < m1024) : i ≤ 2048 ∧ eSt a b (i + 1) r1 (r0 % r1) := by
  have h9 := Nat.mod_lt r0 h1
  rcases h with ⟨h2, h3 | ⟨h3, h4⟩⟩
  · subst h3
    refine ⟨by decide, by decide, Or.inr ⟨h9, ?_⟩⟩
    have e : (2 : Nat) ^ (2049 - (0 + 1)) = m1024 * m1024 := by unfold m1024; rw [← Nat.pow_add]
    rw [e]; exact Nat.mul_lt_mul'' hr1 (Nat.lt_trans h9 hr1)
  · have h5 : i ≤ 2048 := by
      apply Nat.le_of_not_lt; intro q
      rw [show 2049 - i = 0 by omega] at h4
      have : 0 < r0 * r1 := Nat.mul_pos (by omega) h1
      omega
    refine ⟨h5, by omega, Or.inr ⟨h9, ?_⟩⟩
    have h6 := half_mod h1 (Nat.le_of_lt h3)
    have h7 : 2 * (r1 * (r0 % r1)) ≤ r0 * r1 := by
      have : r1 * (2 * (r0 % r1)) ≤ r1 * r0 := Nat.mul_le_mul_left _ (by omega)
      rw [Nat.mul_comm r0 r1]
      have e : 2 * (r1 * (r0 % r1)) = r1 * (2 * (r0 % r1)) := by grind
      rw [e]; exact this
    have e2 : (2 : Nat) ^ (2049 - i) = 2 * 2 ^ (2049 - (i + 1)) := by rw [← Nat.pow_succ', show (2049 - (i + 1)).succ = 2049 - i by omega]
    rw [e2] at h4
    generalize 2 ^ (2049 - (i + 1)) = P2 at *
    omega
def ePr (V : Nat → Nat) (K : wUt) (a b : Nat) (V' : Nat → Nat) (K' : wUt) : Prop := (∀ n, n < 34 → V' n < vLim) ∧ (∀ n, n < 13 → V' n = V n) ∧ ∃ (sg : Bool) (f1 : Nat), K' = va_up K 13 (bI sg) ∧ eInv (V a) (V b) (V' 29) 0 (V' 30) f1 sg

set_option maxRecDepth 100000 in
set_option maxHeartbeats 4000000 in
theorem k_E_run (l : Launch) (T : wT) (V : Nat → Nat) (K : wUt) (I : wIt) (O : wOt) (a b : Nat) (ha : a < 13) (hb9 : b < 13 ∨ b = 26) (ha1 : V a < m1024) (hb1 : V b < m1024) (hV : ∀ n, n < 34 → V n < vLim) : Met l y_E_run (.code y_E_run c_E_run 4 none :: bg) ({ frames := 4, cells := 0, slots := 0, locals := 105 } : Room) (mP T (fF V) (fU V) K I O [.ref (wa T 90), .ref (wa T a), .ref (wa T b)]) (mQvp T (ePr V K a b) I O) 0 0 (wA T) := by
  refine wM_vp (by decide) (Nat.le_of_ble_eq_true rfl) ?_
  intro p e R s m args below meth c Q ls hx hb hC hRf hRl hret hl hw
  have hRf : 4 ≤ R.frames := hRf
  have hRl : 105 ≤ R.locals := hRl
  have hl : lv_has ls 4 [(0, .ref (wa T 90)), (1, .ref (wa T a)), (2, .ref (wa T b))] := hl
  refine lv_aload_n hx hb d_E_run_0 rfl (lv_at hl 0 rfl) ?_
  refine wg_Euclid_divisor hx hb hC hw bw_161 d_E_run_1 ?_
  refine lv_aload_n hx hb d_E_run_4 rfl (lv_at hl 1 rfl) ?_
  refine wcV_v (As := [.ref (wa T a)]) hx hb hC hw (k_N_take l T V K I O 29 a (by omega) (by omega) hV) lk_E_39 rfl rfl ⟨by show 1 + 1 ≤ R.frames; omega, by show 8 + (4 + 11) + 22 ≤ R.locals; omega⟩ (by omega) (we_Natural (by omega)) rfl rfl hl.1 rfl (Nat.le_of_ble_eq_true rfl) ⟨Nat.zero_le _, Nat.zero_le _⟩ d_E_run_5 (fun H locs hw => ?_)
  generalize hV1 : va_up V 29 (V a) = V1 at hw
  have l1 : ∀ n, n < 34 → V1 n < vLim := by rw [← hV1]; exact hV_up hV (hV a (by omega))
  have o1 : ∀ n, n ≠ 29 → V1 n = V n := fun n h => by rw [← hV1]; exact va_up_ne _ _ h
  have x1 : V1 29 = V a := by rw [← hV1]; exact va_up_self _ _ _
  refine lv_aload_n hx hb d_E_run_8 rfl (lv_at hl 0 rfl) ?_
  refine wg_Euclid_next hx hb hC hw bw_166 d_E_run_9 ?_
  refine lv_aload_n hx hb d_E_run_12 rfl (lv_at hl 2 rfl) ?_
  refine wcV_v (As := [.ref (wa T b)]) hx hb hC hw (k_N_take l T V1 K I O 31 b (by omega) (by omega) l1) lk_E_39 rfl rfl ⟨by show 1 + 1 ≤ R.frames; omega, by show 8 + (4 + 11) + 22 ≤ R.locals; omega⟩ (by omega) (we_Natural (by omega)) rfl rfl hl.1 rfl (Nat.le_of_ble_eq_true rfl) ⟨Nat.zero_le _, Nat.zero_le _⟩ d_E_run_13 (fun H locs hw => ?_)
  rw [o1 b (by omega)] at hw
  generalize hV2 : va_up V1 31 (V b) = V2 at hw
  have l2 : ∀ n, n < 34 → V2 n < vLim := by rw [← hV2]; exact hV_up l1 (hV b (by omega))
  have o2 : ∀ n, n ≠ 29 → n ≠ 31 → V2 n = V n := fun n h h2 => by rw [← hV2, va_up_ne _ _ h2]; exact o1 n h
  have x2 : V2 29 = V a ∧ V2 31 = V b := by rw [← hV2]; exact ⟨by rw [va_up_ne _ _ (by decide)]; exact x1, va_up_self _ _ _⟩
  refine lv_aload_n hx hb d_E_run_16 rfl (lv_at hl 0 rfl) ?_
  refine wg_Euclid_factor hx hb hC hw bw_163 d_E_run_17 ?_
  refine wcV_v (As := []) hx hb hC hw (k_N_clear l T V2 K I O 30 (by omega) l2) lk_E_43 rfl rfl ⟨by show 1 + 1 ≤ R.frames; omega, by show 8 + (1 + 11) + 22 ≤ R.locals; omega⟩ (by omega) (we_Natural (by omega)) rfl rfl hl.1 rfl (Nat.le_of_ble_eq_true rfl) ⟨Nat.zero_le _, Nat.zero_le _⟩ d_E_run_20 (fun H locs hw => ?_)
  generalize hV3 : va_up V2 30 0 = V3 at hw
  have l3 : ∀ n, n < 34 → V3 n < vLim := by rw [← hV3]; exact hV_up l2 (by decide +kernel)
  have o3 : ∀ n, n < 13 → V3 n = V n := fun n h => by rw [← hV3, va_up_ne _ _ (by omega)]; exact o2 n (by omega) (by omega)
  have x3 : V3 29 = V a ∧ V3 31 = V b ∧ V3 30 = 0 := by rw [← hV3]; exact ⟨by rw [va_up_ne _ _ (by decide)]; exact x2.1, by rw [va_up_ne _ _ (by decide)]; exact x2.2, va_up_self _ _ _⟩
  refine lv_aload_n hx hb d_E_run_23 rfl (lv_at hl 0 rfl) ?_
  refine wg_Euclid_nextFactor hx hb hC hw bw_167 d_E_run_24 ?_
  refine lv_lconst (v := 1) hx hb d_E_run_27 (by decide +kernel) ?_
  refine sw_l (y := lN 1) (rfl) ?_
  refine wcV_v (As := [.long (lN 1)]) hx hb hC hw (k_N_takeUnsigned l T V3 K I O 32 1 (by omega) (by decide) l3) lk_E_46 rfl rfl ⟨by show 1 + 1 ≤ R.frames; omega, by show 8 + (3 + 11) + 22 ≤ R.locals; omega⟩ (by omega) (we_Natural (by omega)) rfl rfl hl.1 rfl (Nat.le_of_ble_eq_true rfl) ⟨Nat.zero_le _, Nat.zero_le _⟩ d_E_run_28 (fun H locs hw => ?_)
  generalize hV4 : va_up V3 32 1 = V4 at hw
  have l4 : ∀ n, n < 34 → V4 n < vLim := by rw [← hV4]; exact hV_up l3 (by decide +kernel)
  have o4 : ∀ n, n < 13 → V4 n = V n := fun n h => by rw [← hV4, va_up_ne _ _ (by omega)]; exact o3 n h
  have x4 : V4 29 = V a ∧ V4 31 = V b ∧ V4 30 = 0 ∧ V4 32 = 1 := by rw [← hV4]; exact ⟨by rw [va_up_ne _ _ (by decide)]; exact x3.1, by rw [va_up_ne _ _ (by decide)]; exact x3.2.1, by rw [va_up_ne _ _ (by decide)]; exact x3.2.2, va_up_self _ _ _⟩
  refine lv_aload_n hx hb d_E_run_31 rfl (lv_at hl 0 rfl) ?_
  refine lv_iconst (v := nI 1) hx hb d_E_run_32 (by decide +kernel) ?_
  refine wp_Euclid_factorBelow hx hb hC hw (zb1) (zf1) bw_165 d_E_run_33 (fun H locs hw => ?_)
  refine lv_iconst (v := nI 0) hx hb d_E_run_36 (by decide +kernel) ?_
  refine lv_istore_n hx hb d_E_run_37 rfl hl (by decide) rfl (fun ls hl => ?_)
  have hl : lv_has ls 4 [(3, .int (nI 0)), (0, .ref (wa T 90)), (1, .ref (wa T a)), (2, .ref (wa T b))] := hl
  rw [← bI_t] at hw
  have lp : ∀ (z9 i : Nat) (V9 : Nat → Nat) (sg : Bool) (ls : Array Slot) (H : Heap) (locs : List Loc), 10000 - i = z9 → i ≤ 10000 → (∀ n, n < 34 → V9 n < vLim) → (∀ n, n < 13 → V9 n = V n) → (V9 29 < m1024 ∧ V9 31 < m1024 ∧ True ∧ eInv (V a) (V b) (V9 29) (V9 31) (V9 30) (V9 32) sg) → (eSt (V a) (V b) i (V9 29) (V9 31)) →  lv_has ls 4 [(3, .int (nI i)), (0, .ref (wa T 90)), (1, .ref (wa T a)), (2, .ref (wa T b))] → wH T (fF V9) (fU V9) (va_up K 13 (bI sg)) I O (wA T) s s.heap H locs → W p l e R s m args below meth c H locs 0 0 Q (F0 m 38 ls []) := by
    intro z9
    induction z9 with
    | zero =>
      intro i V9 sg ls H locs hn hle h1 h2 h3 h4 hl hw
      refine lv_iload_n hx hb d_E_run_38 rfl (lv_at hl 0 rfl) ?_
      refine lv_sipush (v := nI 10000) hx hb d_E_run_39 (by decide +kernel) ?_
      refine n_icmp_ge (tgt := 172) hx hb d_E_run_42 (by decide) (by omega) (by omega) (fun h0 => ?_) (fun h0 => ?_)
      · have e9 : 10000 = i := by omega
        exact absurd e9 (by have := h4.1; omega)
      · exact absurd h0 (by omega)
    | succ z9 ih =>
      intro i V9 sg ls H locs hn hle h1 h2 h3 h4 hl hw
      refine lv_iload_n hx hb d_E_run_38 rfl (lv_at hl 0 rfl) ?_
      refine lv_sipush (v := nI 10000) hx hb d_E_run_39 (by decide +kernel) ?_
      refine n_icmp_ge (tgt := 172) hx hb d_E_run_42 (by decide) (by omega) (by omega) (fun h0 => ?_) (fun h0 => ?_)
      · exact absurd h0 (by omega)
      · obtain ⟨g1, g2, g3, g4⟩ := h3
        refine lv_aload_n hx hb d_E_run_45 rfl (lv_at hl 1 rfl) ?_
        refine wg_Euclid_next hx hb hC hw bw_166 d_E_run_46 ?_
        refine wcV_z (As := []) hx hb hC hw (k_N_isZero l T V9 (va_up K 13 (bI sg)) I O 31 (by omega) h1) lk_E_50 rfl rfl ⟨by show 0 + 1 ≤ R.frames; omega, by show 8 + (1 + 11) + 0 ≤ R.locals; omega⟩ (by omega) (we_Natural (by omega)) rfl rfl hl.1 rfl (Nat.le_of_ble_eq_true rfl) ⟨Nat.zero_le _, Nat.zero_le _⟩ d_E_run_49 (fun H locs hw => ?_)
        by_cases hz : V9 31 = 0
        · refine sw_i (y := nI 1) (by rw [if_pos hz]; rfl) ?_
          refine n_if_ne (tgt := 172) hx hb d_E_run_52 (by decide) (by omega) (fun hw9 => ?_) (fun hw9 => ?_)
          · exact hret V9 _ _ _ _ _ ⟨h1, h2, sg, V9 32, rfl, by rw [hz] at g4; exact g4⟩ hw d_E_run_172
          · exact absurd hw9 (by decide)
        · refine sw_i (y := nI 0) (by rw [if_neg hz]; rfl) ?_
          refine n_if_ne (tgt := 172) hx hb d_E_run_52 (by decide) (by omega) (fun hw9 => ?_) (fun hw9 => ?_)
          · exact absurd hw9 (by decide)
          · have hz1 : 0 < V9 31 := by omega
            have st9 := eSt_go h4 hz1 g1 g2
            have iv9 := eInv_s g4 hz1
            have bd9 := eInv_bd g4 hz1
            have bf1 := eInv_f1 g4
            have hqm : V9 29 / V9 31 < m1024 := Nat.lt_of_le_of_lt (Nat.div_le_self _ _) g1
            have hma := m1024_lim
            have hmod := Nat.mod_lt (V9 29) hz1
            refine lv_aload_n hx hb d_E_run_55 rfl (lv_at hl 1 rfl) ?_
            refine wg_Euclid_division hx hb hC hw bw_169 d_E_run_56 ?_
            refine lv_aload_n hx hb d_E_run_59 rfl (lv_at hl 1 rfl) ?_
            refine wg_Euclid_divisor hx hb hC hw bw_161 d_E_run_60 ?_
            refine lv_aload_n hx hb d_E_run_63 rfl (lv_at hl 1 rfl) ?_
            refine wg_Euclid_next hx hb hC hw bw_166 d_E_run_64 ?_
            refine wcV_v (As := [.ref (wa T 29), .ref (wa T 31)]) hx hb hC hw (k_D_run l T V9 (va_up K 13 (bI sg)) I O 2 29 31 (by omega) (by omega) (by omega) (by omega) (by omega) (sp_fit1 g1 g2 hz1) h1) lk_E_54 rfl rfl ⟨by show 3 + 1 ≤ R.frames; omega, by show 8 + (6 + 11) + 80 ≤ R.locals; omega⟩ (by omega) (we_Division (by omega)) rfl rfl hl.1 rfl (Nat.le_of_ble_eq_true rfl) ⟨Nat.zero_le _, Nat.zero_le _⟩ d_E_run_67 (fun H locs hw => ?_)
            have la := dvV_lim (V := V9) (d := 2) (a := 29) (b := 31) (by omega) (by omega) (by omega) h1
            have oa : ∀ n, n < 19 ∨ 21 < n → dvV V9 2 29 31 n = V9 n := fun n h => dvV_out (by omega)
            have xr : dvV V9 2 29 31 20 = V9 29 % V9 31 := dvV_rest _ 2 _ _
            have xq : dvV V9 2 29 31 19 = V9 29 / V9 31 := dvV_quot _ 2 _ _
            generalize dvV V9 2 29 31 = Va at hw la oa xr xq
            refine lv_aload_n hx hb d_E_run_70 rfl (lv_at hl 1 rfl) ?_
            refine wg_Euclid_divisor hx hb hC hw bw_161 d_E_run_71 ?_
            refine lv_aload_n hx hb d_E_run_74 rfl (lv_at hl 1 rfl) ?_
            refine wg_Euclid_next hx hb hC hw bw_166 d_E_run_75 ?_
            refine wcV_v (As := [.ref (wa T 31)]) hx hb hC hw (k_N_take l T Va (va_up K 13 (bI sg)) I O 29 31 (by omega) (by omega) la) lk_E_39 rfl rfl ⟨by show 1 + 1 ≤ R.frames; omega, by show 8 + (4 + 11) + 22 ≤ R.locals; omega⟩ (by omega) (we_Natural (by omega)) rfl rfl hl.1 rfl (Nat.le_of_ble_eq_true rfl) ⟨Nat.zero_le _, Nat.zero_le _⟩ d_E_run_78 (fun H locs hw => ?_)
            rw [oa 31 (by omega)] at hw
            generalize hVb : va_up Va 29 (V9 31) = Vb at hw
            have lb : ∀ n, n < 34 → Vb n < vLim := by rw [← hVb]; exact hV_up la (h1 31 (by omega))
            have ob : ∀ n, n ≠ 29 → Vb n = Va n := fun n h => by rw [← hVb]; exact va_up_ne _ _ h
            have xb : Vb 29 = V9 31 := by rw [← hVb]; exact va_up_self _ _ _
            refine lv_aload_n hx hb d_E_run_81 rfl (lv_at hl 1 rfl) ?_
            refine wg_Euclid_next hx hb hC hw bw_166 d_E_run_82 ?_
            refine lv_aload_n hx hb d_E_run_85 rfl (lv_at hl 1 rfl) ?_
            refine wg_Euclid_division hx hb hC hw bw_169 d_E_run_86 ?_
            refine wg_Division_rest (i := 2) hx hb hC hw (by omega) bw_95 d_E_run_89 ?_
            refine wcV_v (As := [.ref (wa T (14 + 3 * 2))]) hx hb hC hw (k_N_take l T Vb (va_up K 13 (bI sg)) I O 31 (14 + 3 * 2) (by omega) (by omega) lb) lk_E_39 rfl rfl ⟨by show 1 + 1 ≤ R.frames; omega, by show 8 + (4 + 11) + 22 ≤ R.locals; omega⟩ (by omega) (we_Natural (by omega)) rfl rfl hl.1 rfl (Nat.le_of_ble_eq_true rfl) ⟨Nat.zero_le _, Nat.zero_le _⟩ d_E_run_92 (fun H locs hw => ?_)
            rw [show Vb (14 + 3 * 2) = V9 29 % V9 31 from (ob 20 (by decide)).trans xr] at hw
            generalize hVc : va_up Vb 31 (V9 29 % V9 31) = Vc at hw
            have lc : ∀ n, n < 34 → Vc n < vLim := by rw [← hVc]; exact hV_up lb (Nat.lt_trans hmod (h1 31 (by omega)))
            have oc : ∀ n, n ≠ 31 → Vc n = Vb n := fun n h => by rw [← hVc]; exact va_up_ne _ _ h
            have xc : Vc 31 = V9 29 % V9 31 := by rw [← hVc]; exact va_up_self _ _ _
            have c19 : Vc 19 = V9 29 / V9 31 := by rw [oc 19 (by decide), ob 19 (by decide)]; exact xq
            have c32 : Vc 32 = V9 32 := by rw [oc 32 (by decide), ob 32 (by decide), oa 32 (by omega)]
            have c30 : Vc 30 = V9 30 := by rw [oc 30 (by decide), ob 30 (by decide), oa 30 (by omega)]
            have c29 : Vc 29 = V9 31 := by rw [oc 29 (by decide)]; exact xb
            refine lv_aload_n hx hb d_E_run_95 rfl (lv_at hl 1 rfl) ?_
            refine wg_Euclid_sum hx hb hC hw bw_168 d_E_run_96 ?_
            refine lv_aload_n hx hb d_E_run_99 rfl (lv_at hl 1 rfl) ?_
            refine wg_Euclid_division hx hb hC hw bw_169 d_E_run_100 ?_
            refine wg_Division_quotient (i := 2) hx hb hC hw (by omega) bw_91 d_E_run_103 ?_
            refine lv_aload_n hx hb d_E_run_106 rfl (lv_at hl 1 rfl) ?_
            refine wg_Euclid_nextFactor hx hb hC hw bw_167 d_E_run_107 ?_
            refine wcV_v (As := [.ref (wa T (13 + 3 * 2)), .ref (wa T 32)]) hx hb hC hw (k_N_takeProduct l T Vc (va_up K 13 (bI sg)) I O 33 (13 + 3 * 2) 32 (by omega) (by omega) (by omega) (by omega) (by omega) (by have h8 := k37 (v := Vc (13 + 3 * 2)) (by show Vc 19 < _; rw [c19]; exact hqm); have h9 := k37' (v := Vc 32) (by rw [c32]; omega); omega) lc) lk_E_64 rfl rfl ⟨by show 2 + 1 ≤ R.frames; omega, by show 8 + (4 + 11) + 46 ≤ R.locals; omega⟩ (by omega) (we_Natural (by omega)) rfl rfl hl.1 rfl (Nat.le_of_ble_eq_true rfl) ⟨Nat.zero_le _, Nat.zero_le _⟩ d_E_run_110 (fun H locs hw => ?_)
            rw [show Vc (13 + 3 * 2) = V9 29 / V9 31 from c19, c32] at hw
            generalize hVd : va_up Vc 33 (V9 29 / V9 31 * V9 32) = Vd at hw
            have ld : ∀ n, n < 34 → Vd n < vLim := by rw [← hVd]; exact hV_up lc (by omega)
            have od : ∀ n, n ≠ 33 → Vd n = Vc n := fun n h => by rw [← hVd]; exact va_up_ne _ _ h
            have xd : Vd 33 = V9 29 / V9 31 * V9 32 := by rw [← hVd]; exact va_up_self _ _ _
            have d30 : Vd 30 = V9 30 := by rw [od 30 (by decide)]; exact c30
            refine lv_aload_n hx hb d_E_run_113 rfl (lv_at hl 1 rfl) ?_
            refine wg_Euclid_sum hx hb hC hw bw_168 d_E_run_114 ?_
            refine lv_aload_n hx hb d_E_run_117 rfl (lv_at hl 1 rfl) ?_
            refine wg_Euclid_sum hx hb hC hw bw_168 d_E_run_118 ?_
            refine lv_aload_n hx hb d_E_run_121 rfl (lv_at hl 1 rfl) ?_
            refine wg_Euclid_factor hx hb hC hw bw_163 d_E_run_122 ?_
            refine wcV_v (As := [.ref (wa T 33), .ref (wa T 30)]) hx hb hC hw (k_N_takeSum l T Vd (va_up K 13 (bI sg)) I O 33 33 30 (by omega) (by omega) (by omega) (by have := k37' (v := Vd 33) (by rw [xd]; omega); omega) (by have := k37' (v := Vd 30) (by rw [d30]; omega); omega) ld) lk_E_67 rfl rfl ⟨by show 1 + 1 ≤ R.frames; omega, by show 8 + (7 + 11) + 22 ≤ R.locals; omega⟩ (by omega) (we_Natural (by omega)) rfl rfl hl.1 rfl (Nat.le_of_ble_eq_true rfl) ⟨Nat.zero_le _, Nat.zero_le _⟩ d_E_run_125 (fun H locs hw => ?_)
            rw [xd, d30] at hw
            generalize hVe : va_up Vd 33 (V9 29 / V9 31 * V9 32 + V9 30) = Ve at hw
            have le : ∀ n, n < 34 → Ve n < vLim := by rw [← hVe]; exact hV_up ld (by omega)
            have oe : ∀ n, n ≠ 33 → Ve n = Vc n := fun n h => by rw [← hVe, va_up_ne _ _ h]; exact od n h
            have xe : Ve 33 = V9 29 / V9 31 * V9 32 + V9 30 := by rw [← hVe]; exact va_up_self _ _ _
            refine lv_aload_n hx hb d_E_run_128 rfl (lv_at hl 1 rfl) ?_
            refine wg_Euclid_factor hx hb hC hw bw_163 d_E_run_129 ?_
            refine lv_aload_n hx hb d_E_run_132 rfl (lv_at hl 1 rfl) ?_
            refine wg_Euclid_nextFactor hx hb hC hw bw_167 d_E_run_133 ?_
            refine wcV_v (As := [.ref (wa T 32)]) hx hb hC hw (k_N_take l T Ve (va_up K 13 (bI sg)) I O 30 32 (by omega) (by omega) le) lk_E_39 rfl rfl ⟨by show 1 + 1 ≤ R.frames; omega, by show 8 + (4 + 11) + 22 ≤ R.locals; omega⟩ (by omega) (we_Natural (by omega)) rfl rfl hl.1 rfl (Nat.le_of_ble_eq_true rfl) ⟨Nat.zero_le _, Nat.zero_le _⟩ d_E_run_136 (fun H locs hw => ?_)
            rw [oe 32 (by decide), c32] at hw
            generalize hVf : va_up Ve 30 (V9 32) = Vf at hw
            have lf : ∀ n, n < 34 → Vf n < vLim := by rw [← hVf]; exact hV_up le (h1 32 (by omega))
            have of9 : ∀ n, n ≠ 30 → Vf n = Ve n := fun n h => by rw [← hVf]; exact va_up_ne _ _ h
            have xf : Vf 30 = V9 32 := by rw [← hVf]; exact va_up_self _ _ _
            refine lv_aload_n hx hb d_E_run_139 rfl (lv_at hl 1 rfl) ?_
            refine wg_Euclid_nextFactor hx hb hC hw bw_167 d_E_run_140 ?_
            refine lv_aload_n hx hb d_E_run_143 rfl (lv_at hl 1 rfl) ?_
            refine wg_Euclid_sum hx hb hC hw bw_168 d_E_run_144 ?_
            refine wcV_v (As := [.ref (wa T 33)]) hx hb hC hw (k_N_take l T Vf (va_up K 13 (bI sg)) I O 32 33 (by omega) (by omega) lf) lk_E_39 rfl rfl ⟨by show 1 + 1 ≤ R.frames; omega, by show 8 + (4 + 11) + 22 ≤ R.locals; omega⟩ (by omega) (we_Natural (by omega)) rfl rfl hl.1 rfl (Nat.le_of_ble_eq_true rfl) ⟨Nat.zero_le _, Nat.zero_le _⟩ d_E_run_147 (fun H locs hw => ?_)
            rw [of9 33 (by decide), xe] at hw
            generalize hVg : va_up Vf 32 (V9 29 / V9 31 * V9 32 + V9 30) = Vg at hw
            have lg : ∀ n, n < 34 → Vg n < vLim := by rw [← hVg]; exact hV_up lf (by omega)
            have og : ∀ n, n ≠ 32 → Vg n = Vf n := fun n h => by rw [← hVg]; exact va_up_ne _ _ h
            have xg : Vg 32 = V9 29 / V9 31 * V9 32 + V9 30 := by rw [← hVg]; exact va_up_self _ _ _
            have y29 : Vg 29 = V9 31 := by rw [og 29 (by decide), of9 29 (by decide), oe 29 (by decide)]; exact c29
            have y31 : Vg 31 = V9 29 % V9 31 := by rw [og 31 (by decide), of9 31 (by decide), oe 31 (by decide)]; exact xc
            have y30 : Vg 30 = V9 32 := by rw [og 30 (by decide)]; exact xf
            have yr : ∀ n, n < 13 → Vg n = V n := fun n h => by rw [og n (by omega), of9 n (by omega), oe n (by omega), oc n (by omega), ob n (by omega), oa n (by omega)]; exact h2 n h
            cases sg
            · refine lv_aload_n hx hb d_E_run_150 rfl (lv_at hl 1 rfl) ?_
              refine lv_aload_n hx hb d_E_run_151 rfl (lv_at hl 1 rfl) ?_
              refine wg_Euclid_factorBelow hx hb hC hw bw_165 d_E_run_152 ?_
              refine sw_i (y := nI 0) (by rw [va_up_self]; rfl) ?_
              refine n_if_ne (tgt := 162) hx hb d_E_run_155 (by decide) (by omega) (fun hw9 => ?_) (fun hw9 => ?_)
              · exact absurd hw9 (by decide)
              · refine lv_iconst (v := nI 1) hx hb d_E_run_158 (by decide +kernel) ?_
                refine lv_goto (tgt := 163) hx hb d_E_run_159 (by decide) ?_
                refine wp_Euclid_factorBelow hx hb hC hw (zb1) (zf1) bw_165 d_E_run_163 (fun H locs hw => ?_)
                refine lv_iinc (v := nI (i + 1)) hx hb d_E_run_166 hl (k := 0) rfl (nI_add _ 1) (by decide) rfl (fun ls hl => ?_)
                have hl : lv_has ls 4 [(3, .int (nI (i + 1))), (0, .ref (wa T 90)), (1, .ref (wa T a)), (2, .ref (wa T b))] := hl
                refine lv_goto (tgt := 38) hx hb d_E_run_169 (by decide) ?_
                rw [bx_uu] at hw
                exact ih (i + 1) Vg true ls H locs (by omega) (by omega) lg yr ⟨by rw [y29]; exact g2, by rw [y31]; exact Nat.lt_trans hmod g2, trivial, by rw [y29, y31, y30, xg]; exact iv9⟩ (by rw [y29, y31]; exact st9.2) hl hw
            · refine lv_aload_n hx hb d_E_run_150 rfl (lv_at hl 1 rfl) ?_
              refine lv_aload_n hx hb d_E_run_151 rfl (lv_at hl 1 rfl) ?_
              refine wg_Euclid_factorBelow hx hb hC hw bw_165 d_E_run_152 ?_
              refine sw_i (y := nI 1) (by rw [va_up_self]; rfl) ?_
              refine n_if_ne (tgt := 162) hx hb d_E_run_155 (by decide) (by omega) (fun hw9 => ?_) (fun hw9 => ?_)
              · refine lv_iconst (v := nI 0) hx hb d_E_run_162 (by decide +kernel) ?_
                refine wp_Euclid_factorBelow hx hb hC hw (zb0) (zf0) bw_165 d_E_run_163 (fun H locs hw => ?_)
                refine lv_iinc (v := nI (i + 1)) hx hb d_E_run_166 hl (k := 0) rfl (nI_add _ 1) (by decide) rfl (fun ls hl => ?_)
                have hl : lv_has ls 4 [(3, .int (nI (i + 1))), (0, .ref (wa T 90)), (1, .ref (wa T a)), (2, .ref (wa T b))] := hl
                refine lv_goto (tgt := 38) hx hb d_E_run_169 (by decide) ?_
                rw [bx_uu] at hw
                exact ih (i + 1) Vg false ls H locs (by omega) (by omega) lg yr ⟨by rw [y29]; exact g2, by rw [y31]; exact Nat.lt_trans hmod g2, trivial, by rw [y29, y31, y30, xg]; exact iv9⟩ (by rw [y29, y31]; exact st9.2) hl hw
              · exact absurd hw9 (by decide)
  exact lp 10000 0 V4 true ls _ _ (by omega) (by omega) l4 o4 ⟨by rw [x4.1]; exact ha1, by rw [x4.2.1]; exact hb1, trivial, by rw [x4.1, x4.2.1, x4.2.2.1, x4.2.2.2]; exact eInv_0 _ _⟩ ⟨by decide, Or.inl rfl⟩ hl hw
