/-! LimbRegisters: root, gcd, power, inverse -/
theorem ge1_nI {k : Int32} (h : nI 1 ≤ k) : ∃ kk, 0 < kk ∧ kk < 2147483648 ∧ k = nI kk := pos_nI (Int32.lt_of_lt_of_le (by decide +kernel) h)
theorem gcd_lt {a b m : Nat} (ha : a < m) (hb : b < m) : Nat.gcd a b < m := by
  by_cases h : a = 0
  · subst h; rw [Nat.gcd_zero_left]; exact hb
  · exact Nat.lt_of_le_of_lt (Nat.le_of_dvd (by omega) (Nat.gcd_dvd_left a b)) ha
theorem rdV_26 (V : Nat → Nat) (b : Bool) (k mo : Nat) : rdV V b k mo 26 = rdc b (V k) (V mo) := by unfold rdV; rw [va_up_self]
theorem rdV_13 {V : Nat → Nat} {b : Bool} {k mo n : Nat} (h : n < 13) : rdV V b k mo n = V n := by unfold rdV; rw [va_up_ne _ _ (by omega), dvV_out (Or.inl (by omega))]
theorem rdV_lim {V : Nat → Nat} {b : Bool} {k mo : Nat} (hk : k < 13) (hm : mo < 13) (h0 : 0 < V mo) (hV : ∀ n, n < 34 → V n < vLim) : ∀ n, n < 34 → rdV V b k mo n < vLim := by
  unfold rdV; exact hV_up (dvV_lim (by omega) (by omega) (by omega) hV) (Nat.lt_trans (rdc_lt h0) (hV mo (by omega)))

set_option maxRecDepth 100000 in
set_option maxHeartbeats 4000000 in
theorem x_L_root (l : Launch) (hst9 : l.stackTraces = false) (T : wT) (V : Nat → Nat) (K : wUt) (I : wIt) (O : wOt) (z : Nat → Int) (hc : cI z V K) (r a k : Int32) : vx_Met l y_L_root (.code y_L_root c_L_root 4 none :: bg) ({ frames := 7, cells := 1, slots := 6, locals := 116 } : Room) (mPx T (fF V) (fU V) K I O [.ref (wa T 84), .int r, .int a, .int k]) (mQvp T (fun V' K' => ocG (isR r ∧ isR a) (rtC k (z (rg a))) = 0 ∧ cQ (va_up z (rg r) ((rtN (z (rg a)).natAbs (rg k) : Nat) : Int)) K (K 14) V' K') I O) (xXm T (eP (ocG (isR r ∧ isR a) (rtC k (z (rg a)))) [(eIX, 1), (eIA, 2), (eAR, 3)]) (cQ z K (K 14)) I O) 1 6 (wA T) := by
  refine yM rfl hst9 (Nat.le_of_ble_eq_true rfl) rfl rfl ?_
  intro p e R s m args below meth c Q ls hx hb hC hRf hRl hRc hz9 hrt hout hthr hl hw
  have hRf : 7 ≤ R.frames := hRf
  have hRl : 116 ≤ R.locals := hRl
  have hl : lv_has ls 4 [(0, .ref (wa T 84)), (1, .int r), (2, .int a), (3, .int k)] := hl
  refine lv_iload_n hx hb d_L_root_0 rfl (lv_at hl 1 rfl) ?_
  by_cases h_r : isR r
  rotate_left
  · refine xcS (As := [.int r]) hx hb hC hz9 hw (x_L_needRegister l hst9 T V K I O r h_r) lk_L_55 rfl rfl ⟨by show 6 + 1 ≤ R.frames; omega, by show 8 + (1 + 11) + 90 ≤ R.locals; omega⟩ rfl hl.1 rfl (Nat.le_of_ble_eq_true rfl) hRc d_L_root_1 (fun V9 K9 H9 locs9 ce9 q9 hP9 hw9 h91 h92 h93 => ?_)
    exact hout _ V9 K9 _ _ _ _ _ _ _ (eP_1 (ocG_1 fun h => h_r h.1)) (cQ_x hc hP9) hw9 h91 h92 h93
  obtain ⟨x, hx9, rfl⟩ := isR_of h_r
  have hl : lv_has ls 4 [(0, .ref (wa T 84)), (1, .int (nI x)), (2, .int a), (3, .int k)] := hl
  refine wcS_v (As := [.int (nI x)]) hx hb hC hw (k_L_needRegister l T V K I O x hx9) lk_L_55 rfl rfl ⟨by show 6 + 1 ≤ R.frames; omega, by show 8 + (1 + 11) + 90 ≤ R.locals; omega⟩ rfl hl.1 rfl (Nat.le_of_ble_eq_true rfl) ⟨Nat.zero_le _, Nat.zero_le _⟩ d_L_root_1 (fun H locs hw => ?_)
  refine lv_iload_n hx hb d_L_root_4 rfl (lv_at hl 2 rfl) ?_
  by_cases h_a : isR a
  rotate_left
  · refine xcS (As := [.int a]) hx hb hC hz9 hw (x_L_needRegister l hst9 T V K I O a h_a) lk_L_55 rfl rfl ⟨by show 6 + 1 ≤ R.frames; omega, by show 8 + (1 + 11) + 90 ≤ R.locals; omega⟩ rfl hl.1 rfl (Nat.le_of_ble_eq_true rfl) hRc d_L_root_5 (fun V9 K9 H9 locs9 ce9 q9 hP9 hw9 h91 h92 h93 => ?_)
    exact hout _ V9 K9 _ _ _ _ _ _ _ (eP_1 (ocG_1 fun h => h_a h.2)) (cQ_x hc hP9) hw9 h91 h92 h93
  obtain ⟨i, hi9, rfl⟩ := isR_of h_a
  have hl : lv_has ls 4 [(0, .ref (wa T 84)), (1, .int (nI x)), (2, .int (nI i)), (3, .int k)] := hl
  refine wcS_v (As := [.int (nI i)]) hx hb hC hw (k_L_needRegister l T V K I O i hi9) lk_L_55 rfl rfl ⟨by show 6 + 1 ≤ R.frames; omega, by show 8 + (1 + 11) + 90 ≤ R.locals; omega⟩ rfl hl.1 rfl (Nat.le_of_ble_eq_true rfl) ⟨Nat.zero_le _, Nat.zero_le _⟩ d_L_root_5 (fun H locs hw => ?_)
  have gg : isR (nI x) ∧ isR (nI i) := ⟨isR_nI hx9, isR_nI hi9⟩
  refine lv_iload_n hx hb d_L_root_8 rfl (lv_at hl 3 rfl) ?_
  refine lv_iconst (v := nI 1) hx hb d_L_root_9 (by decide +kernel) ?_
  refine lv_icmp_ge (tgt := 23) hx hb d_L_root_10 (by decide) (fun hk => ?_) (fun hk => ?_)
  · have hKi := (hc.1 i hi9).2.2
    refine lv_aload_n hx hb d_L_root_23 rfl (lv_at hl 0 rfl) ?_
    refine wg_Self_registers hx hb hC hw bw_185 d_L_root_24 ?_
    refine lv_iload_n hx hb d_L_root_27 rfl (lv_at hl 2 rfl) ?_
    refine wl_regs hx hb hw (by omega) d_L_root_28 ?_
    refine wg_Whole_below hx hb hC hw (by omega) bw_59 d_L_root_29 ?_
    by_cases hz : z i < 0
    · refine sw_i (y := nI 1) (by rw [hKi, ng_t hz]; rfl) ?_
      refine n_if_eq (tgt := 45) hx hb d_L_root_32 (by decide) (by omega) (fun hw9 => ?_) (fun hw9 => ?_)
      · exact absurd hw9 (by decide)
      · exact hthr _ _ _ _ _ _ _ _ _ _ _ _ _ xt_142 (eP_k (k := 3) (by rw [ocG_k gg, rg_nI hi9]; unfold rtC; rw [if_pos hk, if_pos hz]) (List.mem_cons_of_mem _ (List.mem_cons_of_mem _ List.mem_cons_self))) (hc.q) hw hl.1 d_L_root_35 d_L_root_38 d_L_root_39 d_L_root_41 d_L_root_44 (by show 2 + 3 < R.frames; omega) (by show 0 + (13 * (2 + 1) + 43) ≤ R.locals; omega)
    · refine sw_i (y := nI 0) (by rw [hKi, ng_f hz]; rfl) ?_
      refine n_if_eq (tgt := 45) hx hb d_L_root_32 (by decide) (by omega) (fun hw9 => ?_) (fun hw9 => ?_)
      · have hoc : ocG (isR (nI x) ∧ isR (nI i)) (rtC k (z (rg (nI i)))) = 0 := by rw [ocG_k gg, rg_nI hi9]; unfold rtC; rw [if_pos hk, if_neg hz]
        obtain ⟨kk, hk0, hk1, rfl⟩ := ge1_nI hk
        have hl : lv_has ls 4 [(0, .ref (wa T 84)), (1, .int (nI x)), (2, .int (nI i)), (3, .int (nI kk))] := hl
        refine lv_aload_n hx hb d_L_root_45 rfl (lv_at hl 0 rfl) ?_
        refine wg_Self_roots hx hb hC hw bw_189 d_L_root_46 ?_
        refine lv_aload_n hx hb d_L_root_49 rfl (lv_at hl 0 rfl) ?_
        refine wg_Self_registers hx hb hC hw bw_185 d_L_root_50 ?_
        refine lv_iload_n hx hb d_L_root_53 rfl (lv_at hl 2 rfl) ?_
        refine wl_regs hx hb hw (by omega) d_L_root_54 ?_
        refine wg_Whole_size hx hb hC hw (by omega) bw_55 d_L_root_55 ?_
        refine lv_iload_n hx hb d_L_root_58 rfl (lv_at hl 3 rfl) ?_
        refine wcV_vp (As := [.ref (wa T i), .int (nI kk)]) hx hb hC hw (k_O_run l T V K I O i kk (by omega) hk0 hk1 (hc.lt hi9) hc.2) lk_L_144 rfl rfl ⟨by show 4 + 1 ≤ R.frames; omega, by show 8 + (4 + 11) + 93 ≤ R.locals; omega⟩ (by omega) (we_Roots ) rfl rfl hl.1 rfl (Nat.le_of_ble_eq_true rfl) ⟨Nat.zero_le _, Nat.zero_le _⟩ d_L_root_59 (fun V1 K1 H locs hp9 hw => ?_)
        obtain ⟨hK9, l1, o1, e1, e2⟩ := hp9
        rw [hK9] at hw
        have hc1 : cI z V1 K := hc.same (fun n hn => o1 n (by omega)) l1 (fun _ _ => rfl)
        rw [(hc.1 i hi9).2.1] at e1 e2
        have ev : V1 22 = rtN (z i).natAbs kk := (rtN_eq hk0 e1 e2).symm
        refine lv_aload_n hx hb d_L_root_62 rfl (lv_at hl 0 rfl) ?_
        refine wg_Self_registers hx hb hC hw bw_185 d_L_root_63 ?_
        refine lv_iload_n hx hb d_L_root_66 rfl (lv_at hl 1 rfl) ?_
        refine wl_regs hx hb hw (by omega) d_L_root_67 ?_
        refine lv_aload_n hx hb d_L_root_68 rfl (lv_at hl 0 rfl) ?_
        refine wg_Self_roots hx hb hC hw bw_189 d_L_root_69 ?_
        refine wg_Roots_found hx hb hC hw bw_114 d_L_root_72 ?_
        refine lv_iconst (v := nI 0) hx hb d_L_root_75 (by decide +kernel) ?_
        refine sw_i (y := (bI false)) (rfl) ?_
        refine wcV_v (As := [.ref (wa T 22), .int (bI false)]) hx hb hC hw (k_W_take l T V1 K I O x 22 false (by omega) (by omega) l1) lk_L_71 rfl rfl ⟨by show 2 + 1 ≤ R.frames; omega, by show 8 + (3 + 11) + 45 ≤ R.locals; omega⟩ (by omega) (we_Whole (by omega)) rfl rfl hl.1 rfl (Nat.le_of_ble_eq_true rfl) ⟨Nat.zero_le _, Nat.zero_le _⟩ d_L_root_76 (fun H locs hw => ?_)
        exact yv hrt (Nat.zero_le _) (Nat.zero_le _) hx hb (⟨hoc, by rw [rg_nI hx9, rg_nI hi9, rg_k hk1]; exact cQ_take (b := false) hc1 hx9 ev (Nat.lt_of_le_of_lt (rtN_le _ _) (hc.1 i hi9).1) (sgI_f _) rfl rfl rfl⟩) hw d_L_root_79
      · exact absurd hw9 (by decide)
  · exact hthr _ _ _ _ _ _ _ _ _ _ _ _ _ xt_140 (eP_k (k := 2) (by rw [ocG_k gg]; exact if_neg hk) (List.mem_cons_of_mem _ List.mem_cons_self)) (hc.q) hw hl.1 d_L_root_13 d_L_root_16 d_L_root_17 d_L_root_19 d_L_root_22 (by show 2 + 3 < R.frames; omega) (by show 0 + (13 * (2 + 1) + 43) ≤ R.locals; omega)
set_option maxRecDepth 100000 in
set_option maxHeartbeats 4000000 in
theorem x_L_gcd (l : Launch) (hst9 : l.stackTraces = false) (T : wT) (V : Nat → Nat) (K : wUt) (I : wIt) (O : wOt) (z : Nat → Int) (hc : cI z V K) (r a b : Int32) : vx_Met l y_L_gcd (.code y_L_gcd c_L_gcd 4 none :: bg) ({ frames := 7, cells := 1, slots := 6, locals := 128 } : Room) (mPx T (fF V) (fU V) K I O [.ref (wa T 84), .int r, .int a, .int b]) (mQvp T (fun V' K' => ocG (isR r ∧ isR a ∧ isR b) 0 = 0 ∧ cQ (va_up z (rg r) ((Nat.gcd (z (rg a)).natAbs (z (rg b)).natAbs : Nat) : Int)) K (K 14) V' K') I O) (xXm T (eP (ocG (isR r ∧ isR a ∧ isR b) 0) [(eIX, 1)]) (cQ z K (K 14)) I O) 1 6 (wA T) := by
  refine yM rfl hst9 (Nat.le_of_ble_eq_true rfl) rfl rfl ?_
  intro p e R s m args below meth c Q ls hx hb hC hRf hRl hRc hz9 hrt hout hthr hl hw
  have hRf : 7 ≤ R.frames := hRf
  have hRl : 128 ≤ R.locals := hRl
  have hl : lv_has ls 4 [(0, .ref (wa T 84)), (1, .int r), (2, .int a), (3, .int b)] := hl
  refine lv_iload_n hx hb d_L_gcd_0 rfl (lv_at hl 1 rfl) ?_
  by_cases h_r : isR r
  rotate_left
  · refine xcS (As := [.int r]) hx hb hC hz9 hw (x_L_needRegister l hst9 T V K I O r h_r) lk_L_55 rfl rfl ⟨by show 6 + 1 ≤ R.frames; omega, by show 8 + (1 + 11) + 90 ≤ R.locals; omega⟩ rfl hl.1 rfl (Nat.le_of_ble_eq_true rfl) hRc d_L_gcd_1 (fun V9 K9 H9 locs9 ce9 q9 hP9 hw9 h91 h92 h93 => ?_)
    exact hout _ V9 K9 _ _ _ _ _ _ _ (eP_1 (ocG_1 fun h => h_r h.1)) (cQ_x hc hP9) hw9 h91 h92 h93
  obtain ⟨x, hx9, rfl⟩ := isR_of h_r
  have hl : lv_has ls 4 [(0, .ref (wa T 84)), (1, .int (nI x)), (2, .int a), (3, .int b)] := hl
  refine wcS_v (As := [.int (nI x)]) hx hb hC hw (k_L_needRegister l T V K I O x hx9) lk_L_55 rfl rfl ⟨by show 6 + 1 ≤ R.frames; omega, by show 8 + (1 + 11) + 90 ≤ R.locals; omega⟩ rfl hl.1 rfl (Nat.le_of_ble_eq_true rfl) ⟨Nat.zero_le _, Nat.zero_le _⟩ d_L_gcd_1 (fun H locs hw => ?_)
  refine lv_iload_n hx hb d_L_gcd_4 rfl (lv_at hl 2 rfl) ?_
  by_cases h_a : isR a
  rotate_left
  · refine xcS (As := [.int a]) hx hb hC hz9 hw (x_L_needRegister l hst9 T V K I O a h_a) lk_L_55 rfl rfl ⟨by show 6 + 1 ≤ R.frames; omega, by show 8 + (1 + 11) + 90 ≤ R.locals; omega⟩ rfl hl.1 rfl (Nat.le_of_ble_eq_true rfl) hRc d_L_gcd_5 (fun V9 K9 H9 locs9 ce9 q9 hP9 hw9 h91 h92 h93 => ?_)
    exact hout _ V9 K9 _ _ _ _ _ _ _ (eP_1 (ocG_1 fun h => h_a h.2.1)) (cQ_x hc hP9) hw9 h91 h92 h93
  obtain ⟨i, hi9, rfl⟩ := isR_of h_a
  have hl : lv_has ls 4 [(0, .ref (wa T 84)), (1, .int (nI x)), (2, .int (nI i)), (3, .int b)] := hl
  refine wcS_v (As := [.int (nI i)]) hx hb hC hw (k_L_needRegister l T V K I O i hi9) lk_L_55 rfl rfl ⟨by show 6 + 1 ≤ R.frames; omega, by show 8 + (1 + 11) + 90 ≤ R.locals; omega⟩ rfl hl.1 rfl (Nat.le_of_ble_eq_true rfl) ⟨Nat.zero_le _, Nat.zero_le _⟩ d_L_gcd_5 (fun H locs hw => ?_)
  refine lv_iload_n hx hb d_L_gcd_8 rfl (lv_at hl 3 rfl) ?_
  by_cases h_b : isR b
  rotate_left
  · refine xcS (As := [.int b]) hx hb hC hz9 hw (x_L_needRegister l hst9 T V K I O b h_b) lk_L_55 rfl rfl ⟨by show 6 + 1 ≤ R.frames; omega, by show 8 + (1 + 11) + 90 ≤ R.locals; omega⟩ rfl hl.1 rfl (Nat.le_of_ble_eq_true rfl) hRc d_L_gcd_9 (fun V9 K9 H9 locs9 ce9 q9 hP9 hw9 h91 h92 h93 => ?_)
    exact hout _ V9 K9 _ _ _ _ _ _ _ (eP_1 (ocG_1 fun h => h_b h.2.2)) (cQ_x hc hP9) hw9 h91 h92 h93
  obtain ⟨j, hj9, rfl⟩ := isR_of h_b
  have hl : lv_has ls 4 [(0, .ref (wa T 84)), (1, .int (nI x)), (2, .int (nI i)), (3, .int (nI j))] := hl
  refine wcS_v (As := [.int (nI j)]) hx hb hC hw (k_L_needRegister l T V K I O j hj9) lk_L_55 rfl rfl ⟨by show 6 + 1 ≤ R.frames; omega, by show 8 + (1 + 11) + 90 ≤ R.locals; omega⟩ rfl hl.1 rfl (Nat.le_of_ble_eq_true rfl) ⟨Nat.zero_le _, Nat.zero_le _⟩ d_L_gcd_9 (fun H locs hw => ?_)
  refine lv_aload_n hx hb d_L_gcd_12 rfl (lv_at hl 0 rfl) ?_
  refine wg_Self_euclid hx hb hC hw bw_191 d_L_gcd_13 ?_
  refine lv_aload_n hx hb d_L_gcd_16 rfl (lv_at hl 0 rfl) ?_
  refine wg_Self_registers hx hb hC hw bw_185 d_L_gcd_17 ?_
  refine lv_iload_n hx hb d_L_gcd_20 rfl (lv_at hl 2 rfl) ?_
  refine wl_regs hx hb hw (by omega) d_L_gcd_21 ?_
  refine wg_Whole_size hx hb hC hw (by omega) bw_55 d_L_gcd_22 ?_
  refine lv_aload_n hx hb d_L_gcd_25 rfl (lv_at hl 0 rfl) ?_
  refine wg_Self_registers hx hb hC hw bw_185 d_L_gcd_26 ?_
  refine lv_iload_n hx hb d_L_gcd_29 rfl (lv_at hl 3 rfl) ?_
  refine wl_regs hx hb hw (by omega) d_L_gcd_30 ?_
  refine wg_Whole_size hx hb hC hw (by omega) bw_55 d_L_gcd_31 ?_
  refine wcV_vp (As := [.ref (wa T i), .ref (wa T j)]) hx hb hC hw (k_E_run l T V K I O i j (by omega) (Or.inl (by omega)) (hc.lt hi9) (hc.lt hj9) hc.2) lk_L_150 rfl rfl ⟨by show 4 + 1 ≤ R.frames; omega, by show 8 + (4 + 11) + 105 ≤ R.locals; omega⟩ (by omega) (we_Euclid ) rfl rfl hl.1 rfl (Nat.le_of_ble_eq_true rfl) ⟨Nat.zero_le _, Nat.zero_le _⟩ d_L_gcd_34 (fun V1 K1 H locs hp9 hw => ?_)
  obtain ⟨l1, o1, sg, f1, hK9, he⟩ := hp9
  rw [hK9] at hw
  have hc1 : cI z V1 (va_up K 13 (bI sg)) := (hc.same (fun n hn => o1 n (by omega)) l1 (fun _ _ => rfl)).outK (by omega)
  have ev : V1 29 = Nat.gcd (z i).natAbs (z j).natAbs := by have q := he.1; rw [Nat.gcd_zero_right, (hc.1 i hi9).2.1, (hc.1 j hj9).2.1] at q; exact q
  refine lv_aload_n hx hb d_L_gcd_37 rfl (lv_at hl 0 rfl) ?_
  refine wg_Self_registers hx hb hC hw bw_185 d_L_gcd_38 ?_
  refine lv_iload_n hx hb d_L_gcd_41 rfl (lv_at hl 1 rfl) ?_
  refine wl_regs hx hb hw (by omega) d_L_gcd_42 ?_
  refine lv_aload_n hx hb d_L_gcd_43 rfl (lv_at hl 0 rfl) ?_
  refine wg_Self_euclid hx hb hC hw bw_191 d_L_gcd_44 ?_
  refine wg_Euclid_divisor hx hb hC hw bw_162 d_L_gcd_47 ?_
  refine lv_iconst (v := nI 0) hx hb d_L_gcd_50 (by decide +kernel) ?_
  refine sw_i (y := (bI false)) (rfl) ?_
  refine wcV_v (As := [.ref (wa T 29), .int (bI false)]) hx hb hC hw (k_W_take l T V1 (va_up K 13 (bI sg)) I O x 29 false (by omega) (by omega) l1) lk_L_71 rfl rfl ⟨by show 2 + 1 ≤ R.frames; omega, by show 8 + (3 + 11) + 45 ≤ R.locals; omega⟩ (by omega) (we_Whole (by omega)) rfl rfl hl.1 rfl (Nat.le_of_ble_eq_true rfl) ⟨Nat.zero_le _, Nat.zero_le _⟩ d_L_gcd_51 (fun H locs hw => ?_)
  exact yv hrt (Nat.zero_le _) (Nat.zero_le _) hx hb (⟨ocG_k ⟨isR_nI hx9, isR_nI hi9, isR_nI hj9⟩, by rw [rg_nI hx9, rg_nI hi9, rg_nI hj9]; exact cQ_take (b := false) hc1 hx9 ev (gcd_lt (hc.1 i hi9).1 (hc.1 j hj9).1) (sgI_f _) (va_up_ne _ _ (by omega)) (va_up_ne _ _ (by omega)) (va_up_ne _ _ (by omega))⟩) hw d_L_gcd_54
set_option maxRecDepth 100000 in
set_option maxHeartbeats 4000000 in
theorem x_L_power (l : Launch) (hst9 : l.stackTraces = false) (T : wT) (V : Nat → Nat) (K : wUt) (I : wIt) (O : wOt) (z : Nat → Int) (hc : cI z V K) (r a b mo : Int32) : vx_Met l y_L_power (.code y_L_power c_L_power 5 none :: bg) ({ frames := 7, cells := 1, slots := 6, locals := 151 } : Room) (mPx T (fF V) (fU V) K I O [.ref (wa T 84), .int r, .int a, .int b, .int mo]) (mQvp T (fun V' K' => ocG (isR r ∧ isR a ∧ isR b ∧ isR mo) (pwC (z (rg b)) (z (rg mo))) = 0 ∧ cQ (va_up z (rg r) ((pwW (z (rg a)) (z (rg b)) (z (rg mo)) : Nat) : Int)) K (K 14) V' K') I O) (xXm T (eP (ocG (isR r ∧ isR a ∧ isR b ∧ isR mo) (pwC (z (rg b)) (z (rg mo)))) [(eIX, 1), (eAR, 2)]) (cQ z K (K 14)) I O) 1 6 (wA T) := by
  refine yM rfl hst9 (Nat.le_of_ble_eq_true rfl) rfl rfl ?_
  intro p e R s m args below meth c Q ls hx hb hC hRf hRl hRc hz9 hrt hout hthr hl hw
  have hRf : 7 ≤ R.frames := hRf
  have hRl : 151 ≤ R.locals := hRl
  have hl : lv_has ls 5 [(0, .ref (wa T 84)), (1, .int r), (2, .int a), (3, .int b), (4, .int mo)] := hl
  refine lv_iload_n hx hb d_L_power_0 rfl (lv_at hl 1 rfl) ?_
  by_cases h_r : isR r
  rotate_left
  · refine xcS (As := [.int r]) hx hb hC hz9 hw (x_L_needRegister l hst9 T V K I O r h_r) lk_L_55 rfl rfl ⟨by show 6 + 1 ≤ R.frames; omega, by show 8 + (1 + 11) + 90 ≤ R.locals; omega⟩ rfl hl.1 rfl (Nat.le_of_ble_eq_true rfl) hRc d_L_power_1 (fun V9 K9 H9 locs9 ce9 q9 hP9 hw9 h91 h92 h93 => ?_)
    exact hout _ V9 K9 _ _ _ _ _ _ _ (eP_1 (ocG_1 fun h => h_r h.1)) (cQ_x hc hP9) hw9 h91 h92 h93
  obtain ⟨x, hx9, rfl⟩ := isR_of h_r
  have hl : lv_has ls 5 [(0, .ref (wa T 84)), (1, .int (nI x)), (2, .int a), (3, .int b), (4, .int mo)] := hl
  refine wcS_v (As := [.int (nI x)]) hx hb hC hw (k_L_needRegister l T V K I O x hx9) lk_L_55 rfl rfl ⟨by show 6 + 1 ≤ R.frames; omega, by show 8 + (1 + 11) + 90 ≤ R.locals; omega⟩ rfl hl.1 rfl (Nat.le_of_ble_eq_true rfl) ⟨Nat.zero_le _, Nat.zero_le _⟩ d_L_power_1 (fun H locs hw => ?_)
  refine lv_iload_n hx hb d_L_power_4 rfl (lv_at hl 2 rfl) ?_
  by_cases h_a : isR a
  rotate_left
  · refine xcS (As := [.int a]) hx hb hC hz9 hw (x_L_needRegister l hst9 T V K I O a h_a) lk_L_55 rfl rfl ⟨by show 6 + 1 ≤ R.frames; omega, by show 8 + (1 + 11) + 90 ≤ R.locals; omega⟩ rfl hl.1 rfl (Nat.le_of_ble_eq_true rfl) hRc d_L_power_5 (fun V9 K9 H9 locs9 ce9 q9 hP9 hw9 h91 h92 h93 => ?_)
    exact hout _ V9 K9 _ _ _ _ _ _ _ (eP_1 (ocG_1 fun h => h_a h.2.1)) (cQ_x hc hP9) hw9 h91 h92 h93
  obtain ⟨i, hi9, rfl⟩ := isR_of h_a
  have hl : lv_has ls 5 [(0, .ref (wa T 84)), (1, .int (nI x)), (2, .int (nI i)), (3, .int b), (4, .int mo)] := hl
  refine wcS_v (As := [.int (nI i)]) hx hb hC hw (k_L_needRegister l T V K I O i hi9) lk_L_55 rfl rfl ⟨by show 6 + 1 ≤ R.frames; omega, by show 8 + (1 + 11) + 90 ≤ R.locals; omega⟩ rfl hl.1 rfl (Nat.le_of_ble_eq_true rfl) ⟨Nat.zero_le _, Nat.zero_le _⟩ d_L_power_5 (fun H locs hw => ?_)
  refine lv_iload_n hx hb d_L_power_8 rfl (lv_at hl 3 rfl) ?_
  by_cases h_b : isR b
  rotate_left
  · refine xcS (As := [.int b]) hx hb hC hz9 hw (x_L_needRegister l hst9 T V K I O b h_b) lk_L_55 rfl rfl ⟨by show 6 + 1 ≤ R.frames; omega, by show 8 + (1 + 11) + 90 ≤ R.locals; omega⟩ rfl hl.1 rfl (Nat.le_of_ble_eq_true rfl) hRc d_L_power_9 (fun V9 K9 H9 locs9 ce9 q9 hP9 hw9 h91 h92 h93 => ?_)
    exact hout _ V9 K9 _ _ _ _ _ _ _ (eP_1 (ocG_1 fun h => h_b h.2.2.1)) (cQ_x hc hP9) hw9 h91 h92 h93
  obtain ⟨j, hj9, rfl⟩ := isR_of h_b
  have hl : lv_has ls 5 [(0, .ref (wa T 84)), (1, .int (nI x)), (2, .int (nI i)), (3, .int (nI j)), (4, .int mo)] := hl
  refine wcS_v (As := [.int (nI j)]) hx hb hC hw (k_L_needRegister l T V K I O j hj9) lk_L_55 rfl rfl ⟨by show 6 + 1 ≤ R.frames; omega, by show 8 + (1 + 11) + 90 ≤ R.locals; omega⟩ rfl hl.1 rfl (Nat.le_of_ble_eq_true rfl) ⟨Nat.zero_le _, Nat.zero_le _⟩ d_L_power_9 (fun H locs hw => ?_)
  refine lv_iload hx hb d_L_power_12 (lv_at hl 4 rfl) ?_
  by_cases h_mo : isR mo
  rotate_left
  · refine xcS (As := [.int mo]) hx hb hC hz9 hw (x_L_needRegister l hst9 T V K I O mo h_mo) lk_L_55 rfl rfl ⟨by show 6 + 1 ≤ R.frames; omega, by show 8 + (1 + 11) + 90 ≤ R.locals; omega⟩ rfl hl.1 rfl (Nat.le_of_ble_eq_true rfl) hRc d_L_power_14 (fun V9 K9 H9 locs9 ce9 q9 hP9 hw9 h91 h92 h93 => ?_)
    exact hout _ V9 K9 _ _ _ _ _ _ _ (eP_1 (ocG_1 fun h => h_mo h.2.2.2)) (cQ_x hc hP9) hw9 h91 h92 h93
  obtain ⟨k, hk9, rfl⟩ := isR_of h_mo
  have hl : lv_has ls 5 [(0, .ref (wa T 84)), (1, .int (nI x)), (2, .int (nI i)), (3, .int (nI j)), (4, .int (nI k))] := hl
  refine wcS_v (As := [.int (nI k)]) hx hb hC hw (k_L_needRegister l T V K I O k hk9) lk_L_55 rfl rfl ⟨by show 6 + 1 ≤ R.frames; omega, by show 8 + (1 + 11) + 90 ≤ R.locals; omega⟩ rfl hl.1 rfl (Nat.le_of_ble_eq_true rfl) ⟨Nat.zero_le _, Nat.zero_le _⟩ d_L_power_14 (fun H locs hw => ?_)
  have gg : isR (nI x) ∧ isR (nI i) ∧ isR (nI j) ∧ isR (nI k) := ⟨isR_nI hx9, isR_nI hi9, isR_nI hj9, isR_nI hk9⟩
  refine lv_aload_n hx hb d_L_power_17 rfl (lv_at hl 0 rfl) ?_
  refine lv_iload hx hb d_L_power_18 (lv_at hl 4 rfl) ?_
  by_cases hm9 : z k ≤ 0
  · refine xcV (As := [.int (nI k)]) hx hb hC hz9 hw (x_L_needModulus l hst9 T V K I O k hk9 (decide (z k < 0)) (hc.1 k hk9).2.2 (by rcases Int.lt_or_eq_of_le hm9 with q | q; exact Or.inl (decide_eq_true q); exact Or.inr (by rw [(hc.1 k hk9).2.1, q]; rfl)) hc.2) lk_L_154 rfl rfl ⟨by show 6 + 1 ≤ R.frames; omega, by show 8 + (2 + 11) + 90 ≤ R.locals; omega⟩ (by omega) (we_Self ) rfl rfl hl.1 rfl (Nat.le_of_ble_eq_true rfl) hRc d_L_power_20 (fun V9 K9 H9 locs9 ce9 q9 hP9 hw9 h91 h92 h93 => ?_)
    exact hout _ V9 K9 _ _ _ _ _ _ _ (eP_k (k := 2) (by rw [ocG_k gg, rg_nI hj9, rg_nI hk9]; exact if_pos (Or.inl hm9)) (List.mem_cons_of_mem _ List.mem_cons_self)) (cQ_x hc hP9) hw9 h91 h92 h93
  have hKm : K k = bI false := by rw [(hc.1 k hk9).2.2, ng_f (by omega)]
  have hm0 : V k ≠ 0 := by have := (hc.1 k hk9).2.1; omega
  refine wcV_v (As := [.int (nI k)]) hx hb hC hw (k_L_needModulus l T V K I O k hk9 hKm hm0 hc.2) lk_L_154 rfl rfl ⟨by show 6 + 1 ≤ R.frames; omega, by show 8 + (2 + 11) + 90 ≤ R.locals; omega⟩ (by omega) (we_Self ) rfl rfl hl.1 rfl (Nat.le_of_ble_eq_true rfl) ⟨Nat.zero_le _, Nat.zero_le _⟩ d_L_power_20 (fun H locs hw => ?_)
  have hKj := (hc.1 j hj9).2.2
  refine lv_aload_n hx hb d_L_power_23 rfl (lv_at hl 0 rfl) ?_
  refine wg_Self_registers hx hb hC hw bw_185 d_L_power_24 ?_
  refine lv_iload_n hx hb d_L_power_27 rfl (lv_at hl 3 rfl) ?_
  refine wl_regs hx hb hw (by omega) d_L_power_28 ?_
  refine wg_Whole_below hx hb hC hw (by omega) bw_59 d_L_power_29 ?_
  by_cases hz : z j < 0
  · refine sw_i (y := nI 1) (by rw [hKj, ng_t hz]; rfl) ?_
    refine n_if_eq (tgt := 45) hx hb d_L_power_32 (by decide) (by omega) (fun hw9 => ?_) (fun hw9 => ?_)
    · exact absurd hw9 (by decide)
    · exact hthr _ _ _ _ _ _ _ _ _ _ _ _ _ xt_157 (eP_k (k := 2) (by rw [ocG_k gg, rg_nI hj9, rg_nI hk9]; exact if_pos (Or.inr hz)) (List.mem_cons_of_mem _ List.mem_cons_self)) (hc.q) hw hl.1 d_L_power_35 d_L_power_38 d_L_power_39 d_L_power_41 d_L_power_44 (by show 2 + 3 < R.frames; omega) (by show 0 + (13 * (2 + 1) + 43) ≤ R.locals; omega)
  · refine sw_i (y := nI 0) (by rw [hKj, ng_f hz]; rfl) ?_
    refine n_if_eq (tgt := 45) hx hb d_L_power_32 (by decide) (by omega) (fun hw9 => ?_) (fun hw9 => ?_)
    · have hoc : ocG (isR (nI x) ∧ isR (nI i) ∧ isR (nI j) ∧ isR (nI k)) (pwC (z (rg (nI j))) (z (rg (nI k)))) = 0 := by rw [ocG_k gg, rg_nI hj9, rg_nI hk9]; exact if_neg (fun h => h.elim hm9 hz)
      refine lv_aload_n hx hb d_L_power_45 rfl (lv_at hl 0 rfl) ?_
      refine wg_Self_residues hx hb hC hw bw_190 d_L_power_46 ?_
      refine lv_aload_n hx hb d_L_power_49 rfl (lv_at hl 0 rfl) ?_
      refine wg_Self_registers hx hb hC hw bw_185 d_L_power_50 ?_
      refine lv_iload_n hx hb d_L_power_53 rfl (lv_at hl 2 rfl) ?_
      refine wl_regs hx hb hw (by omega) d_L_power_54 ?_
      refine lv_aload_n hx hb d_L_power_55 rfl (lv_at hl 0 rfl) ?_
      refine wg_Self_registers hx hb hC hw bw_185 d_L_power_56 ?_
      refine lv_iload_n hx hb d_L_power_59 rfl (lv_at hl 3 rfl) ?_
      refine wl_regs hx hb hw (by omega) d_L_power_60 ?_
      refine wg_Whole_size hx hb hC hw (by omega) bw_55 d_L_power_61 ?_
      refine lv_aload_n hx hb d_L_power_64 rfl (lv_at hl 0 rfl) ?_
      refine wg_Self_registers hx hb hC hw bw_185 d_L_power_65 ?_
      refine lv_iload hx hb d_L_power_68 (lv_at hl 4 rfl) ?_
      refine wl_regs hx hb hw (by omega) d_L_power_70 ?_
      refine wg_Whole_size hx hb hC hw (by omega) bw_55 d_L_power_71 ?_
      refine wcV_vp (As := [.ref (wa T (68 + i)), .ref (wa T j), .ref (wa T k)]) hx hb hC hw (k_S_raise l T V K I O i j k (decide (z i < 0)) (by omega) (by omega) (by omega) (hc.1 i hi9).2.2 (by omega) (hc.lt hi9) (hc.lt hk9) hc.2) lk_L_159 rfl rfl ⟨by show 5 + 1 ≤ R.frames; omega, by show 8 + (5 + 11) + 127 ≤ R.locals; omega⟩ (by omega) (we_Residues ) rfl rfl hl.1 rfl (Nat.le_of_ble_eq_true rfl) ⟨Nat.zero_le _, Nat.zero_le _⟩ d_L_power_74 (fun V1 K1 H locs hp9 hw => ?_)
      obtain ⟨hK9, l1, o1, ev⟩ := hp9
      rw [hK9] at hw
      have hc1 : cI z V1 K := hc.same (fun n hn => o1 n (by omega)) l1 (fun _ _ => rfl)
      rw [(hc.1 i hi9).2.1, (hc.1 j hj9).2.1, (hc.1 k hk9).2.1] at ev
      replace ev : V1 26 = pwW (z i) (z j) (z k) := ev
      have hvl : pwW (z i) (z j) (z k) < m1024 := Nat.lt_trans (Nat.mod_lt _ (by omega)) (hc.1 k hk9).1
      refine lv_aload_n hx hb d_L_power_77 rfl (lv_at hl 0 rfl) ?_
      refine wg_Self_registers hx hb hC hw bw_185 d_L_power_78 ?_
      refine lv_iload_n hx hb d_L_power_81 rfl (lv_at hl 1 rfl) ?_
      refine wl_regs hx hb hw (by omega) d_L_power_82 ?_
      refine lv_aload_n hx hb d_L_power_83 rfl (lv_at hl 0 rfl) ?_
      refine wg_Self_residues hx hb hC hw bw_190 d_L_power_84 ?_
      refine wg_Residues_found hx hb hC hw bw_138 d_L_power_87 ?_
      refine lv_iconst (v := nI 0) hx hb d_L_power_90 (by decide +kernel) ?_
      refine sw_i (y := (bI false)) (rfl) ?_
      refine wcV_v (As := [.ref (wa T 26), .int (bI false)]) hx hb hC hw (k_W_take l T V1 K I O x 26 false (by omega) (by omega) l1) lk_L_71 rfl rfl ⟨by show 2 + 1 ≤ R.frames; omega, by show 8 + (3 + 11) + 45 ≤ R.locals; omega⟩ (by omega) (we_Whole (by omega)) rfl rfl hl.1 rfl (Nat.le_of_ble_eq_true rfl) ⟨Nat.zero_le _, Nat.zero_le _⟩ d_L_power_91 (fun H locs hw => ?_)
      exact yv hrt (Nat.zero_le _) (Nat.zero_le _) hx hb (⟨hoc, by rw [rg_nI hx9, rg_nI hi9, rg_nI hj9, rg_nI hk9]; exact cQ_take (b := false) hc1 hx9 ev hvl (sgI_f _) rfl rfl rfl⟩) hw d_L_power_94
    · exact absurd hw9 (by decide)
