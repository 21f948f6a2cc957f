/-! LimbRegisters: inverse -/
set_option maxRecDepth 100000 in
set_option maxHeartbeats 4000000 in
theorem x_L_inverse (l : Launch) (hst9 : l.stackTraces = false) (T : wT) (V : Nat → Nat) (K : wUt) (I : wIt) (O : wOt) (z : Nat → Int) (hc : cI z V K) (r a mo : Int32) : vx_Met l y_L_inverse (.code y_L_inverse c_L_inverse 4 none :: bg) ({ frames := 7, cells := 1, slots := 6, locals := 128 } : Room) (mPx T (fF V) (fU V) K I O [.ref (wa T 84), .int r, .int a, .int mo]) (mQvp T (fun V' K' => ocG (isR r ∧ isR a ∧ isR mo) (ivC (z (rg a)) (z (rg mo))) = 0 ∧ cQ (va_up z (rg r) ((ivW (z (rg a)) (z (rg mo)) : Nat) : Int)) K (K 14) V' K') I O) (xXm T (eP (ocG (isR r ∧ isR a ∧ isR mo) (ivC (z (rg a)) (z (rg mo)))) [(eIX, 1), (eAR, 2), (eNE, 3)]) (cQ z K (K 14)) I O) 1 6 (wA T) := by
  refine yMN rfl hst9 (Nat.le_of_ble_eq_true rfl) rfl rfl ?_
  intro p e R s m args below meth c Q ls hx hb hC hRf hRl hRc hz9 hrt hout hthr hthrN hl hw
  have hRf : 7 ≤ R.frames := hRf
  have hRl : 128 ≤ R.locals := hRl
  have hl : lv_has ls 4 [(0, .ref (wa T 84)), (1, .int r), (2, .int a), (3, .int mo)] := hl
  refine lv_iload_n hx hb d_L_inverse_0 rfl (lv_at hl 1 rfl) ?_
  by_cases h_r : isR r
  rotate_left
  · refine xcS (As := [.int r]) hx hb hC hz9 hw (x_L_needRegister l hst9 T V K I O r h_r) lk_L_55 rfl rfl ⟨by show 6 + 1 ≤ R.frames; omega, by show 8 + (1 + 11) + 90 ≤ R.locals; omega⟩ rfl hl.1 rfl (Nat.le_of_ble_eq_true rfl) hRc d_L_inverse_1 (fun V9 K9 H9 locs9 ce9 q9 hP9 hw9 h91 h92 h93 => ?_)
    exact hout _ V9 K9 _ _ _ _ _ _ _ (eP_1 (ocG_1 fun h => h_r h.1)) (cQ_x hc hP9) hw9 h91 h92 h93
  obtain ⟨x, hx9, rfl⟩ := isR_of h_r
  have hl : lv_has ls 4 [(0, .ref (wa T 84)), (1, .int (nI x)), (2, .int a), (3, .int mo)] := hl
  refine wcS_v (As := [.int (nI x)]) hx hb hC hw (k_L_needRegister l T V K I O x hx9) lk_L_55 rfl rfl ⟨by show 6 + 1 ≤ R.frames; omega, by show 8 + (1 + 11) + 90 ≤ R.locals; omega⟩ rfl hl.1 rfl (Nat.le_of_ble_eq_true rfl) ⟨Nat.zero_le _, Nat.zero_le _⟩ d_L_inverse_1 (fun H locs hw => ?_)
  refine lv_iload_n hx hb d_L_inverse_4 rfl (lv_at hl 2 rfl) ?_
  by_cases h_a : isR a
  rotate_left
  · refine xcS (As := [.int a]) hx hb hC hz9 hw (x_L_needRegister l hst9 T V K I O a h_a) lk_L_55 rfl rfl ⟨by show 6 + 1 ≤ R.frames; omega, by show 8 + (1 + 11) + 90 ≤ R.locals; omega⟩ rfl hl.1 rfl (Nat.le_of_ble_eq_true rfl) hRc d_L_inverse_5 (fun V9 K9 H9 locs9 ce9 q9 hP9 hw9 h91 h92 h93 => ?_)
    exact hout _ V9 K9 _ _ _ _ _ _ _ (eP_1 (ocG_1 fun h => h_a h.2.1)) (cQ_x hc hP9) hw9 h91 h92 h93
  obtain ⟨i, hi9, rfl⟩ := isR_of h_a
  have hl : lv_has ls 4 [(0, .ref (wa T 84)), (1, .int (nI x)), (2, .int (nI i)), (3, .int mo)] := hl
  refine wcS_v (As := [.int (nI i)]) hx hb hC hw (k_L_needRegister l T V K I O i hi9) lk_L_55 rfl rfl ⟨by show 6 + 1 ≤ R.frames; omega, by show 8 + (1 + 11) + 90 ≤ R.locals; omega⟩ rfl hl.1 rfl (Nat.le_of_ble_eq_true rfl) ⟨Nat.zero_le _, Nat.zero_le _⟩ d_L_inverse_5 (fun H locs hw => ?_)
  refine lv_iload_n hx hb d_L_inverse_8 rfl (lv_at hl 3 rfl) ?_
  by_cases h_mo : isR mo
  rotate_left
  · refine xcS (As := [.int mo]) hx hb hC hz9 hw (x_L_needRegister l hst9 T V K I O mo h_mo) lk_L_55 rfl rfl ⟨by show 6 + 1 ≤ R.frames; omega, by show 8 + (1 + 11) + 90 ≤ R.locals; omega⟩ rfl hl.1 rfl (Nat.le_of_ble_eq_true rfl) hRc d_L_inverse_9 (fun V9 K9 H9 locs9 ce9 q9 hP9 hw9 h91 h92 h93 => ?_)
    exact hout _ V9 K9 _ _ _ _ _ _ _ (eP_1 (ocG_1 fun h => h_mo h.2.2)) (cQ_x hc hP9) hw9 h91 h92 h93
  obtain ⟨k, hk9, rfl⟩ := isR_of h_mo
  have hl : lv_has ls 4 [(0, .ref (wa T 84)), (1, .int (nI x)), (2, .int (nI i)), (3, .int (nI k))] := hl
  refine wcS_v (As := [.int (nI k)]) hx hb hC hw (k_L_needRegister l T V K I O k hk9) lk_L_55 rfl rfl ⟨by show 6 + 1 ≤ R.frames; omega, by show 8 + (1 + 11) + 90 ≤ R.locals; omega⟩ rfl hl.1 rfl (Nat.le_of_ble_eq_true rfl) ⟨Nat.zero_le _, Nat.zero_le _⟩ d_L_inverse_9 (fun H locs hw => ?_)
  have gg : isR (nI x) ∧ isR (nI i) ∧ isR (nI k) := ⟨isR_nI hx9, isR_nI hi9, isR_nI hk9⟩
  refine lv_aload_n hx hb d_L_inverse_12 rfl (lv_at hl 0 rfl) ?_
  refine lv_iload_n hx hb d_L_inverse_13 rfl (lv_at hl 3 rfl) ?_
  by_cases hm9 : z k ≤ 0
  · refine xcV (As := [.int (nI k)]) hx hb hC hz9 hw (x_L_needModulus l hst9 T V K I O k hk9 (decide (z k < 0)) (hc.1 k hk9).2.2 (by rcases Int.lt_or_eq_of_le hm9 with q | q; exact Or.inl (decide_eq_true q); exact Or.inr (by rw [(hc.1 k hk9).2.1, q]; rfl)) hc.2) lk_L_154 rfl rfl ⟨by show 6 + 1 ≤ R.frames; omega, by show 8 + (2 + 11) + 90 ≤ R.locals; omega⟩ (by omega) (we_Self ) rfl rfl hl.1 rfl (Nat.le_of_ble_eq_true rfl) hRc d_L_inverse_14 (fun V9 K9 H9 locs9 ce9 q9 hP9 hw9 h91 h92 h93 => ?_)
    exact hout _ V9 K9 _ _ _ _ _ _ _ (eP_k (k := 2) (by rw [ocG_k gg, rg_nI hi9, rg_nI hk9]; exact if_pos hm9) (List.mem_cons_of_mem _ List.mem_cons_self)) (cQ_x hc hP9) hw9 h91 h92 h93
  have hKm : K k = bI false := by rw [(hc.1 k hk9).2.2, ng_f (by omega)]
  have hm0 : V k ≠ 0 := by have := (hc.1 k hk9).2.1; omega
  refine wcV_v (As := [.int (nI k)]) hx hb hC hw (k_L_needModulus l T V K I O k hk9 hKm hm0 hc.2) lk_L_154 rfl rfl ⟨by show 6 + 1 ≤ R.frames; omega, by show 8 + (2 + 11) + 90 ≤ R.locals; omega⟩ (by omega) (we_Self ) rfl rfl hl.1 rfl (Nat.le_of_ble_eq_true rfl) ⟨Nat.zero_le _, Nat.zero_le _⟩ d_L_inverse_14 (fun H locs hw => ?_)
  refine lv_aload_n hx hb d_L_inverse_17 rfl (lv_at hl 0 rfl) ?_
  refine wg_Self_residues hx hb hC hw bw_190 d_L_inverse_18 ?_
  refine lv_aload_n hx hb d_L_inverse_21 rfl (lv_at hl 0 rfl) ?_
  refine wg_Self_registers hx hb hC hw bw_185 d_L_inverse_22 ?_
  refine lv_iload_n hx hb d_L_inverse_25 rfl (lv_at hl 2 rfl) ?_
  refine wl_regs hx hb hw (by omega) d_L_inverse_26 ?_
  refine lv_aload_n hx hb d_L_inverse_27 rfl (lv_at hl 0 rfl) ?_
  refine wg_Self_registers hx hb hC hw bw_185 d_L_inverse_28 ?_
  refine lv_iload_n hx hb d_L_inverse_31 rfl (lv_at hl 3 rfl) ?_
  refine wl_regs hx hb hw (by omega) d_L_inverse_32 ?_
  refine wg_Whole_size hx hb hC hw (by omega) bw_55 d_L_inverse_33 ?_
  refine wcV_v (As := [.ref (wa T (68 + i)), .ref (wa T k)]) hx hb hC hw (k_S_reduce l T V K I O i k (decide (z i < 0)) (by omega) (by omega) (hc.1 i hi9).2.2 (by omega) (sp_fit1 (hc.lt hi9) (hc.lt hk9) (by omega)) hc.2) lk_L_164 rfl rfl ⟨by show 4 + 1 ≤ R.frames; omega, by show 8 + (3 + 11) + 105 ≤ R.locals; omega⟩ (by omega) (we_Residues ) rfl rfl hl.1 rfl (Nat.le_of_ble_eq_true rfl) ⟨Nat.zero_le _, Nat.zero_le _⟩ d_L_inverse_36 (fun H locs hw => ?_)
  have a26 : (rdV V (decide (z i < 0)) i k) 26 = rdI (z i) (z k) := by rw [rdV_26, (hc.1 i hi9).2.1, (hc.1 k hk9).2.1]; rfl
  have a13 : ∀ n, n < 13 → (rdV V (decide (z i < 0)) i k) n = V n := fun n hn => rdV_13 hn
  have alim := rdV_lim (V := V) (b := decide (z i < 0)) (k := i) (mo := k) (by omega) (by omega) (by omega) hc.2
  generalize (rdV V (decide (z i < 0)) i k) = V0 at hw a26 a13 alim
  have hk0 : V0 k = (z k).natAbs := (a13 k (by omega)).trans (hc.1 k hk9).2.1
  have hrl : rdI (z i) (z k) < (z k).natAbs := rdc_lt (by omega)
  refine lv_aload_n hx hb d_L_inverse_39 rfl (lv_at hl 0 rfl) ?_
  refine wg_Self_euclid hx hb hC hw bw_191 d_L_inverse_40 ?_
  refine lv_aload_n hx hb d_L_inverse_43 rfl (lv_at hl 0 rfl) ?_
  refine wg_Self_registers hx hb hC hw bw_185 d_L_inverse_44 ?_
  refine lv_iload_n hx hb d_L_inverse_47 rfl (lv_at hl 3 rfl) ?_
  refine wl_regs hx hb hw (by omega) d_L_inverse_48 ?_
  refine wg_Whole_size hx hb hC hw (by omega) bw_55 d_L_inverse_49 ?_
  refine lv_aload_n hx hb d_L_inverse_52 rfl (lv_at hl 0 rfl) ?_
  refine wg_Self_residues hx hb hC hw bw_190 d_L_inverse_53 ?_
  refine wg_Residues_found hx hb hC hw bw_138 d_L_inverse_56 ?_
  refine wcV_vp (As := [.ref (wa T k), .ref (wa T 26)]) hx hb hC hw (k_E_run l T V0 K I O k 26 (by omega) (Or.inr rfl) (by rw [hk0]; exact (hc.1 k hk9).1) (by rw [a26]; exact Nat.lt_trans hrl (hc.1 k hk9).1) alim) lk_L_150 rfl rfl ⟨by show 4 + 1 ≤ R.frames; omega, by show 8 + (4 + 11) + 105 ≤ R.locals; omega⟩ (by omega) (we_Euclid ) rfl rfl hl.1 rfl (Nat.le_of_ble_eq_true rfl) ⟨Nat.zero_le _, Nat.zero_le _⟩ d_L_inverse_59 (fun V1 K1 H locs hp9 hw => ?_)
  obtain ⟨l1, o1, sg, f1, hK9, he⟩ := hp9
  rw [hK9] at hw
  rw [hk0, a26] at he
  have hc1 : cI z V1 (va_up K 13 (bI sg)) := (hc.same (fun n hn => (o1 n (by omega)).trans (a13 n (by omega))) l1 (fun _ _ => rfl)).outK (by omega)
  have ev : V1 29 = Nat.gcd (z k).natAbs (rdI (z i) (z k)) := by have q := he.1; rw [Nat.gcd_zero_right] at q; exact q
  have hk1 : V1 k = (z k).natAbs := (hc1.1 k hk9).2.1
  refine lv_aload_n hx hb d_L_inverse_62 rfl (lv_at hl 0 rfl) ?_
  refine wg_Self_euclid hx hb hC hw bw_191 d_L_inverse_63 ?_
  refine wg_Euclid_divisor hx hb hC hw bw_162 d_L_inverse_66 ?_
  refine wcV_z (As := []) hx hb hC hw (k_N_isOne l T V1 (va_up K 13 (bI sg)) I O 29 (by omega) l1) lk_L_168 rfl rfl ⟨by show 0 + 1 ≤ R.frames; omega, by show 8 + (1 + 11) + 0 ≤ R.locals; omega⟩ (by omega) (we_Natural (by omega)) rfl rfl hl.1 rfl (Nat.le_of_ble_eq_true rfl) ⟨Nat.zero_le _, Nat.zero_le _⟩ d_L_inverse_69 (fun H locs hw => ?_)
  by_cases hone : V1 29 = 1
  · refine sw_i (y := nI 1) (by rw [if_pos hone]; rfl) ?_
    refine n_if_ne (tgt := 85) hx hb d_L_inverse_72 (by decide) (by omega) (fun hw9 => ?_) (fun hw9 => ?_)
    · have hoc : ocG (isR (nI x) ∧ isR (nI i) ∧ isR (nI k)) (ivC (z (rg (nI i))) (z (rg (nI k)))) = 0 := by rw [ocG_k gg, rg_nI hi9, rg_nI hk9]; unfold ivC; rw [if_neg hm9, if_pos (ev.symm.trans hone)]
      rw [hone] at he
      obtain ⟨i1, i2, i3⟩ := iv_of_eInv hrl he
      refine lv_aload_n hx hb d_L_inverse_85 rfl (lv_at hl 0 rfl) ?_
      refine wg_Self_euclid hx hb hC hw bw_191 d_L_inverse_86 ?_
      refine lv_aload_n hx hb d_L_inverse_89 rfl (lv_at hl 0 rfl) ?_
      refine wg_Self_registers hx hb hC hw bw_185 d_L_inverse_90 ?_
      refine lv_iload_n hx hb d_L_inverse_93 rfl (lv_at hl 3 rfl) ?_
      refine wl_regs hx hb hw (by omega) d_L_inverse_94 ?_
      refine wg_Whole_size hx hb hC hw (by omega) bw_55 d_L_inverse_95 ?_
      refine wcV_v (As := [.ref (wa T k)]) hx hb hC hw (k_E_bring l T V1 (va_up K 13 (bI sg)) I O k (by omega) sg (va_up_self _ _ _) (by rw [hk1]; exact i1) l1) lk_L_176 rfl rfl ⟨by show 2 + 1 ≤ R.frames; omega, by show 8 + (2 + 11) + 48 ≤ R.locals; omega⟩ (by omega) (we_Euclid ) rfl rfl hl.1 rfl (Nat.le_of_ble_eq_true rfl) ⟨Nat.zero_le _, Nat.zero_le _⟩ d_L_inverse_98 (fun H locs hw => ?_)
      have ev3 : (va_up V1 30 (bfw sg (V1 30) (V1 k))) 30 = ivW (z i) (z k) := by rw [va_up_self, hk1]; exact (ivN_eq i2 i3).symm
      have hil : ivW (z i) (z k) < m1024 := by rw [show ivW (z i) (z k) = _ from ivN_eq i2 i3]; exact Nat.lt_trans i2 (hc.1 k hk9).1
      have hc3 : cI z (va_up V1 30 (bfw sg (V1 30) (V1 k))) (va_up K 13 (bI sg)) := hc1.out (by omega) (by rw [hk1]; exact Nat.lt_of_lt_of_le (Nat.lt_trans i2 (hc.1 k hk9).1) m1024_lim)
      generalize (va_up V1 30 (bfw sg (V1 30) (V1 k))) = V3 at hw ev3 hc3
      have l1 := hc3.2
      refine lv_aload_n hx hb d_L_inverse_101 rfl (lv_at hl 0 rfl) ?_
      refine wg_Self_registers hx hb hC hw bw_185 d_L_inverse_102 ?_
      refine lv_iload_n hx hb d_L_inverse_105 rfl (lv_at hl 1 rfl) ?_
      refine wl_regs hx hb hw (by omega) d_L_inverse_106 ?_
      refine lv_aload_n hx hb d_L_inverse_107 rfl (lv_at hl 0 rfl) ?_
      refine wg_Self_euclid hx hb hC hw bw_191 d_L_inverse_108 ?_
      refine wg_Euclid_factor hx hb hC hw bw_164 d_L_inverse_111 ?_
      refine lv_iconst (v := nI 0) hx hb d_L_inverse_114 (by decide +kernel) ?_
      refine sw_i (y := (bI false)) (rfl) ?_
      refine wcV_v (As := [.ref (wa T 30), .int (bI false)]) hx hb hC hw (k_W_take l T V3 (va_up K 13 (bI sg)) I O x 30 false (by omega) (by omega) l1) lk_L_71 rfl rfl ⟨by show 2 + 1 ≤ R.frames; omega, by show 8 + (3 + 11) + 45 ≤ R.locals; omega⟩ (by omega) (we_Whole (by omega)) rfl rfl hl.1 rfl (Nat.le_of_ble_eq_true rfl) ⟨Nat.zero_le _, Nat.zero_le _⟩ d_L_inverse_115 (fun H locs hw => ?_)
      exact yv hrt (Nat.zero_le _) (Nat.zero_le _) hx hb (⟨hoc, by rw [rg_nI hx9, rg_nI hi9, rg_nI hk9]; exact cQ_take (b := false) hc3 hx9 ev3 hil (sgI_f _) (va_up_ne _ _ (by omega)) (va_up_ne _ _ (by omega)) (va_up_ne _ _ (by omega))⟩) hw d_L_inverse_118
    · exact absurd hw9 (by decide)
  · refine sw_i (y := nI 0) (by rw [if_neg hone]; rfl) ?_
    refine n_if_ne (tgt := 85) hx hb d_L_inverse_72 (by decide) (by omega) (fun hw9 => ?_) (fun hw9 => ?_)
    · exact absurd hw9 (by decide)
    · exact hthrN _ _ _ _ _ _ _ (eP_k (k := 3) (by rw [ocG_k gg, rg_nI hi9, rg_nI hk9]; unfold ivC; rw [if_neg hm9, if_neg (fun h => hone (ev.trans h))]) (List.mem_cons_of_mem _ (List.mem_cons_of_mem _ List.mem_cons_self))) (⟨hc1, (va_up_ne _ _ (by omega)), (va_up_ne _ _ (by omega)), (va_up_ne _ _ (by omega))⟩) hw hl.1 d_L_inverse_75 d_L_inverse_78 d_L_inverse_79 d_L_inverse_81 d_L_inverse_84 (by show 2 + 3 < R.frames; omega) (by show 0 + (13 * (2 + 1) + 43) ≤ R.locals; omega)
