/-! LimbRegisters: divide, shift -/
set_option maxRecDepth 100000 in
set_option maxHeartbeats 4000000 in
theorem x_L_divide (l : Launch) (hst9 : l.stackTraces = false) (T : wT) (V : Nat → Nat) (K : wUt) (I : wIt) (O : wOt) (z : Nat → Int) (hc : cI z V K) (q r a b : Int32) (dn : Bool) : vx_Met l y_L_divide (.code y_L_divide c_L_divide 9 none :: bg) ({ frames := 7, cells := 1, slots := 6, locals := 110 } : Room) (mPx T (fF V) (fU V) K I O [.ref (wa T 84), .int q, .int r, .int a, .int b, .int (bI dn)]) (mQvp T (fun V' K' => ocG (isR q ∧ isR r ∧ isR a ∧ isR b) (dvC q r (z (rg b))) = 0 ∧ cQ (va_up (va_up z (rg q) (dvQ dn (z (rg a)) (z (rg b)))) (rg r) (dvR dn (z (rg a)) (z (rg b)))) K (K 14) V' K') I O) (xXm T (eP (ocG (isR q ∧ isR r ∧ isR a ∧ isR b) (dvC q r (z (rg b)))) [(eIX, 1), (eIA, 2), (eAR, 3)]) (cQ z K (K 14)) I O) 1 6 (wA T) := by
  refine yM rfl hst9 (Nat.le_of_ble_eq_true rfl) rfl rfl ?_
  intro p e R s m args below meth c Q ls hx hb hC hRf hRl hRc hz9 hrt hout hthr hl hw
  have hRf : 7 ≤ R.frames := hRf
  have hRl : 110 ≤ R.locals := hRl
  have hl : lv_has ls 9 [(0, .ref (wa T 84)), (1, .int q), (2, .int r), (3, .int a), (4, .int b), (5, .int (bI dn))] := hl
  refine lv_iload_n hx hb d_L_divide_0 rfl (lv_at hl 1 rfl) ?_
  by_cases h_q : isR q
  rotate_left
  · refine xcS (As := [.int q]) hx hb hC hz9 hw (x_L_needRegister l hst9 T V K I O q h_q) lk_L_55 rfl rfl ⟨by show 6 + 1 ≤ R.frames; omega, by show 8 + (1 + 11) + 90 ≤ R.locals; omega⟩ rfl hl.1 rfl (Nat.le_of_ble_eq_true rfl) hRc d_L_divide_1 (fun V9 K9 H9 locs9 ce9 q9 hP9 hw9 h91 h92 h93 => ?_)
    exact hout _ V9 K9 _ _ _ _ _ _ _ (eP_1 (ocG_1 fun h => h_q h.1)) (cQ_x hc hP9) hw9 h91 h92 h93
  obtain ⟨x, hx9, rfl⟩ := isR_of h_q
  have hl : lv_has ls 9 [(0, .ref (wa T 84)), (1, .int (nI x)), (2, .int r), (3, .int a), (4, .int b), (5, .int (bI dn))] := hl
  refine wcS_v (As := [.int (nI x)]) hx hb hC hw (k_L_needRegister l T V K I O x hx9) lk_L_55 rfl rfl ⟨by show 6 + 1 ≤ R.frames; omega, by show 8 + (1 + 11) + 90 ≤ R.locals; omega⟩ rfl hl.1 rfl (Nat.le_of_ble_eq_true rfl) ⟨Nat.zero_le _, Nat.zero_le _⟩ d_L_divide_1 (fun H locs hw => ?_)
  refine lv_iload_n hx hb d_L_divide_4 rfl (lv_at hl 2 rfl) ?_
  by_cases h_r : isR r
  rotate_left
  · refine xcS (As := [.int r]) hx hb hC hz9 hw (x_L_needRegister l hst9 T V K I O r h_r) lk_L_55 rfl rfl ⟨by show 6 + 1 ≤ R.frames; omega, by show 8 + (1 + 11) + 90 ≤ R.locals; omega⟩ rfl hl.1 rfl (Nat.le_of_ble_eq_true rfl) hRc d_L_divide_5 (fun V9 K9 H9 locs9 ce9 q9 hP9 hw9 h91 h92 h93 => ?_)
    exact hout _ V9 K9 _ _ _ _ _ _ _ (eP_1 (ocG_1 fun h => h_r h.2.1)) (cQ_x hc hP9) hw9 h91 h92 h93
  obtain ⟨k, hk9, rfl⟩ := isR_of h_r
  have hl : lv_has ls 9 [(0, .ref (wa T 84)), (1, .int (nI x)), (2, .int (nI k)), (3, .int a), (4, .int b), (5, .int (bI dn))] := hl
  refine wcS_v (As := [.int (nI k)]) hx hb hC hw (k_L_needRegister l T V K I O k hk9) lk_L_55 rfl rfl ⟨by show 6 + 1 ≤ R.frames; omega, by show 8 + (1 + 11) + 90 ≤ R.locals; omega⟩ rfl hl.1 rfl (Nat.le_of_ble_eq_true rfl) ⟨Nat.zero_le _, Nat.zero_le _⟩ d_L_divide_5 (fun H locs hw => ?_)
  refine lv_iload_n hx hb d_L_divide_8 rfl (lv_at hl 3 rfl) ?_
  by_cases h_a : isR a
  rotate_left
  · refine xcS (As := [.int a]) hx hb hC hz9 hw (x_L_needRegister l hst9 T V K I O a h_a) lk_L_55 rfl rfl ⟨by show 6 + 1 ≤ R.frames; omega, by show 8 + (1 + 11) + 90 ≤ R.locals; omega⟩ rfl hl.1 rfl (Nat.le_of_ble_eq_true rfl) hRc d_L_divide_9 (fun V9 K9 H9 locs9 ce9 q9 hP9 hw9 h91 h92 h93 => ?_)
    exact hout _ V9 K9 _ _ _ _ _ _ _ (eP_1 (ocG_1 fun h => h_a h.2.2.1)) (cQ_x hc hP9) hw9 h91 h92 h93
  obtain ⟨i, hi9, rfl⟩ := isR_of h_a
  have hl : lv_has ls 9 [(0, .ref (wa T 84)), (1, .int (nI x)), (2, .int (nI k)), (3, .int (nI i)), (4, .int b), (5, .int (bI dn))] := hl
  refine wcS_v (As := [.int (nI i)]) hx hb hC hw (k_L_needRegister l T V K I O i hi9) lk_L_55 rfl rfl ⟨by show 6 + 1 ≤ R.frames; omega, by show 8 + (1 + 11) + 90 ≤ R.locals; omega⟩ rfl hl.1 rfl (Nat.le_of_ble_eq_true rfl) ⟨Nat.zero_le _, Nat.zero_le _⟩ d_L_divide_9 (fun H locs hw => ?_)
  refine lv_iload hx hb d_L_divide_12 (lv_at hl 4 rfl) ?_
  by_cases h_b : isR b
  rotate_left
  · refine xcS (As := [.int b]) hx hb hC hz9 hw (x_L_needRegister l hst9 T V K I O b h_b) lk_L_55 rfl rfl ⟨by show 6 + 1 ≤ R.frames; omega, by show 8 + (1 + 11) + 90 ≤ R.locals; omega⟩ rfl hl.1 rfl (Nat.le_of_ble_eq_true rfl) hRc d_L_divide_14 (fun V9 K9 H9 locs9 ce9 q9 hP9 hw9 h91 h92 h93 => ?_)
    exact hout _ V9 K9 _ _ _ _ _ _ _ (eP_1 (ocG_1 fun h => h_b h.2.2.2)) (cQ_x hc hP9) hw9 h91 h92 h93
  obtain ⟨j, hj9, rfl⟩ := isR_of h_b
  have hl : lv_has ls 9 [(0, .ref (wa T 84)), (1, .int (nI x)), (2, .int (nI k)), (3, .int (nI i)), (4, .int (nI j)), (5, .int (bI dn))] := hl
  refine wcS_v (As := [.int (nI j)]) hx hb hC hw (k_L_needRegister l T V K I O j hj9) lk_L_55 rfl rfl ⟨by show 6 + 1 ≤ R.frames; omega, by show 8 + (1 + 11) + 90 ≤ R.locals; omega⟩ rfl hl.1 rfl (Nat.le_of_ble_eq_true rfl) ⟨Nat.zero_le _, Nat.zero_le _⟩ d_L_divide_14 (fun H locs hw => ?_)
  have gg : isR (nI x) ∧ isR (nI k) ∧ isR (nI i) ∧ isR (nI j) := ⟨isR_nI hx9, isR_nI hk9, isR_nI hi9, isR_nI hj9⟩
  refine lv_iload_n hx hb d_L_divide_17 rfl (lv_at hl 1 rfl) ?_
  refine lv_iload_n hx hb d_L_divide_18 rfl (lv_at hl 2 rfl) ?_
  refine n_icmp_ne (tgt := 32) hx hb d_L_divide_19 (by decide) (by omega) (by omega) (fun hqk => ?_) (fun hqk => ?_)
  · have hqk9 : nI x ≠ nI k := fun h => hqk ((nI_eq (by omega) (by omega)).mp h)
    refine lv_aload_n hx hb d_L_divide_32 rfl (lv_at hl 0 rfl) ?_
    refine wg_Self_registers hx hb hC hw bw_185 d_L_divide_33 ?_
    refine lv_iload hx hb d_L_divide_36 (lv_at hl 4 rfl) ?_
    refine wl_regs hx hb hw (by omega) d_L_divide_38 ?_
    refine wg_Whole_size hx hb hC hw (by omega) bw_55 d_L_divide_39 ?_
    refine wcV_z (As := []) hx hb hC hw (k_N_isZero l T V K I O j (by omega) hc.2) lk_L_93 rfl rfl ⟨by show 0 + 1 ≤ R.frames; omega, by show 8 + (1 + 11) + 0 ≤ R.locals; omega⟩ (by omega) (we_Natural (by omega)) rfl rfl hl.1 rfl (Nat.le_of_ble_eq_true rfl) ⟨Nat.zero_le _, Nat.zero_le _⟩ d_L_divide_42 (fun H locs hw => ?_)
    by_cases hz : V j = 0
    · refine sw_i (y := nI 1) (by rw [if_pos hz]; rfl) ?_
      refine n_if_eq (tgt := 58) hx hb d_L_divide_45 (by decide) (by omega) (fun hw9 => ?_) (fun hw9 => ?_)
      · exact absurd hw9 (by decide)
      · exact hthr _ _ _ _ _ _ _ _ _ _ _ _ _ xt_101 (eP_k (k := 3) (by rw [ocG_k gg, rg_nI hj9]; unfold dvC; rw [if_neg hqk9, if_pos (by have := (hc.1 j hj9).2.1; omega)]) (List.mem_cons_of_mem _ (List.mem_cons_of_mem _ List.mem_cons_self))) (hc.q) hw hl.1 d_L_divide_48 d_L_divide_51 d_L_divide_52 d_L_divide_54 d_L_divide_57 (by show 2 + 3 < R.frames; omega) (by show 0 + (13 * (2 + 1) + 43) ≤ R.locals; omega)
    · refine sw_i (y := nI 0) (by rw [if_neg hz]; rfl) ?_
      have hz0 : ¬ z j = 0 := fun h => hz (by rw [(hc.1 j hj9).2.1, h]; rfl)
      have hoc : ocG (isR (nI x) ∧ isR (nI k) ∧ isR (nI i) ∧ isR (nI j)) (dvC (nI x) (nI k) (z (rg (nI j)))) = 0 := by rw [ocG_k gg, rg_nI hj9]; unfold dvC; rw [if_neg hqk9, if_neg hz0]
      have hKi := (hc.1 i hi9).2.2
      have hKj := (hc.1 j hj9).2.2
      generalize hbi : decide (z i < 0) = bi at hKi
      generalize hbj : decide (z j < 0) = bj at hKj
      refine n_if_eq (tgt := 58) hx hb d_L_divide_45 (by decide) (by omega) (fun hw9 => ?_) (fun hw9 => ?_)
      · cases bi
        · cases bj
          · cases dn
            · have hl : lv_has ls 9 [(0, .ref (wa T 84)), (1, .int (nI x)), (2, .int (nI k)), (3, .int (nI i)), (4, .int (nI j)), (5, .int (nI 0))] := hl
              refine lv_aload_n hx hb d_L_divide_58 rfl (lv_at hl 0 rfl) ?_
              refine wg_Self_registers hx hb hC hw bw_185 d_L_divide_59 ?_
              refine lv_iload_n hx hb d_L_divide_62 rfl (lv_at hl 3 rfl) ?_
              refine wl_regs hx hb hw (by omega) d_L_divide_63 ?_
              refine wg_Whole_below hx hb hC hw (by omega) bw_59 d_L_divide_64 ?_
              refine sw_i (y := nI 0) (hKi) ?_
              refine lv_istore hx hb d_L_divide_67 hl (by decide) rfl (fun ls hl => ?_)
              have hl : lv_has ls 9 [(6, .int (nI 0)), (0, .ref (wa T 84)), (1, .int (nI x)), (2, .int (nI k)), (3, .int (nI i)), (4, .int (nI j)), (5, .int (nI 0))] := hl
              refine lv_aload_n hx hb d_L_divide_69 rfl (lv_at hl 1 rfl) ?_
              refine wg_Self_registers hx hb hC hw bw_185 d_L_divide_70 ?_
              refine lv_iload hx hb d_L_divide_73 (lv_at hl 5 rfl) ?_
              refine wl_regs hx hb hw (by omega) d_L_divide_75 ?_
              refine wg_Whole_below hx hb hC hw (by omega) bw_59 d_L_divide_76 ?_
              refine sw_i (y := nI 0) (hKj) ?_
              refine lv_istore hx hb d_L_divide_79 hl (by decide) rfl (fun ls hl => ?_)
              have hl : lv_has ls 9 [(7, .int (nI 0)), (6, .int (nI 0)), (0, .ref (wa T 84)), (1, .int (nI x)), (2, .int (nI k)), (3, .int (nI i)), (4, .int (nI j)), (5, .int (nI 0))] := hl
              refine lv_iload hx hb d_L_divide_81 (lv_at hl 1 rfl) ?_
              refine lv_istore hx hb d_L_divide_83 hl (by decide) rfl (fun ls hl => ?_)
              have hl : lv_has ls 9 [(8, .int (nI 0)), (7, .int (nI 0)), (6, .int (nI 0)), (0, .ref (wa T 84)), (1, .int (nI x)), (2, .int (nI k)), (3, .int (nI i)), (4, .int (nI j)), (5, .int (nI 0))] := hl
              refine lv_aload_n hx hb d_L_divide_85 rfl (lv_at hl 3 rfl) ?_
              refine wg_Self_division hx hb hC hw bw_188 d_L_divide_86 ?_
              refine lv_aload_n hx hb d_L_divide_89 rfl (lv_at hl 3 rfl) ?_
              refine wg_Self_registers hx hb hC hw bw_185 d_L_divide_90 ?_
              refine lv_iload_n hx hb d_L_divide_93 rfl (lv_at hl 6 rfl) ?_
              refine wl_regs hx hb hw (by omega) d_L_divide_94 ?_
              refine wg_Whole_size hx hb hC hw (by omega) bw_55 d_L_divide_95 ?_
              refine lv_aload_n hx hb d_L_divide_98 rfl (lv_at hl 3 rfl) ?_
              refine wg_Self_registers hx hb hC hw bw_185 d_L_divide_99 ?_
              refine lv_iload hx hb d_L_divide_102 (lv_at hl 7 rfl) ?_
              refine wl_regs hx hb hw (by omega) d_L_divide_104 ?_
              refine wg_Whole_size hx hb hC hw (by omega) bw_55 d_L_divide_105 ?_
              refine wcV_v (As := [.ref (wa T i), .ref (wa T j)]) hx hb hC hw (k_D_run l T V K I O 0 i j (by omega) (by omega) (by omega) (Or.inl (by omega)) (Or.inl (by omega)) (sp_fit1 (hc.lt hi9) (hc.lt hj9) (by omega)) hc.2) lk_L_104 rfl rfl ⟨by show 3 + 1 ≤ R.frames; omega, by show 8 + (6 + 11) + 80 ≤ R.locals; omega⟩ (by omega) (we_Division (by omega)) rfl rfl hl.1 rfl (Nat.le_of_ble_eq_true rfl) ⟨Nat.zero_le _, Nat.zero_le _⟩ d_L_divide_108 (fun H locs hw => ?_)
              have q1 := dvV_quot V 0 i j
              have r1 := dvV_rest V 0 i j
              have o1 : ∀ n, n < 13 → dvV V 0 i j n = V n := fun n hn => dvV_out (Or.inl (by omega))
              have l1 := dvV_lim (d := 0) (a := i) (b := j) (by omega) (by omega) (by omega) hc.2
              rw [(hc.1 i hi9).2.1, (hc.1 j hj9).2.1] at q1 r1
              generalize dvV V 0 i j = V1 at hw q1 r1 o1 l1
              have hc1 : cI z V1 K := hc.same (fun n hn => o1 n (by omega)) l1 (fun _ _ => rfl)
              refine lv_iload hx hb d_L_divide_111 (lv_at hl 8 rfl) ?_
              refine n_if_eq (tgt := 157) hx hb d_L_divide_113 (by decide) (by omega) (fun hw9 => ?_) (fun hw9 => ?_)
              · refine lv_aload_n hx hb d_L_divide_157 rfl (lv_at hl 3 rfl) ?_
                refine wg_Self_registers hx hb hC hw bw_185 d_L_divide_158 ?_
                refine lv_iload_n hx hb d_L_divide_161 rfl (lv_at hl 4 rfl) ?_
                refine wl_regs hx hb hw (by omega) d_L_divide_162 ?_
                refine lv_aload_n hx hb d_L_divide_163 rfl (lv_at hl 3 rfl) ?_
                refine wg_Self_division hx hb hC hw bw_188 d_L_divide_164 ?_
                refine wg_Division_quotient (i := 0) hx hb hC hw (by omega) bw_92 d_L_divide_167 ?_
                refine lv_iload hx hb d_L_divide_170 (lv_at hl 2 rfl) ?_
                refine lv_iload hx hb d_L_divide_172 (lv_at hl 1 rfl) ?_
                refine n_icmp_eq (tgt := 181) hx hb d_L_divide_174 (by decide) (by omega) (by omega) (fun hw9 => ?_) (fun hw9 => ?_)
                · refine lv_iconst (v := nI 0) hx hb d_L_divide_181 (by decide +kernel) ?_
                  refine sw_i (y := (bI false)) (rfl) ?_
                  refine wcV_v (As := [.ref (wa T (13 + 3 * 0)), .int (bI false)]) hx hb hC hw (k_W_take l T V1 K I O x (13 + 3 * 0) false (by omega) (by omega) hc1.2) lk_L_71 rfl rfl ⟨by show 2 + 1 ≤ R.frames; omega, by show 8 + (3 + 11) + 45 ≤ R.locals; omega⟩ (by omega) (we_Whole (by omega)) rfl rfl hl.1 rfl (Nat.le_of_ble_eq_true rfl) ⟨Nat.zero_le _, Nat.zero_le _⟩ d_L_divide_182 (fun H locs hw => ?_)
                  have hc3 := hc1.take (b := false) hx9 q1 (Nat.lt_of_le_of_lt (Nat.div_le_self _ _) (hc.1 i hi9).1)
                  have r3 : (va_up V1 x (V1 (13 + 3 * 0))) (14 + 3 * 0) = _ := (va_up_ne _ _ (by omega)).trans r1
                  refine lv_aload_n hx hb d_L_divide_185 rfl (lv_at hl 3 rfl) ?_
                  refine wg_Self_registers hx hb hC hw bw_185 d_L_divide_186 ?_
                  refine lv_iload_n hx hb d_L_divide_189 rfl (lv_at hl 5 rfl) ?_
                  refine wl_regs hx hb hw (by omega) d_L_divide_190 ?_
                  refine lv_aload_n hx hb d_L_divide_191 rfl (lv_at hl 3 rfl) ?_
                  refine wg_Self_division hx hb hC hw bw_188 d_L_divide_192 ?_
                  refine wg_Division_rest (i := 0) hx hb hC hw (by omega) bw_96 d_L_divide_195 ?_
                  refine lv_iload hx hb d_L_divide_198 (lv_at hl 0 rfl) ?_
                  refine sw_i (y := (bI false)) (rfl) ?_
                  refine wcV_v (As := [.ref (wa T (14 + 3 * 0)), .int (bI false)]) hx hb hC hw (k_W_take l T (va_up V1 x (V1 (13 + 3 * 0))) (va_up K x (bI (false && !decide (V1 (13 + 3 * 0) = 0)))) I O k (14 + 3 * 0) false (by omega) (by omega) hc3.2) lk_L_71 rfl rfl ⟨by show 2 + 1 ≤ R.frames; omega, by show 8 + (3 + 11) + 45 ≤ R.locals; omega⟩ (by omega) (we_Whole (by omega)) rfl rfl hl.1 rfl (Nat.le_of_ble_eq_true rfl) ⟨Nat.zero_le _, Nat.zero_le _⟩ d_L_divide_200 (fun H locs hw => ?_)
                  exact yv hrt (Nat.zero_le _) (Nat.zero_le _) hx hb (⟨hoc, by rw [rg_nI hx9, rg_nI hk9, rg_nI hi9, rg_nI hj9, dvQ_n dvS_f hbi hbj, dvR_n dvS_f hbi]; exact cQ_take (b := false) hc3 hk9 r3 (Nat.lt_trans (Nat.mod_lt _ (by omega)) (hc.1 j hj9).1) rfl (va_up_ne _ _ (by omega)) (va_up_ne _ _ (by omega)) (va_up_ne _ _ (by omega))⟩) hw d_L_divide_203
                · exact absurd hw9 (by decide)
              · exact absurd hw9 (by decide)
            · have hl : lv_has ls 9 [(0, .ref (wa T 84)), (1, .int (nI x)), (2, .int (nI k)), (3, .int (nI i)), (4, .int (nI j)), (5, .int (nI 1))] := hl
              refine lv_aload_n hx hb d_L_divide_58 rfl (lv_at hl 0 rfl) ?_
              refine wg_Self_registers hx hb hC hw bw_185 d_L_divide_59 ?_
              refine lv_iload_n hx hb d_L_divide_62 rfl (lv_at hl 3 rfl) ?_
              refine wl_regs hx hb hw (by omega) d_L_divide_63 ?_
              refine wg_Whole_below hx hb hC hw (by omega) bw_59 d_L_divide_64 ?_
              refine sw_i (y := nI 0) (hKi) ?_
              refine lv_istore hx hb d_L_divide_67 hl (by decide) rfl (fun ls hl => ?_)
              have hl : lv_has ls 9 [(6, .int (nI 0)), (0, .ref (wa T 84)), (1, .int (nI x)), (2, .int (nI k)), (3, .int (nI i)), (4, .int (nI j)), (5, .int (nI 1))] := hl
              refine lv_aload_n hx hb d_L_divide_69 rfl (lv_at hl 1 rfl) ?_
              refine wg_Self_registers hx hb hC hw bw_185 d_L_divide_70 ?_
              refine lv_iload hx hb d_L_divide_73 (lv_at hl 5 rfl) ?_
              refine wl_regs hx hb hw (by omega) d_L_divide_75 ?_
              refine wg_Whole_below hx hb hC hw (by omega) bw_59 d_L_divide_76 ?_
              refine sw_i (y := nI 0) (hKj) ?_
              refine lv_istore hx hb d_L_divide_79 hl (by decide) rfl (fun ls hl => ?_)
              have hl : lv_has ls 9 [(7, .int (nI 0)), (6, .int (nI 0)), (0, .ref (wa T 84)), (1, .int (nI x)), (2, .int (nI k)), (3, .int (nI i)), (4, .int (nI j)), (5, .int (nI 1))] := hl
              refine lv_iload hx hb d_L_divide_81 (lv_at hl 1 rfl) ?_
              refine lv_istore hx hb d_L_divide_83 hl (by decide) rfl (fun ls hl => ?_)
              have hl : lv_has ls 9 [(8, .int (nI 0)), (7, .int (nI 0)), (6, .int (nI 0)), (0, .ref (wa T 84)), (1, .int (nI x)), (2, .int (nI k)), (3, .int (nI i)), (4, .int (nI j)), (5, .int (nI 1))] := hl
              refine lv_aload_n hx hb d_L_divide_85 rfl (lv_at hl 3 rfl) ?_
              refine wg_Self_division hx hb hC hw bw_188 d_L_divide_86 ?_
              refine lv_aload_n hx hb d_L_divide_89 rfl (lv_at hl 3 rfl) ?_
              refine wg_Self_registers hx hb hC hw bw_185 d_L_divide_90 ?_
              refine lv_iload_n hx hb d_L_divide_93 rfl (lv_at hl 6 rfl) ?_
              refine wl_regs hx hb hw (by omega) d_L_divide_94 ?_
              refine wg_Whole_size hx hb hC hw (by omega) bw_55 d_L_divide_95 ?_
              refine lv_aload_n hx hb d_L_divide_98 rfl (lv_at hl 3 rfl) ?_
              refine wg_Self_registers hx hb hC hw bw_185 d_L_divide_99 ?_
              refine lv_iload hx hb d_L_divide_102 (lv_at hl 7 rfl) ?_
              refine wl_regs hx hb hw (by omega) d_L_divide_104 ?_
              refine wg_Whole_size hx hb hC hw (by omega) bw_55 d_L_divide_105 ?_
              refine wcV_v (As := [.ref (wa T i), .ref (wa T j)]) hx hb hC hw (k_D_run l T V K I O 0 i j (by omega) (by omega) (by omega) (Or.inl (by omega)) (Or.inl (by omega)) (sp_fit1 (hc.lt hi9) (hc.lt hj9) (by omega)) hc.2) lk_L_104 rfl rfl ⟨by show 3 + 1 ≤ R.frames; omega, by show 8 + (6 + 11) + 80 ≤ R.locals; omega⟩ (by omega) (we_Division (by omega)) rfl rfl hl.1 rfl (Nat.le_of_ble_eq_true rfl) ⟨Nat.zero_le _, Nat.zero_le _⟩ d_L_divide_108 (fun H locs hw => ?_)
              have q1 := dvV_quot V 0 i j
              have r1 := dvV_rest V 0 i j
              have o1 : ∀ n, n < 13 → dvV V 0 i j n = V n := fun n hn => dvV_out (Or.inl (by omega))
              have l1 := dvV_lim (d := 0) (a := i) (b := j) (by omega) (by omega) (by omega) hc.2
              rw [(hc.1 i hi9).2.1, (hc.1 j hj9).2.1] at q1 r1
              generalize dvV V 0 i j = V1 at hw q1 r1 o1 l1
              have hc1 : cI z V1 K := hc.same (fun n hn => o1 n (by omega)) l1 (fun _ _ => rfl)
              refine lv_iload hx hb d_L_divide_111 (lv_at hl 8 rfl) ?_
              refine n_if_eq (tgt := 157) hx hb d_L_divide_113 (by decide) (by omega) (fun hw9 => ?_) (fun hw9 => ?_)
              · exact absurd hw9 (by decide)
              · refine lv_iload hx hb d_L_divide_116 (lv_at hl 2 rfl) ?_
                refine lv_iload hx hb d_L_divide_118 (lv_at hl 1 rfl) ?_
                refine n_icmp_eq (tgt := 157) hx hb d_L_divide_120 (by decide) (by omega) (by omega) (fun hw9 => ?_) (fun hw9 => ?_)
                · refine lv_aload_n hx hb d_L_divide_157 rfl (lv_at hl 3 rfl) ?_
                  refine wg_Self_registers hx hb hC hw bw_185 d_L_divide_158 ?_
                  refine lv_iload_n hx hb d_L_divide_161 rfl (lv_at hl 4 rfl) ?_
                  refine wl_regs hx hb hw (by omega) d_L_divide_162 ?_
                  refine lv_aload_n hx hb d_L_divide_163 rfl (lv_at hl 3 rfl) ?_
                  refine wg_Self_division hx hb hC hw bw_188 d_L_divide_164 ?_
                  refine wg_Division_quotient (i := 0) hx hb hC hw (by omega) bw_92 d_L_divide_167 ?_
                  refine lv_iload hx hb d_L_divide_170 (lv_at hl 2 rfl) ?_
                  refine lv_iload hx hb d_L_divide_172 (lv_at hl 1 rfl) ?_
                  refine n_icmp_eq (tgt := 181) hx hb d_L_divide_174 (by decide) (by omega) (by omega) (fun hw9 => ?_) (fun hw9 => ?_)
                  · refine lv_iconst (v := nI 0) hx hb d_L_divide_181 (by decide +kernel) ?_
                    refine sw_i (y := (bI false)) (rfl) ?_
                    refine wcV_v (As := [.ref (wa T (13 + 3 * 0)), .int (bI false)]) hx hb hC hw (k_W_take l T V1 K I O x (13 + 3 * 0) false (by omega) (by omega) hc1.2) lk_L_71 rfl rfl ⟨by show 2 + 1 ≤ R.frames; omega, by show 8 + (3 + 11) + 45 ≤ R.locals; omega⟩ (by omega) (we_Whole (by omega)) rfl rfl hl.1 rfl (Nat.le_of_ble_eq_true rfl) ⟨Nat.zero_le _, Nat.zero_le _⟩ d_L_divide_182 (fun H locs hw => ?_)
                    have hc3 := hc1.take (b := false) hx9 q1 (Nat.lt_of_le_of_lt (Nat.div_le_self _ _) (hc.1 i hi9).1)
                    have r3 : (va_up V1 x (V1 (13 + 3 * 0))) (14 + 3 * 0) = _ := (va_up_ne _ _ (by omega)).trans r1
                    refine lv_aload_n hx hb d_L_divide_185 rfl (lv_at hl 3 rfl) ?_
                    refine wg_Self_registers hx hb hC hw bw_185 d_L_divide_186 ?_
                    refine lv_iload_n hx hb d_L_divide_189 rfl (lv_at hl 5 rfl) ?_
                    refine wl_regs hx hb hw (by omega) d_L_divide_190 ?_
                    refine lv_aload_n hx hb d_L_divide_191 rfl (lv_at hl 3 rfl) ?_
                    refine wg_Self_division hx hb hC hw bw_188 d_L_divide_192 ?_
                    refine wg_Division_rest (i := 0) hx hb hC hw (by omega) bw_96 d_L_divide_195 ?_
                    refine lv_iload hx hb d_L_divide_198 (lv_at hl 0 rfl) ?_
                    refine sw_i (y := (bI false)) (rfl) ?_
                    refine wcV_v (As := [.ref (wa T (14 + 3 * 0)), .int (bI false)]) hx hb hC hw (k_W_take l T (va_up V1 x (V1 (13 + 3 * 0))) (va_up K x (bI (false && !decide (V1 (13 + 3 * 0) = 0)))) I O k (14 + 3 * 0) false (by omega) (by omega) hc3.2) lk_L_71 rfl rfl ⟨by show 2 + 1 ≤ R.frames; omega, by show 8 + (3 + 11) + 45 ≤ R.locals; omega⟩ (by omega) (we_Whole (by omega)) rfl rfl hl.1 rfl (Nat.le_of_ble_eq_true rfl) ⟨Nat.zero_le _, Nat.zero_le _⟩ d_L_divide_200 (fun H locs hw => ?_)
                    exact yv hrt (Nat.zero_le _) (Nat.zero_le _) hx hb (⟨hoc, by rw [rg_nI hx9, rg_nI hk9, rg_nI hi9, rg_nI hj9, dvQ_n (dvS_e hbi hbj) hbi hbj, dvR_n (dvS_e hbi hbj) hbi]; exact cQ_take (b := false) hc3 hk9 r3 (Nat.lt_trans (Nat.mod_lt _ (by omega)) (hc.1 j hj9).1) rfl (va_up_ne _ _ (by omega)) (va_up_ne _ _ (by omega)) (va_up_ne _ _ (by omega))⟩) hw d_L_divide_203
                  · exact absurd hw9 (by decide)
                · exact absurd hw9 (by decide)
          · cases dn
            · have hl : lv_has ls 9 [(0, .ref (wa T 84)), (1, .int (nI x)), (2, .int (nI k)), (3, .int (nI i)), (4, .int (nI j)), (5, .int (nI 0))] := hl
              refine lv_aload_n hx hb d_L_divide_58 rfl (lv_at hl 0 rfl) ?_
              refine wg_Self_registers hx hb hC hw bw_185 d_L_divide_59 ?_
              refine lv_iload_n hx hb d_L_divide_62 rfl (lv_at hl 3 rfl) ?_
              refine wl_regs hx hb hw (by omega) d_L_divide_63 ?_
              refine wg_Whole_below hx hb hC hw (by omega) bw_59 d_L_divide_64 ?_
              refine sw_i (y := nI 0) (hKi) ?_
              refine lv_istore hx hb d_L_divide_67 hl (by decide) rfl (fun ls hl => ?_)
              have hl : lv_has ls 9 [(6, .int (nI 0)), (0, .ref (wa T 84)), (1, .int (nI x)), (2, .int (nI k)), (3, .int (nI i)), (4, .int (nI j)), (5, .int (nI 0))] := hl
              refine lv_aload_n hx hb d_L_divide_69 rfl (lv_at hl 1 rfl) ?_
              refine wg_Self_registers hx hb hC hw bw_185 d_L_divide_70 ?_
              refine lv_iload hx hb d_L_divide_73 (lv_at hl 5 rfl) ?_
              refine wl_regs hx hb hw (by omega) d_L_divide_75 ?_
              refine wg_Whole_below hx hb hC hw (by omega) bw_59 d_L_divide_76 ?_
              refine sw_i (y := nI 1) (hKj) ?_
              refine lv_istore hx hb d_L_divide_79 hl (by decide) rfl (fun ls hl => ?_)
              have hl : lv_has ls 9 [(7, .int (nI 1)), (6, .int (nI 0)), (0, .ref (wa T 84)), (1, .int (nI x)), (2, .int (nI k)), (3, .int (nI i)), (4, .int (nI j)), (5, .int (nI 0))] := hl
              refine lv_iload hx hb d_L_divide_81 (lv_at hl 1 rfl) ?_
              refine lv_istore hx hb d_L_divide_83 hl (by decide) rfl (fun ls hl => ?_)
              have hl : lv_has ls 9 [(8, .int (nI 0)), (7, .int (nI 1)), (6, .int (nI 0)), (0, .ref (wa T 84)), (1, .int (nI x)), (2, .int (nI k)), (3, .int (nI i)), (4, .int (nI j)), (5, .int (nI 0))] := hl
              refine lv_aload_n hx hb d_L_divide_85 rfl (lv_at hl 3 rfl) ?_
              refine wg_Self_division hx hb hC hw bw_188 d_L_divide_86 ?_
              refine lv_aload_n hx hb d_L_divide_89 rfl (lv_at hl 3 rfl) ?_
              refine wg_Self_registers hx hb hC hw bw_185 d_L_divide_90 ?_
              refine lv_iload_n hx hb d_L_divide_93 rfl (lv_at hl 6 rfl) ?_
              refine wl_regs hx hb hw (by omega) d_L_divide_94 ?_
              refine wg_Whole_size hx hb hC hw (by omega) bw_55 d_L_divide_95 ?_
              refine lv_aload_n hx hb d_L_divide_98 rfl (lv_at hl 3 rfl) ?_
              refine wg_Self_registers hx hb hC hw bw_185 d_L_divide_99 ?_
              refine lv_iload hx hb d_L_divide_102 (lv_at hl 7 rfl) ?_
              refine wl_regs hx hb hw (by omega) d_L_divide_104 ?_
              refine wg_Whole_size hx hb hC hw (by omega) bw_55 d_L_divide_105 ?_
              refine wcV_v (As := [.ref (wa T i), .ref (wa T j)]) hx hb hC hw (k_D_run l T V K I O 0 i j (by omega) (by omega) (by omega) (Or.inl (by omega)) (Or.inl (by omega)) (sp_fit1 (hc.lt hi9) (hc.lt hj9) (by omega)) hc.2) lk_L_104 rfl rfl ⟨by show 3 + 1 ≤ R.frames; omega, by show 8 + (6 + 11) + 80 ≤ R.locals; omega⟩ (by omega) (we_Division (by omega)) rfl rfl hl.1 rfl (Nat.le_of_ble_eq_true rfl) ⟨Nat.zero_le _, Nat.zero_le _⟩ d_L_divide_108 (fun H locs hw => ?_)
              have q1 := dvV_quot V 0 i j
              have r1 := dvV_rest V 0 i j
              have o1 : ∀ n, n < 13 → dvV V 0 i j n = V n := fun n hn => dvV_out (Or.inl (by omega))
              have l1 := dvV_lim (d := 0) (a := i) (b := j) (by omega) (by omega) (by omega) hc.2
              rw [(hc.1 i hi9).2.1, (hc.1 j hj9).2.1] at q1 r1
              generalize dvV V 0 i j = V1 at hw q1 r1 o1 l1
              have hc1 : cI z V1 K := hc.same (fun n hn => o1 n (by omega)) l1 (fun _ _ => rfl)
              refine lv_iload hx hb d_L_divide_111 (lv_at hl 8 rfl) ?_
              refine n_if_eq (tgt := 157) hx hb d_L_divide_113 (by decide) (by omega) (fun hw9 => ?_) (fun hw9 => ?_)
              · refine lv_aload_n hx hb d_L_divide_157 rfl (lv_at hl 3 rfl) ?_
                refine wg_Self_registers hx hb hC hw bw_185 d_L_divide_158 ?_
                refine lv_iload_n hx hb d_L_divide_161 rfl (lv_at hl 4 rfl) ?_
                refine wl_regs hx hb hw (by omega) d_L_divide_162 ?_
                refine lv_aload_n hx hb d_L_divide_163 rfl (lv_at hl 3 rfl) ?_
                refine wg_Self_division hx hb hC hw bw_188 d_L_divide_164 ?_
                refine wg_Division_quotient (i := 0) hx hb hC hw (by omega) bw_92 d_L_divide_167 ?_
                refine lv_iload hx hb d_L_divide_170 (lv_at hl 2 rfl) ?_
                refine lv_iload hx hb d_L_divide_172 (lv_at hl 1 rfl) ?_
                refine n_icmp_eq (tgt := 181) hx hb d_L_divide_174 (by decide) (by omega) (by omega) (fun hw9 => ?_) (fun hw9 => ?_)
                · exact absurd hw9 (by decide)
                · refine lv_iconst (v := nI 1) hx hb d_L_divide_177 (by decide +kernel) ?_
                  refine lv_goto (tgt := 182) hx hb d_L_divide_178 (by decide) ?_
                  refine sw_i (y := (bI true)) (rfl) ?_
                  refine wcV_v (As := [.ref (wa T (13 + 3 * 0)), .int (bI true)]) hx hb hC hw (k_W_take l T V1 K I O x (13 + 3 * 0) true (by omega) (by omega) hc1.2) lk_L_71 rfl rfl ⟨by show 2 + 1 ≤ R.frames; omega, by show 8 + (3 + 11) + 45 ≤ R.locals; omega⟩ (by omega) (we_Whole (by omega)) rfl rfl hl.1 rfl (Nat.le_of_ble_eq_true rfl) ⟨Nat.zero_le _, Nat.zero_le _⟩ d_L_divide_182 (fun H locs hw => ?_)
                  have hc3 := hc1.take (b := true) hx9 q1 (Nat.lt_of_le_of_lt (Nat.div_le_self _ _) (hc.1 i hi9).1)
                  have r3 : (va_up V1 x (V1 (13 + 3 * 0))) (14 + 3 * 0) = _ := (va_up_ne _ _ (by omega)).trans r1
                  refine lv_aload_n hx hb d_L_divide_185 rfl (lv_at hl 3 rfl) ?_
                  refine wg_Self_registers hx hb hC hw bw_185 d_L_divide_186 ?_
                  refine lv_iload_n hx hb d_L_divide_189 rfl (lv_at hl 5 rfl) ?_
                  refine wl_regs hx hb hw (by omega) d_L_divide_190 ?_
                  refine lv_aload_n hx hb d_L_divide_191 rfl (lv_at hl 3 rfl) ?_
                  refine wg_Self_division hx hb hC hw bw_188 d_L_divide_192 ?_
                  refine wg_Division_rest (i := 0) hx hb hC hw (by omega) bw_96 d_L_divide_195 ?_
                  refine lv_iload hx hb d_L_divide_198 (lv_at hl 0 rfl) ?_
                  refine sw_i (y := (bI false)) (rfl) ?_
                  refine wcV_v (As := [.ref (wa T (14 + 3 * 0)), .int (bI false)]) hx hb hC hw (k_W_take l T (va_up V1 x (V1 (13 + 3 * 0))) (va_up K x (bI (true && !decide (V1 (13 + 3 * 0) = 0)))) I O k (14 + 3 * 0) false (by omega) (by omega) hc3.2) lk_L_71 rfl rfl ⟨by show 2 + 1 ≤ R.frames; omega, by show 8 + (3 + 11) + 45 ≤ R.locals; omega⟩ (by omega) (we_Whole (by omega)) rfl rfl hl.1 rfl (Nat.le_of_ble_eq_true rfl) ⟨Nat.zero_le _, Nat.zero_le _⟩ d_L_divide_200 (fun H locs hw => ?_)
                  exact yv hrt (Nat.zero_le _) (Nat.zero_le _) hx hb (⟨hoc, by rw [rg_nI hx9, rg_nI hk9, rg_nI hi9, rg_nI hj9, dvQ_n dvS_f hbi hbj, dvR_n dvS_f hbi]; exact cQ_take (b := false) hc3 hk9 r3 (Nat.lt_trans (Nat.mod_lt _ (by omega)) (hc.1 j hj9).1) rfl (va_up_ne _ _ (by omega)) (va_up_ne _ _ (by omega)) (va_up_ne _ _ (by omega))⟩) hw d_L_divide_203
              · exact absurd hw9 (by decide)
            · have hl : lv_has ls 9 [(0, .ref (wa T 84)), (1, .int (nI x)), (2, .int (nI k)), (3, .int (nI i)), (4, .int (nI j)), (5, .int (nI 1))] := hl
              refine lv_aload_n hx hb d_L_divide_58 rfl (lv_at hl 0 rfl) ?_
              refine wg_Self_registers hx hb hC hw bw_185 d_L_divide_59 ?_
              refine lv_iload_n hx hb d_L_divide_62 rfl (lv_at hl 3 rfl) ?_
              refine wl_regs hx hb hw (by omega) d_L_divide_63 ?_
              refine wg_Whole_below hx hb hC hw (by omega) bw_59 d_L_divide_64 ?_
              refine sw_i (y := nI 0) (hKi) ?_
              refine lv_istore hx hb d_L_divide_67 hl (by decide) rfl (fun ls hl => ?_)
              have hl : lv_has ls 9 [(6, .int (nI 0)), (0, .ref (wa T 84)), (1, .int (nI x)), (2, .int (nI k)), (3, .int (nI i)), (4, .int (nI j)), (5, .int (nI 1))] := hl
              refine lv_aload_n hx hb d_L_divide_69 rfl (lv_at hl 1 rfl) ?_
              refine wg_Self_registers hx hb hC hw bw_185 d_L_divide_70 ?_
              refine lv_iload hx hb d_L_divide_73 (lv_at hl 5 rfl) ?_
              refine wl_regs hx hb hw (by omega) d_L_divide_75 ?_
              refine wg_Whole_below hx hb hC hw (by omega) bw_59 d_L_divide_76 ?_
              refine sw_i (y := nI 1) (hKj) ?_
              refine lv_istore hx hb d_L_divide_79 hl (by decide) rfl (fun ls hl => ?_)
              have hl : lv_has ls 9 [(7, .int (nI 1)), (6, .int (nI 0)), (0, .ref (wa T 84)), (1, .int (nI x)), (2, .int (nI k)), (3, .int (nI i)), (4, .int (nI j)), (5, .int (nI 1))] := hl
              refine lv_iload hx hb d_L_divide_81 (lv_at hl 1 rfl) ?_
              refine lv_istore hx hb d_L_divide_83 hl (by decide) rfl (fun ls hl => ?_)
              have hl : lv_has ls 9 [(8, .int (nI 0)), (7, .int (nI 1)), (6, .int (nI 0)), (0, .ref (wa T 84)), (1, .int (nI x)), (2, .int (nI k)), (3, .int (nI i)), (4, .int (nI j)), (5, .int (nI 1))] := hl
              refine lv_aload_n hx hb d_L_divide_85 rfl (lv_at hl 3 rfl) ?_
              refine wg_Self_division hx hb hC hw bw_188 d_L_divide_86 ?_
              refine lv_aload_n hx hb d_L_divide_89 rfl (lv_at hl 3 rfl) ?_
              refine wg_Self_registers hx hb hC hw bw_185 d_L_divide_90 ?_
              refine lv_iload_n hx hb d_L_divide_93 rfl (lv_at hl 6 rfl) ?_
              refine wl_regs hx hb hw (by omega) d_L_divide_94 ?_
              refine wg_Whole_size hx hb hC hw (by omega) bw_55 d_L_divide_95 ?_
              refine lv_aload_n hx hb d_L_divide_98 rfl (lv_at hl 3 rfl) ?_
              refine wg_Self_registers hx hb hC hw bw_185 d_L_divide_99 ?_
              refine lv_iload hx hb d_L_divide_102 (lv_at hl 7 rfl) ?_
              refine wl_regs hx hb hw (by omega) d_L_divide_104 ?_
              refine wg_Whole_size hx hb hC hw (by omega) bw_55 d_L_divide_105 ?_
              refine wcV_v (As := [.ref (wa T i), .ref (wa T j)]) hx hb hC hw (k_D_run l T V K I O 0 i j (by omega) (by omega) (by omega) (Or.inl (by omega)) (Or.inl (by omega)) (sp_fit1 (hc.lt hi9) (hc.lt hj9) (by omega)) hc.2) lk_L_104 rfl rfl ⟨by show 3 + 1 ≤ R.frames; omega, by show 8 + (6 + 11) + 80 ≤ R.locals; omega⟩ (by omega) (we_Division (by omega)) rfl rfl hl.1 rfl (Nat.le_of_ble_eq_true rfl) ⟨Nat.zero_le _, Nat.zero_le _⟩ d_L_divide_108 (fun H locs hw => ?_)
              have q1 := dvV_quot V 0 i j
              have r1 := dvV_rest V 0 i j
              have o1 : ∀ n, n < 13 → dvV V 0 i j n = V n := fun n hn => dvV_out (Or.inl (by omega))
              have l1 := dvV_lim (d := 0) (a := i) (b := j) (by omega) (by omega) (by omega) hc.2
              rw [(hc.1 i hi9).2.1, (hc.1 j hj9).2.1] at q1 r1
              generalize dvV V 0 i j = V1 at hw q1 r1 o1 l1
              have hc1 : cI z V1 K := hc.same (fun n hn => o1 n (by omega)) l1 (fun _ _ => rfl)
              refine lv_iload hx hb d_L_divide_111 (lv_at hl 8 rfl) ?_
              refine n_if_eq (tgt := 157) hx hb d_L_divide_113 (by decide) (by omega) (fun hw9 => ?_) (fun hw9 => ?_)
              · exact absurd hw9 (by decide)
              · refine lv_iload hx hb d_L_divide_116 (lv_at hl 2 rfl) ?_
                refine lv_iload hx hb d_L_divide_118 (lv_at hl 1 rfl) ?_
                refine n_icmp_eq (tgt := 157) hx hb d_L_divide_120 (by decide) (by omega) (by omega) (fun hw9 => ?_) (fun hw9 => ?_)
                · exact absurd hw9 (by decide)
                · refine lv_aload_n hx hb d_L_divide_123 rfl (lv_at hl 3 rfl) ?_
                  refine wg_Self_division hx hb hC hw bw_188 d_L_divide_124 ?_
                  refine wg_Division_rest (i := 0) hx hb hC hw (by omega) bw_96 d_L_divide_127 ?_
                  refine wcV_z (As := []) hx hb hC hw (k_N_isZero l T V1 K I O (14 + 3 * 0) (by omega) l1) lk_L_93 rfl rfl ⟨by show 0 + 1 ≤ R.frames; omega, by show 8 + (1 + 11) + 0 ≤ R.locals; omega⟩ (by omega) (we_Natural (by omega)) rfl rfl hl.1 rfl (Nat.le_of_ble_eq_true rfl) ⟨Nat.zero_le _, Nat.zero_le _⟩ d_L_divide_130 (fun H locs hw => ?_)
                  by_cases hz9 : V1 (14 + 3 * 0) = 0
                  · refine sw_i (y := nI 1) (by rw [if_pos hz9]; rfl) ?_
                    refine n_if_ne (tgt := 157) hx hb d_L_divide_133 (by decide) (by omega) (fun hw9 => ?_) (fun hw9 => ?_)
                    · refine lv_aload_n hx hb d_L_divide_157 rfl (lv_at hl 3 rfl) ?_
                      refine wg_Self_registers hx hb hC hw bw_185 d_L_divide_158 ?_
                      refine lv_iload_n hx hb d_L_divide_161 rfl (lv_at hl 4 rfl) ?_
                      refine wl_regs hx hb hw (by omega) d_L_divide_162 ?_
                      refine lv_aload_n hx hb d_L_divide_163 rfl (lv_at hl 3 rfl) ?_
                      refine wg_Self_division hx hb hC hw bw_188 d_L_divide_164 ?_
                      refine wg_Division_quotient (i := 0) hx hb hC hw (by omega) bw_92 d_L_divide_167 ?_
                      refine lv_iload hx hb d_L_divide_170 (lv_at hl 2 rfl) ?_
                      refine lv_iload hx hb d_L_divide_172 (lv_at hl 1 rfl) ?_
                      refine n_icmp_eq (tgt := 181) hx hb d_L_divide_174 (by decide) (by omega) (by omega) (fun hw9 => ?_) (fun hw9 => ?_)
                      · exact absurd hw9 (by decide)
                      · refine lv_iconst (v := nI 1) hx hb d_L_divide_177 (by decide +kernel) ?_
                        refine lv_goto (tgt := 182) hx hb d_L_divide_178 (by decide) ?_
                        refine sw_i (y := (bI true)) (rfl) ?_
                        refine wcV_v (As := [.ref (wa T (13 + 3 * 0)), .int (bI true)]) hx hb hC hw (k_W_take l T V1 K I O x (13 + 3 * 0) true (by omega) (by omega) hc1.2) lk_L_71 rfl rfl ⟨by show 2 + 1 ≤ R.frames; omega, by show 8 + (3 + 11) + 45 ≤ R.locals; omega⟩ (by omega) (we_Whole (by omega)) rfl rfl hl.1 rfl (Nat.le_of_ble_eq_true rfl) ⟨Nat.zero_le _, Nat.zero_le _⟩ d_L_divide_182 (fun H locs hw => ?_)
                        have hc3 := hc1.take (b := true) hx9 q1 (Nat.lt_of_le_of_lt (Nat.div_le_self _ _) (hc.1 i hi9).1)
                        have r3 : (va_up V1 x (V1 (13 + 3 * 0))) (14 + 3 * 0) = _ := (va_up_ne _ _ (by omega)).trans r1
                        refine lv_aload_n hx hb d_L_divide_185 rfl (lv_at hl 3 rfl) ?_
                        refine wg_Self_registers hx hb hC hw bw_185 d_L_divide_186 ?_
                        refine lv_iload_n hx hb d_L_divide_189 rfl (lv_at hl 5 rfl) ?_
                        refine wl_regs hx hb hw (by omega) d_L_divide_190 ?_
                        refine lv_aload_n hx hb d_L_divide_191 rfl (lv_at hl 3 rfl) ?_
                        refine wg_Self_division hx hb hC hw bw_188 d_L_divide_192 ?_
                        refine wg_Division_rest (i := 0) hx hb hC hw (by omega) bw_96 d_L_divide_195 ?_
                        refine lv_iload hx hb d_L_divide_198 (lv_at hl 0 rfl) ?_
                        refine sw_i (y := (bI false)) (rfl) ?_
                        refine wcV_v (As := [.ref (wa T (14 + 3 * 0)), .int (bI false)]) hx hb hC hw (k_W_take l T (va_up V1 x (V1 (13 + 3 * 0))) (va_up K x (bI (true && !decide (V1 (13 + 3 * 0) = 0)))) I O k (14 + 3 * 0) false (by omega) (by omega) hc3.2) lk_L_71 rfl rfl ⟨by show 2 + 1 ≤ R.frames; omega, by show 8 + (3 + 11) + 45 ≤ R.locals; omega⟩ (by omega) (we_Whole (by omega)) rfl rfl hl.1 rfl (Nat.le_of_ble_eq_true rfl) ⟨Nat.zero_le _, Nat.zero_le _⟩ d_L_divide_200 (fun H locs hw => ?_)
                        exact yv hrt (Nat.zero_le _) (Nat.zero_le _) hx hb (⟨hoc, by rw [rg_nI hx9, rg_nI hk9, rg_nI hi9, rg_nI hj9, dvQ_n (dvS_z (r1.symm.trans hz9)) hbi hbj, dvR_n (dvS_z (r1.symm.trans hz9)) hbi]; exact cQ_take (b := false) hc3 hk9 r3 (Nat.lt_trans (Nat.mod_lt _ (by omega)) (hc.1 j hj9).1) rfl (va_up_ne _ _ (by omega)) (va_up_ne _ _ (by omega)) (va_up_ne _ _ (by omega))⟩) hw d_L_divide_203
                    · exact absurd hw9 (by decide)
                  · refine sw_i (y := nI 0) (by rw [if_neg hz9]; rfl) ?_
                    refine n_if_ne (tgt := 157) hx hb d_L_divide_133 (by decide) (by omega) (fun hw9 => ?_) (fun hw9 => ?_)
                    · exact absurd hw9 (by decide)
                    · have hr9 : ¬ (z i).natAbs % (z j).natAbs = 0 := fun h => hz9 (r1.trans h)
                      have rl : (z i).natAbs % (z j).natAbs < (z j).natAbs := Nat.mod_lt _ (by omega)
                      have qle := dv_q1 hr9
                      have ej : V1 j = (z j).natAbs := (hc1.1 j hj9).2.1
                      have ql : V1 (13 + 3 * 0) + 1 < m1024 := by rw [q1]; exact Nat.lt_of_le_of_lt qle (hc.1 i hi9).1
                      have qk := k37 (Nat.lt_of_succ_lt ql)
                      refine lv_aload_n hx hb d_L_divide_136 rfl (lv_at hl 3 rfl) ?_
                      refine wg_Self_division hx hb hC hw bw_188 d_L_divide_137 ?_
                      refine lv_aload_n hx hb d_L_divide_140 rfl (lv_at hl 3 rfl) ?_
                      refine wg_Self_registers hx hb hC hw bw_185 d_L_divide_141 ?_
                      refine lv_iload hx hb d_L_divide_144 (lv_at hl 7 rfl) ?_
                      refine wl_regs hx hb hw (by omega) d_L_divide_146 ?_
                      refine wg_Whole_size hx hb hC hw (by omega) bw_55 d_L_divide_147 ?_
                      refine wcV_v (As := [.ref (wa T j)]) hx hb hC hw (k_D_stepOver l T V1 K I O 0 j (by omega) (by omega) (Or.inl (by omega)) (by omega) (by rw [r1, ej]; exact Nat.le_of_lt rl) l1) lk_L_111 rfl rfl ⟨by show 2 + 1 ≤ R.frames; omega, by show 8 + (2 + 11) + 48 ≤ R.locals; omega⟩ (by omega) (we_Division (by omega)) rfl rfl hl.1 rfl (Nat.le_of_ble_eq_true rfl) ⟨Nat.zero_le _, Nat.zero_le _⟩ d_L_divide_150 (fun H locs hw => ?_)
                      have q2 : (va_up (va_up V1 (13 + 3 * 0) (V1 (13 + 3 * 0) + 1)) (14 + 3 * 0) (V1 j - V1 (14 + 3 * 0))) (13 + 3 * 0) = (z i).natAbs / (z j).natAbs + 1 := by rw [va_up_ne _ _ (by omega), va_up_self, q1]
                      have r2 : (va_up (va_up V1 (13 + 3 * 0) (V1 (13 + 3 * 0) + 1)) (14 + 3 * 0) (V1 j - V1 (14 + 3 * 0))) (14 + 3 * 0) = (z j).natAbs - (z i).natAbs % (z j).natAbs := by rw [va_up_self, ej, r1]
                      have hc2 : cI z (va_up (va_up V1 (13 + 3 * 0) (V1 (13 + 3 * 0) + 1)) (14 + 3 * 0) (V1 j - V1 (14 + 3 * 0))) K := (hc1.out (by omega) (Nat.lt_of_lt_of_le ql m1024_lim)).out (by omega) (Nat.lt_of_le_of_lt (Nat.sub_le _ _) (hc1.2 j (by omega)))
                      generalize (va_up (va_up V1 (13 + 3 * 0) (V1 (13 + 3 * 0) + 1)) (14 + 3 * 0) (V1 j - V1 (14 + 3 * 0))) = V2 at hw q2 r2 hc2
                      refine lv_iload hx hb d_L_divide_153 (lv_at hl 1 rfl) ?_
                      refine lv_istore hx hb d_L_divide_155 hl (by decide) rfl (fun ls hl => ?_)
                      have hl : lv_has ls 9 [(8, .int (nI 1)), (7, .int (nI 1)), (6, .int (nI 0)), (0, .ref (wa T 84)), (1, .int (nI x)), (2, .int (nI k)), (3, .int (nI i)), (4, .int (nI j)), (5, .int (nI 1))] := hl
                      refine lv_aload_n hx hb d_L_divide_157 rfl (lv_at hl 3 rfl) ?_
                      refine wg_Self_registers hx hb hC hw bw_185 d_L_divide_158 ?_
                      refine lv_iload_n hx hb d_L_divide_161 rfl (lv_at hl 4 rfl) ?_
                      refine wl_regs hx hb hw (by omega) d_L_divide_162 ?_
                      refine lv_aload_n hx hb d_L_divide_163 rfl (lv_at hl 3 rfl) ?_
                      refine wg_Self_division hx hb hC hw bw_188 d_L_divide_164 ?_
                      refine wg_Division_quotient (i := 0) hx hb hC hw (by omega) bw_92 d_L_divide_167 ?_
                      refine lv_iload hx hb d_L_divide_170 (lv_at hl 2 rfl) ?_
                      refine lv_iload hx hb d_L_divide_172 (lv_at hl 1 rfl) ?_
                      refine n_icmp_eq (tgt := 181) hx hb d_L_divide_174 (by decide) (by omega) (by omega) (fun hw9 => ?_) (fun hw9 => ?_)
                      · exact absurd hw9 (by decide)
                      · refine lv_iconst (v := nI 1) hx hb d_L_divide_177 (by decide +kernel) ?_
                        refine lv_goto (tgt := 182) hx hb d_L_divide_178 (by decide) ?_
                        refine sw_i (y := (bI true)) (rfl) ?_
                        refine wcV_v (As := [.ref (wa T (13 + 3 * 0)), .int (bI true)]) hx hb hC hw (k_W_take l T V2 K I O x (13 + 3 * 0) true (by omega) (by omega) hc2.2) lk_L_71 rfl rfl ⟨by show 2 + 1 ≤ R.frames; omega, by show 8 + (3 + 11) + 45 ≤ R.locals; omega⟩ (by omega) (we_Whole (by omega)) rfl rfl hl.1 rfl (Nat.le_of_ble_eq_true rfl) ⟨Nat.zero_le _, Nat.zero_le _⟩ d_L_divide_182 (fun H locs hw => ?_)
                        have hc3 := hc2.take (b := true) hx9 q2 (Nat.lt_of_le_of_lt qle (hc.1 i hi9).1)
                        have r3 : (va_up V2 x (V2 (13 + 3 * 0))) (14 + 3 * 0) = _ := (va_up_ne _ _ (by omega)).trans r2
                        refine lv_aload_n hx hb d_L_divide_185 rfl (lv_at hl 3 rfl) ?_
                        refine wg_Self_registers hx hb hC hw bw_185 d_L_divide_186 ?_
                        refine lv_iload_n hx hb d_L_divide_189 rfl (lv_at hl 5 rfl) ?_
                        refine wl_regs hx hb hw (by omega) d_L_divide_190 ?_
                        refine lv_aload_n hx hb d_L_divide_191 rfl (lv_at hl 3 rfl) ?_
                        refine wg_Self_division hx hb hC hw bw_188 d_L_divide_192 ?_
                        refine wg_Division_rest (i := 0) hx hb hC hw (by omega) bw_96 d_L_divide_195 ?_
                        refine lv_iload hx hb d_L_divide_198 (lv_at hl 0 rfl) ?_
                        refine sw_i (y := (bI true)) (rfl) ?_
                        refine wcV_v (As := [.ref (wa T (14 + 3 * 0)), .int (bI true)]) hx hb hC hw (k_W_take l T (va_up V2 x (V2 (13 + 3 * 0))) (va_up K x (bI (true && !decide (V2 (13 + 3 * 0) = 0)))) I O k (14 + 3 * 0) true (by omega) (by omega) hc3.2) lk_L_71 rfl rfl ⟨by show 2 + 1 ≤ R.frames; omega, by show 8 + (3 + 11) + 45 ≤ R.locals; omega⟩ (by omega) (we_Whole (by omega)) rfl rfl hl.1 rfl (Nat.le_of_ble_eq_true rfl) ⟨Nat.zero_le _, Nat.zero_le _⟩ d_L_divide_200 (fun H locs hw => ?_)
                        exact yv hrt (Nat.zero_le _) (Nat.zero_le _) hx hb (⟨hoc, by rw [rg_nI hx9, rg_nI hk9, rg_nI hi9, rg_nI hj9, dvQ_s (dvS_t hbi hbj rfl hr9) hbi hbj, dvR_s (dvS_t hbi hbj rfl hr9) hbj]; exact cQ_take (b := true) hc3 hk9 r3 (Nat.lt_of_le_of_lt (Nat.sub_le _ _) (hc.1 j hj9).1) rfl (va_up_ne _ _ (by omega)) (va_up_ne _ _ (by omega)) (va_up_ne _ _ (by omega))⟩) hw d_L_divide_203
        · cases bj
          · cases dn
            · have hl : lv_has ls 9 [(0, .ref (wa T 84)), (1, .int (nI x)), (2, .int (nI k)), (3, .int (nI i)), (4, .int (nI j)), (5, .int (nI 0))] := hl
              refine lv_aload_n hx hb d_L_divide_58 rfl (lv_at hl 0 rfl) ?_
              refine wg_Self_registers hx hb hC hw bw_185 d_L_divide_59 ?_
              refine lv_iload_n hx hb d_L_divide_62 rfl (lv_at hl 3 rfl) ?_
              refine wl_regs hx hb hw (by omega) d_L_divide_63 ?_
              refine wg_Whole_below hx hb hC hw (by omega) bw_59 d_L_divide_64 ?_
              refine sw_i (y := nI 1) (hKi) ?_
              refine lv_istore hx hb d_L_divide_67 hl (by decide) rfl (fun ls hl => ?_)
              have hl : lv_has ls 9 [(6, .int (nI 1)), (0, .ref (wa T 84)), (1, .int (nI x)), (2, .int (nI k)), (3, .int (nI i)), (4, .int (nI j)), (5, .int (nI 0))] := hl
              refine lv_aload_n hx hb d_L_divide_69 rfl (lv_at hl 1 rfl) ?_
              refine wg_Self_registers hx hb hC hw bw_185 d_L_divide_70 ?_
              refine lv_iload hx hb d_L_divide_73 (lv_at hl 5 rfl) ?_
              refine wl_regs hx hb hw (by omega) d_L_divide_75 ?_
              refine wg_Whole_below hx hb hC hw (by omega) bw_59 d_L_divide_76 ?_
              refine sw_i (y := nI 0) (hKj) ?_
              refine lv_istore hx hb d_L_divide_79 hl (by decide) rfl (fun ls hl => ?_)
              have hl : lv_has ls 9 [(7, .int (nI 0)), (6, .int (nI 1)), (0, .ref (wa T 84)), (1, .int (nI x)), (2, .int (nI k)), (3, .int (nI i)), (4, .int (nI j)), (5, .int (nI 0))] := hl
              refine lv_iload hx hb d_L_divide_81 (lv_at hl 1 rfl) ?_
              refine lv_istore hx hb d_L_divide_83 hl (by decide) rfl (fun ls hl => ?_)
              have hl : lv_has ls 9 [(8, .int (nI 1)), (7, .int (nI 0)), (6, .int (nI 1)), (0, .ref (wa T 84)), (1, .int (nI x)), (2, .int (nI k)), (3, .int (nI i)), (4, .int (nI j)), (5, .int (nI 0))] := hl
              refine lv_aload_n hx hb d_L_divide_85 rfl (lv_at hl 3 rfl) ?_
              refine wg_Self_division hx hb hC hw bw_188 d_L_divide_86 ?_
              refine lv_aload_n hx hb d_L_divide_89 rfl (lv_at hl 3 rfl) ?_
              refine wg_Self_registers hx hb hC hw bw_185 d_L_divide_90 ?_
              refine lv_iload_n hx hb d_L_divide_93 rfl (lv_at hl 6 rfl) ?_
              refine wl_regs hx hb hw (by omega) d_L_divide_94 ?_
              refine wg_Whole_size hx hb hC hw (by omega) bw_55 d_L_divide_95 ?_
              refine lv_aload_n hx hb d_L_divide_98 rfl (lv_at hl 3 rfl) ?_
              refine wg_Self_registers hx hb hC hw bw_185 d_L_divide_99 ?_
              refine lv_iload hx hb d_L_divide_102 (lv_at hl 7 rfl) ?_
              refine wl_regs hx hb hw (by omega) d_L_divide_104 ?_
              refine wg_Whole_size hx hb hC hw (by omega) bw_55 d_L_divide_105 ?_
              refine wcV_v (As := [.ref (wa T i), .ref (wa T j)]) hx hb hC hw (k_D_run l T V K I O 0 i j (by omega) (by omega) (by omega) (Or.inl (by omega)) (Or.inl (by omega)) (sp_fit1 (hc.lt hi9) (hc.lt hj9) (by omega)) hc.2) lk_L_104 rfl rfl ⟨by show 3 + 1 ≤ R.frames; omega, by show 8 + (6 + 11) + 80 ≤ R.locals; omega⟩ (by omega) (we_Division (by omega)) rfl rfl hl.1 rfl (Nat.le_of_ble_eq_true rfl) ⟨Nat.zero_le _, Nat.zero_le _⟩ d_L_divide_108 (fun H locs hw => ?_)
              have q1 := dvV_quot V 0 i j
              have r1 := dvV_rest V 0 i j
              have o1 : ∀ n, n < 13 → dvV V 0 i j n = V n := fun n hn => dvV_out (Or.inl (by omega))
              have l1 := dvV_lim (d := 0) (a := i) (b := j) (by omega) (by omega) (by omega) hc.2
              rw [(hc.1 i hi9).2.1, (hc.1 j hj9).2.1] at q1 r1
              generalize dvV V 0 i j = V1 at hw q1 r1 o1 l1
              have hc1 : cI z V1 K := hc.same (fun n hn => o1 n (by omega)) l1 (fun _ _ => rfl)
              refine lv_iload hx hb d_L_divide_111 (lv_at hl 8 rfl) ?_
              refine n_if_eq (tgt := 157) hx hb d_L_divide_113 (by decide) (by omega) (fun hw9 => ?_) (fun hw9 => ?_)
              · refine lv_aload_n hx hb d_L_divide_157 rfl (lv_at hl 3 rfl) ?_
                refine wg_Self_registers hx hb hC hw bw_185 d_L_divide_158 ?_
                refine lv_iload_n hx hb d_L_divide_161 rfl (lv_at hl 4 rfl) ?_
                refine wl_regs hx hb hw (by omega) d_L_divide_162 ?_
                refine lv_aload_n hx hb d_L_divide_163 rfl (lv_at hl 3 rfl) ?_
                refine wg_Self_division hx hb hC hw bw_188 d_L_divide_164 ?_
                refine wg_Division_quotient (i := 0) hx hb hC hw (by omega) bw_92 d_L_divide_167 ?_
                refine lv_iload hx hb d_L_divide_170 (lv_at hl 2 rfl) ?_
                refine lv_iload hx hb d_L_divide_172 (lv_at hl 1 rfl) ?_
                refine n_icmp_eq (tgt := 181) hx hb d_L_divide_174 (by decide) (by omega) (by omega) (fun hw9 => ?_) (fun hw9 => ?_)
                · exact absurd hw9 (by decide)
                · refine lv_iconst (v := nI 1) hx hb d_L_divide_177 (by decide +kernel) ?_
                  refine lv_goto (tgt := 182) hx hb d_L_divide_178 (by decide) ?_
                  refine sw_i (y := (bI true)) (rfl) ?_
                  refine wcV_v (As := [.ref (wa T (13 + 3 * 0)), .int (bI true)]) hx hb hC hw (k_W_take l T V1 K I O x (13 + 3 * 0) true (by omega) (by omega) hc1.2) lk_L_71 rfl rfl ⟨by show 2 + 1 ≤ R.frames; omega, by show 8 + (3 + 11) + 45 ≤ R.locals; omega⟩ (by omega) (we_Whole (by omega)) rfl rfl hl.1 rfl (Nat.le_of_ble_eq_true rfl) ⟨Nat.zero_le _, Nat.zero_le _⟩ d_L_divide_182 (fun H locs hw => ?_)
                  have hc3 := hc1.take (b := true) hx9 q1 (Nat.lt_of_le_of_lt (Nat.div_le_self _ _) (hc.1 i hi9).1)
                  have r3 : (va_up V1 x (V1 (13 + 3 * 0))) (14 + 3 * 0) = _ := (va_up_ne _ _ (by omega)).trans r1
                  refine lv_aload_n hx hb d_L_divide_185 rfl (lv_at hl 3 rfl) ?_
                  refine wg_Self_registers hx hb hC hw bw_185 d_L_divide_186 ?_
                  refine lv_iload_n hx hb d_L_divide_189 rfl (lv_at hl 5 rfl) ?_
                  refine wl_regs hx hb hw (by omega) d_L_divide_190 ?_
                  refine lv_aload_n hx hb d_L_divide_191 rfl (lv_at hl 3 rfl) ?_
                  refine wg_Self_division hx hb hC hw bw_188 d_L_divide_192 ?_
                  refine wg_Division_rest (i := 0) hx hb hC hw (by omega) bw_96 d_L_divide_195 ?_
                  refine lv_iload hx hb d_L_divide_198 (lv_at hl 0 rfl) ?_
                  refine sw_i (y := (bI true)) (rfl) ?_
                  refine wcV_v (As := [.ref (wa T (14 + 3 * 0)), .int (bI true)]) hx hb hC hw (k_W_take l T (va_up V1 x (V1 (13 + 3 * 0))) (va_up K x (bI (true && !decide (V1 (13 + 3 * 0) = 0)))) I O k (14 + 3 * 0) true (by omega) (by omega) hc3.2) lk_L_71 rfl rfl ⟨by show 2 + 1 ≤ R.frames; omega, by show 8 + (3 + 11) + 45 ≤ R.locals; omega⟩ (by omega) (we_Whole (by omega)) rfl rfl hl.1 rfl (Nat.le_of_ble_eq_true rfl) ⟨Nat.zero_le _, Nat.zero_le _⟩ d_L_divide_200 (fun H locs hw => ?_)
                  exact yv hrt (Nat.zero_le _) (Nat.zero_le _) hx hb (⟨hoc, by rw [rg_nI hx9, rg_nI hk9, rg_nI hi9, rg_nI hj9, dvQ_n dvS_f hbi hbj, dvR_n dvS_f hbi]; exact cQ_take (b := true) hc3 hk9 r3 (Nat.lt_trans (Nat.mod_lt _ (by omega)) (hc.1 j hj9).1) rfl (va_up_ne _ _ (by omega)) (va_up_ne _ _ (by omega)) (va_up_ne _ _ (by omega))⟩) hw d_L_divide_203
              · exact absurd hw9 (by decide)
            · have hl : lv_has ls 9 [(0, .ref (wa T 84)), (1, .int (nI x)), (2, .int (nI k)), (3, .int (nI i)), (4, .int (nI j)), (5, .int (nI 1))] := hl
              refine lv_aload_n hx hb d_L_divide_58 rfl (lv_at hl 0 rfl) ?_
              refine wg_Self_registers hx hb hC hw bw_185 d_L_divide_59 ?_
              refine lv_iload_n hx hb d_L_divide_62 rfl (lv_at hl 3 rfl) ?_
              refine wl_regs hx hb hw (by omega) d_L_divide_63 ?_
              refine wg_Whole_below hx hb hC hw (by omega) bw_59 d_L_divide_64 ?_
              refine sw_i (y := nI 1) (hKi) ?_
              refine lv_istore hx hb d_L_divide_67 hl (by decide) rfl (fun ls hl => ?_)
              have hl : lv_has ls 9 [(6, .int (nI 1)), (0, .ref (wa T 84)), (1, .int (nI x)), (2, .int (nI k)), (3, .int (nI i)), (4, .int (nI j)), (5, .int (nI 1))] := hl
              refine lv_aload_n hx hb d_L_divide_69 rfl (lv_at hl 1 rfl) ?_
              refine wg_Self_registers hx hb hC hw bw_185 d_L_divide_70 ?_
              refine lv_iload hx hb d_L_divide_73 (lv_at hl 5 rfl) ?_
              refine wl_regs hx hb hw (by omega) d_L_divide_75 ?_
              refine wg_Whole_below hx hb hC hw (by omega) bw_59 d_L_divide_76 ?_
              refine sw_i (y := nI 0) (hKj) ?_
              refine lv_istore hx hb d_L_divide_79 hl (by decide) rfl (fun ls hl => ?_)
              have hl : lv_has ls 9 [(7, .int (nI 0)), (6, .int (nI 1)), (0, .ref (wa T 84)), (1, .int (nI x)), (2, .int (nI k)), (3, .int (nI i)), (4, .int (nI j)), (5, .int (nI 1))] := hl
              refine lv_iload hx hb d_L_divide_81 (lv_at hl 1 rfl) ?_
              refine lv_istore hx hb d_L_divide_83 hl (by decide) rfl (fun ls hl => ?_)
              have hl : lv_has ls 9 [(8, .int (nI 1)), (7, .int (nI 0)), (6, .int (nI 1)), (0, .ref (wa T 84)), (1, .int (nI x)), (2, .int (nI k)), (3, .int (nI i)), (4, .int (nI j)), (5, .int (nI 1))] := hl
              refine lv_aload_n hx hb d_L_divide_85 rfl (lv_at hl 3 rfl) ?_
              refine wg_Self_division hx hb hC hw bw_188 d_L_divide_86 ?_
              refine lv_aload_n hx hb d_L_divide_89 rfl (lv_at hl 3 rfl) ?_
              refine wg_Self_registers hx hb hC hw bw_185 d_L_divide_90 ?_
              refine lv_iload_n hx hb d_L_divide_93 rfl (lv_at hl 6 rfl) ?_
              refine wl_regs hx hb hw (by omega) d_L_divide_94 ?_
              refine wg_Whole_size hx hb hC hw (by omega) bw_55 d_L_divide_95 ?_
              refine lv_aload_n hx hb d_L_divide_98 rfl (lv_at hl 3 rfl) ?_
              refine wg_Self_registers hx hb hC hw bw_185 d_L_divide_99 ?_
              refine lv_iload hx hb d_L_divide_102 (lv_at hl 7 rfl) ?_
              refine wl_regs hx hb hw (by omega) d_L_divide_104 ?_
              refine wg_Whole_size hx hb hC hw (by omega) bw_55 d_L_divide_105 ?_
              refine wcV_v (As := [.ref (wa T i), .ref (wa T j)]) hx hb hC hw (k_D_run l T V K I O 0 i j (by omega) (by omega) (by omega) (Or.inl (by omega)) (Or.inl (by omega)) (sp_fit1 (hc.lt hi9) (hc.lt hj9) (by omega)) hc.2) lk_L_104 rfl rfl ⟨by show 3 + 1 ≤ R.frames; omega, by show 8 + (6 + 11) + 80 ≤ R.locals; omega⟩ (by omega) (we_Division (by omega)) rfl rfl hl.1 rfl (Nat.le_of_ble_eq_true rfl) ⟨Nat.zero_le _, Nat.zero_le _⟩ d_L_divide_108 (fun H locs hw => ?_)
              have q1 := dvV_quot V 0 i j
              have r1 := dvV_rest V 0 i j
              have o1 : ∀ n, n < 13 → dvV V 0 i j n = V n := fun n hn => dvV_out (Or.inl (by omega))
              have l1 := dvV_lim (d := 0) (a := i) (b := j) (by omega) (by omega) (by omega) hc.2
              rw [(hc.1 i hi9).2.1, (hc.1 j hj9).2.1] at q1 r1
              generalize dvV V 0 i j = V1 at hw q1 r1 o1 l1
              have hc1 : cI z V1 K := hc.same (fun n hn => o1 n (by omega)) l1 (fun _ _ => rfl)
              refine lv_iload hx hb d_L_divide_111 (lv_at hl 8 rfl) ?_
              refine n_if_eq (tgt := 157) hx hb d_L_divide_113 (by decide) (by omega) (fun hw9 => ?_) (fun hw9 => ?_)
              · exact absurd hw9 (by decide)
              · refine lv_iload hx hb d_L_divide_116 (lv_at hl 2 rfl) ?_
                refine lv_iload hx hb d_L_divide_118 (lv_at hl 1 rfl) ?_
                refine n_icmp_eq (tgt := 157) hx hb d_L_divide_120 (by decide) (by omega) (by omega) (fun hw9 => ?_) (fun hw9 => ?_)
                · exact absurd hw9 (by decide)
                · refine lv_aload_n hx hb d_L_divide_123 rfl (lv_at hl 3 rfl) ?_
                  refine wg_Self_division hx hb hC hw bw_188 d_L_divide_124 ?_
                  refine wg_Division_rest (i := 0) hx hb hC hw (by omega) bw_96 d_L_divide_127 ?_
                  refine wcV_z (As := []) hx hb hC hw (k_N_isZero l T V1 K I O (14 + 3 * 0) (by omega) l1) lk_L_93 rfl rfl ⟨by show 0 + 1 ≤ R.frames; omega, by show 8 + (1 + 11) + 0 ≤ R.locals; omega⟩ (by omega) (we_Natural (by omega)) rfl rfl hl.1 rfl (Nat.le_of_ble_eq_true rfl) ⟨Nat.zero_le _, Nat.zero_le _⟩ d_L_divide_130 (fun H locs hw => ?_)
                  by_cases hz9 : V1 (14 + 3 * 0) = 0
                  · refine sw_i (y := nI 1) (by rw [if_pos hz9]; rfl) ?_
                    refine n_if_ne (tgt := 157) hx hb d_L_divide_133 (by decide) (by omega) (fun hw9 => ?_) (fun hw9 => ?_)
                    · refine lv_aload_n hx hb d_L_divide_157 rfl (lv_at hl 3 rfl) ?_
                      refine wg_Self_registers hx hb hC hw bw_185 d_L_divide_158 ?_
                      refine lv_iload_n hx hb d_L_divide_161 rfl (lv_at hl 4 rfl) ?_
                      refine wl_regs hx hb hw (by omega) d_L_divide_162 ?_
                      refine lv_aload_n hx hb d_L_divide_163 rfl (lv_at hl 3 rfl) ?_
                      refine wg_Self_division hx hb hC hw bw_188 d_L_divide_164 ?_
                      refine wg_Division_quotient (i := 0) hx hb hC hw (by omega) bw_92 d_L_divide_167 ?_
                      refine lv_iload hx hb d_L_divide_170 (lv_at hl 2 rfl) ?_
                      refine lv_iload hx hb d_L_divide_172 (lv_at hl 1 rfl) ?_
                      refine n_icmp_eq (tgt := 181) hx hb d_L_divide_174 (by decide) (by omega) (by omega) (fun hw9 => ?_) (fun hw9 => ?_)
                      · exact absurd hw9 (by decide)
                      · refine lv_iconst (v := nI 1) hx hb d_L_divide_177 (by decide +kernel) ?_
                        refine lv_goto (tgt := 182) hx hb d_L_divide_178 (by decide) ?_
                        refine sw_i (y := (bI true)) (rfl) ?_
                        refine wcV_v (As := [.ref (wa T (13 + 3 * 0)), .int (bI true)]) hx hb hC hw (k_W_take l T V1 K I O x (13 + 3 * 0) true (by omega) (by omega) hc1.2) lk_L_71 rfl rfl ⟨by show 2 + 1 ≤ R.frames; omega, by show 8 + (3 + 11) + 45 ≤ R.locals; omega⟩ (by omega) (we_Whole (by omega)) rfl rfl hl.1 rfl (Nat.le_of_ble_eq_true rfl) ⟨Nat.zero_le _, Nat.zero_le _⟩ d_L_divide_182 (fun H locs hw => ?_)
                        have hc3 := hc1.take (b := true) hx9 q1 (Nat.lt_of_le_of_lt (Nat.div_le_self _ _) (hc.1 i hi9).1)
                        have r3 : (va_up V1 x (V1 (13 + 3 * 0))) (14 + 3 * 0) = _ := (va_up_ne _ _ (by omega)).trans r1
                        refine lv_aload_n hx hb d_L_divide_185 rfl (lv_at hl 3 rfl) ?_
                        refine wg_Self_registers hx hb hC hw bw_185 d_L_divide_186 ?_
                        refine lv_iload_n hx hb d_L_divide_189 rfl (lv_at hl 5 rfl) ?_
                        refine wl_regs hx hb hw (by omega) d_L_divide_190 ?_
                        refine lv_aload_n hx hb d_L_divide_191 rfl (lv_at hl 3 rfl) ?_
                        refine wg_Self_division hx hb hC hw bw_188 d_L_divide_192 ?_
                        refine wg_Division_rest (i := 0) hx hb hC hw (by omega) bw_96 d_L_divide_195 ?_
                        refine lv_iload hx hb d_L_divide_198 (lv_at hl 0 rfl) ?_
                        refine sw_i (y := (bI true)) (rfl) ?_
                        refine wcV_v (As := [.ref (wa T (14 + 3 * 0)), .int (bI true)]) hx hb hC hw (k_W_take l T (va_up V1 x (V1 (13 + 3 * 0))) (va_up K x (bI (true && !decide (V1 (13 + 3 * 0) = 0)))) I O k (14 + 3 * 0) true (by omega) (by omega) hc3.2) lk_L_71 rfl rfl ⟨by show 2 + 1 ≤ R.frames; omega, by show 8 + (3 + 11) + 45 ≤ R.locals; omega⟩ (by omega) (we_Whole (by omega)) rfl rfl hl.1 rfl (Nat.le_of_ble_eq_true rfl) ⟨Nat.zero_le _, Nat.zero_le _⟩ d_L_divide_200 (fun H locs hw => ?_)
                        exact yv hrt (Nat.zero_le _) (Nat.zero_le _) hx hb (⟨hoc, by rw [rg_nI hx9, rg_nI hk9, rg_nI hi9, rg_nI hj9, dvQ_n (dvS_z (r1.symm.trans hz9)) hbi hbj, dvR_n (dvS_z (r1.symm.trans hz9)) hbi]; exact cQ_take (b := true) hc3 hk9 r3 (Nat.lt_trans (Nat.mod_lt _ (by omega)) (hc.1 j hj9).1) rfl (va_up_ne _ _ (by omega)) (va_up_ne _ _ (by omega)) (va_up_ne _ _ (by omega))⟩) hw d_L_divide_203
                    · exact absurd hw9 (by decide)
                  · refine sw_i (y := nI 0) (by rw [if_neg hz9]; rfl) ?_
                    refine n_if_ne (tgt := 157) hx hb d_L_divide_133 (by decide) (by omega) (fun hw9 => ?_) (fun hw9 => ?_)
                    · exact absurd hw9 (by decide)
                    · have hr9 : ¬ (z i).natAbs % (z j).natAbs = 0 := fun h => hz9 (r1.trans h)
                      have rl : (z i).natAbs % (z j).natAbs < (z j).natAbs := Nat.mod_lt _ (by omega)
                      have qle := dv_q1 hr9
                      have ej : V1 j = (z j).natAbs := (hc1.1 j hj9).2.1
                      have ql : V1 (13 + 3 * 0) + 1 < m1024 := by rw [q1]; exact Nat.lt_of_le_of_lt qle (hc.1 i hi9).1
                      have qk := k37 (Nat.lt_of_succ_lt ql)
                      refine lv_aload_n hx hb d_L_divide_136 rfl (lv_at hl 3 rfl) ?_
                      refine wg_Self_division hx hb hC hw bw_188 d_L_divide_137 ?_
                      refine lv_aload_n hx hb d_L_divide_140 rfl (lv_at hl 3 rfl) ?_
                      refine wg_Self_registers hx hb hC hw bw_185 d_L_divide_141 ?_
                      refine lv_iload hx hb d_L_divide_144 (lv_at hl 7 rfl) ?_
                      refine wl_regs hx hb hw (by omega) d_L_divide_146 ?_
                      refine wg_Whole_size hx hb hC hw (by omega) bw_55 d_L_divide_147 ?_
                      refine wcV_v (As := [.ref (wa T j)]) hx hb hC hw (k_D_stepOver l T V1 K I O 0 j (by omega) (by omega) (Or.inl (by omega)) (by omega) (by rw [r1, ej]; exact Nat.le_of_lt rl) l1) lk_L_111 rfl rfl ⟨by show 2 + 1 ≤ R.frames; omega, by show 8 + (2 + 11) + 48 ≤ R.locals; omega⟩ (by omega) (we_Division (by omega)) rfl rfl hl.1 rfl (Nat.le_of_ble_eq_true rfl) ⟨Nat.zero_le _, Nat.zero_le _⟩ d_L_divide_150 (fun H locs hw => ?_)
                      have q2 : (va_up (va_up V1 (13 + 3 * 0) (V1 (13 + 3 * 0) + 1)) (14 + 3 * 0) (V1 j - V1 (14 + 3 * 0))) (13 + 3 * 0) = (z i).natAbs / (z j).natAbs + 1 := by rw [va_up_ne _ _ (by omega), va_up_self, q1]
                      have r2 : (va_up (va_up V1 (13 + 3 * 0) (V1 (13 + 3 * 0) + 1)) (14 + 3 * 0) (V1 j - V1 (14 + 3 * 0))) (14 + 3 * 0) = (z j).natAbs - (z i).natAbs % (z j).natAbs := by rw [va_up_self, ej, r1]
                      have hc2 : cI z (va_up (va_up V1 (13 + 3 * 0) (V1 (13 + 3 * 0) + 1)) (14 + 3 * 0) (V1 j - V1 (14 + 3 * 0))) K := (hc1.out (by omega) (Nat.lt_of_lt_of_le ql m1024_lim)).out (by omega) (Nat.lt_of_le_of_lt (Nat.sub_le _ _) (hc1.2 j (by omega)))
                      generalize (va_up (va_up V1 (13 + 3 * 0) (V1 (13 + 3 * 0) + 1)) (14 + 3 * 0) (V1 j - V1 (14 + 3 * 0))) = V2 at hw q2 r2 hc2
                      refine lv_iload hx hb d_L_divide_153 (lv_at hl 1 rfl) ?_
                      refine lv_istore hx hb d_L_divide_155 hl (by decide) rfl (fun ls hl => ?_)
                      have hl : lv_has ls 9 [(8, .int (nI 0)), (7, .int (nI 0)), (6, .int (nI 1)), (0, .ref (wa T 84)), (1, .int (nI x)), (2, .int (nI k)), (3, .int (nI i)), (4, .int (nI j)), (5, .int (nI 1))] := hl
                      refine lv_aload_n hx hb d_L_divide_157 rfl (lv_at hl 3 rfl) ?_
                      refine wg_Self_registers hx hb hC hw bw_185 d_L_divide_158 ?_
                      refine lv_iload_n hx hb d_L_divide_161 rfl (lv_at hl 4 rfl) ?_
                      refine wl_regs hx hb hw (by omega) d_L_divide_162 ?_
                      refine lv_aload_n hx hb d_L_divide_163 rfl (lv_at hl 3 rfl) ?_
                      refine wg_Self_division hx hb hC hw bw_188 d_L_divide_164 ?_
                      refine wg_Division_quotient (i := 0) hx hb hC hw (by omega) bw_92 d_L_divide_167 ?_
                      refine lv_iload hx hb d_L_divide_170 (lv_at hl 2 rfl) ?_
                      refine lv_iload hx hb d_L_divide_172 (lv_at hl 1 rfl) ?_
                      refine n_icmp_eq (tgt := 181) hx hb d_L_divide_174 (by decide) (by omega) (by omega) (fun hw9 => ?_) (fun hw9 => ?_)
                      · exact absurd hw9 (by decide)
                      · refine lv_iconst (v := nI 1) hx hb d_L_divide_177 (by decide +kernel) ?_
                        refine lv_goto (tgt := 182) hx hb d_L_divide_178 (by decide) ?_
                        refine sw_i (y := (bI true)) (rfl) ?_
                        refine wcV_v (As := [.ref (wa T (13 + 3 * 0)), .int (bI true)]) hx hb hC hw (k_W_take l T V2 K I O x (13 + 3 * 0) true (by omega) (by omega) hc2.2) lk_L_71 rfl rfl ⟨by show 2 + 1 ≤ R.frames; omega, by show 8 + (3 + 11) + 45 ≤ R.locals; omega⟩ (by omega) (we_Whole (by omega)) rfl rfl hl.1 rfl (Nat.le_of_ble_eq_true rfl) ⟨Nat.zero_le _, Nat.zero_le _⟩ d_L_divide_182 (fun H locs hw => ?_)
                        have hc3 := hc2.take (b := true) hx9 q2 (Nat.lt_of_le_of_lt qle (hc.1 i hi9).1)
                        have r3 : (va_up V2 x (V2 (13 + 3 * 0))) (14 + 3 * 0) = _ := (va_up_ne _ _ (by omega)).trans r2
                        refine lv_aload_n hx hb d_L_divide_185 rfl (lv_at hl 3 rfl) ?_
                        refine wg_Self_registers hx hb hC hw bw_185 d_L_divide_186 ?_
                        refine lv_iload_n hx hb d_L_divide_189 rfl (lv_at hl 5 rfl) ?_
                        refine wl_regs hx hb hw (by omega) d_L_divide_190 ?_
                        refine lv_aload_n hx hb d_L_divide_191 rfl (lv_at hl 3 rfl) ?_
                        refine wg_Self_division hx hb hC hw bw_188 d_L_divide_192 ?_
                        refine wg_Division_rest (i := 0) hx hb hC hw (by omega) bw_96 d_L_divide_195 ?_
                        refine lv_iload hx hb d_L_divide_198 (lv_at hl 0 rfl) ?_
                        refine sw_i (y := (bI false)) (rfl) ?_
                        refine wcV_v (As := [.ref (wa T (14 + 3 * 0)), .int (bI false)]) hx hb hC hw (k_W_take l T (va_up V2 x (V2 (13 + 3 * 0))) (va_up K x (bI (true && !decide (V2 (13 + 3 * 0) = 0)))) I O k (14 + 3 * 0) false (by omega) (by omega) hc3.2) lk_L_71 rfl rfl ⟨by show 2 + 1 ≤ R.frames; omega, by show 8 + (3 + 11) + 45 ≤ R.locals; omega⟩ (by omega) (we_Whole (by omega)) rfl rfl hl.1 rfl (Nat.le_of_ble_eq_true rfl) ⟨Nat.zero_le _, Nat.zero_le _⟩ d_L_divide_200 (fun H locs hw => ?_)
                        exact yv hrt (Nat.zero_le _) (Nat.zero_le _) hx hb (⟨hoc, by rw [rg_nI hx9, rg_nI hk9, rg_nI hi9, rg_nI hj9, dvQ_s (dvS_t hbi hbj rfl hr9) hbi hbj, dvR_s (dvS_t hbi hbj rfl hr9) hbj]; exact cQ_take (b := false) hc3 hk9 r3 (Nat.lt_of_le_of_lt (Nat.sub_le _ _) (hc.1 j hj9).1) rfl (va_up_ne _ _ (by omega)) (va_up_ne _ _ (by omega)) (va_up_ne _ _ (by omega))⟩) hw d_L_divide_203
          · cases dn
            · have hl : lv_has ls 9 [(0, .ref (wa T 84)), (1, .int (nI x)), (2, .int (nI k)), (3, .int (nI i)), (4, .int (nI j)), (5, .int (nI 0))] := hl
              refine lv_aload_n hx hb d_L_divide_58 rfl (lv_at hl 0 rfl) ?_
              refine wg_Self_registers hx hb hC hw bw_185 d_L_divide_59 ?_
              refine lv_iload_n hx hb d_L_divide_62 rfl (lv_at hl 3 rfl) ?_
              refine wl_regs hx hb hw (by omega) d_L_divide_63 ?_
              refine wg_Whole_below hx hb hC hw (by omega) bw_59 d_L_divide_64 ?_
              refine sw_i (y := nI 1) (hKi) ?_
              refine lv_istore hx hb d_L_divide_67 hl (by decide) rfl (fun ls hl => ?_)
              have hl : lv_has ls 9 [(6, .int (nI 1)), (0, .ref (wa T 84)), (1, .int (nI x)), (2, .int (nI k)), (3, .int (nI i)), (4, .int (nI j)), (5, .int (nI 0))] := hl
              refine lv_aload_n hx hb d_L_divide_69 rfl (lv_at hl 1 rfl) ?_
              refine wg_Self_registers hx hb hC hw bw_185 d_L_divide_70 ?_
              refine lv_iload hx hb d_L_divide_73 (lv_at hl 5 rfl) ?_
              refine wl_regs hx hb hw (by omega) d_L_divide_75 ?_
              refine wg_Whole_below hx hb hC hw (by omega) bw_59 d_L_divide_76 ?_
              refine sw_i (y := nI 1) (hKj) ?_
              refine lv_istore hx hb d_L_divide_79 hl (by decide) rfl (fun ls hl => ?_)
              have hl : lv_has ls 9 [(7, .int (nI 1)), (6, .int (nI 1)), (0, .ref (wa T 84)), (1, .int (nI x)), (2, .int (nI k)), (3, .int (nI i)), (4, .int (nI j)), (5, .int (nI 0))] := hl
              refine lv_iload hx hb d_L_divide_81 (lv_at hl 1 rfl) ?_
              refine lv_istore hx hb d_L_divide_83 hl (by decide) rfl (fun ls hl => ?_)
              have hl : lv_has ls 9 [(8, .int (nI 1)), (7, .int (nI 1)), (6, .int (nI 1)), (0, .ref (wa T 84)), (1, .int (nI x)), (2, .int (nI k)), (3, .int (nI i)), (4, .int (nI j)), (5, .int (nI 0))] := hl
              refine lv_aload_n hx hb d_L_divide_85 rfl (lv_at hl 3 rfl) ?_
              refine wg_Self_division hx hb hC hw bw_188 d_L_divide_86 ?_
              refine lv_aload_n hx hb d_L_divide_89 rfl (lv_at hl 3 rfl) ?_
              refine wg_Self_registers hx hb hC hw bw_185 d_L_divide_90 ?_
              refine lv_iload_n hx hb d_L_divide_93 rfl (lv_at hl 6 rfl) ?_
              refine wl_regs hx hb hw (by omega) d_L_divide_94 ?_
              refine wg_Whole_size hx hb hC hw (by omega) bw_55 d_L_divide_95 ?_
              refine lv_aload_n hx hb d_L_divide_98 rfl (lv_at hl 3 rfl) ?_
              refine wg_Self_registers hx hb hC hw bw_185 d_L_divide_99 ?_
              refine lv_iload hx hb d_L_divide_102 (lv_at hl 7 rfl) ?_
              refine wl_regs hx hb hw (by omega) d_L_divide_104 ?_
              refine wg_Whole_size hx hb hC hw (by omega) bw_55 d_L_divide_105 ?_
              refine wcV_v (As := [.ref (wa T i), .ref (wa T j)]) hx hb hC hw (k_D_run l T V K I O 0 i j (by omega) (by omega) (by omega) (Or.inl (by omega)) (Or.inl (by omega)) (sp_fit1 (hc.lt hi9) (hc.lt hj9) (by omega)) hc.2) lk_L_104 rfl rfl ⟨by show 3 + 1 ≤ R.frames; omega, by show 8 + (6 + 11) + 80 ≤ R.locals; omega⟩ (by omega) (we_Division (by omega)) rfl rfl hl.1 rfl (Nat.le_of_ble_eq_true rfl) ⟨Nat.zero_le _, Nat.zero_le _⟩ d_L_divide_108 (fun H locs hw => ?_)
              have q1 := dvV_quot V 0 i j
              have r1 := dvV_rest V 0 i j
              have o1 : ∀ n, n < 13 → dvV V 0 i j n = V n := fun n hn => dvV_out (Or.inl (by omega))
              have l1 := dvV_lim (d := 0) (a := i) (b := j) (by omega) (by omega) (by omega) hc.2
              rw [(hc.1 i hi9).2.1, (hc.1 j hj9).2.1] at q1 r1
              generalize dvV V 0 i j = V1 at hw q1 r1 o1 l1
              have hc1 : cI z V1 K := hc.same (fun n hn => o1 n (by omega)) l1 (fun _ _ => rfl)
              refine lv_iload hx hb d_L_divide_111 (lv_at hl 8 rfl) ?_
              refine n_if_eq (tgt := 157) hx hb d_L_divide_113 (by decide) (by omega) (fun hw9 => ?_) (fun hw9 => ?_)
              · refine lv_aload_n hx hb d_L_divide_157 rfl (lv_at hl 3 rfl) ?_
                refine wg_Self_registers hx hb hC hw bw_185 d_L_divide_158 ?_
                refine lv_iload_n hx hb d_L_divide_161 rfl (lv_at hl 4 rfl) ?_
                refine wl_regs hx hb hw (by omega) d_L_divide_162 ?_
                refine lv_aload_n hx hb d_L_divide_163 rfl (lv_at hl 3 rfl) ?_
                refine wg_Self_division hx hb hC hw bw_188 d_L_divide_164 ?_
                refine wg_Division_quotient (i := 0) hx hb hC hw (by omega) bw_92 d_L_divide_167 ?_
                refine lv_iload hx hb d_L_divide_170 (lv_at hl 2 rfl) ?_
                refine lv_iload hx hb d_L_divide_172 (lv_at hl 1 rfl) ?_
                refine n_icmp_eq (tgt := 181) hx hb d_L_divide_174 (by decide) (by omega) (by omega) (fun hw9 => ?_) (fun hw9 => ?_)
                · refine lv_iconst (v := nI 0) hx hb d_L_divide_181 (by decide +kernel) ?_
                  refine sw_i (y := (bI false)) (rfl) ?_
                  refine wcV_v (As := [.ref (wa T (13 + 3 * 0)), .int (bI false)]) hx hb hC hw (k_W_take l T V1 K I O x (13 + 3 * 0) false (by omega) (by omega) hc1.2) lk_L_71 rfl rfl ⟨by show 2 + 1 ≤ R.frames; omega, by show 8 + (3 + 11) + 45 ≤ R.locals; omega⟩ (by omega) (we_Whole (by omega)) rfl rfl hl.1 rfl (Nat.le_of_ble_eq_true rfl) ⟨Nat.zero_le _, Nat.zero_le _⟩ d_L_divide_182 (fun H locs hw => ?_)
                  have hc3 := hc1.take (b := false) hx9 q1 (Nat.lt_of_le_of_lt (Nat.div_le_self _ _) (hc.1 i hi9).1)
                  have r3 : (va_up V1 x (V1 (13 + 3 * 0))) (14 + 3 * 0) = _ := (va_up_ne _ _ (by omega)).trans r1
                  refine lv_aload_n hx hb d_L_divide_185 rfl (lv_at hl 3 rfl) ?_
                  refine wg_Self_registers hx hb hC hw bw_185 d_L_divide_186 ?_
                  refine lv_iload_n hx hb d_L_divide_189 rfl (lv_at hl 5 rfl) ?_
                  refine wl_regs hx hb hw (by omega) d_L_divide_190 ?_
                  refine lv_aload_n hx hb d_L_divide_191 rfl (lv_at hl 3 rfl) ?_
                  refine wg_Self_division hx hb hC hw bw_188 d_L_divide_192 ?_
                  refine wg_Division_rest (i := 0) hx hb hC hw (by omega) bw_96 d_L_divide_195 ?_
                  refine lv_iload hx hb d_L_divide_198 (lv_at hl 0 rfl) ?_
                  refine sw_i (y := (bI true)) (rfl) ?_
                  refine wcV_v (As := [.ref (wa T (14 + 3 * 0)), .int (bI true)]) hx hb hC hw (k_W_take l T (va_up V1 x (V1 (13 + 3 * 0))) (va_up K x (bI (false && !decide (V1 (13 + 3 * 0) = 0)))) I O k (14 + 3 * 0) true (by omega) (by omega) hc3.2) lk_L_71 rfl rfl ⟨by show 2 + 1 ≤ R.frames; omega, by show 8 + (3 + 11) + 45 ≤ R.locals; omega⟩ (by omega) (we_Whole (by omega)) rfl rfl hl.1 rfl (Nat.le_of_ble_eq_true rfl) ⟨Nat.zero_le _, Nat.zero_le _⟩ d_L_divide_200 (fun H locs hw => ?_)
                  exact yv hrt (Nat.zero_le _) (Nat.zero_le _) hx hb (⟨hoc, by rw [rg_nI hx9, rg_nI hk9, rg_nI hi9, rg_nI hj9, dvQ_n dvS_f hbi hbj, dvR_n dvS_f hbi]; exact cQ_take (b := true) hc3 hk9 r3 (Nat.lt_trans (Nat.mod_lt _ (by omega)) (hc.1 j hj9).1) rfl (va_up_ne _ _ (by omega)) (va_up_ne _ _ (by omega)) (va_up_ne _ _ (by omega))⟩) hw d_L_divide_203
                · exact absurd hw9 (by decide)
              · exact absurd hw9 (by decide)
            · have hl : lv_has ls 9 [(0, .ref (wa T 84)), (1, .int (nI x)), (2, .int (nI k)), (3, .int (nI i)), (4, .int (nI j)), (5, .int (nI 1))] := hl
              refine lv_aload_n hx hb d_L_divide_58 rfl (lv_at hl 0 rfl) ?_
              refine wg_Self_registers hx hb hC hw bw_185 d_L_divide_59 ?_
              refine lv_iload_n hx hb d_L_divide_62 rfl (lv_at hl 3 rfl) ?_
              refine wl_regs hx hb hw (by omega) d_L_divide_63 ?_
              refine wg_Whole_below hx hb hC hw (by omega) bw_59 d_L_divide_64 ?_
              refine sw_i (y := nI 1) (hKi) ?_
              refine lv_istore hx hb d_L_divide_67 hl (by decide) rfl (fun ls hl => ?_)
              have hl : lv_has ls 9 [(6, .int (nI 1)), (0, .ref (wa T 84)), (1, .int (nI x)), (2, .int (nI k)), (3, .int (nI i)), (4, .int (nI j)), (5, .int (nI 1))] := hl
              refine lv_aload_n hx hb d_L_divide_69 rfl (lv_at hl 1 rfl) ?_
              refine wg_Self_registers hx hb hC hw bw_185 d_L_divide_70 ?_
              refine lv_iload hx hb d_L_divide_73 (lv_at hl 5 rfl) ?_
              refine wl_regs hx hb hw (by omega) d_L_divide_75 ?_
              refine wg_Whole_below hx hb hC hw (by omega) bw_59 d_L_divide_76 ?_
              refine sw_i (y := nI 1) (hKj) ?_
              refine lv_istore hx hb d_L_divide_79 hl (by decide) rfl (fun ls hl => ?_)
              have hl : lv_has ls 9 [(7, .int (nI 1)), (6, .int (nI 1)), (0, .ref (wa T 84)), (1, .int (nI x)), (2, .int (nI k)), (3, .int (nI i)), (4, .int (nI j)), (5, .int (nI 1))] := hl
              refine lv_iload hx hb d_L_divide_81 (lv_at hl 1 rfl) ?_
              refine lv_istore hx hb d_L_divide_83 hl (by decide) rfl (fun ls hl => ?_)
              have hl : lv_has ls 9 [(8, .int (nI 1)), (7, .int (nI 1)), (6, .int (nI 1)), (0, .ref (wa T 84)), (1, .int (nI x)), (2, .int (nI k)), (3, .int (nI i)), (4, .int (nI j)), (5, .int (nI 1))] := hl
              refine lv_aload_n hx hb d_L_divide_85 rfl (lv_at hl 3 rfl) ?_
              refine wg_Self_division hx hb hC hw bw_188 d_L_divide_86 ?_
              refine lv_aload_n hx hb d_L_divide_89 rfl (lv_at hl 3 rfl) ?_
              refine wg_Self_registers hx hb hC hw bw_185 d_L_divide_90 ?_
              refine lv_iload_n hx hb d_L_divide_93 rfl (lv_at hl 6 rfl) ?_
              refine wl_regs hx hb hw (by omega) d_L_divide_94 ?_
              refine wg_Whole_size hx hb hC hw (by omega) bw_55 d_L_divide_95 ?_
              refine lv_aload_n hx hb d_L_divide_98 rfl (lv_at hl 3 rfl) ?_
              refine wg_Self_registers hx hb hC hw bw_185 d_L_divide_99 ?_
              refine lv_iload hx hb d_L_divide_102 (lv_at hl 7 rfl) ?_
              refine wl_regs hx hb hw (by omega) d_L_divide_104 ?_
              refine wg_Whole_size hx hb hC hw (by omega) bw_55 d_L_divide_105 ?_
              refine wcV_v (As := [.ref (wa T i), .ref (wa T j)]) hx hb hC hw (k_D_run l T V K I O 0 i j (by omega) (by omega) (by omega) (Or.inl (by omega)) (Or.inl (by omega)) (sp_fit1 (hc.lt hi9) (hc.lt hj9) (by omega)) hc.2) lk_L_104 rfl rfl ⟨by show 3 + 1 ≤ R.frames; omega, by show 8 + (6 + 11) + 80 ≤ R.locals; omega⟩ (by omega) (we_Division (by omega)) rfl rfl hl.1 rfl (Nat.le_of_ble_eq_true rfl) ⟨Nat.zero_le _, Nat.zero_le _⟩ d_L_divide_108 (fun H locs hw => ?_)
              have q1 := dvV_quot V 0 i j
              have r1 := dvV_rest V 0 i j
              have o1 : ∀ n, n < 13 → dvV V 0 i j n = V n := fun n hn => dvV_out (Or.inl (by omega))
              have l1 := dvV_lim (d := 0) (a := i) (b := j) (by omega) (by omega) (by omega) hc.2
              rw [(hc.1 i hi9).2.1, (hc.1 j hj9).2.1] at q1 r1
              generalize dvV V 0 i j = V1 at hw q1 r1 o1 l1
              have hc1 : cI z V1 K := hc.same (fun n hn => o1 n (by omega)) l1 (fun _ _ => rfl)
              refine lv_iload hx hb d_L_divide_111 (lv_at hl 8 rfl) ?_
              refine n_if_eq (tgt := 157) hx hb d_L_divide_113 (by decide) (by omega) (fun hw9 => ?_) (fun hw9 => ?_)
              · exact absurd hw9 (by decide)
              · refine lv_iload hx hb d_L_divide_116 (lv_at hl 2 rfl) ?_
                refine lv_iload hx hb d_L_divide_118 (lv_at hl 1 rfl) ?_
                refine n_icmp_eq (tgt := 157) hx hb d_L_divide_120 (by decide) (by omega) (by omega) (fun hw9 => ?_) (fun hw9 => ?_)
                · refine lv_aload_n hx hb d_L_divide_157 rfl (lv_at hl 3 rfl) ?_
                  refine wg_Self_registers hx hb hC hw bw_185 d_L_divide_158 ?_
                  refine lv_iload_n hx hb d_L_divide_161 rfl (lv_at hl 4 rfl) ?_
                  refine wl_regs hx hb hw (by omega) d_L_divide_162 ?_
                  refine lv_aload_n hx hb d_L_divide_163 rfl (lv_at hl 3 rfl) ?_
                  refine wg_Self_division hx hb hC hw bw_188 d_L_divide_164 ?_
                  refine wg_Division_quotient (i := 0) hx hb hC hw (by omega) bw_92 d_L_divide_167 ?_
                  refine lv_iload hx hb d_L_divide_170 (lv_at hl 2 rfl) ?_
                  refine lv_iload hx hb d_L_divide_172 (lv_at hl 1 rfl) ?_
                  refine n_icmp_eq (tgt := 181) hx hb d_L_divide_174 (by decide) (by omega) (by omega) (fun hw9 => ?_) (fun hw9 => ?_)
                  · refine lv_iconst (v := nI 0) hx hb d_L_divide_181 (by decide +kernel) ?_
                    refine sw_i (y := (bI false)) (rfl) ?_
                    refine wcV_v (As := [.ref (wa T (13 + 3 * 0)), .int (bI false)]) hx hb hC hw (k_W_take l T V1 K I O x (13 + 3 * 0) false (by omega) (by omega) hc1.2) lk_L_71 rfl rfl ⟨by show 2 + 1 ≤ R.frames; omega, by show 8 + (3 + 11) + 45 ≤ R.locals; omega⟩ (by omega) (we_Whole (by omega)) rfl rfl hl.1 rfl (Nat.le_of_ble_eq_true rfl) ⟨Nat.zero_le _, Nat.zero_le _⟩ d_L_divide_182 (fun H locs hw => ?_)
                    have hc3 := hc1.take (b := false) hx9 q1 (Nat.lt_of_le_of_lt (Nat.div_le_self _ _) (hc.1 i hi9).1)
                    have r3 : (va_up V1 x (V1 (13 + 3 * 0))) (14 + 3 * 0) = _ := (va_up_ne _ _ (by omega)).trans r1
                    refine lv_aload_n hx hb d_L_divide_185 rfl (lv_at hl 3 rfl) ?_
                    refine wg_Self_registers hx hb hC hw bw_185 d_L_divide_186 ?_
                    refine lv_iload_n hx hb d_L_divide_189 rfl (lv_at hl 5 rfl) ?_
                    refine wl_regs hx hb hw (by omega) d_L_divide_190 ?_
                    refine lv_aload_n hx hb d_L_divide_191 rfl (lv_at hl 3 rfl) ?_
                    refine wg_Self_division hx hb hC hw bw_188 d_L_divide_192 ?_
                    refine wg_Division_rest (i := 0) hx hb hC hw (by omega) bw_96 d_L_divide_195 ?_
                    refine lv_iload hx hb d_L_divide_198 (lv_at hl 0 rfl) ?_
                    refine sw_i (y := (bI true)) (rfl) ?_
                    refine wcV_v (As := [.ref (wa T (14 + 3 * 0)), .int (bI true)]) hx hb hC hw (k_W_take l T (va_up V1 x (V1 (13 + 3 * 0))) (va_up K x (bI (false && !decide (V1 (13 + 3 * 0) = 0)))) I O k (14 + 3 * 0) true (by omega) (by omega) hc3.2) lk_L_71 rfl rfl ⟨by show 2 + 1 ≤ R.frames; omega, by show 8 + (3 + 11) + 45 ≤ R.locals; omega⟩ (by omega) (we_Whole (by omega)) rfl rfl hl.1 rfl (Nat.le_of_ble_eq_true rfl) ⟨Nat.zero_le _, Nat.zero_le _⟩ d_L_divide_200 (fun H locs hw => ?_)
                    exact yv hrt (Nat.zero_le _) (Nat.zero_le _) hx hb (⟨hoc, by rw [rg_nI hx9, rg_nI hk9, rg_nI hi9, rg_nI hj9, dvQ_n (dvS_e hbi hbj) hbi hbj, dvR_n (dvS_e hbi hbj) hbi]; exact cQ_take (b := true) hc3 hk9 r3 (Nat.lt_trans (Nat.mod_lt _ (by omega)) (hc.1 j hj9).1) rfl (va_up_ne _ _ (by omega)) (va_up_ne _ _ (by omega)) (va_up_ne _ _ (by omega))⟩) hw d_L_divide_203
                  · exact absurd hw9 (by decide)
                · exact absurd hw9 (by decide)
      · exact absurd hw9 (by decide)
  · exact hthr _ _ _ _ _ _ _ _ _ _ _ _ _ xt_88 (eP_k (k := 2) (by rw [ocG_k gg, hqk]; exact if_pos rfl) (List.mem_cons_of_mem _ List.mem_cons_self)) (hc.q) hw hl.1 d_L_divide_22 d_L_divide_25 d_L_divide_26 d_L_divide_28 d_L_divide_31 (by show 2 + 3 < R.frames; omega) (by show 0 + (13 * (2 + 1) + 43) ≤ R.locals; omega)
section MR
variable {p : Program} {l : Launch} {e : Env} {R : Room} {s : State} {m : MethodId} {args : Array Value} {below : List Frame} {meth : Method} {c : Code} {H : Heap} {locs : List Loc} {cells slots : Nat} {Q : State → Prop}
variable {cc : ByteArray} {pc maxL index : Nat} {ls : Array Slot} {rest : List Value} {own : String}
theorem wm_maxR {x y : Int32} (hx : p.tables.exec = Jvm.exec) (hb : c.code = cc) (hC : wC m c maxL s args own) (hlk : Cond.methodLink own index Lib.Math.max.name ∈ bg) (hls : ls.size = maxL) (hf : 1 ≤ R.frames) (hl : (rest.map fun v => v.category).sum + 13 ≤ R.locals) (hcs : cells ≤ R.cells ∧ slots ≤ R.slots) (hdg : decode cc pc = .ok (.invokestatic index, 3)) (kk : W p l e R s m args below meth c H locs cells slots Q (F0 m (pc + 3) ls (.int (if x < y then y else x) :: rest))) : W p l e R s m args below meth c H locs cells slots Q (F0 m pc ls (.int y :: .int x :: rest)) :=
  va_mmax hx hb (hC.1.trans hls.symm) hC.2.2 (hC.hts hlk) (hC.hts ms_maxI) (hC.hts bw_14) (hC.hts mc_maxI) hf hl hcs.1 hcs.2 hdg kk
end MR
set_option maxRecDepth 100000 in
set_option maxHeartbeats 4000000 in
theorem x_L_shift (l : Launch) (hst9 : l.stackTraces = false) (T : wT) (V : Nat → Nat) (K : wUt) (I : wIt) (O : wOt) (z : Nat → Int) (hc : cI z V K) (r a n : Int32) : vx_Met l y_L_shift (.code y_L_shift c_L_shift 5 none :: bg) ({ frames := 7, cells := 1, slots := 6, locals := 111 } : Room) (mPx T (fF V) (fU V) K I O [.ref (wa T 84), .int r, .int a, .int n]) (mQvp T (fun V' K' => ocG (isR r ∧ isR a) (shC (z (rg a)) n.toInt) = 0 ∧ cQ (va_up z (rg r) (shW (z (rg a)) n.toInt)) K (K 14) V' K') I O) (xXm T (eP (ocG (isR r ∧ isR a) (shC (z (rg a)) n.toInt)) [(eIX, 1), (eUO, 2)]) (cQ z K (K 14)) I O) 1 6 (wA T) := by
  refine yM rfl hst9 (Nat.le_of_ble_eq_true rfl) rfl rfl ?_
  intro p e R s m args below meth c Q ls hx hb hC hRf hRl hRc hz9 hrt hout hthr hl hw
  have hRf : 7 ≤ R.frames := hRf
  have hRl : 111 ≤ R.locals := hRl
  have hl : lv_has ls 5 [(0, .ref (wa T 84)), (1, .int r), (2, .int a), (3, .int n)] := hl
  refine lv_iload_n hx hb d_L_shift_0 rfl (lv_at hl 1 rfl) ?_
  by_cases h_r : isR r
  rotate_left
  · refine xcS (As := [.int r]) hx hb hC hz9 hw (x_L_needRegister l hst9 T V K I O r h_r) lk_L_55 rfl rfl ⟨by show 6 + 1 ≤ R.frames; omega, by show 8 + (1 + 11) + 90 ≤ R.locals; omega⟩ rfl hl.1 rfl (Nat.le_of_ble_eq_true rfl) hRc d_L_shift_1 (fun V9 K9 H9 locs9 ce9 q9 hP9 hw9 h91 h92 h93 => ?_)
    exact hout _ V9 K9 _ _ _ _ _ _ _ (eP_1 (ocG_1 fun h => h_r h.1)) (cQ_x hc hP9) hw9 h91 h92 h93
  obtain ⟨x, hx9, rfl⟩ := isR_of h_r
  have hl : lv_has ls 5 [(0, .ref (wa T 84)), (1, .int (nI x)), (2, .int a), (3, .int n)] := hl
  refine wcS_v (As := [.int (nI x)]) hx hb hC hw (k_L_needRegister l T V K I O x hx9) lk_L_55 rfl rfl ⟨by show 6 + 1 ≤ R.frames; omega, by show 8 + (1 + 11) + 90 ≤ R.locals; omega⟩ rfl hl.1 rfl (Nat.le_of_ble_eq_true rfl) ⟨Nat.zero_le _, Nat.zero_le _⟩ d_L_shift_1 (fun H locs hw => ?_)
  refine lv_iload_n hx hb d_L_shift_4 rfl (lv_at hl 2 rfl) ?_
  by_cases h_a : isR a
  rotate_left
  · refine xcS (As := [.int a]) hx hb hC hz9 hw (x_L_needRegister l hst9 T V K I O a h_a) lk_L_55 rfl rfl ⟨by show 6 + 1 ≤ R.frames; omega, by show 8 + (1 + 11) + 90 ≤ R.locals; omega⟩ rfl hl.1 rfl (Nat.le_of_ble_eq_true rfl) hRc d_L_shift_5 (fun V9 K9 H9 locs9 ce9 q9 hP9 hw9 h91 h92 h93 => ?_)
    exact hout _ V9 K9 _ _ _ _ _ _ _ (eP_1 (ocG_1 fun h => h_a h.2)) (cQ_x hc hP9) hw9 h91 h92 h93
  obtain ⟨i, hi9, rfl⟩ := isR_of h_a
  have hl : lv_has ls 5 [(0, .ref (wa T 84)), (1, .int (nI x)), (2, .int (nI i)), (3, .int n)] := hl
  refine wcS_v (As := [.int (nI i)]) hx hb hC hw (k_L_needRegister l T V K I O i hi9) lk_L_55 rfl rfl ⟨by show 6 + 1 ≤ R.frames; omega, by show 8 + (1 + 11) + 90 ≤ R.locals; omega⟩ rfl hl.1 rfl (Nat.le_of_ble_eq_true rfl) ⟨Nat.zero_le _, Nat.zero_le _⟩ d_L_shift_5 (fun H locs hw => ?_)
  have gg : isR (nI x) ∧ isR (nI i) := ⟨isR_nI hx9, isR_nI hi9⟩
  have hvi := (hc.1 i hi9).2.1
  have b1024 : bl (V i) ≤ 1024 := bl_mono (hc.lt hi9)
  refine lv_aload_n hx hb d_L_shift_8 rfl (lv_at hl 0 rfl) ?_
  refine wg_Self_registers hx hb hC hw bw_185 d_L_shift_9 ?_
  refine lv_iload_n hx hb d_L_shift_12 rfl (lv_at hl 2 rfl) ?_
  refine wl_regs hx hb hw (by omega) d_L_shift_13 ?_
  refine lv_astore hx hb d_L_shift_14 hl (by decide) rfl (fun ls hl => ?_)
  have hl : lv_has ls 5 [(4, .ref (wa T (68 + i))), (0, .ref (wa T 84)), (1, .int (nI x)), (2, .int (nI i)), (3, .int n)] := hl
  refine lv_iload_n hx hb d_L_shift_16 rfl (lv_at hl 4 rfl) ?_
  refine lv_if_gt (tgt := 40) hx hb d_L_shift_17 (by decide) (fun hn => ?_) (fun hn => ?_)
  · obtain ⟨k, hk0, hk1, rfl⟩ := pos_nI hn
    have hl : lv_has ls 5 [(4, .ref (wa T (68 + i))), (0, .ref (wa T 84)), (1, .int (nI x)), (2, .int (nI i)), (3, .int (nI k))] := hl
    have hki := nI_int hk1
    refine lv_aload hx hb d_L_shift_40 (lv_at hl 0 rfl) ?_
    refine wg_Whole_size hx hb hC hw (by omega) bw_55 d_L_shift_42 ?_
    refine wcV_z (As := []) hx hb hC hw (k_N_isZero l T V K I O i (by omega) hc.2) lk_L_93 rfl rfl ⟨by show 0 + 1 ≤ R.frames; omega, by show 8 + (1 + 11) + 0 ≤ R.locals; omega⟩ (by omega) (we_Natural (by omega)) rfl rfl hl.1 rfl (Nat.le_of_ble_eq_true rfl) ⟨Nat.zero_le _, Nat.zero_le _⟩ d_L_shift_45 (fun H locs hw => ?_)
    by_cases hz : V i = 0
    · refine sw_i (y := nI 1) (by rw [if_pos hz]; rfl) ?_
      refine n_if_eq (tgt := 62) hx hb d_L_shift_48 (by decide) (by omega) (fun hw9 => ?_) (fun hw9 => ?_)
      · exact absurd hw9 (by decide)
      · refine lv_aload_n hx hb d_L_shift_51 rfl (lv_at hl 1 rfl) ?_
        refine wg_Self_answer hx hb hC hw bw_186 d_L_shift_52 ?_
        refine lv_lconst (v := 0) hx hb d_L_shift_55 (by decide +kernel) ?_
        refine wcV_v (As := [.long (0 : Int64)]) hx hb hC hw (k_W_takeLong l T V K I O 12 (0 : Int64) (by omega) hc.2) lk_L_59 rfl rfl ⟨by show 2 + 1 ≤ R.frames; omega, by show 8 + (3 + 11) + 44 ≤ R.locals; omega⟩ (by omega) (we_Whole (by omega)) rfl rfl hl.1 rfl (Nat.le_of_ble_eq_true rfl) ⟨Nat.zero_le _, Nat.zero_le _⟩ d_L_shift_56 (fun H locs hw => ?_)
        rw [lj_0] at hw
        have hz0 : z i = 0 := by omega
        have hl9 : ((0 : Int)).natAbs < vLim := Nat.lt_of_lt_of_le (show (0 : Int).natAbs < m1024 from Nat.pow_pos (by decide)) m1024_lim
        have hc1 : cI z (va_up V 12 ((0 : Int)).natAbs) (va_up K 12 (bI (decide ((0 : Int) < 0)))) := (hc.out (by omega) hl9).outK (by omega)
        have e12 : (va_up V 12 ((0 : Int)).natAbs) 12 = ((0 : Int)).natAbs := va_up_self _ _ _
        refine lv_goto (tgt := 98) hx hb d_L_shift_59 (by decide) ?_
        refine lv_aload_n hx hb d_L_shift_98 rfl (lv_at hl 1 rfl) ?_
        refine lv_iload_n hx hb d_L_shift_99 rfl (lv_at hl 2 rfl) ?_
        by_cases hfit : ((0 : Int)).natAbs < m1024
        rotate_left
        · refine xcV (As := [.int (nI x)]) hx hb hC hz9 hw (x_L_keepAnswer l hst9 T (va_up V 12 ((0 : Int)).natAbs) (va_up K 12 (bI (decide ((0 : Int) < 0)))) I O x (by rw [e12]; exact hfit) hc1.2) lk_L_79 rfl rfl ⟨by show 6 + 1 ≤ R.frames; omega, by show 8 + (2 + 11) + 90 ≤ R.locals; omega⟩ (by omega) (we_Self ) rfl rfl hl.1 rfl (Nat.le_of_ble_eq_true rfl) hRc d_L_shift_100 (fun V9 K9 H9 locs9 ce9 q9 hP9 hw9 h91 h92 h93 => ?_)
          exact hout _ V9 K9 _ _ _ _ _ _ _ (eP_k (k := 2) (absurd (show (0 : Int).natAbs < m1024 from Nat.pow_pos (by decide)) hfit) (List.mem_cons_of_mem _ List.mem_cons_self)) (by obtain ⟨rfl, rfl⟩ := hP9; exact ⟨hc1, va_up_ne _ _ (by omega), va_up_ne _ _ (by omega), va_up_ne _ _ (by omega)⟩) hw9 h91 h92 h93
        refine wcV_v (As := [.int (nI x)]) hx hb hC hw (k_L_keepAnswer l T (va_up V 12 ((0 : Int)).natAbs) (va_up K 12 (bI (decide ((0 : Int) < 0)))) I O x hx9 (decide ((0 : Int) < 0)) (va_up_self _ _ _) (by rw [e12]; exact hfit) hc1.2) lk_L_79 rfl rfl ⟨by show 6 + 1 ≤ R.frames; omega, by show 8 + (2 + 11) + 90 ≤ R.locals; omega⟩ (by omega) (we_Self ) rfl rfl hl.1 rfl (Nat.le_of_ble_eq_true rfl) ⟨Nat.zero_le _, Nat.zero_le _⟩ d_L_shift_100 (fun H locs hw => ?_)
        exact yv hrt (Nat.zero_le _) (Nat.zero_le _) hx hb (⟨by rw [ocG_k gg, rg_nI hi9, hz0]; exact if_neg fun h => h.1 rfl, by rw [rg_nI hx9, rg_nI hi9, hz0, hki, shW_p hk0, Int.zero_mul]; exact cQ_keep hc hx9 hfit⟩) hw d_L_shift_103
    · refine sw_i (y := nI 0) (by rw [if_neg hz]; rfl) ?_
      refine n_if_eq (tgt := 62) hx hb d_L_shift_48 (by decide) (by omega) (fun hw9 => ?_) (fun hw9 => ?_)
      · refine lv_iload_n hx hb d_L_shift_62 rfl (lv_at hl 4 rfl) ?_
        refine lv_sipush (v := nI 1024) hx hb d_L_shift_63 (by decide +kernel) ?_
        refine lv_aload hx hb d_L_shift_66 (lv_at hl 0 rfl) ?_
        refine wg_Whole_size hx hb hC hw (by omega) bw_55 d_L_shift_68 ?_
        refine wcV_i (As := []) hx hb hC hw (k_N_length l T V K I O i (by omega) hc.2) lk_L_128 rfl rfl ⟨by show 3 + 1 ≤ R.frames; omega, by show 8 + (1 + 11) + 63 ≤ R.locals; omega⟩ (by omega) (we_Natural (by omega)) rfl rfl hl.1 rfl (Nat.le_of_ble_eq_true rfl) ⟨Nat.zero_le _, Nat.zero_le _⟩ d_L_shift_71 (fun H locs hw => ?_)
        refine n_isub hx hb d_L_shift_74 (by omega) ?_
        refine n_icmp_le (tgt := 88) hx hb d_L_shift_75 (by decide) (by omega) (by omega) (fun hk => ?_) (fun hk => ?_)
        · have hbk : bl (V i) + k ≤ 1024 := by omega
          have hk37 := k37 (hc.lt hi9)
          refine lv_aload_n hx hb d_L_shift_88 rfl (lv_at hl 1 rfl) ?_
          refine wg_Self_answer hx hb hC hw bw_186 d_L_shift_89 ?_
          refine lv_aload hx hb d_L_shift_92 (lv_at hl 0 rfl) ?_
          refine lv_iload_n hx hb d_L_shift_94 rfl (lv_at hl 4 rfl) ?_
          refine wcV_v (As := [.ref (wa T (68 + i)), .int (nI k)]) hx hb hC hw (k_W_takeRaised l T V K I O 12 i k (by omega) (by omega) (by omega) hk1 (by omega) (decide (z i < 0)) (hc.1 i hi9).2.2 hc.2) lk_L_137 rfl rfl ⟨by show 2 + 1 ≤ R.frames; omega, by show 8 + (3 + 11) + 52 ≤ R.locals; omega⟩ (by omega) (we_Whole (by omega)) rfl rfl hl.1 rfl (Nat.le_of_ble_eq_true rfl) ⟨Nat.zero_le _, Nat.zero_le _⟩ d_L_shift_95 (fun H locs hw => ?_)
          have fit9 : (z i * 2 ^ k).natAbs < m1024 := by rw [mul2_abs, ← hvi]; exact mul2_lt (bl_lt (hc.2 i (by omega))) hbk
          rw [hvi, ← mul2_abs, ← mul2_neg (z i) k] at hw
          have hl9 : (z i * 2 ^ k).natAbs < vLim := Nat.lt_of_lt_of_le fit9 m1024_lim
          have hc1 : cI z (va_up V 12 (z i * 2 ^ k).natAbs) (va_up K 12 (bI (decide (z i * 2 ^ k < 0)))) := (hc.out (by omega) hl9).outK (by omega)
          have e12 : (va_up V 12 (z i * 2 ^ k).natAbs) 12 = (z i * 2 ^ k).natAbs := va_up_self _ _ _
          refine lv_aload_n hx hb d_L_shift_98 rfl (lv_at hl 1 rfl) ?_
          refine lv_iload_n hx hb d_L_shift_99 rfl (lv_at hl 2 rfl) ?_
          by_cases hfit : (z i * 2 ^ k).natAbs < m1024
          rotate_left
          · refine xcV (As := [.int (nI x)]) hx hb hC hz9 hw (x_L_keepAnswer l hst9 T (va_up V 12 (z i * 2 ^ k).natAbs) (va_up K 12 (bI (decide (z i * 2 ^ k < 0)))) I O x (by rw [e12]; exact hfit) hc1.2) lk_L_79 rfl rfl ⟨by show 6 + 1 ≤ R.frames; omega, by show 8 + (2 + 11) + 90 ≤ R.locals; omega⟩ (by omega) (we_Self ) rfl rfl hl.1 rfl (Nat.le_of_ble_eq_true rfl) hRc d_L_shift_100 (fun V9 K9 H9 locs9 ce9 q9 hP9 hw9 h91 h92 h93 => ?_)
            exact hout _ V9 K9 _ _ _ _ _ _ _ (eP_k (k := 2) (absurd fit9 hfit) (List.mem_cons_of_mem _ List.mem_cons_self)) (by obtain ⟨rfl, rfl⟩ := hP9; exact ⟨hc1, va_up_ne _ _ (by omega), va_up_ne _ _ (by omega), va_up_ne _ _ (by omega)⟩) hw9 h91 h92 h93
          refine wcV_v (As := [.int (nI x)]) hx hb hC hw (k_L_keepAnswer l T (va_up V 12 (z i * 2 ^ k).natAbs) (va_up K 12 (bI (decide (z i * 2 ^ k < 0)))) I O x hx9 (decide (z i * 2 ^ k < 0)) (va_up_self _ _ _) (by rw [e12]; exact hfit) hc1.2) lk_L_79 rfl rfl ⟨by show 6 + 1 ≤ R.frames; omega, by show 8 + (2 + 11) + 90 ≤ R.locals; omega⟩ (by omega) (we_Self ) rfl rfl hl.1 rfl (Nat.le_of_ble_eq_true rfl) ⟨Nat.zero_le _, Nat.zero_le _⟩ d_L_shift_100 (fun H locs hw => ?_)
          exact yv hrt (Nat.zero_le _) (Nat.zero_le _) hx hb (⟨by rw [ocG_k gg, rg_nI hi9, hki]; exact if_neg fun h => by rw [← hvi] at h; omega, by rw [rg_nI hx9, rg_nI hi9, hki, shW_p hk0]; exact cQ_keep hc hx9 hfit⟩) hw d_L_shift_103
        · exact hthr _ _ _ _ _ _ _ _ _ _ _ _ _ xt_134 (eP_k (k := 2) (by rw [ocG_k gg, rg_nI hi9, hki]; exact if_pos ⟨fun h => hz (by rw [hvi, h]; rfl), by rw [← hvi]; omega⟩) (List.mem_cons_of_mem _ List.mem_cons_self)) (hc.q) hw hl.1 d_L_shift_78 d_L_shift_81 d_L_shift_82 d_L_shift_84 d_L_shift_87 (by show 2 + 3 < R.frames; omega) (by show 0 + (13 * (2 + 1) + 43) ≤ R.locals; omega)
      · exact absurd hw9 (by decide)
  · have hn0 := npos_int hn
    refine lv_aload_n hx hb d_L_shift_20 rfl (lv_at hl 1 rfl) ?_
    refine wg_Self_answer hx hb hC hw bw_186 d_L_shift_21 ?_
    refine lv_aload hx hb d_L_shift_24 (lv_at hl 0 rfl) ?_
    refine lv_iload_n hx hb d_L_shift_26 rfl (lv_at hl 4 rfl) ?_
    refine lv_sipush (v := (-1024)) hx hb d_L_shift_27 (by decide +kernel) ?_
    refine wm_maxR hx hb hC ml_522 hl.1 (by omega) (by show 2 + 13 ≤ R.locals; omega) ⟨Nat.zero_le _, Nat.zero_le _⟩ d_L_shift_30 ?_
    refine lv_ineg hx hb d_L_shift_33 ?_
    refine sw_i (y := nI (min (-n.toInt).toNat 1024)) (mx_neg n hn) ?_
    have hk9 : min (-n.toInt).toNat 1024 ≤ 1024 := Nat.min_le_right _ _
    have esh := shD_min (k := (-n.toInt).toNat) (hc.1 i hi9).1
    generalize min (-n.toInt).toNat 1024 = k at *
    refine wcV_v (As := [.ref (wa T (68 + i)), .int (nI k)]) hx hb hC hw (k_W_takeLowered l T V K I O 12 i k (by omega) (by omega) (by omega) (by omega) (Nat.le_trans (k37 (hc.lt hi9)) (by decide)) (decide (z i < 0)) (hc.1 i hi9).2.2 hc.2) lk_L_124 rfl rfl ⟨by show 2 + 1 ≤ R.frames; omega, by show 8 + (4 + 11) + 52 ≤ R.locals; omega⟩ (by omega) (we_Whole (by omega)) rfl rfl hl.1 rfl (Nat.le_of_ble_eq_true rfl) ⟨Nat.zero_le _, Nat.zero_le _⟩ d_L_shift_34 (fun H locs hw => ?_)
    have e1 : (V i / 2 ^ k + (if (decide (z i < 0) && decide (V i % 2 ^ k ≠ 0)) = true then 1 else 0)) = (shD (z i) k).natAbs := by rw [shD_abs, hvi]; rfl
    have fit9 : (shD (z i) k).natAbs < m1024 := by rw [shD_abs]; exact Nat.lt_of_le_of_lt (shN_le _ _) (hc.1 i hi9).1
    rw [e1, ← shD_neg (z i) k] at hw
    have hl9 : (shD (z i) k).natAbs < vLim := Nat.lt_of_lt_of_le fit9 m1024_lim
    have hc1 : cI z (va_up V 12 (shD (z i) k).natAbs) (va_up K 12 (bI (decide (shD (z i) k < 0)))) := (hc.out (by omega) hl9).outK (by omega)
    have e12 : (va_up V 12 (shD (z i) k).natAbs) 12 = (shD (z i) k).natAbs := va_up_self _ _ _
    refine lv_goto (tgt := 98) hx hb d_L_shift_37 (by decide) ?_
    refine lv_aload_n hx hb d_L_shift_98 rfl (lv_at hl 1 rfl) ?_
    refine lv_iload_n hx hb d_L_shift_99 rfl (lv_at hl 2 rfl) ?_
    by_cases hfit : (shD (z i) k).natAbs < m1024
    rotate_left
    · refine xcV (As := [.int (nI x)]) hx hb hC hz9 hw (x_L_keepAnswer l hst9 T (va_up V 12 (shD (z i) k).natAbs) (va_up K 12 (bI (decide (shD (z i) k < 0)))) I O x (by rw [e12]; exact hfit) hc1.2) lk_L_79 rfl rfl ⟨by show 6 + 1 ≤ R.frames; omega, by show 8 + (2 + 11) + 90 ≤ R.locals; omega⟩ (by omega) (we_Self ) rfl rfl hl.1 rfl (Nat.le_of_ble_eq_true rfl) hRc d_L_shift_100 (fun V9 K9 H9 locs9 ce9 q9 hP9 hw9 h91 h92 h93 => ?_)
      exact hout _ V9 K9 _ _ _ _ _ _ _ (eP_k (k := 2) (absurd fit9 hfit) (List.mem_cons_of_mem _ List.mem_cons_self)) (by obtain ⟨rfl, rfl⟩ := hP9; exact ⟨hc1, va_up_ne _ _ (by omega), va_up_ne _ _ (by omega), va_up_ne _ _ (by omega)⟩) hw9 h91 h92 h93
    refine wcV_v (As := [.int (nI x)]) hx hb hC hw (k_L_keepAnswer l T (va_up V 12 (shD (z i) k).natAbs) (va_up K 12 (bI (decide (shD (z i) k < 0)))) I O x hx9 (decide (shD (z i) k < 0)) (va_up_self _ _ _) (by rw [e12]; exact hfit) hc1.2) lk_L_79 rfl rfl ⟨by show 6 + 1 ≤ R.frames; omega, by show 8 + (2 + 11) + 90 ≤ R.locals; omega⟩ (by omega) (we_Self ) rfl rfl hl.1 rfl (Nat.le_of_ble_eq_true rfl) ⟨Nat.zero_le _, Nat.zero_le _⟩ d_L_shift_100 (fun H locs hw => ?_)
    exact yv hrt (Nat.zero_le _) (Nat.zero_le _) hx hb (⟨by rw [ocG_k gg, rg_nI hi9]; exact if_neg fun h => by rw [← hvi] at h; omega, by rw [rg_nI hx9, rg_nI hi9, shW_n hn0, ← esh]; exact cQ_keep hc hx9 hfit⟩) hw d_L_shift_103
