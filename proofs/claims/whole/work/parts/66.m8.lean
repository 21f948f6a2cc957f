/-! the model: divide -/
set_option maxRecDepth 100000 in
set_option maxHeartbeats 4000000 in
theorem k_M_divide (l : Launch) (T : wT) (F : wFt) (U K : wUt) (I : wIt) (O : wOt) (M Z : Nat → Nat) (G : Nat → Int32) (z : Nat → Int) (hm : mI z M Z G) (q r a b : Int32) (dn : Bool) : Met l y_M_divide (.code y_M_divide c_M_divide 8 none :: bg) ({ frames := 3, cells := 0, slots := 0, locals := 77 } : Room) (mP T F U K (gI I (dgm M) Z G) O [.ref (wa T 91), .int q, .int r, .int a, .int b, .int (bI dn)]) (mQvM T (fun M' Z' G' => mI (zF (ocG (isR q ∧ isR r ∧ isR a ∧ isR b) (dvC q r (z (rg b)))) (va_up (va_up z (rg q) (dvQ dn (z (rg a)) (z (rg b)))) (rg r) (dvR dn (z (rg a)) (z (rg b)))) z) M' Z' G') F U (va_up K 15 (nI (ocG (isR q ∧ isR r ∧ isR a ∧ isR b) (dvC q r (z (rg b)))))) I O) 0 0 (wA T) := by
  refine wM_vM (by decide) (Nat.le_of_ble_eq_true rfl) ?_
  intro p e R s m args below meth c Q ls hx hb hC hRf hRl hret hl hw
  have hRf : 3 ≤ R.frames := hRf
  have hRl : 77 ≤ R.locals := hRl
  have hl : lv_has ls 8 [(0, .ref (wa T 91)), (1, .int q), (2, .int r), (3, .int a), (4, .int b), (5, .int (bI dn))] := hl
  refine lv_aload_n hx hb d_M_divide_0 rfl (lv_at hl 0 rfl) ?_
  refine lv_iload_n hx hb d_M_divide_1 rfl (lv_at hl 1 rfl) ?_
  refine wcS_z (As := [.int q]) hx hb hC hw (k_M_is l T F U K (gI I (dgm M) Z G) O q) lk_M_66 rfl rfl ⟨by show 0 + 1 ≤ R.frames; omega, by show 8 + (1 + 11) + 0 ≤ R.locals; omega⟩ rfl hl.1 rfl (Nat.le_of_ble_eq_true rfl) ⟨Nat.zero_le _, Nat.zero_le _⟩ d_M_divide_2 (fun H locs hw => ?_)
  by_cases h_q : isR q
  rotate_left
  · refine sw_i (y := nI 0) (by rw [decide_eq_false h_q]; rfl) ?_
    refine n_if_eq (tgt := 30) hx hb d_M_divide_5 (by decide) (by omega) (fun hw9 => ?_) (fun hw9 => absurd hw9 (by decide))
    refine lv_iconst (v := nI 1) hx hb d_M_divide_30 (by decide +kernel) ?_
    refine lv_goto (tgt := 58) hx hb d_M_divide_31 (by decide) ?_
    refine wp_Model_code hx hb hC hw bw_817 d_M_divide_58 (fun H locs hw => ?_)
    refine lv_aload_n hx hb d_M_divide_61 rfl (lv_at hl 0 rfl) ?_
    refine wg_Model_code hx hb hC hw bw_817 d_M_divide_62 ?_
    refine sw_i (y := nI 1) (va_up_self _ _ _) ?_
    refine n_if_le (tgt := 69) hx hb d_M_divide_65 (by decide) (by omega) (fun hw9 => absurd hw9 (by decide)) (fun hw9 => ?_)
    rw [ocG_1 (fun e => h_q e.1)] at hret
    exact hret _ _ _ _ _ _ _ (by rw [zF_n (by decide)]; exact hm) hw d_M_divide_68
  refine sw_i (y := nI 1) (by rw [decide_eq_true h_q]; rfl) ?_
  obtain ⟨x, hx9, rfl⟩ := isR_of h_q
  have hl : lv_has ls 8 [(0, .ref (wa T 91)), (1, .int (nI x)), (2, .int r), (3, .int a), (4, .int b), (5, .int (bI dn))] := hl
  refine n_if_eq (tgt := 30) hx hb d_M_divide_5 (by decide) (by omega) (fun hw9 => absurd hw9 (by decide)) (fun hw9 => ?_)
  refine lv_iload_n hx hb d_M_divide_8 rfl (lv_at hl 2 rfl) ?_
  refine wcS_z (As := [.int r]) hx hb hC hw (k_M_is l T F U K (gI I (dgm M) Z G) O r) lk_M_66 rfl rfl ⟨by show 0 + 1 ≤ R.frames; omega, by show 8 + (1 + 11) + 0 ≤ R.locals; omega⟩ rfl hl.1 rfl (Nat.le_of_ble_eq_true rfl) ⟨Nat.zero_le _, Nat.zero_le _⟩ d_M_divide_9 (fun H locs hw => ?_)
  by_cases h_r : isR r
  rotate_left
  · refine sw_i (y := nI 0) (by rw [decide_eq_false h_r]; rfl) ?_
    refine n_if_eq (tgt := 30) hx hb d_M_divide_12 (by decide) (by omega) (fun hw9 => ?_) (fun hw9 => absurd hw9 (by decide))
    refine lv_iconst (v := nI 1) hx hb d_M_divide_30 (by decide +kernel) ?_
    refine lv_goto (tgt := 58) hx hb d_M_divide_31 (by decide) ?_
    refine wp_Model_code hx hb hC hw bw_817 d_M_divide_58 (fun H locs hw => ?_)
    refine lv_aload_n hx hb d_M_divide_61 rfl (lv_at hl 0 rfl) ?_
    refine wg_Model_code hx hb hC hw bw_817 d_M_divide_62 ?_
    refine sw_i (y := nI 1) (va_up_self _ _ _) ?_
    refine n_if_le (tgt := 69) hx hb d_M_divide_65 (by decide) (by omega) (fun hw9 => absurd hw9 (by decide)) (fun hw9 => ?_)
    rw [ocG_1 (fun e => h_r e.2.1)] at hret
    exact hret _ _ _ _ _ _ _ (by rw [zF_n (by decide)]; exact hm) hw d_M_divide_68
  refine sw_i (y := nI 1) (by rw [decide_eq_true h_r]; rfl) ?_
  obtain ⟨k, hk9, rfl⟩ := isR_of h_r
  have hl : lv_has ls 8 [(0, .ref (wa T 91)), (1, .int (nI x)), (2, .int (nI k)), (3, .int a), (4, .int b), (5, .int (bI dn))] := hl
  refine n_if_eq (tgt := 30) hx hb d_M_divide_12 (by decide) (by omega) (fun hw9 => absurd hw9 (by decide)) (fun hw9 => ?_)
  refine lv_iload_n hx hb d_M_divide_15 rfl (lv_at hl 3 rfl) ?_
  refine wcS_z (As := [.int a]) hx hb hC hw (k_M_is l T F U K (gI I (dgm M) Z G) O a) lk_M_66 rfl rfl ⟨by show 0 + 1 ≤ R.frames; omega, by show 8 + (1 + 11) + 0 ≤ R.locals; omega⟩ rfl hl.1 rfl (Nat.le_of_ble_eq_true rfl) ⟨Nat.zero_le _, Nat.zero_le _⟩ d_M_divide_16 (fun H locs hw => ?_)
  by_cases h_a : isR a
  rotate_left
  · refine sw_i (y := nI 0) (by rw [decide_eq_false h_a]; rfl) ?_
    refine n_if_eq (tgt := 30) hx hb d_M_divide_19 (by decide) (by omega) (fun hw9 => ?_) (fun hw9 => absurd hw9 (by decide))
    refine lv_iconst (v := nI 1) hx hb d_M_divide_30 (by decide +kernel) ?_
    refine lv_goto (tgt := 58) hx hb d_M_divide_31 (by decide) ?_
    refine wp_Model_code hx hb hC hw bw_817 d_M_divide_58 (fun H locs hw => ?_)
    refine lv_aload_n hx hb d_M_divide_61 rfl (lv_at hl 0 rfl) ?_
    refine wg_Model_code hx hb hC hw bw_817 d_M_divide_62 ?_
    refine sw_i (y := nI 1) (va_up_self _ _ _) ?_
    refine n_if_le (tgt := 69) hx hb d_M_divide_65 (by decide) (by omega) (fun hw9 => absurd hw9 (by decide)) (fun hw9 => ?_)
    rw [ocG_1 (fun e => h_a e.2.2.1)] at hret
    exact hret _ _ _ _ _ _ _ (by rw [zF_n (by decide)]; exact hm) hw d_M_divide_68
  refine sw_i (y := nI 1) (by rw [decide_eq_true h_a]; rfl) ?_
  obtain ⟨i, hi9, rfl⟩ := isR_of h_a
  have hl : lv_has ls 8 [(0, .ref (wa T 91)), (1, .int (nI x)), (2, .int (nI k)), (3, .int (nI i)), (4, .int b), (5, .int (bI dn))] := hl
  refine n_if_eq (tgt := 30) hx hb d_M_divide_19 (by decide) (by omega) (fun hw9 => absurd hw9 (by decide)) (fun hw9 => ?_)
  refine lv_iload hx hb d_M_divide_22 (lv_at hl 4 rfl) ?_
  refine wcS_z (As := [.int b]) hx hb hC hw (k_M_is l T F U K (gI I (dgm M) Z G) O b) lk_M_66 rfl rfl ⟨by show 0 + 1 ≤ R.frames; omega, by show 8 + (1 + 11) + 0 ≤ R.locals; omega⟩ rfl hl.1 rfl (Nat.le_of_ble_eq_true rfl) ⟨Nat.zero_le _, Nat.zero_le _⟩ d_M_divide_24 (fun H locs hw => ?_)
  by_cases h_b : isR b
  rotate_left
  · refine sw_i (y := nI 0) (by rw [decide_eq_false h_b]; rfl) ?_
    refine n_if_ne (tgt := 34) hx hb d_M_divide_27 (by decide) (by omega) (fun hw9 => absurd hw9 (by decide)) (fun hw9 => ?_)
    refine lv_iconst (v := nI 1) hx hb d_M_divide_30 (by decide +kernel) ?_
    refine lv_goto (tgt := 58) hx hb d_M_divide_31 (by decide) ?_
    refine wp_Model_code hx hb hC hw bw_817 d_M_divide_58 (fun H locs hw => ?_)
    refine lv_aload_n hx hb d_M_divide_61 rfl (lv_at hl 0 rfl) ?_
    refine wg_Model_code hx hb hC hw bw_817 d_M_divide_62 ?_
    refine sw_i (y := nI 1) (va_up_self _ _ _) ?_
    refine n_if_le (tgt := 69) hx hb d_M_divide_65 (by decide) (by omega) (fun hw9 => absurd hw9 (by decide)) (fun hw9 => ?_)
    rw [ocG_1 (fun e => h_b e.2.2.2)] at hret
    exact hret _ _ _ _ _ _ _ (by rw [zF_n (by decide)]; exact hm) hw d_M_divide_68
  refine sw_i (y := nI 1) (by rw [decide_eq_true h_b]; rfl) ?_
  obtain ⟨j, hj9, rfl⟩ := isR_of h_b
  have hl : lv_has ls 8 [(0, .ref (wa T 91)), (1, .int (nI x)), (2, .int (nI k)), (3, .int (nI i)), (4, .int (nI j)), (5, .int (bI dn))] := hl
  refine n_if_ne (tgt := 34) hx hb d_M_divide_27 (by decide) (by omega) (fun hw9 => ?_) (fun hw9 => absurd hw9 (by decide))
  have gg : isR (nI x) ∧ isR (nI k) ∧ isR (nI i) ∧ isR (nI j) := ⟨h_q, h_r, h_a, h_b⟩
  rw [ocG_k gg, rg_nI hx9, rg_nI hk9, rg_nI hi9, rg_nI hj9] at hret
  have hi := hm.1 i hi9
  have hj := hm.1 j hj9
  refine lv_iload_n hx hb d_M_divide_34 rfl (lv_at hl 1 rfl) ?_
  refine lv_iload_n hx hb d_M_divide_35 rfl (lv_at hl 2 rfl) ?_
  refine n_icmp_ne (tgt := 43) hx hb d_M_divide_36 (by decide) (by omega) (by omega) (fun hqk => ?_) (fun hqk => ?_)
  rotate_left
  · rw [show dvC (nI x) (nI k) (z j) = 2 from by unfold dvC; rw [if_pos (by rw [hqk])]] at hret
    refine lv_iconst (v := nI 2) hx hb d_M_divide_39 (by decide +kernel) ?_
    refine lv_goto (tgt := 58) hx hb d_M_divide_40 (by decide) ?_
    refine wp_Model_code hx hb hC hw bw_817 d_M_divide_58 (fun H locs hw => ?_)
    refine lv_aload_n hx hb d_M_divide_61 rfl (lv_at hl 0 rfl) ?_
    refine wg_Model_code hx hb hC hw bw_817 d_M_divide_62 ?_
    refine sw_i (y := nI 2) (va_up_self _ _ _) ?_
    refine n_if_le (tgt := 69) hx hb d_M_divide_65 (by decide) (by omega) (fun hw9 => absurd hw9 (by decide)) (fun hw9 => ?_)
    exact hret _ _ _ _ _ _ _ (by rw [zF_n (by decide)]; exact hm) hw d_M_divide_68
  have hqk9 : nI x ≠ nI k := fun h => hqk ((nI_eq (by omega) (by omega)).mp h)
  refine lv_aload_n hx hb d_M_divide_43 rfl (lv_at hl 0 rfl) ?_
  refine wg_Model_sign hx hb hC hw bw_820 d_M_divide_44 ?_
  refine lv_iload hx hb d_M_divide_47 (lv_at hl 4 rfl) ?_
  refine wl_msign hx hb hw (by omega) d_M_divide_49 ?_
  refine sw_i (y := (G j)) (rfl) ?_
  refine sw_i (y := (sgnI (z j))) (hj.2.2.2) ?_
  by_cases hz0 : z j = 0
  · rw [show dvC (nI x) (nI k) (z j) = 3 from by unfold dvC; rw [if_neg hqk9, if_pos hz0]] at hret
    refine sw_i (y := (nI 0)) (sg_z hz0) ?_
    refine lv_if_ne (tgt := 57) hx hb d_M_divide_50 (by decide) (fun hw9 => absurd hw9 (by decide +kernel)) (fun hw9 => ?_)
    refine lv_iconst (v := nI 3) hx hb d_M_divide_53 (by decide +kernel) ?_
    refine lv_goto (tgt := 58) hx hb d_M_divide_54 (by decide) ?_
    refine wp_Model_code hx hb hC hw bw_817 d_M_divide_58 (fun H locs hw => ?_)
    refine lv_aload_n hx hb d_M_divide_61 rfl (lv_at hl 0 rfl) ?_
    refine wg_Model_code hx hb hC hw bw_817 d_M_divide_62 ?_
    refine sw_i (y := nI 3) (va_up_self _ _ _) ?_
    refine n_if_le (tgt := 69) hx hb d_M_divide_65 (by decide) (by omega) (fun hw9 => absurd hw9 (by decide)) (fun hw9 => ?_)
    exact hret _ _ _ _ _ _ _ (by rw [zF_n (by decide)]; exact hm) hw d_M_divide_68
  rw [show dvC (nI x) (nI k) (z j) = 0 from by unfold dvC; rw [if_neg hqk9, if_neg hz0], zF_0 rfl] at hret
  refine lv_if_ne (tgt := 57) hx hb d_M_divide_50 (by decide) (fun h0 => ?_) (fun h0 => ?_)
  rotate_left
  · exact absurd (sg_eq.mp (by first | exact h0 | exact Classical.not_not.mp h0)) hz0
  refine lv_iconst (v := nI 0) hx hb d_M_divide_57 (by decide +kernel) ?_
  refine wp_Model_code hx hb hC hw bw_817 d_M_divide_58 (fun H locs hw => ?_)
  refine lv_aload_n hx hb d_M_divide_61 rfl (lv_at hl 0 rfl) ?_
  refine wg_Model_code hx hb hC hw bw_817 d_M_divide_62 ?_
  refine sw_i (y := nI 0) (va_up_self _ _ _) ?_
  refine n_if_le (tgt := 69) hx hb d_M_divide_65 (by decide) (by omega) (fun hw9 => ?_) (fun hw9 => absurd hw9 (by decide))
  refine lv_aload_n hx hb d_M_divide_69 rfl (lv_at hl 0 rfl) ?_
  refine wg_Model_sign hx hb hC hw bw_820 d_M_divide_70 ?_
  refine lv_iload_n hx hb d_M_divide_73 rfl (lv_at hl 3 rfl) ?_
  refine wl_msign hx hb hw (by omega) d_M_divide_74 ?_
  refine sw_i (y := (G i)) (rfl) ?_
  refine sw_i (y := (sgnI (z i))) (hi.2.2.2) ?_
  refine lv_istore hx hb d_M_divide_75 hl (by decide) rfl (fun ls hl => ?_)
  have hl : lv_has ls 8 [(6, .int (sgnI (z i))), (0, .ref (wa T 91)), (1, .int (nI x)), (2, .int (nI k)), (3, .int (nI i)), (4, .int (nI j)), (5, .int (bI dn))] := hl
  refine lv_aload_n hx hb d_M_divide_77 rfl (lv_at hl 1 rfl) ?_
  refine wg_Model_sign hx hb hC hw bw_820 d_M_divide_78 ?_
  refine lv_iload hx hb d_M_divide_81 (lv_at hl 5 rfl) ?_
  refine wl_msign hx hb hw (by omega) d_M_divide_83 ?_
  refine sw_i (y := (G j)) (rfl) ?_
  refine sw_i (y := (sgnI (z j))) (hj.2.2.2) ?_
  have hj0 : 0 < M j := by rw [hj.2.1]; omega
  refine lv_istore hx hb d_M_divide_84 hl (by decide) rfl (fun ls hl => ?_)
  have hl : lv_has ls 8 [(7, .int (sgnI (z j))), (6, .int (sgnI (z i))), (0, .ref (wa T 91)), (1, .int (nI x)), (2, .int (nI k)), (3, .int (nI i)), (4, .int (nI j)), (5, .int (bI dn))] := hl
  refine lv_aload_n hx hb d_M_divide_86 rfl (lv_at hl 2 rfl) ?_
  refine lv_iload_n hx hb d_M_divide_87 rfl (lv_at hl 5 rfl) ?_
  refine lv_iload hx hb d_M_divide_88 (lv_at hl 6 rfl) ?_
  refine wcV_v (As := [.int (nI i), .int (nI j)]) hx hb hC hw (k_M_split l T F U (va_up K 15 (nI 0)) I O M Z G i j (by omega) (by omega) (by omega) (by omega) (by omega) (by omega) hi.2.2.1 hj.2.2.1 (m107_of (hm.lt hi9)) (hm.2 j (by omega)) hj0) lk_M_56 rfl rfl ⟨by show 2 + 1 ≤ R.frames; omega, by show 8 + (10 + 11) + 48 ≤ R.locals; omega⟩ (by omega) (we_Model ) rfl rfl hl.1 rfl (Nat.le_of_ble_eq_true rfl) ⟨Nat.zero_le _, Nat.zero_le _⟩ d_M_divide_90 (fun H locs hw => ?_)
  have rl : M i % M j < M j := Nat.mod_lt _ hj0
  have ql : M i / M j ≤ M i := Nat.div_le_self _ _
  have li := hm.lt hi9
  have lj := hm.lt hj9
  have lim := mM_of li
  have lim2 := mM_of lj
  have hm2 : mI z (va_up (va_up M 16 (M i % M j)) 15 (M i / M j)) (va_up (va_up Z 16 (lnM (M i % M j))) 15 (lnM (M i / M j))) G := (hm.out (by omega) (by omega)).out (by omega) (by omega)
  have r2 : (va_up (va_up M 16 (M i % M j)) 15 (M i / M j)) 16 = (z i).natAbs % (z j).natAbs := (va_up_ne _ _ (by decide)).trans ((va_up_self _ _ _).trans (by rw [hi.2.1, hj.2.1]))
  have q2 : (va_up (va_up M 16 (M i % M j)) 15 (M i / M j)) 15 = (z i).natAbs / (z j).natAbs := (va_up_self _ _ _).trans (by rw [hi.2.1, hj.2.1])
  have zr2 : (va_up (va_up Z 16 (lnM (M i % M j))) 15 (lnM (M i / M j))) 16 = lnM ((va_up (va_up M 16 (M i % M j)) 15 (M i / M j)) 16) := by rw [va_up_ne _ _ (by decide), va_up_self, va_up_ne _ _ (by decide), va_up_self]
  have zq2 : (va_up (va_up Z 16 (lnM (M i % M j))) 15 (lnM (M i / M j))) 15 = lnM ((va_up (va_up M 16 (M i % M j)) 15 (M i / M j)) 15) := by rw [va_up_self, va_up_self]
  have ej2 : (va_up (va_up M 16 (M i % M j)) 15 (M i / M j)) j = M j := (va_up_ne _ _ (by omega)).trans (va_up_ne _ _ (by omega))
  have hli := hi.1
  have hlj := hj.1
  rw [hi.2.1, hj.2.1] at rl ql
  generalize (va_up (va_up M 16 (M i % M j)) 15 (M i / M j)) = M2 at hw hm2 r2 q2 zr2 zq2 ej2
  generalize (va_up (va_up Z 16 (lnM (M i % M j))) 15 (lnM (M i / M j))) = Z2 at hw hm2 zr2 zq2
  cases dn
  · have hl : lv_has ls 8 [(7, .int (sgnI (z j))), (6, .int (sgnI (z i))), (0, .ref (wa T 91)), (1, .int (nI x)), (2, .int (nI k)), (3, .int (nI i)), (4, .int (nI j)), (5, .int (nI 0))] := hl
    refine lv_iload hx hb d_M_divide_93 (lv_at hl 7 rfl) ?_
    refine n_if_eq (tgt := 158) hx hb d_M_divide_95 (by decide) (by omega) (fun hw9 => ?_) (fun hw9 => absurd hw9 (by decide))
    have hs : dvS false (z i) (z j) = false := dvS_f
    have qa : (dvQ false (z i) (z j)).natAbs = (z i).natAbs / (z j).natAbs := by rw [dvQ_n hs rfl rfl, sgI_abs]
    have ra : (dvR false (z i) (z j)).natAbs = (z i).natAbs % (z j).natAbs := by rw [dvR_n hs rfl, sgI_abs]
    refine lv_aload_n hx hb d_M_divide_158 rfl (lv_at hl 2 rfl) ?_
    refine lv_bipush (v := nI 15) hx hb d_M_divide_159 (by decide +kernel) ?_
    refine lv_iload_n hx hb d_M_divide_161 rfl (lv_at hl 3 rfl) ?_
    refine lv_iload hx hb d_M_divide_162 (lv_at hl 1 rfl) ?_
    refine lv_iload hx hb d_M_divide_164 (lv_at hl 0 rfl) ?_
    refine lv_imul hx hb d_M_divide_166 ?_
    refine wcV_v (As := [.int (nI 15), .int (nI x), .int ((sgnI (z i)) * (sgnI (z j)))]) hx hb hC hw (k_M_store l T F U (va_up K 15 (nI 0)) I O M2 Z2 G 15 x ((sgnI (z i)) * (sgnI (z j))) (by omega) (by omega) (by rw [zq2]; exact lnM_le _)) lk_M_73 rfl rfl ⟨by show 1 + 1 ≤ R.frames; omega, by show 8 + (4 + 11) + 23 ≤ R.locals; omega⟩ (by omega) (we_Model ) rfl rfl hl.1 rfl (Nat.le_of_ble_eq_true rfl) ⟨Nat.zero_le _, Nat.zero_le _⟩ d_M_divide_167 (fun H locs hw => ?_)
    have hm3 := hm2.store (w := dvQ false (z i) (z j)) (sg := ((sgnI (z i)) * (sgnI (z j)))) hx9 (by omega : 15 < 20) (q2.trans qa.symm) zq2 (by rw [qa]; omega) (fun h => dvQ_g hz0 hs h)
    have r3 : (va_up M2 x (M2 15)) 16 = (dvR false (z i) (z j)).natAbs := (va_up_ne _ _ (by omega)).trans (r2.trans ra.symm)
    have zr3 : (va_up Z2 x (Z2 15)) 16 = lnM ((va_up M2 x (M2 15)) 16) := by rw [va_up_ne _ _ (by omega), va_up_ne _ _ (by omega)]; exact zr2
    refine lv_aload_n hx hb d_M_divide_170 rfl (lv_at hl 2 rfl) ?_
    refine lv_bipush (v := nI 16) hx hb d_M_divide_171 (by decide +kernel) ?_
    refine lv_iload_n hx hb d_M_divide_173 rfl (lv_at hl 4 rfl) ?_
    refine lv_iload hx hb d_M_divide_174 (lv_at hl 1 rfl) ?_
    refine wcV_v (As := [.int (nI 16), .int (nI k), .int (sgnI (z i))]) hx hb hC hw (k_M_store l T F U (va_up K 15 (nI 0)) I O (va_up M2 x (M2 15)) (va_up Z2 x (Z2 15)) (va_up G x (if Z2 15 = 0 then nI 0 else ((sgnI (z i)) * (sgnI (z j))))) 16 k (sgnI (z i)) (by omega) (by omega) (by rw [zr3]; exact lnM_le _)) lk_M_73 rfl rfl ⟨by show 1 + 1 ≤ R.frames; omega, by show 8 + (4 + 11) + 23 ≤ R.locals; omega⟩ (by omega) (we_Model ) rfl rfl hl.1 rfl (Nat.le_of_ble_eq_true rfl) ⟨Nat.zero_le _, Nat.zero_le _⟩ d_M_divide_176 (fun H locs hw => ?_)
    exact hret _ _ _ _ _ _ _ (hm3.store hk9 (by omega) r3 zr3 (by rw [ra]; omega) (fun h => dvR_g hs h)) hw d_M_divide_179
  · have hl : lv_has ls 8 [(7, .int (sgnI (z j))), (6, .int (sgnI (z i))), (0, .ref (wa T 91)), (1, .int (nI x)), (2, .int (nI k)), (3, .int (nI i)), (4, .int (nI j)), (5, .int (nI 1))] := hl
    refine lv_iload hx hb d_M_divide_93 (lv_at hl 7 rfl) ?_
    refine n_if_eq (tgt := 158) hx hb d_M_divide_95 (by decide) (by omega) (fun hw9 => absurd hw9 (by decide)) (fun hw9 => ?_)
    refine lv_iload hx hb d_M_divide_98 (lv_at hl 1 rfl) ?_
    refine lv_iload hx hb d_M_divide_100 (lv_at hl 0 rfl) ?_
    refine lv_imul hx hb d_M_divide_102 ?_
    refine sw_i (y := (sgnI (z i * z j))) (sg_mul _ _) ?_
    refine lv_if_ge (tgt := 158) hx hb d_M_divide_103 (by decide) (fun hsg => ?_) (fun hsg => ?_)
    · have hs : dvS true (z i) (z j) = false := Bool.eq_false_iff.mpr fun q => absurd (sg_lt.mpr ((dvS_iff hz0).mp q).1) (Int32.not_lt.mpr hsg)
      have qa : (dvQ true (z i) (z j)).natAbs = (z i).natAbs / (z j).natAbs := by rw [dvQ_n hs rfl rfl, sgI_abs]
      have ra : (dvR true (z i) (z j)).natAbs = (z i).natAbs % (z j).natAbs := by rw [dvR_n hs rfl, sgI_abs]
      refine lv_aload_n hx hb d_M_divide_158 rfl (lv_at hl 2 rfl) ?_
      refine lv_bipush (v := nI 15) hx hb d_M_divide_159 (by decide +kernel) ?_
      refine lv_iload_n hx hb d_M_divide_161 rfl (lv_at hl 3 rfl) ?_
      refine lv_iload hx hb d_M_divide_162 (lv_at hl 1 rfl) ?_
      refine lv_iload hx hb d_M_divide_164 (lv_at hl 0 rfl) ?_
      refine lv_imul hx hb d_M_divide_166 ?_
      refine wcV_v (As := [.int (nI 15), .int (nI x), .int ((sgnI (z i)) * (sgnI (z j)))]) hx hb hC hw (k_M_store l T F U (va_up K 15 (nI 0)) I O M2 Z2 G 15 x ((sgnI (z i)) * (sgnI (z j))) (by omega) (by omega) (by rw [zq2]; exact lnM_le _)) lk_M_73 rfl rfl ⟨by show 1 + 1 ≤ R.frames; omega, by show 8 + (4 + 11) + 23 ≤ R.locals; omega⟩ (by omega) (we_Model ) rfl rfl hl.1 rfl (Nat.le_of_ble_eq_true rfl) ⟨Nat.zero_le _, Nat.zero_le _⟩ d_M_divide_167 (fun H locs hw => ?_)
      have hm3 := hm2.store (w := dvQ true (z i) (z j)) (sg := ((sgnI (z i)) * (sgnI (z j)))) hx9 (by omega : 15 < 20) (q2.trans qa.symm) zq2 (by rw [qa]; omega) (fun h => dvQ_g hz0 hs h)
      have r3 : (va_up M2 x (M2 15)) 16 = (dvR true (z i) (z j)).natAbs := (va_up_ne _ _ (by omega)).trans (r2.trans ra.symm)
      have zr3 : (va_up Z2 x (Z2 15)) 16 = lnM ((va_up M2 x (M2 15)) 16) := by rw [va_up_ne _ _ (by omega), va_up_ne _ _ (by omega)]; exact zr2
      refine lv_aload_n hx hb d_M_divide_170 rfl (lv_at hl 2 rfl) ?_
      refine lv_bipush (v := nI 16) hx hb d_M_divide_171 (by decide +kernel) ?_
      refine lv_iload_n hx hb d_M_divide_173 rfl (lv_at hl 4 rfl) ?_
      refine lv_iload hx hb d_M_divide_174 (lv_at hl 1 rfl) ?_
      refine wcV_v (As := [.int (nI 16), .int (nI k), .int (sgnI (z i))]) hx hb hC hw (k_M_store l T F U (va_up K 15 (nI 0)) I O (va_up M2 x (M2 15)) (va_up Z2 x (Z2 15)) (va_up G x (if Z2 15 = 0 then nI 0 else ((sgnI (z i)) * (sgnI (z j))))) 16 k (sgnI (z i)) (by omega) (by omega) (by rw [zr3]; exact lnM_le _)) lk_M_73 rfl rfl ⟨by show 1 + 1 ≤ R.frames; omega, by show 8 + (4 + 11) + 23 ≤ R.locals; omega⟩ (by omega) (we_Model ) rfl rfl hl.1 rfl (Nat.le_of_ble_eq_true rfl) ⟨Nat.zero_le _, Nat.zero_le _⟩ d_M_divide_176 (fun H locs hw => ?_)
      exact hret _ _ _ _ _ _ _ (hm3.store hk9 (by omega) r3 zr3 (by rw [ra]; omega) (fun h => dvR_g hs h)) hw d_M_divide_179
    · replace hsg := sg_lt.mp (Int32.not_le.mp hsg)
      have lz := lnM_z (v := (z i).natAbs % (z j).natAbs) (by omega)
      have ll := lnM_le ((z i).natAbs % (z j).natAbs)
      refine lv_aload_n hx hb d_M_divide_106 rfl (lv_at hl 2 rfl) ?_
      refine wg_Model_size hx hb hC hw bw_819 d_M_divide_107 ?_
      refine lv_bipush (v := nI 16) hx hb d_M_divide_110 (by decide +kernel) ?_
      refine wl_msize hx hb hw (by omega) d_M_divide_112 ?_
      refine sw_i (y := nI (lnM ((z i).natAbs % (z j).natAbs))) (congrArg nI (zr2.trans (congrArg lnM r2))) ?_
      refine n_if_le (tgt := 158) hx hb d_M_divide_113 (by decide) (by omega) (fun hsz => ?_) (fun hsz => ?_)
      · have hs : dvS true (z i) (z j) = false := dvS_z (lz.mp hsz)
        have qa : (dvQ true (z i) (z j)).natAbs = (z i).natAbs / (z j).natAbs := by rw [dvQ_n hs rfl rfl, sgI_abs]
        have ra : (dvR true (z i) (z j)).natAbs = (z i).natAbs % (z j).natAbs := by rw [dvR_n hs rfl, sgI_abs]
        refine lv_aload_n hx hb d_M_divide_158 rfl (lv_at hl 2 rfl) ?_
        refine lv_bipush (v := nI 15) hx hb d_M_divide_159 (by decide +kernel) ?_
        refine lv_iload_n hx hb d_M_divide_161 rfl (lv_at hl 3 rfl) ?_
        refine lv_iload hx hb d_M_divide_162 (lv_at hl 1 rfl) ?_
        refine lv_iload hx hb d_M_divide_164 (lv_at hl 0 rfl) ?_
        refine lv_imul hx hb d_M_divide_166 ?_
        refine wcV_v (As := [.int (nI 15), .int (nI x), .int ((sgnI (z i)) * (sgnI (z j)))]) hx hb hC hw (k_M_store l T F U (va_up K 15 (nI 0)) I O M2 Z2 G 15 x ((sgnI (z i)) * (sgnI (z j))) (by omega) (by omega) (by rw [zq2]; exact lnM_le _)) lk_M_73 rfl rfl ⟨by show 1 + 1 ≤ R.frames; omega, by show 8 + (4 + 11) + 23 ≤ R.locals; omega⟩ (by omega) (we_Model ) rfl rfl hl.1 rfl (Nat.le_of_ble_eq_true rfl) ⟨Nat.zero_le _, Nat.zero_le _⟩ d_M_divide_167 (fun H locs hw => ?_)
        have hm3 := hm2.store (w := dvQ true (z i) (z j)) (sg := ((sgnI (z i)) * (sgnI (z j)))) hx9 (by omega : 15 < 20) (q2.trans qa.symm) zq2 (by rw [qa]; omega) (fun h => dvQ_g hz0 hs h)
        have r3 : (va_up M2 x (M2 15)) 16 = (dvR true (z i) (z j)).natAbs := (va_up_ne _ _ (by omega)).trans (r2.trans ra.symm)
        have zr3 : (va_up Z2 x (Z2 15)) 16 = lnM ((va_up M2 x (M2 15)) 16) := by rw [va_up_ne _ _ (by omega), va_up_ne _ _ (by omega)]; exact zr2
        refine lv_aload_n hx hb d_M_divide_170 rfl (lv_at hl 2 rfl) ?_
        refine lv_bipush (v := nI 16) hx hb d_M_divide_171 (by decide +kernel) ?_
        refine lv_iload_n hx hb d_M_divide_173 rfl (lv_at hl 4 rfl) ?_
        refine lv_iload hx hb d_M_divide_174 (lv_at hl 1 rfl) ?_
        refine wcV_v (As := [.int (nI 16), .int (nI k), .int (sgnI (z i))]) hx hb hC hw (k_M_store l T F U (va_up K 15 (nI 0)) I O (va_up M2 x (M2 15)) (va_up Z2 x (Z2 15)) (va_up G x (if Z2 15 = 0 then nI 0 else ((sgnI (z i)) * (sgnI (z j))))) 16 k (sgnI (z i)) (by omega) (by omega) (by rw [zr3]; exact lnM_le _)) lk_M_73 rfl rfl ⟨by show 1 + 1 ≤ R.frames; omega, by show 8 + (4 + 11) + 23 ≤ R.locals; omega⟩ (by omega) (we_Model ) rfl rfl hl.1 rfl (Nat.le_of_ble_eq_true rfl) ⟨Nat.zero_le _, Nat.zero_le _⟩ d_M_divide_176 (fun H locs hw => ?_)
        exact hret _ _ _ _ _ _ _ (hm3.store hk9 (by omega) r3 zr3 (by rw [ra]; omega) (fun h => dvR_g hs h)) hw d_M_divide_179
      · have hr0 : ¬ (z i).natAbs % (z j).natAbs = 0 := fun q => by rw [lz.mpr q] at hsz; omega
        have hs : dvS true (z i) (z j) = true := (dvS_iff hz0).mpr ⟨hsg, hr0⟩
        have q1 := dv_q1 hr0
        refine lv_aload_n hx hb d_M_divide_116 rfl (lv_at hl 2 rfl) ?_
        refine lv_bipush (v := nI 12) hx hb d_M_divide_117 (by decide +kernel) ?_
        refine lv_iconst (v := nI 1) hx hb d_M_divide_119 (by decide +kernel) ?_
        refine wcV_v (As := [.int (nI 12), .int (nI 1)]) hx hb hC hw (k_M_small l T F U (va_up K 15 (nI 0)) I O M2 Z2 G 12 1 (by omega) (by decide)) lk_M_93 rfl rfl ⟨by show 1 + 1 ≤ R.frames; omega, by show 8 + (3 + 11) + 22 ≤ R.locals; omega⟩ (by omega) (we_Model ) rfl rfl hl.1 rfl (Nat.le_of_ble_eq_true rfl) ⟨Nat.zero_le _, Nat.zero_le _⟩ d_M_divide_120 (fun H locs hw => ?_)
        have hm3 : mI z (va_up M2 12 1) (va_up Z2 12 (lnM 1)) G := hm2.out (by omega) (lim20 (by decide))
        have q3 : (va_up M2 12 1) 15 = (z i).natAbs / (z j).natAbs := (va_up_ne _ _ (by decide)).trans q2
        have o3 : (va_up M2 12 1) 12 = 1 := va_up_self _ _ _
        have r3 : (va_up M2 12 1) 16 = (z i).natAbs % (z j).natAbs := (va_up_ne _ _ (by decide)).trans r2
        have ej3 : (va_up M2 12 1) j = (z j).natAbs := (va_up_ne _ _ (by omega)).trans (ej2.trans hj.2.1)
        generalize (va_up M2 12 1) = M3 at hw hm3 q3 o3 r3 ej3
        generalize (va_up Z2 12 (lnM 1)) = Z3 at hw hm3
        refine lv_aload_n hx hb d_M_divide_123 rfl (lv_at hl 2 rfl) ?_
        refine lv_bipush (v := nI 15) hx hb d_M_divide_124 (by decide +kernel) ?_
        refine lv_bipush (v := nI 12) hx hb d_M_divide_126 (by decide +kernel) ?_
        refine lv_bipush (v := nI 15) hx hb d_M_divide_128 (by decide +kernel) ?_
        refine wcV_v (As := [.int (nI 15), .int (nI 12), .int (nI 15)]) hx hb hC hw (k_M_plus l T F U (va_up K 15 (nI 0)) I O M3 Z3 G 15 12 15 (by omega) (by omega) (by omega) (by rw [q3, o3]; omega)) lk_M_83 rfl rfl ⟨by show 1 + 1 ≤ R.frames; omega, by show 8 + (7 + 11) + 22 ≤ R.locals; omega⟩ (by omega) (we_Model ) rfl rfl hl.1 rfl (Nat.le_of_ble_eq_true rfl) ⟨Nat.zero_le _, Nat.zero_le _⟩ d_M_divide_130 (fun H locs hw => ?_)
        rw [q3, o3] at hw
        have hm4 : mI z (va_up M3 15 ((z i).natAbs / (z j).natAbs + 1)) (va_up Z3 15 (lnM ((z i).natAbs / (z j).natAbs + 1))) G := hm3.out (by omega) (by omega)
        have r4 : (va_up M3 15 ((z i).natAbs / (z j).natAbs + 1)) 16 = (z i).natAbs % (z j).natAbs := (va_up_ne _ _ (by decide)).trans r3
        have ej4 : (va_up M3 15 ((z i).natAbs / (z j).natAbs + 1)) j = (z j).natAbs := (va_up_ne _ _ (by omega)).trans ej3
        have q4 : (va_up M3 15 ((z i).natAbs / (z j).natAbs + 1)) 15 = (z i).natAbs / (z j).natAbs + 1 := va_up_self _ _ _
        have zq4 : (va_up Z3 15 (lnM ((z i).natAbs / (z j).natAbs + 1))) 15 = lnM ((va_up M3 15 ((z i).natAbs / (z j).natAbs + 1)) 15) := by rw [va_up_self, va_up_self]
        generalize (va_up M3 15 ((z i).natAbs / (z j).natAbs + 1)) = M4 at hw hm4 r4 ej4 q4 zq4
        generalize (va_up Z3 15 (lnM ((z i).natAbs / (z j).natAbs + 1))) = Z4 at hw hm4 zq4
        refine lv_aload_n hx hb d_M_divide_133 rfl (lv_at hl 2 rfl) ?_
        refine lv_iload hx hb d_M_divide_134 (lv_at hl 6 rfl) ?_
        refine lv_bipush (v := nI 16) hx hb d_M_divide_136 (by decide +kernel) ?_
        refine lv_bipush (v := nI 16) hx hb d_M_divide_138 (by decide +kernel) ?_
        refine wcV_v (As := [.int (nI j), .int (nI 16), .int (nI 16)]) hx hb hC hw (k_M_minus l T F U (va_up K 15 (nI 0)) I O M4 Z4 G j 16 16 (by omega) (by omega) (by omega) (by rw [r4, ej4]; omega) (hm4.2 j (by omega))) lk_M_59 rfl rfl ⟨by show 1 + 1 ≤ R.frames; omega, by show 8 + (7 + 11) + 22 ≤ R.locals; omega⟩ (by omega) (we_Model ) rfl rfl hl.1 rfl (Nat.le_of_ble_eq_true rfl) ⟨Nat.zero_le _, Nat.zero_le _⟩ d_M_divide_140 (fun H locs hw => ?_)
        rw [r4, ej4] at hw
        have hm5 : mI z (va_up M4 16 ((z j).natAbs - (z i).natAbs % (z j).natAbs)) (va_up Z4 16 (lnM ((z j).natAbs - (z i).natAbs % (z j).natAbs))) G := hm4.out (by omega) (by omega)
        have r5 : (va_up M4 16 ((z j).natAbs - (z i).natAbs % (z j).natAbs)) 16 = (z j).natAbs - (z i).natAbs % (z j).natAbs := va_up_self _ _ _
        have zr5 : (va_up Z4 16 (lnM ((z j).natAbs - (z i).natAbs % (z j).natAbs))) 16 = lnM ((va_up M4 16 ((z j).natAbs - (z i).natAbs % (z j).natAbs)) 16) := by rw [va_up_self, va_up_self]
        have q5 : (va_up M4 16 ((z j).natAbs - (z i).natAbs % (z j).natAbs)) 15 = (z i).natAbs / (z j).natAbs + 1 := (va_up_ne _ _ (by decide)).trans q4
        have zq5 : (va_up Z4 16 (lnM ((z j).natAbs - (z i).natAbs % (z j).natAbs))) 15 = lnM ((va_up M4 16 ((z j).natAbs - (z i).natAbs % (z j).natAbs)) 15) := by rw [va_up_ne _ _ (by decide), va_up_ne _ _ (by decide)]; exact zq4
        generalize (va_up M4 16 ((z j).natAbs - (z i).natAbs % (z j).natAbs)) = M5 at hw hm5 r5 zr5 q5 zq5
        generalize (va_up Z4 16 (lnM ((z j).natAbs - (z i).natAbs % (z j).natAbs))) = Z5 at hw hm5 zr5 zq5
        have qa : (dvQ true (z i) (z j)).natAbs = (z i).natAbs / (z j).natAbs + 1 := by rw [dvQ_s hs rfl rfl, sgI_abs]
        have ra : (dvR true (z i) (z j)).natAbs = (z j).natAbs - (z i).natAbs % (z j).natAbs := by rw [dvR_s hs rfl, sgI_abs]
        refine lv_iload hx hb d_M_divide_143 (lv_at hl 0 rfl) ?_
        refine lv_istore hx hb d_M_divide_145 hl (by decide) rfl (fun ls hl => ?_)
        have hl : lv_has ls 8 [(6, .int (sgnI (z j))), (7, .int (sgnI (z j))), (0, .ref (wa T 91)), (1, .int (nI x)), (2, .int (nI k)), (3, .int (nI i)), (4, .int (nI j)), (5, .int (nI 1))] := hl
        refine lv_aload_n hx hb d_M_divide_147 rfl (lv_at hl 2 rfl) ?_
        refine lv_bipush (v := nI 15) hx hb d_M_divide_148 (by decide +kernel) ?_
        refine lv_iload_n hx hb d_M_divide_150 rfl (lv_at hl 3 rfl) ?_
        refine lv_iconst (v := (-1)) hx hb d_M_divide_151 (by decide +kernel) ?_
        refine wcV_v (As := [.int (nI 15), .int (nI x), .int (-1)]) hx hb hC hw (k_M_store l T F U (va_up K 15 (nI 0)) I O M5 Z5 G 15 x (-1) (by omega) (by omega) (by rw [zq5]; exact lnM_le _)) lk_M_73 rfl rfl ⟨by show 1 + 1 ≤ R.frames; omega, by show 8 + (4 + 11) + 23 ≤ R.locals; omega⟩ (by omega) (we_Model ) rfl rfl hl.1 rfl (Nat.le_of_ble_eq_true rfl) ⟨Nat.zero_le _, Nat.zero_le _⟩ d_M_divide_152 (fun H locs hw => ?_)
        have hm3 := hm5.store (w := dvQ true (z i) (z j)) (sg := (-1)) hx9 (by omega : 15 < 20) (q5.trans qa.symm) zq5 (by rw [qa]; omega) (fun _ => dvQ_gs hz0 hs)
        have r3 : (va_up M5 x (M5 15)) 16 = (dvR true (z i) (z j)).natAbs := (va_up_ne _ _ (by omega)).trans (r5.trans ra.symm)
        have zr3 : (va_up Z5 x (Z5 15)) 16 = lnM ((va_up M5 x (M5 15)) 16) := by rw [va_up_ne _ _ (by omega), va_up_ne _ _ (by omega)]; exact zr5
        refine lv_goto (tgt := 170) hx hb d_M_divide_155 (by decide) ?_
        refine lv_aload_n hx hb d_M_divide_170 rfl (lv_at hl 2 rfl) ?_
        refine lv_bipush (v := nI 16) hx hb d_M_divide_171 (by decide +kernel) ?_
        refine lv_iload_n hx hb d_M_divide_173 rfl (lv_at hl 4 rfl) ?_
        refine lv_iload hx hb d_M_divide_174 (lv_at hl 0 rfl) ?_
        refine wcV_v (As := [.int (nI 16), .int (nI k), .int (sgnI (z j))]) hx hb hC hw (k_M_store l T F U (va_up K 15 (nI 0)) I O (va_up M5 x (M5 15)) (va_up Z5 x (Z5 15)) (va_up G x (if Z5 15 = 0 then nI 0 else (-1))) 16 k (sgnI (z j)) (by omega) (by omega) (by rw [zr3]; exact lnM_le _)) lk_M_73 rfl rfl ⟨by show 1 + 1 ≤ R.frames; omega, by show 8 + (4 + 11) + 23 ≤ R.locals; omega⟩ (by omega) (we_Model ) rfl rfl hl.1 rfl (Nat.le_of_ble_eq_true rfl) ⟨Nat.zero_le _, Nat.zero_le _⟩ d_M_divide_176 (fun H locs hw => ?_)
        exact hret _ _ _ _ _ _ _ (hm3.store hk9 (by omega) r3 zr3 (by rw [ra]; omega) (fun _ => dvR_gs hz0 hs)) hw d_M_divide_179
