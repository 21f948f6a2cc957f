/-! the model: split, reduce, timesBy -/
theorem va_c2 {α : Type} {f : Nat → α} {i j : Nat} {u v w : α} (h : i ≠ j) : va_up (va_up (va_up f i u) j v) i w = va_up (va_up f i w) j v := funext fun k => by
  rw [va_va, va_va, va_va, va_va, va_va]
  by_cases h1 : k = i
  · subst h1; rw [if_pos rfl, if_neg h, if_pos rfl]
  · rw [if_neg h1, if_neg h1, if_neg h1]
theorem sp_dz {Q r : Nat} (h : Q % b20 ^ (r + 1) = 0) : dg Q r = 0 ∧ Q % b20 ^ r = 0 := by
  rw [mod_s] at h
  have h1 := Nat.add_eq_zero_iff.mp h
  refine ⟨?_, h1.1⟩
  rcases Nat.mul_eq_zero.mp h1.2 with q | q
  · have := b20_pp r; omega
  · exact q
theorem sp_q {Q r d : Nat} (h : dg Q r = 0) : sD Q r d = Q + d * b20 ^ r := by
  have := sD_eq Q r d
  rw [h, Nat.zero_mul, Nat.add_zero] at this; exact this
theorem sp_qz {Q r d : Nat} (h : Q % b20 ^ r = 0) : (Q + d * b20 ^ r) % b20 ^ r = 0 := by rw [Nat.add_mul_mod_self_right]; exact h
theorem sp_sum {X R A B Q d P : Nat} (h6 : X + d * (B * P) = R) (h1 : R + B * Q = A) : X + B * (Q + d * P) = A := by
  rw [Nat.mul_add, Nat.mul_left_comm B d P]; omega
theorem sp_d {X R B d r : Nat} (h6 : X + d * (B * b20 ^ r) = R) (h2 : R < B * b20 ^ (r + 1)) : d < 1048576 := by
  have h : d * (B * b20 ^ r) < 1048576 * (B * b20 ^ r) := Nat.lt_of_le_of_lt (by omega : d * (B * b20 ^ r) ≤ R) (Nat.lt_of_lt_of_le h2 (Nat.le_of_eq (by rw [Nat.pow_succ, ← Nat.mul_assoc, Nat.mul_comm]; rfl)))
  exact Nat.lt_of_mul_lt_mul_right h
theorem sp_P {B r : Nat} (h : 0 < B) : 0 < B * b20 ^ r := Nat.mul_pos h (b20_pp r)
theorem sp_X {X B n r : Nat} (hB : B < b20 ^ n) (h : X < B * b20 ^ (r + 1)) : X < b20 ^ (n + r + 1) := by
  refine Nat.lt_trans h ?_
  rw [Nat.add_assoc, Nat.pow_add b20 n]; exact Nat.mul_lt_mul_of_pos_right hB (b20_pp _)
theorem sp_st {A B : Nat} (hA : A < mM) (hB0 : 0 < lnM B) (h : lnM B ≤ lnM A) : A < B * b20 ^ (lnM A - lnM B + 1) := by
  refine Nat.lt_of_lt_of_le (lnM_lt hA) ?_
  have h1 := lnM_ge hB0
  refine Nat.le_trans (Nat.le_of_eq ?_) (Nat.mul_le_mul_right _ h1)
  rw [← Nat.pow_add]; congr 1; omega
theorem spl_lt {A B Q R : Nat} (h : R + B * Q = A) (hB : 0 < B) : Q ≤ A := by
  have : 1 * Q ≤ B * Q := Nat.mul_le_mul_right _ hB
  omega

set_option maxRecDepth 100000 in
set_option maxHeartbeats 4000000 in
theorem k_M_split (l : Launch) (T : wT) (F : wFt) (U K : wUt) (I : wIt) (O : wOt) (M Z : Nat → Nat) (G : Nat → Int32) (a b : Nat) (ha9 : a < 20) (hb9 : b < 20) (ha5 : a ≠ 15) (ha6 : a ≠ 16) (hb5 : b ≠ 15) (hb6 : b ≠ 16) (hza : Z a = lnM (M a)) (hzb : Z b = lnM (M b)) (hA : M a < b20 ^ 107) (hmb : M b < mM) (hb0 : 0 < M b) : Met l y_M_split (.code y_M_split c_M_split 10 none :: bg) ({ frames := 2, cells := 0, slots := 0, locals := 48 } : Room) (mP T F U K (gI I (dgm M) Z G) O [.ref (wa T 91), .int (nI a), .int (nI b)]) (mQv T F U K (gI I (dgm (va_up (va_up M 16 (M a % M b)) 15 (M a / M b))) (va_up (va_up Z 16 (lnM (M a % M b))) 15 (lnM (M a / M b))) G) O) 0 0 (wA T) := by
  refine wM_v (by decide) (Nat.le_of_ble_eq_true rfl) ?_
  intro p e R s m args below meth c Q ls hx hb hC hRf hRl hret hl hw
  have hRf : 2 ≤ R.frames := hRf
  have hRl : 48 ≤ R.locals := hRl
  have hl : lv_has ls 10 [(0, .ref (wa T 91)), (1, .int (nI a)), (2, .int (nI b))] := hl
  have hmA : M a < mM := Nat.lt_of_lt_of_le hA (b20_le (by decide))
  have la := lnM_mono hA
  have lb := lnM_le (M b)
  have lb0 : 0 < lnM (M b) := by have := (lnM_z hmb).mp; omega
  have hB := lnM_lt hmb
  refine lv_aload_n hx hb d_M_split_0 rfl (lv_at hl 0 rfl) ?_
  refine lv_iload_n hx hb d_M_split_1 rfl (lv_at hl 1 rfl) ?_
  refine lv_bipush (v := nI 16) hx hb d_M_split_2 (by decide +kernel) ?_
  refine wcV_v (As := [.int (nI a), .int (nI 16)]) hx hb hC hw (k_M_move l T F U K I O M Z G a 16 ha9 (by omega)) lk_M_40 rfl rfl ⟨by show 0 + 1 ≤ R.frames; omega, by show 8 + (4 + 11) + 0 ≤ R.locals; omega⟩ (by omega) (we_Model ) rfl rfl hl.1 rfl (Nat.le_of_ble_eq_true rfl) ⟨Nat.zero_le _, Nat.zero_le _⟩ d_M_split_4 (fun H locs hw => ?_)
  refine lv_aload_n hx hb d_M_split_7 rfl (lv_at hl 0 rfl) ?_
  refine lv_bipush (v := nI 15) hx hb d_M_split_8 (by decide +kernel) ?_
  refine wcV_v (As := [.int (nI 15)]) hx hb hC hw (k_M_clear l T F U K I O (va_up M 16 (M a)) (va_up Z 16 (Z a)) G 15 (by omega)) lk_M_26 rfl rfl ⟨by show 0 + 1 ≤ R.frames; omega, by show 8 + (3 + 11) + 0 ≤ R.locals; omega⟩ (by omega) (we_Model ) rfl rfl hl.1 rfl (Nat.le_of_ble_eq_true rfl) ⟨Nat.zero_le _, Nat.zero_le _⟩ d_M_split_10 (fun H locs hw => ?_)
  refine lv_aload_n hx hb d_M_split_13 rfl (lv_at hl 0 rfl) ?_
  refine wg_Model_size hx hb hC hw bw_819 d_M_split_14 ?_
  refine lv_iload_n hx hb d_M_split_17 rfl (lv_at hl 2 rfl) ?_
  refine wl_msize hx hb hw (by omega) d_M_split_18 ?_
  refine sw_i (y := nI (lnM (M b))) (congrArg nI (((va_up_ne _ _ hb5).trans (va_up_ne _ _ hb6)).trans hzb)) ?_
  refine lv_istore_n hx hb d_M_split_19 rfl hl (by decide) rfl (fun ls hl => ?_)
  have hl : lv_has ls 10 [(3, .int (nI (lnM (M b)))), (0, .ref (wa T 91)), (1, .int (nI a)), (2, .int (nI b))] := hl
  refine lv_aload_n hx hb d_M_split_20 rfl (lv_at hl 1 rfl) ?_
  refine wg_Model_size hx hb hC hw bw_819 d_M_split_21 ?_
  refine lv_iload_n hx hb d_M_split_24 rfl (lv_at hl 2 rfl) ?_
  refine wl_msize hx hb hw (by omega) d_M_split_25 ?_
  refine sw_i (y := nI (lnM (M a))) (congrArg nI (((va_up_ne _ _ ha5).trans (va_up_ne _ _ ha6)).trans hza)) ?_
  refine lv_iload_n hx hb d_M_split_26 rfl (lv_at hl 0 rfl) ?_
  refine lv_isub hx hb d_M_split_27 ?_
  refine lv_istore hx hb d_M_split_28 hl (by decide) rfl (fun ls hl => ?_)
  have hl : lv_has ls 10 [(4, .int (nI (lnM (M a)) - nI (lnM (M b)))), (3, .int (nI (lnM (M b)))), (0, .ref (wa T 91)), (1, .int (nI a)), (2, .int (nI b))] := hl
  by_cases hc9 : lnM (M a) < lnM (M b)
  · have hlt := lt_of_ln hmA hc9
    have hqe : M a / M b = 0 := Nat.div_eq_of_lt hlt
    have hre : M a % M b = M a := Nat.mod_eq_of_lt hlt
    have hq9 : 0 < mM := b20_pp 108
    have hr9 := hmA
    have hng : nI (lnM (M a)) - nI (lnM (M b)) < 0 := Int32.lt_iff_toInt_lt.mpr (by rw [ij_sub (by rw [ij_nI (by omega), ij_nI (by omega)]; omega) (by rw [ij_nI (by omega), ij_nI (by omega)]; omega), ij_nI (by omega), ij_nI (by omega), show (0 : Int32).toInt = 0 by decide +kernel]; omega)
    refine lv_iload hx hb d_M_split_30 (lv_at hl 0 rfl) ?_
    refine lv_if_lt (tgt := 136) hx hb d_M_split_32 (by decide) (fun h0 => ?_) (fun h0 => ?_)
    · refine lv_aload_n hx hb d_M_split_136 rfl (lv_at hl 2 rfl) ?_
      refine lv_bipush (v := nI 15) hx hb d_M_split_137 (by decide +kernel) ?_
      refine wcV_v (As := [.int (nI 15)]) hx hb hC hw (k_M_trim l T F U K I O (va_up (va_up M 16 (M a)) 15 0) (va_up (va_up Z 16 (Z a)) 15 0) G 15 (by omega) (by rw [va_up_self]; exact hq9)) lk_M_30 rfl rfl ⟨by show 0 + 1 ≤ R.frames; omega, by show 8 + (3 + 11) + 0 ≤ R.locals; omega⟩ (by omega) (we_Model ) rfl rfl hl.1 rfl (Nat.le_of_ble_eq_true rfl) ⟨Nat.zero_le _, Nat.zero_le _⟩ d_M_split_139 (fun H locs hw => ?_)
      rw [va_up_self, va_v2] at hw
      refine lv_aload_n hx hb d_M_split_142 rfl (lv_at hl 2 rfl) ?_
      refine lv_bipush (v := nI 16) hx hb d_M_split_143 (by decide +kernel) ?_
      refine wcV_v (As := [.int (nI 16)]) hx hb hC hw (k_M_trim l T F U K I O (va_up (va_up M 16 (M a)) 15 0) (va_up (va_up Z 16 (Z a)) 15 (lnM 0)) G 16 (by omega) (by rw [va_up_ne _ _ (by decide), va_up_self]; exact hr9)) lk_M_30 rfl rfl ⟨by show 0 + 1 ≤ R.frames; omega, by show 8 + (3 + 11) + 0 ≤ R.locals; omega⟩ (by omega) (we_Model ) rfl rfl hl.1 rfl (Nat.le_of_ble_eq_true rfl) ⟨Nat.zero_le _, Nat.zero_le _⟩ d_M_split_145 (fun H locs hw => ?_)
      have e16 : (va_up (va_up M 16 (M a)) 15 0) 16 = (M a) := (va_up_ne _ _ (by decide)).trans (va_up_self _ _ _)
      rw [e16, va_c2 (by decide)] at hw
      rw [hqe, hre] at hret
      exact hret _ _ _ _ hw d_M_split_148
    · exact absurd hng h0
  · have eql : nI (lnM (M a)) - nI (lnM (M b)) = nI (lnM (M a) - lnM (M b) + 1) - 1 := by rw [pk_sub (by omega), nI_pred]
    have hl : lv_has ls 10 [(4, .int (nI (lnM (M a) - lnM (M b) + 1) - 1)), (3, .int (nI (lnM (M b)))), (0, .ref (wa T 91)), (1, .int (nI a)), (2, .int (nI b))] := by rw [← eql]; exact hl
    have lp : ∀ (q : Nat) (R9 : Nat) (Q9 : Nat) (ls : Array Slot) (H : Heap) (locs : List Loc), (R9 + M b * Q9 = M a) → (R9 < M b * b20 ^ q) → (Q9 % b20 ^ q = 0) → (lnM (M b) + q ≤ 108) →  lv_has ls 10 [(4, .int (nI q - 1)), (3, .int (nI (lnM (M b)))), (0, .ref (wa T 91)), (1, .int (nI a)), (2, .int (nI b))] → wH T F U K (gI I (dgm (va_up (va_up M 16 R9) 15 Q9)) (va_up (va_up Z 16 (Z a)) 15 0) G) O (wA T) s s.heap H locs → W p l e R s m args below meth c H locs 0 0 Q (F0 m 30 ls []) := by
      intro q
      induction q with
      | zero =>
        intro R9 Q9 ls H locs h1 h2 h3 h4 hl hw
        refine lv_iload hx hb d_M_split_30 (lv_at hl 0 rfl) ?_
        refine d_if_lt (tgt := 136) hx hb d_M_split_32 (by decide) (by omega) (fun h0 => ?_) (fun h0 => ?_)
        · rw [Nat.pow_zero, Nat.mul_one] at h2
          have hqr := sp_end h1 h2
          have hqe := hqr.1
          have hre := hqr.2
          have hq9 : Q9 < mM := Nat.lt_of_le_of_lt (spl_lt h1 hb0) hmA
          have hr9 : R9 < mM := by omega
          refine lv_aload_n hx hb d_M_split_136 rfl (lv_at hl 2 rfl) ?_
          refine lv_bipush (v := nI 15) hx hb d_M_split_137 (by decide +kernel) ?_
          refine wcV_v (As := [.int (nI 15)]) hx hb hC hw (k_M_trim l T F U K I O (va_up (va_up M 16 R9) 15 Q9) (va_up (va_up Z 16 (Z a)) 15 0) G 15 (by omega) (by rw [va_up_self]; exact hq9)) lk_M_30 rfl rfl ⟨by show 0 + 1 ≤ R.frames; omega, by show 8 + (3 + 11) + 0 ≤ R.locals; omega⟩ (by omega) (we_Model ) rfl rfl hl.1 rfl (Nat.le_of_ble_eq_true rfl) ⟨Nat.zero_le _, Nat.zero_le _⟩ d_M_split_139 (fun H locs hw => ?_)
          rw [va_up_self, va_v2] at hw
          refine lv_aload_n hx hb d_M_split_142 rfl (lv_at hl 2 rfl) ?_
          refine lv_bipush (v := nI 16) hx hb d_M_split_143 (by decide +kernel) ?_
          refine wcV_v (As := [.int (nI 16)]) hx hb hC hw (k_M_trim l T F U K I O (va_up (va_up M 16 R9) 15 Q9) (va_up (va_up Z 16 (Z a)) 15 (lnM Q9)) G 16 (by omega) (by rw [va_up_ne _ _ (by decide), va_up_self]; exact hr9)) lk_M_30 rfl rfl ⟨by show 0 + 1 ≤ R.frames; omega, by show 8 + (3 + 11) + 0 ≤ R.locals; omega⟩ (by omega) (we_Model ) rfl rfl hl.1 rfl (Nat.le_of_ble_eq_true rfl) ⟨Nat.zero_le _, Nat.zero_le _⟩ d_M_split_145 (fun H locs hw => ?_)
          have e16 : (va_up (va_up M 16 R9) 15 Q9) 16 = R9 := (va_up_ne _ _ (by decide)).trans (va_up_self _ _ _)
          rw [e16, va_c2 (by decide)] at hw
          rw [hqe, hre] at hret
          exact hret _ _ _ _ hw d_M_split_148
        · exact absurd h0 (by omega)
      | succ r ih =>
        intro R9 Q9 ls H locs h1 h2 h3 h4 hl hw
        rw [nI_pred] at hl
        have hl : lv_has ls 10 [(4, .int (nI r)), (3, .int (nI (lnM (M b)))), (0, .ref (wa T 91)), (1, .int (nI a)), (2, .int (nI b))] := hl
        refine lv_iload hx hb d_M_split_30 (lv_at hl 0 rfl) ?_
        refine n_if_lt hx hb d_M_split_32 (by decide) (by omega) ?_
        have hP := sp_P (r := r) hb0
        have hdz := sp_dz h3
        refine lv_lconst (v := 0) hx hb d_M_split_35 (by decide +kernel) ?_
        refine sw_l (y := (lN 0)) (rfl) ?_
        refine lv_lstore hx hb d_M_split_36 hl (by decide) rfl (fun ls hl => ?_)
        have hl : lv_has ls 10 [(5, .long (lN 0)), (4, .int (nI r)), (3, .int (nI (lnM (M b)))), (0, .ref (wa T 91)), (1, .int (nI a)), (2, .int (nI b))] := hl
        refine lv_iconst (v := nI 1) hx hb d_M_split_38 (by decide +kernel) ?_
        refine lv_istore hx hb d_M_split_39 hl (by decide) rfl (fun ls hl => ?_)
        have hl : lv_has ls 10 [(7, .int (nI 1)), (5, .long (lN 0)), (4, .int (nI r)), (3, .int (nI (lnM (M b)))), (0, .ref (wa T 91)), (1, .int (nI a)), (2, .int (nI b))] := hl
        have lq : ∀ (z9 X d9 : Nat) (ls : Array Slot) (H : Heap) (locs : List Loc), X ≤ z9 → X + d9 * (M b * b20 ^ r) = R9 → X < M b * b20 ^ (r + 1) → lv_has ls 10 [(7, .int (nI 1)), (5, .long (lN d9)), (4, .int (nI r)), (3, .int (nI (lnM (M b)))), (0, .ref (wa T 91)), (1, .int (nI a)), (2, .int (nI b))] → wH T F U K (gI I (dgm (va_up (va_up M 16 X) 15 Q9)) (va_up (va_up Z 16 (Z a)) 15 0) G) O (wA T) s s.heap H locs → W p l e R s m args below meth c H locs 0 0 Q (F0 m 41 ls []) := by
          intro z9
          induction z9 with
          | zero =>
            intro X d9 ls H locs hX h6 h7 hl hw
            have hl : lv_has ls 10 [(7, .int (nI 1)), (5, .long (lN d9)), (4, .int (nI r)), (3, .int (nI (lnM (M b)))), (0, .ref (wa T 91)), (1, .int (nI a)), (2, .int (nI b))] := hl
            have hXn := sp_X hB h7
            have e16 : (va_up (va_up M 16 X) 15 Q9) 16 = X := (va_up_ne _ _ (by decide)).trans (va_up_self _ _ _)
            have eb : (va_up (va_up M 16 X) 15 Q9) b = M b := (va_up_ne _ _ hb5).trans (va_up_ne _ _ hb6)
            have cont : ∀ (g9 : Nat) (ls : Array Slot) (H : Heap) (locs : List Loc), g9 * (M b * b20 ^ r) ≤ X → g9 < 1048576 → (g9 = 0 → X < M b * b20 ^ r) → lv_has ls 10 [(7, .int (nI 1)), (5, .long (lN d9)), (4, .int (nI r)), (3, .int (nI (lnM (M b)))), (0, .ref (wa T 91)), (1, .int (nI a)), (2, .int (nI b))] → wH T F U K (gI I (dgm (va_up (va_up M 16 X) 15 Q9)) (va_up (va_up Z 16 (Z a)) 15 0) G) O (wA T) s s.heap H locs → W p l e R s m args below meth c H locs 0 0 Q (F0 m 80 ls [.long (lN g9)]) := by
              intro g9 ls H locs hg1 hg2 hg3 hl hw
              have hl : lv_has ls 10 [(7, .int (nI 1)), (5, .long (lN d9)), (4, .int (nI r)), (3, .int (nI (lnM (M b)))), (0, .ref (wa T 91)), (1, .int (nI a)), (2, .int (nI b))] := hl
              refine lv_lstore hx hb d_M_split_80 hl (by decide) rfl (fun ls hl => ?_)
              have hl : lv_has ls 10 [(8, .long (lN g9)), (7, .int (nI 1)), (5, .long (lN d9)), (4, .int (nI r)), (3, .int (nI (lnM (M b)))), (0, .ref (wa T 91)), (1, .int (nI a)), (2, .int (nI b))] := hl
              refine lv_aload_n hx hb d_M_split_82 rfl (lv_at hl 5 rfl) ?_
              refine lv_iload_n hx hb d_M_split_83 rfl (lv_at hl 7 rfl) ?_
              refine lv_iload_n hx hb d_M_split_84 rfl (lv_at hl 4 rfl) ?_
              refine lv_iload hx hb d_M_split_85 (lv_at hl 3 rfl) ?_
              refine lv_lload hx hb d_M_split_87 (lv_at hl 0 rfl) ?_
              refine wcV_v (As := [.int (nI b), .int (nI (lnM (M b))), .int (nI r), .long (lN g9)]) hx hb hC hw (k_M_takeAway l T F U K I O (va_up (va_up M 16 X) 15 Q9) (va_up (va_up Z 16 (Z a)) 15 0) G b (lnM (M b)) r g9 hb9 hb6 lb0 (by omega) hg2 (by rw [e16]; exact hXn) (by rw [eb]; exact hB) (by rw [e16, eb]; exact hg1)) lk_M_52 rfl rfl ⟨by show 0 + 1 ≤ R.frames; omega, by show 8 + (11 + 11) + 0 ≤ R.locals; omega⟩ (by omega) (we_Model ) rfl rfl hl.1 rfl (Nat.le_of_ble_eq_true rfl) ⟨Nat.zero_le _, Nat.zero_le _⟩ d_M_split_89 (fun H locs hw => ?_)
              rw [e16, eb, va_c2 (by decide)] at hw
              refine lv_lload hx hb d_M_split_92 (lv_at hl 2 rfl) ?_
              refine lv_lload hx hb d_M_split_94 (lv_at hl 0 rfl) ?_
              refine lv_ladd hx hb d_M_split_96 ?_
              refine sw_l (y := (lN (d9 + g9))) (lN_add _ _) ?_
              have h8 : X - g9 * (M b * b20 ^ r) + (d9 + g9) * (M b * b20 ^ r) = R9 := by rw [Nat.add_mul]; omega
              refine lv_lstore hx hb d_M_split_97 hl (by decide) rfl (fun ls hl => ?_)
              have hl : lv_has ls 10 [(5, .long (lN (d9 + g9))), (8, .long (lN g9)), (7, .int (nI 1)), (4, .int (nI r)), (3, .int (nI (lnM (M b)))), (0, .ref (wa T 91)), (1, .int (nI a)), (2, .int (nI b))] := hl
              refine lv_lload hx hb d_M_split_99 (lv_at hl 1 rfl) ?_
              refine lv_lconst (v := 0) hx hb d_M_split_101 (by decide +kernel) ?_
              refine lc_le (tgt := 110) hx hb d_M_split_102 d_M_split_103 (by decide) (fun h5 => ?_) (fun h5 => ?_)
              · have hg0 : g9 = 0 := by rw [lj_lN (by omega), lj_0] at h5; omega
                have hXl := hg3 hg0
                subst hg0
                rw [Nat.zero_mul, Nat.sub_zero, Nat.add_zero] at *
                have hl : lv_has ls 10 [(5, .long (lN d9)), (8, .long (lN 0)), (7, .int (nI 1)), (4, .int (nI r)), (3, .int (nI (lnM (M b)))), (0, .ref (wa T 91)), (1, .int (nI a)), (2, .int (nI b))] := hl
                refine lv_iconst (v := nI 0) hx hb d_M_split_110 (by decide +kernel) ?_
                refine lv_istore hx hb d_M_split_111 hl (by decide) rfl (fun ls hl => ?_)
                have hl : lv_has ls 10 [(7, .int (nI 0)), (5, .long (lN d9)), (8, .long (lN 0)), (4, .int (nI r)), (3, .int (nI (lnM (M b)))), (0, .ref (wa T 91)), (1, .int (nI a)), (2, .int (nI b))] := hl
                refine lv_goto (tgt := 41) hx hb d_M_split_113 (by decide) ?_
                refine lv_iload hx hb d_M_split_41 (lv_at hl 0 rfl) ?_
                refine n_if_eq (tgt := 116) hx hb d_M_split_43 (by decide) (by omega) (fun hw9 => ?_) (fun hw9 => ?_)
                · have hd9 := sp_d h6 h2
                  refine lv_aload_n hx hb d_M_split_116 rfl (lv_at hl 5 rfl) ?_
                  refine wg_Model_d hx hb hC hw bw_818 d_M_split_117 ?_
                  refine lv_sipush (v := nI 1620) hx hb d_M_split_120 (by decide +kernel) ?_
                  refine lv_iload hx hb d_M_split_123 (lv_at hl 3 rfl) ?_
                  refine n_iadd hx hb d_M_split_125 ?_
                  refine lv_lload hx hb d_M_split_126 (lv_at hl 1 rfl) ?_
                  refine lv_l2i hx hb d_M_split_128 rfl ?_
                  refine sw_i (y := nI d9) (lN_i _) ?_
                  refine ws_md hx hb hw (by omega) d_M_split_129 (fun H locs hw => ?_)
                  rw [show (va_up (gI I (dgm (va_up (va_up M 16 X) 15 Q9)) (va_up (va_up Z 16 (Z a)) 15 0) G) 1 (upd ((gI I (dgm (va_up (va_up M 16 X) 15 Q9)) (va_up (va_up Z 16 (Z a)) 15 0) G) 1) (1620 + r) (nI d9))) = (gI I (va_up (dgm (va_up (va_up M 16 X) 15 Q9)) 15 (va_up ((dgm (va_up (va_up M 16 X) 15 Q9)) 15) r d9)) (va_up (va_up Z 16 (Z a)) 15 0) G) from gI_sd (s := 15) (i := r) (by omega)] at hw
                  rw [dgm_sD hd9, va_v2, va_up_self, sp_q hdz.1] at hw
                  refine lv_iinc (v := (nI r - 1)) hx hb d_M_split_130 hl (k := 3) rfl (i32_m1 _) (by decide) rfl (fun ls hl => ?_)
                  have hl : lv_has ls 10 [(4, .int (nI r - 1)), (7, .int (nI 0)), (5, .long (lN d9)), (8, .long (lN 0)), (3, .int (nI (lnM (M b)))), (0, .ref (wa T 91)), (1, .int (nI a)), (2, .int (nI b))] := hl
                  refine lv_goto (tgt := 30) hx hb d_M_split_133 (by decide) ?_
                  have hl := lv_sub hl [0, 4, 5, 6, 7] rfl
                  have hl : lv_has ls 10 [(4, .int (nI r - 1)), (3, .int (nI (lnM (M b)))), (0, .ref (wa T 91)), (1, .int (nI a)), (2, .int (nI b))] := hl
                  exact ih X (Q9 + d9 * b20 ^ r) ls _ _ (sp_sum h6 h1) hXl (sp_qz hdz.2) (by omega) hl hw
                · exact absurd hw9 (by decide)
              · have hg0 : 0 < g9 := by rw [lj_lN (by omega), lj_0] at h5; omega
                have hgp : 1 * (M b * b20 ^ r) ≤ g9 * (M b * b20 ^ r) := Nat.mul_le_mul_right _ hg0
                omega
            refine lv_iload hx hb d_M_split_41 (lv_at hl 0 rfl) ?_
            refine n_if_eq (tgt := 116) hx hb d_M_split_43 (by decide) (by omega) (fun hw9 => ?_) (fun hw9 => ?_)
            · exact absurd hw9 (by decide)
            · refine lv_aload_n hx hb d_M_split_46 rfl (lv_at hl 4 rfl) ?_
              refine lv_iload_n hx hb d_M_split_47 rfl (lv_at hl 6 rfl) ?_
              refine lv_iload_n hx hb d_M_split_48 rfl (lv_at hl 3 rfl) ?_
              refine lv_iload hx hb d_M_split_49 (lv_at hl 2 rfl) ?_
              refine wcV_l (As := [.int (nI b), .int (nI (lnM (M b))), .int (nI r)]) hx hb hC hw (k_M_guess l T F U K I O (va_up (va_up M 16 X) 15 Q9) (va_up (va_up Z 16 (Z a)) 15 0) G b (lnM (M b)) r hb9 lb0 (by omega)) lk_M_44 rfl rfl ⟨by show 1 + 1 ≤ R.frames; omega, by show 8 + (8 + 11) + 21 ≤ R.locals; omega⟩ (by omega) (we_Model ) rfl rfl hl.1 rfl (Nat.le_of_ble_eq_true rfl) ⟨Nat.zero_le _, Nat.zero_le _⟩ d_M_split_51 (fun H locs hw => ?_)
              refine sw_l (y := (lN (gsN X (M b) (lnM (M b)) r))) (by rw [e16, eb]) ?_
              have hgl := gsN_le lb0 hXn hB
              have hgt := gsN_lt lb0 hXn hB h7
              generalize gsN X (M b) (lnM (M b)) r = g1 at *
              refine lv_lstore hx hb d_M_split_54 hl (by decide) rfl (fun ls hl => ?_)
              have hl : lv_has ls 10 [(8, .long (lN g1)), (7, .int (nI 1)), (5, .long (lN d9)), (4, .int (nI r)), (3, .int (nI (lnM (M b)))), (0, .ref (wa T 91)), (1, .int (nI a)), (2, .int (nI b))] := hl
              refine lv_lload hx hb d_M_split_56 (lv_at hl 0 rfl) ?_
              refine lv_lconst (v := 0) hx hb d_M_split_58 (by decide +kernel) ?_
              refine lc_ne (tgt := 78) hx hb d_M_split_59 d_M_split_60 (by decide) (fun h5 => ?_) (fun h5 => ?_)
              · have hg0 : g1 ≠ 0 := fun q => h5 (by rw [q]; rfl)
                refine lv_lload hx hb d_M_split_78 (lv_at hl 0 rfl) ?_
                have hl := lv_sub hl [1, 2, 3, 4, 5, 6, 7] rfl
                have hl : lv_has ls 10 [(7, .int (nI 1)), (5, .long (lN d9)), (4, .int (nI r)), (3, .int (nI (lnM (M b)))), (0, .ref (wa T 91)), (1, .int (nI a)), (2, .int (nI b))] := hl
                exact cont g1 ls _ _ hgl hgt (fun q => absurd q hg0) hl hw
              · have hg0 : g1 = 0 := by rw [lj_lN (by omega), lj_0] at h5; omega
                refine lv_aload_n hx hb d_M_split_63 rfl (lv_at hl 5 rfl) ?_
                refine lv_iload_n hx hb d_M_split_64 rfl (lv_at hl 7 rfl) ?_
                refine lv_iload_n hx hb d_M_split_65 rfl (lv_at hl 4 rfl) ?_
                refine lv_iload hx hb d_M_split_66 (lv_at hl 3 rfl) ?_
                refine wcV_z (As := [.int (nI b), .int (nI (lnM (M b))), .int (nI r)]) hx hb hC hw (k_M_goes l T F U K I O (va_up (va_up M 16 X) 15 Q9) (va_up (va_up Z 16 (Z a)) 15 0) G b (lnM (M b)) r hb9 lb0 (by omega) (by rw [e16]; exact hXn) (by rw [eb]; exact hB)) lk_M_48 rfl rfl ⟨by show 1 + 1 ≤ R.frames; omega, by show 8 + (7 + 11) + 21 ≤ R.locals; omega⟩ (by omega) (we_Model ) rfl rfl hl.1 rfl (Nat.le_of_ble_eq_true rfl) ⟨Nat.zero_le _, Nat.zero_le _⟩ d_M_split_68 (fun H locs hw => ?_)
                refine sw_i (y := (bI (decide (M b * b20 ^ r ≤ X)))) (by rw [e16, eb]) ?_
                by_cases hgo : M b * b20 ^ r ≤ X
                · refine sw_i (y := nI 1) (by rw [decide_eq_true hgo]; rfl) ?_
                  refine n_if_eq (tgt := 78) hx hb d_M_split_71 (by decide) (by omega) (fun hw9 => ?_) (fun hw9 => ?_)
                  · exact absurd hw9 (by decide)
                  · refine lv_lconst (v := 1) hx hb d_M_split_74 (by decide +kernel) ?_
                    refine sw_l (y := (lN 1)) (rfl) ?_
                    refine lv_goto (tgt := 80) hx hb d_M_split_75 (by decide) ?_
                    have hl := lv_sub hl [1, 2, 3, 4, 5, 6, 7] rfl
                    have hl : lv_has ls 10 [(7, .int (nI 1)), (5, .long (lN d9)), (4, .int (nI r)), (3, .int (nI (lnM (M b)))), (0, .ref (wa T 91)), (1, .int (nI a)), (2, .int (nI b))] := hl
                    exact cont 1 ls _ _ (by rw [Nat.one_mul]; exact hgo) (by decide) (fun q => absurd q (by decide)) hl hw
                · refine sw_i (y := nI 0) (by rw [decide_eq_false hgo]; rfl) ?_
                  refine n_if_eq (tgt := 78) hx hb d_M_split_71 (by decide) (by omega) (fun hw9 => ?_) (fun hw9 => ?_)
                  · refine lv_lload hx hb d_M_split_78 (lv_at hl 0 rfl) ?_
                    have hl := lv_sub hl [1, 2, 3, 4, 5, 6, 7] rfl
                    have hl : lv_has ls 10 [(7, .int (nI 1)), (5, .long (lN d9)), (4, .int (nI r)), (3, .int (nI (lnM (M b)))), (0, .ref (wa T 91)), (1, .int (nI a)), (2, .int (nI b))] := hl
                    exact cont g1 ls _ _ hgl hgt (fun _ => Nat.not_le.mp hgo) hl hw
                  · exact absurd hw9 (by decide)
          | succ z9 ihq =>
            intro X d9 ls H locs hX h6 h7 hl hw
            have hl : lv_has ls 10 [(7, .int (nI 1)), (5, .long (lN d9)), (4, .int (nI r)), (3, .int (nI (lnM (M b)))), (0, .ref (wa T 91)), (1, .int (nI a)), (2, .int (nI b))] := hl
            have hXn := sp_X hB h7
            have e16 : (va_up (va_up M 16 X) 15 Q9) 16 = X := (va_up_ne _ _ (by decide)).trans (va_up_self _ _ _)
            have eb : (va_up (va_up M 16 X) 15 Q9) b = M b := (va_up_ne _ _ hb5).trans (va_up_ne _ _ hb6)
            have cont : ∀ (g9 : Nat) (ls : Array Slot) (H : Heap) (locs : List Loc), g9 * (M b * b20 ^ r) ≤ X → g9 < 1048576 → (g9 = 0 → X < M b * b20 ^ r) → lv_has ls 10 [(7, .int (nI 1)), (5, .long (lN d9)), (4, .int (nI r)), (3, .int (nI (lnM (M b)))), (0, .ref (wa T 91)), (1, .int (nI a)), (2, .int (nI b))] → wH T F U K (gI I (dgm (va_up (va_up M 16 X) 15 Q9)) (va_up (va_up Z 16 (Z a)) 15 0) G) O (wA T) s s.heap H locs → W p l e R s m args below meth c H locs 0 0 Q (F0 m 80 ls [.long (lN g9)]) := by
              intro g9 ls H locs hg1 hg2 hg3 hl hw
              have hl : lv_has ls 10 [(7, .int (nI 1)), (5, .long (lN d9)), (4, .int (nI r)), (3, .int (nI (lnM (M b)))), (0, .ref (wa T 91)), (1, .int (nI a)), (2, .int (nI b))] := hl
              refine lv_lstore hx hb d_M_split_80 hl (by decide) rfl (fun ls hl => ?_)
              have hl : lv_has ls 10 [(8, .long (lN g9)), (7, .int (nI 1)), (5, .long (lN d9)), (4, .int (nI r)), (3, .int (nI (lnM (M b)))), (0, .ref (wa T 91)), (1, .int (nI a)), (2, .int (nI b))] := hl
              refine lv_aload_n hx hb d_M_split_82 rfl (lv_at hl 5 rfl) ?_
              refine lv_iload_n hx hb d_M_split_83 rfl (lv_at hl 7 rfl) ?_
              refine lv_iload_n hx hb d_M_split_84 rfl (lv_at hl 4 rfl) ?_
              refine lv_iload hx hb d_M_split_85 (lv_at hl 3 rfl) ?_
              refine lv_lload hx hb d_M_split_87 (lv_at hl 0 rfl) ?_
              refine wcV_v (As := [.int (nI b), .int (nI (lnM (M b))), .int (nI r), .long (lN g9)]) hx hb hC hw (k_M_takeAway l T F U K I O (va_up (va_up M 16 X) 15 Q9) (va_up (va_up Z 16 (Z a)) 15 0) G b (lnM (M b)) r g9 hb9 hb6 lb0 (by omega) hg2 (by rw [e16]; exact hXn) (by rw [eb]; exact hB) (by rw [e16, eb]; exact hg1)) lk_M_52 rfl rfl ⟨by show 0 + 1 ≤ R.frames; omega, by show 8 + (11 + 11) + 0 ≤ R.locals; omega⟩ (by omega) (we_Model ) rfl rfl hl.1 rfl (Nat.le_of_ble_eq_true rfl) ⟨Nat.zero_le _, Nat.zero_le _⟩ d_M_split_89 (fun H locs hw => ?_)
              rw [e16, eb, va_c2 (by decide)] at hw
              refine lv_lload hx hb d_M_split_92 (lv_at hl 2 rfl) ?_
              refine lv_lload hx hb d_M_split_94 (lv_at hl 0 rfl) ?_
              refine lv_ladd hx hb d_M_split_96 ?_
              refine sw_l (y := (lN (d9 + g9))) (lN_add _ _) ?_
              have h8 : X - g9 * (M b * b20 ^ r) + (d9 + g9) * (M b * b20 ^ r) = R9 := by rw [Nat.add_mul]; omega
              refine lv_lstore hx hb d_M_split_97 hl (by decide) rfl (fun ls hl => ?_)
              have hl : lv_has ls 10 [(5, .long (lN (d9 + g9))), (8, .long (lN g9)), (7, .int (nI 1)), (4, .int (nI r)), (3, .int (nI (lnM (M b)))), (0, .ref (wa T 91)), (1, .int (nI a)), (2, .int (nI b))] := hl
              refine lv_lload hx hb d_M_split_99 (lv_at hl 1 rfl) ?_
              refine lv_lconst (v := 0) hx hb d_M_split_101 (by decide +kernel) ?_
              refine lc_le (tgt := 110) hx hb d_M_split_102 d_M_split_103 (by decide) (fun h5 => ?_) (fun h5 => ?_)
              · have hg0 : g9 = 0 := by rw [lj_lN (by omega), lj_0] at h5; omega
                have hXl := hg3 hg0
                subst hg0
                rw [Nat.zero_mul, Nat.sub_zero, Nat.add_zero] at *
                have hl : lv_has ls 10 [(5, .long (lN d9)), (8, .long (lN 0)), (7, .int (nI 1)), (4, .int (nI r)), (3, .int (nI (lnM (M b)))), (0, .ref (wa T 91)), (1, .int (nI a)), (2, .int (nI b))] := hl
                refine lv_iconst (v := nI 0) hx hb d_M_split_110 (by decide +kernel) ?_
                refine lv_istore hx hb d_M_split_111 hl (by decide) rfl (fun ls hl => ?_)
                have hl : lv_has ls 10 [(7, .int (nI 0)), (5, .long (lN d9)), (8, .long (lN 0)), (4, .int (nI r)), (3, .int (nI (lnM (M b)))), (0, .ref (wa T 91)), (1, .int (nI a)), (2, .int (nI b))] := hl
                refine lv_goto (tgt := 41) hx hb d_M_split_113 (by decide) ?_
                refine lv_iload hx hb d_M_split_41 (lv_at hl 0 rfl) ?_
                refine n_if_eq (tgt := 116) hx hb d_M_split_43 (by decide) (by omega) (fun hw9 => ?_) (fun hw9 => ?_)
                · have hd9 := sp_d h6 h2
                  refine lv_aload_n hx hb d_M_split_116 rfl (lv_at hl 5 rfl) ?_
                  refine wg_Model_d hx hb hC hw bw_818 d_M_split_117 ?_
                  refine lv_sipush (v := nI 1620) hx hb d_M_split_120 (by decide +kernel) ?_
                  refine lv_iload hx hb d_M_split_123 (lv_at hl 3 rfl) ?_
                  refine n_iadd hx hb d_M_split_125 ?_
                  refine lv_lload hx hb d_M_split_126 (lv_at hl 1 rfl) ?_
                  refine lv_l2i hx hb d_M_split_128 rfl ?_
                  refine sw_i (y := nI d9) (lN_i _) ?_
                  refine ws_md hx hb hw (by omega) d_M_split_129 (fun H locs hw => ?_)
                  rw [show (va_up (gI I (dgm (va_up (va_up M 16 X) 15 Q9)) (va_up (va_up Z 16 (Z a)) 15 0) G) 1 (upd ((gI I (dgm (va_up (va_up M 16 X) 15 Q9)) (va_up (va_up Z 16 (Z a)) 15 0) G) 1) (1620 + r) (nI d9))) = (gI I (va_up (dgm (va_up (va_up M 16 X) 15 Q9)) 15 (va_up ((dgm (va_up (va_up M 16 X) 15 Q9)) 15) r d9)) (va_up (va_up Z 16 (Z a)) 15 0) G) from gI_sd (s := 15) (i := r) (by omega)] at hw
                  rw [dgm_sD hd9, va_v2, va_up_self, sp_q hdz.1] at hw
                  refine lv_iinc (v := (nI r - 1)) hx hb d_M_split_130 hl (k := 3) rfl (i32_m1 _) (by decide) rfl (fun ls hl => ?_)
                  have hl : lv_has ls 10 [(4, .int (nI r - 1)), (7, .int (nI 0)), (5, .long (lN d9)), (8, .long (lN 0)), (3, .int (nI (lnM (M b)))), (0, .ref (wa T 91)), (1, .int (nI a)), (2, .int (nI b))] := hl
                  refine lv_goto (tgt := 30) hx hb d_M_split_133 (by decide) ?_
                  have hl := lv_sub hl [0, 4, 5, 6, 7] rfl
                  have hl : lv_has ls 10 [(4, .int (nI r - 1)), (3, .int (nI (lnM (M b)))), (0, .ref (wa T 91)), (1, .int (nI a)), (2, .int (nI b))] := hl
                  exact ih X (Q9 + d9 * b20 ^ r) ls _ _ (sp_sum h6 h1) hXl (sp_qz hdz.2) (by omega) hl hw
                · exact absurd hw9 (by decide)
              · have hg0 : 0 < g9 := by rw [lj_lN (by omega), lj_0] at h5; omega
                have hgp : 1 * (M b * b20 ^ r) ≤ g9 * (M b * b20 ^ r) := Nat.mul_le_mul_right _ hg0
                refine lv_iconst (v := nI 1) hx hb d_M_split_106 (by decide +kernel) ?_
                refine lv_goto (tgt := 111) hx hb d_M_split_107 (by decide) ?_
                refine lv_istore hx hb d_M_split_111 hl (by decide) rfl (fun ls hl => ?_)
                have hl : lv_has ls 10 [(7, .int (nI 1)), (5, .long (lN (d9 + g9))), (8, .long (lN g9)), (4, .int (nI r)), (3, .int (nI (lnM (M b)))), (0, .ref (wa T 91)), (1, .int (nI a)), (2, .int (nI b))] := hl
                refine lv_goto (tgt := 41) hx hb d_M_split_113 (by decide) ?_
                have hl := lv_sub hl [0, 1, 3, 4, 5, 6, 7] rfl
                have hl : lv_has ls 10 [(7, .int (nI 1)), (5, .long (lN (d9 + g9))), (4, .int (nI r)), (3, .int (nI (lnM (M b)))), (0, .ref (wa T 91)), (1, .int (nI a)), (2, .int (nI b))] := hl
                exact ihq (X - g9 * (M b * b20 ^ r)) (d9 + g9) ls _ _ (by omega) h8 (by omega) hl hw
            refine lv_iload hx hb d_M_split_41 (lv_at hl 0 rfl) ?_
            refine n_if_eq (tgt := 116) hx hb d_M_split_43 (by decide) (by omega) (fun hw9 => ?_) (fun hw9 => ?_)
            · exact absurd hw9 (by decide)
            · refine lv_aload_n hx hb d_M_split_46 rfl (lv_at hl 4 rfl) ?_
              refine lv_iload_n hx hb d_M_split_47 rfl (lv_at hl 6 rfl) ?_
              refine lv_iload_n hx hb d_M_split_48 rfl (lv_at hl 3 rfl) ?_
              refine lv_iload hx hb d_M_split_49 (lv_at hl 2 rfl) ?_
              refine wcV_l (As := [.int (nI b), .int (nI (lnM (M b))), .int (nI r)]) hx hb hC hw (k_M_guess l T F U K I O (va_up (va_up M 16 X) 15 Q9) (va_up (va_up Z 16 (Z a)) 15 0) G b (lnM (M b)) r hb9 lb0 (by omega)) lk_M_44 rfl rfl ⟨by show 1 + 1 ≤ R.frames; omega, by show 8 + (8 + 11) + 21 ≤ R.locals; omega⟩ (by omega) (we_Model ) rfl rfl hl.1 rfl (Nat.le_of_ble_eq_true rfl) ⟨Nat.zero_le _, Nat.zero_le _⟩ d_M_split_51 (fun H locs hw => ?_)
              refine sw_l (y := (lN (gsN X (M b) (lnM (M b)) r))) (by rw [e16, eb]) ?_
              have hgl := gsN_le lb0 hXn hB
              have hgt := gsN_lt lb0 hXn hB h7
              generalize gsN X (M b) (lnM (M b)) r = g1 at *
              refine lv_lstore hx hb d_M_split_54 hl (by decide) rfl (fun ls hl => ?_)
              have hl : lv_has ls 10 [(8, .long (lN g1)), (7, .int (nI 1)), (5, .long (lN d9)), (4, .int (nI r)), (3, .int (nI (lnM (M b)))), (0, .ref (wa T 91)), (1, .int (nI a)), (2, .int (nI b))] := hl
              refine lv_lload hx hb d_M_split_56 (lv_at hl 0 rfl) ?_
              refine lv_lconst (v := 0) hx hb d_M_split_58 (by decide +kernel) ?_
              refine lc_ne (tgt := 78) hx hb d_M_split_59 d_M_split_60 (by decide) (fun h5 => ?_) (fun h5 => ?_)
              · have hg0 : g1 ≠ 0 := fun q => h5 (by rw [q]; rfl)
                refine lv_lload hx hb d_M_split_78 (lv_at hl 0 rfl) ?_
                have hl := lv_sub hl [1, 2, 3, 4, 5, 6, 7] rfl
                have hl : lv_has ls 10 [(7, .int (nI 1)), (5, .long (lN d9)), (4, .int (nI r)), (3, .int (nI (lnM (M b)))), (0, .ref (wa T 91)), (1, .int (nI a)), (2, .int (nI b))] := hl
                exact cont g1 ls _ _ hgl hgt (fun q => absurd q hg0) hl hw
              · have hg0 : g1 = 0 := by rw [lj_lN (by omega), lj_0] at h5; omega
                refine lv_aload_n hx hb d_M_split_63 rfl (lv_at hl 5 rfl) ?_
                refine lv_iload_n hx hb d_M_split_64 rfl (lv_at hl 7 rfl) ?_
                refine lv_iload_n hx hb d_M_split_65 rfl (lv_at hl 4 rfl) ?_
                refine lv_iload hx hb d_M_split_66 (lv_at hl 3 rfl) ?_
                refine wcV_z (As := [.int (nI b), .int (nI (lnM (M b))), .int (nI r)]) hx hb hC hw (k_M_goes l T F U K I O (va_up (va_up M 16 X) 15 Q9) (va_up (va_up Z 16 (Z a)) 15 0) G b (lnM (M b)) r hb9 lb0 (by omega) (by rw [e16]; exact hXn) (by rw [eb]; exact hB)) lk_M_48 rfl rfl ⟨by show 1 + 1 ≤ R.frames; omega, by show 8 + (7 + 11) + 21 ≤ R.locals; omega⟩ (by omega) (we_Model ) rfl rfl hl.1 rfl (Nat.le_of_ble_eq_true rfl) ⟨Nat.zero_le _, Nat.zero_le _⟩ d_M_split_68 (fun H locs hw => ?_)
                refine sw_i (y := (bI (decide (M b * b20 ^ r ≤ X)))) (by rw [e16, eb]) ?_
                by_cases hgo : M b * b20 ^ r ≤ X
                · refine sw_i (y := nI 1) (by rw [decide_eq_true hgo]; rfl) ?_
                  refine n_if_eq (tgt := 78) hx hb d_M_split_71 (by decide) (by omega) (fun hw9 => ?_) (fun hw9 => ?_)
                  · exact absurd hw9 (by decide)
                  · refine lv_lconst (v := 1) hx hb d_M_split_74 (by decide +kernel) ?_
                    refine sw_l (y := (lN 1)) (rfl) ?_
                    refine lv_goto (tgt := 80) hx hb d_M_split_75 (by decide) ?_
                    have hl := lv_sub hl [1, 2, 3, 4, 5, 6, 7] rfl
                    have hl : lv_has ls 10 [(7, .int (nI 1)), (5, .long (lN d9)), (4, .int (nI r)), (3, .int (nI (lnM (M b)))), (0, .ref (wa T 91)), (1, .int (nI a)), (2, .int (nI b))] := hl
                    exact cont 1 ls _ _ (by rw [Nat.one_mul]; exact hgo) (by decide) (fun q => absurd q (by decide)) hl hw
                · refine sw_i (y := nI 0) (by rw [decide_eq_false hgo]; rfl) ?_
                  refine n_if_eq (tgt := 78) hx hb d_M_split_71 (by decide) (by omega) (fun hw9 => ?_) (fun hw9 => ?_)
                  · refine lv_lload hx hb d_M_split_78 (lv_at hl 0 rfl) ?_
                    have hl := lv_sub hl [1, 2, 3, 4, 5, 6, 7] rfl
                    have hl : lv_has ls 10 [(7, .int (nI 1)), (5, .long (lN d9)), (4, .int (nI r)), (3, .int (nI (lnM (M b)))), (0, .ref (wa T 91)), (1, .int (nI a)), (2, .int (nI b))] := hl
                    exact cont g1 ls _ _ hgl hgt (fun _ => Nat.not_le.mp hgo) hl hw
                  · exact absurd hw9 (by decide)
        exact lq R9 R9 0 ls _ _ (Nat.le_refl _) (by rw [Nat.zero_mul, Nat.add_zero]) h2 hl hw
    exact lp (lnM (M a) - lnM (M b) + 1) (M a) 0 ls _ _ (by rw [Nat.mul_zero, Nat.add_zero]) (sp_st hmA lb0 (by omega)) (Nat.zero_mod _) (by omega) hl hw
