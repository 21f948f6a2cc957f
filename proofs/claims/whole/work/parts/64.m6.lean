/-! the model: finish, join, set, copy, add, subtract, multiply -/
def zF (oc : Nat) (z' z : Nat → Int) : Nat → Int := if oc = 0 then z' else z
theorem zF_0 {oc : Nat} {z' z : Nat → Int} (h : oc = 0) : zF oc z' z = z' := if_pos h
theorem zF_n {oc : Nat} {z' z : Nat → Int} (h : oc ≠ 0) : zF oc z' z = z := if_neg h
theorem sg_n {x : Int} (h : x < 0) : sgnI x = -1 := if_pos h
theorem sg_z {x : Int} (h : x = 0) : sgnI x = nI 0 := by unfold sgnI; rw [if_neg (by omega), if_pos h]
theorem sg_p {x : Int} (h : 0 < x) : sgnI x = nI 1 := by unfold sgnI; rw [if_neg (by omega), if_neg (by omega)]
theorem sg_3 (x : Int) : x < 0 ∨ x = 0 ∨ 0 < x := by omega
theorem sg_neg (x : Int) : -(sgnI x) = sgnI (-x) := by
  rcases sg_3 x with h | h | h
  · rw [sg_n h, sg_p (by omega)]; decide +kernel
  · rw [sg_z h, sg_z (by omega)]; decide +kernel
  · rw [sg_p h, sg_n (by omega)]; decide +kernel
theorem sg_mul (x y : Int) : sgnI x * sgnI y = sgnI (x * y) := by
  rcases sg_3 x with h | h | h <;> rcases sg_3 y with q | q | q
  · rw [sg_n h, sg_n q, sg_p (Int.mul_pos_of_neg_of_neg h q)]; decide +kernel
  · subst q; rw [sg_n h, sg_z rfl, Int.mul_zero, sg_z rfl]; decide +kernel
  · rw [sg_n h, sg_p q, sg_n (Int.mul_neg_of_neg_of_pos h q)]; decide +kernel
  · subst h; rw [sg_n q, sg_z rfl, Int.zero_mul, sg_z rfl]; decide +kernel
  · subst h; rw [sg_z q, sg_z rfl, Int.zero_mul, sg_z rfl]; decide +kernel
  · subst h; rw [sg_p q, sg_z rfl, Int.zero_mul, sg_z rfl]; decide +kernel
  · rw [sg_p h, sg_n q, sg_n (Int.mul_neg_of_pos_of_neg h q)]; decide +kernel
  · subst q; rw [sg_p h, sg_z rfl, Int.mul_zero, sg_z rfl]; decide +kernel
  · rw [sg_p h, sg_p q, sg_p (Int.mul_pos h q)]; decide +kernel
theorem sg_lt {x : Int} : sgnI x < 0 ↔ x < 0 := by
  rcases sg_3 x with h | h | h
  · rw [sg_n h]; exact ⟨fun _ => h, fun _ => by decide +kernel⟩
  · rw [sg_z h]; exact ⟨fun q => absurd q (by decide +kernel), fun q => by omega⟩
  · rw [sg_p h]; exact ⟨fun q => absurd q (by decide +kernel), fun q => by omega⟩
theorem sg_eq {x : Int} : sgnI x = 0 ↔ x = 0 := by
  rcases sg_3 x with h | h | h
  · rw [sg_n h]; exact ⟨fun q => absurd q (by decide +kernel), fun q => by omega⟩
  · rw [sg_z h]; exact ⟨fun _ => h, fun _ => rfl⟩
  · rw [sg_p h]; exact ⟨fun q => absurd q (by decide +kernel), fun q => by omega⟩
theorem cmp3_ng {a b : Nat} : cmp3 a b < 0 ↔ a < b := by
  unfold cmp3
  by_cases h : a < b
  · rw [if_pos h]; exact ⟨fun _ => h, fun _ => by decide +kernel⟩
  · rw [if_neg h]; split
    · exact ⟨fun q => absurd q (by decide +kernel), fun q => absurd q h⟩
    · exact ⟨fun q => absurd q (by decide +kernel), fun q => absurd q h⟩
theorem m2_mM : m1024 + m1024 ≤ mM := by
  have : m1024 + m1024 ≤ b20 ^ 53 := by
    have h1 := m1024_mM
    have h2 : b20 ^ 53 = b20 ^ 52 * 1048576 := Nat.pow_succ b20 52
    omega
  exact Nat.le_trans this (b20_le (by decide))

set_option maxRecDepth 100000 in
set_option maxHeartbeats 4000000 in
theorem k_M_finish0 (l : Launch) (T : wT) (F : wFt) (U K : wUt) (I : wIt) (O : wOt) (M Z : Nat → Nat) (G : Nat → Int32) (x r : Nat) (sg gr : Int32) (hx9 : x < 20) (hr9 : r < 20) (hz : Z x = lnM (M x)) (hmx : M x < mM) (hfit : M x < m1024) : Met l y_M_finish (.code y_M_finish c_M_finish 5 none :: bg) ({ frames := 2, cells := 0, slots := 0, locals := 46 } : Room) (mP T F U K (gI I (dgm M) Z G) O [.ref (wa T 91), .int (nI x), .int (nI r), .int sg, .int gr]) (mQv T F U K (gI I (dgm (va_up M r (M x))) (va_up Z r (Z x)) (va_up G r (if Z x = 0 then nI 0 else sg))) O) 0 0 (wA T) := by
  refine wM_v (by decide) (Nat.le_of_ble_eq_true rfl) ?_
  intro p e R s m args below meth c Q ls hx hb hC hRf hRl hret hl hw
  have hRf : 2 ≤ R.frames := hRf
  have hRl : 46 ≤ R.locals := hRl
  have hl : lv_has ls 5 [(0, .ref (wa T 91)), (1, .int (nI x)), (2, .int (nI r)), (3, .int sg), (4, .int gr)] := hl
  refine lv_aload_n hx hb d_M_finish_0 rfl (lv_at hl 0 rfl) ?_
  refine lv_iload_n hx hb d_M_finish_1 rfl (lv_at hl 1 rfl) ?_
  refine wcV_z (As := [.int (nI x)]) hx hb hC hw (k_M_isGreat l T F U K I O M Z G x hx9 hz hmx) lk_M_70 rfl rfl ⟨by show 0 + 1 ≤ R.frames; omega, by show 8 + (2 + 11) + 0 ≤ R.locals; omega⟩ (by omega) (we_Model ) rfl rfl hl.1 rfl (Nat.le_of_ble_eq_true rfl) ⟨Nat.zero_le _, Nat.zero_le _⟩ d_M_finish_2 (fun H locs hw => ?_)
  refine sw_i (y := nI 0) (by rw [decide_eq_false (fun q => q hfit)]; rfl) ?_
  refine n_if_eq (tgt := 17) hx hb d_M_finish_5 (by decide) (by omega) (fun hw9 => ?_) (fun hw9 => absurd hw9 (by decide))
  refine lv_aload_n hx hb d_M_finish_17 rfl (lv_at hl 0 rfl) ?_
  refine lv_iload_n hx hb d_M_finish_18 rfl (lv_at hl 1 rfl) ?_
  refine lv_iload_n hx hb d_M_finish_19 rfl (lv_at hl 2 rfl) ?_
  refine lv_iload_n hx hb d_M_finish_20 rfl (lv_at hl 3 rfl) ?_
  refine wcV_v (As := [.int (nI x), .int (nI r), .int sg]) hx hb hC hw (k_M_store l T F U K I O M Z G x r sg hx9 hr9 (by rw [hz]; exact lnM_le _)) lk_M_73 rfl rfl ⟨by show 1 + 1 ≤ R.frames; omega, by show 8 + (4 + 11) + 23 ≤ R.locals; omega⟩ (by omega) (we_Model ) rfl rfl hl.1 rfl (Nat.le_of_ble_eq_true rfl) ⟨Nat.zero_le _, Nat.zero_le _⟩ d_M_finish_21 (fun H locs hw => ?_)
  exact hret _ _ _ _ hw d_M_finish_24
set_option maxRecDepth 100000 in
set_option maxHeartbeats 4000000 in
theorem k_M_finish1 (l : Launch) (T : wT) (F : wFt) (U K : wUt) (I : wIt) (O : wOt) (M Z : Nat → Nat) (G : Nat → Int32) (x : Nat) (r sg gr : Int32) (hx9 : x < 20) (hz : Z x = lnM (M x)) (hmx : M x < mM) (hfit : ¬ M x < m1024) : Met l y_M_finish (.code y_M_finish c_M_finish 5 none :: bg) ({ frames := 2, cells := 0, slots := 0, locals := 46 } : Room) (mP T F U K (gI I (dgm M) Z G) O [.ref (wa T 91), .int (nI x), .int r, .int sg, .int gr]) (mQv T F U (va_up K 15 gr) (gI I (dgm M) Z G) O) 0 0 (wA T) := by
  refine wM_v (by decide) (Nat.le_of_ble_eq_true rfl) ?_
  intro p e R s m args below meth c Q ls hx hb hC hRf hRl hret hl hw
  have hRf : 2 ≤ R.frames := hRf
  have hRl : 46 ≤ R.locals := hRl
  have hl : lv_has ls 5 [(0, .ref (wa T 91)), (1, .int (nI x)), (2, .int r), (3, .int sg), (4, .int gr)] := hl
  refine lv_aload_n hx hb d_M_finish_0 rfl (lv_at hl 0 rfl) ?_
  refine lv_iload_n hx hb d_M_finish_1 rfl (lv_at hl 1 rfl) ?_
  refine wcV_z (As := [.int (nI x)]) hx hb hC hw (k_M_isGreat l T F U K I O M Z G x hx9 hz hmx) lk_M_70 rfl rfl ⟨by show 0 + 1 ≤ R.frames; omega, by show 8 + (2 + 11) + 0 ≤ R.locals; omega⟩ (by omega) (we_Model ) rfl rfl hl.1 rfl (Nat.le_of_ble_eq_true rfl) ⟨Nat.zero_le _, Nat.zero_le _⟩ d_M_finish_2 (fun H locs hw => ?_)
  refine sw_i (y := nI 1) (by rw [decide_eq_true hfit]; rfl) ?_
  refine n_if_eq (tgt := 17) hx hb d_M_finish_5 (by decide) (by omega) (fun hw9 => absurd hw9 (by decide)) (fun hw9 => ?_)
  refine lv_aload_n hx hb d_M_finish_8 rfl (lv_at hl 0 rfl) ?_
  refine lv_iload hx hb d_M_finish_9 (lv_at hl 4 rfl) ?_
  refine wp_Model_code hx hb hC hw bw_817 d_M_finish_11 (fun H locs hw => ?_)
  refine lv_goto (tgt := 24) hx hb d_M_finish_14 (by decide) ?_
  exact hret _ _ _ _ hw d_M_finish_24
set_option maxRecDepth 100000 in
set_option maxHeartbeats 4000000 in
theorem k_M_join (l : Launch) (T : wT) (F : wFt) (U K : wUt) (I : wIt) (O : wOt) (M Z : Nat → Nat) (G : Nat → Int32) (z : Nat → Int) (hm : mI z M Z G) (x a b : Nat) (y : Int) (hx9 : x < 12) (ha9 : a < 12) (hb9 : b < 12) (hy : (z b).natAbs = y.natAbs) : Met l y_M_join (.code y_M_join c_M_join 6 none :: bg) ({ frames := 3, cells := 0, slots := 0, locals := 70 } : Room) (mP T F U K (gI I (dgm M) Z G) O [.ref (wa T 91), .int (nI x), .int (nI a), .int (nI b), .int (sgnI y)]) (mQvM T (fun M' Z' G' => mI (if (z a + y).natAbs < m1024 then va_up z x (z a + y) else z) M' Z' G') F U (if (z a + y).natAbs < m1024 then K else va_up K 15 (nI 2)) I O) 0 0 (wA T) := by
  refine wM_vM (by decide) (Nat.le_of_ble_eq_true rfl) ?_
  intro p e R s m args below meth c Q ls hx hb hC hRf hRl hret hl hw
  have hRf : 3 ≤ R.frames := hRf
  have hRl : 70 ≤ R.locals := hRl
  have hl : lv_has ls 6 [(0, .ref (wa T 91)), (1, .int (nI x)), (2, .int (nI a)), (3, .int (nI b)), (4, .int (sgnI y))] := hl
  have h_a := hm.1 a ha9
  have h_b := hm.1 b hb9
  have e_a := h_a.2.1
  have e_b := h_b.2.1.trans hy
  have b_a := h_a.1
  have b_b : y.natAbs < m1024 := by rw [← hy]; exact h_b.1
  have m2 := m2_mM
  refine lv_aload_n hx hb d_M_join_0 rfl (lv_at hl 0 rfl) ?_
  refine lv_iload_n hx hb d_M_join_1 rfl (lv_at hl 2 rfl) ?_
  refine lv_iload_n hx hb d_M_join_2 rfl (lv_at hl 3 rfl) ?_
  refine wcV_i (As := [.int (nI a), .int (nI b)]) hx hb hC hw (k_M_order l T F U K I O M Z G a b (by omega) (by omega) h_a.2.2.1 h_b.2.2.1 (hm.2 a (by omega)) (hm.2 b (by omega))) lk_M_79 rfl rfl ⟨by show 0 + 1 ≤ R.frames; omega, by show 8 + (6 + 11) + 0 ≤ R.locals; omega⟩ (by omega) (we_Model ) rfl rfl hl.1 rfl (Nat.le_of_ble_eq_true rfl) ⟨Nat.zero_le _, Nat.zero_le _⟩ d_M_join_3 (fun H locs hw => ?_)
  refine lv_istore hx hb d_M_join_6 hl (by decide) rfl (fun ls hl => ?_)
  have hl : lv_has ls 6 [(5, .int (cmp3 (M a) (M b))), (0, .ref (wa T 91)), (1, .int (nI x)), (2, .int (nI a)), (3, .int (nI b)), (4, .int (sgnI y))] := hl
  rcases sg_3 (z a) with sa | sa | sa
  · rcases sg_3 y with sy | sy | sy
    · skip
      have ga : G a = (-1) := h_a.2.2.2.trans (sg_n sa)
      have gy := sg_n sy
      rw [gy] at hl
      have hl : lv_has ls 6 [(5, .int (cmp3 (M a) (M b))), (0, .ref (wa T 91)), (1, .int (nI x)), (2, .int (nI a)), (3, .int (nI b)), (4, .int (-1))] := hl
      refine lv_aload_n hx hb d_M_join_8 rfl (lv_at hl 1 rfl) ?_
      refine wg_Model_sign hx hb hC hw bw_820 d_M_join_9 ?_
      refine lv_iload_n hx hb d_M_join_12 rfl (lv_at hl 3 rfl) ?_
      refine wl_msign hx hb hw (by omega) d_M_join_13 ?_
      refine sw_i (y := (G a)) (rfl) ?_
      refine sw_i (y := (-1)) (ga) ?_
      refine lv_iload hx hb d_M_join_14 (lv_at hl 5 rfl) ?_
      refine lv_imul hx hb d_M_join_16 ?_
      refine lv_if_lt (tgt := 59) hx hb d_M_join_17 (by decide) (fun hw9 => absurd hw9 (by decide +kernel)) (fun hw9 => ?_)
      refine lv_aload_n hx hb d_M_join_20 rfl (lv_at hl 1 rfl) ?_
      refine lv_iload_n hx hb d_M_join_21 rfl (lv_at hl 3 rfl) ?_
      refine lv_iload_n hx hb d_M_join_22 rfl (lv_at hl 4 rfl) ?_
      refine lv_bipush (v := nI 12) hx hb d_M_join_23 (by decide +kernel) ?_
      refine wcV_v (As := [.int (nI a), .int (nI b), .int (nI 12)]) hx hb hC hw (k_M_plus l T F U K I O M Z G a b 12 (by omega) (by omega) (by omega) (by omega)) lk_M_83 rfl rfl ⟨by show 1 + 1 ≤ R.frames; omega, by show 8 + (7 + 11) + 22 ≤ R.locals; omega⟩ (by omega) (we_Model ) rfl rfl hl.1 rfl (Nat.le_of_ble_eq_true rfl) ⟨Nat.zero_le _, Nat.zero_le _⟩ d_M_join_25 (fun H locs hw => ?_)
      refine lv_aload_n hx hb d_M_join_28 rfl (lv_at hl 1 rfl) ?_
      refine lv_bipush (v := nI 12) hx hb d_M_join_29 (by decide +kernel) ?_
      refine lv_iload_n hx hb d_M_join_31 rfl (lv_at hl 2 rfl) ?_
      refine lv_aload_n hx hb d_M_join_32 rfl (lv_at hl 1 rfl) ?_
      refine wg_Model_sign hx hb hC hw bw_820 d_M_join_33 ?_
      refine lv_iload_n hx hb d_M_join_36 rfl (lv_at hl 3 rfl) ?_
      refine wl_msign hx hb hw (by omega) d_M_join_37 ?_
      refine sw_i (y := (G a)) (rfl) ?_
      refine sw_i (y := (-1)) (ga) ?_
      refine lv_if_eq (tgt := 50) hx hb d_M_join_38 (by decide) (fun hw9 => absurd hw9 (by decide +kernel)) (fun hw9 => ?_)
      refine lv_aload_n hx hb d_M_join_41 rfl (lv_at hl 1 rfl) ?_
      refine wg_Model_sign hx hb hC hw bw_820 d_M_join_42 ?_
      refine lv_iload_n hx hb d_M_join_45 rfl (lv_at hl 3 rfl) ?_
      refine wl_msign hx hb hw (by omega) d_M_join_46 ?_
      refine sw_i (y := (G a)) (rfl) ?_
      refine sw_i (y := (-1)) (ga) ?_
      have e9 : M a + M b = (z a + y).natAbs := by omega
      have lim9 : M a + M b < mM := by omega
      have hm1 : mI z (va_up M 12 (M a + M b)) (va_up Z 12 (lnM (M a + M b))) G := hm.out (by omega) lim9
      have n12 : (va_up M 12 (M a + M b)) 12 = (z a + y).natAbs := (va_up_self _ _ _).trans e9
      have z12 : (va_up Z 12 (lnM (M a + M b))) 12 = lnM ((va_up M 12 (M a + M b)) 12) := by rw [va_up_self, va_up_self]
      refine lv_goto (tgt := 52) hx hb d_M_join_47 (by decide) ?_
      refine lv_iconst (v := nI 2) hx hb d_M_join_52 (by decide +kernel) ?_
      by_cases hfit : (z a + y).natAbs < m1024
      · refine wcV_v (As := [.int (nI 12), .int (nI x), .int (-1), .int (nI 2)]) hx hb hC hw (k_M_finish0 l T F U K I O (va_up M 12 (M a + M b)) (va_up Z 12 (lnM (M a + M b))) G 12 x (-1) (nI 2) (by omega) (by omega) (z12) (hm1.2 12 (by omega)) (by rw [n12]; exact hfit)) lk_M_86 rfl rfl ⟨by show 2 + 1 ≤ R.frames; omega, by show 8 + (5 + 11) + 46 ≤ R.locals; omega⟩ (by omega) (we_Model ) rfl rfl hl.1 rfl (Nat.le_of_ble_eq_true rfl) ⟨Nat.zero_le _, Nat.zero_le _⟩ d_M_join_53 (fun H locs hw => ?_)
        refine lv_goto (tgt := 107) hx hb d_M_join_56 (by decide) ?_
        simp only [if_pos hfit] at hret
        exact hret _ _ _ _ _ _ _ (hm1.store hx9 (by omega) n12 z12 hfit (fun hne => (sg_n (by omega)).symm)) hw d_M_join_107
      · refine wcV_v (As := [.int (nI 12), .int (nI x), .int (-1), .int (nI 2)]) hx hb hC hw (k_M_finish1 l T F U K I O (va_up M 12 (M a + M b)) (va_up Z 12 (lnM (M a + M b))) G 12 (nI x) (-1) (nI 2) (by omega) (z12) (hm1.2 12 (by omega)) (by rw [n12]; exact hfit)) lk_M_86 rfl rfl ⟨by show 2 + 1 ≤ R.frames; omega, by show 8 + (5 + 11) + 46 ≤ R.locals; omega⟩ (by omega) (we_Model ) rfl rfl hl.1 rfl (Nat.le_of_ble_eq_true rfl) ⟨Nat.zero_le _, Nat.zero_le _⟩ d_M_join_53 (fun H locs hw => ?_)
        refine lv_goto (tgt := 107) hx hb d_M_join_56 (by decide) ?_
        simp only [if_neg hfit] at hret
        exact hret _ _ _ _ _ _ _ (hm1) hw d_M_join_107
    · skip
      have ga : G a = (-1) := h_a.2.2.2.trans (sg_n sa)
      have gy := sg_z sy
      rw [gy] at hl
      have hl : lv_has ls 6 [(5, .int (cmp3 (M a) (M b))), (0, .ref (wa T 91)), (1, .int (nI x)), (2, .int (nI a)), (3, .int (nI b)), (4, .int (nI 0))] := hl
      refine lv_aload_n hx hb d_M_join_8 rfl (lv_at hl 1 rfl) ?_
      refine wg_Model_sign hx hb hC hw bw_820 d_M_join_9 ?_
      refine lv_iload_n hx hb d_M_join_12 rfl (lv_at hl 3 rfl) ?_
      refine wl_msign hx hb hw (by omega) d_M_join_13 ?_
      refine sw_i (y := (G a)) (rfl) ?_
      refine sw_i (y := (-1)) (ga) ?_
      refine lv_iload hx hb d_M_join_14 (lv_at hl 5 rfl) ?_
      refine lv_imul hx hb d_M_join_16 ?_
      refine lv_if_lt (tgt := 59) hx hb d_M_join_17 (by decide) (fun hw9 => absurd hw9 (by decide +kernel)) (fun hw9 => ?_)
      refine lv_aload_n hx hb d_M_join_20 rfl (lv_at hl 1 rfl) ?_
      refine lv_iload_n hx hb d_M_join_21 rfl (lv_at hl 3 rfl) ?_
      refine lv_iload_n hx hb d_M_join_22 rfl (lv_at hl 4 rfl) ?_
      refine lv_bipush (v := nI 12) hx hb d_M_join_23 (by decide +kernel) ?_
      refine wcV_v (As := [.int (nI a), .int (nI b), .int (nI 12)]) hx hb hC hw (k_M_plus l T F U K I O M Z G a b 12 (by omega) (by omega) (by omega) (by omega)) lk_M_83 rfl rfl ⟨by show 1 + 1 ≤ R.frames; omega, by show 8 + (7 + 11) + 22 ≤ R.locals; omega⟩ (by omega) (we_Model ) rfl rfl hl.1 rfl (Nat.le_of_ble_eq_true rfl) ⟨Nat.zero_le _, Nat.zero_le _⟩ d_M_join_25 (fun H locs hw => ?_)
      refine lv_aload_n hx hb d_M_join_28 rfl (lv_at hl 1 rfl) ?_
      refine lv_bipush (v := nI 12) hx hb d_M_join_29 (by decide +kernel) ?_
      refine lv_iload_n hx hb d_M_join_31 rfl (lv_at hl 2 rfl) ?_
      refine lv_aload_n hx hb d_M_join_32 rfl (lv_at hl 1 rfl) ?_
      refine wg_Model_sign hx hb hC hw bw_820 d_M_join_33 ?_
      refine lv_iload_n hx hb d_M_join_36 rfl (lv_at hl 3 rfl) ?_
      refine wl_msign hx hb hw (by omega) d_M_join_37 ?_
      refine sw_i (y := (G a)) (rfl) ?_
      refine sw_i (y := (-1)) (ga) ?_
      refine lv_if_eq (tgt := 50) hx hb d_M_join_38 (by decide) (fun hw9 => absurd hw9 (by decide +kernel)) (fun hw9 => ?_)
      refine lv_aload_n hx hb d_M_join_41 rfl (lv_at hl 1 rfl) ?_
      refine wg_Model_sign hx hb hC hw bw_820 d_M_join_42 ?_
      refine lv_iload_n hx hb d_M_join_45 rfl (lv_at hl 3 rfl) ?_
      refine wl_msign hx hb hw (by omega) d_M_join_46 ?_
      refine sw_i (y := (G a)) (rfl) ?_
      refine sw_i (y := (-1)) (ga) ?_
      have e9 : M a + M b = (z a + y).natAbs := by omega
      have lim9 : M a + M b < mM := by omega
      have hm1 : mI z (va_up M 12 (M a + M b)) (va_up Z 12 (lnM (M a + M b))) G := hm.out (by omega) lim9
      have n12 : (va_up M 12 (M a + M b)) 12 = (z a + y).natAbs := (va_up_self _ _ _).trans e9
      have z12 : (va_up Z 12 (lnM (M a + M b))) 12 = lnM ((va_up M 12 (M a + M b)) 12) := by rw [va_up_self, va_up_self]
      refine lv_goto (tgt := 52) hx hb d_M_join_47 (by decide) ?_
      refine lv_iconst (v := nI 2) hx hb d_M_join_52 (by decide +kernel) ?_
      by_cases hfit : (z a + y).natAbs < m1024
      · refine wcV_v (As := [.int (nI 12), .int (nI x), .int (-1), .int (nI 2)]) hx hb hC hw (k_M_finish0 l T F U K I O (va_up M 12 (M a + M b)) (va_up Z 12 (lnM (M a + M b))) G 12 x (-1) (nI 2) (by omega) (by omega) (z12) (hm1.2 12 (by omega)) (by rw [n12]; exact hfit)) lk_M_86 rfl rfl ⟨by show 2 + 1 ≤ R.frames; omega, by show 8 + (5 + 11) + 46 ≤ R.locals; omega⟩ (by omega) (we_Model ) rfl rfl hl.1 rfl (Nat.le_of_ble_eq_true rfl) ⟨Nat.zero_le _, Nat.zero_le _⟩ d_M_join_53 (fun H locs hw => ?_)
        refine lv_goto (tgt := 107) hx hb d_M_join_56 (by decide) ?_
        simp only [if_pos hfit] at hret
        exact hret _ _ _ _ _ _ _ (hm1.store hx9 (by omega) n12 z12 hfit (fun hne => (sg_n (by omega)).symm)) hw d_M_join_107
      · refine wcV_v (As := [.int (nI 12), .int (nI x), .int (-1), .int (nI 2)]) hx hb hC hw (k_M_finish1 l T F U K I O (va_up M 12 (M a + M b)) (va_up Z 12 (lnM (M a + M b))) G 12 (nI x) (-1) (nI 2) (by omega) (z12) (hm1.2 12 (by omega)) (by rw [n12]; exact hfit)) lk_M_86 rfl rfl ⟨by show 2 + 1 ≤ R.frames; omega, by show 8 + (5 + 11) + 46 ≤ R.locals; omega⟩ (by omega) (we_Model ) rfl rfl hl.1 rfl (Nat.le_of_ble_eq_true rfl) ⟨Nat.zero_le _, Nat.zero_le _⟩ d_M_join_53 (fun H locs hw => ?_)
        refine lv_goto (tgt := 107) hx hb d_M_join_56 (by decide) ?_
        simp only [if_neg hfit] at hret
        exact hret _ _ _ _ _ _ _ (hm1) hw d_M_join_107
    · skip
      have ga : G a = (-1) := h_a.2.2.2.trans (sg_n sa)
      have gy := sg_p sy
      rw [gy] at hl
      have hl : lv_has ls 6 [(5, .int (cmp3 (M a) (M b))), (0, .ref (wa T 91)), (1, .int (nI x)), (2, .int (nI a)), (3, .int (nI b)), (4, .int (nI 1))] := hl
      refine lv_aload_n hx hb d_M_join_8 rfl (lv_at hl 1 rfl) ?_
      refine wg_Model_sign hx hb hC hw bw_820 d_M_join_9 ?_
      refine lv_iload_n hx hb d_M_join_12 rfl (lv_at hl 3 rfl) ?_
      refine wl_msign hx hb hw (by omega) d_M_join_13 ?_
      refine sw_i (y := (G a)) (rfl) ?_
      refine sw_i (y := (-1)) (ga) ?_
      refine lv_iload hx hb d_M_join_14 (lv_at hl 5 rfl) ?_
      refine lv_imul hx hb d_M_join_16 ?_
      refine lv_if_lt (tgt := 59) hx hb d_M_join_17 (by decide) (fun hw9 => ?_) (fun hw9 => absurd hw9 (by decide +kernel))
      refine lv_iload hx hb d_M_join_59 (lv_at hl 0 rfl) ?_
      refine lv_if_lt (tgt := 89) hx hb d_M_join_61 (by decide) (fun ho => ?_) (fun ho => ?_)
      · replace ho := cmp3_ng.mp ho
        refine lv_aload_n hx hb d_M_join_89 rfl (lv_at hl 1 rfl) ?_
        refine lv_iload_n hx hb d_M_join_90 rfl (lv_at hl 4 rfl) ?_
        refine lv_iload_n hx hb d_M_join_91 rfl (lv_at hl 3 rfl) ?_
        refine lv_bipush (v := nI 12) hx hb d_M_join_92 (by decide +kernel) ?_
        refine wcV_v (As := [.int (nI b), .int (nI a), .int (nI 12)]) hx hb hC hw (k_M_minus l T F U K I O M Z G b a 12 (by omega) (by omega) (by omega) (by omega) (hm.2 b (by omega))) lk_M_59 rfl rfl ⟨by show 1 + 1 ≤ R.frames; omega, by show 8 + (7 + 11) + 22 ≤ R.locals; omega⟩ (by omega) (we_Model ) rfl rfl hl.1 rfl (Nat.le_of_ble_eq_true rfl) ⟨Nat.zero_le _, Nat.zero_le _⟩ d_M_join_94 (fun H locs hw => ?_)
        have e9 : M b - M a = (z a + y).natAbs := by omega
        have lim9 : M b - M a < mM := by omega
        have hm1 : mI z (va_up M 12 (M b - M a)) (va_up Z 12 (lnM (M b - M a))) G := hm.out (by omega) lim9
        have n12 : (va_up M 12 (M b - M a)) 12 = (z a + y).natAbs := (va_up_self _ _ _).trans e9
        have z12 : (va_up Z 12 (lnM (M b - M a))) 12 = lnM ((va_up M 12 (M b - M a)) 12) := by rw [va_up_self, va_up_self]
        refine lv_aload_n hx hb d_M_join_97 rfl (lv_at hl 1 rfl) ?_
        refine lv_bipush (v := nI 12) hx hb d_M_join_98 (by decide +kernel) ?_
        refine lv_iload_n hx hb d_M_join_100 rfl (lv_at hl 2 rfl) ?_
        refine lv_iload hx hb d_M_join_101 (lv_at hl 5 rfl) ?_
        refine lv_iconst (v := nI 2) hx hb d_M_join_103 (by decide +kernel) ?_
        by_cases hfit : (z a + y).natAbs < m1024
        · refine wcV_v (As := [.int (nI 12), .int (nI x), .int (nI 1), .int (nI 2)]) hx hb hC hw (k_M_finish0 l T F U K I O (va_up M 12 (M b - M a)) (va_up Z 12 (lnM (M b - M a))) G 12 x (nI 1) (nI 2) (by omega) (by omega) (z12) (hm1.2 12 (by omega)) (by rw [n12]; exact hfit)) lk_M_86 rfl rfl ⟨by show 2 + 1 ≤ R.frames; omega, by show 8 + (5 + 11) + 46 ≤ R.locals; omega⟩ (by omega) (we_Model ) rfl rfl hl.1 rfl (Nat.le_of_ble_eq_true rfl) ⟨Nat.zero_le _, Nat.zero_le _⟩ d_M_join_104 (fun H locs hw => ?_)
          simp only [if_pos hfit] at hret
          exact hret _ _ _ _ _ _ _ (hm1.store hx9 (by omega) n12 z12 hfit (fun hne => (sg_p (by omega)).symm)) hw d_M_join_107
        · refine wcV_v (As := [.int (nI 12), .int (nI x), .int (nI 1), .int (nI 2)]) hx hb hC hw (k_M_finish1 l T F U K I O (va_up M 12 (M b - M a)) (va_up Z 12 (lnM (M b - M a))) G 12 (nI x) (nI 1) (nI 2) (by omega) (z12) (hm1.2 12 (by omega)) (by rw [n12]; exact hfit)) lk_M_86 rfl rfl ⟨by show 2 + 1 ≤ R.frames; omega, by show 8 + (5 + 11) + 46 ≤ R.locals; omega⟩ (by omega) (we_Model ) rfl rfl hl.1 rfl (Nat.le_of_ble_eq_true rfl) ⟨Nat.zero_le _, Nat.zero_le _⟩ d_M_join_104 (fun H locs hw => ?_)
          simp only [if_neg hfit] at hret
          exact hret _ _ _ _ _ _ _ (hm1) hw d_M_join_107
      · replace ho := mt cmp3_ng.mpr ho
        refine lv_aload_n hx hb d_M_join_64 rfl (lv_at hl 1 rfl) ?_
        refine lv_iload_n hx hb d_M_join_65 rfl (lv_at hl 3 rfl) ?_
        refine lv_iload_n hx hb d_M_join_66 rfl (lv_at hl 4 rfl) ?_
        refine lv_bipush (v := nI 12) hx hb d_M_join_67 (by decide +kernel) ?_
        refine wcV_v (As := [.int (nI a), .int (nI b), .int (nI 12)]) hx hb hC hw (k_M_minus l T F U K I O M Z G a b 12 (by omega) (by omega) (by omega) (by omega) (hm.2 a (by omega))) lk_M_59 rfl rfl ⟨by show 1 + 1 ≤ R.frames; omega, by show 8 + (7 + 11) + 22 ≤ R.locals; omega⟩ (by omega) (we_Model ) rfl rfl hl.1 rfl (Nat.le_of_ble_eq_true rfl) ⟨Nat.zero_le _, Nat.zero_le _⟩ d_M_join_69 (fun H locs hw => ?_)
        refine lv_aload_n hx hb d_M_join_72 rfl (lv_at hl 1 rfl) ?_
        refine lv_bipush (v := nI 12) hx hb d_M_join_73 (by decide +kernel) ?_
        refine lv_iload_n hx hb d_M_join_75 rfl (lv_at hl 2 rfl) ?_
        refine lv_aload_n hx hb d_M_join_76 rfl (lv_at hl 1 rfl) ?_
        refine wg_Model_sign hx hb hC hw bw_820 d_M_join_77 ?_
        refine lv_iload_n hx hb d_M_join_80 rfl (lv_at hl 3 rfl) ?_
        refine wl_msign hx hb hw (by omega) d_M_join_81 ?_
        refine sw_i (y := (G a)) (rfl) ?_
        refine sw_i (y := (-1)) (ga) ?_
        have e9 : M a - M b = (z a + y).natAbs := by omega
        have lim9 : M a - M b < mM := by omega
        have hm1 : mI z (va_up M 12 (M a - M b)) (va_up Z 12 (lnM (M a - M b))) G := hm.out (by omega) lim9
        have n12 : (va_up M 12 (M a - M b)) 12 = (z a + y).natAbs := (va_up_self _ _ _).trans e9
        have z12 : (va_up Z 12 (lnM (M a - M b))) 12 = lnM ((va_up M 12 (M a - M b)) 12) := by rw [va_up_self, va_up_self]
        refine lv_iconst (v := nI 2) hx hb d_M_join_82 (by decide +kernel) ?_
        by_cases hfit : (z a + y).natAbs < m1024
        · refine wcV_v (As := [.int (nI 12), .int (nI x), .int (-1), .int (nI 2)]) hx hb hC hw (k_M_finish0 l T F U K I O (va_up M 12 (M a - M b)) (va_up Z 12 (lnM (M a - M b))) G 12 x (-1) (nI 2) (by omega) (by omega) (z12) (hm1.2 12 (by omega)) (by rw [n12]; exact hfit)) lk_M_86 rfl rfl ⟨by show 2 + 1 ≤ R.frames; omega, by show 8 + (5 + 11) + 46 ≤ R.locals; omega⟩ (by omega) (we_Model ) rfl rfl hl.1 rfl (Nat.le_of_ble_eq_true rfl) ⟨Nat.zero_le _, Nat.zero_le _⟩ d_M_join_83 (fun H locs hw => ?_)
          refine lv_goto (tgt := 107) hx hb d_M_join_86 (by decide) ?_
          simp only [if_pos hfit] at hret
          exact hret _ _ _ _ _ _ _ (hm1.store hx9 (by omega) n12 z12 hfit (fun hne => (sg_n (by omega)).symm)) hw d_M_join_107
        · refine wcV_v (As := [.int (nI 12), .int (nI x), .int (-1), .int (nI 2)]) hx hb hC hw (k_M_finish1 l T F U K I O (va_up M 12 (M a - M b)) (va_up Z 12 (lnM (M a - M b))) G 12 (nI x) (-1) (nI 2) (by omega) (z12) (hm1.2 12 (by omega)) (by rw [n12]; exact hfit)) lk_M_86 rfl rfl ⟨by show 2 + 1 ≤ R.frames; omega, by show 8 + (5 + 11) + 46 ≤ R.locals; omega⟩ (by omega) (we_Model ) rfl rfl hl.1 rfl (Nat.le_of_ble_eq_true rfl) ⟨Nat.zero_le _, Nat.zero_le _⟩ d_M_join_83 (fun H locs hw => ?_)
          refine lv_goto (tgt := 107) hx hb d_M_join_86 (by decide) ?_
          simp only [if_neg hfit] at hret
          exact hret _ _ _ _ _ _ _ (hm1) hw d_M_join_107
  · rcases sg_3 y with sy | sy | sy
    · skip
      have ga : G a = (nI 0) := h_a.2.2.2.trans (sg_z sa)
      have gy := sg_n sy
      rw [gy] at hl
      have hl : lv_has ls 6 [(5, .int (cmp3 (M a) (M b))), (0, .ref (wa T 91)), (1, .int (nI x)), (2, .int (nI a)), (3, .int (nI b)), (4, .int (-1))] := hl
      refine lv_aload_n hx hb d_M_join_8 rfl (lv_at hl 1 rfl) ?_
      refine wg_Model_sign hx hb hC hw bw_820 d_M_join_9 ?_
      refine lv_iload_n hx hb d_M_join_12 rfl (lv_at hl 3 rfl) ?_
      refine wl_msign hx hb hw (by omega) d_M_join_13 ?_
      refine sw_i (y := (G a)) (rfl) ?_
      refine sw_i (y := (nI 0)) (ga) ?_
      refine lv_iload hx hb d_M_join_14 (lv_at hl 5 rfl) ?_
      refine lv_imul hx hb d_M_join_16 ?_
      refine lv_if_lt (tgt := 59) hx hb d_M_join_17 (by decide) (fun hw9 => absurd hw9 (by decide +kernel)) (fun hw9 => ?_)
      refine lv_aload_n hx hb d_M_join_20 rfl (lv_at hl 1 rfl) ?_
      refine lv_iload_n hx hb d_M_join_21 rfl (lv_at hl 3 rfl) ?_
      refine lv_iload_n hx hb d_M_join_22 rfl (lv_at hl 4 rfl) ?_
      refine lv_bipush (v := nI 12) hx hb d_M_join_23 (by decide +kernel) ?_
      refine wcV_v (As := [.int (nI a), .int (nI b), .int (nI 12)]) hx hb hC hw (k_M_plus l T F U K I O M Z G a b 12 (by omega) (by omega) (by omega) (by omega)) lk_M_83 rfl rfl ⟨by show 1 + 1 ≤ R.frames; omega, by show 8 + (7 + 11) + 22 ≤ R.locals; omega⟩ (by omega) (we_Model ) rfl rfl hl.1 rfl (Nat.le_of_ble_eq_true rfl) ⟨Nat.zero_le _, Nat.zero_le _⟩ d_M_join_25 (fun H locs hw => ?_)
      refine lv_aload_n hx hb d_M_join_28 rfl (lv_at hl 1 rfl) ?_
      refine lv_bipush (v := nI 12) hx hb d_M_join_29 (by decide +kernel) ?_
      refine lv_iload_n hx hb d_M_join_31 rfl (lv_at hl 2 rfl) ?_
      refine lv_aload_n hx hb d_M_join_32 rfl (lv_at hl 1 rfl) ?_
      refine wg_Model_sign hx hb hC hw bw_820 d_M_join_33 ?_
      refine lv_iload_n hx hb d_M_join_36 rfl (lv_at hl 3 rfl) ?_
      refine wl_msign hx hb hw (by omega) d_M_join_37 ?_
      refine sw_i (y := (G a)) (rfl) ?_
      refine sw_i (y := (nI 0)) (ga) ?_
      refine lv_if_eq (tgt := 50) hx hb d_M_join_38 (by decide) (fun hw9 => ?_) (fun hw9 => absurd hw9 (by decide +kernel))
      have e9 : M a + M b = (z a + y).natAbs := by omega
      have lim9 : M a + M b < mM := by omega
      have hm1 : mI z (va_up M 12 (M a + M b)) (va_up Z 12 (lnM (M a + M b))) G := hm.out (by omega) lim9
      have n12 : (va_up M 12 (M a + M b)) 12 = (z a + y).natAbs := (va_up_self _ _ _).trans e9
      have z12 : (va_up Z 12 (lnM (M a + M b))) 12 = lnM ((va_up M 12 (M a + M b)) 12) := by rw [va_up_self, va_up_self]
      refine lv_iload hx hb d_M_join_50 (lv_at hl 5 rfl) ?_
      refine lv_iconst (v := nI 2) hx hb d_M_join_52 (by decide +kernel) ?_
      by_cases hfit : (z a + y).natAbs < m1024
      · refine wcV_v (As := [.int (nI 12), .int (nI x), .int (-1), .int (nI 2)]) hx hb hC hw (k_M_finish0 l T F U K I O (va_up M 12 (M a + M b)) (va_up Z 12 (lnM (M a + M b))) G 12 x (-1) (nI 2) (by omega) (by omega) (z12) (hm1.2 12 (by omega)) (by rw [n12]; exact hfit)) lk_M_86 rfl rfl ⟨by show 2 + 1 ≤ R.frames; omega, by show 8 + (5 + 11) + 46 ≤ R.locals; omega⟩ (by omega) (we_Model ) rfl rfl hl.1 rfl (Nat.le_of_ble_eq_true rfl) ⟨Nat.zero_le _, Nat.zero_le _⟩ d_M_join_53 (fun H locs hw => ?_)
        refine lv_goto (tgt := 107) hx hb d_M_join_56 (by decide) ?_
        simp only [if_pos hfit] at hret
        exact hret _ _ _ _ _ _ _ (hm1.store hx9 (by omega) n12 z12 hfit (fun hne => (sg_n (by omega)).symm)) hw d_M_join_107
      · refine wcV_v (As := [.int (nI 12), .int (nI x), .int (-1), .int (nI 2)]) hx hb hC hw (k_M_finish1 l T F U K I O (va_up M 12 (M a + M b)) (va_up Z 12 (lnM (M a + M b))) G 12 (nI x) (-1) (nI 2) (by omega) (z12) (hm1.2 12 (by omega)) (by rw [n12]; exact hfit)) lk_M_86 rfl rfl ⟨by show 2 + 1 ≤ R.frames; omega, by show 8 + (5 + 11) + 46 ≤ R.locals; omega⟩ (by omega) (we_Model ) rfl rfl hl.1 rfl (Nat.le_of_ble_eq_true rfl) ⟨Nat.zero_le _, Nat.zero_le _⟩ d_M_join_53 (fun H locs hw => ?_)
        refine lv_goto (tgt := 107) hx hb d_M_join_56 (by decide) ?_
        simp only [if_neg hfit] at hret
        exact hret _ _ _ _ _ _ _ (hm1) hw d_M_join_107
    · skip
      have ga : G a = (nI 0) := h_a.2.2.2.trans (sg_z sa)
      have gy := sg_z sy
      rw [gy] at hl
      have hl : lv_has ls 6 [(5, .int (cmp3 (M a) (M b))), (0, .ref (wa T 91)), (1, .int (nI x)), (2, .int (nI a)), (3, .int (nI b)), (4, .int (nI 0))] := hl
      refine lv_aload_n hx hb d_M_join_8 rfl (lv_at hl 1 rfl) ?_
      refine wg_Model_sign hx hb hC hw bw_820 d_M_join_9 ?_
      refine lv_iload_n hx hb d_M_join_12 rfl (lv_at hl 3 rfl) ?_
      refine wl_msign hx hb hw (by omega) d_M_join_13 ?_
      refine sw_i (y := (G a)) (rfl) ?_
      refine sw_i (y := (nI 0)) (ga) ?_
      refine lv_iload hx hb d_M_join_14 (lv_at hl 5 rfl) ?_
      refine lv_imul hx hb d_M_join_16 ?_
      refine lv_if_lt (tgt := 59) hx hb d_M_join_17 (by decide) (fun hw9 => absurd hw9 (by decide +kernel)) (fun hw9 => ?_)
      refine lv_aload_n hx hb d_M_join_20 rfl (lv_at hl 1 rfl) ?_
      refine lv_iload_n hx hb d_M_join_21 rfl (lv_at hl 3 rfl) ?_
      refine lv_iload_n hx hb d_M_join_22 rfl (lv_at hl 4 rfl) ?_
      refine lv_bipush (v := nI 12) hx hb d_M_join_23 (by decide +kernel) ?_
      refine wcV_v (As := [.int (nI a), .int (nI b), .int (nI 12)]) hx hb hC hw (k_M_plus l T F U K I O M Z G a b 12 (by omega) (by omega) (by omega) (by omega)) lk_M_83 rfl rfl ⟨by show 1 + 1 ≤ R.frames; omega, by show 8 + (7 + 11) + 22 ≤ R.locals; omega⟩ (by omega) (we_Model ) rfl rfl hl.1 rfl (Nat.le_of_ble_eq_true rfl) ⟨Nat.zero_le _, Nat.zero_le _⟩ d_M_join_25 (fun H locs hw => ?_)
      refine lv_aload_n hx hb d_M_join_28 rfl (lv_at hl 1 rfl) ?_
      refine lv_bipush (v := nI 12) hx hb d_M_join_29 (by decide +kernel) ?_
      refine lv_iload_n hx hb d_M_join_31 rfl (lv_at hl 2 rfl) ?_
      refine lv_aload_n hx hb d_M_join_32 rfl (lv_at hl 1 rfl) ?_
      refine wg_Model_sign hx hb hC hw bw_820 d_M_join_33 ?_
      refine lv_iload_n hx hb d_M_join_36 rfl (lv_at hl 3 rfl) ?_
      refine wl_msign hx hb hw (by omega) d_M_join_37 ?_
      refine sw_i (y := (G a)) (rfl) ?_
      refine sw_i (y := (nI 0)) (ga) ?_
      refine lv_if_eq (tgt := 50) hx hb d_M_join_38 (by decide) (fun hw9 => ?_) (fun hw9 => absurd hw9 (by decide +kernel))
      have e9 : M a + M b = (z a + y).natAbs := by omega
      have lim9 : M a + M b < mM := by omega
      have hm1 : mI z (va_up M 12 (M a + M b)) (va_up Z 12 (lnM (M a + M b))) G := hm.out (by omega) lim9
      have n12 : (va_up M 12 (M a + M b)) 12 = (z a + y).natAbs := (va_up_self _ _ _).trans e9
      have z12 : (va_up Z 12 (lnM (M a + M b))) 12 = lnM ((va_up M 12 (M a + M b)) 12) := by rw [va_up_self, va_up_self]
      refine lv_iload hx hb d_M_join_50 (lv_at hl 5 rfl) ?_
      refine lv_iconst (v := nI 2) hx hb d_M_join_52 (by decide +kernel) ?_
      by_cases hfit : (z a + y).natAbs < m1024
      · refine wcV_v (As := [.int (nI 12), .int (nI x), .int (nI 0), .int (nI 2)]) hx hb hC hw (k_M_finish0 l T F U K I O (va_up M 12 (M a + M b)) (va_up Z 12 (lnM (M a + M b))) G 12 x (nI 0) (nI 2) (by omega) (by omega) (z12) (hm1.2 12 (by omega)) (by rw [n12]; exact hfit)) lk_M_86 rfl rfl ⟨by show 2 + 1 ≤ R.frames; omega, by show 8 + (5 + 11) + 46 ≤ R.locals; omega⟩ (by omega) (we_Model ) rfl rfl hl.1 rfl (Nat.le_of_ble_eq_true rfl) ⟨Nat.zero_le _, Nat.zero_le _⟩ d_M_join_53 (fun H locs hw => ?_)
        refine lv_goto (tgt := 107) hx hb d_M_join_56 (by decide) ?_
        simp only [if_pos hfit] at hret
        exact hret _ _ _ _ _ _ _ (hm1.store hx9 (by omega) n12 z12 hfit (fun hne => absurd (show z a + y = 0 by omega) hne)) hw d_M_join_107
      · refine wcV_v (As := [.int (nI 12), .int (nI x), .int (nI 0), .int (nI 2)]) hx hb hC hw (k_M_finish1 l T F U K I O (va_up M 12 (M a + M b)) (va_up Z 12 (lnM (M a + M b))) G 12 (nI x) (nI 0) (nI 2) (by omega) (z12) (hm1.2 12 (by omega)) (by rw [n12]; exact hfit)) lk_M_86 rfl rfl ⟨by show 2 + 1 ≤ R.frames; omega, by show 8 + (5 + 11) + 46 ≤ R.locals; omega⟩ (by omega) (we_Model ) rfl rfl hl.1 rfl (Nat.le_of_ble_eq_true rfl) ⟨Nat.zero_le _, Nat.zero_le _⟩ d_M_join_53 (fun H locs hw => ?_)
        refine lv_goto (tgt := 107) hx hb d_M_join_56 (by decide) ?_
        simp only [if_neg hfit] at hret
        exact hret _ _ _ _ _ _ _ (hm1) hw d_M_join_107
    · skip
      have ga : G a = (nI 0) := h_a.2.2.2.trans (sg_z sa)
      have gy := sg_p sy
      rw [gy] at hl
      have hl : lv_has ls 6 [(5, .int (cmp3 (M a) (M b))), (0, .ref (wa T 91)), (1, .int (nI x)), (2, .int (nI a)), (3, .int (nI b)), (4, .int (nI 1))] := hl
      refine lv_aload_n hx hb d_M_join_8 rfl (lv_at hl 1 rfl) ?_
      refine wg_Model_sign hx hb hC hw bw_820 d_M_join_9 ?_
      refine lv_iload_n hx hb d_M_join_12 rfl (lv_at hl 3 rfl) ?_
      refine wl_msign hx hb hw (by omega) d_M_join_13 ?_
      refine sw_i (y := (G a)) (rfl) ?_
      refine sw_i (y := (nI 0)) (ga) ?_
      refine lv_iload hx hb d_M_join_14 (lv_at hl 5 rfl) ?_
      refine lv_imul hx hb d_M_join_16 ?_
      refine lv_if_lt (tgt := 59) hx hb d_M_join_17 (by decide) (fun hw9 => absurd hw9 (by decide +kernel)) (fun hw9 => ?_)
      refine lv_aload_n hx hb d_M_join_20 rfl (lv_at hl 1 rfl) ?_
      refine lv_iload_n hx hb d_M_join_21 rfl (lv_at hl 3 rfl) ?_
      refine lv_iload_n hx hb d_M_join_22 rfl (lv_at hl 4 rfl) ?_
      refine lv_bipush (v := nI 12) hx hb d_M_join_23 (by decide +kernel) ?_
      refine wcV_v (As := [.int (nI a), .int (nI b), .int (nI 12)]) hx hb hC hw (k_M_plus l T F U K I O M Z G a b 12 (by omega) (by omega) (by omega) (by omega)) lk_M_83 rfl rfl ⟨by show 1 + 1 ≤ R.frames; omega, by show 8 + (7 + 11) + 22 ≤ R.locals; omega⟩ (by omega) (we_Model ) rfl rfl hl.1 rfl (Nat.le_of_ble_eq_true rfl) ⟨Nat.zero_le _, Nat.zero_le _⟩ d_M_join_25 (fun H locs hw => ?_)
      refine lv_aload_n hx hb d_M_join_28 rfl (lv_at hl 1 rfl) ?_
      refine lv_bipush (v := nI 12) hx hb d_M_join_29 (by decide +kernel) ?_
      refine lv_iload_n hx hb d_M_join_31 rfl (lv_at hl 2 rfl) ?_
      refine lv_aload_n hx hb d_M_join_32 rfl (lv_at hl 1 rfl) ?_
      refine wg_Model_sign hx hb hC hw bw_820 d_M_join_33 ?_
      refine lv_iload_n hx hb d_M_join_36 rfl (lv_at hl 3 rfl) ?_
      refine wl_msign hx hb hw (by omega) d_M_join_37 ?_
      refine sw_i (y := (G a)) (rfl) ?_
      refine sw_i (y := (nI 0)) (ga) ?_
      refine lv_if_eq (tgt := 50) hx hb d_M_join_38 (by decide) (fun hw9 => ?_) (fun hw9 => absurd hw9 (by decide +kernel))
      have e9 : M a + M b = (z a + y).natAbs := by omega
      have lim9 : M a + M b < mM := by omega
      have hm1 : mI z (va_up M 12 (M a + M b)) (va_up Z 12 (lnM (M a + M b))) G := hm.out (by omega) lim9
      have n12 : (va_up M 12 (M a + M b)) 12 = (z a + y).natAbs := (va_up_self _ _ _).trans e9
      have z12 : (va_up Z 12 (lnM (M a + M b))) 12 = lnM ((va_up M 12 (M a + M b)) 12) := by rw [va_up_self, va_up_self]
      refine lv_iload hx hb d_M_join_50 (lv_at hl 5 rfl) ?_
      refine lv_iconst (v := nI 2) hx hb d_M_join_52 (by decide +kernel) ?_
      by_cases hfit : (z a + y).natAbs < m1024
      · refine wcV_v (As := [.int (nI 12), .int (nI x), .int (nI 1), .int (nI 2)]) hx hb hC hw (k_M_finish0 l T F U K I O (va_up M 12 (M a + M b)) (va_up Z 12 (lnM (M a + M b))) G 12 x (nI 1) (nI 2) (by omega) (by omega) (z12) (hm1.2 12 (by omega)) (by rw [n12]; exact hfit)) lk_M_86 rfl rfl ⟨by show 2 + 1 ≤ R.frames; omega, by show 8 + (5 + 11) + 46 ≤ R.locals; omega⟩ (by omega) (we_Model ) rfl rfl hl.1 rfl (Nat.le_of_ble_eq_true rfl) ⟨Nat.zero_le _, Nat.zero_le _⟩ d_M_join_53 (fun H locs hw => ?_)
        refine lv_goto (tgt := 107) hx hb d_M_join_56 (by decide) ?_
        simp only [if_pos hfit] at hret
        exact hret _ _ _ _ _ _ _ (hm1.store hx9 (by omega) n12 z12 hfit (fun hne => (sg_p (by omega)).symm)) hw d_M_join_107
      · refine wcV_v (As := [.int (nI 12), .int (nI x), .int (nI 1), .int (nI 2)]) hx hb hC hw (k_M_finish1 l T F U K I O (va_up M 12 (M a + M b)) (va_up Z 12 (lnM (M a + M b))) G 12 (nI x) (nI 1) (nI 2) (by omega) (z12) (hm1.2 12 (by omega)) (by rw [n12]; exact hfit)) lk_M_86 rfl rfl ⟨by show 2 + 1 ≤ R.frames; omega, by show 8 + (5 + 11) + 46 ≤ R.locals; omega⟩ (by omega) (we_Model ) rfl rfl hl.1 rfl (Nat.le_of_ble_eq_true rfl) ⟨Nat.zero_le _, Nat.zero_le _⟩ d_M_join_53 (fun H locs hw => ?_)
        refine lv_goto (tgt := 107) hx hb d_M_join_56 (by decide) ?_
        simp only [if_neg hfit] at hret
        exact hret _ _ _ _ _ _ _ (hm1) hw d_M_join_107
  · rcases sg_3 y with sy | sy | sy
    · skip
      have ga : G a = (nI 1) := h_a.2.2.2.trans (sg_p sa)
      have gy := sg_n sy
      rw [gy] at hl
      have hl : lv_has ls 6 [(5, .int (cmp3 (M a) (M b))), (0, .ref (wa T 91)), (1, .int (nI x)), (2, .int (nI a)), (3, .int (nI b)), (4, .int (-1))] := hl
      refine lv_aload_n hx hb d_M_join_8 rfl (lv_at hl 1 rfl) ?_
      refine wg_Model_sign hx hb hC hw bw_820 d_M_join_9 ?_
      refine lv_iload_n hx hb d_M_join_12 rfl (lv_at hl 3 rfl) ?_
      refine wl_msign hx hb hw (by omega) d_M_join_13 ?_
      refine sw_i (y := (G a)) (rfl) ?_
      refine sw_i (y := (nI 1)) (ga) ?_
      refine lv_iload hx hb d_M_join_14 (lv_at hl 5 rfl) ?_
      refine lv_imul hx hb d_M_join_16 ?_
      refine lv_if_lt (tgt := 59) hx hb d_M_join_17 (by decide) (fun hw9 => ?_) (fun hw9 => absurd hw9 (by decide +kernel))
      refine lv_iload hx hb d_M_join_59 (lv_at hl 0 rfl) ?_
      refine lv_if_lt (tgt := 89) hx hb d_M_join_61 (by decide) (fun ho => ?_) (fun ho => ?_)
      · replace ho := cmp3_ng.mp ho
        refine lv_aload_n hx hb d_M_join_89 rfl (lv_at hl 1 rfl) ?_
        refine lv_iload_n hx hb d_M_join_90 rfl (lv_at hl 4 rfl) ?_
        refine lv_iload_n hx hb d_M_join_91 rfl (lv_at hl 3 rfl) ?_
        refine lv_bipush (v := nI 12) hx hb d_M_join_92 (by decide +kernel) ?_
        refine wcV_v (As := [.int (nI b), .int (nI a), .int (nI 12)]) hx hb hC hw (k_M_minus l T F U K I O M Z G b a 12 (by omega) (by omega) (by omega) (by omega) (hm.2 b (by omega))) lk_M_59 rfl rfl ⟨by show 1 + 1 ≤ R.frames; omega, by show 8 + (7 + 11) + 22 ≤ R.locals; omega⟩ (by omega) (we_Model ) rfl rfl hl.1 rfl (Nat.le_of_ble_eq_true rfl) ⟨Nat.zero_le _, Nat.zero_le _⟩ d_M_join_94 (fun H locs hw => ?_)
        have e9 : M b - M a = (z a + y).natAbs := by omega
        have lim9 : M b - M a < mM := by omega
        have hm1 : mI z (va_up M 12 (M b - M a)) (va_up Z 12 (lnM (M b - M a))) G := hm.out (by omega) lim9
        have n12 : (va_up M 12 (M b - M a)) 12 = (z a + y).natAbs := (va_up_self _ _ _).trans e9
        have z12 : (va_up Z 12 (lnM (M b - M a))) 12 = lnM ((va_up M 12 (M b - M a)) 12) := by rw [va_up_self, va_up_self]
        refine lv_aload_n hx hb d_M_join_97 rfl (lv_at hl 1 rfl) ?_
        refine lv_bipush (v := nI 12) hx hb d_M_join_98 (by decide +kernel) ?_
        refine lv_iload_n hx hb d_M_join_100 rfl (lv_at hl 2 rfl) ?_
        refine lv_iload hx hb d_M_join_101 (lv_at hl 5 rfl) ?_
        refine lv_iconst (v := nI 2) hx hb d_M_join_103 (by decide +kernel) ?_
        by_cases hfit : (z a + y).natAbs < m1024
        · refine wcV_v (As := [.int (nI 12), .int (nI x), .int (-1), .int (nI 2)]) hx hb hC hw (k_M_finish0 l T F U K I O (va_up M 12 (M b - M a)) (va_up Z 12 (lnM (M b - M a))) G 12 x (-1) (nI 2) (by omega) (by omega) (z12) (hm1.2 12 (by omega)) (by rw [n12]; exact hfit)) lk_M_86 rfl rfl ⟨by show 2 + 1 ≤ R.frames; omega, by show 8 + (5 + 11) + 46 ≤ R.locals; omega⟩ (by omega) (we_Model ) rfl rfl hl.1 rfl (Nat.le_of_ble_eq_true rfl) ⟨Nat.zero_le _, Nat.zero_le _⟩ d_M_join_104 (fun H locs hw => ?_)
          simp only [if_pos hfit] at hret
          exact hret _ _ _ _ _ _ _ (hm1.store hx9 (by omega) n12 z12 hfit (fun hne => (sg_n (by omega)).symm)) hw d_M_join_107
        · refine wcV_v (As := [.int (nI 12), .int (nI x), .int (-1), .int (nI 2)]) hx hb hC hw (k_M_finish1 l T F U K I O (va_up M 12 (M b - M a)) (va_up Z 12 (lnM (M b - M a))) G 12 (nI x) (-1) (nI 2) (by omega) (z12) (hm1.2 12 (by omega)) (by rw [n12]; exact hfit)) lk_M_86 rfl rfl ⟨by show 2 + 1 ≤ R.frames; omega, by show 8 + (5 + 11) + 46 ≤ R.locals; omega⟩ (by omega) (we_Model ) rfl rfl hl.1 rfl (Nat.le_of_ble_eq_true rfl) ⟨Nat.zero_le _, Nat.zero_le _⟩ d_M_join_104 (fun H locs hw => ?_)
          simp only [if_neg hfit] at hret
          exact hret _ _ _ _ _ _ _ (hm1) hw d_M_join_107
      · replace ho := mt cmp3_ng.mpr ho
        refine lv_aload_n hx hb d_M_join_64 rfl (lv_at hl 1 rfl) ?_
        refine lv_iload_n hx hb d_M_join_65 rfl (lv_at hl 3 rfl) ?_
        refine lv_iload_n hx hb d_M_join_66 rfl (lv_at hl 4 rfl) ?_
        refine lv_bipush (v := nI 12) hx hb d_M_join_67 (by decide +kernel) ?_
        refine wcV_v (As := [.int (nI a), .int (nI b), .int (nI 12)]) hx hb hC hw (k_M_minus l T F U K I O M Z G a b 12 (by omega) (by omega) (by omega) (by omega) (hm.2 a (by omega))) lk_M_59 rfl rfl ⟨by show 1 + 1 ≤ R.frames; omega, by show 8 + (7 + 11) + 22 ≤ R.locals; omega⟩ (by omega) (we_Model ) rfl rfl hl.1 rfl (Nat.le_of_ble_eq_true rfl) ⟨Nat.zero_le _, Nat.zero_le _⟩ d_M_join_69 (fun H locs hw => ?_)
        refine lv_aload_n hx hb d_M_join_72 rfl (lv_at hl 1 rfl) ?_
        refine lv_bipush (v := nI 12) hx hb d_M_join_73 (by decide +kernel) ?_
        refine lv_iload_n hx hb d_M_join_75 rfl (lv_at hl 2 rfl) ?_
        refine lv_aload_n hx hb d_M_join_76 rfl (lv_at hl 1 rfl) ?_
        refine wg_Model_sign hx hb hC hw bw_820 d_M_join_77 ?_
        refine lv_iload_n hx hb d_M_join_80 rfl (lv_at hl 3 rfl) ?_
        refine wl_msign hx hb hw (by omega) d_M_join_81 ?_
        refine sw_i (y := (G a)) (rfl) ?_
        refine sw_i (y := (nI 1)) (ga) ?_
        have e9 : M a - M b = (z a + y).natAbs := by omega
        have lim9 : M a - M b < mM := by omega
        have hm1 : mI z (va_up M 12 (M a - M b)) (va_up Z 12 (lnM (M a - M b))) G := hm.out (by omega) lim9
        have n12 : (va_up M 12 (M a - M b)) 12 = (z a + y).natAbs := (va_up_self _ _ _).trans e9
        have z12 : (va_up Z 12 (lnM (M a - M b))) 12 = lnM ((va_up M 12 (M a - M b)) 12) := by rw [va_up_self, va_up_self]
        refine lv_iconst (v := nI 2) hx hb d_M_join_82 (by decide +kernel) ?_
        by_cases hfit : (z a + y).natAbs < m1024
        · refine wcV_v (As := [.int (nI 12), .int (nI x), .int (nI 1), .int (nI 2)]) hx hb hC hw (k_M_finish0 l T F U K I O (va_up M 12 (M a - M b)) (va_up Z 12 (lnM (M a - M b))) G 12 x (nI 1) (nI 2) (by omega) (by omega) (z12) (hm1.2 12 (by omega)) (by rw [n12]; exact hfit)) lk_M_86 rfl rfl ⟨by show 2 + 1 ≤ R.frames; omega, by show 8 + (5 + 11) + 46 ≤ R.locals; omega⟩ (by omega) (we_Model ) rfl rfl hl.1 rfl (Nat.le_of_ble_eq_true rfl) ⟨Nat.zero_le _, Nat.zero_le _⟩ d_M_join_83 (fun H locs hw => ?_)
          refine lv_goto (tgt := 107) hx hb d_M_join_86 (by decide) ?_
          simp only [if_pos hfit] at hret
          exact hret _ _ _ _ _ _ _ (hm1.store hx9 (by omega) n12 z12 hfit (fun hne => (sg_p (by omega)).symm)) hw d_M_join_107
        · refine wcV_v (As := [.int (nI 12), .int (nI x), .int (nI 1), .int (nI 2)]) hx hb hC hw (k_M_finish1 l T F U K I O (va_up M 12 (M a - M b)) (va_up Z 12 (lnM (M a - M b))) G 12 (nI x) (nI 1) (nI 2) (by omega) (z12) (hm1.2 12 (by omega)) (by rw [n12]; exact hfit)) lk_M_86 rfl rfl ⟨by show 2 + 1 ≤ R.frames; omega, by show 8 + (5 + 11) + 46 ≤ R.locals; omega⟩ (by omega) (we_Model ) rfl rfl hl.1 rfl (Nat.le_of_ble_eq_true rfl) ⟨Nat.zero_le _, Nat.zero_le _⟩ d_M_join_83 (fun H locs hw => ?_)
          refine lv_goto (tgt := 107) hx hb d_M_join_86 (by decide) ?_
          simp only [if_neg hfit] at hret
          exact hret _ _ _ _ _ _ _ (hm1) hw d_M_join_107
    · skip
      have ga : G a = (nI 1) := h_a.2.2.2.trans (sg_p sa)
      have gy := sg_z sy
      rw [gy] at hl
      have hl : lv_has ls 6 [(5, .int (cmp3 (M a) (M b))), (0, .ref (wa T 91)), (1, .int (nI x)), (2, .int (nI a)), (3, .int (nI b)), (4, .int (nI 0))] := hl
      refine lv_aload_n hx hb d_M_join_8 rfl (lv_at hl 1 rfl) ?_
      refine wg_Model_sign hx hb hC hw bw_820 d_M_join_9 ?_
      refine lv_iload_n hx hb d_M_join_12 rfl (lv_at hl 3 rfl) ?_
      refine wl_msign hx hb hw (by omega) d_M_join_13 ?_
      refine sw_i (y := (G a)) (rfl) ?_
      refine sw_i (y := (nI 1)) (ga) ?_
      refine lv_iload hx hb d_M_join_14 (lv_at hl 5 rfl) ?_
      refine lv_imul hx hb d_M_join_16 ?_
      refine lv_if_lt (tgt := 59) hx hb d_M_join_17 (by decide) (fun hw9 => absurd hw9 (by decide +kernel)) (fun hw9 => ?_)
      refine lv_aload_n hx hb d_M_join_20 rfl (lv_at hl 1 rfl) ?_
      refine lv_iload_n hx hb d_M_join_21 rfl (lv_at hl 3 rfl) ?_
      refine lv_iload_n hx hb d_M_join_22 rfl (lv_at hl 4 rfl) ?_
      refine lv_bipush (v := nI 12) hx hb d_M_join_23 (by decide +kernel) ?_
      refine wcV_v (As := [.int (nI a), .int (nI b), .int (nI 12)]) hx hb hC hw (k_M_plus l T F U K I O M Z G a b 12 (by omega) (by omega) (by omega) (by omega)) lk_M_83 rfl rfl ⟨by show 1 + 1 ≤ R.frames; omega, by show 8 + (7 + 11) + 22 ≤ R.locals; omega⟩ (by omega) (we_Model ) rfl rfl hl.1 rfl (Nat.le_of_ble_eq_true rfl) ⟨Nat.zero_le _, Nat.zero_le _⟩ d_M_join_25 (fun H locs hw => ?_)
      refine lv_aload_n hx hb d_M_join_28 rfl (lv_at hl 1 rfl) ?_
      refine lv_bipush (v := nI 12) hx hb d_M_join_29 (by decide +kernel) ?_
      refine lv_iload_n hx hb d_M_join_31 rfl (lv_at hl 2 rfl) ?_
      refine lv_aload_n hx hb d_M_join_32 rfl (lv_at hl 1 rfl) ?_
      refine wg_Model_sign hx hb hC hw bw_820 d_M_join_33 ?_
      refine lv_iload_n hx hb d_M_join_36 rfl (lv_at hl 3 rfl) ?_
      refine wl_msign hx hb hw (by omega) d_M_join_37 ?_
      refine sw_i (y := (G a)) (rfl) ?_
      refine sw_i (y := (nI 1)) (ga) ?_
      refine lv_if_eq (tgt := 50) hx hb d_M_join_38 (by decide) (fun hw9 => absurd hw9 (by decide +kernel)) (fun hw9 => ?_)
      refine lv_aload_n hx hb d_M_join_41 rfl (lv_at hl 1 rfl) ?_
      refine wg_Model_sign hx hb hC hw bw_820 d_M_join_42 ?_
      refine lv_iload_n hx hb d_M_join_45 rfl (lv_at hl 3 rfl) ?_
      refine wl_msign hx hb hw (by omega) d_M_join_46 ?_
      refine sw_i (y := (G a)) (rfl) ?_
      refine sw_i (y := (nI 1)) (ga) ?_
      have e9 : M a + M b = (z a + y).natAbs := by omega
      have lim9 : M a + M b < mM := by omega
      have hm1 : mI z (va_up M 12 (M a + M b)) (va_up Z 12 (lnM (M a + M b))) G := hm.out (by omega) lim9
      have n12 : (va_up M 12 (M a + M b)) 12 = (z a + y).natAbs := (va_up_self _ _ _).trans e9
      have z12 : (va_up Z 12 (lnM (M a + M b))) 12 = lnM ((va_up M 12 (M a + M b)) 12) := by rw [va_up_self, va_up_self]
      refine lv_goto (tgt := 52) hx hb d_M_join_47 (by decide) ?_
      refine lv_iconst (v := nI 2) hx hb d_M_join_52 (by decide +kernel) ?_
      by_cases hfit : (z a + y).natAbs < m1024
      · refine wcV_v (As := [.int (nI 12), .int (nI x), .int (nI 1), .int (nI 2)]) hx hb hC hw (k_M_finish0 l T F U K I O (va_up M 12 (M a + M b)) (va_up Z 12 (lnM (M a + M b))) G 12 x (nI 1) (nI 2) (by omega) (by omega) (z12) (hm1.2 12 (by omega)) (by rw [n12]; exact hfit)) lk_M_86 rfl rfl ⟨by show 2 + 1 ≤ R.frames; omega, by show 8 + (5 + 11) + 46 ≤ R.locals; omega⟩ (by omega) (we_Model ) rfl rfl hl.1 rfl (Nat.le_of_ble_eq_true rfl) ⟨Nat.zero_le _, Nat.zero_le _⟩ d_M_join_53 (fun H locs hw => ?_)
        refine lv_goto (tgt := 107) hx hb d_M_join_56 (by decide) ?_
        simp only [if_pos hfit] at hret
        exact hret _ _ _ _ _ _ _ (hm1.store hx9 (by omega) n12 z12 hfit (fun hne => (sg_p (by omega)).symm)) hw d_M_join_107
      · refine wcV_v (As := [.int (nI 12), .int (nI x), .int (nI 1), .int (nI 2)]) hx hb hC hw (k_M_finish1 l T F U K I O (va_up M 12 (M a + M b)) (va_up Z 12 (lnM (M a + M b))) G 12 (nI x) (nI 1) (nI 2) (by omega) (z12) (hm1.2 12 (by omega)) (by rw [n12]; exact hfit)) lk_M_86 rfl rfl ⟨by show 2 + 1 ≤ R.frames; omega, by show 8 + (5 + 11) + 46 ≤ R.locals; omega⟩ (by omega) (we_Model ) rfl rfl hl.1 rfl (Nat.le_of_ble_eq_true rfl) ⟨Nat.zero_le _, Nat.zero_le _⟩ d_M_join_53 (fun H locs hw => ?_)
        refine lv_goto (tgt := 107) hx hb d_M_join_56 (by decide) ?_
        simp only [if_neg hfit] at hret
        exact hret _ _ _ _ _ _ _ (hm1) hw d_M_join_107
    · skip
      have ga : G a = (nI 1) := h_a.2.2.2.trans (sg_p sa)
      have gy := sg_p sy
      rw [gy] at hl
      have hl : lv_has ls 6 [(5, .int (cmp3 (M a) (M b))), (0, .ref (wa T 91)), (1, .int (nI x)), (2, .int (nI a)), (3, .int (nI b)), (4, .int (nI 1))] := hl
      refine lv_aload_n hx hb d_M_join_8 rfl (lv_at hl 1 rfl) ?_
      refine wg_Model_sign hx hb hC hw bw_820 d_M_join_9 ?_
      refine lv_iload_n hx hb d_M_join_12 rfl (lv_at hl 3 rfl) ?_
      refine wl_msign hx hb hw (by omega) d_M_join_13 ?_
      refine sw_i (y := (G a)) (rfl) ?_
      refine sw_i (y := (nI 1)) (ga) ?_
      refine lv_iload hx hb d_M_join_14 (lv_at hl 5 rfl) ?_
      refine lv_imul hx hb d_M_join_16 ?_
      refine lv_if_lt (tgt := 59) hx hb d_M_join_17 (by decide) (fun hw9 => absurd hw9 (by decide +kernel)) (fun hw9 => ?_)
      refine lv_aload_n hx hb d_M_join_20 rfl (lv_at hl 1 rfl) ?_
      refine lv_iload_n hx hb d_M_join_21 rfl (lv_at hl 3 rfl) ?_
      refine lv_iload_n hx hb d_M_join_22 rfl (lv_at hl 4 rfl) ?_
      refine lv_bipush (v := nI 12) hx hb d_M_join_23 (by decide +kernel) ?_
      refine wcV_v (As := [.int (nI a), .int (nI b), .int (nI 12)]) hx hb hC hw (k_M_plus l T F U K I O M Z G a b 12 (by omega) (by omega) (by omega) (by omega)) lk_M_83 rfl rfl ⟨by show 1 + 1 ≤ R.frames; omega, by show 8 + (7 + 11) + 22 ≤ R.locals; omega⟩ (by omega) (we_Model ) rfl rfl hl.1 rfl (Nat.le_of_ble_eq_true rfl) ⟨Nat.zero_le _, Nat.zero_le _⟩ d_M_join_25 (fun H locs hw => ?_)
      refine lv_aload_n hx hb d_M_join_28 rfl (lv_at hl 1 rfl) ?_
      refine lv_bipush (v := nI 12) hx hb d_M_join_29 (by decide +kernel) ?_
      refine lv_iload_n hx hb d_M_join_31 rfl (lv_at hl 2 rfl) ?_
      refine lv_aload_n hx hb d_M_join_32 rfl (lv_at hl 1 rfl) ?_
      refine wg_Model_sign hx hb hC hw bw_820 d_M_join_33 ?_
      refine lv_iload_n hx hb d_M_join_36 rfl (lv_at hl 3 rfl) ?_
      refine wl_msign hx hb hw (by omega) d_M_join_37 ?_
      refine sw_i (y := (G a)) (rfl) ?_
      refine sw_i (y := (nI 1)) (ga) ?_
      refine lv_if_eq (tgt := 50) hx hb d_M_join_38 (by decide) (fun hw9 => absurd hw9 (by decide +kernel)) (fun hw9 => ?_)
      refine lv_aload_n hx hb d_M_join_41 rfl (lv_at hl 1 rfl) ?_
      refine wg_Model_sign hx hb hC hw bw_820 d_M_join_42 ?_
      refine lv_iload_n hx hb d_M_join_45 rfl (lv_at hl 3 rfl) ?_
      refine wl_msign hx hb hw (by omega) d_M_join_46 ?_
      refine sw_i (y := (G a)) (rfl) ?_
      refine sw_i (y := (nI 1)) (ga) ?_
      have e9 : M a + M b = (z a + y).natAbs := by omega
      have lim9 : M a + M b < mM := by omega
      have hm1 : mI z (va_up M 12 (M a + M b)) (va_up Z 12 (lnM (M a + M b))) G := hm.out (by omega) lim9
      have n12 : (va_up M 12 (M a + M b)) 12 = (z a + y).natAbs := (va_up_self _ _ _).trans e9
      have z12 : (va_up Z 12 (lnM (M a + M b))) 12 = lnM ((va_up M 12 (M a + M b)) 12) := by rw [va_up_self, va_up_self]
      refine lv_goto (tgt := 52) hx hb d_M_join_47 (by decide) ?_
      refine lv_iconst (v := nI 2) hx hb d_M_join_52 (by decide +kernel) ?_
      by_cases hfit : (z a + y).natAbs < m1024
      · refine wcV_v (As := [.int (nI 12), .int (nI x), .int (nI 1), .int (nI 2)]) hx hb hC hw (k_M_finish0 l T F U K I O (va_up M 12 (M a + M b)) (va_up Z 12 (lnM (M a + M b))) G 12 x (nI 1) (nI 2) (by omega) (by omega) (z12) (hm1.2 12 (by omega)) (by rw [n12]; exact hfit)) lk_M_86 rfl rfl ⟨by show 2 + 1 ≤ R.frames; omega, by show 8 + (5 + 11) + 46 ≤ R.locals; omega⟩ (by omega) (we_Model ) rfl rfl hl.1 rfl (Nat.le_of_ble_eq_true rfl) ⟨Nat.zero_le _, Nat.zero_le _⟩ d_M_join_53 (fun H locs hw => ?_)
        refine lv_goto (tgt := 107) hx hb d_M_join_56 (by decide) ?_
        simp only [if_pos hfit] at hret
        exact hret _ _ _ _ _ _ _ (hm1.store hx9 (by omega) n12 z12 hfit (fun hne => (sg_p (by omega)).symm)) hw d_M_join_107
      · refine wcV_v (As := [.int (nI 12), .int (nI x), .int (nI 1), .int (nI 2)]) hx hb hC hw (k_M_finish1 l T F U K I O (va_up M 12 (M a + M b)) (va_up Z 12 (lnM (M a + M b))) G 12 (nI x) (nI 1) (nI 2) (by omega) (z12) (hm1.2 12 (by omega)) (by rw [n12]; exact hfit)) lk_M_86 rfl rfl ⟨by show 2 + 1 ≤ R.frames; omega, by show 8 + (5 + 11) + 46 ≤ R.locals; omega⟩ (by omega) (we_Model ) rfl rfl hl.1 rfl (Nat.le_of_ble_eq_true rfl) ⟨Nat.zero_le _, Nat.zero_le _⟩ d_M_join_53 (fun H locs hw => ?_)
        refine lv_goto (tgt := 107) hx hb d_M_join_56 (by decide) ?_
        simp only [if_neg hfit] at hret
        exact hret _ _ _ _ _ _ _ (hm1) hw d_M_join_107
set_option maxRecDepth 100000 in
set_option maxHeartbeats 4000000 in
theorem k_M_add (l : Launch) (T : wT) (F : wFt) (U K : wUt) (I : wIt) (O : wOt) (M Z : Nat → Nat) (G : Nat → Int32) (z : Nat → Int) (hm : mI z M Z G) (r a b : Int32) : Met l y_M_add (.code y_M_add c_M_add 4 none :: bg) ({ frames := 4, cells := 0, slots := 0, locals := 95 } : Room) (mP T F U K (gI I (dgm M) Z G) O [.ref (wa T 91), .int r, .int a, .int b]) (mQvM T (fun M' Z' G' => mI (zF (ocF (isR r ∧ isR a ∧ isR b) (z (rg a) + z (rg b))) (va_up z (rg r) (z (rg a) + z (rg b))) z) M' Z' G') F U (va_up K 15 (nI (ocF (isR r ∧ isR a ∧ isR b) (z (rg a) + z (rg b))))) I O) 0 0 (wA T) := by
  refine wM_vM (by decide) (Nat.le_of_ble_eq_true rfl) ?_
  intro p e R s m args below meth c Q ls hx hb hC hRf hRl hret hl hw
  have hRf : 4 ≤ R.frames := hRf
  have hRl : 95 ≤ R.locals := hRl
  have hl : lv_has ls 4 [(0, .ref (wa T 91)), (1, .int r), (2, .int a), (3, .int b)] := hl
  refine lv_aload_n hx hb d_M_add_0 rfl (lv_at hl 0 rfl) ?_
  refine lv_iload_n hx hb d_M_add_1 rfl (lv_at hl 1 rfl) ?_
  refine lv_iload_n hx hb d_M_add_2 rfl (lv_at hl 2 rfl) ?_
  refine lv_iload_n hx hb d_M_add_3 rfl (lv_at hl 3 rfl) ?_
  refine wcV_z (As := [.int r, .int a, .int b]) hx hb hC hw (k_M_three l T F U K (gI I (dgm M) Z G) O r a b) lk_M_76 rfl rfl ⟨by show 1 + 1 ≤ R.frames; omega, by show 8 + (4 + 11) + 20 ≤ R.locals; omega⟩ (by omega) (we_Model ) rfl rfl hl.1 rfl (Nat.le_of_ble_eq_true rfl) ⟨Nat.zero_le _, Nat.zero_le _⟩ d_M_add_4 (fun H locs hw => ?_)
  by_cases hg : isR r ∧ isR a ∧ isR b
  rotate_left
  · refine sw_i (y := nI 0) (by rw [decide_eq_false hg]; rfl) ?_
    refine n_if_eq (tgt := 23) hx hb d_M_add_7 (by decide) (by omega) (fun hw9 => ?_) (fun hw9 => absurd hw9 (by decide))
    rw [ocG_1 hg] at hw
    rw [ocF_1 hg] at hret
    exact hret _ _ _ _ _ _ _ (by rw [zF_n (by decide)]; exact hm) hw d_M_add_23
  refine sw_i (y := nI 1) (by rw [decide_eq_true hg]; rfl) ?_
  refine n_if_eq (tgt := 23) hx hb d_M_add_7 (by decide) (by omega) (fun hw9 => absurd hw9 (by decide)) (fun hw9 => ?_)
  rw [ocG_k hg] at hw
  obtain ⟨x, hx9, rfl⟩ := isR_of hg.1
  obtain ⟨i, hi9, rfl⟩ := isR_of hg.2.1
  obtain ⟨j, hj9, rfl⟩ := isR_of hg.2.2
  rw [rg_nI hx9, rg_nI hi9, rg_nI hj9] at hret
  have hl : lv_has ls 4 [(0, .ref (wa T 91)), (1, .int (nI x)), (2, .int (nI i)), (3, .int (nI j))] := hl
  refine lv_aload_n hx hb d_M_add_10 rfl (lv_at hl 0 rfl) ?_
  refine lv_iload_n hx hb d_M_add_11 rfl (lv_at hl 1 rfl) ?_
  refine lv_iload_n hx hb d_M_add_12 rfl (lv_at hl 2 rfl) ?_
  refine lv_iload_n hx hb d_M_add_13 rfl (lv_at hl 3 rfl) ?_
  refine lv_aload_n hx hb d_M_add_14 rfl (lv_at hl 0 rfl) ?_
  refine wg_Model_sign hx hb hC hw bw_820 d_M_add_15 ?_
  refine lv_iload_n hx hb d_M_add_18 rfl (lv_at hl 3 rfl) ?_
  refine wl_msign hx hb hw (by omega) d_M_add_19 ?_
  refine sw_i (y := (G j)) (rfl) ?_
  refine sw_i (y := (sgnI (z j))) ((hm.1 j hj9).2.2.2) ?_
  refine wcV_vM (As := [.int (nI x), .int (nI i), .int (nI j), .int (sgnI (z j))]) hx hb hC hw (k_M_join l T F U (va_up K 15 (nI 0)) I O M Z G z hm x i j (z j) hx9 hi9 hj9 (rfl)) lk_M_90 rfl rfl ⟨by show 3 + 1 ≤ R.frames; omega, by show 8 + (6 + 11) + 70 ≤ R.locals; omega⟩ (by omega) (we_Model ) rfl rfl hl.1 rfl (Nat.le_of_ble_eq_true rfl) ⟨Nat.zero_le _, Nat.zero_le _⟩ d_M_add_20 (fun M1 Z1 G1 H locs hp9 hw => ?_)
  by_cases hfit : (z i + z j).natAbs < m1024
  · simp only [if_pos hfit] at hw hp9
    rw [ocF_0 hg hfit] at hret
    exact hret _ _ _ _ _ _ _ (by rw [zF_0 rfl]; exact hp9) hw d_M_add_23
  · simp only [if_neg hfit] at hw hp9
    rw [va_v2] at hw
    rw [ocF_2 hg hfit] at hret
    exact hret _ _ _ _ _ _ _ (by rw [zF_n (by decide)]; exact hp9) hw d_M_add_23
set_option maxRecDepth 100000 in
set_option maxHeartbeats 4000000 in
theorem k_M_subtract (l : Launch) (T : wT) (F : wFt) (U K : wUt) (I : wIt) (O : wOt) (M Z : Nat → Nat) (G : Nat → Int32) (z : Nat → Int) (hm : mI z M Z G) (r a b : Int32) : Met l y_M_subtract (.code y_M_subtract c_M_subtract 4 none :: bg) ({ frames := 4, cells := 0, slots := 0, locals := 95 } : Room) (mP T F U K (gI I (dgm M) Z G) O [.ref (wa T 91), .int r, .int a, .int b]) (mQvM T (fun M' Z' G' => mI (zF (ocF (isR r ∧ isR a ∧ isR b) (z (rg a) + -z (rg b))) (va_up z (rg r) (z (rg a) + -z (rg b))) z) M' Z' G') F U (va_up K 15 (nI (ocF (isR r ∧ isR a ∧ isR b) (z (rg a) + -z (rg b))))) I O) 0 0 (wA T) := by
  refine wM_vM (by decide) (Nat.le_of_ble_eq_true rfl) ?_
  intro p e R s m args below meth c Q ls hx hb hC hRf hRl hret hl hw
  have hRf : 4 ≤ R.frames := hRf
  have hRl : 95 ≤ R.locals := hRl
  have hl : lv_has ls 4 [(0, .ref (wa T 91)), (1, .int r), (2, .int a), (3, .int b)] := hl
  refine lv_aload_n hx hb d_M_subtract_0 rfl (lv_at hl 0 rfl) ?_
  refine lv_iload_n hx hb d_M_subtract_1 rfl (lv_at hl 1 rfl) ?_
  refine lv_iload_n hx hb d_M_subtract_2 rfl (lv_at hl 2 rfl) ?_
  refine lv_iload_n hx hb d_M_subtract_3 rfl (lv_at hl 3 rfl) ?_
  refine wcV_z (As := [.int r, .int a, .int b]) hx hb hC hw (k_M_three l T F U K (gI I (dgm M) Z G) O r a b) lk_M_76 rfl rfl ⟨by show 1 + 1 ≤ R.frames; omega, by show 8 + (4 + 11) + 20 ≤ R.locals; omega⟩ (by omega) (we_Model ) rfl rfl hl.1 rfl (Nat.le_of_ble_eq_true rfl) ⟨Nat.zero_le _, Nat.zero_le _⟩ d_M_subtract_4 (fun H locs hw => ?_)
  by_cases hg : isR r ∧ isR a ∧ isR b
  rotate_left
  · refine sw_i (y := nI 0) (by rw [decide_eq_false hg]; rfl) ?_
    refine n_if_eq (tgt := 24) hx hb d_M_subtract_7 (by decide) (by omega) (fun hw9 => ?_) (fun hw9 => absurd hw9 (by decide))
    rw [ocG_1 hg] at hw
    rw [ocF_1 hg] at hret
    exact hret _ _ _ _ _ _ _ (by rw [zF_n (by decide)]; exact hm) hw d_M_subtract_24
  refine sw_i (y := nI 1) (by rw [decide_eq_true hg]; rfl) ?_
  refine n_if_eq (tgt := 24) hx hb d_M_subtract_7 (by decide) (by omega) (fun hw9 => absurd hw9 (by decide)) (fun hw9 => ?_)
  rw [ocG_k hg] at hw
  obtain ⟨x, hx9, rfl⟩ := isR_of hg.1
  obtain ⟨i, hi9, rfl⟩ := isR_of hg.2.1
  obtain ⟨j, hj9, rfl⟩ := isR_of hg.2.2
  rw [rg_nI hx9, rg_nI hi9, rg_nI hj9] at hret
  have hl : lv_has ls 4 [(0, .ref (wa T 91)), (1, .int (nI x)), (2, .int (nI i)), (3, .int (nI j))] := hl
  refine lv_aload_n hx hb d_M_subtract_10 rfl (lv_at hl 0 rfl) ?_
  refine lv_iload_n hx hb d_M_subtract_11 rfl (lv_at hl 1 rfl) ?_
  refine lv_iload_n hx hb d_M_subtract_12 rfl (lv_at hl 2 rfl) ?_
  refine lv_iload_n hx hb d_M_subtract_13 rfl (lv_at hl 3 rfl) ?_
  refine lv_aload_n hx hb d_M_subtract_14 rfl (lv_at hl 0 rfl) ?_
  refine wg_Model_sign hx hb hC hw bw_820 d_M_subtract_15 ?_
  refine lv_iload_n hx hb d_M_subtract_18 rfl (lv_at hl 3 rfl) ?_
  refine wl_msign hx hb hw (by omega) d_M_subtract_19 ?_
  refine sw_i (y := (G j)) (rfl) ?_
  refine lv_ineg hx hb d_M_subtract_20 ?_
  refine sw_i (y := (sgnI (-z j))) (by rw [(hm.1 j hj9).2.2.2]; exact sg_neg _) ?_
  refine wcV_vM (As := [.int (nI x), .int (nI i), .int (nI j), .int (sgnI (-z j))]) hx hb hC hw (k_M_join l T F U (va_up K 15 (nI 0)) I O M Z G z hm x i j (-z j) hx9 hi9 hj9 ((Int.natAbs_neg _).symm)) lk_M_90 rfl rfl ⟨by show 3 + 1 ≤ R.frames; omega, by show 8 + (6 + 11) + 70 ≤ R.locals; omega⟩ (by omega) (we_Model ) rfl rfl hl.1 rfl (Nat.le_of_ble_eq_true rfl) ⟨Nat.zero_le _, Nat.zero_le _⟩ d_M_subtract_21 (fun M1 Z1 G1 H locs hp9 hw => ?_)
  by_cases hfit : (z i + -z j).natAbs < m1024
  · simp only [if_pos hfit] at hw hp9
    rw [ocF_0 hg hfit] at hret
    exact hret _ _ _ _ _ _ _ (by rw [zF_0 rfl]; exact hp9) hw d_M_subtract_24
  · simp only [if_neg hfit] at hw hp9
    rw [va_v2] at hw
    rw [ocF_2 hg hfit] at hret
    exact hret _ _ _ _ _ _ _ (by rw [zF_n (by decide)]; exact hp9) hw d_M_subtract_24
set_option maxRecDepth 100000 in
set_option maxHeartbeats 4000000 in
theorem k_M_multiply (l : Launch) (T : wT) (F : wFt) (U K : wUt) (I : wIt) (O : wOt) (M Z : Nat → Nat) (G : Nat → Int32) (z : Nat → Int) (hm : mI z M Z G) (r a b : Int32) : Met l y_M_multiply (.code y_M_multiply c_M_multiply 4 none :: bg) ({ frames := 3, cells := 0, slots := 0, locals := 70 } : Room) (mP T F U K (gI I (dgm M) Z G) O [.ref (wa T 91), .int r, .int a, .int b]) (mQvM T (fun M' Z' G' => mI (zF (ocF (isR r ∧ isR a ∧ isR b) (z (rg a) * z (rg b))) (va_up z (rg r) (z (rg a) * z (rg b))) z) M' Z' G') F U (va_up K 15 (nI (ocF (isR r ∧ isR a ∧ isR b) (z (rg a) * z (rg b))))) I O) 0 0 (wA T) := by
  refine wM_vM (by decide) (Nat.le_of_ble_eq_true rfl) ?_
  intro p e R s m args below meth c Q ls hx hb hC hRf hRl hret hl hw
  have hRf : 3 ≤ R.frames := hRf
  have hRl : 70 ≤ R.locals := hRl
  have hl : lv_has ls 4 [(0, .ref (wa T 91)), (1, .int r), (2, .int a), (3, .int b)] := hl
  refine lv_aload_n hx hb d_M_multiply_0 rfl (lv_at hl 0 rfl) ?_
  refine lv_iload_n hx hb d_M_multiply_1 rfl (lv_at hl 1 rfl) ?_
  refine lv_iload_n hx hb d_M_multiply_2 rfl (lv_at hl 2 rfl) ?_
  refine lv_iload_n hx hb d_M_multiply_3 rfl (lv_at hl 3 rfl) ?_
  refine wcV_z (As := [.int r, .int a, .int b]) hx hb hC hw (k_M_three l T F U K (gI I (dgm M) Z G) O r a b) lk_M_76 rfl rfl ⟨by show 1 + 1 ≤ R.frames; omega, by show 8 + (4 + 11) + 20 ≤ R.locals; omega⟩ (by omega) (we_Model ) rfl rfl hl.1 rfl (Nat.le_of_ble_eq_true rfl) ⟨Nat.zero_le _, Nat.zero_le _⟩ d_M_multiply_4 (fun H locs hw => ?_)
  by_cases hg : isR r ∧ isR a ∧ isR b
  rotate_left
  · refine sw_i (y := nI 0) (by rw [decide_eq_false hg]; rfl) ?_
    refine n_if_eq (tgt := 39) hx hb d_M_multiply_7 (by decide) (by omega) (fun hw9 => ?_) (fun hw9 => absurd hw9 (by decide))
    rw [ocG_1 hg] at hw
    rw [ocF_1 hg] at hret
    exact hret _ _ _ _ _ _ _ (by rw [zF_n (by decide)]; exact hm) hw d_M_multiply_39
  refine sw_i (y := nI 1) (by rw [decide_eq_true hg]; rfl) ?_
  refine n_if_eq (tgt := 39) hx hb d_M_multiply_7 (by decide) (by omega) (fun hw9 => absurd hw9 (by decide)) (fun hw9 => ?_)
  rw [ocG_k hg] at hw
  obtain ⟨x, hx9, rfl⟩ := isR_of hg.1
  obtain ⟨i, hi9, rfl⟩ := isR_of hg.2.1
  obtain ⟨j, hj9, rfl⟩ := isR_of hg.2.2
  rw [rg_nI hx9, rg_nI hi9, rg_nI hj9] at hret
  have hl : lv_has ls 4 [(0, .ref (wa T 91)), (1, .int (nI x)), (2, .int (nI i)), (3, .int (nI j))] := hl
  have hi := hm.1 i hi9
  have hj := hm.1 j hj9
  have li := ln52 (hm.lt hi9)
  have lj := ln52 (hm.lt hj9)
  refine lv_aload_n hx hb d_M_multiply_10 rfl (lv_at hl 0 rfl) ?_
  refine lv_iload_n hx hb d_M_multiply_11 rfl (lv_at hl 2 rfl) ?_
  refine lv_iload_n hx hb d_M_multiply_12 rfl (lv_at hl 3 rfl) ?_
  refine lv_bipush (v := nI 14) hx hb d_M_multiply_13 (by decide +kernel) ?_
  refine wcV_v (As := [.int (nI i), .int (nI j), .int (nI 14)]) hx hb hC hw (k_M_times l T F U (va_up K 15 (nI 0)) I O M Z G i j 14 (by omega) (by omega) (by omega) (by omega) (by omega) hi.2.2.1 hj.2.2.1 (hm.2 i (by omega)) (hm.2 j (by omega)) (by omega)) lk_M_63 rfl rfl ⟨by show 1 + 1 ≤ R.frames; omega, by show 8 + (10 + 11) + 22 ≤ R.locals; omega⟩ (by omega) (we_Model ) rfl rfl hl.1 rfl (Nat.le_of_ble_eq_true rfl) ⟨Nat.zero_le _, Nat.zero_le _⟩ d_M_multiply_15 (fun H locs hw => ?_)
  have e9 : M i * M j = (z i * z j).natAbs := by rw [hi.2.1, hj.2.1, Int.natAbs_mul]
  have lim9 : M i * M j < mM := Nat.lt_of_lt_of_le (mul_pow (lnM_lt (hm.2 i (by omega))) (lnM_lt (hm.2 j (by omega)))) (b20_le (by omega))
  have hm1 : mI z (va_up M 14 (M i * M j)) (va_up Z 14 (lnM (M i * M j))) G := hm.out (by omega) lim9
  have n14 : (va_up M 14 (M i * M j)) 14 = (z i * z j).natAbs := (va_up_self _ _ _).trans e9
  have z14 : (va_up Z 14 (lnM (M i * M j))) 14 = lnM ((va_up M 14 (M i * M j)) 14) := by rw [va_up_self, va_up_self]
  refine lv_aload_n hx hb d_M_multiply_18 rfl (lv_at hl 0 rfl) ?_
  refine lv_bipush (v := nI 14) hx hb d_M_multiply_19 (by decide +kernel) ?_
  refine lv_iload_n hx hb d_M_multiply_21 rfl (lv_at hl 1 rfl) ?_
  refine lv_aload_n hx hb d_M_multiply_22 rfl (lv_at hl 0 rfl) ?_
  refine wg_Model_sign hx hb hC hw bw_820 d_M_multiply_23 ?_
  refine lv_iload_n hx hb d_M_multiply_26 rfl (lv_at hl 2 rfl) ?_
  refine wl_msign hx hb hw (by omega) d_M_multiply_27 ?_
  refine sw_i (y := (G i)) (rfl) ?_
  refine lv_aload_n hx hb d_M_multiply_28 rfl (lv_at hl 0 rfl) ?_
  refine wg_Model_sign hx hb hC hw bw_820 d_M_multiply_29 ?_
  refine lv_iload_n hx hb d_M_multiply_32 rfl (lv_at hl 3 rfl) ?_
  refine wl_msign hx hb hw (by omega) d_M_multiply_33 ?_
  refine sw_i (y := (G j)) (rfl) ?_
  refine lv_imul hx hb d_M_multiply_34 ?_
  refine sw_i (y := (sgnI (z i * z j))) (by rw [hi.2.2.2, hj.2.2.2]; exact sg_mul _ _) ?_
  refine lv_iconst (v := nI 2) hx hb d_M_multiply_35 (by decide +kernel) ?_
  by_cases hfit : (z i * z j).natAbs < m1024
  · refine wcV_v (As := [.int (nI 14), .int (nI x), .int (sgnI (z i * z j)), .int (nI 2)]) hx hb hC hw (k_M_finish0 l T F U (va_up K 15 (nI 0)) I O (va_up M 14 (M i * M j)) (va_up Z 14 (lnM (M i * M j))) G 14 x (sgnI (z i * z j)) (nI 2) (by omega) (by omega) (z14) (hm1.2 14 (by omega)) (by rw [n14]; exact hfit)) lk_M_86 rfl rfl ⟨by show 2 + 1 ≤ R.frames; omega, by show 8 + (5 + 11) + 46 ≤ R.locals; omega⟩ (by omega) (we_Model ) rfl rfl hl.1 rfl (Nat.le_of_ble_eq_true rfl) ⟨Nat.zero_le _, Nat.zero_le _⟩ d_M_multiply_36 (fun H locs hw => ?_)
    rw [ocF_0 hg hfit] at hret
    exact hret _ _ _ _ _ _ _ (by rw [zF_0 rfl]; exact hm1.store hx9 (by omega) n14 z14 hfit (fun _ => rfl)) hw d_M_multiply_39
  · refine wcV_v (As := [.int (nI 14), .int (nI x), .int (sgnI (z i * z j)), .int (nI 2)]) hx hb hC hw (k_M_finish1 l T F U (va_up K 15 (nI 0)) I O (va_up M 14 (M i * M j)) (va_up Z 14 (lnM (M i * M j))) G 14 (nI x) (sgnI (z i * z j)) (nI 2) (by omega) (z14) (hm1.2 14 (by omega)) (by rw [n14]; exact hfit)) lk_M_86 rfl rfl ⟨by show 2 + 1 ≤ R.frames; omega, by show 8 + (5 + 11) + 46 ≤ R.locals; omega⟩ (by omega) (we_Model ) rfl rfl hl.1 rfl (Nat.le_of_ble_eq_true rfl) ⟨Nat.zero_le _, Nat.zero_le _⟩ d_M_multiply_36 (fun H locs hw => ?_)
    rw [va_v2] at hw
    rw [ocF_2 hg hfit] at hret
    exact hret _ _ _ _ _ _ _ (by rw [zF_n (by decide)]; exact hm1) hw d_M_multiply_39
