/-! the model: type -/
theorem gI_st {I : wIt} {D : Nat → Nat → Nat} {Z : Nat → Nat} {G : Nat → Int32} {t1 : Nat → Nat} {n c : Nat} : va_up (gI (va_up I 4 (tI t1)) D Z G) 4 (upd ((gI (va_up I 4 (tI t1)) D Z G) 4) n (nI c)) = gI (va_up I 4 (tI (tU t1 n c))) D Z G := by
  rw [gI_up (by decide) (by decide) (by decide), gI_o (by decide) (by decide) (by decide), va_up_self, tI_up, va_v2]
theorem lj_and255 (x : Int64) : (x &&& 255).toInt = x.toInt % 256 := by
  have e := lj_andN x (m := 255) 8 (by decide +kernel)
  rw [lj_toInt (x &&& 255), e, lj_toInt x]
  split <;> split <;> omega
theorem ty_dig {N k : Nat} (hN : N < 2 ^ 64) (hk : k < 8) : (lN N >>> ((nI (8 * k)).toInt64 &&& 63)) &&& 255 = lN (N / 2 ^ (8 * k) % 256) := by
  apply lj_inj
  have hD : ∀ k : Fin 8, (((nI (8 * k.val)).toInt64 &&& 63).toBitVec.smod 64).toNat = 8 * k.val := by decide +kernel
  have hq : N / 2 ^ (8 * k) % 256 < 256 := Nat.mod_lt _ (by decide)
  have e1 : (lN (N / 2 ^ (8 * k) % 256)).toInt = ((N / 2 ^ (8 * k) % 256 : Nat) : Int) := lj_lN (by omega)
  rw [lj_and255, lj_shr (lN N) (8 * k) (hD ⟨k, hk⟩), e1, lj_toInt (lN N), wb_tn hN]
  have h8 : k = 0 ∨ k = 1 ∨ k = 2 ∨ k = 3 ∨ k = 4 ∨ k = 5 ∨ k = 6 ∨ k = 7 := by omega
  rcases h8 with h | h | h | h | h | h | h | h <;> subst h <;> simp only [Nat.mul_zero, Nat.reduceMul, Nat.reducePow, Int.reducePow] <;> split <;> omega
theorem n16 {K : wUt} {a c : Int32} : va_up (va_up K 16 a) 15 c 16 = a := (va_up_ne _ _ (by decide)).trans (va_up_self _ _ _)

set_option maxRecDepth 100000 in
set_option maxHeartbeats 4000000 in
theorem k_M_type (l : Launch) (T : wT) (F : wFt) (U K : wUt) (I : wIt) (O : wOt) (M Z : Nat → Nat) (G : Nat → Int32) (z : Nat → Int) (hm : mI z M Z G) (n9 : Nat) (tx : Nat → Nat) (hn9 : n9 ≤ 1200) (hK : K 16 = nI n9) (hI : I 4 = tI tx) (ht : ∀ i, tx i < 128) (N : Nat) (hN : N < 2 ^ 64) (n : Int32) : Met l y_M_type (.code y_M_type c_M_type 8 (some .int) :: bg) ({ frames := 0, cells := 0, slots := 0, locals := 0 } : Room) (mP T F U K (gI I (dgm M) Z G) O [.ref (wa T 91), .long (lN N), .int n]) (mQiM T (if tyC n9 N n = 0 then nI (n9 + rg n) else nI 0) (mI z) F U (va_up (va_up K 16 (nI (if tyC n9 N n = 0 then n9 + rg n else n9))) 15 (nI (tyC n9 N n))) (va_up I 4 (tI (if tyC n9 N n = 0 then apT tx n9 N (rg n) else tx))) O) 0 0 (wA T) := by
  refine wM_iM (by decide) (Nat.le_of_ble_eq_true rfl) ?_
  intro p e R s m args below meth c Q ls hx hb hC hRf hRl hret hl hw
  have hRf : 0 ≤ R.frames := hRf
  have hRl : 0 ≤ R.locals := hRl
  have hl : lv_has ls 8 [(0, .ref (wa T 91)), (1, .long (lN N)), (3, .int n)] := hl
  rw [show gI I (dgm M) Z G = gI (va_up I 4 (tI tx)) (dgm M) Z G from by rw [← hI, va_upx]] at hw
  have hK0 : va_up K 16 (nI n9) = K := by rw [← hK, va_upx]
  rw [← hK0] at hw
  have c32 : (32 : Int64).toInt = 32 := by decide +kernel
  have c126 : (126 : Int64).toInt = 126 := by decide +kernel
  refine lv_iload_n hx hb d_M_type_0 rfl (lv_at hl 2 rfl) ?_
  refine lv_iconst (v := nI 1) hx hb d_M_type_1 (by decide +kernel) ?_
  refine lv_icmp_lt (tgt := 15) hx hb d_M_type_2 (by decide) (fun g1 => ?_) (fun g1 => ?_)
  · refine lv_iconst (v := nI 0) hx hb d_M_type_15 (by decide +kernel) ?_
    refine lv_istore hx hb d_M_type_16 hl (by decide) rfl (fun ls hl => ?_)
    have hl : lv_has ls 8 [(4, .int (nI 0)), (0, .ref (wa T 91)), (1, .long (lN N)), (3, .int n)] := hl
    refine lv_iconst (v := nI 0) hx hb d_M_type_18 (by decide +kernel) ?_
    refine lv_istore hx hb d_M_type_19 hl (by decide) rfl (fun ls hl => ?_)
    have hl : lv_has ls 8 [(5, .int (nI 0)), (4, .int (nI 0)), (0, .ref (wa T 91)), (1, .long (lN N)), (3, .int n)] := hl
    refine lv_iload hx hb d_M_type_21 (lv_at hl 0 rfl) ?_
    refine lv_iload_n hx hb d_M_type_23 rfl (lv_at hl 4 rfl) ?_
    refine lv_icmp_ge (tgt := 76) hx hb d_M_type_24 (by decide) (fun hq => ?_) (fun hq => ?_)
    · refine lv_aload_n hx hb d_M_type_76 rfl (lv_at hl 2 rfl) ?_
      refine lv_iload hx hb d_M_type_77 (lv_at hl 1 rfl) ?_
      refine n_if_ne (tgt := 86) hx hb d_M_type_79 (by decide) (by omega) (fun hw9 => absurd hw9 (by decide)) (fun hw9 => ?_)
      refine lv_iconst (v := nI 1) hx hb d_M_type_82 (by decide +kernel) ?_
      refine lv_goto (tgt := 103) hx hb d_M_type_83 (by decide) ?_
      refine wp_Model_code hx hb hC hw bw_817 d_M_type_103 (fun H locs hw => ?_)
      refine lv_aload_n hx hb d_M_type_106 rfl (lv_at hl 2 rfl) ?_
      refine wg_Model_code hx hb hC hw bw_817 d_M_type_107 ?_
      refine sw_i (y := nI 1) (va_up_self _ _ _) ?_
      refine n_if_le (tgt := 115) hx hb d_M_type_110 (by decide) (by omega) (fun hw9 => absurd hw9 (by decide)) (fun hw9 => ?_)
      refine lv_iconst (v := nI 0) hx hb d_M_type_113 (by decide +kernel) ?_
      have hoc9 : tyC n9 N n = 1 := if_neg fun q => absurd g1 (Int32.not_lt.mpr q.1)
      simp only [hoc9, if_neg (by decide : ¬ (1 : Nat) = 0)] at hret
      exact hret _ _ _ _ _ _ _ (hm) hw d_M_type_114
    · refine lv_iload hx hb d_M_type_27 (lv_at hl 1 rfl) ?_
      refine n_if_eq (tgt := 76) hx hb d_M_type_29 (by decide) (by omega) (fun hw9 => ?_) (fun hw9 => absurd hw9 (by decide))
      refine lv_aload_n hx hb d_M_type_76 rfl (lv_at hl 2 rfl) ?_
      refine lv_iload hx hb d_M_type_77 (lv_at hl 1 rfl) ?_
      refine n_if_ne (tgt := 86) hx hb d_M_type_79 (by decide) (by omega) (fun hw9 => absurd hw9 (by decide)) (fun hw9 => ?_)
      refine lv_iconst (v := nI 1) hx hb d_M_type_82 (by decide +kernel) ?_
      refine lv_goto (tgt := 103) hx hb d_M_type_83 (by decide) ?_
      refine wp_Model_code hx hb hC hw bw_817 d_M_type_103 (fun H locs hw => ?_)
      refine lv_aload_n hx hb d_M_type_106 rfl (lv_at hl 2 rfl) ?_
      refine wg_Model_code hx hb hC hw bw_817 d_M_type_107 ?_
      refine sw_i (y := nI 1) (va_up_self _ _ _) ?_
      refine n_if_le (tgt := 115) hx hb d_M_type_110 (by decide) (by omega) (fun hw9 => absurd hw9 (by decide)) (fun hw9 => ?_)
      refine lv_iconst (v := nI 0) hx hb d_M_type_113 (by decide +kernel) ?_
      have hoc9 : tyC n9 N n = 1 := if_neg fun q => absurd g1 (Int32.not_lt.mpr q.1)
      simp only [hoc9, if_neg (by decide : ¬ (1 : Nat) = 0)] at hret
      exact hret _ _ _ _ _ _ _ (hm) hw d_M_type_114
  replace g1 := Int32.not_lt.mp g1
  refine lv_iload_n hx hb d_M_type_5 rfl (lv_at hl 2 rfl) ?_
  refine lv_bipush (v := nI 8) hx hb d_M_type_6 (by decide +kernel) ?_
  refine lv_icmp_gt (tgt := 15) hx hb d_M_type_8 (by decide) (fun g8 => ?_) (fun g8 => ?_)
  · refine lv_iconst (v := nI 0) hx hb d_M_type_15 (by decide +kernel) ?_
    refine lv_istore hx hb d_M_type_16 hl (by decide) rfl (fun ls hl => ?_)
    have hl : lv_has ls 8 [(4, .int (nI 0)), (0, .ref (wa T 91)), (1, .long (lN N)), (3, .int n)] := hl
    refine lv_iconst (v := nI 0) hx hb d_M_type_18 (by decide +kernel) ?_
    refine lv_istore hx hb d_M_type_19 hl (by decide) rfl (fun ls hl => ?_)
    have hl : lv_has ls 8 [(5, .int (nI 0)), (4, .int (nI 0)), (0, .ref (wa T 91)), (1, .long (lN N)), (3, .int n)] := hl
    refine lv_iload hx hb d_M_type_21 (lv_at hl 0 rfl) ?_
    refine lv_iload_n hx hb d_M_type_23 rfl (lv_at hl 4 rfl) ?_
    refine lv_icmp_ge (tgt := 76) hx hb d_M_type_24 (by decide) (fun hq => ?_) (fun hq => ?_)
    · refine lv_aload_n hx hb d_M_type_76 rfl (lv_at hl 2 rfl) ?_
      refine lv_iload hx hb d_M_type_77 (lv_at hl 1 rfl) ?_
      refine n_if_ne (tgt := 86) hx hb d_M_type_79 (by decide) (by omega) (fun hw9 => absurd hw9 (by decide)) (fun hw9 => ?_)
      refine lv_iconst (v := nI 1) hx hb d_M_type_82 (by decide +kernel) ?_
      refine lv_goto (tgt := 103) hx hb d_M_type_83 (by decide) ?_
      refine wp_Model_code hx hb hC hw bw_817 d_M_type_103 (fun H locs hw => ?_)
      refine lv_aload_n hx hb d_M_type_106 rfl (lv_at hl 2 rfl) ?_
      refine wg_Model_code hx hb hC hw bw_817 d_M_type_107 ?_
      refine sw_i (y := nI 1) (va_up_self _ _ _) ?_
      refine n_if_le (tgt := 115) hx hb d_M_type_110 (by decide) (by omega) (fun hw9 => absurd hw9 (by decide)) (fun hw9 => ?_)
      refine lv_iconst (v := nI 0) hx hb d_M_type_113 (by decide +kernel) ?_
      have hoc9 : tyC n9 N n = 1 := if_neg fun q => absurd g8 (Int32.not_lt.mpr q.2.1)
      simp only [hoc9, if_neg (by decide : ¬ (1 : Nat) = 0)] at hret
      exact hret _ _ _ _ _ _ _ (hm) hw d_M_type_114
    · refine lv_iload hx hb d_M_type_27 (lv_at hl 1 rfl) ?_
      refine n_if_eq (tgt := 76) hx hb d_M_type_29 (by decide) (by omega) (fun hw9 => ?_) (fun hw9 => absurd hw9 (by decide))
      refine lv_aload_n hx hb d_M_type_76 rfl (lv_at hl 2 rfl) ?_
      refine lv_iload hx hb d_M_type_77 (lv_at hl 1 rfl) ?_
      refine n_if_ne (tgt := 86) hx hb d_M_type_79 (by decide) (by omega) (fun hw9 => absurd hw9 (by decide)) (fun hw9 => ?_)
      refine lv_iconst (v := nI 1) hx hb d_M_type_82 (by decide +kernel) ?_
      refine lv_goto (tgt := 103) hx hb d_M_type_83 (by decide) ?_
      refine wp_Model_code hx hb hC hw bw_817 d_M_type_103 (fun H locs hw => ?_)
      refine lv_aload_n hx hb d_M_type_106 rfl (lv_at hl 2 rfl) ?_
      refine wg_Model_code hx hb hC hw bw_817 d_M_type_107 ?_
      refine sw_i (y := nI 1) (va_up_self _ _ _) ?_
      refine n_if_le (tgt := 115) hx hb d_M_type_110 (by decide) (by omega) (fun hw9 => absurd hw9 (by decide)) (fun hw9 => ?_)
      refine lv_iconst (v := nI 0) hx hb d_M_type_113 (by decide +kernel) ?_
      have hoc9 : tyC n9 N n = 1 := if_neg fun q => absurd g8 (Int32.not_lt.mpr q.2.1)
      simp only [hoc9, if_neg (by decide : ¬ (1 : Nat) = 0)] at hret
      exact hret _ _ _ _ _ _ _ (hm) hw d_M_type_114
  replace g8 := Int32.not_lt.mp g8
  obtain ⟨k, hk0, hk8, rfl⟩ := in8_nI g1 g8
  have hrk : rg (nI k) = k := rg_k (by omega)
  have hl : lv_has ls 8 [(0, .ref (wa T 91)), (1, .long (lN N)), (3, .int (nI k))] := hl
  refine lv_iconst (v := nI 1) hx hb d_M_type_11 (by decide +kernel) ?_
  refine lv_goto (tgt := 16) hx hb d_M_type_12 (by decide) ?_
  refine lv_istore hx hb d_M_type_16 hl (by decide) rfl (fun ls hl => ?_)
  have hl : lv_has ls 8 [(4, .int (nI 1)), (0, .ref (wa T 91)), (1, .long (lN N)), (3, .int (nI k))] := hl
  refine lv_iconst (v := nI 0) hx hb d_M_type_18 (by decide +kernel) ?_
  refine lv_istore hx hb d_M_type_19 hl (by decide) rfl (fun ls hl => ?_)
  have hl : lv_has ls 8 [(5, .int (nI 0)), (4, .int (nI 1)), (0, .ref (wa T 91)), (1, .long (lN N)), (3, .int (nI k))] := hl
  have lp : ∀ (z9 i : Nat)  (ls : Array Slot) (H : Heap) (locs : List Loc), k - i = z9 → i ≤ k → (∀ j, j < i → 32 ≤ N / 2 ^ (8 * j) % 256 ∧ N / 2 ^ (8 * j) % 256 ≤ 126) →  lv_has ls 8 [(5, .int (nI i)), (4, .int (nI 1)), (0, .ref (wa T 91)), (1, .long (lN N)), (3, .int (nI k))] → wH T F U (va_up K 16 (nI n9)) (gI (va_up I 4 (tI tx)) (dgm M) Z G) O (wA T) s s.heap H locs → W p l e R s m args below meth c H locs 0 0 Q (F0 m 21 ls []) := by
    intro z9
    induction z9 with
    | zero =>
      intro i  ls H locs hn hle h1 hl hw
      refine lv_iload hx hb d_M_type_21 (lv_at hl 0 rfl) ?_
      refine lv_iload_n hx hb d_M_type_23 rfl (lv_at hl 4 rfl) ?_
      refine n_icmp_ge (tgt := 76) hx hb d_M_type_24 (by decide) (by omega) (by omega) (fun h0 => ?_) (fun h0 => ?_)
      · have e9 : k = i := by omega
        have har9 : ∀ j, j < k → 32 ≤ N / 2 ^ (8 * j) % 256 ∧ N / 2 ^ (8 * j) % 256 ≤ 126 := fun j hj => h1 j (by omega)
        have har : arC N k = true := arC_t har9
        refine lv_aload_n hx hb d_M_type_76 rfl (lv_at hl 2 rfl) ?_
        refine lv_iload hx hb d_M_type_77 (lv_at hl 1 rfl) ?_
        refine n_if_ne (tgt := 86) hx hb d_M_type_79 (by decide) (by omega) (fun hw9 => ?_) (fun hw9 => absurd hw9 (by decide))
        refine lv_aload_n hx hb d_M_type_86 rfl (lv_at hl 2 rfl) ?_
        refine wg_Model_length hx hb hC hw bw_821 d_M_type_87 ?_
        refine sw_i (y := nI n9) (va_up_self _ _ _) ?_
        refine lv_iload_n hx hb d_M_type_90 rfl (lv_at hl 4 rfl) ?_
        refine n_iadd hx hb d_M_type_91 ?_
        refine lv_sipush (v := nI 1200) hx hb d_M_type_92 (by decide +kernel) ?_
        refine n_icmp_le (tgt := 102) hx hb d_M_type_95 (by decide) (by omega) (by omega) (fun h12 => ?_) (fun h12 => ?_)
        · have hoc9 : tyC n9 N (nI k) = 0 := by unfold tyC; rw [hrk, if_pos ⟨g1, g8, har⟩, if_pos h12]
          simp only [hoc9, if_pos, hrk] at hret
          refine lv_iconst (v := nI 0) hx hb d_M_type_102 (by decide +kernel) ?_
          refine wp_Model_code hx hb hC hw bw_817 d_M_type_103 (fun H locs hw => ?_)
          refine lv_aload_n hx hb d_M_type_106 rfl (lv_at hl 2 rfl) ?_
          refine wg_Model_code hx hb hC hw bw_817 d_M_type_107 ?_
          refine sw_i (y := nI 0) (va_up_self _ _ _) ?_
          refine n_if_le (tgt := 115) hx hb d_M_type_110 (by decide) (by omega) (fun hw9 => ?_) (fun hw9 => absurd hw9 (by decide))
          refine lv_iload_n hx hb d_M_type_115 rfl (lv_at hl 4 rfl) ?_
          refine lv_iconst (v := nI 1) hx hb d_M_type_116 (by decide +kernel) ?_
          refine lv_isub hx hb d_M_type_117 ?_
          refine sw_i (y := (nI k - 1)) (rfl) ?_
          refine lv_istore hx hb d_M_type_118 hl (by decide) rfl (fun ls hl => ?_)
          have hl : lv_has ls 8 [(5, .int (nI k - 1)), (4, .int (nI 1)), (0, .ref (wa T 91)), (1, .long (lN N)), (3, .int (nI k))] := hl
          have lq : ∀ (q : Nat) (cn : Nat) (t1 : Nat → Nat) (ls : Array Slot) (H : Heap) (locs : List Loc), (cn + q = n9 + k) → (∀ i, t1 i = if n9 ≤ i ∧ i < cn then N / 2 ^ (8 * (k - 1 - (i - n9))) % 256 else tx i) → (q ≤ k) →  lv_has ls 8 [(5, .int (nI q - 1)), (4, .int (nI 1)), (0, .ref (wa T 91)), (1, .long (lN N)), (3, .int (nI k))] → wH T F U (va_up (va_up K 16 (nI cn)) 15 (nI 0)) (gI (va_up I 4 (tI t1)) (dgm M) Z G) O (wA T) s s.heap H locs → W p l e R s m args below meth c H locs 0 0 Q (F0 m 120 ls []) := by
            intro q
            induction q with
            | zero =>
              intro cn t1 ls H locs h1 h2 h3 hl hw
              refine lv_iload hx hb d_M_type_120 (lv_at hl 0 rfl) ?_
              refine d_if_lt (tgt := 162) hx hb d_M_type_122 (by decide) (by omega) (fun h0 => ?_) (fun h0 => ?_)
              · have e1 : t1 = apT tx n9 N k := by funext i; rw [h2 i]; unfold apT; split <;> split <;> first | rfl | omega
                have e2 : cn = n9 + k := by omega
                rw [e1, e2] at hw
                refine lv_aload_n hx hb d_M_type_162 rfl (lv_at hl 2 rfl) ?_
                refine wg_Model_length hx hb hC hw bw_821 d_M_type_163 ?_
                refine sw_i (y := nI (n9 + k)) (n16) ?_
                exact hret _ _ _ _ _ _ _ (hm) hw d_M_type_166
              · exact absurd h0 (by omega)
            | succ r ih =>
              intro cn t1 ls H locs h1 h2 h3 hl hw
              rw [nI_pred] at hl
              have hl : lv_has ls 8 [(5, .int (nI r)), (4, .int (nI 1)), (0, .ref (wa T 91)), (1, .long (lN N)), (3, .int (nI k))] := hl
              refine lv_iload hx hb d_M_type_120 (lv_at hl 0 rfl) ?_
              refine n_if_lt hx hb d_M_type_122 (by decide) (by omega) ?_
              refine lv_aload_n hx hb d_M_type_125 rfl (lv_at hl 2 rfl) ?_
              refine wg_Model_text hx hb hC hw bw_822 d_M_type_126 ?_
              refine lv_aload_n hx hb d_M_type_129 rfl (lv_at hl 2 rfl) ?_
              refine wg_Model_length hx hb hC hw bw_821 d_M_type_130 ?_
              refine sw_i (y := nI cn) (n16) ?_
              refine lv_lload_n hx hb d_M_type_133 rfl (lv_at hl 3 rfl) ?_
              refine lv_bipush (v := nI 8) hx hb d_M_type_134 (by decide +kernel) ?_
              refine lv_iload hx hb d_M_type_136 (lv_at hl 0 rfl) ?_
              refine n_imul hx hb d_M_type_138 ?_
              refine lv_lshr hx hb d_M_type_139 rfl ?_
              refine lv_ldc2 (v := 255) hx hb hC.ow (hC.hts bw_1011) d_M_type_140 ?_
              refine lv_land hx hb d_M_type_143 ?_
              refine sw_l (y := (lN (N / 2 ^ (8 * r) % 256))) (ty_dig hN (by omega)) ?_
              refine lv_l2i hx hb d_M_type_144 rfl ?_
              refine sw_i (y := nI (N / 2 ^ (8 * r) % 256)) (lN_i _) ?_
              refine ws_mtext hx hb hw (by omega) d_M_type_145 (fun H locs hw => ?_)
              rw [show (va_up (gI (va_up I 4 (tI t1)) (dgm M) Z G) 4 (upd ((gI (va_up I 4 (tI t1)) (dgm M) Z G) 4) cn (nI (N / 2 ^ (8 * r) % 256)))) = (gI (va_up I 4 (tI (tU t1 cn (N / 2 ^ (8 * r) % 256)))) (dgm M) Z G) from gI_st] at hw
              refine lv_aload_n hx hb d_M_type_146 rfl (lv_at hl 2 rfl) ?_
              refine lv_dup hx hb d_M_type_147 rfl ?_
              refine wg_Model_length hx hb hC hw bw_821 d_M_type_148 ?_
              refine sw_i (y := nI cn) (n16) ?_
              refine lv_iconst (v := nI 1) hx hb d_M_type_151 (by decide +kernel) ?_
              refine n_iadd hx hb d_M_type_152 ?_
              refine wp_Model_length hx hb hC hw bw_821 d_M_type_153 (fun H locs hw => ?_)
              rw [va_c2 (by decide)] at hw
              refine lv_iinc (v := (nI r - 1)) hx hb d_M_type_156 hl (k := 0) rfl (i32_m1 _) (by decide) rfl (fun ls hl => ?_)
              have hl : lv_has ls 8 [(5, .int (nI r - 1)), (4, .int (nI 1)), (0, .ref (wa T 91)), (1, .long (lN N)), (3, .int (nI k))] := hl
              refine lv_goto (tgt := 120) hx hb d_M_type_159 (by decide) ?_
              exact ih (cn + 1) (tU t1 cn (N / 2 ^ (8 * r) % 256)) ls _ _ (by omega) (fun i => by
                unfold tU
                by_cases e : i = cn
                · rw [if_pos e, if_pos (by omega), show k - 1 - (i - n9) = r by omega]
                · rw [if_neg e, h2 i]; split <;> split <;> first | rfl | omega) (by omega) hl hw
          exact lq k n9 tx ls _ _ (by omega) (fun i => by rw [if_neg (by omega)]) (by omega) hl hw
        · refine lv_iconst (v := nI 2) hx hb d_M_type_98 (by decide +kernel) ?_
          refine lv_goto (tgt := 103) hx hb d_M_type_99 (by decide) ?_
          refine wp_Model_code hx hb hC hw bw_817 d_M_type_103 (fun H locs hw => ?_)
          refine lv_aload_n hx hb d_M_type_106 rfl (lv_at hl 2 rfl) ?_
          refine wg_Model_code hx hb hC hw bw_817 d_M_type_107 ?_
          refine sw_i (y := nI 2) (va_up_self _ _ _) ?_
          refine n_if_le (tgt := 115) hx hb d_M_type_110 (by decide) (by omega) (fun hw9 => absurd hw9 (by decide)) (fun hw9 => ?_)
          refine lv_iconst (v := nI 0) hx hb d_M_type_113 (by decide +kernel) ?_
          have hoc9 : tyC n9 N (nI k) = 2 := (by unfold tyC; rw [hrk, if_pos ⟨g1, g8, har⟩, if_neg (by omega)] : tyC n9 N (nI k) = 2)
          simp only [hoc9, if_neg (by decide : ¬ (2 : Nat) = 0)] at hret
          exact hret _ _ _ _ _ _ _ (hm) hw d_M_type_114
      · exact absurd h0 (by omega)
    | succ z9 ih =>
      intro i  ls H locs hn hle h1 hl hw
      refine lv_iload hx hb d_M_type_21 (lv_at hl 0 rfl) ?_
      refine lv_iload_n hx hb d_M_type_23 rfl (lv_at hl 4 rfl) ?_
      refine n_icmp_ge (tgt := 76) hx hb d_M_type_24 (by decide) (by omega) (by omega) (fun h0 => ?_) (fun h0 => ?_)
      · exact absurd h0 (by omega)
      · refine lv_iload hx hb d_M_type_27 (lv_at hl 1 rfl) ?_
        refine n_if_eq (tgt := 76) hx hb d_M_type_29 (by decide) (by omega) (fun hw9 => absurd hw9 (by decide)) (fun hw9 => ?_)
        have hq : N / 2 ^ (8 * i) % 256 < 256 := Nat.mod_lt _ (by decide)
        refine lv_lload_n hx hb d_M_type_32 rfl (lv_at hl 3 rfl) ?_
        refine lv_bipush (v := nI 8) hx hb d_M_type_33 (by decide +kernel) ?_
        refine lv_iload hx hb d_M_type_35 (lv_at hl 0 rfl) ?_
        refine n_imul hx hb d_M_type_37 ?_
        refine lv_lshr hx hb d_M_type_38 rfl ?_
        refine lv_ldc2 (v := 255) hx hb hC.ow (hC.hts bw_1011) d_M_type_39 ?_
        refine lv_land hx hb d_M_type_42 ?_
        refine sw_l (y := (lN (N / 2 ^ (8 * i) % 256))) (ty_dig hN (by omega)) ?_
        refine lv_lstore hx hb d_M_type_43 hl (by decide) rfl (fun ls hl => ?_)
        have hl : lv_has ls 8 [(6, .long (lN (N / 2 ^ (8 * i) % 256))), (5, .int (nI i)), (4, .int (nI 1)), (0, .ref (wa T 91)), (1, .long (lN N)), (3, .int (nI k))] := hl
        refine lv_lload hx hb d_M_type_45 (lv_at hl 0 rfl) ?_
        refine lv_ldc2 (v := 32) hx hb hC.ow (hC.hts bw_1012) d_M_type_47 ?_
        refine lc_lt (tgt := 67) hx hb d_M_type_50 d_M_type_51 (by decide) (fun h3 => ?_) (fun h3 => ?_)
        · rw [lj_lN (by omega), c32] at h3
          refine lv_iconst (v := nI 0) hx hb d_M_type_67 (by decide +kernel) ?_
          refine lv_istore hx hb d_M_type_68 hl (by decide) rfl (fun ls hl => ?_)
          have hl : lv_has ls 8 [(4, .int (nI 0)), (6, .long (lN (N / 2 ^ (8 * i) % 256))), (5, .int (nI i)), (0, .ref (wa T 91)), (1, .long (lN N)), (3, .int (nI k))] := hl
          refine lv_iinc (v := nI (i + 1)) hx hb d_M_type_70 hl (k := 2) rfl (nI_add _ 1) (by decide) rfl (fun ls hl => ?_)
          have hl : lv_has ls 8 [(5, .int (nI (i + 1))), (4, .int (nI 0)), (6, .long (lN (N / 2 ^ (8 * i) % 256))), (0, .ref (wa T 91)), (1, .long (lN N)), (3, .int (nI k))] := hl
          refine lv_goto (tgt := 21) hx hb d_M_type_73 (by decide) ?_
          refine lv_iload hx hb d_M_type_21 (lv_at hl 0 rfl) ?_
          refine lv_iload_n hx hb d_M_type_23 rfl (lv_at hl 5 rfl) ?_
          refine n_icmp_ge (tgt := 76) hx hb d_M_type_24 (by decide) (by omega) (by omega) (fun hq9 => ?_) (fun hq9 => ?_)
          · refine lv_aload_n hx hb d_M_type_76 rfl (lv_at hl 3 rfl) ?_
            refine lv_iload hx hb d_M_type_77 (lv_at hl 1 rfl) ?_
            refine n_if_ne (tgt := 86) hx hb d_M_type_79 (by decide) (by omega) (fun hw9 => absurd hw9 (by decide)) (fun hw9 => ?_)
            refine lv_iconst (v := nI 1) hx hb d_M_type_82 (by decide +kernel) ?_
            refine lv_goto (tgt := 103) hx hb d_M_type_83 (by decide) ?_
            refine wp_Model_code hx hb hC hw bw_817 d_M_type_103 (fun H locs hw => ?_)
            refine lv_aload_n hx hb d_M_type_106 rfl (lv_at hl 3 rfl) ?_
            refine wg_Model_code hx hb hC hw bw_817 d_M_type_107 ?_
            refine sw_i (y := nI 1) (va_up_self _ _ _) ?_
            refine n_if_le (tgt := 115) hx hb d_M_type_110 (by decide) (by omega) (fun hw9 => absurd hw9 (by decide)) (fun hw9 => ?_)
            refine lv_iconst (v := nI 0) hx hb d_M_type_113 (by decide +kernel) ?_
            have hoc9 : tyC n9 N (nI k) = 1 := (if_neg (fun q => by rw [hrk, arC_f (i := i) (by omega) (by omega)] at q; exact absurd q.2.2 (by decide)) : tyC n9 N (nI k) = 1)
            simp only [hoc9, if_neg (by decide : ¬ (1 : Nat) = 0)] at hret
            exact hret _ _ _ _ _ _ _ (hm) hw d_M_type_114
          · refine lv_iload hx hb d_M_type_27 (lv_at hl 1 rfl) ?_
            refine n_if_eq (tgt := 76) hx hb d_M_type_29 (by decide) (by omega) (fun hw9 => ?_) (fun hw9 => absurd hw9 (by decide))
            refine lv_aload_n hx hb d_M_type_76 rfl (lv_at hl 3 rfl) ?_
            refine lv_iload hx hb d_M_type_77 (lv_at hl 1 rfl) ?_
            refine n_if_ne (tgt := 86) hx hb d_M_type_79 (by decide) (by omega) (fun hw9 => absurd hw9 (by decide)) (fun hw9 => ?_)
            refine lv_iconst (v := nI 1) hx hb d_M_type_82 (by decide +kernel) ?_
            refine lv_goto (tgt := 103) hx hb d_M_type_83 (by decide) ?_
            refine wp_Model_code hx hb hC hw bw_817 d_M_type_103 (fun H locs hw => ?_)
            refine lv_aload_n hx hb d_M_type_106 rfl (lv_at hl 3 rfl) ?_
            refine wg_Model_code hx hb hC hw bw_817 d_M_type_107 ?_
            refine sw_i (y := nI 1) (va_up_self _ _ _) ?_
            refine n_if_le (tgt := 115) hx hb d_M_type_110 (by decide) (by omega) (fun hw9 => absurd hw9 (by decide)) (fun hw9 => ?_)
            refine lv_iconst (v := nI 0) hx hb d_M_type_113 (by decide +kernel) ?_
            have hoc9 : tyC n9 N (nI k) = 1 := (if_neg (fun q => by rw [hrk, arC_f (i := i) (by omega) (by omega)] at q; exact absurd q.2.2 (by decide)) : tyC n9 N (nI k) = 1)
            simp only [hoc9, if_neg (by decide : ¬ (1 : Nat) = 0)] at hret
            exact hret _ _ _ _ _ _ _ (hm) hw d_M_type_114
        · rw [lj_lN (by omega), c32] at h3
          refine lv_lload hx hb d_M_type_54 (lv_at hl 0 rfl) ?_
          refine lv_ldc2 (v := 126) hx hb hC.ow (hC.hts bw_1013) d_M_type_56 ?_
          refine lc_gt (tgt := 67) hx hb d_M_type_59 d_M_type_60 (by decide) (fun h4 => ?_) (fun h4 => ?_)
          · rw [lj_lN (by omega), c126] at h4
            refine lv_iconst (v := nI 0) hx hb d_M_type_67 (by decide +kernel) ?_
            refine lv_istore hx hb d_M_type_68 hl (by decide) rfl (fun ls hl => ?_)
            have hl : lv_has ls 8 [(4, .int (nI 0)), (6, .long (lN (N / 2 ^ (8 * i) % 256))), (5, .int (nI i)), (0, .ref (wa T 91)), (1, .long (lN N)), (3, .int (nI k))] := hl
            refine lv_iinc (v := nI (i + 1)) hx hb d_M_type_70 hl (k := 2) rfl (nI_add _ 1) (by decide) rfl (fun ls hl => ?_)
            have hl : lv_has ls 8 [(5, .int (nI (i + 1))), (4, .int (nI 0)), (6, .long (lN (N / 2 ^ (8 * i) % 256))), (0, .ref (wa T 91)), (1, .long (lN N)), (3, .int (nI k))] := hl
            refine lv_goto (tgt := 21) hx hb d_M_type_73 (by decide) ?_
            refine lv_iload hx hb d_M_type_21 (lv_at hl 0 rfl) ?_
            refine lv_iload_n hx hb d_M_type_23 rfl (lv_at hl 5 rfl) ?_
            refine n_icmp_ge (tgt := 76) hx hb d_M_type_24 (by decide) (by omega) (by omega) (fun hq9 => ?_) (fun hq9 => ?_)
            · refine lv_aload_n hx hb d_M_type_76 rfl (lv_at hl 3 rfl) ?_
              refine lv_iload hx hb d_M_type_77 (lv_at hl 1 rfl) ?_
              refine n_if_ne (tgt := 86) hx hb d_M_type_79 (by decide) (by omega) (fun hw9 => absurd hw9 (by decide)) (fun hw9 => ?_)
              refine lv_iconst (v := nI 1) hx hb d_M_type_82 (by decide +kernel) ?_
              refine lv_goto (tgt := 103) hx hb d_M_type_83 (by decide) ?_
              refine wp_Model_code hx hb hC hw bw_817 d_M_type_103 (fun H locs hw => ?_)
              refine lv_aload_n hx hb d_M_type_106 rfl (lv_at hl 3 rfl) ?_
              refine wg_Model_code hx hb hC hw bw_817 d_M_type_107 ?_
              refine sw_i (y := nI 1) (va_up_self _ _ _) ?_
              refine n_if_le (tgt := 115) hx hb d_M_type_110 (by decide) (by omega) (fun hw9 => absurd hw9 (by decide)) (fun hw9 => ?_)
              refine lv_iconst (v := nI 0) hx hb d_M_type_113 (by decide +kernel) ?_
              have hoc9 : tyC n9 N (nI k) = 1 := (if_neg (fun q => by rw [hrk, arC_f (i := i) (by omega) (by omega)] at q; exact absurd q.2.2 (by decide)) : tyC n9 N (nI k) = 1)
              simp only [hoc9, if_neg (by decide : ¬ (1 : Nat) = 0)] at hret
              exact hret _ _ _ _ _ _ _ (hm) hw d_M_type_114
            · refine lv_iload hx hb d_M_type_27 (lv_at hl 1 rfl) ?_
              refine n_if_eq (tgt := 76) hx hb d_M_type_29 (by decide) (by omega) (fun hw9 => ?_) (fun hw9 => absurd hw9 (by decide))
              refine lv_aload_n hx hb d_M_type_76 rfl (lv_at hl 3 rfl) ?_
              refine lv_iload hx hb d_M_type_77 (lv_at hl 1 rfl) ?_
              refine n_if_ne (tgt := 86) hx hb d_M_type_79 (by decide) (by omega) (fun hw9 => absurd hw9 (by decide)) (fun hw9 => ?_)
              refine lv_iconst (v := nI 1) hx hb d_M_type_82 (by decide +kernel) ?_
              refine lv_goto (tgt := 103) hx hb d_M_type_83 (by decide) ?_
              refine wp_Model_code hx hb hC hw bw_817 d_M_type_103 (fun H locs hw => ?_)
              refine lv_aload_n hx hb d_M_type_106 rfl (lv_at hl 3 rfl) ?_
              refine wg_Model_code hx hb hC hw bw_817 d_M_type_107 ?_
              refine sw_i (y := nI 1) (va_up_self _ _ _) ?_
              refine n_if_le (tgt := 115) hx hb d_M_type_110 (by decide) (by omega) (fun hw9 => absurd hw9 (by decide)) (fun hw9 => ?_)
              refine lv_iconst (v := nI 0) hx hb d_M_type_113 (by decide +kernel) ?_
              have hoc9 : tyC n9 N (nI k) = 1 := (if_neg (fun q => by rw [hrk, arC_f (i := i) (by omega) (by omega)] at q; exact absurd q.2.2 (by decide)) : tyC n9 N (nI k) = 1)
              simp only [hoc9, if_neg (by decide : ¬ (1 : Nat) = 0)] at hret
              exact hret _ _ _ _ _ _ _ (hm) hw d_M_type_114
          · rw [lj_lN (by omega), c126] at h4
            refine lv_iconst (v := nI 1) hx hb d_M_type_63 (by decide +kernel) ?_
            refine lv_goto (tgt := 68) hx hb d_M_type_64 (by decide) ?_
            refine lv_istore hx hb d_M_type_68 hl (by decide) rfl (fun ls hl => ?_)
            have hl : lv_has ls 8 [(4, .int (nI 1)), (6, .long (lN (N / 2 ^ (8 * i) % 256))), (5, .int (nI i)), (0, .ref (wa T 91)), (1, .long (lN N)), (3, .int (nI k))] := hl
            refine lv_iinc (v := nI (i + 1)) hx hb d_M_type_70 hl (k := 2) rfl (nI_add _ 1) (by decide) rfl (fun ls hl => ?_)
            have hl : lv_has ls 8 [(5, .int (nI (i + 1))), (4, .int (nI 1)), (6, .long (lN (N / 2 ^ (8 * i) % 256))), (0, .ref (wa T 91)), (1, .long (lN N)), (3, .int (nI k))] := hl
            refine lv_goto (tgt := 21) hx hb d_M_type_73 (by decide) ?_
            have hl := lv_sub hl [0, 1, 3, 4, 5] rfl
            have hl : lv_has ls 8 [(5, .int (nI (i + 1))), (4, .int (nI 1)), (0, .ref (wa T 91)), (1, .long (lN N)), (3, .int (nI k))] := hl
            exact ih (i + 1) ls _ _ (by omega) (by omega) (fun j hj => by by_cases ej : j = i; exact ej ▸ (by omega); exact h1 j (by omega)) hl hw
  exact lp k 0 ls _ _ (by omega) (by omega) (fun j hj => absurd hj (by omega)) hl hw
