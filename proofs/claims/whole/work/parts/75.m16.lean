/-! the model: parse -/
/-- whether all characters from the sign on are digits below b, as far as i -/
def gdP (tx : Nat → Nat) (n9 : Nat) (b : Int32) (i : Nat) : Prop := sgN n9 tx < n9 ∧ ∀ j, sgN n9 tx ≤ j → j < i → nI (dgN (tx j)) < b
theorem gd_nm {tx : Nat → Nat} {n9 k : Nat} (hk : k ≤ 36) : gdP tx n9 (nI k) n9 ↔ nmB tx n9 k = true := by
  have hd : ∀ c, dgN c < 100 := fun c => by have := dgN_le c; omega
  constructor
  · rintro ⟨h0, h⟩
    exact nmB_t h0 (fun i hi h1 => (nI_ltI (by have := hd (tx i); omega) (by omega)).mp (h i h1 hi))
  · intro h
    refine ⟨?_, fun j h1 h2 => (nI_ltI (by have := hd (tx j); omega) (by omega)).mpr (nmB_d h j h2 h1)⟩
    apply Decidable.byContradiction; intro q
    rw [nmB_f0 q] at h; cases h
theorem sgN_c (n : Nat) (tx : Nat → Nat) : sgN n tx = 0 ∨ sgN n tx = 1 := by unfold sgN; split <;> omega
theorem rd_up {k acc d : Nat} (hk : k ≤ 36) (ha : acc < m1024) (hd : d ≤ 99) : acc * k + d < mM := by
  have h1 : acc * k ≤ acc * 36 := Nat.mul_le_mul_left _ hk
  have h2 := m1024_mM
  have h3 : b20 ^ 53 = b20 ^ 52 * 1048576 := Nat.pow_succ b20 52
  have h4 : b20 ^ 53 ≤ mM := b20_le (by decide)
  have h5 : 0 < m1024 := Nat.pow_pos (by decide)
  omega

set_option maxRecDepth 100000 in
set_option maxHeartbeats 4000000 in
theorem k_M_parse (l : Launch) (T : wT) (F : wFt) (U K : wUt) (I : wIt) (O : wOt) (M Z : Nat → Nat) (G : Nat → Int32) (z : Nat → Int) (hm : mI z M Z G) (n9 : Nat) (tx : Nat → Nat) (hn9 : n9 ≤ 1200) (hK : K 16 = nI n9) (hI : I 4 = tI tx) (ht : ∀ i, tx i < 128) (r b : Int32) : Met l y_M_parse (.code y_M_parse c_M_parse 6 (some .int) :: bg) ({ frames := 2, cells := 0, slots := 0, locals := 49 } : Room) (mP T F U K (gI I (dgm M) Z G) O [.ref (wa T 91), .int r, .int b]) (mQiM T (if psC tx n9 r b = 0 then nI (n9 - sgN n9 tx) else nI 0) (fun M' Z' G' => mI (zF (psC tx n9 r b) (va_up z (rg r) (psW tx n9 (rg b))) z) M' Z' G') F U (va_up (va_up K 16 (nI (if psC tx n9 r b = 0 then 0 else n9))) 15 (nI (psC tx n9 r b))) (va_up I 4 (tI tx)) O) 0 0 (wA T) := by
  refine wM_iM (by decide) (Nat.le_of_ble_eq_true rfl) ?_
  intro p e R s m args below meth c Q ls hx hb hC hRf hRl hret hl hw
  have hRf : 2 ≤ R.frames := hRf
  have hRl : 49 ≤ R.locals := hRl
  have hl : lv_has ls 6 [(0, .ref (wa T 91)), (1, .int r), (2, .int b)] := hl
  rw [show gI I (dgm M) Z G = gI (va_up I 4 (tI tx)) (dgm M) Z G from by rw [← hI, va_upx]] at hw
  have hK0 : va_up K 16 (nI n9) = K := by rw [← hK, va_upx]
  rw [← hK0] at hw
  have c24 : ∀ (ls : Array Slot) (H : Heap) (locs : List Loc), lv_has ls 6 [(3, .int (nI (sgN n9 tx))), (0, .ref (wa T 91)), (1, .int r), (2, .int b)] → wH T F U (va_up K 16 (nI n9)) (gI (va_up I 4 (tI tx)) (dgm M) Z G) O (wA T) s s.heap H locs → W p l e R s m args below meth c H locs 0 0 Q (F0 m 24 ls []) := by
    intro ls H locs hl hw
    have hsl := sgN_len n9 tx
    have hsc := sgN_c n9 tx
    have hd9 : ∀ c, dgN c < 100 := fun c => by have := dgN_le c; omega
    have hl : lv_has ls 6 [(3, .int (nI (sgN n9 tx))), (0, .ref (wa T 91)), (1, .int r), (2, .int b)] := hl
    have c83 : ∀ (gd : Bool) (ls : Array Slot) (H : Heap) (locs : List Loc), (gd = true ↔ gdP tx n9 b n9) → lv_has ls 6 [(4, .int (bI gd)), (3, .int (nI (sgN n9 tx))), (0, .ref (wa T 91)), (1, .int r), (2, .int b)] → wH T F U (va_up K 16 (nI n9)) (gI (va_up I 4 (tI tx)) (dgm M) Z G) O (wA T) s s.heap H locs → W p l e R s m args below meth c H locs 0 0 Q (F0 m 83 ls []) := by
      intro gd ls H locs hgd hl hw
      have hl : lv_has ls 6 [(4, .int (bI gd)), (3, .int (nI (sgN n9 tx))), (0, .ref (wa T 91)), (1, .int r), (2, .int b)] := hl
      refine lv_aload_n hx hb d_M_parse_83 rfl (lv_at hl 2 rfl) ?_
      refine lv_iload_n hx hb d_M_parse_84 rfl (lv_at hl 3 rfl) ?_
      refine wcS_z (As := [.int r]) hx hb hC hw (k_M_is l T F U (va_up K 16 (nI n9)) (gI (va_up I 4 (tI tx)) (dgm M) Z G) O r) lk_M_66 rfl rfl ⟨by show 0 + 1 ≤ R.frames; omega, by show 8 + (1 + 11) + 0 ≤ R.locals; omega⟩ rfl hl.1 rfl (Nat.le_of_ble_eq_true rfl) ⟨Nat.zero_le _, Nat.zero_le _⟩ d_M_parse_85 (fun H locs hw => ?_)
      by_cases h_r : isR r
      rotate_left
      · refine sw_i (y := nI 0) (by rw [decide_eq_false h_r]; rfl) ?_
        refine n_if_ne (tgt := 95) hx hb d_M_parse_88 (by decide) (by omega) (fun hw9 => absurd hw9 (by decide)) (fun hw9 => ?_)
        refine lv_iconst (v := nI 1) hx hb d_M_parse_91 (by decide +kernel) ?_
        refine lv_goto (tgt := 120) hx hb d_M_parse_92 (by decide) ?_
        refine wp_Model_code hx hb hC hw bw_817 d_M_parse_120 (fun H locs hw => ?_)
        refine lv_aload_n hx hb d_M_parse_123 rfl (lv_at hl 2 rfl) ?_
        refine lv_bipush (v := nI 12) hx hb d_M_parse_124 (by decide +kernel) ?_
        refine wcV_v (As := [.int (nI 12)]) hx hb hC hw (k_M_clear l T F U (va_up (va_up K 16 (nI n9)) 15 (nI 1)) (va_up I 4 (tI tx)) O M Z G 12 (by omega)) lk_M_26 rfl rfl ⟨by show 0 + 1 ≤ R.frames; omega, by show 8 + (3 + 11) + 0 ≤ R.locals; omega⟩ (by omega) (we_Model ) rfl rfl hl.1 rfl (Nat.le_of_ble_eq_true rfl) ⟨Nat.zero_le _, Nat.zero_le _⟩ d_M_parse_126 (fun H locs hw => ?_)
        have hm1 : mI z (va_up M 12 0) (va_up Z 12 0) G := hm.out (by omega) (b20_pp 108)
        have hoc9 : psC tx n9 r b = 1 := if_neg h_r
        simp only [hoc9, if_neg (by decide : ¬ (1 : Nat) = 0)] at hret
        refine lv_iload_n hx hb d_M_parse_129 rfl (lv_at hl 1 rfl) ?_
        refine lv_istore hx hb d_M_parse_130 hl (by decide) rfl (fun ls hl => ?_)
        have hl : lv_has ls 6 [(5, .int (nI (sgN n9 tx))), (4, .int (bI gd)), (3, .int (nI (sgN n9 tx))), (0, .ref (wa T 91)), (1, .int r), (2, .int b)] := hl
        refine lv_iload hx hb d_M_parse_132 (lv_at hl 0 rfl) ?_
        refine lv_aload_n hx hb d_M_parse_134 rfl (lv_at hl 3 rfl) ?_
        refine wg_Model_length hx hb hC hw bw_821 d_M_parse_135 ?_
        refine sw_i (y := nI n9) (n16) ?_
        refine n_icmp_ge (tgt := 187) hx hb d_M_parse_138 (by decide) (by omega) (by omega) (fun hq9 => ?_) (fun hq9 => ?_)
        · refine lv_aload_n hx hb d_M_parse_187 rfl (lv_at hl 3 rfl) ?_
          refine wg_Model_code hx hb hC hw bw_817 d_M_parse_188 ?_
          refine sw_i (y := nI 1) (va_up_self _ _ _) ?_
          refine n_if_le (tgt := 196) hx hb d_M_parse_191 (by decide) (by omega) (fun hw9 => absurd hw9 (by decide)) (fun hw9 => ?_)
          refine lv_iconst (v := nI 0) hx hb d_M_parse_194 (by decide +kernel) ?_
          exact hret _ _ _ _ _ _ _ (by rw [zF_n (by decide)]; exact hm1) hw d_M_parse_195
        · refine lv_aload_n hx hb d_M_parse_141 rfl (lv_at hl 3 rfl) ?_
          refine wg_Model_code hx hb hC hw bw_817 d_M_parse_142 ?_
          refine sw_i (y := nI 1) (va_up_self _ _ _) ?_
          refine n_if_ne (tgt := 187) hx hb d_M_parse_145 (by decide) (by omega) (fun hw9 => ?_) (fun hw9 => absurd hw9 (by decide))
          refine lv_aload_n hx hb d_M_parse_187 rfl (lv_at hl 3 rfl) ?_
          refine wg_Model_code hx hb hC hw bw_817 d_M_parse_188 ?_
          refine sw_i (y := nI 1) (va_up_self _ _ _) ?_
          refine n_if_le (tgt := 196) hx hb d_M_parse_191 (by decide) (by omega) (fun hw9 => absurd hw9 (by decide)) (fun hw9 => ?_)
          refine lv_iconst (v := nI 0) hx hb d_M_parse_194 (by decide +kernel) ?_
          exact hret _ _ _ _ _ _ _ (by rw [zF_n (by decide)]; exact hm1) hw d_M_parse_195
      refine sw_i (y := nI 1) (by rw [decide_eq_true h_r]; rfl) ?_
      refine n_if_ne (tgt := 95) hx hb d_M_parse_88 (by decide) (by omega) (fun hw9 => ?_) (fun hw9 => absurd hw9 (by decide))
      refine lv_iload_n hx hb d_M_parse_95 rfl (lv_at hl 4 rfl) ?_
      refine lv_iconst (v := nI 2) hx hb d_M_parse_96 (by decide +kernel) ?_
      refine lv_icmp_lt (tgt := 106) hx hb d_M_parse_97 (by decide) (fun g2 => ?_) (fun g2 => ?_)
      · refine lv_iconst (v := nI 2) hx hb d_M_parse_106 (by decide +kernel) ?_
        refine lv_goto (tgt := 120) hx hb d_M_parse_107 (by decide) ?_
        refine wp_Model_code hx hb hC hw bw_817 d_M_parse_120 (fun H locs hw => ?_)
        refine lv_aload_n hx hb d_M_parse_123 rfl (lv_at hl 2 rfl) ?_
        refine lv_bipush (v := nI 12) hx hb d_M_parse_124 (by decide +kernel) ?_
        refine wcV_v (As := [.int (nI 12)]) hx hb hC hw (k_M_clear l T F U (va_up (va_up K 16 (nI n9)) 15 (nI 2)) (va_up I 4 (tI tx)) O M Z G 12 (by omega)) lk_M_26 rfl rfl ⟨by show 0 + 1 ≤ R.frames; omega, by show 8 + (3 + 11) + 0 ≤ R.locals; omega⟩ (by omega) (we_Model ) rfl rfl hl.1 rfl (Nat.le_of_ble_eq_true rfl) ⟨Nat.zero_le _, Nat.zero_le _⟩ d_M_parse_126 (fun H locs hw => ?_)
        have hm1 : mI z (va_up M 12 0) (va_up Z 12 0) G := hm.out (by omega) (b20_pp 108)
        have hoc9 : psC tx n9 r b = 2 := by unfold psC; rw [if_pos h_r, if_neg (fun q => absurd g2 (Int32.not_lt.mpr q.1))]
        simp only [hoc9, if_neg (by decide : ¬ (2 : Nat) = 0)] at hret
        refine lv_iload_n hx hb d_M_parse_129 rfl (lv_at hl 1 rfl) ?_
        refine lv_istore hx hb d_M_parse_130 hl (by decide) rfl (fun ls hl => ?_)
        have hl : lv_has ls 6 [(5, .int (nI (sgN n9 tx))), (4, .int (bI gd)), (3, .int (nI (sgN n9 tx))), (0, .ref (wa T 91)), (1, .int r), (2, .int b)] := hl
        refine lv_iload hx hb d_M_parse_132 (lv_at hl 0 rfl) ?_
        refine lv_aload_n hx hb d_M_parse_134 rfl (lv_at hl 3 rfl) ?_
        refine wg_Model_length hx hb hC hw bw_821 d_M_parse_135 ?_
        refine sw_i (y := nI n9) (n16) ?_
        refine n_icmp_ge (tgt := 187) hx hb d_M_parse_138 (by decide) (by omega) (by omega) (fun hq9 => ?_) (fun hq9 => ?_)
        · refine lv_aload_n hx hb d_M_parse_187 rfl (lv_at hl 3 rfl) ?_
          refine wg_Model_code hx hb hC hw bw_817 d_M_parse_188 ?_
          refine sw_i (y := nI 2) (va_up_self _ _ _) ?_
          refine n_if_le (tgt := 196) hx hb d_M_parse_191 (by decide) (by omega) (fun hw9 => absurd hw9 (by decide)) (fun hw9 => ?_)
          refine lv_iconst (v := nI 0) hx hb d_M_parse_194 (by decide +kernel) ?_
          exact hret _ _ _ _ _ _ _ (by rw [zF_n (by decide)]; exact hm1) hw d_M_parse_195
        · refine lv_aload_n hx hb d_M_parse_141 rfl (lv_at hl 3 rfl) ?_
          refine wg_Model_code hx hb hC hw bw_817 d_M_parse_142 ?_
          refine sw_i (y := nI 2) (va_up_self _ _ _) ?_
          refine n_if_ne (tgt := 187) hx hb d_M_parse_145 (by decide) (by omega) (fun hw9 => ?_) (fun hw9 => absurd hw9 (by decide))
          refine lv_aload_n hx hb d_M_parse_187 rfl (lv_at hl 3 rfl) ?_
          refine wg_Model_code hx hb hC hw bw_817 d_M_parse_188 ?_
          refine sw_i (y := nI 2) (va_up_self _ _ _) ?_
          refine n_if_le (tgt := 196) hx hb d_M_parse_191 (by decide) (by omega) (fun hw9 => absurd hw9 (by decide)) (fun hw9 => ?_)
          refine lv_iconst (v := nI 0) hx hb d_M_parse_194 (by decide +kernel) ?_
          exact hret _ _ _ _ _ _ _ (by rw [zF_n (by decide)]; exact hm1) hw d_M_parse_195
      refine lv_iload_n hx hb d_M_parse_100 rfl (lv_at hl 4 rfl) ?_
      refine lv_bipush (v := nI 36) hx hb d_M_parse_101 (by decide +kernel) ?_
      refine lv_icmp_le (tgt := 110) hx hb d_M_parse_103 (by decide) (fun g36 => ?_) (fun g36 => ?_)
      rotate_left
      · refine lv_iconst (v := nI 2) hx hb d_M_parse_106 (by decide +kernel) ?_
        refine lv_goto (tgt := 120) hx hb d_M_parse_107 (by decide) ?_
        refine wp_Model_code hx hb hC hw bw_817 d_M_parse_120 (fun H locs hw => ?_)
        refine lv_aload_n hx hb d_M_parse_123 rfl (lv_at hl 2 rfl) ?_
        refine lv_bipush (v := nI 12) hx hb d_M_parse_124 (by decide +kernel) ?_
        refine wcV_v (As := [.int (nI 12)]) hx hb hC hw (k_M_clear l T F U (va_up (va_up K 16 (nI n9)) 15 (nI 2)) (va_up I 4 (tI tx)) O M Z G 12 (by omega)) lk_M_26 rfl rfl ⟨by show 0 + 1 ≤ R.frames; omega, by show 8 + (3 + 11) + 0 ≤ R.locals; omega⟩ (by omega) (we_Model ) rfl rfl hl.1 rfl (Nat.le_of_ble_eq_true rfl) ⟨Nat.zero_le _, Nat.zero_le _⟩ d_M_parse_126 (fun H locs hw => ?_)
        have hm1 : mI z (va_up M 12 0) (va_up Z 12 0) G := hm.out (by omega) (b20_pp 108)
        have hoc9 : psC tx n9 r b = 2 := by unfold psC; rw [if_pos h_r, if_neg (fun q => g36 q.2)]
        simp only [hoc9, if_neg (by decide : ¬ (2 : Nat) = 0)] at hret
        refine lv_iload_n hx hb d_M_parse_129 rfl (lv_at hl 1 rfl) ?_
        refine lv_istore hx hb d_M_parse_130 hl (by decide) rfl (fun ls hl => ?_)
        have hl : lv_has ls 6 [(5, .int (nI (sgN n9 tx))), (4, .int (bI gd)), (3, .int (nI (sgN n9 tx))), (0, .ref (wa T 91)), (1, .int r), (2, .int b)] := hl
        refine lv_iload hx hb d_M_parse_132 (lv_at hl 0 rfl) ?_
        refine lv_aload_n hx hb d_M_parse_134 rfl (lv_at hl 3 rfl) ?_
        refine wg_Model_length hx hb hC hw bw_821 d_M_parse_135 ?_
        refine sw_i (y := nI n9) (n16) ?_
        refine n_icmp_ge (tgt := 187) hx hb d_M_parse_138 (by decide) (by omega) (by omega) (fun hq9 => ?_) (fun hq9 => ?_)
        · refine lv_aload_n hx hb d_M_parse_187 rfl (lv_at hl 3 rfl) ?_
          refine wg_Model_code hx hb hC hw bw_817 d_M_parse_188 ?_
          refine sw_i (y := nI 2) (va_up_self _ _ _) ?_
          refine n_if_le (tgt := 196) hx hb d_M_parse_191 (by decide) (by omega) (fun hw9 => absurd hw9 (by decide)) (fun hw9 => ?_)
          refine lv_iconst (v := nI 0) hx hb d_M_parse_194 (by decide +kernel) ?_
          exact hret _ _ _ _ _ _ _ (by rw [zF_n (by decide)]; exact hm1) hw d_M_parse_195
        · refine lv_aload_n hx hb d_M_parse_141 rfl (lv_at hl 3 rfl) ?_
          refine wg_Model_code hx hb hC hw bw_817 d_M_parse_142 ?_
          refine sw_i (y := nI 2) (va_up_self _ _ _) ?_
          refine n_if_ne (tgt := 187) hx hb d_M_parse_145 (by decide) (by omega) (fun hw9 => ?_) (fun hw9 => absurd hw9 (by decide))
          refine lv_aload_n hx hb d_M_parse_187 rfl (lv_at hl 3 rfl) ?_
          refine wg_Model_code hx hb hC hw bw_817 d_M_parse_188 ?_
          refine sw_i (y := nI 2) (va_up_self _ _ _) ?_
          refine n_if_le (tgt := 196) hx hb d_M_parse_191 (by decide) (by omega) (fun hw9 => absurd hw9 (by decide)) (fun hw9 => ?_)
          refine lv_iconst (v := nI 0) hx hb d_M_parse_194 (by decide +kernel) ?_
          exact hret _ _ _ _ _ _ _ (by rw [zF_n (by decide)]; exact hm1) hw d_M_parse_195
      have h_b : isX b := ⟨Int32.not_lt.mp g2, g36⟩
      obtain ⟨k, hk2, hk36, rfl⟩ := isX_of h_b
      have hrk : rg (nI k) = k := rx_nI hk36
      rw [gd_nm hk36] at hgd
      have hl : lv_has ls 6 [(4, .int (bI gd)), (3, .int (nI (sgN n9 tx))), (0, .ref (wa T 91)), (1, .int r), (2, .int (nI k))] := hl
      cases gd
      · have hl : lv_has ls 6 [(4, .int (nI 0)), (3, .int (nI (sgN n9 tx))), (0, .ref (wa T 91)), (1, .int r), (2, .int (nI k))] := hl
        refine lv_iload hx hb d_M_parse_110 (lv_at hl 0 rfl) ?_
        refine n_if_ne (tgt := 119) hx hb d_M_parse_112 (by decide) (by omega) (fun hw9 => absurd hw9 (by decide)) (fun hw9 => ?_)
        refine lv_iconst (v := nI 3) hx hb d_M_parse_115 (by decide +kernel) ?_
        refine lv_goto (tgt := 120) hx hb d_M_parse_116 (by decide) ?_
        refine wp_Model_code hx hb hC hw bw_817 d_M_parse_120 (fun H locs hw => ?_)
        refine lv_aload_n hx hb d_M_parse_123 rfl (lv_at hl 2 rfl) ?_
        refine lv_bipush (v := nI 12) hx hb d_M_parse_124 (by decide +kernel) ?_
        refine wcV_v (As := [.int (nI 12)]) hx hb hC hw (k_M_clear l T F U (va_up (va_up K 16 (nI n9)) 15 (nI 3)) (va_up I 4 (tI tx)) O M Z G 12 (by omega)) lk_M_26 rfl rfl ⟨by show 0 + 1 ≤ R.frames; omega, by show 8 + (3 + 11) + 0 ≤ R.locals; omega⟩ (by omega) (we_Model ) rfl rfl hl.1 rfl (Nat.le_of_ble_eq_true rfl) ⟨Nat.zero_le _, Nat.zero_le _⟩ d_M_parse_126 (fun H locs hw => ?_)
        have hm1 : mI z (va_up M 12 0) (va_up Z 12 0) G := hm.out (by omega) (b20_pp 108)
        have hoc9 : psC tx n9 r (nI k) = 3 := by unfold psC; rw [if_pos h_r, if_pos h_b, hrk, if_neg (fun q => absurd (hgd.mpr q) (by decide))]
        simp only [hoc9, if_neg (by decide : ¬ (3 : Nat) = 0)] at hret
        refine lv_iload_n hx hb d_M_parse_129 rfl (lv_at hl 1 rfl) ?_
        refine lv_istore hx hb d_M_parse_130 hl (by decide) rfl (fun ls hl => ?_)
        have hl : lv_has ls 6 [(5, .int (nI (sgN n9 tx))), (4, .int (nI 0)), (3, .int (nI (sgN n9 tx))), (0, .ref (wa T 91)), (1, .int r), (2, .int (nI k))] := hl
        refine lv_iload hx hb d_M_parse_132 (lv_at hl 0 rfl) ?_
        refine lv_aload_n hx hb d_M_parse_134 rfl (lv_at hl 3 rfl) ?_
        refine wg_Model_length hx hb hC hw bw_821 d_M_parse_135 ?_
        refine sw_i (y := nI n9) (n16) ?_
        refine n_icmp_ge (tgt := 187) hx hb d_M_parse_138 (by decide) (by omega) (by omega) (fun hq9 => ?_) (fun hq9 => ?_)
        · refine lv_aload_n hx hb d_M_parse_187 rfl (lv_at hl 3 rfl) ?_
          refine wg_Model_code hx hb hC hw bw_817 d_M_parse_188 ?_
          refine sw_i (y := nI 3) (va_up_self _ _ _) ?_
          refine n_if_le (tgt := 196) hx hb d_M_parse_191 (by decide) (by omega) (fun hw9 => absurd hw9 (by decide)) (fun hw9 => ?_)
          refine lv_iconst (v := nI 0) hx hb d_M_parse_194 (by decide +kernel) ?_
          exact hret _ _ _ _ _ _ _ (by rw [zF_n (by decide)]; exact hm1) hw d_M_parse_195
        · refine lv_aload_n hx hb d_M_parse_141 rfl (lv_at hl 3 rfl) ?_
          refine wg_Model_code hx hb hC hw bw_817 d_M_parse_142 ?_
          refine sw_i (y := nI 3) (va_up_self _ _ _) ?_
          refine n_if_ne (tgt := 187) hx hb d_M_parse_145 (by decide) (by omega) (fun hw9 => ?_) (fun hw9 => absurd hw9 (by decide))
          refine lv_aload_n hx hb d_M_parse_187 rfl (lv_at hl 3 rfl) ?_
          refine wg_Model_code hx hb hC hw bw_817 d_M_parse_188 ?_
          refine sw_i (y := nI 3) (va_up_self _ _ _) ?_
          refine n_if_le (tgt := 196) hx hb d_M_parse_191 (by decide) (by omega) (fun hw9 => absurd hw9 (by decide)) (fun hw9 => ?_)
          refine lv_iconst (v := nI 0) hx hb d_M_parse_194 (by decide +kernel) ?_
          exact hret _ _ _ _ _ _ _ (by rw [zF_n (by decide)]; exact hm1) hw d_M_parse_195
      · have hl : lv_has ls 6 [(4, .int (nI 1)), (3, .int (nI (sgN n9 tx))), (0, .ref (wa T 91)), (1, .int r), (2, .int (nI k))] := hl
        have hnm := hgd.mp rfl
        obtain ⟨x, hx9, rfl⟩ := isR_of h_r
        rw [hrk] at hret
        have hl : lv_has ls 6 [(4, .int (nI 1)), (3, .int (nI (sgN n9 tx))), (0, .ref (wa T 91)), (1, .int (nI x)), (2, .int (nI k))] := hl
        refine lv_iload hx hb d_M_parse_110 (lv_at hl 0 rfl) ?_
        refine n_if_ne (tgt := 119) hx hb d_M_parse_112 (by decide) (by omega) (fun hw9 => ?_) (fun hw9 => absurd hw9 (by decide))
        refine lv_iconst (v := nI 0) hx hb d_M_parse_119 (by decide +kernel) ?_
        refine wp_Model_code hx hb hC hw bw_817 d_M_parse_120 (fun H locs hw => ?_)
        refine lv_aload_n hx hb d_M_parse_123 rfl (lv_at hl 2 rfl) ?_
        refine lv_bipush (v := nI 12) hx hb d_M_parse_124 (by decide +kernel) ?_
        refine wcV_v (As := [.int (nI 12)]) hx hb hC hw (k_M_clear l T F U (va_up (va_up K 16 (nI n9)) 15 (nI 0)) (va_up I 4 (tI tx)) O M Z G 12 (by omega)) lk_M_26 rfl rfl ⟨by show 0 + 1 ≤ R.frames; omega, by show 8 + (3 + 11) + 0 ≤ R.locals; omega⟩ (by omega) (we_Model ) rfl rfl hl.1 rfl (Nat.le_of_ble_eq_true rfl) ⟨Nat.zero_le _, Nat.zero_le _⟩ d_M_parse_126 (fun H locs hw => ?_)
        refine lv_iload_n hx hb d_M_parse_129 rfl (lv_at hl 1 rfl) ?_
        refine lv_istore hx hb d_M_parse_130 hl (by decide) rfl (fun ls hl => ?_)
        have hl : lv_has ls 6 [(5, .int (nI (sgN n9 tx))), (4, .int (nI 1)), (3, .int (nI (sgN n9 tx))), (0, .ref (wa T 91)), (1, .int (nI x)), (2, .int (nI k))] := hl
        have hl := lv_sub hl [0, 2, 3, 4, 5] rfl
        have hl : lv_has ls 6 [(5, .int (nI (sgN n9 tx))), (3, .int (nI (sgN n9 tx))), (0, .ref (wa T 91)), (1, .int (nI x)), (2, .int (nI k))] := hl
        have hps : psC tx n9 (nI x) (nI k) = if rdW tx n9 k < m1024 then 0 else 4 := by unfold psC; rw [if_pos h_r, if_pos h_b, hrk, if_pos hnm]
        have lp : ∀ (z9 i : Nat) (M9 Z9 : Nat → Nat) (ls : Array Slot) (H : Heap) (locs : List Loc), n9 - i = z9 → i ≤ n9 → sgN n9 tx ≤ i → mI z M9 Z9 G → Z9 12 = lnM (M9 12) → M9 12 < m1024 → rdS tx k (n9 - i) i (M9 12) = rdW tx n9 k → lv_has ls 6 [(5, .int (nI i)), (3, .int (nI (sgN n9 tx))), (0, .ref (wa T 91)), (1, .int (nI x)), (2, .int (nI k))] → wH T F U (va_up (va_up K 16 (nI n9)) 15 (nI 0)) (gI (va_up I 4 (tI tx)) (dgm M9) Z9 G) O (wA T) s s.heap H locs → W p l e R s m args below meth c H locs 0 0 Q (F0 m 132 ls []) := by
          intro z9
          induction z9 with
          | zero =>
            intro i M9 Z9 ls H locs hz9 hle hsi h1 h2 h3 h4 hl hw
            have hl : lv_has ls 6 [(5, .int (nI i)), (3, .int (nI (sgN n9 tx))), (0, .ref (wa T 91)), (1, .int (nI x)), (2, .int (nI k))] := hl
            refine lv_iload hx hb d_M_parse_132 (lv_at hl 0 rfl) ?_
            refine lv_aload_n hx hb d_M_parse_134 rfl (lv_at hl 2 rfl) ?_
            refine wg_Model_length hx hb hC hw bw_821 d_M_parse_135 ?_
            refine sw_i (y := nI n9) (n16) ?_
            refine n_icmp_ge (tgt := 187) hx hb d_M_parse_138 (by decide) (by omega) (by omega) (fun h0 => ?_) (fun h0 => ?_)
            · have e9 : i = n9 := by omega
              rw [e9, Nat.sub_self, rdS_0] at h4
              have hoc9 : psC tx n9 (nI x) (nI k) = 0 := by rw [hps, if_pos (by rw [← h4]; exact h3)]
              simp only [hoc9, if_pos] at hret
              rw [rg_nI hx9, zF_0 rfl] at hret
              refine lv_aload_n hx hb d_M_parse_187 rfl (lv_at hl 2 rfl) ?_
              refine wg_Model_code hx hb hC hw bw_817 d_M_parse_188 ?_
              refine sw_i (y := nI 0) (va_up_self _ _ _) ?_
              refine n_if_le (tgt := 196) hx hb d_M_parse_191 (by decide) (by omega) (fun hw9 => ?_) (fun hw9 => absurd hw9 (by decide))
              refine lv_aload_n hx hb d_M_parse_196 rfl (lv_at hl 2 rfl) ?_
              refine lv_bipush (v := nI 12) hx hb d_M_parse_197 (by decide +kernel) ?_
              refine lv_iload_n hx hb d_M_parse_199 rfl (lv_at hl 3 rfl) ?_
              refine lv_iload_n hx hb d_M_parse_200 rfl (lv_at hl 1 rfl) ?_
              refine lv_iconst (v := nI 1) hx hb d_M_parse_201 (by decide +kernel) ?_
              refine n_icmp_ne (tgt := 209) hx hb d_M_parse_202 (by decide) (by omega) (by omega) (fun hsg => ?_) (fun hsg => ?_)
              · have hb9 : decide (sgN n9 tx = 1) = false := decide_eq_false hsg
                have hw9 : psW tx n9 k = sgI false (rdW tx n9 k) := by unfold psW; rw [hb9]
                have ha9 : M9 12 = (psW tx n9 k).natAbs := by rw [hw9, sgI_abs]; exact h4
                refine lv_iconst (v := nI 1) hx hb d_M_parse_209 (by decide +kernel) ?_
                refine wcV_v (As := [.int (nI 12), .int (nI x), .int (nI 1)]) hx hb hC hw (k_M_store l T F U (va_up (va_up K 16 (nI n9)) 15 (nI 0)) (va_up I 4 (tI tx)) O M9 Z9 G 12 x (nI 1) (by omega) (by omega) (by rw [h2]; exact lnM_le _)) lk_M_73 rfl rfl ⟨by show 1 + 1 ≤ R.frames; omega, by show 8 + (4 + 11) + 23 ≤ R.locals; omega⟩ (by omega) (we_Model ) rfl rfl hl.1 rfl (Nat.le_of_ble_eq_true rfl) ⟨Nat.zero_le _, Nat.zero_le _⟩ d_M_parse_210 (fun H locs hw => ?_)
                refine lv_aload_n hx hb d_M_parse_213 rfl (lv_at hl 2 rfl) ?_
                refine wg_Model_length hx hb hC hw bw_821 d_M_parse_214 ?_
                refine sw_i (y := nI n9) (n16) ?_
                refine lv_iload_n hx hb d_M_parse_217 rfl (lv_at hl 1 rfl) ?_
                refine n_isub hx hb d_M_parse_218 (by omega) ?_
                refine lv_istore hx hb d_M_parse_219 hl (by decide) rfl (fun ls hl => ?_)
                have hl : lv_has ls 6 [(5, .int (nI (n9 - (sgN n9 tx)))), (3, .int (nI (sgN n9 tx))), (0, .ref (wa T 91)), (1, .int (nI x)), (2, .int (nI k))] := hl
                refine lv_aload_n hx hb d_M_parse_221 rfl (lv_at hl 2 rfl) ?_
                refine lv_iconst (v := nI 0) hx hb d_M_parse_222 (by decide +kernel) ?_
                refine wp_Model_length hx hb hC hw bw_821 d_M_parse_223 (fun H locs hw => ?_)
                rw [va_c2 (by decide)] at hw
                refine lv_iload hx hb d_M_parse_226 (lv_at hl 0 rfl) ?_
                exact hret _ _ _ _ _ _ _ (h1.store hx9 (by omega) ha9 h2 (by rw [← ha9]; exact h3) (fun h => by rw [hw9] at h ⊢; rw [sg_sgI h]; rfl)) hw d_M_parse_228
              · have hb9 : decide (sgN n9 tx = 1) = true := decide_eq_true hsg
                have hw9 : psW tx n9 k = sgI true (rdW tx n9 k) := by unfold psW; rw [hb9]
                have ha9 : M9 12 = (psW tx n9 k).natAbs := by rw [hw9, sgI_abs]; exact h4
                refine lv_iconst (v := (-1)) hx hb d_M_parse_205 (by decide +kernel) ?_
                refine lv_goto (tgt := 210) hx hb d_M_parse_206 (by decide) ?_
                refine wcV_v (As := [.int (nI 12), .int (nI x), .int (-1)]) hx hb hC hw (k_M_store l T F U (va_up (va_up K 16 (nI n9)) 15 (nI 0)) (va_up I 4 (tI tx)) O M9 Z9 G 12 x (-1) (by omega) (by omega) (by rw [h2]; exact lnM_le _)) lk_M_73 rfl rfl ⟨by show 1 + 1 ≤ R.frames; omega, by show 8 + (4 + 11) + 23 ≤ R.locals; omega⟩ (by omega) (we_Model ) rfl rfl hl.1 rfl (Nat.le_of_ble_eq_true rfl) ⟨Nat.zero_le _, Nat.zero_le _⟩ d_M_parse_210 (fun H locs hw => ?_)
                refine lv_aload_n hx hb d_M_parse_213 rfl (lv_at hl 2 rfl) ?_
                refine wg_Model_length hx hb hC hw bw_821 d_M_parse_214 ?_
                refine sw_i (y := nI n9) (n16) ?_
                refine lv_iload_n hx hb d_M_parse_217 rfl (lv_at hl 1 rfl) ?_
                refine n_isub hx hb d_M_parse_218 (by omega) ?_
                refine lv_istore hx hb d_M_parse_219 hl (by decide) rfl (fun ls hl => ?_)
                have hl : lv_has ls 6 [(5, .int (nI (n9 - (sgN n9 tx)))), (3, .int (nI (sgN n9 tx))), (0, .ref (wa T 91)), (1, .int (nI x)), (2, .int (nI k))] := hl
                refine lv_aload_n hx hb d_M_parse_221 rfl (lv_at hl 2 rfl) ?_
                refine lv_iconst (v := nI 0) hx hb d_M_parse_222 (by decide +kernel) ?_
                refine wp_Model_length hx hb hC hw bw_821 d_M_parse_223 (fun H locs hw => ?_)
                rw [va_c2 (by decide)] at hw
                refine lv_iload hx hb d_M_parse_226 (lv_at hl 0 rfl) ?_
                exact hret _ _ _ _ _ _ _ (h1.store hx9 (by omega) ha9 h2 (by rw [← ha9]; exact h3) (fun h => by rw [hw9] at h ⊢; rw [sg_sgI h]; rfl)) hw d_M_parse_228
            · exact absurd h0 (by omega)
          | succ z9 ih =>
            intro i M9 Z9 ls H locs hz9 hle hsi h1 h2 h3 h4 hl hw
            have hl : lv_has ls 6 [(5, .int (nI i)), (3, .int (nI (sgN n9 tx))), (0, .ref (wa T 91)), (1, .int (nI x)), (2, .int (nI k))] := hl
            refine lv_iload hx hb d_M_parse_132 (lv_at hl 0 rfl) ?_
            refine lv_aload_n hx hb d_M_parse_134 rfl (lv_at hl 2 rfl) ?_
            refine wg_Model_length hx hb hC hw bw_821 d_M_parse_135 ?_
            refine sw_i (y := nI n9) (n16) ?_
            refine n_icmp_ge (tgt := 187) hx hb d_M_parse_138 (by decide) (by omega) (by omega) (fun h0 => ?_) (fun h0 => ?_)
            · exact absurd h0 (by omega)
            · have hdi := hd9 (tx i)
              rw [show n9 - i = (n9 - (i + 1)) + 1 by omega, rdS_s h3] at h4
              have hup := rd_up (acc := M9 12) (d := dgN (tx i)) hk36 h3 (by omega)
              refine lv_aload_n hx hb d_M_parse_141 rfl (lv_at hl 2 rfl) ?_
              refine wg_Model_code hx hb hC hw bw_817 d_M_parse_142 ?_
              refine sw_i (y := nI 0) (va_up_self _ _ _) ?_
              refine n_if_ne (tgt := 187) hx hb d_M_parse_145 (by decide) (by omega) (fun hw9 => absurd hw9 (by decide)) (fun hw9 => ?_)
              refine lv_aload_n hx hb d_M_parse_148 rfl (lv_at hl 2 rfl) ?_
              refine lv_iload_n hx hb d_M_parse_149 rfl (lv_at hl 4 rfl) ?_
              refine lv_aload_n hx hb d_M_parse_150 rfl (lv_at hl 2 rfl) ?_
              refine wg_Model_text hx hb hC hw bw_822 d_M_parse_151 ?_
              refine lv_iload hx hb d_M_parse_154 (lv_at hl 0 rfl) ?_
              refine wl_mtext hx hb hw (by omega) d_M_parse_156 ?_
              refine sw_i (y := nI (tx i)) (rfl) ?_
              refine wcS_i (As := [.int (nI (tx i))]) hx hb hC hw (k_M_digit l T F U (va_up (va_up K 16 (nI n9)) 15 (nI 0)) (gI (va_up I 4 (tI tx)) (dgm M9) Z9 G) O (tx i) (ht i)) lk_M_130 rfl rfl ⟨by show 0 + 1 ≤ R.frames; omega, by show 8 + (1 + 11) + 0 ≤ R.locals; omega⟩ rfl hl.1 rfl (Nat.le_of_ble_eq_true rfl) ⟨Nat.zero_le _, Nat.zero_le _⟩ d_M_parse_157 (fun H locs hw => ?_)
              refine wcV_v (As := [.int (nI k), .int (nI (dgN (tx i)))]) hx hb hC hw (k_M_grow l T F U (va_up (va_up K 16 (nI n9)) 15 (nI 0)) (va_up I 4 (tI tx)) O M9 Z9 G k (dgN (tx i)) hk36 (by omega) hup) lk_M_133 rfl rfl ⟨by show 1 + 1 ≤ R.frames; omega, by show 8 + (8 + 11) + 22 ≤ R.locals; omega⟩ (by omega) (we_Model ) rfl rfl hl.1 rfl (Nat.le_of_ble_eq_true rfl) ⟨Nat.zero_le _, Nat.zero_le _⟩ d_M_parse_160 (fun H locs hw => ?_)
              have hm1 : mI z (va_up M9 12 (M9 12 * k + dgN (tx i))) (va_up Z9 12 (lnM (M9 12 * k + dgN (tx i)))) G := h1.out (by omega) hup
              have n12 : (va_up M9 12 (M9 12 * k + dgN (tx i))) 12 = M9 12 * k + dgN (tx i) := va_up_self _ _ _
              have z12 : (va_up Z9 12 (lnM (M9 12 * k + dgN (tx i)))) 12 = lnM ((va_up M9 12 (M9 12 * k + dgN (tx i))) 12) := by rw [va_up_self, va_up_self]
              generalize (va_up M9 12 (M9 12 * k + dgN (tx i))) = M1 at hw hm1 n12 z12
              generalize (va_up Z9 12 (lnM (M9 12 * k + dgN (tx i)))) = Z1 at hw hm1 z12
              refine lv_aload_n hx hb d_M_parse_163 rfl (lv_at hl 2 rfl) ?_
              refine lv_aload_n hx hb d_M_parse_164 rfl (lv_at hl 2 rfl) ?_
              refine lv_bipush (v := nI 12) hx hb d_M_parse_165 (by decide +kernel) ?_
              refine wcV_z (As := [.int (nI 12)]) hx hb hC hw (k_M_isGreat l T F U (va_up (va_up K 16 (nI n9)) 15 (nI 0)) (va_up I 4 (tI tx)) O M1 Z1 G 12 (by omega) z12 (hm1.2 12 (by omega))) lk_M_70 rfl rfl ⟨by show 0 + 1 ≤ R.frames; omega, by show 8 + (2 + 11) + 0 ≤ R.locals; omega⟩ (by omega) (we_Model ) rfl rfl hl.1 rfl (Nat.le_of_ble_eq_true rfl) ⟨Nat.zero_le _, Nat.zero_le _⟩ d_M_parse_167 (fun H locs hw => ?_)
              rw [← n12] at h4
              by_cases hf : M1 12 < m1024
              · refine sw_i (y := nI 0) (by rw [decide_eq_false (fun q => q hf)]; rfl) ?_
                refine n_if_eq (tgt := 177) hx hb d_M_parse_170 (by decide) (by omega) (fun hw9 => ?_) (fun hw9 => absurd hw9 (by decide))
                refine lv_iconst (v := nI 0) hx hb d_M_parse_177 (by decide +kernel) ?_
                refine wp_Model_code hx hb hC hw bw_817 d_M_parse_178 (fun H locs hw => ?_)
                rw [va_v2] at hw
                refine lv_iinc (v := nI (i + 1)) hx hb d_M_parse_181 hl (k := 0) rfl (nI_add _ 1) (by decide) rfl (fun ls hl => ?_)
                have hl : lv_has ls 6 [(5, .int (nI (i + 1))), (3, .int (nI (sgN n9 tx))), (0, .ref (wa T 91)), (1, .int (nI x)), (2, .int (nI k))] := hl
                refine lv_goto (tgt := 132) hx hb d_M_parse_184 (by decide) ?_
                exact ih (i + 1) M1 Z1 ls _ _ (by omega) (by omega) (by omega) hm1 z12 hf h4 hl hw
              · refine sw_i (y := nI 1) (by rw [decide_eq_true hf]; rfl) ?_
                refine n_if_eq (tgt := 177) hx hb d_M_parse_170 (by decide) (by omega) (fun hw9 => absurd hw9 (by decide)) (fun hw9 => ?_)
                rw [rdS_n hf] at h4
                have hoc9 : psC tx n9 (nI x) (nI k) = 4 := by rw [hps, if_neg (by rw [← h4]; exact hf)]
                simp only [hoc9, if_neg (by decide : ¬ (4 : Nat) = 0)] at hret
                refine lv_iconst (v := nI 4) hx hb d_M_parse_173 (by decide +kernel) ?_
                refine lv_goto (tgt := 178) hx hb d_M_parse_174 (by decide) ?_
                refine wp_Model_code hx hb hC hw bw_817 d_M_parse_178 (fun H locs hw => ?_)
                rw [va_v2] at hw
                refine lv_iinc (v := nI (i + 1)) hx hb d_M_parse_181 hl (k := 0) rfl (nI_add _ 1) (by decide) rfl (fun ls hl => ?_)
                have hl : lv_has ls 6 [(5, .int (nI (i + 1))), (3, .int (nI (sgN n9 tx))), (0, .ref (wa T 91)), (1, .int (nI x)), (2, .int (nI k))] := hl
                refine lv_goto (tgt := 132) hx hb d_M_parse_184 (by decide) ?_
                refine lv_iload hx hb d_M_parse_132 (lv_at hl 0 rfl) ?_
                refine lv_aload_n hx hb d_M_parse_134 rfl (lv_at hl 2 rfl) ?_
                refine wg_Model_length hx hb hC hw bw_821 d_M_parse_135 ?_
                refine sw_i (y := nI n9) (n16) ?_
                refine n_icmp_ge (tgt := 187) hx hb d_M_parse_138 (by decide) (by omega) (by omega) (fun hq9 => ?_) (fun hq9 => ?_)
                · refine lv_aload_n hx hb d_M_parse_187 rfl (lv_at hl 2 rfl) ?_
                  refine wg_Model_code hx hb hC hw bw_817 d_M_parse_188 ?_
                  refine sw_i (y := nI 4) (va_up_self _ _ _) ?_
                  refine n_if_le (tgt := 196) hx hb d_M_parse_191 (by decide) (by omega) (fun hw9 => absurd hw9 (by decide)) (fun hw9 => ?_)
                  refine lv_iconst (v := nI 0) hx hb d_M_parse_194 (by decide +kernel) ?_
                  exact hret _ _ _ _ _ _ _ (by rw [zF_n (by decide)]; exact hm1) hw d_M_parse_195
                · refine lv_aload_n hx hb d_M_parse_141 rfl (lv_at hl 2 rfl) ?_
                  refine wg_Model_code hx hb hC hw bw_817 d_M_parse_142 ?_
                  refine sw_i (y := nI 4) (va_up_self _ _ _) ?_
                  refine n_if_ne (tgt := 187) hx hb d_M_parse_145 (by decide) (by omega) (fun hw9 => ?_) (fun hw9 => absurd hw9 (by decide))
                  refine lv_aload_n hx hb d_M_parse_187 rfl (lv_at hl 2 rfl) ?_
                  refine wg_Model_code hx hb hC hw bw_817 d_M_parse_188 ?_
                  refine sw_i (y := nI 4) (va_up_self _ _ _) ?_
                  refine n_if_le (tgt := 196) hx hb d_M_parse_191 (by decide) (by omega) (fun hw9 => absurd hw9 (by decide)) (fun hw9 => ?_)
                  refine lv_iconst (v := nI 0) hx hb d_M_parse_194 (by decide +kernel) ?_
                  exact hret _ _ _ _ _ _ _ (by rw [zF_n (by decide)]; exact hm1) hw d_M_parse_195
        exact lp (n9 - sgN n9 tx) (sgN n9 tx) (va_up M 12 0) (va_up Z 12 0) ls _ _ rfl hsl (Nat.le_refl _) (hm.out (by omega) (b20_pp 108)) (by rw [va_up_self, va_up_self, lnM_0]) (by rw [va_up_self]; exact Nat.pow_pos (by decide)) (by rw [va_up_self]; rfl) hl hw
    have lg : ∀ (z9 i : Nat) (gd : Bool) (ls : Array Slot) (H : Heap) (locs : List Loc), n9 - i = z9 → i ≤ n9 → sgN n9 tx ≤ i → (gd = true ↔ gdP tx n9 b i) → lv_has ls 6 [(5, .int (nI i)), (4, .int (bI gd)), (3, .int (nI (sgN n9 tx))), (0, .ref (wa T 91)), (1, .int r), (2, .int b)] → wH T F U (va_up K 16 (nI n9)) (gI (va_up I 4 (tI tx)) (dgm M) Z G) O (wA T) s s.heap H locs → W p l e R s m args below meth c H locs 0 0 Q (F0 m 42 ls []) := by
      intro z9
      induction z9 with
      | zero =>
        intro i gd ls H locs hz9 hle hsi hgd hl hw
        have hl : lv_has ls 6 [(5, .int (nI i)), (4, .int (bI gd)), (3, .int (nI (sgN n9 tx))), (0, .ref (wa T 91)), (1, .int r), (2, .int b)] := hl
        refine lv_iload hx hb d_M_parse_42 (lv_at hl 0 rfl) ?_
        refine lv_aload_n hx hb d_M_parse_44 rfl (lv_at hl 3 rfl) ?_
        refine wg_Model_length hx hb hC hw bw_821 d_M_parse_45 ?_
        refine sw_i (y := nI n9) (va_up_self _ _ _) ?_
        refine n_icmp_ge (tgt := 83) hx hb d_M_parse_48 (by decide) (by omega) (by omega) (fun h0 => ?_) (fun h0 => ?_)
        · have e9 : i = n9 := by omega
          rw [e9] at hgd
          have hl := lv_sub hl [1, 2, 3, 4, 5] rfl
          have hl : lv_has ls 6 [(4, .int (bI gd)), (3, .int (nI (sgN n9 tx))), (0, .ref (wa T 91)), (1, .int r), (2, .int b)] := hl
          exact c83 gd ls _ _ hgd hl hw
        · exact absurd h0 (by omega)
      | succ z9 ih =>
        intro i gd ls H locs hz9 hle hsi hgd hl hw
        have hl : lv_has ls 6 [(5, .int (nI i)), (4, .int (bI gd)), (3, .int (nI (sgN n9 tx))), (0, .ref (wa T 91)), (1, .int r), (2, .int b)] := hl
        refine lv_iload hx hb d_M_parse_42 (lv_at hl 0 rfl) ?_
        refine lv_aload_n hx hb d_M_parse_44 rfl (lv_at hl 3 rfl) ?_
        refine wg_Model_length hx hb hC hw bw_821 d_M_parse_45 ?_
        refine sw_i (y := nI n9) (va_up_self _ _ _) ?_
        refine n_icmp_ge (tgt := 83) hx hb d_M_parse_48 (by decide) (by omega) (by omega) (fun h0 => ?_) (fun h0 => ?_)
        · exact absurd h0 (by omega)
        · cases gd
          · have hl : lv_has ls 6 [(5, .int (nI i)), (4, .int (nI 0)), (3, .int (nI (sgN n9 tx))), (0, .ref (wa T 91)), (1, .int r), (2, .int b)] := hl
            refine lv_iload hx hb d_M_parse_51 (lv_at hl 1 rfl) ?_
            refine n_if_eq (tgt := 74) hx hb d_M_parse_53 (by decide) (by omega) (fun hw9 => ?_) (fun hw9 => absurd hw9 (by decide))
            refine lv_iconst (v := nI 0) hx hb d_M_parse_74 (by decide +kernel) ?_
            refine sw_i (y := (bI false)) (rfl) ?_
            refine lv_istore hx hb d_M_parse_75 hl (by decide) rfl (fun ls hl => ?_)
            have hl : lv_has ls 6 [(4, .int (bI false)), (5, .int (nI i)), (3, .int (nI (sgN n9 tx))), (0, .ref (wa T 91)), (1, .int r), (2, .int b)] := hl
            refine lv_iinc (v := nI (i + 1)) hx hb d_M_parse_77 hl (k := 1) rfl (nI_add _ 1) (by decide) rfl (fun ls hl => ?_)
            have hl : lv_has ls 6 [(5, .int (nI (i + 1))), (4, .int (bI false)), (3, .int (nI (sgN n9 tx))), (0, .ref (wa T 91)), (1, .int r), (2, .int b)] := hl
            refine lv_goto (tgt := 42) hx hb d_M_parse_80 (by decide) ?_
            exact ih (i + 1) false ls _ _ (by omega) (by omega) (by omega) (⟨fun q => absurd q (by decide), fun q => hgd.mpr ⟨q.1, fun j h1 h2 => q.2 j h1 (by omega)⟩⟩) hl hw
          · have hl : lv_has ls 6 [(5, .int (nI i)), (4, .int (nI 1)), (3, .int (nI (sgN n9 tx))), (0, .ref (wa T 91)), (1, .int r), (2, .int b)] := hl
            have hg1 := hgd.mp rfl
            refine lv_iload hx hb d_M_parse_51 (lv_at hl 1 rfl) ?_
            refine n_if_eq (tgt := 74) hx hb d_M_parse_53 (by decide) (by omega) (fun hw9 => absurd hw9 (by decide)) (fun hw9 => ?_)
            refine lv_aload_n hx hb d_M_parse_56 rfl (lv_at hl 3 rfl) ?_
            refine wg_Model_text hx hb hC hw bw_822 d_M_parse_57 ?_
            refine lv_iload hx hb d_M_parse_60 (lv_at hl 0 rfl) ?_
            refine wl_mtext hx hb hw (by omega) d_M_parse_62 ?_
            refine sw_i (y := nI (tx i)) (rfl) ?_
            refine wcS_i (As := [.int (nI (tx i))]) hx hb hC hw (k_M_digit l T F U (va_up K 16 (nI n9)) (gI (va_up I 4 (tI tx)) (dgm M) Z G) O (tx i) (ht i)) lk_M_130 rfl rfl ⟨by show 0 + 1 ≤ R.frames; omega, by show 8 + (1 + 11) + 0 ≤ R.locals; omega⟩ rfl hl.1 rfl (Nat.le_of_ble_eq_true rfl) ⟨Nat.zero_le _, Nat.zero_le _⟩ d_M_parse_63 (fun H locs hw => ?_)
            refine lv_iload_n hx hb d_M_parse_66 rfl (lv_at hl 5 rfl) ?_
            refine lv_icmp_ge (tgt := 74) hx hb d_M_parse_67 (by decide) (fun h5 => ?_) (fun h5 => ?_)
            · refine lv_iconst (v := nI 0) hx hb d_M_parse_74 (by decide +kernel) ?_
              refine sw_i (y := (bI false)) (rfl) ?_
              refine lv_istore hx hb d_M_parse_75 hl (by decide) rfl (fun ls hl => ?_)
              have hl : lv_has ls 6 [(4, .int (bI false)), (5, .int (nI i)), (3, .int (nI (sgN n9 tx))), (0, .ref (wa T 91)), (1, .int r), (2, .int b)] := hl
              refine lv_iinc (v := nI (i + 1)) hx hb d_M_parse_77 hl (k := 1) rfl (nI_add _ 1) (by decide) rfl (fun ls hl => ?_)
              have hl : lv_has ls 6 [(5, .int (nI (i + 1))), (4, .int (bI false)), (3, .int (nI (sgN n9 tx))), (0, .ref (wa T 91)), (1, .int r), (2, .int b)] := hl
              refine lv_goto (tgt := 42) hx hb d_M_parse_80 (by decide) ?_
              exact ih (i + 1) false ls _ _ (by omega) (by omega) (by omega) (⟨fun q => absurd q (by decide), fun q => absurd (q.2 i hsi (by omega)) (Int32.not_lt.mpr h5)⟩) hl hw
            · refine lv_iconst (v := nI 1) hx hb d_M_parse_70 (by decide +kernel) ?_
              refine lv_goto (tgt := 75) hx hb d_M_parse_71 (by decide) ?_
              refine sw_i (y := (bI true)) (rfl) ?_
              refine lv_istore hx hb d_M_parse_75 hl (by decide) rfl (fun ls hl => ?_)
              have hl : lv_has ls 6 [(4, .int (bI true)), (5, .int (nI i)), (3, .int (nI (sgN n9 tx))), (0, .ref (wa T 91)), (1, .int r), (2, .int b)] := hl
              refine lv_iinc (v := nI (i + 1)) hx hb d_M_parse_77 hl (k := 1) rfl (nI_add _ 1) (by decide) rfl (fun ls hl => ?_)
              have hl : lv_has ls 6 [(5, .int (nI (i + 1))), (4, .int (bI true)), (3, .int (nI (sgN n9 tx))), (0, .ref (wa T 91)), (1, .int r), (2, .int b)] := hl
              refine lv_goto (tgt := 42) hx hb d_M_parse_80 (by decide) ?_
              exact ih (i + 1) true ls _ _ (by omega) (by omega) (by omega) (⟨fun _ => ⟨hg1.1, fun j h1 h2 => by by_cases ej : j = i; exact ej ▸ Int32.not_le.mp h5; exact hg1.2 j h1 (by omega)⟩, fun _ => rfl⟩) hl hw
    have hl : lv_has ls 6 [(3, .int (nI (sgN n9 tx))), (0, .ref (wa T 91)), (1, .int r), (2, .int b)] := hl
    refine lv_aload_n hx hb d_M_parse_24 rfl (lv_at hl 1 rfl) ?_
    refine wg_Model_length hx hb hC hw bw_821 d_M_parse_25 ?_
    refine sw_i (y := nI n9) (va_up_self _ _ _) ?_
    refine lv_iload_n hx hb d_M_parse_28 rfl (lv_at hl 0 rfl) ?_
    refine n_icmp_le (tgt := 36) hx hb d_M_parse_29 (by decide) (by omega) (by omega) (fun h0 => ?_) (fun h0 => ?_)
    · refine lv_iconst (v := nI 0) hx hb d_M_parse_36 (by decide +kernel) ?_
      refine sw_i (y := (bI false)) (rfl) ?_
      refine lv_istore hx hb d_M_parse_37 hl (by decide) rfl (fun ls hl => ?_)
      have hl : lv_has ls 6 [(4, .int (bI false)), (3, .int (nI (sgN n9 tx))), (0, .ref (wa T 91)), (1, .int r), (2, .int b)] := hl
      refine lv_iload_n hx hb d_M_parse_39 rfl (lv_at hl 1 rfl) ?_
      refine lv_istore hx hb d_M_parse_40 hl (by decide) rfl (fun ls hl => ?_)
      have hl : lv_has ls 6 [(5, .int (nI (sgN n9 tx))), (4, .int (bI false)), (3, .int (nI (sgN n9 tx))), (0, .ref (wa T 91)), (1, .int r), (2, .int b)] := hl
      exact lg (n9 - sgN n9 tx) (sgN n9 tx) false ls _ _ rfl hsl (Nat.le_refl _) ⟨fun q => absurd q (by decide), fun q => absurd q.1 (by omega)⟩ hl hw
    · refine lv_iconst (v := nI 1) hx hb d_M_parse_32 (by decide +kernel) ?_
      refine lv_goto (tgt := 37) hx hb d_M_parse_33 (by decide) ?_
      refine sw_i (y := (bI true)) (rfl) ?_
      refine lv_istore hx hb d_M_parse_37 hl (by decide) rfl (fun ls hl => ?_)
      have hl : lv_has ls 6 [(4, .int (bI true)), (3, .int (nI (sgN n9 tx))), (0, .ref (wa T 91)), (1, .int r), (2, .int b)] := hl
      refine lv_iload_n hx hb d_M_parse_39 rfl (lv_at hl 1 rfl) ?_
      refine lv_istore hx hb d_M_parse_40 hl (by decide) rfl (fun ls hl => ?_)
      have hl : lv_has ls 6 [(5, .int (nI (sgN n9 tx))), (4, .int (bI true)), (3, .int (nI (sgN n9 tx))), (0, .ref (wa T 91)), (1, .int r), (2, .int b)] := hl
      exact lg (n9 - sgN n9 tx) (sgN n9 tx) true ls _ _ rfl hsl (Nat.le_refl _) ⟨fun _ => ⟨h0, fun j h1 h2 => absurd h2 (by omega)⟩, fun _ => rfl⟩ hl hw
  refine lv_aload_n hx hb d_M_parse_0 rfl (lv_at hl 0 rfl) ?_
  refine wg_Model_length hx hb hC hw bw_821 d_M_parse_1 ?_
  refine sw_i (y := nI n9) (va_up_self _ _ _) ?_
  refine n_if_le (tgt := 22) hx hb d_M_parse_4 (by decide) (by omega) (fun h0 => ?_) (fun h0 => ?_)
  · refine lv_iconst (v := nI 0) hx hb d_M_parse_22 (by decide +kernel) ?_
    refine sw_i (y := nI (sgN n9 tx)) (by rw [show sgN n9 tx = 0 from if_neg (by omega)]) ?_
    refine lv_istore_n hx hb d_M_parse_23 rfl hl (by decide) rfl (fun ls hl => ?_)
    have hl : lv_has ls 6 [(3, .int (nI (sgN n9 tx))), (0, .ref (wa T 91)), (1, .int r), (2, .int b)] := hl
    exact c24 ls _ _ hl hw
  · have ht0 := ht 0
    refine lv_aload_n hx hb d_M_parse_7 rfl (lv_at hl 0 rfl) ?_
    refine wg_Model_text hx hb hC hw bw_822 d_M_parse_8 ?_
    refine lv_iconst (v := nI 0) hx hb d_M_parse_11 (by decide +kernel) ?_
    refine wl_mtext hx hb hw (by omega) d_M_parse_12 ?_
    refine sw_i (y := nI (tx 0)) (rfl) ?_
    refine lv_bipush (v := nI 45) hx hb d_M_parse_13 (by decide +kernel) ?_
    refine n_icmp_ne (tgt := 22) hx hb d_M_parse_15 (by decide) (by omega) (by omega) (fun h1 => ?_) (fun h1 => ?_)
    · refine lv_iconst (v := nI 0) hx hb d_M_parse_22 (by decide +kernel) ?_
      refine sw_i (y := nI (sgN n9 tx)) (by rw [show sgN n9 tx = 0 from if_neg (fun q => h1 q.2)]) ?_
      refine lv_istore_n hx hb d_M_parse_23 rfl hl (by decide) rfl (fun ls hl => ?_)
      have hl : lv_has ls 6 [(3, .int (nI (sgN n9 tx))), (0, .ref (wa T 91)), (1, .int r), (2, .int b)] := hl
      exact c24 ls _ _ hl hw
    · refine lv_iconst (v := nI 1) hx hb d_M_parse_18 (by decide +kernel) ?_
      refine lv_goto (tgt := 23) hx hb d_M_parse_19 (by decide) ?_
      refine sw_i (y := nI (sgN n9 tx)) (by rw [show sgN n9 tx = 1 from if_pos ⟨h0, h1⟩]) ?_
      refine lv_istore_n hx hb d_M_parse_23 rfl hl (by decide) rfl (fun ls hl => ?_)
      have hl : lv_has ls 6 [(3, .int (nI (sgN n9 tx))), (0, .ref (wa T 91)), (1, .int r), (2, .int b)] := hl
      exact c24 ls _ _ hl hw
