/-! the model: shift, fits, root, gcd -/
theorem sh_abs (x n : Int) : (shW x n).natAbs = slX n x.natAbs + (if (slF n x.natAbs && decide (x < 0)) = true then 1 else 0) := by
  by_cases hn : n ≤ 0
  · rw [shW_n hn, shD_abs]; unfold shN slX slF
    by_cases h0 : 0 ≤ n
    · have e : n = 0 := by omega
      subst e
      simp [Nat.mod_one]
    · rw [if_neg h0, decide_eq_true (show n < 0 by omega), Bool.true_and, Bool.and_comm]
  · obtain ⟨k, hk⟩ : ∃ k : Nat, n = (k : Int) := ⟨n.toNat, by omega⟩
    subst hk
    rw [shW_p (by omega), mul2_abs]; unfold slX slF
    rw [if_pos (by omega), decide_eq_false (by omega), Int.toNat_natCast]; simp
theorem sh_sgn {x n : Int} (h : shW x n ≠ 0) : sgnI x = sgnI (shW x n) := by
  have key : decide (shW x n < 0) = decide (x < 0) := by
    by_cases hn : n ≤ 0
    · rw [shW_n hn, shD_neg]
    · obtain ⟨k, hk⟩ : ∃ k : Nat, n = (k : Int) := ⟨n.toNat, by omega⟩
      subst hk
      rw [shW_p (by omega), mul2_neg]
  rcases sg_3 x with a | a | a
  · rw [decide_eq_true a] at key
    rw [sg_n a, sg_n (of_decide_eq_true key)]
  · exfalso
    apply h
    have : (shW x n).natAbs = 0 := by rw [sh_abs, a, Int.natAbs_zero, slX_0, slF_0]; rfl
    omega
  · rw [decide_eq_false (show ¬ x < 0 by omega)] at key
    have := of_decide_eq_false key
    rw [sg_p a, sg_p (by omega)]
theorem sh_fit {x n : Int} (hx : x.natAbs < m1024) (h : x ≠ 0 → (bl x.natAbs : Int) + n ≤ 1024) : (shW x n).natAbs < m1024 := by
  by_cases hn : n ≤ 0
  · rw [shW_n hn, shD_abs]; exact Nat.lt_of_le_of_lt (shN_le _ _) hx
  · by_cases h0 : x = 0
    · subst h0
      obtain ⟨k, hk⟩ : ∃ k : Nat, n = (k : Int) := ⟨n.toNat, by omega⟩
      subst hk
      rw [shW_p (by omega), Int.zero_mul]; exact Nat.pow_pos (by decide)
    · obtain ⟨k, hk⟩ : ∃ k : Nat, n = (k : Int) := ⟨n.toNat, by omega⟩
      subst hk
      rw [shW_p (by omega), mul2_abs]
      have h1 := h h0
      exact mul2_lt (bl_lt (Nat.lt_of_lt_of_le hx m1024_lim)) (by omega)
theorem cmp3_le {a b : Nat} : cmp3 a b ≤ 0 ↔ a ≤ b := by
  unfold cmp3
  by_cases h : a < b
  · rw [if_pos h]; exact ⟨fun _ => by omega, fun _ => by decide +kernel⟩
  · rw [if_neg h]; by_cases h2 : a = b
    · rw [if_pos h2]; exact ⟨fun _ => by omega, fun _ => by decide +kernel⟩
    · rw [if_neg h2]; exact ⟨fun q => absurd q (by decide +kernel), fun q => by omega⟩
theorem cmp3_gz {a b : Nat} : 0 < cmp3 a b ↔ b < a := by
  rw [← Nat.not_le, ← cmp3_le, Int32.not_le]
/-- all slots but two are as before -/
def mfr (a b : Nat) (M Z M' Z' : Nat → Nat) : Prop := (∀ s, s ≠ a → s ≠ b → M' s = M s ∧ Z' s = Z s) ∧ ∀ s, s < 20 → M' s < mM
theorem mfr_0 {a b : Nat} {M Z : Nat → Nat} (h : ∀ s, s < 20 → M s < mM) : mfr a b M Z M Z := ⟨fun _ _ _ => ⟨rfl, rfl⟩, h⟩
theorem mfr_up {a b s v k : Nat} {M Z M' Z' : Nat → Nat} (h : mfr a b M Z M' Z') (hs : s = a ∨ s = b) (hv : v < mM) : mfr a b M Z (va_up M' s v) (va_up Z' s k) := by
  refine ⟨fun q h1 h2 => ?_, fun q hq => ?_⟩
  · rw [va_up_ne _ _ (by omega), va_up_ne _ _ (by omega)]; exact h.1 q h1 h2
  · rw [va_va]; split
    · exact hv
    · exact h.2 q hq
theorem rt_up {v k b : Nat} (hv : v < 2 ^ b) (hb : 0 < b) (hk : 0 < k) : v < (0 + 2 ^ ((b - 1) / k + 1)) ^ k := by
  rw [Nat.zero_add, ← Nat.pow_mul]
  refine Nat.lt_of_lt_of_le hv (Nat.pow_le_pow_right (by decide) ?_)
  have h1 := Nat.div_add_mod (b - 1) k
  have h2 := Nat.mod_lt (b - 1) hk
  rw [Nat.add_mul, Nat.mul_comm ((b - 1) / k)]; omega
theorem mI.fr {z : Nat → Int} {M Z M' Z' : Nat → Nat} {G : Nat → Int32} {a b : Nat} (h : mI z M Z G) (ha : 12 ≤ a) (hb : 12 ≤ b) (hf : mfr a b M Z M' Z') : mI z M' Z' G :=
  ⟨fun i hi => by have q := hf.1 i (by omega) (by omega); rw [q.1, q.2]; exact h.1 i hi, hf.2⟩
theorem ln_sum {x y : Nat} (hx : x < m1024) (hy : y < m1024) : lnM x + lnM y ≤ 108 := by have := ln52 hx; have := ln52 hy; omega
theorem pr_mM {x y : Nat} (hx : x < m1024) (hy : y < m1024) : x * y < b20 ^ 107 := Nat.lt_of_lt_of_le (mul_pow (Nat.lt_of_lt_of_le hx m1024_mM) (Nat.lt_of_lt_of_le hy m1024_mM)) (b20_le (by decide))
theorem b107 {v : Nat} (h : v < b20 ^ 107) : v < mM := Nat.lt_of_lt_of_le h (b20_le (by decide))

set_option maxRecDepth 100000 in
set_option maxHeartbeats 4000000 in
theorem k_M_shift (l : Launch) (T : wT) (F : wFt) (U K : wUt) (I : wIt) (O : wOt) (M Z : Nat → Nat) (G : Nat → Int32) (z : Nat → Int) (hm : mI z M Z G) (r a n : Int32) : Met l y_M_shift (.code y_M_shift c_M_shift 6 none :: bg) ({ frames := 2, cells := 0, slots := 0, locals := 49 } : Room) (mP T F U K (gI I (dgm M) Z G) O [.ref (wa T 91), .int r, .int a, .int n]) (mQvM T (fun M' Z' G' => mI (zF (ocG (isR r ∧ isR a) (shC (z (rg a)) n.toInt)) (va_up z (rg r) (shW (z (rg a)) n.toInt)) z) M' Z' G') F U (va_up K 15 (nI (ocG (isR r ∧ isR a) (shC (z (rg a)) n.toInt)))) I O) 0 0 (wA T) := by
  refine wM_vM (by decide) (Nat.le_of_ble_eq_true rfl) ?_
  intro p e R s m args below meth c Q ls hx hb hC hRf hRl hret hl hw
  have hRf : 2 ≤ R.frames := hRf
  have hRl : 49 ≤ R.locals := hRl
  have hl : lv_has ls 6 [(0, .ref (wa T 91)), (1, .int r), (2, .int a), (3, .int n)] := hl
  refine lv_aload_n hx hb d_M_shift_0 rfl (lv_at hl 0 rfl) ?_
  refine lv_iload_n hx hb d_M_shift_1 rfl (lv_at hl 1 rfl) ?_
  refine lv_iload_n hx hb d_M_shift_2 rfl (lv_at hl 2 rfl) ?_
  refine lv_iload_n hx hb d_M_shift_3 rfl (lv_at hl 2 rfl) ?_
  refine wcV_z (As := [.int r, .int a, .int a]) hx hb hC hw (k_M_three l T F U K (gI I (dgm M) Z G) O r a a) lk_M_76 rfl rfl ⟨by show 1 + 1 ≤ R.frames; omega, by show 8 + (4 + 11) + 20 ≤ R.locals; omega⟩ (by omega) (we_Model ) rfl rfl hl.1 rfl (Nat.le_of_ble_eq_true rfl) ⟨Nat.zero_le _, Nat.zero_le _⟩ d_M_shift_4 (fun H locs hw => ?_)
  by_cases hg : isR r ∧ isR a ∧ isR a
  rotate_left
  · refine sw_i (y := nI 0) (by rw [decide_eq_false hg]; rfl) ?_
    refine n_if_ne (tgt := 11) hx hb d_M_shift_7 (by decide) (by omega) (fun hw9 => absurd hw9 (by decide)) (fun hw9 => ?_)
    rw [ocG_1 hg] at hw
    rw [ocG_1 (fun q => hg ⟨q.1, q.2, q.2⟩)] at hret
    exact hret _ _ _ _ _ _ _ (by rw [zF_n (by decide)]; exact hm) hw d_M_shift_10
  refine sw_i (y := nI 1) (by rw [decide_eq_true hg]; rfl) ?_
  rw [ocG_k hg] at hw
  obtain ⟨x, hx9, rfl⟩ := isR_of hg.1
  obtain ⟨i, hi9, rfl⟩ := isR_of hg.2.1
  have hl : lv_has ls 6 [(0, .ref (wa T 91)), (1, .int (nI x)), (2, .int (nI i)), (3, .int n)] := hl
  refine n_if_ne (tgt := 11) hx hb d_M_shift_7 (by decide) (by omega) (fun hw9 => ?_) (fun hw9 => absurd hw9 (by decide))
  rw [ocG_k ⟨hg.1, hg.2.1⟩, rg_nI hx9, rg_nI hi9] at hret
  have hi := hm.1 i hi9
  have hli := hi.1
  have emi := hi.2.1
  have hn1 := n.toInt_lt
  have hn2 := n.le_toInt
  have hb24 : bl (M i) ≤ 1024 := bl_mono (hm.lt hi9)
  refine lv_aload_n hx hb d_M_shift_11 rfl (lv_at hl 0 rfl) ?_
  refine wg_Model_sign hx hb hC hw bw_820 d_M_shift_12 ?_
  refine lv_iload_n hx hb d_M_shift_15 rfl (lv_at hl 2 rfl) ?_
  refine wl_msign hx hb hw (by omega) d_M_shift_16 ?_
  refine sw_i (y := (G i)) (rfl) ?_
  refine sw_i (y := (sgnI (z i))) (hi.2.2.2) ?_
  by_cases hz : z i = 0
  · refine sw_i (y := (nI 0)) (sg_z hz) ?_
    refine lv_if_eq (tgt := 42) hx hb d_M_shift_17 (by decide) (fun hw9 => ?_) (fun hw9 => absurd hw9 (by decide +kernel))
    have hoc : shC (z i) n.toInt = 0 := if_neg (fun q => q.1 hz)
    have hbn : M i ≠ 0 → (bl (M i) : Int) + n.toInt ≤ 1024 := fun q => absurd (by rw [emi, hz]; rfl) q
    rw [hoc, zF_0 rfl] at hret
    have hfit : (shW (z i) n.toInt).natAbs < m1024 := sh_fit hli (fun q => by rw [← emi]; exact hbn (by rw [emi]; omega))
    have hab := sh_abs (z i) n.toInt
    rw [← emi] at hab
    have hx0 : slX n.toInt (M i) < m1024 := by omega
    refine lv_aload_n hx hb d_M_shift_42 rfl (lv_at hl 0 rfl) ?_
    refine wg_Model_sign hx hb hC hw bw_820 d_M_shift_43 ?_
    refine lv_iload_n hx hb d_M_shift_46 rfl (lv_at hl 2 rfl) ?_
    refine wl_msign hx hb hw (by omega) d_M_shift_47 ?_
    refine sw_i (y := (G i)) (rfl) ?_
    refine sw_i (y := (sgnI (z i))) (hi.2.2.2) ?_
    refine lv_istore hx hb d_M_shift_48 hl (by decide) rfl (fun ls hl => ?_)
    have hl : lv_has ls 6 [(4, .int (sgnI (z i))), (0, .ref (wa T 91)), (1, .int (nI x)), (2, .int (nI i)), (3, .int n)] := hl
    refine lv_aload_n hx hb d_M_shift_50 rfl (lv_at hl 1 rfl) ?_
    refine lv_iload_n hx hb d_M_shift_51 rfl (lv_at hl 3 rfl) ?_
    refine lv_iload_n hx hb d_M_shift_52 rfl (lv_at hl 4 rfl) ?_
    refine wcV_z (As := [.int (nI i), .int n]) hx hb hC hw (k_M_slide l T F U (va_up K 15 (nI 0)) I O M Z G i n hi9 hi.2.2.1 (hm.lt hi9) hbn) lk_M_109 rfl rfl ⟨by show 1 + 1 ≤ R.frames; omega, by show 8 + (7 + 11) + 23 ≤ R.locals; omega⟩ (by omega) (we_Model ) rfl rfl hl.1 rfl (Nat.le_of_ble_eq_true rfl) ⟨Nat.zero_le _, Nat.zero_le _⟩ d_M_shift_53 (fun H locs hw => ?_)
    have hm1 : mI z (va_up M 12 (slX n.toInt (M i))) (va_up Z 12 (lnM (slX n.toInt (M i)))) G := hm.out (by omega) (mM_of hx0)
    have n1 : (va_up M 12 (slX n.toInt (M i))) 12 = slX n.toInt (M i) := va_up_self _ _ _
    have z1 : (va_up Z 12 (lnM (slX n.toInt (M i)))) 12 = lnM ((va_up M 12 (slX n.toInt (M i))) 12) := by rw [va_up_self, va_up_self]
    generalize (va_up M 12 (slX n.toInt (M i))) = M1 at hw hm1 n1 z1
    generalize (va_up Z 12 (lnM (slX n.toInt (M i)))) = Z1 at hw hm1 z1
    generalize hfe : slF n.toInt (M i) = fe at *
    cases fe
    · refine lv_istore hx hb d_M_shift_56 hl (by decide) rfl (fun ls hl => ?_)
      have hl : lv_has ls 6 [(5, .int (nI 0)), (4, .int (sgnI (z i))), (0, .ref (wa T 91)), (1, .int (nI x)), (2, .int (nI i)), (3, .int n)] := hl
      refine lv_iload hx hb d_M_shift_58 (lv_at hl 0 rfl) ?_
      refine n_if_eq (tgt := 85) hx hb d_M_shift_60 (by decide) (by omega) (fun hw9 => ?_) (fun hw9 => absurd hw9 (by decide))
      refine lv_aload_n hx hb d_M_shift_85 rfl (lv_at hl 2 rfl) ?_
      refine lv_bipush (v := nI 12) hx hb d_M_shift_86 (by decide +kernel) ?_
      refine lv_iload_n hx hb d_M_shift_88 rfl (lv_at hl 3 rfl) ?_
      refine lv_iload hx hb d_M_shift_89 (lv_at hl 1 rfl) ?_
      refine wcV_v (As := [.int (nI 12), .int (nI x), .int (sgnI (z i))]) hx hb hC hw (k_M_store l T F U (va_up K 15 (nI 0)) I O M1 Z1 G 12 x (sgnI (z i)) (by omega) (by omega) (by rw [z1]; exact lnM_le _)) lk_M_73 rfl rfl ⟨by show 1 + 1 ≤ R.frames; omega, by show 8 + (4 + 11) + 23 ≤ R.locals; omega⟩ (by omega) (we_Model ) rfl rfl hl.1 rfl (Nat.le_of_ble_eq_true rfl) ⟨Nat.zero_le _, Nat.zero_le _⟩ d_M_shift_91 (fun H locs hw => ?_)
      exact hret _ _ _ _ _ _ _ (hm1.store hx9 (by omega) (n1.trans (by rw [hab]; simp)) z1 hfit (fun h => sh_sgn h)) hw d_M_shift_94
    · refine lv_istore hx hb d_M_shift_56 hl (by decide) rfl (fun ls hl => ?_)
      have hl : lv_has ls 6 [(5, .int (nI 1)), (4, .int (sgnI (z i))), (0, .ref (wa T 91)), (1, .int (nI x)), (2, .int (nI i)), (3, .int n)] := hl
      refine lv_iload hx hb d_M_shift_58 (lv_at hl 0 rfl) ?_
      refine n_if_eq (tgt := 85) hx hb d_M_shift_60 (by decide) (by omega) (fun hw9 => absurd hw9 (by decide)) (fun hw9 => ?_)
      refine lv_iload hx hb d_M_shift_63 (lv_at hl 1 rfl) ?_
      refine lv_if_ge (tgt := 85) hx hb d_M_shift_65 (by decide) (fun hs => ?_) (fun hs => ?_)
      · have hs2 : ¬ z i < 0 := fun q => absurd (sg_lt.mpr q) (Int32.not_lt.mpr hs)
        rw [decide_eq_false hs2] at hab
        refine lv_aload_n hx hb d_M_shift_85 rfl (lv_at hl 2 rfl) ?_
        refine lv_bipush (v := nI 12) hx hb d_M_shift_86 (by decide +kernel) ?_
        refine lv_iload_n hx hb d_M_shift_88 rfl (lv_at hl 3 rfl) ?_
        refine lv_iload hx hb d_M_shift_89 (lv_at hl 1 rfl) ?_
        refine wcV_v (As := [.int (nI 12), .int (nI x), .int (sgnI (z i))]) hx hb hC hw (k_M_store l T F U (va_up K 15 (nI 0)) I O M1 Z1 G 12 x (sgnI (z i)) (by omega) (by omega) (by rw [z1]; exact lnM_le _)) lk_M_73 rfl rfl ⟨by show 1 + 1 ≤ R.frames; omega, by show 8 + (4 + 11) + 23 ≤ R.locals; omega⟩ (by omega) (we_Model ) rfl rfl hl.1 rfl (Nat.le_of_ble_eq_true rfl) ⟨Nat.zero_le _, Nat.zero_le _⟩ d_M_shift_91 (fun H locs hw => ?_)
        exact hret _ _ _ _ _ _ _ (hm1.store hx9 (by omega) (n1.trans (by rw [hab]; simp)) z1 hfit (fun h => sh_sgn h)) hw d_M_shift_94
      · have hs2 : z i < 0 := sg_lt.mp (Int32.not_le.mp hs)
        rw [decide_eq_true hs2] at hab
        replace hab : (shW (z i) n.toInt).natAbs = slX n.toInt (M i) + 1 := hab
        refine lv_aload_n hx hb d_M_shift_68 rfl (lv_at hl 2 rfl) ?_
        refine lv_bipush (v := nI 13) hx hb d_M_shift_69 (by decide +kernel) ?_
        refine lv_iconst (v := nI 1) hx hb d_M_shift_71 (by decide +kernel) ?_
        refine wcV_v (As := [.int (nI 13), .int (nI 1)]) hx hb hC hw (k_M_small l T F U (va_up K 15 (nI 0)) I O M1 Z1 G 13 1 (by omega) (by decide)) lk_M_93 rfl rfl ⟨by show 1 + 1 ≤ R.frames; omega, by show 8 + (3 + 11) + 22 ≤ R.locals; omega⟩ (by omega) (we_Model ) rfl rfl hl.1 rfl (Nat.le_of_ble_eq_true rfl) ⟨Nat.zero_le _, Nat.zero_le _⟩ d_M_shift_72 (fun H locs hw => ?_)
        have hm2 : mI z (va_up M1 13 1) (va_up Z1 13 (lnM 1)) G := hm1.out (by omega) (lim20 (by decide))
        have n2 : (va_up M1 13 1) 12 = slX n.toInt (M i) := (va_up_ne _ _ (by decide)).trans n1
        have o2 : (va_up M1 13 1) 13 = 1 := va_up_self _ _ _
        generalize (va_up M1 13 1) = M2 at hw hm2 n2 o2
        generalize (va_up Z1 13 (lnM 1)) = Z2 at hw hm2
        refine lv_aload_n hx hb d_M_shift_75 rfl (lv_at hl 2 rfl) ?_
        refine lv_bipush (v := nI 12) hx hb d_M_shift_76 (by decide +kernel) ?_
        refine lv_bipush (v := nI 13) hx hb d_M_shift_78 (by decide +kernel) ?_
        refine lv_bipush (v := nI 12) hx hb d_M_shift_80 (by decide +kernel) ?_
        refine wcV_v (As := [.int (nI 12), .int (nI 13), .int (nI 12)]) hx hb hC hw (k_M_plus l T F U (va_up K 15 (nI 0)) I O M2 Z2 G 12 13 12 (by omega) (by omega) (by omega) (by rw [n2, o2, ← hab]; exact mM_of hfit)) lk_M_83 rfl rfl ⟨by show 1 + 1 ≤ R.frames; omega, by show 8 + (7 + 11) + 22 ≤ R.locals; omega⟩ (by omega) (we_Model ) rfl rfl hl.1 rfl (Nat.le_of_ble_eq_true rfl) ⟨Nat.zero_le _, Nat.zero_le _⟩ d_M_shift_82 (fun H locs hw => ?_)
        have hm3 : mI z (va_up M2 12 (M2 12 + M2 13)) (va_up Z2 12 (lnM (M2 12 + M2 13))) G := hm2.out (by omega) (by rw [n2, o2, ← hab]; exact mM_of hfit)
        have n3 : (va_up M2 12 (M2 12 + M2 13)) 12 = (shW (z i) n.toInt).natAbs := (va_up_self _ _ _).trans (by rw [n2, o2, hab])
        have z3 : (va_up Z2 12 (lnM (M2 12 + M2 13))) 12 = lnM ((va_up M2 12 (M2 12 + M2 13)) 12) := by rw [va_up_self, va_up_self]
        generalize (va_up M2 12 (M2 12 + M2 13)) = M3 at hw hm3 n3 z3
        generalize (va_up Z2 12 (lnM (M2 12 + M2 13))) = Z3 at hw hm3 z3
        refine lv_aload_n hx hb d_M_shift_85 rfl (lv_at hl 2 rfl) ?_
        refine lv_bipush (v := nI 12) hx hb d_M_shift_86 (by decide +kernel) ?_
        refine lv_iload_n hx hb d_M_shift_88 rfl (lv_at hl 3 rfl) ?_
        refine lv_iload hx hb d_M_shift_89 (lv_at hl 1 rfl) ?_
        refine wcV_v (As := [.int (nI 12), .int (nI x), .int (sgnI (z i))]) hx hb hC hw (k_M_store l T F U (va_up K 15 (nI 0)) I O M3 Z3 G 12 x (sgnI (z i)) (by omega) (by omega) (by rw [z3]; exact lnM_le _)) lk_M_73 rfl rfl ⟨by show 1 + 1 ≤ R.frames; omega, by show 8 + (4 + 11) + 23 ≤ R.locals; omega⟩ (by omega) (we_Model ) rfl rfl hl.1 rfl (Nat.le_of_ble_eq_true rfl) ⟨Nat.zero_le _, Nat.zero_le _⟩ d_M_shift_91 (fun H locs hw => ?_)
        exact hret _ _ _ _ _ _ _ (hm3.store hx9 (by omega) (n3) z3 hfit (fun h => sh_sgn h)) hw d_M_shift_94
  · refine lv_if_eq (tgt := 42) hx hb d_M_shift_17 (by decide) (fun h0 => ?_) (fun h0 => ?_)
    · exact absurd (sg_eq.mp h0) hz
    · refine lv_aload_n hx hb d_M_shift_20 rfl (lv_at hl 0 rfl) ?_
      refine lv_iload_n hx hb d_M_shift_21 rfl (lv_at hl 2 rfl) ?_
      refine wcV_i (As := [.int (nI i)]) hx hb hC hw (k_M_bitsOf l T F U (va_up K 15 (nI 0)) I O M Z G i (by omega) hi.2.2.1 (hm.lt hi9)) lk_M_96 rfl rfl ⟨by show 0 + 1 ≤ R.frames; omega, by show 8 + (4 + 11) + 0 ≤ R.locals; omega⟩ (by omega) (we_Model ) rfl rfl hl.1 rfl (Nat.le_of_ble_eq_true rfl) ⟨Nat.zero_le _, Nat.zero_le _⟩ d_M_shift_22 (fun H locs hw => ?_)
      refine lv_i2l hx hb d_M_shift_25 rfl ?_
      refine lv_iload_n hx hb d_M_shift_26 rfl (lv_at hl 3 rfl) ?_
      refine lv_i2l hx hb d_M_shift_27 rfl ?_
      refine lv_ladd hx hb d_M_shift_28 ?_
      have hsum : (((nI (bl (M i))).toInt64 + (n).toInt64)).toInt = (bl (M i) : Int) + n.toInt := by rw [lj_add (by rw [nI_l (by omega), lj_lN (by omega), Int32.toInt_toInt64]; omega) (by rw [nI_l (by omega), lj_lN (by omega), Int32.toInt_toInt64]; omega), nI_l (by omega), lj_lN (by omega), Int32.toInt_toInt64]
      have h24 : (1024 : Int64).toInt = 1024 := by decide +kernel
      refine lv_ldc2 (v := 1024) hx hb hC.ow (hC.hts bw_950) d_M_shift_29 ?_
      refine lc_le (tgt := 42) hx hb d_M_shift_32 d_M_shift_33 (by decide) (fun hb9 => ?_) (fun hb9 => ?_)
      · rw [hsum, h24] at hb9
        have hoc : shC (z i) n.toInt = 0 := if_neg (fun q => by rw [← emi] at q; omega)
        have hbn : M i ≠ 0 → (bl (M i) : Int) + n.toInt ≤ 1024 := fun _ => hb9
        rw [hoc, zF_0 rfl] at hret
        have hfit : (shW (z i) n.toInt).natAbs < m1024 := sh_fit hli (fun q => by rw [← emi]; exact hbn (by rw [emi]; omega))
        have hab := sh_abs (z i) n.toInt
        rw [← emi] at hab
        have hx0 : slX n.toInt (M i) < m1024 := by omega
        refine lv_aload_n hx hb d_M_shift_42 rfl (lv_at hl 0 rfl) ?_
        refine wg_Model_sign hx hb hC hw bw_820 d_M_shift_43 ?_
        refine lv_iload_n hx hb d_M_shift_46 rfl (lv_at hl 2 rfl) ?_
        refine wl_msign hx hb hw (by omega) d_M_shift_47 ?_
        refine sw_i (y := (G i)) (rfl) ?_
        refine sw_i (y := (sgnI (z i))) (hi.2.2.2) ?_
        refine lv_istore hx hb d_M_shift_48 hl (by decide) rfl (fun ls hl => ?_)
        have hl : lv_has ls 6 [(4, .int (sgnI (z i))), (0, .ref (wa T 91)), (1, .int (nI x)), (2, .int (nI i)), (3, .int n)] := hl
        refine lv_aload_n hx hb d_M_shift_50 rfl (lv_at hl 1 rfl) ?_
        refine lv_iload_n hx hb d_M_shift_51 rfl (lv_at hl 3 rfl) ?_
        refine lv_iload_n hx hb d_M_shift_52 rfl (lv_at hl 4 rfl) ?_
        refine wcV_z (As := [.int (nI i), .int n]) hx hb hC hw (k_M_slide l T F U (va_up K 15 (nI 0)) I O M Z G i n hi9 hi.2.2.1 (hm.lt hi9) hbn) lk_M_109 rfl rfl ⟨by show 1 + 1 ≤ R.frames; omega, by show 8 + (7 + 11) + 23 ≤ R.locals; omega⟩ (by omega) (we_Model ) rfl rfl hl.1 rfl (Nat.le_of_ble_eq_true rfl) ⟨Nat.zero_le _, Nat.zero_le _⟩ d_M_shift_53 (fun H locs hw => ?_)
        have hm1 : mI z (va_up M 12 (slX n.toInt (M i))) (va_up Z 12 (lnM (slX n.toInt (M i)))) G := hm.out (by omega) (mM_of hx0)
        have n1 : (va_up M 12 (slX n.toInt (M i))) 12 = slX n.toInt (M i) := va_up_self _ _ _
        have z1 : (va_up Z 12 (lnM (slX n.toInt (M i)))) 12 = lnM ((va_up M 12 (slX n.toInt (M i))) 12) := by rw [va_up_self, va_up_self]
        generalize (va_up M 12 (slX n.toInt (M i))) = M1 at hw hm1 n1 z1
        generalize (va_up Z 12 (lnM (slX n.toInt (M i)))) = Z1 at hw hm1 z1
        generalize hfe : slF n.toInt (M i) = fe at *
        cases fe
        · refine lv_istore hx hb d_M_shift_56 hl (by decide) rfl (fun ls hl => ?_)
          have hl : lv_has ls 6 [(5, .int (nI 0)), (4, .int (sgnI (z i))), (0, .ref (wa T 91)), (1, .int (nI x)), (2, .int (nI i)), (3, .int n)] := hl
          refine lv_iload hx hb d_M_shift_58 (lv_at hl 0 rfl) ?_
          refine n_if_eq (tgt := 85) hx hb d_M_shift_60 (by decide) (by omega) (fun hw9 => ?_) (fun hw9 => absurd hw9 (by decide))
          refine lv_aload_n hx hb d_M_shift_85 rfl (lv_at hl 2 rfl) ?_
          refine lv_bipush (v := nI 12) hx hb d_M_shift_86 (by decide +kernel) ?_
          refine lv_iload_n hx hb d_M_shift_88 rfl (lv_at hl 3 rfl) ?_
          refine lv_iload hx hb d_M_shift_89 (lv_at hl 1 rfl) ?_
          refine wcV_v (As := [.int (nI 12), .int (nI x), .int (sgnI (z i))]) hx hb hC hw (k_M_store l T F U (va_up K 15 (nI 0)) I O M1 Z1 G 12 x (sgnI (z i)) (by omega) (by omega) (by rw [z1]; exact lnM_le _)) lk_M_73 rfl rfl ⟨by show 1 + 1 ≤ R.frames; omega, by show 8 + (4 + 11) + 23 ≤ R.locals; omega⟩ (by omega) (we_Model ) rfl rfl hl.1 rfl (Nat.le_of_ble_eq_true rfl) ⟨Nat.zero_le _, Nat.zero_le _⟩ d_M_shift_91 (fun H locs hw => ?_)
          exact hret _ _ _ _ _ _ _ (hm1.store hx9 (by omega) (n1.trans (by rw [hab]; simp)) z1 hfit (fun h => sh_sgn h)) hw d_M_shift_94
        · refine lv_istore hx hb d_M_shift_56 hl (by decide) rfl (fun ls hl => ?_)
          have hl : lv_has ls 6 [(5, .int (nI 1)), (4, .int (sgnI (z i))), (0, .ref (wa T 91)), (1, .int (nI x)), (2, .int (nI i)), (3, .int n)] := hl
          refine lv_iload hx hb d_M_shift_58 (lv_at hl 0 rfl) ?_
          refine n_if_eq (tgt := 85) hx hb d_M_shift_60 (by decide) (by omega) (fun hw9 => absurd hw9 (by decide)) (fun hw9 => ?_)
          refine lv_iload hx hb d_M_shift_63 (lv_at hl 1 rfl) ?_
          refine lv_if_ge (tgt := 85) hx hb d_M_shift_65 (by decide) (fun hs => ?_) (fun hs => ?_)
          · have hs2 : ¬ z i < 0 := fun q => absurd (sg_lt.mpr q) (Int32.not_lt.mpr hs)
            rw [decide_eq_false hs2] at hab
            refine lv_aload_n hx hb d_M_shift_85 rfl (lv_at hl 2 rfl) ?_
            refine lv_bipush (v := nI 12) hx hb d_M_shift_86 (by decide +kernel) ?_
            refine lv_iload_n hx hb d_M_shift_88 rfl (lv_at hl 3 rfl) ?_
            refine lv_iload hx hb d_M_shift_89 (lv_at hl 1 rfl) ?_
            refine wcV_v (As := [.int (nI 12), .int (nI x), .int (sgnI (z i))]) hx hb hC hw (k_M_store l T F U (va_up K 15 (nI 0)) I O M1 Z1 G 12 x (sgnI (z i)) (by omega) (by omega) (by rw [z1]; exact lnM_le _)) lk_M_73 rfl rfl ⟨by show 1 + 1 ≤ R.frames; omega, by show 8 + (4 + 11) + 23 ≤ R.locals; omega⟩ (by omega) (we_Model ) rfl rfl hl.1 rfl (Nat.le_of_ble_eq_true rfl) ⟨Nat.zero_le _, Nat.zero_le _⟩ d_M_shift_91 (fun H locs hw => ?_)
            exact hret _ _ _ _ _ _ _ (hm1.store hx9 (by omega) (n1.trans (by rw [hab]; simp)) z1 hfit (fun h => sh_sgn h)) hw d_M_shift_94
          · have hs2 : z i < 0 := sg_lt.mp (Int32.not_le.mp hs)
            rw [decide_eq_true hs2] at hab
            replace hab : (shW (z i) n.toInt).natAbs = slX n.toInt (M i) + 1 := hab
            refine lv_aload_n hx hb d_M_shift_68 rfl (lv_at hl 2 rfl) ?_
            refine lv_bipush (v := nI 13) hx hb d_M_shift_69 (by decide +kernel) ?_
            refine lv_iconst (v := nI 1) hx hb d_M_shift_71 (by decide +kernel) ?_
            refine wcV_v (As := [.int (nI 13), .int (nI 1)]) hx hb hC hw (k_M_small l T F U (va_up K 15 (nI 0)) I O M1 Z1 G 13 1 (by omega) (by decide)) lk_M_93 rfl rfl ⟨by show 1 + 1 ≤ R.frames; omega, by show 8 + (3 + 11) + 22 ≤ R.locals; omega⟩ (by omega) (we_Model ) rfl rfl hl.1 rfl (Nat.le_of_ble_eq_true rfl) ⟨Nat.zero_le _, Nat.zero_le _⟩ d_M_shift_72 (fun H locs hw => ?_)
            have hm2 : mI z (va_up M1 13 1) (va_up Z1 13 (lnM 1)) G := hm1.out (by omega) (lim20 (by decide))
            have n2 : (va_up M1 13 1) 12 = slX n.toInt (M i) := (va_up_ne _ _ (by decide)).trans n1
            have o2 : (va_up M1 13 1) 13 = 1 := va_up_self _ _ _
            generalize (va_up M1 13 1) = M2 at hw hm2 n2 o2
            generalize (va_up Z1 13 (lnM 1)) = Z2 at hw hm2
            refine lv_aload_n hx hb d_M_shift_75 rfl (lv_at hl 2 rfl) ?_
            refine lv_bipush (v := nI 12) hx hb d_M_shift_76 (by decide +kernel) ?_
            refine lv_bipush (v := nI 13) hx hb d_M_shift_78 (by decide +kernel) ?_
            refine lv_bipush (v := nI 12) hx hb d_M_shift_80 (by decide +kernel) ?_
            refine wcV_v (As := [.int (nI 12), .int (nI 13), .int (nI 12)]) hx hb hC hw (k_M_plus l T F U (va_up K 15 (nI 0)) I O M2 Z2 G 12 13 12 (by omega) (by omega) (by omega) (by rw [n2, o2, ← hab]; exact mM_of hfit)) lk_M_83 rfl rfl ⟨by show 1 + 1 ≤ R.frames; omega, by show 8 + (7 + 11) + 22 ≤ R.locals; omega⟩ (by omega) (we_Model ) rfl rfl hl.1 rfl (Nat.le_of_ble_eq_true rfl) ⟨Nat.zero_le _, Nat.zero_le _⟩ d_M_shift_82 (fun H locs hw => ?_)
            have hm3 : mI z (va_up M2 12 (M2 12 + M2 13)) (va_up Z2 12 (lnM (M2 12 + M2 13))) G := hm2.out (by omega) (by rw [n2, o2, ← hab]; exact mM_of hfit)
            have n3 : (va_up M2 12 (M2 12 + M2 13)) 12 = (shW (z i) n.toInt).natAbs := (va_up_self _ _ _).trans (by rw [n2, o2, hab])
            have z3 : (va_up Z2 12 (lnM (M2 12 + M2 13))) 12 = lnM ((va_up M2 12 (M2 12 + M2 13)) 12) := by rw [va_up_self, va_up_self]
            generalize (va_up M2 12 (M2 12 + M2 13)) = M3 at hw hm3 n3 z3
            generalize (va_up Z2 12 (lnM (M2 12 + M2 13))) = Z3 at hw hm3 z3
            refine lv_aload_n hx hb d_M_shift_85 rfl (lv_at hl 2 rfl) ?_
            refine lv_bipush (v := nI 12) hx hb d_M_shift_86 (by decide +kernel) ?_
            refine lv_iload_n hx hb d_M_shift_88 rfl (lv_at hl 3 rfl) ?_
            refine lv_iload hx hb d_M_shift_89 (lv_at hl 1 rfl) ?_
            refine wcV_v (As := [.int (nI 12), .int (nI x), .int (sgnI (z i))]) hx hb hC hw (k_M_store l T F U (va_up K 15 (nI 0)) I O M3 Z3 G 12 x (sgnI (z i)) (by omega) (by omega) (by rw [z3]; exact lnM_le _)) lk_M_73 rfl rfl ⟨by show 1 + 1 ≤ R.frames; omega, by show 8 + (4 + 11) + 23 ≤ R.locals; omega⟩ (by omega) (we_Model ) rfl rfl hl.1 rfl (Nat.le_of_ble_eq_true rfl) ⟨Nat.zero_le _, Nat.zero_le _⟩ d_M_shift_91 (fun H locs hw => ?_)
            exact hret _ _ _ _ _ _ _ (hm3.store hx9 (by omega) (n3) z3 hfit (fun h => sh_sgn h)) hw d_M_shift_94
      · rw [hsum, h24] at hb9
        rw [show shC (z i) n.toInt = 2 from if_pos ⟨hz, by rw [← emi]; exact hb9⟩] at hret
        refine lv_aload_n hx hb d_M_shift_36 rfl (lv_at hl 0 rfl) ?_
        refine lv_iconst (v := nI 2) hx hb d_M_shift_37 (by decide +kernel) ?_
        refine wp_Model_code hx hb hC hw bw_817 d_M_shift_38 (fun H locs hw => ?_)
        rw [va_v2] at hw
        exact hret _ _ _ _ _ _ _ (by rw [zF_n (by decide)]; exact hm) hw d_M_shift_41
set_option maxRecDepth 100000 in
set_option maxHeartbeats 4000000 in
theorem k_M_fits (l : Launch) (T : wT) (F : wFt) (U K : wUt) (I : wIt) (O : wOt) (M Z : Nat → Nat) (G : Nat → Int32) (a k : Nat) (ha9 : a < 12) (hk1 : k < 2147483648) (hk0 : 0 < k) (hza : Z a = lnM (M a)) (hzx : Z 12 = lnM (M 12)) (hfa : M a < m1024) (ha0 : 0 < M a) (hfx : M 12 < m1024) (hM : ∀ s, s < 20 → M s < mM) : Met l y_M_fits (.code y_M_fits c_M_fits 4 (some .boolean) :: bg) ({ frames := 2, cells := 0, slots := 0, locals := 51 } : Room) (mP T F U K (gI I (dgm M) Z G) O [.ref (wa T 91), .int (nI a), .int (nI k)]) (mQiM T (bI (decide (M 12 ^ k ≤ M a))) (fun M' Z' G' => mfr 13 14 M Z M' Z' ∧ G' = G) F U K I O) 0 0 (wA T) := by
  refine wM_zM (by decide) (Nat.le_of_ble_eq_true rfl) (zbI _) ?_
  intro p e R s m args below meth c Q ls hx hb hC hRf hRl hret hl hw
  have hRf : 2 ≤ R.frames := hRf
  have hRl : 51 ≤ R.locals := hRl
  have hl : lv_has ls 4 [(0, .ref (wa T 91)), (1, .int (nI a)), (2, .int (nI k))] := hl
  refine lv_aload_n hx hb d_M_fits_0 rfl (lv_at hl 0 rfl) ?_
  refine lv_bipush (v := nI 13) hx hb d_M_fits_1 (by decide +kernel) ?_
  refine lv_iconst (v := nI 1) hx hb d_M_fits_3 (by decide +kernel) ?_
  refine wcV_v (As := [.int (nI 13), .int (nI 1)]) hx hb hC hw (k_M_small l T F U K I O M Z G 13 1 (by omega) (by decide)) lk_M_93 rfl rfl ⟨by show 1 + 1 ≤ R.frames; omega, by show 8 + (3 + 11) + 22 ≤ R.locals; omega⟩ (by omega) (we_Model ) rfl rfl hl.1 rfl (Nat.le_of_ble_eq_true rfl) ⟨Nat.zero_le _, Nat.zero_le _⟩ d_M_fits_4 (fun H locs hw => ?_)
  have f1 : mfr 13 14 M Z (va_up M 13 1) (va_up Z 13 (lnM 1)) := mfr_up (mfr_0 hM) (Or.inl rfl) (lim20 (by decide))
  have o1 : (va_up M 13 1) 13 = 1 := va_up_self _ _ _
  have z1 : (va_up Z 13 (lnM 1)) 13 = lnM ((va_up M 13 1) 13) := by rw [va_up_self, va_up_self]
  generalize (va_up M 13 1) = M1 at hw f1 o1 z1
  generalize (va_up Z 13 (lnM 1)) = Z1 at hw f1 z1
  have e12 := f1.1 12 (by decide) (by decide)
  have one : 1 < mM := lim20 (by decide)
  refine lv_aload_n hx hb d_M_fits_7 rfl (lv_at hl 0 rfl) ?_
  refine lv_bipush (v := nI 12) hx hb d_M_fits_8 (by decide +kernel) ?_
  refine lv_bipush (v := nI 13) hx hb d_M_fits_10 (by decide +kernel) ?_
  refine wcV_i (As := [.int (nI 12), .int (nI 13)]) hx hb hC hw (k_M_order l T F U K I O M1 Z1 G 12 13 (by omega) (by omega) (by rw [e12.1, e12.2]; exact hzx) z1 (f1.2 12 (by omega)) (f1.2 13 (by omega))) lk_M_79 rfl rfl ⟨by show 0 + 1 ≤ R.frames; omega, by show 8 + (6 + 11) + 0 ≤ R.locals; omega⟩ (by omega) (we_Model ) rfl rfl hl.1 rfl (Nat.le_of_ble_eq_true rfl) ⟨Nat.zero_le _, Nat.zero_le _⟩ d_M_fits_12 (fun H locs hw => ?_)
  refine lv_if_gt (tgt := 20) hx hb d_M_fits_15 (by decide) (fun h0 => ?_) (fun h0 => ?_)
  · replace h0 : 1 < M 12 := by have q := cmp3_gz.mp h0; rw [o1, e12.1] at q; exact q
    refine lv_iconst (v := nI 0) hx hb d_M_fits_20 (by decide +kernel) ?_
    refine lv_istore_n hx hb d_M_fits_21 rfl hl (by decide) rfl (fun ls hl => ?_)
    have hl : lv_has ls 4 [(3, .int (nI 0)), (0, .ref (wa T 91)), (1, .int (nI a)), (2, .int (nI k))] := hl
    have lp : ∀ (z9 i : Nat) (M9 : Nat → Nat) (Z9 : Nat → Nat) (ls : Array Slot) (H : Heap) (locs : List Loc), k - i = z9 → i ≤ k → (mfr 13 14 M Z M9 Z9) → (M9 13 = M 12 ^ i) → (M 12 ^ i ≤ M a) → (Z9 13 = lnM (M9 13)) →  lv_has ls 4 [(3, .int (nI i)), (0, .ref (wa T 91)), (1, .int (nI a)), (2, .int (nI k))] → wH T F U K (gI I (dgm M9) Z9 G) O (wA T) s s.heap H locs → W p l e R s m args below meth c H locs 0 0 Q (F0 m 22 ls []) := by
      intro z9
      induction z9 with
      | zero =>
        intro i M9 Z9 ls H locs hn hle h1 h2 h3 h4 hl hw
        refine lv_iload_n hx hb d_M_fits_22 rfl (lv_at hl 0 rfl) ?_
        refine lv_iload_n hx hb d_M_fits_23 rfl (lv_at hl 3 rfl) ?_
        refine n_icmp_ge (tgt := 63) hx hb d_M_fits_24 (by decide) (by omega) (by omega) (fun h0 => ?_) (fun h0 => ?_)
        · have e9 : k = i := by omega
          refine lv_iconst (v := nI 1) hx hb d_M_fits_63 (by decide +kernel) ?_
          have h9 : bI (decide (M 12 ^ k ≤ M a)) = nI 1 := by rw [decide_eq_true (by rw [e9]; exact h3)]; rfl
          rw [h9] at hret
          exact hret _ _ _ _ _ _ _ (⟨h1, rfl⟩) hw d_M_fits_64
        · exact absurd h0 (by omega)
      | succ z9 ih =>
        intro i M9 Z9 ls H locs hn hle h1 h2 h3 h4 hl hw
        refine lv_iload_n hx hb d_M_fits_22 rfl (lv_at hl 0 rfl) ?_
        refine lv_iload_n hx hb d_M_fits_23 rfl (lv_at hl 3 rfl) ?_
        refine n_icmp_ge (tgt := 63) hx hb d_M_fits_24 (by decide) (by omega) (by omega) (fun h0 => ?_) (fun h0 => ?_)
        · exact absurd h0 (by omega)
        · have q12 := h1.1 12 (by decide) (by decide)
          have qa := h1.1 a (by omega) (by omega)
          have l9 : M9 13 < m1024 := by rw [h2]; exact Nat.lt_of_le_of_lt h3 hfa
          have ep : M9 12 * M9 13 = M 12 ^ (i + 1) := by rw [q12.1, h2, Nat.pow_succ, Nat.mul_comm]
          refine lv_aload_n hx hb d_M_fits_27 rfl (lv_at hl 1 rfl) ?_
          refine lv_bipush (v := nI 12) hx hb d_M_fits_28 (by decide +kernel) ?_
          refine lv_bipush (v := nI 13) hx hb d_M_fits_30 (by decide +kernel) ?_
          refine lv_bipush (v := nI 14) hx hb d_M_fits_32 (by decide +kernel) ?_
          refine wcV_v (As := [.int (nI 12), .int (nI 13), .int (nI 14)]) hx hb hC hw (k_M_times l T F U K I O M9 Z9 G 12 13 14 (by omega) (by omega) (by omega) (by omega) (by omega) (by rw [q12.1, q12.2]; exact hzx) h4 (h1.2 12 (by omega)) (h1.2 13 (by omega)) (ln_sum (by rw [q12.1]; exact hfx) l9)) lk_M_63 rfl rfl ⟨by show 1 + 1 ≤ R.frames; omega, by show 8 + (10 + 11) + 22 ≤ R.locals; omega⟩ (by omega) (we_Model ) rfl rfl hl.1 rfl (Nat.le_of_ble_eq_true rfl) ⟨Nat.zero_le _, Nat.zero_le _⟩ d_M_fits_34 (fun H locs hw => ?_)
          rw [ep] at hw
          have lp9 : M 12 ^ (i + 1) < mM := by rw [← ep]; exact b107 (pr_mM (by rw [q12.1]; exact hfx) l9)
          have f2 : mfr 13 14 M Z (va_up M9 14 (M 12 ^ (i + 1))) (va_up Z9 14 (lnM (M 12 ^ (i + 1)))) := mfr_up h1 (Or.inr rfl) lp9
          have o2 : (va_up M9 14 (M 12 ^ (i + 1))) 14 = M 12 ^ (i + 1) := va_up_self _ _ _
          have z2 : (va_up Z9 14 (lnM (M 12 ^ (i + 1)))) 14 = lnM ((va_up M9 14 (M 12 ^ (i + 1))) 14) := by rw [va_up_self, va_up_self]
          generalize (va_up M9 14 (M 12 ^ (i + 1))) = M2 at hw f2 o2 z2
          generalize (va_up Z9 14 (lnM (M 12 ^ (i + 1)))) = Z2 at hw f2 z2
          have ra := f2.1 a (by omega) (by omega)
          refine lv_aload_n hx hb d_M_fits_37 rfl (lv_at hl 1 rfl) ?_
          refine lv_bipush (v := nI 14) hx hb d_M_fits_38 (by decide +kernel) ?_
          refine lv_iload_n hx hb d_M_fits_40 rfl (lv_at hl 2 rfl) ?_
          refine wcV_i (As := [.int (nI 14), .int (nI a)]) hx hb hC hw (k_M_order l T F U K I O M2 Z2 G 14 a (by omega) (by omega) z2 (by rw [ra.1, ra.2]; exact hza) (f2.2 14 (by omega)) (f2.2 a (by omega))) lk_M_79 rfl rfl ⟨by show 0 + 1 ≤ R.frames; omega, by show 8 + (6 + 11) + 0 ≤ R.locals; omega⟩ (by omega) (we_Model ) rfl rfl hl.1 rfl (Nat.le_of_ble_eq_true rfl) ⟨Nat.zero_le _, Nat.zero_le _⟩ d_M_fits_41 (fun H locs hw => ?_)
          refine lv_if_le (tgt := 49) hx hb d_M_fits_44 (by decide) (fun h5 => ?_) (fun h5 => ?_)
          · have h6 : M 12 ^ (i + 1) ≤ M a := by have q := cmp3_le.mp h5; rw [o2, ra.1] at q; exact q
            refine lv_aload_n hx hb d_M_fits_49 rfl (lv_at hl 1 rfl) ?_
            refine lv_bipush (v := nI 14) hx hb d_M_fits_50 (by decide +kernel) ?_
            refine lv_bipush (v := nI 13) hx hb d_M_fits_52 (by decide +kernel) ?_
            refine wcV_v (As := [.int (nI 14), .int (nI 13)]) hx hb hC hw (k_M_move l T F U K I O M2 Z2 G 14 13 (by omega) (by omega)) lk_M_40 rfl rfl ⟨by show 0 + 1 ≤ R.frames; omega, by show 8 + (4 + 11) + 0 ≤ R.locals; omega⟩ (by omega) (we_Model ) rfl rfl hl.1 rfl (Nat.le_of_ble_eq_true rfl) ⟨Nat.zero_le _, Nat.zero_le _⟩ d_M_fits_54 (fun H locs hw => ?_)
            refine lv_iinc (v := nI (i + 1)) hx hb d_M_fits_57 hl (k := 0) rfl (nI_add _ 1) (by decide) rfl (fun ls hl => ?_)
            have hl : lv_has ls 4 [(3, .int (nI (i + 1))), (0, .ref (wa T 91)), (1, .int (nI a)), (2, .int (nI k))] := hl
            refine lv_goto (tgt := 22) hx hb d_M_fits_60 (by decide) ?_
            exact ih (i + 1) (va_up M2 13 (M2 14)) (va_up Z2 13 (Z2 14)) ls _ _ (by omega) (by omega) (mfr_up f2 (Or.inl rfl) (f2.2 14 (by omega))) ((va_up_self _ _ _).trans o2) h6 (by rw [va_up_self, va_up_self]; exact z2) hl hw
          · have h6 : M a < M 12 ^ (i + 1) := by have q := mt cmp3_le.mpr h5; rw [o2, ra.1] at q; omega
            refine lv_iconst (v := nI 0) hx hb d_M_fits_47 (by decide +kernel) ?_
            have h9 : bI (decide (M 12 ^ k ≤ M a)) = nI 0 := by rw [decide_eq_false (fun q => absurd (Nat.le_trans (Nat.pow_le_pow_right (by omega) (by omega : i + 1 ≤ k)) q) (by omega))]; rfl
            rw [h9] at hret
            exact hret _ _ _ _ _ _ _ (⟨f2, rfl⟩) hw d_M_fits_48
    exact lp k 0 M1 Z1 ls _ _ (by omega) (by omega) f1 (by rw [o1, Nat.pow_zero]) (by rw [Nat.pow_zero]; exact ha0) z1 hl hw
  · replace h0 : M 12 ≤ 1 := by have q := mt cmp3_gz.mpr h0; rw [o1, e12.1] at q; omega
    refine lv_iconst (v := nI 1) hx hb d_M_fits_18 (by decide +kernel) ?_
    have h9 : bI (decide (M 12 ^ k ≤ M a)) = nI 1 := by rw [decide_eq_true (Nat.le_trans (Nat.pow_le_pow_left h0 k) (by rw [Nat.one_pow]; exact ha0))]; rfl
    rw [h9] at hret
    exact hret _ _ _ _ _ _ _ (⟨f1, rfl⟩) hw d_M_fits_19
