/-! the model: timesBy, power, inverse -/
def mf4 (t : Nat) (M Z M' Z' : Nat → Nat) : Prop := (∀ s, s ≠ 14 → s ≠ 15 → s ≠ 16 → s ≠ t → M' s = M s ∧ Z' s = Z s) ∧ ∀ s, s < 20 → M' s < mM
theorem mI.f4 {z : Nat → Int} {M Z M' Z' : Nat → Nat} {G : Nat → Int32} {t : Nat} (h : mI z M Z G) (ht : 12 ≤ t) (hf : mf4 t M Z M' Z') : mI z M' Z' G :=
  ⟨fun i hi => by have q := hf.1 i (by omega) (by omega) (by omega) (by omega); rw [q.1, q.2]; exact h.1 i hi, hf.2⟩
theorem sg_le {x : Int} : sgnI x ≤ 0 ↔ x ≤ 0 := by
  rcases sg_3 x with h | h | h
  · rw [sg_n h]; exact ⟨fun _ => by omega, fun _ => by decide +kernel⟩
  · rw [sg_z h]; exact ⟨fun _ => by omega, fun _ => by decide +kernel⟩
  · rw [sg_p h]; exact ⟨fun q => absurd q (by decide +kernel), fun q => by omega⟩
theorem sg_gt {x : Int} : 0 < sgnI x ↔ 0 < x := by
  have h := sg_le (x := x)
  constructor
  · intro q; exact Int.not_le.mp (fun w => absurd (h.mpr w) (Int32.not_le.mpr q))
  · intro q; exact Int32.not_le.mp (fun w => absurd (h.mp w) (by omega))
theorem iv_step {X Y S T b m q w : Int} {u v e : Int} (hX : X * b = S + u * m) (hY : Y * b = T + v * m) : (X + e * m - (q * Y - m * w)) * b = (S - q * T) + (u - q * v + (w + e) * b) * m := by
  have h1 : (X + e * m - (q * Y - m * w)) * b = X * b - q * (Y * b) + (w + e) * b * m := by grind
  rw [h1, hX, hY]; grind
theorem iv_fin {X b m : Nat} {u : Int} (h : (X : Int) * b = 1 + u * m) : X * b % m = 1 % m := by
  have : ((X * b % m : Nat) : Int) = ((1 % m : Nat) : Int) := by
    push_cast
    rw [h, Int.add_mul_emod_self_right]
  exact_mod_cast this

set_option maxRecDepth 100000 in
set_option maxHeartbeats 4000000 in
theorem k_M_timesBy (l : Launch) (T : wT) (F : wFt) (U K : wUt) (I : wIt) (O : wOt) (M Z : Nat → Nat) (G : Nat → Int32) (a b mo t : Nat) (ha9 : a < 20) (hb9 : b < 20) (hm9 : mo < 14) (ht9 : t < 20) (ha4 : a ≠ 14) (hb4 : b ≠ 14) (hza : Z a = lnM (M a)) (hzb : Z b = lnM (M b)) (hzm : Z mo = lnM (M mo)) (hfa : M a < m1024) (hfb : M b < m1024) (hm0 : 0 < M mo) (hM : ∀ s, s < 20 → M s < mM) : Met l y_M_timesBy (.code y_M_timesBy c_M_timesBy 5 none :: bg) ({ frames := 3, cells := 0, slots := 0, locals := 77 } : Room) (mP T F U K (gI I (dgm M) Z G) O [.ref (wa T 91), .int (nI a), .int (nI b), .int (nI mo), .int (nI t)]) (mQvM T (fun M' Z' G' => mf4 t M Z M' Z' ∧ M' t = M a * M b % M mo ∧ Z' t = lnM (M' t) ∧ G' = G) F U K I O) 0 0 (wA T) := by
  refine wM_vM (by decide) (Nat.le_of_ble_eq_true rfl) ?_
  intro p e R s m args below meth c Q ls hx hb hC hRf hRl hret hl hw
  have hRf : 3 ≤ R.frames := hRf
  have hRl : 77 ≤ R.locals := hRl
  have hl : lv_has ls 5 [(0, .ref (wa T 91)), (1, .int (nI a)), (2, .int (nI b)), (3, .int (nI mo)), (4, .int (nI t))] := hl
  refine lv_aload_n hx hb d_M_timesBy_0 rfl (lv_at hl 0 rfl) ?_
  refine lv_iload_n hx hb d_M_timesBy_1 rfl (lv_at hl 1 rfl) ?_
  refine lv_iload_n hx hb d_M_timesBy_2 rfl (lv_at hl 2 rfl) ?_
  refine lv_bipush (v := nI 14) hx hb d_M_timesBy_3 (by decide +kernel) ?_
  refine wcV_v (As := [.int (nI a), .int (nI b), .int (nI 14)]) hx hb hC hw (k_M_times l T F U K I O M Z G a b 14 ha9 hb9 (by omega) ha4 hb4 hza hzb (hM a ha9) (hM b hb9) (ln_sum hfa hfb)) lk_M_63 rfl rfl ⟨by show 1 + 1 ≤ R.frames; omega, by show 8 + (10 + 11) + 22 ≤ R.locals; omega⟩ (by omega) (we_Model ) rfl rfl hl.1 rfl (Nat.le_of_ble_eq_true rfl) ⟨Nat.zero_le _, Nat.zero_le _⟩ d_M_timesBy_5 (fun H locs hw => ?_)
  have pl := pr_mM hfa hfb
  have n14 : (va_up M 14 (M a * M b)) 14 = M a * M b := va_up_self _ _ _
  have z14 : (va_up Z 14 (lnM (M a * M b))) 14 = lnM ((va_up M 14 (M a * M b)) 14) := by rw [va_up_self, va_up_self]
  have em : (va_up M 14 (M a * M b)) mo = M mo := va_up_ne _ _ (by omega)
  have ezm : (va_up Z 14 (lnM (M a * M b))) mo = Z mo := va_up_ne _ _ (by omega)
  have fr1 : ∀ s, s ≠ 14 → (va_up M 14 (M a * M b)) s = M s ∧ (va_up Z 14 (lnM (M a * M b))) s = Z s := fun s h => ⟨va_up_ne _ _ h, va_up_ne _ _ h⟩
  have mm1 : ∀ s, s < 20 → (va_up M 14 (M a * M b)) s < mM := fun s hs => by rw [va_va]; split; exact b107 pl; exact hM s hs
  generalize (va_up M 14 (M a * M b)) = M1 at hw n14 z14 em fr1 mm1
  generalize (va_up Z 14 (lnM (M a * M b))) = Z1 at hw z14 ezm fr1
  refine lv_aload_n hx hb d_M_timesBy_8 rfl (lv_at hl 0 rfl) ?_
  refine lv_bipush (v := nI 14) hx hb d_M_timesBy_9 (by decide +kernel) ?_
  refine lv_iload_n hx hb d_M_timesBy_11 rfl (lv_at hl 3 rfl) ?_
  refine wcV_v (As := [.int (nI 14), .int (nI mo)]) hx hb hC hw (k_M_split l T F U K I O M1 Z1 G 14 mo (by omega) (by omega) (by omega) (by omega) (by omega) (by omega) z14 (by rw [em, ezm]; exact hzm) (by rw [n14]; exact pl) (mm1 mo (by omega)) (by rw [em]; exact hm0)) lk_M_56 rfl rfl ⟨by show 2 + 1 ≤ R.frames; omega, by show 8 + (10 + 11) + 48 ≤ R.locals; omega⟩ (by omega) (we_Model ) rfl rfl hl.1 rfl (Nat.le_of_ble_eq_true rfl) ⟨Nat.zero_le _, Nat.zero_le _⟩ d_M_timesBy_12 (fun H locs hw => ?_)
  rw [n14, em] at hw
  have rl : M a * M b % M mo ≤ M a * M b := Nat.mod_le _ _
  have ql : M a * M b / M mo ≤ M a * M b := Nat.div_le_self _ _
  have pM := b107 pl
  have n16 : (va_up (va_up M1 16 ((M a * M b) % M mo)) 15 ((M a * M b) / M mo)) 16 = M a * M b % M mo := (va_up_ne _ _ (by decide)).trans (va_up_self _ _ _)
  have z16 : (va_up (va_up Z1 16 (lnM ((M a * M b) % M mo))) 15 (lnM ((M a * M b) / M mo))) 16 = lnM (M a * M b % M mo) := (va_up_ne _ _ (by decide)).trans (va_up_self _ _ _)
  have fr2 : ∀ s, s ≠ 14 → s ≠ 15 → s ≠ 16 → (va_up (va_up M1 16 ((M a * M b) % M mo)) 15 ((M a * M b) / M mo)) s = M s ∧ (va_up (va_up Z1 16 (lnM ((M a * M b) % M mo))) 15 (lnM ((M a * M b) / M mo))) s = Z s := fun s h1 h2 h3 => by rw [va_up_ne _ _ h2, va_up_ne _ _ h3, va_up_ne _ _ h2, va_up_ne _ _ h3]; exact fr1 s h1
  have mm2 : ∀ s, s < 20 → (va_up (va_up M1 16 ((M a * M b) % M mo)) 15 ((M a * M b) / M mo)) s < mM := fun s hs => by
      rw [va_va]; split
      · omega
      · rw [va_va]; split
        · omega
        · exact mm1 s hs
  generalize (va_up (va_up M1 16 ((M a * M b) % M mo)) 15 ((M a * M b) / M mo)) = M2 at hw n16 fr2 mm2
  generalize (va_up (va_up Z1 16 (lnM ((M a * M b) % M mo))) 15 (lnM ((M a * M b) / M mo))) = Z2 at hw z16 fr2
  refine lv_aload_n hx hb d_M_timesBy_15 rfl (lv_at hl 0 rfl) ?_
  refine lv_bipush (v := nI 16) hx hb d_M_timesBy_16 (by decide +kernel) ?_
  refine lv_iload hx hb d_M_timesBy_18 (lv_at hl 4 rfl) ?_
  refine wcV_v (As := [.int (nI 16), .int (nI t)]) hx hb hC hw (k_M_move l T F U K I O M2 Z2 G 16 t (by omega) ht9) lk_M_40 rfl rfl ⟨by show 0 + 1 ≤ R.frames; omega, by show 8 + (4 + 11) + 0 ≤ R.locals; omega⟩ (by omega) (we_Model ) rfl rfl hl.1 rfl (Nat.le_of_ble_eq_true rfl) ⟨Nat.zero_le _, Nat.zero_le _⟩ d_M_timesBy_20 (fun H locs hw => ?_)
  exact hret _ _ _ _ _ _ _ (⟨⟨fun s h1 h2 h3 h4 => by rw [va_up_ne _ _ h4, va_up_ne _ _ h4]; exact fr2 s h1 h2 h3, fun s hs => by rw [va_va]; split; exact mm2 16 (by omega); exact mm2 s hs⟩, (va_up_self _ _ _).trans n16, by rw [va_up_self, va_up_self, z16, n16], rfl⟩) hw d_M_timesBy_23
set_option maxRecDepth 100000 in
set_option maxHeartbeats 4000000 in
theorem k_M_power (l : Launch) (T : wT) (F : wFt) (U K : wUt) (I : wIt) (O : wOt) (M Z : Nat → Nat) (G : Nat → Int32) (z : Nat → Int) (hm : mI z M Z G) (r a b mo : Int32) : Met l y_M_power (.code y_M_power c_M_power 6 none :: bg) ({ frames := 4, cells := 0, slots := 0, locals := 101 } : Room) (mP T F U K (gI I (dgm M) Z G) O [.ref (wa T 91), .int r, .int a, .int b, .int mo]) (mQvM T (fun M' Z' G' => mI (zF (ocG (isR r ∧ isR a ∧ isR b ∧ isR mo) (pwC (z (rg b)) (z (rg mo)))) (va_up z (rg r) ((pwW (z (rg a)) (z (rg b)) (z (rg mo)) : Nat) : Int)) z) M' Z' G') F U (va_up K 15 (nI (ocG (isR r ∧ isR a ∧ isR b ∧ isR mo) (pwC (z (rg b)) (z (rg mo)))))) I O) 0 0 (wA T) := by
  refine wM_vM (by decide) (Nat.le_of_ble_eq_true rfl) ?_
  intro p e R s m args below meth c Q ls hx hb hC hRf hRl hret hl hw
  have hRf : 4 ≤ R.frames := hRf
  have hRl : 101 ≤ R.locals := hRl
  have hl : lv_has ls 6 [(0, .ref (wa T 91)), (1, .int r), (2, .int a), (3, .int b), (4, .int mo)] := hl
  refine lv_aload_n hx hb d_M_power_0 rfl (lv_at hl 0 rfl) ?_
  refine lv_iload_n hx hb d_M_power_1 rfl (lv_at hl 1 rfl) ?_
  refine wcS_z (As := [.int r]) hx hb hC hw (k_M_is l T F U K (gI I (dgm M) Z G) O r) lk_M_66 rfl rfl ⟨by show 0 + 1 ≤ R.frames; omega, by show 8 + (1 + 11) + 0 ≤ R.locals; omega⟩ rfl hl.1 rfl (Nat.le_of_ble_eq_true rfl) ⟨Nat.zero_le _, Nat.zero_le _⟩ d_M_power_2 (fun H locs hw => ?_)
  by_cases h_r : isR r
  rotate_left
  · refine sw_i (y := nI 0) (by rw [decide_eq_false h_r]; rfl) ?_
    refine n_if_eq (tgt := 30) hx hb d_M_power_5 (by decide) (by omega) (fun hw9 => ?_) (fun hw9 => absurd hw9 (by decide))
    refine lv_iconst (v := nI 1) hx hb d_M_power_30 (by decide +kernel) ?_
    refine lv_goto (tgt := 58) hx hb d_M_power_31 (by decide) ?_
    refine wp_Model_code hx hb hC hw bw_817 d_M_power_58 (fun H locs hw => ?_)
    refine lv_aload_n hx hb d_M_power_61 rfl (lv_at hl 0 rfl) ?_
    refine wg_Model_code hx hb hC hw bw_817 d_M_power_62 ?_
    refine sw_i (y := nI 1) (va_up_self _ _ _) ?_
    refine n_if_le (tgt := 69) hx hb d_M_power_65 (by decide) (by omega) (fun hw9 => absurd hw9 (by decide)) (fun hw9 => ?_)
    rw [ocG_1 (fun e => h_r e.1)] at hret
    exact hret _ _ _ _ _ _ _ (by rw [zF_n (by decide)]; exact hm) hw d_M_power_68
  refine sw_i (y := nI 1) (by rw [decide_eq_true h_r]; rfl) ?_
  obtain ⟨x, hx9, rfl⟩ := isR_of h_r
  have hl : lv_has ls 6 [(0, .ref (wa T 91)), (1, .int (nI x)), (2, .int a), (3, .int b), (4, .int mo)] := hl
  refine n_if_eq (tgt := 30) hx hb d_M_power_5 (by decide) (by omega) (fun hw9 => absurd hw9 (by decide)) (fun hw9 => ?_)
  refine lv_iload_n hx hb d_M_power_8 rfl (lv_at hl 2 rfl) ?_
  refine wcS_z (As := [.int a]) hx hb hC hw (k_M_is l T F U K (gI I (dgm M) Z G) O a) lk_M_66 rfl rfl ⟨by show 0 + 1 ≤ R.frames; omega, by show 8 + (1 + 11) + 0 ≤ R.locals; omega⟩ rfl hl.1 rfl (Nat.le_of_ble_eq_true rfl) ⟨Nat.zero_le _, Nat.zero_le _⟩ d_M_power_9 (fun H locs hw => ?_)
  by_cases h_a : isR a
  rotate_left
  · refine sw_i (y := nI 0) (by rw [decide_eq_false h_a]; rfl) ?_
    refine n_if_eq (tgt := 30) hx hb d_M_power_12 (by decide) (by omega) (fun hw9 => ?_) (fun hw9 => absurd hw9 (by decide))
    refine lv_iconst (v := nI 1) hx hb d_M_power_30 (by decide +kernel) ?_
    refine lv_goto (tgt := 58) hx hb d_M_power_31 (by decide) ?_
    refine wp_Model_code hx hb hC hw bw_817 d_M_power_58 (fun H locs hw => ?_)
    refine lv_aload_n hx hb d_M_power_61 rfl (lv_at hl 0 rfl) ?_
    refine wg_Model_code hx hb hC hw bw_817 d_M_power_62 ?_
    refine sw_i (y := nI 1) (va_up_self _ _ _) ?_
    refine n_if_le (tgt := 69) hx hb d_M_power_65 (by decide) (by omega) (fun hw9 => absurd hw9 (by decide)) (fun hw9 => ?_)
    rw [ocG_1 (fun e => h_a e.2.1)] at hret
    exact hret _ _ _ _ _ _ _ (by rw [zF_n (by decide)]; exact hm) hw d_M_power_68
  refine sw_i (y := nI 1) (by rw [decide_eq_true h_a]; rfl) ?_
  obtain ⟨i, hi9, rfl⟩ := isR_of h_a
  have hl : lv_has ls 6 [(0, .ref (wa T 91)), (1, .int (nI x)), (2, .int (nI i)), (3, .int b), (4, .int mo)] := hl
  refine n_if_eq (tgt := 30) hx hb d_M_power_12 (by decide) (by omega) (fun hw9 => absurd hw9 (by decide)) (fun hw9 => ?_)
  refine lv_iload_n hx hb d_M_power_15 rfl (lv_at hl 3 rfl) ?_
  refine wcS_z (As := [.int b]) hx hb hC hw (k_M_is l T F U K (gI I (dgm M) Z G) O b) lk_M_66 rfl rfl ⟨by show 0 + 1 ≤ R.frames; omega, by show 8 + (1 + 11) + 0 ≤ R.locals; omega⟩ rfl hl.1 rfl (Nat.le_of_ble_eq_true rfl) ⟨Nat.zero_le _, Nat.zero_le _⟩ d_M_power_16 (fun H locs hw => ?_)
  by_cases h_b : isR b
  rotate_left
  · refine sw_i (y := nI 0) (by rw [decide_eq_false h_b]; rfl) ?_
    refine n_if_eq (tgt := 30) hx hb d_M_power_19 (by decide) (by omega) (fun hw9 => ?_) (fun hw9 => absurd hw9 (by decide))
    refine lv_iconst (v := nI 1) hx hb d_M_power_30 (by decide +kernel) ?_
    refine lv_goto (tgt := 58) hx hb d_M_power_31 (by decide) ?_
    refine wp_Model_code hx hb hC hw bw_817 d_M_power_58 (fun H locs hw => ?_)
    refine lv_aload_n hx hb d_M_power_61 rfl (lv_at hl 0 rfl) ?_
    refine wg_Model_code hx hb hC hw bw_817 d_M_power_62 ?_
    refine sw_i (y := nI 1) (va_up_self _ _ _) ?_
    refine n_if_le (tgt := 69) hx hb d_M_power_65 (by decide) (by omega) (fun hw9 => absurd hw9 (by decide)) (fun hw9 => ?_)
    rw [ocG_1 (fun e => h_b e.2.2.1)] at hret
    exact hret _ _ _ _ _ _ _ (by rw [zF_n (by decide)]; exact hm) hw d_M_power_68
  refine sw_i (y := nI 1) (by rw [decide_eq_true h_b]; rfl) ?_
  obtain ⟨j, hj9, rfl⟩ := isR_of h_b
  have hl : lv_has ls 6 [(0, .ref (wa T 91)), (1, .int (nI x)), (2, .int (nI i)), (3, .int (nI j)), (4, .int mo)] := hl
  refine n_if_eq (tgt := 30) hx hb d_M_power_19 (by decide) (by omega) (fun hw9 => absurd hw9 (by decide)) (fun hw9 => ?_)
  refine lv_iload hx hb d_M_power_22 (lv_at hl 4 rfl) ?_
  refine wcS_z (As := [.int mo]) hx hb hC hw (k_M_is l T F U K (gI I (dgm M) Z G) O mo) lk_M_66 rfl rfl ⟨by show 0 + 1 ≤ R.frames; omega, by show 8 + (1 + 11) + 0 ≤ R.locals; omega⟩ rfl hl.1 rfl (Nat.le_of_ble_eq_true rfl) ⟨Nat.zero_le _, Nat.zero_le _⟩ d_M_power_24 (fun H locs hw => ?_)
  by_cases h_mo : isR mo
  rotate_left
  · refine sw_i (y := nI 0) (by rw [decide_eq_false h_mo]; rfl) ?_
    refine n_if_ne (tgt := 34) hx hb d_M_power_27 (by decide) (by omega) (fun hw9 => absurd hw9 (by decide)) (fun hw9 => ?_)
    refine lv_iconst (v := nI 1) hx hb d_M_power_30 (by decide +kernel) ?_
    refine lv_goto (tgt := 58) hx hb d_M_power_31 (by decide) ?_
    refine wp_Model_code hx hb hC hw bw_817 d_M_power_58 (fun H locs hw => ?_)
    refine lv_aload_n hx hb d_M_power_61 rfl (lv_at hl 0 rfl) ?_
    refine wg_Model_code hx hb hC hw bw_817 d_M_power_62 ?_
    refine sw_i (y := nI 1) (va_up_self _ _ _) ?_
    refine n_if_le (tgt := 69) hx hb d_M_power_65 (by decide) (by omega) (fun hw9 => absurd hw9 (by decide)) (fun hw9 => ?_)
    rw [ocG_1 (fun e => h_mo e.2.2.2)] at hret
    exact hret _ _ _ _ _ _ _ (by rw [zF_n (by decide)]; exact hm) hw d_M_power_68
  refine sw_i (y := nI 1) (by rw [decide_eq_true h_mo]; rfl) ?_
  obtain ⟨k, hk9, rfl⟩ := isR_of h_mo
  have hl : lv_has ls 6 [(0, .ref (wa T 91)), (1, .int (nI x)), (2, .int (nI i)), (3, .int (nI j)), (4, .int (nI k))] := hl
  refine n_if_ne (tgt := 34) hx hb d_M_power_27 (by decide) (by omega) (fun hw9 => ?_) (fun hw9 => absurd hw9 (by decide))
  have gg : isR (nI x) ∧ isR (nI i) ∧ isR (nI j) ∧ isR (nI k) := ⟨h_r, h_a, h_b, h_mo⟩
  rw [ocG_k gg, rg_nI hx9, rg_nI hi9, rg_nI hj9, rg_nI hk9] at hret
  have hi := hm.1 i hi9
  have hj := hm.1 j hj9
  have hk := hm.1 k hk9
  refine lv_aload_n hx hb d_M_power_34 rfl (lv_at hl 0 rfl) ?_
  refine wg_Model_sign hx hb hC hw bw_820 d_M_power_35 ?_
  refine lv_iload hx hb d_M_power_38 (lv_at hl 4 rfl) ?_
  refine wl_msign hx hb hw (by omega) d_M_power_40 ?_
  refine sw_i (y := (G k)) (rfl) ?_
  refine sw_i (y := (sgnI (z k))) (hk.2.2.2) ?_
  refine lv_if_le (tgt := 53) hx hb d_M_power_41 (by decide) (fun hs => ?_) (fun hs => ?_)
  · rw [show pwC (z j) (z k) = 2 from if_pos (Or.inl (sg_le.mp hs))] at hret
    refine lv_iconst (v := nI 2) hx hb d_M_power_53 (by decide +kernel) ?_
    refine lv_goto (tgt := 58) hx hb d_M_power_54 (by decide) ?_
    refine wp_Model_code hx hb hC hw bw_817 d_M_power_58 (fun H locs hw => ?_)
    refine lv_aload_n hx hb d_M_power_61 rfl (lv_at hl 0 rfl) ?_
    refine wg_Model_code hx hb hC hw bw_817 d_M_power_62 ?_
    refine sw_i (y := nI 2) (va_up_self _ _ _) ?_
    refine n_if_le (tgt := 69) hx hb d_M_power_65 (by decide) (by omega) (fun hw9 => absurd hw9 (by decide)) (fun hw9 => ?_)
    exact hret _ _ _ _ _ _ _ (by rw [zF_n (by decide)]; exact hm) hw d_M_power_68
  have hkp : 0 < z k := Int.not_le.mp (fun q => hs (sg_le.mpr q))
  refine lv_aload_n hx hb d_M_power_44 rfl (lv_at hl 0 rfl) ?_
  refine wg_Model_sign hx hb hC hw bw_820 d_M_power_45 ?_
  refine lv_iload_n hx hb d_M_power_48 rfl (lv_at hl 3 rfl) ?_
  refine wl_msign hx hb hw (by omega) d_M_power_49 ?_
  refine sw_i (y := (G j)) (rfl) ?_
  refine sw_i (y := (sgnI (z j))) (hj.2.2.2) ?_
  refine lv_if_ge (tgt := 57) hx hb d_M_power_50 (by decide) (fun hs2 => ?_) (fun hs2 => ?_)
  rotate_left
  · rw [show pwC (z j) (z k) = 2 from if_pos (Or.inr (sg_lt.mp (Int32.not_le.mp hs2)))] at hret
    refine lv_iconst (v := nI 2) hx hb d_M_power_53 (by decide +kernel) ?_
    refine lv_goto (tgt := 58) hx hb d_M_power_54 (by decide) ?_
    refine wp_Model_code hx hb hC hw bw_817 d_M_power_58 (fun H locs hw => ?_)
    refine lv_aload_n hx hb d_M_power_61 rfl (lv_at hl 0 rfl) ?_
    refine wg_Model_code hx hb hC hw bw_817 d_M_power_62 ?_
    refine sw_i (y := nI 2) (va_up_self _ _ _) ?_
    refine n_if_le (tgt := 69) hx hb d_M_power_65 (by decide) (by omega) (fun hw9 => absurd hw9 (by decide)) (fun hw9 => ?_)
    exact hret _ _ _ _ _ _ _ (by rw [zF_n (by decide)]; exact hm) hw d_M_power_68
  have hjp : ¬ z j < 0 := fun q => absurd (sg_lt.mpr q) (Int32.not_lt.mpr hs2)
  rw [show pwC (z j) (z k) = 0 from if_neg (fun q => q.elim (by omega) hjp), zF_0 rfl] at hret
  have hk0 : 0 < M k := by rw [hk.2.1]; omega
  have lk := hm.lt hk9
  have li := hm.lt hi9
  refine lv_iconst (v := nI 0) hx hb d_M_power_57 (by decide +kernel) ?_
  refine wp_Model_code hx hb hC hw bw_817 d_M_power_58 (fun H locs hw => ?_)
  refine lv_aload_n hx hb d_M_power_61 rfl (lv_at hl 0 rfl) ?_
  refine wg_Model_code hx hb hC hw bw_817 d_M_power_62 ?_
  refine sw_i (y := nI 0) (va_up_self _ _ _) ?_
  refine n_if_le (tgt := 69) hx hb d_M_power_65 (by decide) (by omega) (fun hw9 => ?_) (fun hw9 => absurd hw9 (by decide))
  refine lv_aload_n hx hb d_M_power_69 rfl (lv_at hl 0 rfl) ?_
  refine lv_iload_n hx hb d_M_power_70 rfl (lv_at hl 2 rfl) ?_
  refine lv_iload hx hb d_M_power_71 (lv_at hl 4 rfl) ?_
  refine lv_bipush (v := nI 17) hx hb d_M_power_73 (by decide +kernel) ?_
  refine wcV_v (As := [.int (nI i), .int (nI k), .int (nI 17)]) hx hb hC hw (k_M_reduce l T F U (va_up K 15 (nI 0)) I O M Z G i k 17 (decide (z i < 0)) (by omega) (by omega) (by omega) hi.2.2.1 hk.2.2.1 (m107_of li) (hm.2 k (by omega)) hk0 (by rw [hi.2.2.2, sg_lt]; exact decide_eq_true_iff)) lk_M_115 rfl rfl ⟨by show 3 + 1 ≤ R.frames; omega, by show 8 + (4 + 11) + 77 ≤ R.locals; omega⟩ (by omega) (we_Model ) rfl rfl hl.1 rfl (Nat.le_of_ble_eq_true rfl) ⟨Nat.zero_le _, Nat.zero_le _⟩ d_M_power_75 (fun H locs hw => ?_)
  have rl : M i % M k < M k := Nat.mod_lt _ hk0
  have ql : M i / M k ≤ M i := Nat.div_le_self _ _
  have mi := mM_of li
  have mk := mM_of lk
  have gl : rdc (decide (z i < 0)) (M i) (M k) < M k := rdc_lt hk0
  have hm1 : mI z (va_up (va_up (va_up M 16 (M i % M k)) 15 (M i / M k)) 17 (rdc (decide (z i < 0)) (M i) (M k))) (va_up (va_up (va_up Z 16 (lnM (M i % M k))) 15 (lnM (M i / M k))) 17 (lnM (rdc (decide (z i < 0)) (M i) (M k)))) G := ((hm.out (by omega) (by omega)).out (by omega) (by omega)).out (by omega) (by omega)
  have n17 : (va_up (va_up (va_up M 16 (M i % M k)) 15 (M i / M k)) 17 (rdc (decide (z i < 0)) (M i) (M k))) 17 = rdI (z i) (z k) := (va_up_self _ _ _).trans (by rw [hi.2.1, hk.2.1]; rfl)
  have z17 : (va_up (va_up (va_up Z 16 (lnM (M i % M k))) 15 (lnM (M i / M k))) 17 (lnM (rdc (decide (z i < 0)) (M i) (M k)))) 17 = lnM ((va_up (va_up (va_up M 16 (M i % M k)) 15 (M i / M k)) 17 (rdc (decide (z i < 0)) (M i) (M k))) 17) := by rw [va_up_self, va_up_self]
  have gl2 : rdI (z i) (z k) < (z k).natAbs := rdc_lt (by omega)
  generalize (va_up (va_up (va_up M 16 (M i % M k)) 15 (M i / M k)) 17 (rdc (decide (z i < 0)) (M i) (M k))) = M1 at hw hm1 n17 z17
  generalize (va_up (va_up (va_up Z 16 (lnM (M i % M k))) 15 (lnM (M i / M k))) 17 (lnM (rdc (decide (z i < 0)) (M i) (M k)))) = Z1 at hw hm1 z17
  refine lv_aload_n hx hb d_M_power_78 rfl (lv_at hl 0 rfl) ?_
  refine lv_bipush (v := nI 12) hx hb d_M_power_79 (by decide +kernel) ?_
  refine lv_iconst (v := nI 1) hx hb d_M_power_81 (by decide +kernel) ?_
  refine wcV_v (As := [.int (nI 12), .int (nI 1)]) hx hb hC hw (k_M_small l T F U (va_up K 15 (nI 0)) I O M1 Z1 G 12 1 (by omega) (by decide)) lk_M_93 rfl rfl ⟨by show 1 + 1 ≤ R.frames; omega, by show 8 + (3 + 11) + 22 ≤ R.locals; omega⟩ (by omega) (we_Model ) rfl rfl hl.1 rfl (Nat.le_of_ble_eq_true rfl) ⟨Nat.zero_le _, Nat.zero_le _⟩ d_M_power_82 (fun H locs hw => ?_)
  have hm2 : mI z (va_up M1 12 1) (va_up Z1 12 (lnM 1)) G := hm1.out (by omega) (lim20 (by decide))
  have n12 : (va_up M1 12 1) 12 = 1 := va_up_self _ _ _
  have z12 : (va_up Z1 12 (lnM 1)) 12 = lnM ((va_up M1 12 1) 12) := by rw [va_up_self, va_up_self]
  have p17 : (va_up M1 12 1) 17 = rdI (z i) (z k) := (va_up_ne _ _ (by decide)).trans n17
  have y17 : (va_up Z1 12 (lnM 1)) 17 = lnM ((va_up M1 12 1) 17) := by rw [va_up_ne _ _ (by decide), va_up_ne _ _ (by decide)]; exact z17
  generalize (va_up M1 12 1) = M2 at hw hm2 n12 z12 p17 y17
  generalize (va_up Z1 12 (lnM 1)) = Z2 at hw hm2 z12 y17
  have k2 := hm2.1 k hk9
  refine lv_aload_n hx hb d_M_power_85 rfl (lv_at hl 0 rfl) ?_
  refine lv_bipush (v := nI 12) hx hb d_M_power_86 (by decide +kernel) ?_
  refine lv_iload hx hb d_M_power_88 (lv_at hl 4 rfl) ?_
  refine wcV_v (As := [.int (nI 12), .int (nI k)]) hx hb hC hw (k_M_split l T F U (va_up K 15 (nI 0)) I O M2 Z2 G 12 k (by omega) (by omega) (by omega) (by omega) (by omega) (by omega) z12 k2.2.2.1 (by rw [n12]; exact m107_of (Nat.lt_of_lt_of_le (by decide : 1 < 2 ^ 1) (Nat.pow_le_pow_right (by decide) (by decide)))) (hm2.2 k (by omega)) (by rw [k2.2.1]; omega)) lk_M_56 rfl rfl ⟨by show 2 + 1 ≤ R.frames; omega, by show 8 + (10 + 11) + 48 ≤ R.locals; omega⟩ (by omega) (we_Model ) rfl rfl hl.1 rfl (Nat.le_of_ble_eq_true rfl) ⟨Nat.zero_le _, Nat.zero_le _⟩ d_M_power_90 (fun H locs hw => ?_)
  rw [n12, k2.2.1] at hw
  have r1 : 1 % (z k).natAbs < (z k).natAbs := Nat.mod_lt _ (by omega)
  have q1 : 1 / (z k).natAbs ≤ 1 := Nat.div_le_self _ _
  have one := lim20 (v := 1) (by decide)
  have mzk := mM_of hk.1
  have hm3 : mI z (va_up (va_up M2 16 (1 % (z k).natAbs)) 15 (1 / (z k).natAbs)) (va_up (va_up Z2 16 (lnM (1 % (z k).natAbs))) 15 (lnM (1 / (z k).natAbs))) G := (hm2.out (by omega) (by omega)).out (by omega) (by omega)
  have n16 : (va_up (va_up M2 16 (1 % (z k).natAbs)) 15 (1 / (z k).natAbs)) 16 = 1 % (z k).natAbs := (va_up_ne _ _ (by decide)).trans (va_up_self _ _ _)
  have z16 : (va_up (va_up Z2 16 (lnM (1 % (z k).natAbs))) 15 (lnM (1 / (z k).natAbs))) 16 = lnM ((va_up (va_up M2 16 (1 % (z k).natAbs)) 15 (1 / (z k).natAbs)) 16) := by rw [va_up_ne _ _ (by decide), va_up_self, va_up_ne _ _ (by decide), va_up_self]
  have s17 : (va_up (va_up M2 16 (1 % (z k).natAbs)) 15 (1 / (z k).natAbs)) 17 = rdI (z i) (z k) := ((va_up_ne _ _ (by decide)).trans (va_up_ne _ _ (by decide))).trans p17
  have w17 : (va_up (va_up Z2 16 (lnM (1 % (z k).natAbs))) 15 (lnM (1 / (z k).natAbs))) 17 = lnM ((va_up (va_up M2 16 (1 % (z k).natAbs)) 15 (1 / (z k).natAbs)) 17) := by rw [va_up_ne _ _ (by decide), va_up_ne _ _ (by decide), va_up_ne _ _ (by decide), va_up_ne _ _ (by decide)]; exact y17
  generalize (va_up (va_up M2 16 (1 % (z k).natAbs)) 15 (1 / (z k).natAbs)) = M3 at hw hm3 n16 z16 s17 w17
  generalize (va_up (va_up Z2 16 (lnM (1 % (z k).natAbs))) 15 (lnM (1 / (z k).natAbs))) = Z3 at hw hm3 z16 w17
  refine lv_aload_n hx hb d_M_power_93 rfl (lv_at hl 0 rfl) ?_
  refine lv_bipush (v := nI 16) hx hb d_M_power_94 (by decide +kernel) ?_
  refine lv_bipush (v := nI 18) hx hb d_M_power_96 (by decide +kernel) ?_
  refine wcV_v (As := [.int (nI 16), .int (nI 18)]) hx hb hC hw (k_M_move l T F U (va_up K 15 (nI 0)) I O M3 Z3 G 16 18 (by omega) (by omega)) lk_M_40 rfl rfl ⟨by show 0 + 1 ≤ R.frames; omega, by show 8 + (4 + 11) + 0 ≤ R.locals; omega⟩ (by omega) (we_Model ) rfl rfl hl.1 rfl (Nat.le_of_ble_eq_true rfl) ⟨Nat.zero_le _, Nat.zero_le _⟩ d_M_power_98 (fun H locs hw => ?_)
  have hm4 : mI z (va_up M3 18 (M3 16)) (va_up Z3 18 (Z3 16)) G := hm3.out (by omega) (hm3.2 16 (by omega))
  have n18 : (va_up M3 18 (M3 16)) 18 = 1 % (z k).natAbs := (va_up_self _ _ _).trans n16
  have z18 : (va_up Z3 18 (Z3 16)) 18 = lnM ((va_up M3 18 (M3 16)) 18) := by rw [va_up_self, va_up_self]; exact z16
  have t17 : (va_up M3 18 (M3 16)) 17 = rdI (z i) (z k) := (va_up_ne _ _ (by decide)).trans s17
  have v17 : (va_up Z3 18 (Z3 16)) 17 = lnM ((va_up M3 18 (M3 16)) 17) := by rw [va_up_ne _ _ (by decide), va_up_ne _ _ (by decide)]; exact w17
  generalize (va_up M3 18 (M3 16)) = M4 at hw hm4 n18 z18 t17 v17
  generalize (va_up Z3 18 (Z3 16)) = Z4 at hw hm4 z18 v17
  have j4 := hm4.1 j hj9
  have jL : (z j).natAbs < vLim := Nat.lt_of_lt_of_le hj.1 m1024_lim
  have jb : bl (z j).natAbs ≤ 1024 := bl_mono hj.1
  refine lv_aload_n hx hb d_M_power_101 rfl (lv_at hl 0 rfl) ?_
  refine lv_iload_n hx hb d_M_power_102 rfl (lv_at hl 3 rfl) ?_
  refine wcV_i (As := [.int (nI j)]) hx hb hC hw (k_M_bitsOf l T F U (va_up K 15 (nI 0)) I O M4 Z4 G j (by omega) j4.2.2.1 (hm4.lt hj9)) lk_M_96 rfl rfl ⟨by show 0 + 1 ≤ R.frames; omega, by show 8 + (4 + 11) + 0 ≤ R.locals; omega⟩ (by omega) (we_Model ) rfl rfl hl.1 rfl (Nat.le_of_ble_eq_true rfl) ⟨Nat.zero_le _, Nat.zero_le _⟩ d_M_power_103 (fun H locs hw => ?_)
  refine sw_i (y := nI (bl (z j).natAbs)) (by rw [j4.2.1]) ?_
  refine lv_iconst (v := nI 1) hx hb d_M_power_106 (by decide +kernel) ?_
  refine lv_isub hx hb d_M_power_107 ?_
  refine sw_i (y := (nI (bl (z j).natAbs) - 1)) (rfl) ?_
  refine lv_istore hx hb d_M_power_108 hl (by decide) rfl (fun ls hl => ?_)
  have hl : lv_has ls 6 [(5, .int (nI (bl (z j).natAbs) - 1)), (0, .ref (wa T 91)), (1, .int (nI x)), (2, .int (nI i)), (3, .int (nI j)), (4, .int (nI k))] := hl
  have lp : ∀ (q : Nat) (M9 : Nat → Nat) (Z9 : Nat → Nat) (ls : Array Slot) (H : Heap) (locs : List Loc), (mI z M9 Z9 G) → (M9 17 = rdI (z i) (z k)) → (M9 18 = rdI (z i) (z k) ^ ((z j).natAbs / 2 ^ q) % (z k).natAbs) → (Z9 17 = lnM (M9 17)) → (Z9 18 = lnM (M9 18)) → (q ≤ 1024) →  lv_has ls 6 [(5, .int (nI q - 1)), (0, .ref (wa T 91)), (1, .int (nI x)), (2, .int (nI i)), (3, .int (nI j)), (4, .int (nI k))] → wH T F U (va_up K 15 (nI 0)) (gI I (dgm M9) Z9 G) O (wA T) s s.heap H locs → W p l e R s m args below meth c H locs 0 0 Q (F0 m 110 ls []) := by
    intro q
    induction q with
    | zero =>
      intro M9 Z9 ls H locs h1 h2 h3 h4 h5 h6 hl hw
      refine lv_iload hx hb d_M_power_110 (lv_at hl 0 rfl) ?_
      refine d_if_lt (tgt := 155) hx hb d_M_power_112 (by decide) (by omega) (fun h0 => ?_) (fun h0 => ?_)
      · rw [Nat.pow_zero, Nat.div_one] at h3
        refine lv_aload_n hx hb d_M_power_155 rfl (lv_at hl 1 rfl) ?_
        refine lv_bipush (v := nI 18) hx hb d_M_power_156 (by decide +kernel) ?_
        refine lv_iload_n hx hb d_M_power_158 rfl (lv_at hl 2 rfl) ?_
        refine lv_iconst (v := nI 1) hx hb d_M_power_159 (by decide +kernel) ?_
        refine wcV_v (As := [.int (nI 18), .int (nI x), .int (nI 1)]) hx hb hC hw (k_M_store l T F U (va_up K 15 (nI 0)) I O M9 Z9 G 18 x (nI 1) (by omega) (by omega) (by rw [h5]; exact lnM_le _)) lk_M_73 rfl rfl ⟨by show 1 + 1 ≤ R.frames; omega, by show 8 + (4 + 11) + 23 ≤ R.locals; omega⟩ (by omega) (we_Model ) rfl rfl hl.1 rfl (Nat.le_of_ble_eq_true rfl) ⟨Nat.zero_le _, Nat.zero_le _⟩ d_M_power_160 (fun H locs hw => ?_)
        exact hret _ _ _ _ _ _ _ (h1.store hx9 (by omega) h3 h5 (Nat.lt_trans (Nat.mod_lt _ (by omega)) hk.1) (fun h => (sg_p (by omega)).symm)) hw d_M_power_163
      · exact absurd h0 (by omega)
    | succ r ih =>
      intro M9 Z9 ls H locs h1 h2 h3 h4 h5 h6 hl hw
      rw [nI_pred] at hl
      have hl : lv_has ls 6 [(5, .int (nI r)), (0, .ref (wa T 91)), (1, .int (nI x)), (2, .int (nI i)), (3, .int (nI j)), (4, .int (nI k))] := hl
      refine lv_iload hx hb d_M_power_110 (lv_at hl 0 rfl) ?_
      refine n_if_lt hx hb d_M_power_112 (by decide) (by omega) ?_
      have k9 := h1.1 k hk9
      have j9 := h1.1 j hj9
      have l18 : M9 18 < m1024 := by rw [h3]; exact Nat.lt_trans (Nat.mod_lt _ (by omega)) hk.1
      refine lv_aload_n hx hb d_M_power_115 rfl (lv_at hl 1 rfl) ?_
      refine lv_bipush (v := nI 18) hx hb d_M_power_116 (by decide +kernel) ?_
      refine lv_bipush (v := nI 18) hx hb d_M_power_118 (by decide +kernel) ?_
      refine lv_iload hx hb d_M_power_120 (lv_at hl 5 rfl) ?_
      refine lv_bipush (v := nI 18) hx hb d_M_power_122 (by decide +kernel) ?_
      refine wcV_vM (As := [.int (nI 18), .int (nI 18), .int (nI k), .int (nI 18)]) hx hb hC hw (k_M_timesBy l T F U (va_up K 15 (nI 0)) I O M9 Z9 G 18 18 k 18 (by omega) (by omega) (by omega) (by omega) (by omega) (by omega) h5 h5 k9.2.2.1 l18 l18 (by rw [k9.2.1]; omega) h1.2) lk_M_118 rfl rfl ⟨by show 3 + 1 ≤ R.frames; omega, by show 8 + (5 + 11) + 77 ≤ R.locals; omega⟩ (by omega) (we_Model ) rfl rfl hl.1 rfl (Nat.le_of_ble_eq_true rfl) ⟨Nat.zero_le _, Nat.zero_le _⟩ d_M_power_124 (fun Ma Za Ga H locs hp9 hw => ?_)
      obtain ⟨fa, na, za, hG⟩ := hp9
      rw [hG] at hw
      have hma : mI z Ma Za G := h1.f4 (by decide) fa
      have a17 := fa.1 17 (by decide) (by decide) (by decide) (by decide)
      have ea : Ma 18 = rdI (z i) (z k) ^ (2 * ((z j).natAbs / 2 ^ (r + 1))) % (z k).natAbs := by rw [na, h3, k9.2.1, pw_sq]
      have hth := tb_half (z j).natAbs r
      have ja := hma.1 j hj9
      have ka := hma.1 k hk9
      refine lv_aload_n hx hb d_M_power_127 rfl (lv_at hl 1 rfl) ?_
      refine lv_iload_n hx hb d_M_power_128 rfl (lv_at hl 4 rfl) ?_
      refine lv_iload hx hb d_M_power_129 (lv_at hl 0 rfl) ?_
      refine wcV_z (As := [.int (nI j), .int (nI r)]) hx hb hC hw (k_M_bitOf l T F U (va_up K 15 (nI 0)) I O Ma Za G j r (by omega) (hma.2 j (by omega)) (by omega)) lk_M_100 rfl rfl ⟨by show 0 + 1 ≤ R.frames; omega, by show 8 + (3 + 11) + 0 ≤ R.locals; omega⟩ (by omega) (we_Model ) rfl rfl hl.1 rfl (Nat.le_of_ble_eq_true rfl) ⟨Nat.zero_le _, Nat.zero_le _⟩ d_M_power_131 (fun H locs hw => ?_)
      refine sw_i (y := (bI ((z j).natAbs.testBit r))) (by rw [ja.2.1]) ?_
      by_cases htb : (z j).natAbs.testBit r = true
      · refine sw_i (y := nI 1) (by rw [htb]; rfl) ?_
        refine n_if_eq (tgt := 149) hx hb d_M_power_134 (by decide) (by omega) (fun hw9 => absurd hw9 (by decide)) (fun hw9 => ?_)
        rw [if_pos htb] at hth
        have la : Ma 18 < m1024 := by rw [ea]; exact Nat.lt_trans (Nat.mod_lt _ (by omega)) hk.1
        have e17 : Ma 17 = rdI (z i) (z k) := a17.1.trans h2
        have y17 : Za 17 = lnM (Ma 17) := by rw [a17.1, a17.2]; exact h4
        refine lv_aload_n hx hb d_M_power_137 rfl (lv_at hl 1 rfl) ?_
        refine lv_bipush (v := nI 18) hx hb d_M_power_138 (by decide +kernel) ?_
        refine lv_bipush (v := nI 17) hx hb d_M_power_140 (by decide +kernel) ?_
        refine lv_iload hx hb d_M_power_142 (lv_at hl 5 rfl) ?_
        refine lv_bipush (v := nI 18) hx hb d_M_power_144 (by decide +kernel) ?_
        refine wcV_vM (As := [.int (nI 18), .int (nI 17), .int (nI k), .int (nI 18)]) hx hb hC hw (k_M_timesBy l T F U (va_up K 15 (nI 0)) I O Ma Za G 18 17 k 18 (by omega) (by omega) (by omega) (by omega) (by omega) (by omega) za y17 ka.2.2.1 la (by rw [e17]; exact Nat.lt_trans gl2 hk.1) (by rw [ka.2.1]; omega) hma.2) lk_M_118 rfl rfl ⟨by show 3 + 1 ≤ R.frames; omega, by show 8 + (5 + 11) + 77 ≤ R.locals; omega⟩ (by omega) (we_Model ) rfl rfl hl.1 rfl (Nat.le_of_ble_eq_true rfl) ⟨Nat.zero_le _, Nat.zero_le _⟩ d_M_power_146 (fun Mb Zb Gb H locs hp8 hw => ?_)
        obtain ⟨fb, nb, zb, hG2⟩ := hp8
        rw [hG2] at hw
        have hmb : mI z Mb Zb G := hma.f4 (by decide) fb
        have b17 := fb.1 17 (by decide) (by decide) (by decide) (by decide)
        have eb : Mb 18 = rdI (z i) (z k) ^ ((z j).natAbs / 2 ^ r) % (z k).natAbs := by rw [nb, ea, e17, ka.2.1, pw_one, ← hth]
        refine lv_iinc (v := (nI r - 1)) hx hb d_M_power_149 hl (k := 0) rfl (i32_m1 _) (by decide) rfl (fun ls hl => ?_)
        have hl : lv_has ls 6 [(5, .int (nI r - 1)), (0, .ref (wa T 91)), (1, .int (nI x)), (2, .int (nI i)), (3, .int (nI j)), (4, .int (nI k))] := hl
        refine lv_goto (tgt := 110) hx hb d_M_power_152 (by decide) ?_
        exact ih Mb Zb ls _ _ hmb (b17.1.trans e17) eb (by rw [b17.1, b17.2]; exact y17) zb (by omega) hl hw
      · refine sw_i (y := nI 0) (by rw [Bool.not_eq_true] at htb; rw [htb]; rfl) ?_
        refine n_if_eq (tgt := 149) hx hb d_M_power_134 (by decide) (by omega) (fun hw9 => ?_) (fun hw9 => absurd hw9 (by decide))
        rw [if_neg htb, Nat.add_zero] at hth
        refine lv_iinc (v := (nI r - 1)) hx hb d_M_power_149 hl (k := 0) rfl (i32_m1 _) (by decide) rfl (fun ls hl => ?_)
        have hl : lv_has ls 6 [(5, .int (nI r - 1)), (0, .ref (wa T 91)), (1, .int (nI x)), (2, .int (nI i)), (3, .int (nI j)), (4, .int (nI k))] := hl
        refine lv_goto (tgt := 110) hx hb d_M_power_152 (by decide) ?_
        exact ih Ma Za ls _ _ hma (a17.1.trans h2) (by rw [ea, ← hth]) (by rw [a17.1, a17.2]; exact h4) za (by omega) hl hw
  exact lp (bl (z j).natAbs) M4 Z4 ls _ _ hm4 t17 (by rw [n18, Nat.div_eq_of_lt (bl_lt jL), Nat.pow_zero]) v17 z18 jb hl hw
