/-! Text: a numeral is written -/
def ndg (b v : Nat) : Nat := max 1 (lm_len b v 1024)
def pL (b v : Nat) (sg : Bool) : Nat := ndg b v + (if sg = true then 1 else 0)
def prT (tx : Nat → Nat) (v b : Nat) (sg : Bool) : Nat → Nat := fun i => if i < pL b v sg then (if sg = true ∧ i = 0 then 45 else cdN (v / b ^ (pL b v sg - 1 - i) % b)) else tx i
theorem ndg_pos (b v : Nat) : 0 < ndg b v := Nat.lt_of_lt_of_le (by decide) (Nat.le_max_left 1 _)
theorem ndg_le (b v : Nat) : ndg b v ≤ 1024 := Nat.max_le.mpr ⟨by decide, lm_len_le _ _ _⟩
theorem ndg_up {b v i : Nat} (hb : 2 ≤ b) (hv : v < m1024) (h : ndg b v ≤ i) : v / b ^ i = 0 := by
  have h1 : v < b ^ 1024 := Nat.lt_of_lt_of_le hv (Nat.pow_le_pow_left hb _)
  have h2 := lm_len_lt (by omega : 0 < b) h1
  have h3 : lm_len b v 1024 ≤ i := Nat.le_trans (Nat.le_max_right 1 _) h
  exact Nat.div_eq_of_lt (Nat.lt_of_lt_of_le h2 (Nat.pow_le_pow_right (by omega) h3))
theorem ndg_lo {b v i : Nat} (hb : 2 ≤ b) (h0 : 0 < i) (h : i < ndg b v) : v / b ^ i ≠ 0 := by
  have h1 : i < lm_len b v 1024 := by
    rcases Nat.lt_or_ge i (lm_len b v 1024) with q | q
    · exact q
    · have : ndg b v ≤ i := Nat.max_le.mpr ⟨h0, q⟩
      omega
  have h2 := lm_len_ge (B := b) (v := v) (n := 1024) (by omega)
  have h3 : b ^ i ≤ b ^ (lm_len b v 1024 - 1) := Nat.pow_le_pow_right (by omega) (by omega)
  have h4 : 0 < v / b ^ i := Nat.div_pos (Nat.le_trans h3 h2) (Nat.pow_pos (by omega))
  omega
theorem cdN_lt {d : Nat} (h : d < 36) : cdN d < 128 := by unfold cdN; split <;> omega
theorem pr_f {tx t1 : Nat → Nat} {v b : Nat} (h : ∀ j, t1 j = if j < ndg b v then cdN (v / b ^ j % b) else tx j) : rvT t1 (ndg b v) = prT tx v b false := by
  funext i; unfold rvT prT pL
  rw [if_neg (show ¬ false = true by decide), Nat.add_zero]
  by_cases c : i < ndg b v
  · rw [if_pos c, if_pos c, h, if_pos (by omega), if_neg (by simp)]
  · rw [if_neg c, if_neg c, h, if_neg c]
theorem pr_t {tx t1 : Nat → Nat} {v b : Nat} (h : ∀ j, t1 j = if j < ndg b v then cdN (v / b ^ j % b) else tx j) : rvT (tU t1 (ndg b v) 45) (ndg b v + 1) = prT tx v b true := by
  funext i; unfold rvT prT pL
  rw [if_pos rfl]
  by_cases c : i < ndg b v + 1
  · rw [if_pos c, if_pos c]
    by_cases c2 : i = 0
    · rw [if_pos ⟨rfl, c2⟩]; unfold tU; rw [if_pos (by omega)]
    · rw [if_neg (by omega)]; unfold tU; rw [if_neg (by omega), h, if_pos (by omega)]
  · rw [if_neg c, if_neg c]; unfold tU; rw [if_neg (by omega), h, if_neg (by omega)]
theorem wr_step {tx t1 : Nat → Nat} {v b i : Nat} (h : ∀ j, t1 j = if j < i then cdN (v / b ^ j % b) else tx j) : ∀ j, tU t1 i (cdN (v / b ^ i % b)) j = if j < i + 1 then cdN (v / b ^ j % b) else tx j := fun j => by
  unfold tU
  by_cases c : j = i
  · rw [if_pos c, if_pos (by omega), c]
  · rw [if_neg c, h j]
    by_cases c2 : j < i
    · rw [if_pos c2, if_pos (by omega)]
    · rw [if_neg c2, if_neg (by omega)]
theorem prT_lt {tx : Nat → Nat} {v b : Nat} {sg : Bool} (hb : 0 < b) (hb2 : b ≤ 36) (h : ∀ i, tx i < 128) : ∀ i, prT tx v b sg i < 128 := fun i => by
  unfold prT; split
  · split
    · decide
    · exact cdN_lt (Nat.lt_of_lt_of_le (Nat.mod_lt _ hb) hb2)
  · exact h i

set_option maxRecDepth 100000 in
set_option maxHeartbeats 4000000 in
theorem k_T_writeNumeral (l : Launch) (T : wT) (V : Nat → Nat) (K : wUt) (I : wIt) (O : wOt) (b9 : Nat) (sg : Bool) (tx : Nat → Nat) (hb9 : 2 ≤ b9 ∧ b9 ≤ 36) (hv9 : V 12 < m1024) (hK : K 12 = bI sg) (hI : I 0 = tI tx) (ht : ∀ i, tx i < 128) (hV : ∀ n, n < 34 → V n < vLim) : Met l y_T_writeNumeral (.code y_T_writeNumeral c_T_writeNumeral 5 none :: bg) ({ frames := 2, cells := 0, slots := 0, locals := 48 } : Room) (mP T (fF V) (fU V) K I O [.ref (wa T 86), .ref (wa T 80), .int (nI b9)]) (mQv T (fF (va_up V 12 0)) (fU (va_up V 12 0)) (va_up K 14 (nI (pL b9 (V 12) sg))) (va_up I 0 (tI (prT tx (V 12) b9 sg))) O) 0 0 (wA T) := by
  refine wM_v (by decide) (Nat.le_of_ble_eq_true rfl) ?_
  intro p e R s m args below meth c Q ls hx hb hC hRf hRl hret hl hw
  have hRf : 2 ≤ R.frames := hRf
  have hRl : 48 ≤ R.locals := hRl
  have hl : lv_has ls 5 [(0, .ref (wa T 86)), (1, .ref (wa T 80)), (2, .int (nI b9))] := hl
  have hD := ndg_le b9 (V 12)
  have hD0 := ndg_pos b9 (V 12)
  refine lv_aload_n hx hb d_T_writeNumeral_0 rfl (lv_at hl 0 rfl) ?_
  refine lv_iconst (v := nI 0) hx hb d_T_writeNumeral_1 (by decide +kernel) ?_
  refine wp_Text_count hx hb hC hw bw_74 d_T_writeNumeral_2 (fun H locs hw => ?_)
  refine lv_iconst (v := nI 1) hx hb d_T_writeNumeral_5 (by decide +kernel) ?_
  refine lv_istore_n hx hb d_T_writeNumeral_6 rfl hl (by decide) rfl (fun ls hl => ?_)
  have hl : lv_has ls 5 [(3, .int (nI 1)), (0, .ref (wa T 86)), (1, .ref (wa T 80)), (2, .int (nI b9))] := hl
  refine lv_iconst (v := nI 0) hx hb d_T_writeNumeral_7 (by decide +kernel) ?_
  refine lv_istore hx hb d_T_writeNumeral_8 hl (by decide) rfl (fun ls hl => ?_)
  have hl : lv_has ls 5 [(4, .int (nI 0)), (3, .int (nI 1)), (0, .ref (wa T 86)), (1, .ref (wa T 80)), (2, .int (nI b9))] := hl
  have hw : wH T (fF (va_up V 12 (V 12 / b9 ^ 0))) (fU (va_up V 12 (V 12 / b9 ^ 0))) (va_up K 14 (nI 0)) (va_up I 0 (tI tx)) O (wA T) s s.heap H locs := by rw [Nat.pow_zero, Nat.div_one, va_upx, ← hI, va_upx]; exact hw
  have hL : ∀ (z9 i : Nat) (mo : Nat) (t1 : Nat → Nat) (ls : Array Slot) (H : Heap) (locs : List Loc), 1200 - i = z9 → i ≤ 1200 → ((mo = 1 ∧ i < ndg b9 (V 12)) ∨ (mo = 0 ∧ i = ndg b9 (V 12))) → (∀ j, t1 j = if j < i then cdN (V 12 / b9 ^ j % b9) else tx j) → (∀ j, t1 j < 128) →  lv_has ls 5 [(4, .int (nI i)), (3, .int (nI mo)), (0, .ref (wa T 86)), (1, .ref (wa T 80)), (2, .int (nI b9))] → wH T (fF (va_up V 12 (V 12 / b9 ^ i))) (fU (va_up V 12 (V 12 / b9 ^ i))) (va_up K 14 (nI i)) (va_up I 0 (tI t1)) O (wA T) s s.heap H locs → W p l e R s m args below meth c H locs 0 0 Q (F0 m 10 ls []) := by
    intro z9
    induction z9 with
    | zero =>
      intro i mo t1 ls H locs hn hle h1 h2 h3 hl hw
      refine lv_iload hx hb d_T_writeNumeral_10 (lv_at hl 0 rfl) ?_
      refine lv_sipush (v := nI 1200) hx hb d_T_writeNumeral_12 (by decide +kernel) ?_
      refine n_icmp_ge (tgt := 59) hx hb d_T_writeNumeral_15 (by decide) (by omega) (by omega) (fun h0 => ?_) (fun h0 => ?_)
      · have e9 : 1200 = i := by omega
        exact absurd e9 (by omega)
      · exact absurd h0 (by omega)
    | succ z9 ih =>
      intro i mo t1 ls H locs hn hle h1 h2 h3 hl hw
      refine lv_iload hx hb d_T_writeNumeral_10 (lv_at hl 0 rfl) ?_
      refine lv_sipush (v := nI 1200) hx hb d_T_writeNumeral_12 (by decide +kernel) ?_
      refine n_icmp_ge (tgt := 59) hx hb d_T_writeNumeral_15 (by decide) (by omega) (by omega) (fun h0 => ?_) (fun h0 => ?_)
      · exact absurd h0 (by omega)
      · have hVi : ∀ n, n < 34 → va_up V 12 (V 12 / b9 ^ i) n < vLim := hV_up hV (Nat.lt_of_le_of_lt (Nat.div_le_self _ _) (hV 12 (by omega)))
        have hVj : ∀ n, n < 34 → va_up V 12 (V 12 / b9 ^ (i + 1)) n < vLim := hV_up hV (Nat.lt_of_le_of_lt (Nat.div_le_self _ _) (hV 12 (by omega)))
        refine lv_iload_n hx hb d_T_writeNumeral_18 rfl (lv_at hl 1 rfl) ?_
        refine n_if_eq (tgt := 59) hx hb d_T_writeNumeral_19 (by decide) (by omega) (fun h5 => ?_) (fun h5 => ?_)
        · have eD : i = ndg b9 (V 12) := by omega
          subst eD
          rw [ndg_up hb9.1 hv9 (Nat.le_refl _)] at hw
          have hK2 : (va_up K 14 (nI (ndg b9 (V 12)))) 12 = bI sg := by rw [va_up_ne _ _ (by decide)]; exact hK
          cases sg
          · refine lv_aload_n hx hb d_T_writeNumeral_59 rfl (lv_at hl 3 rfl) ?_
            refine wg_Whole_below (i := 12) hx hb hC hw (by omega) bw_60 d_T_writeNumeral_60 ?_
            refine sw_i (y := nI 0) (hK2) ?_
            refine n_if_eq (tgt := 72) hx hb d_T_writeNumeral_63 (by decide) (by omega) (fun hw9 => ?_) (fun hw9 => ?_)
            · refine lv_aload_n hx hb d_T_writeNumeral_72 rfl (lv_at hl 2 rfl) ?_
              refine wcV_v (As := []) hx hb hC hw (k_T_reverse l T _ _ (va_up K 14 (nI (ndg b9 (V 12)))) (va_up I 0 (tI t1)) O (ndg b9 (V 12)) t1 (by omega) (by omega) (va_up_self _ _ _) (va_up_self _ _ _) h3) lk_T_68 rfl rfl ⟨by show 0 + 1 ≤ R.frames; omega, by show 8 + (4 + 11) + 0 ≤ R.locals; omega⟩ (by omega) (we_Text ) rfl rfl hl.1 rfl (Nat.le_of_ble_eq_true rfl) ⟨Nat.zero_le _, Nat.zero_le _⟩ d_T_writeNumeral_73 (fun H locs hw => ?_)
              rw [bx_uu, pr_f h2] at hw
              exact hret _ _ _ _ hw d_T_writeNumeral_76
            · exact absurd hw9 (by decide)
          · refine lv_aload_n hx hb d_T_writeNumeral_59 rfl (lv_at hl 3 rfl) ?_
            refine wg_Whole_below (i := 12) hx hb hC hw (by omega) bw_60 d_T_writeNumeral_60 ?_
            refine sw_i (y := nI 1) (hK2) ?_
            refine n_if_eq (tgt := 72) hx hb d_T_writeNumeral_63 (by decide) (by omega) (fun hw9 => ?_) (fun hw9 => ?_)
            · exact absurd hw9 (by decide)
            · refine lv_aload_n hx hb d_T_writeNumeral_66 rfl (lv_at hl 2 rfl) ?_
              refine lv_bipush (v := nI 45) hx hb d_T_writeNumeral_67 (by decide +kernel) ?_
              refine wcV_v (As := [.int (nI 45)]) hx hb hC hw (k_T_append l T _ _ (va_up K 14 (nI (ndg b9 (V 12)))) (va_up I 0 (tI t1)) O (ndg b9 (V 12)) 45 t1 (by omega) (by omega) (va_up_self _ _ _) (va_up_self _ _ _)) lk_T_23 rfl rfl ⟨by show 0 + 1 ≤ R.frames; omega, by show 8 + (2 + 11) + 0 ≤ R.locals; omega⟩ (by omega) (we_Text ) rfl rfl hl.1 rfl (Nat.le_of_ble_eq_true rfl) ⟨Nat.zero_le _, Nat.zero_le _⟩ d_T_writeNumeral_69 (fun H locs hw => ?_)
              rw [bx_uu, bx_uu] at hw
              refine lv_aload_n hx hb d_T_writeNumeral_72 rfl (lv_at hl 2 rfl) ?_
              refine wcV_v (As := []) hx hb hC hw (k_T_reverse l T _ _ (va_up K 14 (nI (ndg b9 (V 12) + 1))) (va_up I 0 (tI (tU t1 (ndg b9 (V 12)) 45))) O (ndg b9 (V 12) + 1) (tU t1 (ndg b9 (V 12)) 45) (by omega) (by omega) (va_up_self _ _ _) (va_up_self _ _ _) (tU_lt h3 (by omega))) lk_T_68 rfl rfl ⟨by show 0 + 1 ≤ R.frames; omega, by show 8 + (4 + 11) + 0 ≤ R.locals; omega⟩ (by omega) (we_Text ) rfl rfl hl.1 rfl (Nat.le_of_ble_eq_true rfl) ⟨Nat.zero_le _, Nat.zero_le _⟩ d_T_writeNumeral_73 (fun H locs hw => ?_)
              rw [bx_uu, pr_t h2] at hw
              exact hret _ _ _ _ hw d_T_writeNumeral_76
        · have hm : V 12 / b9 ^ i % b9 < 36 := Nat.lt_of_lt_of_le (Nat.mod_lt _ (by omega)) hb9.2
          refine lv_aload_n hx hb d_T_writeNumeral_22 rfl (lv_at hl 2 rfl) ?_
          refine lv_aload_n hx hb d_T_writeNumeral_23 rfl (lv_at hl 3 rfl) ?_
          refine wg_Whole_size (i := 12) hx hb hC hw (by omega) bw_56 d_T_writeNumeral_24 ?_
          refine lv_iload_n hx hb d_T_writeNumeral_27 rfl (lv_at hl 4 rfl) ?_
          refine wcV_i (As := [.int (nI b9)]) hx hb hC hw (k_N_popDigit l T (va_up V 12 (V 12 / b9 ^ i)) (va_up K 14 (nI i)) (va_up I 0 (tI t1)) O 12 b9 (by omega) hb9 hVi) lk_T_62 rfl rfl ⟨by show 1 + 1 ≤ R.frames; omega, by show 8 + (7 + 11) + 22 ≤ R.locals; omega⟩ (by omega) (we_Natural (by omega)) rfl rfl hl.1 rfl (Nat.le_of_ble_eq_true rfl) ⟨Nat.zero_le _, Nat.zero_le _⟩ d_T_writeNumeral_28 (fun H locs hw => ?_)
          refine sw_i (y := nI (V 12 / b9 ^ i % b9)) (by rw [va_up_self]) ?_
          rw [va_up_self, bx_uu, Nat.div_div_eq_div_mul, ← Nat.pow_succ] at hw
          refine wcS_i (As := [.int (nI (V 12 / b9 ^ i % b9))]) hx hb hC hw (k_T_codeOf l T (fF (va_up V 12 (V 12 / b9 ^ (i + 1)))) (fU (va_up V 12 (V 12 / b9 ^ (i + 1)))) (va_up K 14 (nI i)) (va_up I 0 (tI t1)) O (V 12 / b9 ^ i % b9) hm) lk_T_65 rfl rfl ⟨by show 0 + 1 ≤ R.frames; omega, by show 8 + (1 + 11) + 0 ≤ R.locals; omega⟩ rfl hl.1 rfl (Nat.le_of_ble_eq_true rfl) ⟨Nat.zero_le _, Nat.zero_le _⟩ d_T_writeNumeral_31 (fun H locs hw => ?_)
          refine wcV_v (As := [.int (nI (cdN (V 12 / b9 ^ i % b9)))]) hx hb hC hw (k_T_append l T (fF (va_up V 12 (V 12 / b9 ^ (i + 1)))) (fU (va_up V 12 (V 12 / b9 ^ (i + 1)))) (va_up K 14 (nI i)) (va_up I 0 (tI t1)) O i (cdN (V 12 / b9 ^ i % b9)) t1 (by omega) (cdN_lt hm) (va_up_self _ _ _) (va_up_self _ _ _)) lk_T_23 rfl rfl ⟨by show 0 + 1 ≤ R.frames; omega, by show 8 + (2 + 11) + 0 ≤ R.locals; omega⟩ (by omega) (we_Text ) rfl rfl hl.1 rfl (Nat.le_of_ble_eq_true rfl) ⟨Nat.zero_le _, Nat.zero_le _⟩ d_T_writeNumeral_34 (fun H locs hw => ?_)
          rw [bx_uu, bx_uu] at hw
          refine lv_aload_n hx hb d_T_writeNumeral_37 rfl (lv_at hl 3 rfl) ?_
          refine wg_Whole_size (i := 12) hx hb hC hw (by omega) bw_56 d_T_writeNumeral_38 ?_
          refine wcV_z (As := []) hx hb hC hw (k_N_isZero l T (va_up V 12 (V 12 / b9 ^ (i + 1))) (va_up K 14 (nI (i + 1))) (va_up I 0 (tI (tU t1 i (cdN (V 12 / b9 ^ i % b9))))) O 12 (by omega) hVj) lk_T_54 rfl rfl ⟨by show 0 + 1 ≤ R.frames; omega, by show 8 + (1 + 11) + 0 ≤ R.locals; omega⟩ (by omega) (we_Natural (by omega)) rfl rfl hl.1 rfl (Nat.le_of_ble_eq_true rfl) ⟨Nat.zero_le _, Nat.zero_le _⟩ d_T_writeNumeral_41 (fun H locs hw => ?_)
          by_cases hz : (va_up V 12 (V 12 / b9 ^ (i + 1))) 12 = 0
          · refine sw_i (y := nI 1) (by rw [if_pos hz]; rfl) ?_
            refine n_if_ne (tgt := 51) hx hb d_T_writeNumeral_44 (by decide) (by omega) (fun hw9 => ?_) (fun hw9 => ?_)
            · rw [va_up_self] at hz
              have hq : ¬ i + 1 < ndg b9 (V 12) := fun q => ndg_lo hb9.1 (by omega) q hz
              refine lv_iconst (v := nI 0) hx hb d_T_writeNumeral_51 (by decide +kernel) ?_
              refine lv_istore_n hx hb d_T_writeNumeral_52 rfl hl (by decide) rfl (fun ls hl => ?_)
              have hl : lv_has ls 5 [(3, .int (nI 0)), (4, .int (nI i)), (0, .ref (wa T 86)), (1, .ref (wa T 80)), (2, .int (nI b9))] := hl
              refine lv_iinc (v := nI (i + 1)) hx hb d_T_writeNumeral_53 hl (k := 1) rfl (nI_add _ 1) (by decide) rfl (fun ls hl => ?_)
              have hl : lv_has ls 5 [(4, .int (nI (i + 1))), (3, .int (nI 0)), (0, .ref (wa T 86)), (1, .ref (wa T 80)), (2, .int (nI b9))] := hl
              refine lv_goto (tgt := 10) hx hb d_T_writeNumeral_56 (by decide) ?_
              exact ih (i + 1) 0 _ ls H locs (by omega) (by omega) (by omega) (wr_step h2) (tU_lt h3 (cdN_lt hm)) hl hw
            · exact absurd hw9 (by decide)
          · refine sw_i (y := nI 0) (by rw [if_neg hz]; rfl) ?_
            refine n_if_ne (tgt := 51) hx hb d_T_writeNumeral_44 (by decide) (by omega) (fun hw9 => ?_) (fun hw9 => ?_)
            · exact absurd hw9 (by decide)
            · rw [va_up_self] at hz
              have hq : ¬ ndg b9 (V 12) ≤ i + 1 := fun q => hz (ndg_up hb9.1 hv9 q)
              refine lv_iconst (v := nI 1) hx hb d_T_writeNumeral_47 (by decide +kernel) ?_
              refine lv_goto (tgt := 52) hx hb d_T_writeNumeral_48 (by decide) ?_
              refine lv_istore_n hx hb d_T_writeNumeral_52 rfl hl (by decide) rfl (fun ls hl => ?_)
              have hl : lv_has ls 5 [(3, .int (nI 1)), (4, .int (nI i)), (0, .ref (wa T 86)), (1, .ref (wa T 80)), (2, .int (nI b9))] := hl
              refine lv_iinc (v := nI (i + 1)) hx hb d_T_writeNumeral_53 hl (k := 1) rfl (nI_add _ 1) (by decide) rfl (fun ls hl => ?_)
              have hl : lv_has ls 5 [(4, .int (nI (i + 1))), (3, .int (nI 1)), (0, .ref (wa T 86)), (1, .ref (wa T 80)), (2, .int (nI b9))] := hl
              refine lv_goto (tgt := 10) hx hb d_T_writeNumeral_56 (by decide) ?_
              exact ih (i + 1) 1 _ ls H locs (by omega) (by omega) (by omega) (wr_step h2) (tU_lt h3 (cdN_lt hm)) hl hw
  exact hL _ 0 1 tx ls H locs rfl (by omega) (by omega) (fun j => by rw [if_neg (by omega)]) ht hl hw
