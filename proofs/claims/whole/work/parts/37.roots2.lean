/-! Roots -/
theorem sh31 : ∀ n, n < 32 → ((nI n &&& 31).toBitVec.smod 32).toNat = n := by decide +kernel
theorem kbit {n i : Nat} (hn : n < 2147483648) (hi : i < 32) : (nI n >>> (nI i &&& 31)) &&& nI 1 = nI (n / 2 ^ i % 2) := by
  rw [pk_shrN hn _ i (sh31 i hi)]
  exact pk_andN (m := 1) (Nat.lt_of_le_of_lt (Nat.div_le_self _ _) (by omega)) 1 (by decide +kernel)
theorem pw_mono {t a b : Nat} (ht : 0 < t) (h : a ≤ b) : t ^ a ≤ t ^ b := Nat.pow_le_pow_right ht h
theorem le3 {a b : Nat} : ¬ (0 < (if a < b then (-1 : Int32) else if a = b then 0 else 1)) ↔ a ≤ b := by
  constructor
  · intro h
    apply Nat.le_of_not_lt; intro q
    apply h
    rw [if_neg (by omega), if_neg (by omega)]; decide +kernel
  · intro h q
    by_cases e : a < b
    · rw [if_pos e] at q; exact absurd q (by decide +kernel)
    · rw [if_neg e, if_pos (by omega)] at q; exact absurd q (by decide +kernel)
def tPr (V V' : Nat → Nat) : Prop := (∀ n, n < 34 → V' n < vLim) ∧ (∀ n, n < 24 ∨ 25 < n → V' n = V n)

set_option maxRecDepth 100000 in
set_option maxHeartbeats 4000000 in
theorem k_O_isTrialWithin (l : Launch) (T : wT) (V : Nat → Nat) (K : wUt) (I : wIt) (O : wOt) (a kk : Nat) (ha : a < 13) (hk0 : 0 < kk) (hk1 : kk < 2147483648) (ha1 : V a < m1024) (ht : 0 < V 23) (ht1 : V 23 < m1024) (hV : ∀ n, n < 34 → V n < vLim) : Met l y_O_isTrialWithin (.code y_O_isTrialWithin c_O_isTrialWithin 5 (some .boolean) :: bg) ({ frames := 3, cells := 0, slots := 0, locals := 69 } : Room) (mP T (fF V) (fU V) K I O [.ref (wa T 88), .ref (wa T a), .int (nI kk)]) (mQip T (if V 23 ^ kk ≤ V a then (1 : Int32) else 0) (tPr V) K I O) 0 0 (wA T) := by
  refine wM_zp (by decide) (Nat.le_of_ble_eq_true rfl) (zN _) ?_
  intro p e R s m args below meth c Q ls hx hb hC hRf hRl hret hl hw
  have hRf : 3 ≤ R.frames := hRf
  have hRl : 69 ≤ R.locals := hRl
  have hl : lv_has ls 5 [(0, .ref (wa T 88)), (1, .ref (wa T a)), (2, .int (nI kk))] := hl
  have hbk : bl kk ≤ 31 := bl_mono (show kk < 2 ^ 31 from hk1)
  have hbp : 0 < bl kk := bl_pos (lim_31 hk1) hk0
  have hma := m1024_lim
  refine lv_aload_n hx hb d_O_isTrialWithin_0 rfl (lv_at hl 0 rfl) ?_
  refine wg_Roots_reached hx hb hC hw bw_116 d_O_isTrialWithin_1 ?_
  refine lv_aload_n hx hb d_O_isTrialWithin_4 rfl (lv_at hl 0 rfl) ?_
  refine wg_Roots_trial hx hb hC hw bw_115 d_O_isTrialWithin_5 ?_
  refine wcV_v (As := [.ref (wa T 23)]) hx hb hC hw (k_N_take l T V K I O 24 23 (by omega) (by omega) hV) lk_O_36 rfl rfl ⟨by show 1 + 1 ≤ R.frames; omega, by show 8 + (4 + 11) + 22 ≤ R.locals; omega⟩ (by omega) (we_Natural (by omega)) rfl rfl hl.1 rfl (Nat.le_of_ble_eq_true rfl) ⟨Nat.zero_le _, Nat.zero_le _⟩ d_O_isTrialWithin_8 (fun H locs hw => ?_)
  generalize hV1 : va_up V 24 (V 23) = V1 at hw
  have l1 : ∀ n, n < 34 → V1 n < vLim := by rw [← hV1]; exact hV_up hV (hV 23 (by omega))
  have o1 : ∀ n, n ≠ 24 → V1 n = V n := fun n h => by rw [← hV1]; exact va_up_ne _ _ h
  have x1 : V1 24 = V 23 := by rw [← hV1]; exact va_up_self _ _ _
  refine lv_aload_n hx hb d_O_isTrialWithin_11 rfl (lv_at hl 0 rfl) ?_
  refine wg_Roots_reached hx hb hC hw bw_116 d_O_isTrialWithin_12 ?_
  refine lv_aload_n hx hb d_O_isTrialWithin_15 rfl (lv_at hl 1 rfl) ?_
  refine wcV_i (As := [.ref (wa T a)]) hx hb hC hw (k_N_order l T V1 K I O 24 a (by omega) (by omega) l1) lk_O_48 rfl rfl ⟨by show 0 + 1 ≤ R.frames; omega, by show 8 + (3 + 11) + 0 ≤ R.locals; omega⟩ (by omega) (we_Natural (by omega)) rfl rfl hl.1 rfl (Nat.le_of_ble_eq_true rfl) ⟨Nat.zero_le _, Nat.zero_le _⟩ d_O_isTrialWithin_16 (fun H locs hw => ?_)
  rw [x1, o1 a (by omega)]
  have lp : ∀ (q : Nat) (V9 : Nat → Nat) (wi : Bool) (ls : Array Slot) (H : Heap) (locs : List Loc), (∀ n, n < 34 → V9 n < vLim) → (∀ n, n < 24 ∨ 25 < n → V9 n = V n) → ((wi = true ∧ V9 24 = V 23 ^ (kk / 2 ^ q) ∧ V9 24 ≤ V a) ∨ (wi = false ∧ V a < V 23 ^ kk)) → q ≤ 31 → lv_has ls 5 [(4, .int (nI q - 1)), (3, .int (bI wi)), (0, .ref (wa T 88)), (1, .ref (wa T a)), (2, .int (nI kk))] → wH T (fF V9) (fU V9) K I O (wA T) s s.heap H locs → W p l e R s m args below meth c H locs 0 0 Q (F0 m 37 ls []) := by
    intro q
    induction q with
    | zero =>
      intro V9 wi ls H locs h1 h2 h3 h4 hl hw
      refine lv_iload hx hb d_O_isTrialWithin_37 (lv_at hl 0 rfl) ?_
      refine d_if_lt (tgt := 148) hx hb d_O_isTrialWithin_39 (by decide) (by omega) (fun h0 => ?_) (fun h0 => ?_)
      · refine lv_iload_n hx hb d_O_isTrialWithin_148 rfl (lv_at hl 1 rfl) ?_
        refine sw_i (y := (if V 23 ^ kk ≤ V a then (1 : Int32) else 0)) ?_ (hret V9 _ _ _ _ ⟨h1, h2⟩ hw d_O_isTrialWithin_149)
        rcases h3 with ⟨rfl, e1, e2⟩ | ⟨rfl, e1⟩
        · rw [e1, Nat.pow_zero, Nat.div_one] at e2; rw [if_pos e2]; rfl
        · rw [if_neg (by omega)]; rfl
      · exact absurd h0 (by omega)
    | succ q ih =>
      intro V9 wi ls H locs h1 h2 h3 h4 hl hw
      rw [nI_pred] at hl
      have hl : lv_has ls 5 [(4, .int (nI q)), (3, .int (bI wi)), (0, .ref (wa T 88)), (1, .ref (wa T a)), (2, .int (nI kk))] := hl
      refine lv_iload hx hb d_O_isTrialWithin_37 (lv_at hl 0 rfl) ?_
      refine n_if_lt hx hb d_O_isTrialWithin_39 (by decide) (by omega) ?_
      rcases h3 with ⟨rfl, e1, e2⟩ | ⟨rfl, e1⟩
      · have hl : lv_has ls 5 [(4, .int (nI q)), (3, .int (nI 1)), (0, .ref (wa T 88)), (1, .ref (wa T a)), (2, .int (nI kk))] := hl
        refine lv_iload_n hx hb d_O_isTrialWithin_42 rfl (lv_at hl 1 rfl) ?_
        refine n_if_eq (tgt := 148) hx hb d_O_isTrialWithin_43 (by decide) (by omega) (fun hw9 => ?_) (fun hw9 => ?_)
        · exact absurd hw9 (by decide)
        · have hth := tb_half kk q
          have f37 := k37 (v := V9 24) (Nat.lt_of_le_of_lt e2 ha1)
          have fgl : V9 24 * V9 24 < vLim := Nat.lt_of_lt_of_le (vB_mul (kD_lt (h1 24 (by omega))) (kD_lt (h1 24 (by omega)))) (vB_le (by omega))
          refine lv_aload_n hx hb d_O_isTrialWithin_46 rfl (lv_at hl 2 rfl) ?_
          refine wg_Roots_product hx hb hC hw bw_117 d_O_isTrialWithin_47 ?_
          refine lv_aload_n hx hb d_O_isTrialWithin_50 rfl (lv_at hl 2 rfl) ?_
          refine wg_Roots_reached hx hb hC hw bw_116 d_O_isTrialWithin_51 ?_
          refine wcV_v (As := [.ref (wa T 24)]) hx hb hC hw (k_N_takeSquare l T V9 K I O 25 24 (by omega) (by omega) (by omega) (by omega) h1) lk_O_58 rfl rfl ⟨by show 2 + 1 ≤ R.frames; omega, by show 8 + (3 + 11) + 46 ≤ R.locals; omega⟩ (by omega) (we_Natural (by omega)) rfl rfl hl.1 rfl (Nat.le_of_ble_eq_true rfl) ⟨Nat.zero_le _, Nat.zero_le _⟩ d_O_isTrialWithin_54 (fun H locs hw => ?_)
          generalize hVa : va_up V9 25 (V9 24 * V9 24) = Va at hw
          have la : ∀ n, n < 34 → Va n < vLim := by rw [← hVa]; exact hV_up h1 fgl
          have oa : ∀ n, n ≠ 25 → Va n = V9 n := fun n h => by rw [← hVa]; exact va_up_ne _ _ h
          have xa : Va 25 = V 23 ^ (2 * (kk / 2 ^ (q + 1))) := by rw [← hVa, va_up_self, e1, ← Nat.pow_add, Nat.two_mul]
          refine lv_aload_n hx hb d_O_isTrialWithin_57 rfl (lv_at hl 2 rfl) ?_
          refine wg_Roots_product hx hb hC hw bw_117 d_O_isTrialWithin_58 ?_
          refine lv_aload_n hx hb d_O_isTrialWithin_61 rfl (lv_at hl 3 rfl) ?_
          refine wcV_i (As := [.ref (wa T a)]) hx hb hC hw (k_N_order l T Va K I O 25 a (by omega) (by omega) la) lk_O_48 rfl rfl ⟨by show 0 + 1 ≤ R.frames; omega, by show 8 + (3 + 11) + 0 ≤ R.locals; omega⟩ (by omega) (we_Natural (by omega)) rfl rfl hl.1 rfl (Nat.le_of_ble_eq_true rfl) ⟨Nat.zero_le _, Nat.zero_le _⟩ d_O_isTrialWithin_62 (fun H locs hw => ?_)
          rw [oa a (by omega), h2 a (by omega)]
          have hdq : 2 * (kk / 2 ^ (q + 1)) ≤ kk / 2 ^ q := by rw [hth]; omega
          have hdk : kk / 2 ^ q ≤ kk := Nat.div_le_self _ _
          refine lv_if_gt (tgt := 72) hx hb d_O_isTrialWithin_65 (by decide) (fun h9 => ?_) (fun h9 => ?_)
          · have hgt : V a < Va 25 := by apply Nat.lt_of_not_le; intro q9; exact le3.mpr q9 h9
            have hfin : V a < V 23 ^ kk := by rw [xa] at hgt; exact Nat.lt_of_lt_of_le hgt (pw_mono ht (by omega))
            refine lv_iconst (v := nI 0) hx hb d_O_isTrialWithin_72 (by decide +kernel) ?_
            refine lv_istore_n hx hb d_O_isTrialWithin_73 rfl hl (by decide) rfl (fun ls hl => ?_)
            have hl : lv_has ls 5 [(3, .int (nI 0)), (4, .int (nI q)), (0, .ref (wa T 88)), (1, .ref (wa T a)), (2, .int (nI kk))] := hl
            refine lv_aload_n hx hb d_O_isTrialWithin_74 rfl (lv_at hl 2 rfl) ?_
            refine wg_Roots_reached hx hb hC hw bw_116 d_O_isTrialWithin_75 ?_
            refine lv_aload_n hx hb d_O_isTrialWithin_78 rfl (lv_at hl 2 rfl) ?_
            refine wg_Roots_product hx hb hC hw bw_117 d_O_isTrialWithin_79 ?_
            refine wcV_v (As := [.ref (wa T 25)]) hx hb hC hw (k_N_take l T Va K I O 24 25 (by omega) (by omega) la) lk_O_36 rfl rfl ⟨by show 1 + 1 ≤ R.frames; omega, by show 8 + (4 + 11) + 22 ≤ R.locals; omega⟩ (by omega) (we_Natural (by omega)) rfl rfl hl.1 rfl (Nat.le_of_ble_eq_true rfl) ⟨Nat.zero_le _, Nat.zero_le _⟩ d_O_isTrialWithin_82 (fun H locs hw => ?_)
            generalize hVb : va_up Va 24 (Va 25) = Vb at hw
            have lVb : ∀ n, n < 34 → Vb n < vLim := by rw [← hVb]; exact hV_up la (la 25 (by omega))
            have oVb : ∀ n, n ≠ 24 → Vb n = Va n := fun n h => by rw [← hVb]; exact va_up_ne _ _ h
            have xVb : Vb 24 = Va 25 := by rw [← hVb]; exact va_up_self _ _ _
            refine lv_iload_n hx hb d_O_isTrialWithin_85 rfl (lv_at hl 0 rfl) ?_
            refine n_if_eq (tgt := 142) hx hb d_O_isTrialWithin_86 (by decide) (by omega) (fun hw9 => ?_) (fun hw9 => ?_)
            · refine lv_iinc (v := (nI q - 1)) hx hb d_O_isTrialWithin_142 hl (k := 1) rfl (i32_m1 _) (by decide) rfl (fun ls hl => ?_)
              have hl : lv_has ls 5 [(4, .int (nI q - 1)), (3, .int (nI 0)), (0, .ref (wa T 88)), (1, .ref (wa T a)), (2, .int (nI kk))] := hl
              refine lv_goto (tgt := 37) hx hb d_O_isTrialWithin_145 (by decide) ?_
              exact ih Vb false ls H locs lVb (fun n h => by rw [oVb n (by omega), oa n (by omega)]; exact h2 n h) (Or.inr ⟨rfl, hfin⟩) (by omega) hl hw
            · exact absurd hw9 (by decide)
          · have hle : Va 25 ≤ V a := le3.mp h9
            refine lv_iconst (v := nI 1) hx hb d_O_isTrialWithin_68 (by decide +kernel) ?_
            refine lv_goto (tgt := 73) hx hb d_O_isTrialWithin_69 (by decide) ?_
            refine lv_istore_n hx hb d_O_isTrialWithin_73 rfl hl (by decide) rfl (fun ls hl => ?_)
            have hl : lv_has ls 5 [(3, .int (nI 1)), (4, .int (nI q)), (0, .ref (wa T 88)), (1, .ref (wa T a)), (2, .int (nI kk))] := hl
            refine lv_aload_n hx hb d_O_isTrialWithin_74 rfl (lv_at hl 2 rfl) ?_
            refine wg_Roots_reached hx hb hC hw bw_116 d_O_isTrialWithin_75 ?_
            refine lv_aload_n hx hb d_O_isTrialWithin_78 rfl (lv_at hl 2 rfl) ?_
            refine wg_Roots_product hx hb hC hw bw_117 d_O_isTrialWithin_79 ?_
            refine wcV_v (As := [.ref (wa T 25)]) hx hb hC hw (k_N_take l T Va K I O 24 25 (by omega) (by omega) la) lk_O_36 rfl rfl ⟨by show 1 + 1 ≤ R.frames; omega, by show 8 + (4 + 11) + 22 ≤ R.locals; omega⟩ (by omega) (we_Natural (by omega)) rfl rfl hl.1 rfl (Nat.le_of_ble_eq_true rfl) ⟨Nat.zero_le _, Nat.zero_le _⟩ d_O_isTrialWithin_82 (fun H locs hw => ?_)
            generalize hVb : va_up Va 24 (Va 25) = Vb at hw
            have lVb : ∀ n, n < 34 → Vb n < vLim := by rw [← hVb]; exact hV_up la (la 25 (by omega))
            have oVb : ∀ n, n ≠ 24 → Vb n = Va n := fun n h => by rw [← hVb]; exact va_up_ne _ _ h
            have xVb : Vb 24 = Va 25 := by rw [← hVb]; exact va_up_self _ _ _
            refine lv_iload_n hx hb d_O_isTrialWithin_85 rfl (lv_at hl 0 rfl) ?_
            refine n_if_eq (tgt := 142) hx hb d_O_isTrialWithin_86 (by decide) (by omega) (fun hw9 => ?_) (fun hw9 => ?_)
            · exact absurd hw9 (by decide)
            · refine lv_iload_n hx hb d_O_isTrialWithin_89 rfl (lv_at hl 4 rfl) ?_
              refine lv_iload hx hb d_O_isTrialWithin_90 (lv_at hl 1 rfl) ?_
              refine lv_ishr hx hb d_O_isTrialWithin_92 ?_
              refine lv_iconst (v := nI 1) hx hb d_O_isTrialWithin_93 (by decide +kernel) ?_
              refine lv_iand hx hb d_O_isTrialWithin_94 ?_
              refine sw_i (y := nI (kk / 2 ^ q % 2)) (kbit hk1 (by omega)) ?_
              refine lv_iconst (v := nI 1) hx hb d_O_isTrialWithin_95 (by decide +kernel) ?_
              refine n_icmp_ne (tgt := 142) hx hb d_O_isTrialWithin_96 (by decide) (by have := Nat.mod_lt (kk / 2 ^ q) (show 0 < 2 by decide); omega) (by omega) (fun h8 => ?_) (fun h8 => ?_)
              · have hb0 : kk.testBit q = false := by rw [tb_mod]; exact decide_eq_false h8
                rw [hb0] at hth
                refine lv_iinc (v := (nI q - 1)) hx hb d_O_isTrialWithin_142 hl (k := 1) rfl (i32_m1 _) (by decide) rfl (fun ls hl => ?_)
                have hl : lv_has ls 5 [(4, .int (nI q - 1)), (3, .int (nI 1)), (0, .ref (wa T 88)), (1, .ref (wa T a)), (2, .int (nI kk))] := hl
                refine lv_goto (tgt := 37) hx hb d_O_isTrialWithin_145 (by decide) ?_
                exact ih Vb true ls H locs lVb (fun n h => by rw [oVb n (by omega), oa n (by omega)]; exact h2 n h) (Or.inl ⟨rfl, by rw [xVb, xa, hth]; rfl, by rw [xVb]; exact hle⟩) (by omega) hl hw
              · have hb0 : kk.testBit q = true := by rw [tb_mod]; exact decide_eq_true h8
                rw [hb0] at hth
                have t23 : Vb 23 = V 23 := by rw [oVb 23 (by decide), oa 23 (by decide)]; exact h2 23 (by omega)
                have v24 : Vb 24 ≤ V a := by rw [xVb]; exact hle
                have b37 := k37 (v := Vb 24) (Nat.lt_of_le_of_lt v24 ha1)
                have c37 := k37 (v := Vb 23) (by rw [t23]; exact ht1)
                have bgl : Vb 24 * Vb 23 < vLim := Nat.lt_of_lt_of_le (vB_mul (kD_lt (lVb 24 (by omega))) (kD_lt (lVb 23 (by omega)))) (vB_le (by omega))
                refine lv_aload_n hx hb d_O_isTrialWithin_99 rfl (lv_at hl 2 rfl) ?_
                refine wg_Roots_product hx hb hC hw bw_117 d_O_isTrialWithin_100 ?_
                refine lv_aload_n hx hb d_O_isTrialWithin_103 rfl (lv_at hl 2 rfl) ?_
                refine wg_Roots_reached hx hb hC hw bw_116 d_O_isTrialWithin_104 ?_
                refine lv_aload_n hx hb d_O_isTrialWithin_107 rfl (lv_at hl 2 rfl) ?_
                refine wg_Roots_trial hx hb hC hw bw_115 d_O_isTrialWithin_108 ?_
                refine wcV_v (As := [.ref (wa T 24), .ref (wa T 23)]) hx hb hC hw (k_N_takeProduct l T Vb K I O 25 24 23 (by omega) (by omega) (by omega) (by omega) (by omega) (by omega) lVb) lk_O_61 rfl rfl ⟨by show 2 + 1 ≤ R.frames; omega, by show 8 + (4 + 11) + 46 ≤ R.locals; omega⟩ (by omega) (we_Natural (by omega)) rfl rfl hl.1 rfl (Nat.le_of_ble_eq_true rfl) ⟨Nat.zero_le _, Nat.zero_le _⟩ d_O_isTrialWithin_111 (fun H locs hw => ?_)
                generalize hVc : va_up Vb 25 (Vb 24 * Vb 23) = Vc at hw
                have lc : ∀ n, n < 34 → Vc n < vLim := by rw [← hVc]; exact hV_up lVb bgl
                have oc : ∀ n, n ≠ 25 → Vc n = Vb n := fun n h => by rw [← hVc]; exact va_up_ne _ _ h
                have xc : Vc 25 = V 23 ^ (kk / 2 ^ q) := by rw [← hVc, va_up_self, xVb, xa, t23, ← Nat.pow_succ, hth]; rfl
                refine lv_aload_n hx hb d_O_isTrialWithin_114 rfl (lv_at hl 2 rfl) ?_
                refine wg_Roots_product hx hb hC hw bw_117 d_O_isTrialWithin_115 ?_
                refine lv_aload_n hx hb d_O_isTrialWithin_118 rfl (lv_at hl 3 rfl) ?_
                refine wcV_i (As := [.ref (wa T a)]) hx hb hC hw (k_N_order l T Vc K I O 25 a (by omega) (by omega) lc) lk_O_48 rfl rfl ⟨by show 0 + 1 ≤ R.frames; omega, by show 8 + (3 + 11) + 0 ≤ R.locals; omega⟩ (by omega) (we_Natural (by omega)) rfl rfl hl.1 rfl (Nat.le_of_ble_eq_true rfl) ⟨Nat.zero_le _, Nat.zero_le _⟩ d_O_isTrialWithin_119 (fun H locs hw => ?_)
                rw [oc a (by omega), oVb a (by omega), oa a (by omega), h2 a (by omega)]
                refine lv_if_gt (tgt := 129) hx hb d_O_isTrialWithin_122 (by decide) (fun h6 => ?_) (fun h6 => ?_)
                · refine lv_iconst (v := nI 0) hx hb d_O_isTrialWithin_129 (by decide +kernel) ?_
                  refine lv_istore_n hx hb d_O_isTrialWithin_130 rfl hl (by decide) rfl (fun ls hl => ?_)
                  have hl : lv_has ls 5 [(3, .int (nI 0)), (4, .int (nI q)), (0, .ref (wa T 88)), (1, .ref (wa T a)), (2, .int (nI kk))] := hl
                  refine lv_aload_n hx hb d_O_isTrialWithin_131 rfl (lv_at hl 2 rfl) ?_
                  refine wg_Roots_reached hx hb hC hw bw_116 d_O_isTrialWithin_132 ?_
                  refine lv_aload_n hx hb d_O_isTrialWithin_135 rfl (lv_at hl 2 rfl) ?_
                  refine wg_Roots_product hx hb hC hw bw_117 d_O_isTrialWithin_136 ?_
                  refine wcV_v (As := [.ref (wa T 25)]) hx hb hC hw (k_N_take l T Vc K I O 24 25 (by omega) (by omega) lc) lk_O_36 rfl rfl ⟨by show 1 + 1 ≤ R.frames; omega, by show 8 + (4 + 11) + 22 ≤ R.locals; omega⟩ (by omega) (we_Natural (by omega)) rfl rfl hl.1 rfl (Nat.le_of_ble_eq_true rfl) ⟨Nat.zero_le _, Nat.zero_le _⟩ d_O_isTrialWithin_139 (fun H locs hw => ?_)
                  generalize hVd : va_up Vc 24 (Vc 25) = Vd at hw
                  have lVd : ∀ n, n < 34 → Vd n < vLim := by rw [← hVd]; exact hV_up lc (lc 25 (by omega))
                  have oVd : ∀ n, n ≠ 24 → Vd n = Vc n := fun n h => by rw [← hVd]; exact va_up_ne _ _ h
                  have xVd : Vd 24 = Vc 25 := by rw [← hVd]; exact va_up_self _ _ _
                  refine lv_iinc (v := (nI q - 1)) hx hb d_O_isTrialWithin_142 hl (k := 1) rfl (i32_m1 _) (by decide) rfl (fun ls hl => ?_)
                  have hl : lv_has ls 5 [(4, .int (nI q - 1)), (3, .int (nI 0)), (0, .ref (wa T 88)), (1, .ref (wa T a)), (2, .int (nI kk))] := hl
                  refine lv_goto (tgt := 37) hx hb d_O_isTrialWithin_145 (by decide) ?_
                  have h7 : V a < Vc 25 := by apply Nat.lt_of_not_le; intro q9; exact le3.mpr q9 h6
                  rw [xc] at h7
                  exact ih Vd false ls H locs lVd (fun n h => by rw [oVd n (by omega), oc n (by omega), oVb n (by omega), oa n (by omega)]; exact h2 n h) (Or.inr ⟨rfl, Nat.lt_of_lt_of_le h7 (pw_mono ht hdk)⟩) (by omega) hl hw
                · refine lv_iconst (v := nI 1) hx hb d_O_isTrialWithin_125 (by decide +kernel) ?_
                  refine lv_goto (tgt := 130) hx hb d_O_isTrialWithin_126 (by decide) ?_
                  refine lv_istore_n hx hb d_O_isTrialWithin_130 rfl hl (by decide) rfl (fun ls hl => ?_)
                  have hl : lv_has ls 5 [(3, .int (nI 1)), (4, .int (nI q)), (0, .ref (wa T 88)), (1, .ref (wa T a)), (2, .int (nI kk))] := hl
                  refine lv_aload_n hx hb d_O_isTrialWithin_131 rfl (lv_at hl 2 rfl) ?_
                  refine wg_Roots_reached hx hb hC hw bw_116 d_O_isTrialWithin_132 ?_
                  refine lv_aload_n hx hb d_O_isTrialWithin_135 rfl (lv_at hl 2 rfl) ?_
                  refine wg_Roots_product hx hb hC hw bw_117 d_O_isTrialWithin_136 ?_
                  refine wcV_v (As := [.ref (wa T 25)]) hx hb hC hw (k_N_take l T Vc K I O 24 25 (by omega) (by omega) lc) lk_O_36 rfl rfl ⟨by show 1 + 1 ≤ R.frames; omega, by show 8 + (4 + 11) + 22 ≤ R.locals; omega⟩ (by omega) (we_Natural (by omega)) rfl rfl hl.1 rfl (Nat.le_of_ble_eq_true rfl) ⟨Nat.zero_le _, Nat.zero_le _⟩ d_O_isTrialWithin_139 (fun H locs hw => ?_)
                  generalize hVd : va_up Vc 24 (Vc 25) = Vd at hw
                  have lVd : ∀ n, n < 34 → Vd n < vLim := by rw [← hVd]; exact hV_up lc (lc 25 (by omega))
                  have oVd : ∀ n, n ≠ 24 → Vd n = Vc n := fun n h => by rw [← hVd]; exact va_up_ne _ _ h
                  have xVd : Vd 24 = Vc 25 := by rw [← hVd]; exact va_up_self _ _ _
                  refine lv_iinc (v := (nI q - 1)) hx hb d_O_isTrialWithin_142 hl (k := 1) rfl (i32_m1 _) (by decide) rfl (fun ls hl => ?_)
                  have hl : lv_has ls 5 [(4, .int (nI q - 1)), (3, .int (nI 1)), (0, .ref (wa T 88)), (1, .ref (wa T a)), (2, .int (nI kk))] := hl
                  refine lv_goto (tgt := 37) hx hb d_O_isTrialWithin_145 (by decide) ?_
                  exact ih Vd true ls H locs lVd (fun n h => by rw [oVd n (by omega), oc n (by omega), oVb n (by omega), oa n (by omega)]; exact h2 n h) (Or.inl ⟨rfl, by rw [xVd, xc], by rw [xVd]; exact le3.mp h6⟩) (by omega) hl hw
      · have hl : lv_has ls 5 [(4, .int (nI q)), (3, .int (nI 0)), (0, .ref (wa T 88)), (1, .ref (wa T a)), (2, .int (nI kk))] := hl
        refine lv_iload_n hx hb d_O_isTrialWithin_42 rfl (lv_at hl 1 rfl) ?_
        refine n_if_eq (tgt := 148) hx hb d_O_isTrialWithin_43 (by decide) (by omega) (fun hw9 => ?_) (fun hw9 => ?_)
        · refine lv_iload_n hx hb d_O_isTrialWithin_148 rfl (lv_at hl 1 rfl) ?_
          refine sw_i (y := (if V 23 ^ kk ≤ V a then (1 : Int32) else 0)) (by rw [if_neg (by omega)]; rfl) ?_
          exact hret V9 _ _ _ _ ⟨h1, h2⟩ hw d_O_isTrialWithin_149
        · exact absurd hw9 (by decide)
  refine lv_if_gt (tgt := 26) hx hb d_O_isTrialWithin_19 (by decide) (fun h9 => ?_) (fun h9 => ?_)
  · refine lv_iconst (v := nI 0) hx hb d_O_isTrialWithin_26 (by decide +kernel) ?_
    refine lv_istore_n hx hb d_O_isTrialWithin_27 rfl hl (by decide) rfl (fun ls hl => ?_)
    have hl : lv_has ls 5 [(3, .int (nI 0)), (0, .ref (wa T 88)), (1, .ref (wa T a)), (2, .int (nI kk))] := hl
    refine lv_bipush (v := nI 30) hx hb d_O_isTrialWithin_28 (by decide +kernel) ?_
    refine lv_iload_n hx hb d_O_isTrialWithin_30 rfl (lv_at hl 3 rfl) ?_
    refine wcS_i (As := [.int (nI kk)]) hx hb hC hw (k_JI_nlz l T (fF V1) (fU V1) K I O kk hk0 hk1) lk_O_52 rfl rfl ⟨by show 0 + 1 ≤ R.frames; omega, by show 8 + (2 + 11) + 0 ≤ R.locals; omega⟩ rfl hl.1 rfl (Nat.le_of_ble_eq_true rfl) ⟨Nat.zero_le _, Nat.zero_le _⟩ d_O_isTrialWithin_31 (fun H locs hw => ?_)
    refine lv_isub hx hb d_O_isTrialWithin_34 ?_
    refine sw_i (y := (nI (bl kk - 1) - 1)) (by
        by_cases h : 2 ≤ bl kk
        · rw [nI_ms (by omega), pk_sub (by omega)]; congr 1; omega
        · rw [show bl kk = 1 by omega]; decide +kernel) ?_
    refine lv_istore hx hb d_O_isTrialWithin_35 hl (by decide) rfl (fun ls hl => ?_)
    have hl : lv_has ls 5 [(4, .int (nI (bl kk - 1) - 1)), (3, .int (nI 0)), (0, .ref (wa T 88)), (1, .ref (wa T a)), (2, .int (nI kk))] := hl
    have e1 : kk / 2 ^ (bl kk - 1) = 1 := by
      have h1 := bl_lt (lim_31 hk1)
      have h2 := bl_ge hbp
      have h3 : kk / 2 ^ (bl kk - 1) < 2 := Nat.div_lt_of_lt_mul (by rw [← Nat.pow_succ, show (bl kk - 1).succ = bl kk by omega]; exact h1)
      have h4 := Nat.div_pos h2 (Nat.two_pow_pos _)
      omega
    exact lp (bl kk - 1) V1 false ls _ _ l1 (fun n h => o1 n (by omega)) (Or.inr ⟨rfl, Nat.lt_of_lt_of_le (show V a < V 23 ^ 1 by rw [Nat.pow_one]; apply Nat.lt_of_not_le; intro q9; exact le3.mpr q9 h9) (pw_mono ht hk0)⟩) (by omega) hl hw
  · refine lv_iconst (v := nI 1) hx hb d_O_isTrialWithin_22 (by decide +kernel) ?_
    refine lv_goto (tgt := 27) hx hb d_O_isTrialWithin_23 (by decide) ?_
    refine lv_istore_n hx hb d_O_isTrialWithin_27 rfl hl (by decide) rfl (fun ls hl => ?_)
    have hl : lv_has ls 5 [(3, .int (nI 1)), (0, .ref (wa T 88)), (1, .ref (wa T a)), (2, .int (nI kk))] := hl
    refine lv_bipush (v := nI 30) hx hb d_O_isTrialWithin_28 (by decide +kernel) ?_
    refine lv_iload_n hx hb d_O_isTrialWithin_30 rfl (lv_at hl 3 rfl) ?_
    refine wcS_i (As := [.int (nI kk)]) hx hb hC hw (k_JI_nlz l T (fF V1) (fU V1) K I O kk hk0 hk1) lk_O_52 rfl rfl ⟨by show 0 + 1 ≤ R.frames; omega, by show 8 + (2 + 11) + 0 ≤ R.locals; omega⟩ rfl hl.1 rfl (Nat.le_of_ble_eq_true rfl) ⟨Nat.zero_le _, Nat.zero_le _⟩ d_O_isTrialWithin_31 (fun H locs hw => ?_)
    refine lv_isub hx hb d_O_isTrialWithin_34 ?_
    refine sw_i (y := (nI (bl kk - 1) - 1)) (by
        by_cases h : 2 ≤ bl kk
        · rw [nI_ms (by omega), pk_sub (by omega)]; congr 1; omega
        · rw [show bl kk = 1 by omega]; decide +kernel) ?_
    refine lv_istore hx hb d_O_isTrialWithin_35 hl (by decide) rfl (fun ls hl => ?_)
    have hl : lv_has ls 5 [(4, .int (nI (bl kk - 1) - 1)), (3, .int (nI 1)), (0, .ref (wa T 88)), (1, .ref (wa T a)), (2, .int (nI kk))] := hl
    have e1 : kk / 2 ^ (bl kk - 1) = 1 := by
      have h1 := bl_lt (lim_31 hk1)
      have h2 := bl_ge hbp
      have h3 : kk / 2 ^ (bl kk - 1) < 2 := Nat.div_lt_of_lt_mul (by rw [← Nat.pow_succ, show (bl kk - 1).succ = bl kk by omega]; exact h1)
      have h4 := Nat.div_pos h2 (Nat.two_pow_pos _)
      omega
    exact lp (bl kk - 1) V1 true ls _ _ l1 (fun n h => o1 n (by omega)) (Or.inl ⟨rfl, by rw [x1, e1, Nat.pow_one], by rw [x1]; exact le3.mp h9⟩) (by omega) hl hw
