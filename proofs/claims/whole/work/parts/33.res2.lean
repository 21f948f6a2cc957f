/-! Residues: powers -/
theorem rp_26 (W : Nat → Nat) (mo : Nat) : rpV W mo 26 = W 28 % W mo := by unfold rpV; rw [va_up_self]
theorem rp_out {W : Nat → Nat} {mo n : Nat} (h : n < 16 ∨ 18 < n) (h2 : n ≠ 26) : rpV W mo n = W n := by unfold rpV; rw [va_up_ne _ _ h2]; exact dvV_out (by omega)
theorem rp_lim {W : Nat → Nat} {mo : Nat} (hm : mo < 13) (hW : ∀ n, n < 34 → W n < vLim) : ∀ n, n < 34 → rpV W mo n < vLim := by
  unfold rpV; exact hV_up (dvV_lim (by omega) (by omega) (by omega) hW) (Nat.lt_of_le_of_lt (Nat.mod_le _ _) (hW 28 (by omega)))
theorem tb_half (E q : Nat) : E / 2 ^ q = 2 * (E / 2 ^ (q + 1)) + (if E.testBit q = true then 1 else 0) := by
  have e1 : E / 2 ^ (q + 1) = E / 2 ^ q / 2 := by rw [Nat.pow_succ, Nat.div_div_eq_div_mul]
  have e2 := Nat.testBit_eq_decide_div_mod_eq (x := E) (i := q)
  rw [e1, e2]
  simp only [decide_eq_true_eq]
  split <;> omega
theorem pw_sq (g x M : Nat) : g ^ x % M * (g ^ x % M) % M = g ^ (2 * x) % M := by
  rw [← Nat.mul_mod, ← Nat.pow_add, Nat.two_mul]
theorem pw_one (g x M : Nat) : g ^ x % M * g % M = g ^ (x + 1) % M := by
  rw [Nat.mod_mul_mod, ← Nat.pow_succ]
def sPr (V : Nat → Nat) (K : wUt) (x v : Nat) (V' : Nat → Nat) (K' : wUt) : Prop := K' = K ∧ (∀ n, n < 34 → V' n < vLim) ∧ (∀ n, n < 13 → V' n = V n) ∧ V' x = v

set_option maxRecDepth 100000 in
set_option maxHeartbeats 4000000 in
theorem k_S_raise (l : Launch) (T : wT) (V : Nat → Nat) (K : wUt) (I : wIt) (O : wOt) (k ex mo : Nat) (bk : Bool) (hk : k < 13) (he9 : ex < 13) (hm : mo < 13) (hKk : K k = bI bk) (h0 : 0 < V mo) (hk1 : V k < m1024) (hm1 : V mo < m1024) (hV : ∀ n, n < 34 → V n < vLim) : Met l y_S_raise (.code y_S_raise c_S_raise 5 none :: bg) ({ frames := 5, cells := 0, slots := 0, locals := 127 } : Room) (mP T (fF V) (fU V) K I O [.ref (wa T 89), .ref (wa T (68 + k)), .ref (wa T ex), .ref (wa T mo)]) (mQvp T (sPr V K 26 (rdc bk (V k) (V mo) ^ V ex % V mo)) I O) 0 0 (wA T) := by
  refine wM_vp (by decide) (Nat.le_of_ble_eq_true rfl) ?_
  intro p e R s m args below meth c Q ls hx hb hC hRf hRl hret hl hw
  have hRf : 5 ≤ R.frames := hRf
  have hRl : 127 ≤ R.locals := hRl
  have hl : lv_has ls 5 [(0, .ref (wa T 89)), (1, .ref (wa T (68 + k))), (2, .ref (wa T ex)), (3, .ref (wa T mo))] := hl
  refine lv_aload_n hx hb d_S_raise_0 rfl (lv_at hl 0 rfl) ?_
  refine lv_aload_n hx hb d_S_raise_1 rfl (lv_at hl 1 rfl) ?_
  refine lv_aload_n hx hb d_S_raise_2 rfl (lv_at hl 3 rfl) ?_
  refine wcV_v (As := [.ref (wa T (68 + k)), .ref (wa T mo)]) hx hb hC hw (k_S_reduce l T V K I O k mo bk hk hm hKk h0 (sp_fit1 hk1 hm1 h0) hV) lk_S_56 rfl rfl ⟨by show 4 + 1 ≤ R.frames; omega, by show 8 + (3 + 11) + 105 ≤ R.locals; omega⟩ (by omega) (we_Residues ) rfl rfl hl.1 rfl (Nat.le_of_ble_eq_true rfl) ⟨Nat.zero_le _, Nat.zero_le _⟩ d_S_raise_3 (fun H locs hw => ?_)
  have g0 := rdc_lt (b := bk) (x := V k) h0
  generalize hg : rdc bk (V k) (V mo) = g at g0
  have a1 : rdV V bk k mo 26 = g := by unfold rdV; rw [va_up_self, hg]
  have a2 : ∀ n, n < 13 → rdV V bk k mo n = V n := fun n hn => by unfold rdV; rw [va_up_ne _ _ (by omega)]; exact dvV_out (by omega)
  have gl : g < vLim := Nat.lt_trans g0 (hV mo (by omega))
  have a3 : ∀ n, n < 34 → rdV V bk k mo n < vLim := by unfold rdV; exact hV_up (dvV_lim (by omega) (by omega) (by omega) hV) (by rw [hg]; exact gl)
  generalize rdV V bk k mo = V1 at hw a1 a2 a3
  refine lv_aload_n hx hb d_S_raise_6 rfl (lv_at hl 0 rfl) ?_
  refine wg_Residues_base hx hb hC hw bw_139 d_S_raise_7 ?_
  refine lv_aload_n hx hb d_S_raise_10 rfl (lv_at hl 0 rfl) ?_
  refine wg_Residues_found hx hb hC hw bw_137 d_S_raise_11 ?_
  refine wcV_v (As := [.ref (wa T 26)]) hx hb hC hw (k_N_take l T V1 K I O 27 26 (by omega) (by omega) a3) lk_S_41 rfl rfl ⟨by show 1 + 1 ≤ R.frames; omega, by show 8 + (4 + 11) + 22 ≤ R.locals; omega⟩ (by omega) (we_Natural (by omega)) rfl rfl hl.1 rfl (Nat.le_of_ble_eq_true rfl) ⟨Nat.zero_le _, Nat.zero_le _⟩ d_S_raise_14 (fun H locs hw => ?_)
  have b3 := hV_up (x := 27) a3 (a3 26 (by omega))
  refine lv_aload_n hx hb d_S_raise_17 rfl (lv_at hl 0 rfl) ?_
  refine wg_Residues_product hx hb hC hw bw_140 d_S_raise_18 ?_
  refine lv_lconst (v := 1) hx hb d_S_raise_21 (by decide +kernel) ?_
  refine sw_l (y := lN 1) (rfl) ?_
  refine wcV_v (As := [.long (lN 1)]) hx hb hC hw (k_N_takeUnsigned l T (va_up V1 27 (V1 26)) K I O 28 1 (by omega) (by decide) b3) lk_S_60 rfl rfl ⟨by show 1 + 1 ≤ R.frames; omega, by show 8 + (3 + 11) + 22 ≤ R.locals; omega⟩ (by omega) (we_Natural (by omega)) rfl rfl hl.1 rfl (Nat.le_of_ble_eq_true rfl) ⟨Nat.zero_le _, Nat.zero_le _⟩ d_S_raise_22 (fun H locs hw => ?_)
  have c3 := hV_up (x := 28) (v := 1) b3 (by decide +kernel)
  have c1 : ∀ n, n < 13 → va_up (va_up V1 27 (V1 26)) 28 1 n = V n := fun n hn => by rw [va_up_ne _ _ (by omega), va_up_ne _ _ (by omega)]; exact a2 n hn
  have c2 : va_up (va_up V1 27 (V1 26)) 28 1 27 = g := by rw [va_up_ne _ _ (by omega), va_up_self]; exact a1
  have c4 : va_up (va_up V1 27 (V1 26)) 28 1 28 = 1 := va_up_self _ _ _
  generalize va_up (va_up V1 27 (V1 26)) 28 1 = V3 at hw c1 c2 c3 c4
  refine lv_aload_n hx hb d_S_raise_25 rfl (lv_at hl 0 rfl) ?_
  refine lv_aload_n hx hb d_S_raise_26 rfl (lv_at hl 3 rfl) ?_
  refine wcV_v (As := [.ref (wa T mo)]) hx hb hC hw (k_S_reduceProduct l T V3 K I O mo hm (by rw [c4, c1 mo hm]; exact sp_fit1 (by decide +kernel) hm1 h0) c3) lk_S_64 rfl rfl ⟨by show 4 + 1 ≤ R.frames; omega, by show 8 + (2 + 11) + 105 ≤ R.locals; omega⟩ (by omega) (we_Residues ) rfl rfl hl.1 rfl (Nat.le_of_ble_eq_true rfl) ⟨Nat.zero_le _, Nat.zero_le _⟩ d_S_raise_27 (fun H locs hw => ?_)
  have d1 : ∀ n, n < 13 → rpV V3 mo n = V n := fun n hn => by rw [rp_out (by omega) (by omega)]; exact c1 n hn
  have d2 : rpV V3 mo 27 = g := by rw [rp_out (by omega) (by omega)]; exact c2
  have d3 := rp_lim hm c3
  have d4 : rpV V3 mo 26 = 1 % V mo := by rw [rp_26, c4, c1 mo hm]
  generalize rpV V3 mo = V4 at hw d1 d2 d3 d4
  refine lv_aload_n hx hb d_S_raise_30 rfl (lv_at hl 2 rfl) ?_
  refine wcV_i (As := []) hx hb hC hw (k_N_length l T V4 K I O ex (by omega) d3) lk_S_67 rfl rfl ⟨by show 3 + 1 ≤ R.frames; omega, by show 8 + (1 + 11) + 63 ≤ R.locals; omega⟩ (by omega) (we_Natural (by omega)) rfl rfl hl.1 rfl (Nat.le_of_ble_eq_true rfl) ⟨Nat.zero_le _, Nat.zero_le _⟩ d_S_raise_31 (fun H locs hw => ?_)
  rw [d1 ex he9]
  refine lv_iconst (v := nI 1) hx hb d_S_raise_34 (by decide +kernel) ?_
  refine lv_isub hx hb d_S_raise_35 ?_
  refine sw_i (y := (nI (bl (V ex)) - 1)) (rfl) ?_
  refine lv_istore hx hb d_S_raise_36 hl (by decide) rfl (fun ls hl => ?_)
  have hl : lv_has ls 5 [(4, .int (nI (bl (V ex)) - 1)), (0, .ref (wa T 89)), (1, .ref (wa T (68 + k))), (2, .ref (wa T ex)), (3, .ref (wa T mo))] := hl
  have lp : ∀ (q : Nat) (V9 : Nat → Nat) (ls : Array Slot) (H : Heap) (locs : List Loc), (V9 26 = g ^ (V ex / 2 ^ q) % V mo) → (V9 27 = g) → (∀ n, n < 13 → V9 n = V n) → (∀ n, n < 34 → V9 n < vLim) → (q ≤ 2100) →  lv_has ls 5 [(4, .int (nI q - 1)), (0, .ref (wa T 89)), (1, .ref (wa T (68 + k))), (2, .ref (wa T ex)), (3, .ref (wa T mo))] → wH T (fF V9) (fU V9) K I O (wA T) s s.heap H locs → W p l e R s m args below meth c H locs 0 0 Q (F0 m 38 ls []) := by
    intro q
    induction q with
    | zero =>
      intro V9 ls H locs h1 h2 h3 h4 h5 hl hw
      refine lv_iload hx hb d_S_raise_38 (lv_at hl 0 rfl) ?_
      refine d_if_lt (tgt := 94) hx hb d_S_raise_40 (by decide) (by omega) (fun h0 => ?_) (fun h0 => ?_)
      · exact hret V9 K _ _ _ _ ⟨rfl, h4, h3, by rw [h1, Nat.pow_zero, Nat.div_one, hg]⟩ hw d_S_raise_94
      · exact absurd h0 (by omega)
    | succ q ih =>
      intro V9 ls H locs h1 h2 h3 h4 h5 hl hw
      rw [nI_pred] at hl
      have hl : lv_has ls 5 [(4, .int (nI q)), (0, .ref (wa T 89)), (1, .ref (wa T (68 + k))), (2, .ref (wa T ex)), (3, .ref (wa T mo))] := hl
      refine lv_iload hx hb d_S_raise_38 (lv_at hl 0 rfl) ?_
      refine n_if_lt hx hb d_S_raise_40 (by decide) (by omega) ?_
      have fl : V9 26 < V mo := by rw [h1]; exact Nat.mod_lt _ h0
      have f1 : V9 26 < m1024 := Nat.lt_trans fl hm1
      have f37 := k37 f1
      have fgl : V9 26 * V9 26 < vLim := Nat.lt_of_lt_of_le (vB_mul (kD_lt (h4 26 (by omega))) (kD_lt (h4 26 (by omega)))) (vB_le (by omega))
      refine lv_aload_n hx hb d_S_raise_43 rfl (lv_at hl 1 rfl) ?_
      refine wg_Residues_product hx hb hC hw bw_140 d_S_raise_44 ?_
      refine lv_aload_n hx hb d_S_raise_47 rfl (lv_at hl 1 rfl) ?_
      refine wg_Residues_found hx hb hC hw bw_137 d_S_raise_48 ?_
      refine wcV_v (As := [.ref (wa T 26)]) hx hb hC hw (k_N_takeSquare l T V9 K I O 28 26 (by omega) (by omega) (by omega) (by omega) h4) lk_S_71 rfl rfl ⟨by show 2 + 1 ≤ R.frames; omega, by show 8 + (3 + 11) + 46 ≤ R.locals; omega⟩ (by omega) (we_Natural (by omega)) rfl rfl hl.1 rfl (Nat.le_of_ble_eq_true rfl) ⟨Nat.zero_le _, Nat.zero_le _⟩ d_S_raise_51 (fun H locs hw => ?_)
      have e3 := hV_up (x := 28) h4 fgl
      have e1 : ∀ n, n < 13 → va_up V9 28 (V9 26 * V9 26) n = V n := fun n hn => by rw [va_up_ne _ _ (by omega)]; exact h3 n hn
      have e2 : va_up V9 28 (V9 26 * V9 26) 27 = g := by rw [va_up_ne _ _ (by omega)]; exact h2
      have e4 : va_up V9 28 (V9 26 * V9 26) 28 = V9 26 * V9 26 := va_up_self _ _ _
      generalize va_up V9 28 (V9 26 * V9 26) = Va at hw e1 e2 e3 e4
      refine lv_aload_n hx hb d_S_raise_54 rfl (lv_at hl 1 rfl) ?_
      refine lv_aload_n hx hb d_S_raise_55 rfl (lv_at hl 4 rfl) ?_
      refine wcV_v (As := [.ref (wa T mo)]) hx hb hC hw (k_S_reduceProduct l T Va K I O mo hm (by rw [e4, e1 mo hm]; exact sp_fit f1 fl hm1) e3) lk_S_64 rfl rfl ⟨by show 4 + 1 ≤ R.frames; omega, by show 8 + (2 + 11) + 105 ≤ R.locals; omega⟩ (by omega) (we_Residues ) rfl rfl hl.1 rfl (Nat.le_of_ble_eq_true rfl) ⟨Nat.zero_le _, Nat.zero_le _⟩ d_S_raise_56 (fun H locs hw => ?_)
      have i1 : ∀ n, n < 13 → rpV Va mo n = V n := fun n hn => by rw [rp_out (by omega) (by omega)]; exact e1 n hn
      have i2 : rpV Va mo 27 = g := by rw [rp_out (by omega) (by omega)]; exact e2
      have i3 := rp_lim hm e3
      have i4 : rpV Va mo 26 = g ^ (2 * (V ex / 2 ^ (q + 1))) % V mo := by rw [rp_26, e4, e1 mo hm, h1, pw_sq]
      generalize rpV Va mo = Vb at hw i1 i2 i3 i4
      refine lv_aload_n hx hb d_S_raise_59 rfl (lv_at hl 3 rfl) ?_
      refine lv_iload hx hb d_S_raise_60 (lv_at hl 0 rfl) ?_
      refine wcV_z (As := [.int (nI q)]) hx hb hC hw (k_N_hasBit l T Vb K I O ex q (by omega) (by omega) i3) lk_S_74 rfl rfl ⟨by show 1 + 1 ≤ R.frames; omega, by show 8 + (2 + 11) + 21 ≤ R.locals; omega⟩ (by omega) (we_Natural (by omega)) rfl rfl hl.1 rfl (Nat.le_of_ble_eq_true rfl) ⟨Nat.zero_le _, Nat.zero_le _⟩ d_S_raise_62 (fun H locs hw => ?_)
      rw [i1 ex he9]
      have hth := tb_half (V ex) q
      by_cases htb : (V ex).testBit q = true
      · refine sw_i (y := nI 1) (by rw [if_pos htb]; rfl) ?_
        refine n_if_eq (tgt := 88) hx hb d_S_raise_65 (by decide) (by omega) (fun hw9 => ?_) (fun hw9 => ?_)
        · exact absurd hw9 (by decide)
        · rw [if_pos htb] at hth
          have bl1 : Vb 26 < V mo := by rw [i4]; exact Nat.mod_lt _ h0
          have bgl : Vb 26 * Vb 27 < vLim := Nat.lt_of_lt_of_le (vB_mul (m := 37) (n := 37) (Nat.lt_of_lt_of_le (kD_lt (i3 26 (by omega))) (vB_le (k37 (Nat.lt_trans bl1 hm1)))) (Nat.lt_of_lt_of_le (kD_lt (i3 27 (by omega))) (vB_le (k37 (by rw [i2]; exact Nat.lt_trans g0 hm1))))) (vB_le (by decide))
          refine lv_aload_n hx hb d_S_raise_68 rfl (lv_at hl 1 rfl) ?_
          refine wg_Residues_product hx hb hC hw bw_140 d_S_raise_69 ?_
          refine lv_aload_n hx hb d_S_raise_72 rfl (lv_at hl 1 rfl) ?_
          refine wg_Residues_found hx hb hC hw bw_137 d_S_raise_73 ?_
          refine lv_aload_n hx hb d_S_raise_76 rfl (lv_at hl 1 rfl) ?_
          refine wg_Residues_base hx hb hC hw bw_139 d_S_raise_77 ?_
          refine wcV_v (As := [.ref (wa T 26), .ref (wa T 27)]) hx hb hC hw (k_N_takeProduct l T Vb K I O 28 26 27 (by omega) (by omega) (by omega) (by omega) (by omega) (by have := k37 (Nat.lt_trans bl1 hm1); have := k37 (show Vb 27 < m1024 by rw [i2]; exact Nat.lt_trans g0 hm1); omega) i3) lk_S_78 rfl rfl ⟨by show 2 + 1 ≤ R.frames; omega, by show 8 + (4 + 11) + 46 ≤ R.locals; omega⟩ (by omega) (we_Natural (by omega)) rfl rfl hl.1 rfl (Nat.le_of_ble_eq_true rfl) ⟨Nat.zero_le _, Nat.zero_le _⟩ d_S_raise_80 (fun H locs hw => ?_)
          have j3 := hV_up (x := 28) i3 bgl
          have j1 : ∀ n, n < 13 → va_up Vb 28 (Vb 26 * Vb 27) n = V n := fun n hn => by rw [va_up_ne _ _ (by omega)]; exact i1 n hn
          have j2 : va_up Vb 28 (Vb 26 * Vb 27) 27 = g := by rw [va_up_ne _ _ (by omega)]; exact i2
          have j4 : va_up Vb 28 (Vb 26 * Vb 27) 28 = Vb 26 * g := by rw [va_up_self, i2]
          generalize va_up Vb 28 (Vb 26 * Vb 27) = Vc at hw j1 j2 j3 j4
          refine lv_aload_n hx hb d_S_raise_83 rfl (lv_at hl 1 rfl) ?_
          refine lv_aload_n hx hb d_S_raise_84 rfl (lv_at hl 4 rfl) ?_
          refine wcV_v (As := [.ref (wa T mo)]) hx hb hC hw (k_S_reduceProduct l T Vc K I O mo hm (by rw [j4, j1 mo hm]; exact sp_fit (Nat.lt_trans bl1 hm1) g0 hm1) j3) lk_S_64 rfl rfl ⟨by show 4 + 1 ≤ R.frames; omega, by show 8 + (2 + 11) + 105 ≤ R.locals; omega⟩ (by omega) (we_Residues ) rfl rfl hl.1 rfl (Nat.le_of_ble_eq_true rfl) ⟨Nat.zero_le _, Nat.zero_le _⟩ d_S_raise_85 (fun H locs hw => ?_)
          refine lv_iinc (v := (nI q - 1)) hx hb d_S_raise_88 hl (k := 0) rfl (i32_m1 _) (by decide) rfl (fun ls hl => ?_)
          have hl : lv_has ls 5 [(4, .int (nI q - 1)), (0, .ref (wa T 89)), (1, .ref (wa T (68 + k))), (2, .ref (wa T ex)), (3, .ref (wa T mo))] := hl
          refine lv_goto (tgt := 38) hx hb d_S_raise_91 (by decide) ?_
          exact ih (rpV Vc mo) ls H locs (by rw [rp_26, j4, j1 mo hm, i4, pw_one, ← hth]) (by rw [rp_out (by omega) (by omega)]; exact j2) (fun n hn => by rw [rp_out (by omega) (by omega)]; exact j1 n hn) (rp_lim hm j3) (by omega) hl hw
      · refine sw_i (y := nI 0) (by rw [if_neg htb]; rfl) ?_
        refine n_if_eq (tgt := 88) hx hb d_S_raise_65 (by decide) (by omega) (fun hw9 => ?_) (fun hw9 => ?_)
        · rw [if_neg htb, Nat.add_zero] at hth
          refine lv_iinc (v := (nI q - 1)) hx hb d_S_raise_88 hl (k := 0) rfl (i32_m1 _) (by decide) rfl (fun ls hl => ?_)
          have hl : lv_has ls 5 [(4, .int (nI q - 1)), (0, .ref (wa T 89)), (1, .ref (wa T (68 + k))), (2, .ref (wa T ex)), (3, .ref (wa T mo))] := hl
          refine lv_goto (tgt := 38) hx hb d_S_raise_91 (by decide) ?_
          exact ih Vb ls H locs (by rw [i4, ← hth]) i2 i1 i3 (by omega) hl hw
        · exact absurd hw9 (by decide)
  exact lp (bl (V ex)) V4 ls _ _ (by rw [d4, Nat.div_eq_of_lt (bl_lt (hV ex (by omega))), Nat.pow_zero]) d2 d1 d3 (bl_le _) hl hw
