/-! Natural: lowered, one more, bits below -/
section MB
variable {p : Program} {l : Launch} {e : Env} {R : Room} {s : State} {m : MethodId} {args : Array Value} {below : List Frame} {meth : Method} {c : Code} {H H0 : Heap} {locs : List Loc} {cells slots : Nat} {Q : State → Prop}
variable {cc : ByteArray} {pc maxL index : Nat} {ls : Array Slot} {rest : List Value} {own : String}
theorem wm_max0 {a b : Nat} (hx : p.tables.exec = Jvm.exec) (hb : c.code = cc) (hC : wC m c maxL s args own) (hlk : Cond.methodLink own index Lib.Math.max.name ∈ bg) (ha : a < 1073741824) (hb2 : b < 1073741824) (hls : ls.size = maxL) (hf : 1 ≤ R.frames) (hl : (rest.map fun v => v.category).sum + 13 ≤ R.locals) (hcs : cells ≤ R.cells ∧ slots ≤ R.slots) (hdg : decode cc pc = .ok (.invokestatic index, 3)) (kk : W p l e R s m args below meth c H locs cells slots Q (F0 m (pc + 3) ls (.int (nI (a - b)) :: rest))) : W p l e R s m args below meth c H locs cells slots Q (F0 m pc ls (.int (nI 0) :: .int (nI a - nI b) :: rest)) := by
  refine va_mmax hx hb (hC.1.trans hls.symm) hC.2.2 (hC.hts hlk) (hC.hts ms_maxI) (hC.hts bw_14) (hC.hts mc_maxI) hf hl hcs.1 hcs.2 hdg (sw_i ?_ kk)
  by_cases h : b ≤ a
  · rw [pk_sub h, if_neg (nI_nlt (by omega) (by omega))]
  · rw [if_pos (show nI a - nI b < nI 0 from pk_sneg (by omega) (by omega)), show a - b = 0 by omega]
end MB
theorem dn_lt {v n k : Nat} (h : v < vB ^ k) : v / 2 ^ n < vB ^ (k - n / 28) := by
  have h1 : vB ^ (n / 28) ≤ 2 ^ n := by rw [vB_two]; exact Nat.pow_le_pow_right (by decide) (by omega)
  by_cases e : n / 28 ≤ k
  · apply Nat.div_lt_of_lt_mul
    have h2 : vB ^ (n / 28) * vB ^ (k - n / 28) = vB ^ k := by rw [← Nat.pow_add, show n / 28 + (k - n / 28) = k by omega]
    exact Nat.lt_of_lt_of_le h (by rw [← h2]; exact Nat.mul_le_mul_right _ h1)
  · have h2 : vB ^ k ≤ vB ^ (n / 28) := vB_le (by omega)
    rw [Nat.div_eq_of_lt (by omega)]
    exact Nat.pow_pos vB_pos
theorem fD_top {v : Nat} (h : v < vLim) (hk : 0 < kD v) : fD v (kD v - 1) ≠ 0 := fun q => by
  have h1 := kD_lt h
  have h2 := kD_ge hk
  have h3 : (fD v (kD v - 1)).toInt = 0 := by rw [q]; exact lj_0
  rw [fD_toInt] at h3
  have h4 : v / vB ^ (kD v - 1) < vB := by
    apply Nat.div_lt_of_lt_mul
    rw [← Nat.pow_succ, show (kD v - 1).succ = kD v by omega]; exact h1
  rw [Nat.mod_eq_of_lt h4] at h3
  have h5 := Nat.div_pos h2 (Nat.pow_pos vB_pos)
  omega
theorem ev_part {f g : Nat → Int} {B : Int} {i : Nat} (h0 : ∀ j, j < i → f j = 0) (h1 : ∀ j, i ≤ j → f j = g j) : ∀ {n : Nat}, i ≤ n → lm_ev B f n + lm_ev B g i = lm_ev B g n
  | 0, h => by rw [show i = 0 by omega]; simp [lm_ev0]
  | n + 1, h => by
    by_cases e : i = n + 1
    · rw [e, lm_congr (g := fun _ => 0) (fun j hj => h0 j (by omega))]
      have : ∀ k, lm_ev B (fun _ => 0) k = 0 := fun k => by
        induction k with
        | zero => rfl
        | succ k ih => rw [lm_evs, ih]; simp
      rw [this]; simp
    · rw [lm_evs, lm_evs, h1 n (by omega), ← ev_part h0 h1 (n := n) (by omega)]; omega
theorem nbb {v i : Nat} (hz : v % vB ^ (i / 28) = 0) : v % 2 ^ i = vB ^ (i / 28) * (v / vB ^ (i / 28) % vB % 2 ^ (i % 28)) := by
  have h1 : 2 ^ i = vB ^ (i / 28) * 2 ^ (i % 28) := by rw [vB_two, ← Nat.pow_add, Nat.div_add_mod]
  have h2 : 2 ^ (i % 28) ∣ vB := ⟨2 ^ (28 - i % 28), by rw [← Nat.pow_add, show i % 28 + (28 - i % 28) = 28 by have := Nat.mod_lt i (show 0 < 28 by decide); omega]; rfl⟩
  rw [h1, Nat.mod_mul, hz, Nat.zero_add, Nat.mod_mod_of_dvd _ h2]

set_option maxRecDepth 100000 in
set_option maxHeartbeats 4000000 in
theorem k_N_takeLowered (l : Launch) (T : wT) (V : Nat → Nat) (K : wUt) (I : wIt) (O : wOt) (x a n : Nat) (hi : x < 34) (ha : a < 34) (hn : n < 1073741824) (hV : ∀ n, n < 34 → V n < vLim) : Met l y_N_takeLowered (.code y_N_takeLowered c_N_takeLowered 11 none :: bg) ({ frames := 1, cells := 0, slots := 0, locals := 22 } : Room) (mP T (fF V) (fU V) K I O [.ref (wa T x), .ref (wa T a), .int (nI n)]) (mQv T (fF (va_up V x (V a / 2 ^ n))) (fU (va_up V x (V a / 2 ^ n))) K I O) 0 0 (wA T) := by
  refine wM_v (by decide) (Nat.le_of_ble_eq_true rfl) ?_
  intro p e R s m args below meth c Q ls hx hb hC hRf hRl hret hl hw
  have hRf : 1 ≤ R.frames := hRf
  have hRl : 22 ≤ R.locals := hRl
  have hl : lv_has ls 11 [(0, .ref (wa T x)), (1, .ref (wa T a)), (2, .int (nI n))] := hl
  have hm : n % 28 < 28 := Nat.mod_lt _ (by decide)
  have hk := kD_le (V a)
  refine lv_iload_n hx hb d_N_takeLowered_0 rfl (lv_at hl 2 rfl) ?_
  refine lv_bipush (v := nI 28) hx hb d_N_takeLowered_1 (by decide +kernel) ?_
  refine n_idiv hx hb d_N_takeLowered_3 (by omega) (by omega) (by omega) ?_
  refine lv_istore_n hx hb d_N_takeLowered_4 rfl hl (by decide) rfl (fun ls hl => ?_)
  have hl : lv_has ls 11 [(3, .int (nI (n / 28))), (0, .ref (wa T x)), (1, .ref (wa T a)), (2, .int (nI n))] := hl
  refine lv_iload_n hx hb d_N_takeLowered_5 rfl (lv_at hl 3 rfl) ?_
  refine lv_bipush (v := nI 28) hx hb d_N_takeLowered_6 (by decide +kernel) ?_
  refine n_irem hx hb d_N_takeLowered_8 (by omega) (by omega) (by omega) ?_
  refine lv_istore hx hb d_N_takeLowered_9 hl (by decide) rfl (fun ls hl => ?_)
  have hl : lv_has ls 11 [(4, .int (nI (n % 28))), (3, .int (nI (n / 28))), (0, .ref (wa T x)), (1, .ref (wa T a)), (2, .int (nI n))] := hl
  refine lv_aload_n hx hb d_N_takeLowered_11 rfl (lv_at hl 3 rfl) ?_
  refine wg_Natural_used hx hb hC hw (by omega) bw_45 d_N_takeLowered_12 ?_
  refine sw_i (y := nI (kD (V a))) (rfl) ?_
  refine lv_iload_n hx hb d_N_takeLowered_15 rfl (lv_at hl 1 rfl) ?_
  refine lv_isub hx hb d_N_takeLowered_16 ?_
  refine lv_iconst (v := nI 0) hx hb d_N_takeLowered_17 (by decide +kernel) ?_
  refine wm_max0 hx hb hC ml_340 (by omega) (by omega) hl.1 (by omega) (by show 0 + 13 ≤ R.locals; omega) ⟨Nat.zero_le _, Nat.zero_le _⟩ d_N_takeLowered_18 ?_
  refine lv_istore hx hb d_N_takeLowered_21 hl (by decide) rfl (fun ls hl => ?_)
  have hl : lv_has ls 11 [(5, .int (nI (kD (V a) - n / 28))), (4, .int (nI (n % 28))), (3, .int (nI (n / 28))), (0, .ref (wa T x)), (1, .ref (wa T a)), (2, .int (nI n))] := hl
  refine lv_aload_n hx hb d_N_takeLowered_23 rfl (lv_at hl 4 rfl) ?_
  refine lv_iload_n hx hb d_N_takeLowered_24 rfl (lv_at hl 2 rfl) ?_
  refine wcV_l (As := [.int (nI (n / 28))]) hx hb hC hw (k_N_at l T (fF V) (fU V) K I O a (n / 28) (kD (V a)) ha rfl (kD_le _) (by omega)) lk_N_19 rfl rfl ⟨by show 0 + 1 ≤ R.frames; omega, by show 8 + (2 + 11) + 0 ≤ R.locals; omega⟩ (by omega) (we_Natural (by omega)) rfl rfl hl.1 rfl (Nat.le_of_ble_eq_true rfl) ⟨Nat.zero_le _, Nat.zero_le _⟩ d_N_takeLowered_25 (fun H locs hw => ?_)
  refine sw_l (y := lN (V a / vB ^ (n / 28) % vB)) (at_fD (hV a ha) rfl) ?_
  refine lv_lstore hx hb d_N_takeLowered_28 hl (by decide) rfl (fun ls hl => ?_)
  have hl : lv_has ls 11 [(6, .long (lN (V a / vB ^ (n / 28) % vB))), (5, .int (nI (kD (V a) - n / 28))), (4, .int (nI (n % 28))), (3, .int (nI (n / 28))), (0, .ref (wa T x)), (1, .ref (wa T a)), (2, .int (nI n))] := hl
  refine lv_iconst (v := nI 0) hx hb d_N_takeLowered_30 (by decide +kernel) ?_
  refine lv_istore hx hb d_N_takeLowered_31 hl (by decide) rfl (fun ls hl => ?_)
  have hl : lv_has ls 11 [(8, .int (nI 0)), (6, .long (lN (V a / vB ^ (n / 28) % vB))), (5, .int (nI (kD (V a) - n / 28))), (4, .int (nI (n % 28))), (3, .int (nI (n / 28))), (0, .ref (wa T x)), (1, .ref (wa T a)), (2, .int (nI n))] := hl
  rw [← va_upx (fF V) x] at hw
  have lp : ∀ (z9 i : Nat) (f : Nat → Int64) (ls : Array Slot) (H : Heap) (locs : List Loc), (kD (V a) - n / 28) - i = z9 → i ≤ (kD (V a) - n / 28) → (∀ j, j < i → f j = fD (V a / 2 ^ n) j) → (∀ j, i ≤ j → f j = fD (V x) j) →  lv_has ls 11 [(8, .int (nI i)), (6, .long (lN (V a / vB ^ (n / 28 + i) % vB))), (5, .int (nI (kD (V a) - n / 28))), (4, .int (nI (n % 28))), (3, .int (nI (n / 28))), (0, .ref (wa T x)), (1, .ref (wa T a)), (2, .int (nI n))] → wH T (va_up (fF V) x f) (fU V) K I O (wA T) s s.heap H locs → W p l e R s m args below meth c H locs 0 0 Q (F0 m 33 ls []) := by
    intro z9
    induction z9 with
    | zero =>
      intro i f ls H locs hn hle h1 h2 hl hw
      refine lv_iload hx hb d_N_takeLowered_33 (lv_at hl 0 rfl) ?_
      refine lv_iload hx hb d_N_takeLowered_35 (lv_at hl 2 rfl) ?_
      refine n_icmp_ge (tgt := 87) hx hb d_N_takeLowered_37 (by decide) (by omega) (by omega) (fun h0 => ?_) (fun h0 => ?_)
      · have e9 : kD (V a) - n / 28 = i := by omega
        subst e9
        refine lv_aload_n hx hb d_N_takeLowered_87 rfl (lv_at hl 5 rfl) ?_
        refine lv_iload hx hb d_N_takeLowered_88 (lv_at hl 2 rfl) ?_
        refine wcV_v (As := [.int (nI (kD (V a) - n / 28))]) hx hb hC hw (k_N_settle l T (va_up (fF V) x f) (fU V) K I O x (kD (V x)) (kD (V a) - n / 28) (V a / 2 ^ n) hi rfl (kD_le _) (by omega) (fun j hj => by rw [va_up_self]; unfold nd; rw [h1 j hj]; exact fD_in _ _) (fun j a1 a2 a3 => by rw [va_up_self, h2 j a1]; exact fD_zero (hV x hi) a2) (by rw [va_up_self]; exact fD_evL (dn_lt (kD_lt (hV a ha))) h1)) lk_N_39 rfl rfl ⟨by show 0 + 1 ≤ R.frames; omega, by show 8 + (3 + 11) + 0 ≤ R.locals; omega⟩ (by omega) (we_Natural (by omega)) rfl rfl hl.1 rfl (Nat.le_of_ble_eq_true rfl) ⟨Nat.zero_le _, Nat.zero_le _⟩ d_N_takeLowered_90 (fun H locs hw => ?_)
        rw [bx_uu, fF_up, fU_up] at hw
        exact hret _ _ _ _ hw d_N_takeLowered_93
      · exact absurd h0 (by omega)
    | succ z9 ih =>
      intro i f ls H locs hn hle h1 h2 hl hw
      refine lv_iload hx hb d_N_takeLowered_33 (lv_at hl 0 rfl) ?_
      refine lv_iload hx hb d_N_takeLowered_35 (lv_at hl 2 rfl) ?_
      refine n_icmp_ge (tgt := 87) hx hb d_N_takeLowered_37 (by decide) (by omega) (by omega) (fun h0 => ?_) (fun h0 => ?_)
      · exact absurd h0 (by omega)
      · refine lv_aload_n hx hb d_N_takeLowered_40 rfl (lv_at hl 6 rfl) ?_
        refine lv_iload_n hx hb d_N_takeLowered_41 rfl (lv_at hl 4 rfl) ?_
        refine lv_iload hx hb d_N_takeLowered_42 (lv_at hl 0 rfl) ?_
        refine n_iadd hx hb d_N_takeLowered_44 ?_
        refine lv_iconst (v := nI 1) hx hb d_N_takeLowered_45 (by decide +kernel) ?_
        refine n_iadd hx hb d_N_takeLowered_46 ?_
        refine wcV_l (As := [.int (nI (((n / 28) + i) + 1))]) hx hb hC hw (k_N_at l T (va_up (fF V) x f) (fU V) K I O a (n / 28 + i + 1) (kD (V a)) ha rfl (kD_le _) (by omega)) lk_N_19 rfl rfl ⟨by show 0 + 1 ≤ R.frames; omega, by show 8 + (2 + 11) + 0 ≤ R.locals; omega⟩ (by omega) (we_Natural (by omega)) rfl rfl hl.1 rfl (Nat.le_of_ble_eq_true rfl) ⟨Nat.zero_le _, Nat.zero_le _⟩ d_N_takeLowered_47 (fun H locs hw => ?_)
        refine sw_l (y := lN (V a / vB ^ (n / 28 + i + 1) % vB)) (by rw [pv_alias (fun j hj => h2 j (by omega))]; exact at_fD (hV a ha) rfl) ?_
        refine lv_lstore hx hb d_N_takeLowered_50 hl (by decide) rfl (fun ls hl => ?_)
        have hl : lv_has ls 11 [(9, .long (lN (V a / vB ^ (n / 28 + i + 1) % vB))), (8, .int (nI i)), (6, .long (lN (V a / vB ^ (n / 28 + i) % vB))), (5, .int (nI (kD (V a) - n / 28))), (4, .int (nI (n % 28))), (3, .int (nI (n / 28))), (0, .ref (wa T x)), (1, .ref (wa T a)), (2, .int (nI n))] := hl
        refine lv_aload_n hx hb d_N_takeLowered_52 rfl (lv_at hl 6 rfl) ?_
        refine wg_Natural_limbs hx hb hC hw (by omega) bw_43 d_N_takeLowered_53 ?_
        refine lv_iload hx hb d_N_takeLowered_56 (lv_at hl 1 rfl) ?_
        refine lv_lload hx hb d_N_takeLowered_58 (lv_at hl 2 rfl) ?_
        refine lv_iload hx hb d_N_takeLowered_60 (lv_at hl 4 rfl) ?_
        refine lv_lshr hx hb d_N_takeLowered_62 rfl ?_
        refine lv_lload hx hb d_N_takeLowered_63 (lv_at hl 0 rfl) ?_
        refine lv_bipush (v := nI 28) hx hb d_N_takeLowered_65 (by decide +kernel) ?_
        refine lv_iload hx hb d_N_takeLowered_67 (lv_at hl 4 rfl) ?_
        refine n_isub hx hb d_N_takeLowered_69 (by omega) ?_
        refine lv_lshl hx hb d_N_takeLowered_70 rfl ?_
        refine lv_lor hx hb d_N_takeLowered_71 ?_
        refine lv_ldc2 (v := 268435455) hx hb hC.ow (hC.hts bw_300) d_N_takeLowered_72 ?_
        refine lv_land hx hb d_N_takeLowered_75 ?_
        refine sw_l (y := lN (V a / 2 ^ n / vB ^ i % vB)) (by rw [sh_orD (by omega) (dg_lt _ _) (dg_lt _ _), dn_dg]) ?_
        refine ws_limbs hx hb hw (by omega) (by omega) d_N_takeLowered_76 (fun H locs hw => ?_)
        refine lv_lload hx hb d_N_takeLowered_77 (lv_at hl 0 rfl) ?_
        refine lv_lstore hx hb d_N_takeLowered_79 hl (by decide) rfl (fun ls hl => ?_)
        have hl : lv_has ls 11 [(6, .long (lN (V a / vB ^ (n / 28 + i + 1) % vB))), (9, .long (lN (V a / vB ^ (n / 28 + i + 1) % vB))), (8, .int (nI i)), (5, .int (nI (kD (V a) - n / 28))), (4, .int (nI (n % 28))), (3, .int (nI (n / 28))), (0, .ref (wa T x)), (1, .ref (wa T a)), (2, .int (nI n))] := hl
        refine lv_iinc (v := nI (i + 1)) hx hb d_N_takeLowered_81 hl (k := 2) rfl (nI_add _ 1) (by decide) rfl (fun ls hl => ?_)
        have hl : lv_has ls 11 [(8, .int (nI (i + 1))), (6, .long (lN (V a / vB ^ (n / 28 + i + 1) % vB))), (9, .long (lN (V a / vB ^ (n / 28 + i + 1) % vB))), (5, .int (nI (kD (V a) - n / 28))), (4, .int (nI (n % 28))), (3, .int (nI (n / 28))), (0, .ref (wa T x)), (1, .ref (wa T a)), (2, .int (nI n))] := hl
        refine lv_goto (tgt := 33) hx hb d_N_takeLowered_84 (by decide) ?_
        rw [bx_uu, va_up_self] at hw
        have hl := lv_sub hl [0, 1, 3, 4, 5, 6, 7, 8] rfl
        have hl : lv_has ls 11 [(8, .int (nI (i + 1))), (6, .long (lN (V a / vB ^ (n / 28 + i + 1) % vB))), (5, .int (nI (kD (V a) - n / 28))), (4, .int (nI (n % 28))), (3, .int (nI (n / 28))), (0, .ref (wa T x)), (1, .ref (wa T a)), (2, .int (nI n))] := hl
        refine ih (i + 1) _ ls H locs (by omega) (by omega) (fun j hj => ?_) (fun j hj => ?_) hl hw
        · by_cases ej : j = i
          · rw [ej, pk_uLs, fD_lN]
          · rw [pk_uLn ej]; exact h1 j (by omega)
        · rw [pk_uLn (by omega)]; exact h2 j (by omega)
  exact lp (kD (V a) - n / 28) 0 (fD (V x)) ls _ _ (by omega) (by omega) (fun j h => absurd h (by omega)) (fun _ _ => rfl) hl hw
set_option maxRecDepth 100000 in
set_option maxHeartbeats 4000000 in
theorem k_N_increase (l : Launch) (T : wT) (V : Nat → Nat) (K : wUt) (I : wIt) (O : wOt) (x : Nat) (hi : x < 34) (hk : kD (V x) ≤ 74) (hV : ∀ n, n < 34 → V n < vLim) : Met l y_N_increase (.code y_N_increase c_N_increase 2 none :: bg) ({ frames := 1, cells := 0, slots := 0, locals := 21 } : Room) (mP T (fF V) (fU V) K I O [.ref (wa T x)]) (mQv T (fF (va_up V x (V x + 1))) (fU (va_up V x (V x + 1))) K I O) 0 0 (wA T) := by
  refine wM_v (by decide) (Nat.le_of_ble_eq_true rfl) ?_
  intro p e R s m args below meth c Q ls hx hb hC hRf hRl hret hl hw
  have hRf : 1 ≤ R.frames := hRf
  have hRl : 21 ≤ R.locals := hRl
  have hl : lv_has ls 2 [(0, .ref (wa T x))] := hl
  refine lv_iconst (v := nI 0) hx hb d_N_increase_0 (by decide +kernel) ?_
  refine lv_istore_n hx hb d_N_increase_1 rfl hl (by decide) rfl (fun ls hl => ?_)
  have hl : lv_has ls 2 [(1, .int (nI 0)), (0, .ref (wa T x))] := hl
  rw [← va_upx (fF V) x] at hw
  have fin : ∀ (i : Nat) (f : Nat → Int64) (ls : Array Slot) (H : Heap) (locs : List Loc), i ≤ kD (V x) → (∀ j, j < i → f j = 0) → (∀ j, i ≤ j → f j = fD (V x) j) → lm_ev b28 (nd (fD (V x))) i = b28 ^ i - 1 → (i = kD (V x) ∨ nd (fD (V x)) i ≠ 268435455) → lv_has ls 2 [(1, .int (nI i)), (0, .ref (wa T x))] → wH T (va_up (fF V) x f) (fU V) K I O (wA T) s s.heap H locs → W p l e R s m args below meth c H locs 0 0 Q (F0 m 36 ls []) := by
    intro i f ls H locs hle h1 h2 h3 h4 hl hw
    refine lv_aload_n hx hb d_N_increase_36 rfl (lv_at hl 1 rfl) ?_
    refine wg_Natural_limbs hx hb hC hw (by omega) bw_43 d_N_increase_37 ?_
    refine lv_iload_n hx hb d_N_increase_40 rfl (lv_at hl 0 rfl) ?_
    refine lv_dup2_11 hx hb d_N_increase_41 rfl rfl ?_
    refine wl_limbs hx hb hw (by omega) (by omega) d_N_increase_42 ?_
    refine sw_l (y := fD (V x) i) (by rw [va_up_self]; exact h2 i (Nat.le_refl i)) ?_
    refine lv_lconst (v := 1) hx hb d_N_increase_43 (by decide +kernel) ?_
    refine lv_ladd hx hb d_N_increase_44 ?_
    refine ws_limbs hx hb hw (by omega) (by omega) d_N_increase_45 (fun H locs hw => ?_)
    refine lv_aload_n hx hb d_N_increase_46 rfl (lv_at hl 1 rfl) ?_
    refine lv_aload_n hx hb d_N_increase_47 rfl (lv_at hl 1 rfl) ?_
    refine wg_Natural_used hx hb hC hw (by omega) bw_45 d_N_increase_48 ?_
    refine sw_i (y := nI (kD (V x))) (rfl) ?_
    refine lv_iload_n hx hb d_N_increase_51 rfl (lv_at hl 0 rfl) ?_
    refine lv_iconst (v := nI 1) hx hb d_N_increase_52 (by decide +kernel) ?_
    refine n_iadd hx hb d_N_increase_53 ?_
    rw [bx_uu, va_up_self] at hw
    refine wm_maxI hx hb hC ml_340 (by omega) (by omega) hl.1 (by omega) (by show 1 + 13 ≤ R.locals; omega) ⟨Nat.zero_le _, Nat.zero_le _⟩ d_N_increase_54 ?_
    refine wp_Natural_used hx hb hC hw (by omega) bw_45 d_N_increase_57 (fun H locs hw => ?_)
    have hd := fD_in (V x) i
    have ht : (fD (V x) i + 1).toInt = nd (fD (V x)) i + 1 := by rw [lj_add (by rw [lj_1]; have h9 : 0 ≤ (fD (V x) i).toInt := hd.1; omega) (by rw [lj_1]; have h9 : (fD (V x) i).toInt < 268435456 := hd.2; omega), lj_1]; rfl
    have hd4 : nd (fD (V x)) i + 1 < 268435456 := by
      have h9 : nd (fD (V x)) i < 268435456 := hd.2
      rcases h4 with h5 | h5
      · rw [nd_0 (fD_zero (hV x hi) (by omega))]; decide
      · omega
    have pa : ∀ j, j < max (kD (V x)) (i + 1) → 0 ≤ nd (vp_updL f i (fD (V x) i + 1)) j ∧ nd (vp_updL f i (fD (V x) i + 1)) j < b28 := by
      intro j hj
      by_cases ej : j = i
      · rw [ej, nd_upd, ht]; exact ⟨by have := hd.1; omega, hd4⟩
      · rw [nd_updN ej]
        by_cases el : j < i
        · rw [nd_0 (h1 j el)]; decide
        · unfold nd; rw [h2 j (by omega)]; exact fD_in _ _
    have pz : ∀ j, max (kD (V x)) (i + 1) ≤ j → j < 75 → vp_updL f i (fD (V x) i + 1) j = 0 := by
      intro j a1 a2
      rw [pk_uLn (by omega), h2 j (by omega)]; exact fD_zero (hV x hi) (by omega)
    have pt : 0 < max (kD (V x)) (i + 1) → vp_updL f i (fD (V x) i + 1) (max (kD (V x)) (i + 1) - 1) ≠ 0 := by
      intro hp hq
      by_cases ej : max (kD (V x)) (i + 1) - 1 = i
      · rw [ej, pk_uLs] at hq
        have : (fD (V x) i + 1).toInt = 0 := by rw [hq]; exact lj_0
        have := hd.1; omega
      · rw [pk_uLn ej, h2 _ (by omega), show max (kD (V x)) (i + 1) - 1 = kD (V x) - 1 by omega] at hq
        exact fD_top (hV x hi) (by omega) hq
    have pe : lm_ev b28 (nd (vp_updL f i (fD (V x) i + 1))) (max (kD (V x)) (i + 1)) = ((V x + 1 : Nat) : Int) := by
      have e1 := nd_upd_ev (f := f) (k := i) (n := max (kD (V x)) (i + 1)) (x := fD (V x) i + 1) (by omega)
      have e2 := ev_part (B := b28) (f := nd f) (g := nd (fD (V x))) (i := i) (fun j hj => nd_0 (h1 j hj)) (fun j hj => by unfold nd; rw [h2 j hj]) (n := max (kD (V x)) (i + 1)) (by omega)
      have e3 : nd f i = nd (fD (V x)) i := by unfold nd; rw [h2 i (Nat.le_refl i)]
      rw [h3, fD_ev_k (hV x hi) (by omega)] at e2
      rw [e1, ht, e3]
      have e4 : (nd (fD (V x)) i + 1 - nd (fD (V x)) i) * b28 ^ i = b28 ^ i := by grind
      rw [e4]; omega
    obtain ⟨c1, c2, c3⟩ := nv_close (by omega) pa pz pt pe
    have hw := wH.canon hi hw c3
    rw [fF_up] at hw
    unfold uD fU at hret
    have e9 : va_up (fU V) x (nI (max (kD (V x)) (i + 1))) = fU (va_up V x (V x + 1)) := by rw [← fU_up]; unfold uD; rw [c2]
    rw [e9] at hw
    exact hret _ _ _ _ hw d_N_increase_60
  have lp : ∀ (z9 i : Nat) (f : Nat → Int64) (ls : Array Slot) (H : Heap) (locs : List Loc), (kD (V x)) - i = z9 → i ≤ (kD (V x)) → (∀ j, j < i → f j = 0) → (∀ j, i ≤ j → f j = fD (V x) j) → (lm_ev b28 (nd (fD (V x))) i = b28 ^ i - 1) →  lv_has ls 2 [(1, .int (nI i)), (0, .ref (wa T x))] → wH T (va_up (fF V) x f) (fU V) K I O (wA T) s s.heap H locs → W p l e R s m args below meth c H locs 0 0 Q (F0 m 2 ls []) := by
    intro z9
    induction z9 with
    | zero =>
      intro i f ls H locs hn hle h1 h2 h3 hl hw
      refine lv_iload_n hx hb d_N_increase_2 rfl (lv_at hl 0 rfl) ?_
      refine lv_aload_n hx hb d_N_increase_3 rfl (lv_at hl 1 rfl) ?_
      refine wg_Natural_used hx hb hC hw (by omega) bw_45 d_N_increase_4 ?_
      refine sw_i (y := nI (kD (V x))) (rfl) ?_
      refine n_icmp_ge (tgt := 36) hx hb d_N_increase_7 (by decide) (by omega) (by omega) (fun h0 => ?_) (fun h0 => ?_)
      · have e9 : kD (V x) = i := by omega
        exact fin i f ls H locs (by omega) h1 h2 h3 (Or.inl (by omega)) hl hw
      · exact absurd h0 (by omega)
    | succ z9 ih =>
      intro i f ls H locs hn hle h1 h2 h3 hl hw
      refine lv_iload_n hx hb d_N_increase_2 rfl (lv_at hl 0 rfl) ?_
      refine lv_aload_n hx hb d_N_increase_3 rfl (lv_at hl 1 rfl) ?_
      refine wg_Natural_used hx hb hC hw (by omega) bw_45 d_N_increase_4 ?_
      refine sw_i (y := nI (kD (V x))) (rfl) ?_
      refine n_icmp_ge (tgt := 36) hx hb d_N_increase_7 (by decide) (by omega) (by omega) (fun h0 => ?_) (fun h0 => ?_)
      · exact absurd h0 (by omega)
      · refine lv_aload_n hx hb d_N_increase_10 rfl (lv_at hl 1 rfl) ?_
        refine wg_Natural_limbs hx hb hC hw (by omega) bw_43 d_N_increase_11 ?_
        refine lv_iload_n hx hb d_N_increase_14 rfl (lv_at hl 0 rfl) ?_
        refine wl_limbs hx hb hw (by omega) (by omega) d_N_increase_15 ?_
        refine sw_l (y := fD (V x) i) (by rw [va_up_self]; exact h2 i (Nat.le_refl i)) ?_
        refine lv_ldc2 (v := 268435455) hx hb hC.ow (hC.hts bw_300) d_N_increase_16 ?_
        refine lc_ne (tgt := 36) hx hb d_N_increase_19 d_N_increase_20 (by decide) (fun h8 => ?_) (fun h8 => ?_)
        · exact fin i f ls H locs (by omega) h1 h2 h3 (Or.inr (fun q => h8 (by rw [i64_mask]; exact q))) hl hw
        · refine lv_aload_n hx hb d_N_increase_23 rfl (lv_at hl 1 rfl) ?_
          refine wg_Natural_limbs hx hb hC hw (by omega) bw_43 d_N_increase_24 ?_
          refine lv_iload_n hx hb d_N_increase_27 rfl (lv_at hl 0 rfl) ?_
          refine lv_lconst (v := 0) hx hb d_N_increase_28 (by decide +kernel) ?_
          refine ws_limbs hx hb hw (by omega) (by omega) d_N_increase_29 (fun H locs hw => ?_)
          refine lv_iinc (v := nI (i + 1)) hx hb d_N_increase_30 hl (k := 0) rfl (nI_add _ 1) (by decide) rfl (fun ls hl => ?_)
          have hl : lv_has ls 2 [(1, .int (nI (i + 1))), (0, .ref (wa T x))] := hl
          refine lv_goto (tgt := 2) hx hb d_N_increase_33 (by decide) ?_
          rw [bx_uu, va_up_self] at hw
          refine ih (i + 1) _ ls H locs (by omega) (by omega) (fun j hj => ?_) (fun j hj => ?_) ?_ hl hw
          · by_cases ej : j = i
            · rw [ej, pk_uLs]
            · rw [pk_uLn ej]; exact h1 j (by omega)
          · rw [pk_uLn (by omega)]; exact h2 j (by omega)
          · have e1 : nd (fD (V x)) i = 268435455 := by rw [i64_mask] at h8; exact h8
            rw [lm_evs, h3, e1, Int.pow_succ]; show b28 ^ i - 1 + 268435455 * b28 ^ i = b28 ^ i * 268435456 - 1; omega
  exact lp (kD (V x)) 0 (fD (V x)) ls _ _ (by omega) (by omega) (fun j h => absurd h (by omega)) (fun _ _ => rfl) (by rw [lm_ev0]; rfl) hl hw
set_option maxRecDepth 100000 in
set_option maxHeartbeats 4000000 in
theorem k_N_hasBitBelow (l : Launch) (T : wT) (V : Nat → Nat) (K : wUt) (I : wIt) (O : wOt) (x i : Nat) (hi : x < 34) (hb9 : i < 2147483648) (hV : ∀ n, n < 34 → V n < vLim) : Met l y_N_hasBitBelow (.code y_N_hasBitBelow c_N_hasBitBelow 4 (some .boolean) :: bg) ({ frames := 1, cells := 0, slots := 0, locals := 21 } : Room) (mP T (fF V) (fU V) K I O [.ref (wa T x), .int (nI i)]) (mQi T (if V x % 2 ^ i ≠ 0 then (1 : Int32) else 0) (fF V) (fU V) K I O) 0 0 (wA T) := by
  refine wM_z (by decide) (Nat.le_of_ble_eq_true rfl) (zN _) ?_
  intro p e R s m args below meth c Q ls hx hb hC hRf hRl hret hl hw
  have hRf : 1 ≤ R.frames := hRf
  have hRl : 21 ≤ R.locals := hRl
  have hl : lv_has ls 4 [(0, .ref (wa T x)), (1, .int (nI i))] := hl
  have hk := kD_le (V x)
  have hm : i % 28 < 28 := Nat.mod_lt _ (by decide)
  refine lv_iload_n hx hb d_N_hasBitBelow_0 rfl (lv_at hl 1 rfl) ?_
  refine lv_bipush (v := nI 28) hx hb d_N_hasBitBelow_1 (by decide +kernel) ?_
  refine n_idiv hx hb d_N_hasBitBelow_3 (by omega) (by omega) (by omega) ?_
  refine lv_aload_n hx hb d_N_hasBitBelow_4 rfl (lv_at hl 0 rfl) ?_
  refine wg_Natural_used hx hb hC hw (by omega) bw_45 d_N_hasBitBelow_5 ?_
  refine sw_i (y := nI (kD (V x))) (rfl) ?_
  refine wm_minI hx hb hC ml_531 (by omega) (by omega) hl.1 (by omega) (by show 0 + 13 ≤ R.locals; omega) ⟨Nat.zero_le _, Nat.zero_le _⟩ d_N_hasBitBelow_8 ?_
  refine lv_istore_n hx hb d_N_hasBitBelow_11 rfl hl (by decide) rfl (fun ls hl => ?_)
  have hl : lv_has ls 4 [(2, .int (nI (min (i / 28) (kD (V x))))), (0, .ref (wa T x)), (1, .int (nI i))] := hl
  refine lv_iconst (v := nI 0) hx hb d_N_hasBitBelow_12 (by decide +kernel) ?_
  refine lv_istore_n hx hb d_N_hasBitBelow_13 rfl hl (by decide) rfl (fun ls hl => ?_)
  have hl : lv_has ls 4 [(3, .int (nI 0)), (2, .int (nI (min (i / 28) (kD (V x))))), (0, .ref (wa T x)), (1, .int (nI i))] := hl
  have lp : ∀ (z9 t : Nat)  (ls : Array Slot) (H : Heap) (locs : List Loc), (min (i / 28) (kD (V x))) - t = z9 → t ≤ (min (i / 28) (kD (V x))) → (∀ j, j < t → fD (V x) j = 0) →  lv_has ls 4 [(3, .int (nI t)), (2, .int (nI (min (i / 28) (kD (V x))))), (0, .ref (wa T x)), (1, .int (nI i))] → wH T (fF V) (fU V) K I O (wA T) s s.heap H locs → W p l e R s m args below meth c H locs 0 0 Q (F0 m 14 ls []) := by
    intro z9
    induction z9 with
    | zero =>
      intro t  ls H locs hn hle h1 hl hw
      refine lv_iload_n hx hb d_N_hasBitBelow_14 rfl (lv_at hl 0 rfl) ?_
      refine lv_iload_n hx hb d_N_hasBitBelow_15 rfl (lv_at hl 1 rfl) ?_
      refine n_icmp_ge (tgt := 38) hx hb d_N_hasBitBelow_16 (by decide) (by omega) (by omega) (fun h0 => ?_) (fun h0 => ?_)
      · have e9 : min (i / 28) (kD (V x)) = t := by omega
        have hz : V x % vB ^ (i / 28) = 0 := by
          have e1 := fD_ev (V x) (min (i / 28) (kD (V x)))
          rw [e9, lm_congr (g := nd (fD 0)) (fun j hj => by rw [nd_0 (h1 j hj), nd_0 (fD0 j)]), nd_z fD0] at e1
          rw [← e9] at e1
          by_cases eq : i / 28 ≤ kD (V x)
          · rw [show min (i / 28) (kD (V x)) = i / 28 by omega] at e1; omega
          · rw [show min (i / 28) (kD (V x)) = kD (V x) by omega, Nat.mod_eq_of_lt (kD_lt (hV x hi))] at e1
            rw [show V x = 0 by omega]; exact Nat.zero_mod _
        have hnb := nbb hz
        refine lv_aload_n hx hb d_N_hasBitBelow_38 rfl (lv_at hl 2 rfl) ?_
        refine lv_iload_n hx hb d_N_hasBitBelow_39 rfl (lv_at hl 3 rfl) ?_
        refine lv_bipush (v := nI 28) hx hb d_N_hasBitBelow_40 (by decide +kernel) ?_
        refine n_idiv hx hb d_N_hasBitBelow_42 (by omega) (by omega) (by omega) ?_
        refine wcV_l (As := [.int (nI (i / 28))]) hx hb hC hw (k_N_at l T (fF V) (fU V) K I O x (i / 28) (kD (V x)) hi rfl (kD_le _) (by omega)) lk_N_19 rfl rfl ⟨by show 0 + 1 ≤ R.frames; omega, by show 8 + (2 + 11) + 0 ≤ R.locals; omega⟩ (by omega) (we_Natural (by omega)) rfl rfl hl.1 rfl (Nat.le_of_ble_eq_true rfl) ⟨Nat.zero_le _, Nat.zero_le _⟩ d_N_hasBitBelow_43 (fun H locs hw => ?_)
        refine sw_l (y := lN (V x / vB ^ (i / 28) % vB)) (at_fD (hV x hi) rfl) ?_
        have hd := dg_lt (V x) (i / 28)
        have hp1 : 0 < 2 ^ (i % 28) := Nat.two_pow_pos _
        have hp2 : 2 ^ (i % 28) ≤ 2 ^ 27 := Nat.pow_le_pow_right (by decide) (by omega)
        refine lv_lconst (v := 1) hx hb d_N_hasBitBelow_46 (by decide +kernel) ?_
        refine lv_iload_n hx hb d_N_hasBitBelow_47 rfl (lv_at hl 3 rfl) ?_
        refine lv_bipush (v := nI 28) hx hb d_N_hasBitBelow_48 (by decide +kernel) ?_
        refine n_irem hx hb d_N_hasBitBelow_50 (by omega) (by omega) (by omega) ?_
        refine lv_lshl hx hb d_N_hasBitBelow_51 rfl ?_
        refine sw_l (y := lN (2 ^ (i % 28))) ((wb_shl 1 (k := i % 28) (by omega)).trans (by rw [Nat.one_mul])) ?_
        refine lv_lconst (v := 1) hx hb d_N_hasBitBelow_52 (by decide +kernel) ?_
        refine lv_lsub hx hb d_N_hasBitBelow_53 ?_
        refine sw_l (y := lN (2 ^ (i % 28) - 1)) ((lN_sub (b := 1) hp1)) ?_
        refine lv_land hx hb d_N_hasBitBelow_54 ?_
        refine sw_l (y := lN (V x / vB ^ (i / 28) % vB % 2 ^ (i % 28))) (wb_mask (by omega) (by omega)) ?_
        have hq : V x / vB ^ (i / 28) % vB % 2 ^ (i % 28) ≤ V x / vB ^ (i / 28) % vB := Nat.mod_le _ _
        have ht : (lN (V x / vB ^ (i / 28) % vB % 2 ^ (i % 28))).toInt = ((V x / vB ^ (i / 28) % vB % 2 ^ (i % 28) : Nat) : Int) := lj_lN (by omega)
        refine lv_lconst (v := 0) hx hb d_N_hasBitBelow_55 (by decide +kernel) ?_
        refine lc_eq (tgt := 64) hx hb d_N_hasBitBelow_56 d_N_hasBitBelow_57 (by decide) (fun h8 => ?_) (fun h8 => ?_)
        · refine lv_iconst (v := nI 0) hx hb d_N_hasBitBelow_64 (by decide +kernel) ?_
          refine sw_i (y := (if V x % 2 ^ i ≠ 0 then (1 : Int32) else 0)) (by rw [if_neg (fun q => q (by rw [hnb, show V x / vB ^ (i / 28) % vB % 2 ^ (i % 28) = 0 by rw [ht, lj_0] at h8; omega]; exact Nat.mul_zero _))]; rfl) ?_
          exact hret _ _ _ _ hw d_N_hasBitBelow_65
        · refine lv_iconst (v := nI 1) hx hb d_N_hasBitBelow_60 (by decide +kernel) ?_
          refine lv_goto (tgt := 65) hx hb d_N_hasBitBelow_61 (by decide) ?_
          refine sw_i (y := (if V x % 2 ^ i ≠ 0 then (1 : Int32) else 0)) (by rw [if_pos (by rw [hnb]; exact Nat.mul_ne_zero (by have := Nat.pow_pos (n := i / 28) vB_pos; omega) (by rw [ht, lj_0] at h8; omega))]; rfl) ?_
          exact hret _ _ _ _ hw d_N_hasBitBelow_65
      · exact absurd h0 (by omega)
    | succ z9 ih =>
      intro t  ls H locs hn hle h1 hl hw
      refine lv_iload_n hx hb d_N_hasBitBelow_14 rfl (lv_at hl 0 rfl) ?_
      refine lv_iload_n hx hb d_N_hasBitBelow_15 rfl (lv_at hl 1 rfl) ?_
      refine n_icmp_ge (tgt := 38) hx hb d_N_hasBitBelow_16 (by decide) (by omega) (by omega) (fun h0 => ?_) (fun h0 => ?_)
      · exact absurd h0 (by omega)
      · refine lv_aload_n hx hb d_N_hasBitBelow_19 rfl (lv_at hl 2 rfl) ?_
        refine wg_Natural_limbs hx hb hC hw (by omega) bw_43 d_N_hasBitBelow_20 ?_
        refine lv_iload_n hx hb d_N_hasBitBelow_23 rfl (lv_at hl 0 rfl) ?_
        refine wl_limbs hx hb hw (by omega) (by omega) d_N_hasBitBelow_24 ?_
        refine lv_lconst (v := 0) hx hb d_N_hasBitBelow_25 (by decide +kernel) ?_
        refine lc_eq (tgt := 32) hx hb d_N_hasBitBelow_26 d_N_hasBitBelow_27 (by decide) (fun h8 => ?_) (fun h8 => ?_)
        · refine lv_iinc (v := nI (t + 1)) hx hb d_N_hasBitBelow_32 hl (k := 0) rfl (nI_add _ 1) (by decide) rfl (fun ls hl => ?_)
          have hl : lv_has ls 4 [(3, .int (nI (t + 1))), (2, .int (nI (min (i / 28) (kD (V x))))), (0, .ref (wa T x)), (1, .int (nI i))] := hl
          refine lv_goto (tgt := 14) hx hb d_N_hasBitBelow_35 (by decide) ?_
          refine ih (t + 1) ls H locs (by omega) (by omega) (fun j hj => ?_) hl hw
          by_cases ej : j = t
          · rw [ej]; exact lj_inj (by rw [lj_0]; rw [lj_0] at h8; exact h8)
          · exact h1 j (by omega)
        · refine lv_iconst (v := nI 1) hx hb d_N_hasBitBelow_30 (by decide +kernel) ?_
          have hne : V x % 2 ^ i ≠ 0 := fun q => h8 (by
            have e1 : V x = V x / 2 ^ i * 2 ^ i := by have := Nat.div_add_mod (V x) (2 ^ i); rw [q, Nat.mul_comm] at this; omega
            have e2 := up_dgz (v := V x / 2 ^ i) (n := i) (j := t) (by omega)
            rw [← e1] at e2
            show (fD (V x) t).toInt = _
            rw [fD_lN, e2]; rfl)
          refine sw_i (y := (if V x % 2 ^ i ≠ 0 then (1 : Int32) else 0)) (by rw [if_pos hne]; rfl) ?_
          exact hret _ _ _ _ hw d_N_hasBitBelow_31
  exact lp (min (i / 28) (kD (V x))) 0 ls _ _ (by omega) (by omega) (fun j h => absurd h (by omega)) hl hw
