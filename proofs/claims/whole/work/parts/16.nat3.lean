/-! Natural: sums and differences -/
theorem pv_sum {f : Nat → Int64} {i : Nat} {c x y t : Int64} {S : Int} (hc : 0 ≤ c.toInt ∧ c.toInt ≤ 1) (hx : 0 ≤ x.toInt ∧ x.toInt < 268435456) (hy : 0 ≤ y.toInt ∧ y.toInt < 268435456) (ht : t = c + (x + y)) (h : lm_ev b28 (nd f) i + c.toInt * b28 ^ i = S) :
    (0 ≤ (t >>> ((nI 28).toInt64 &&& 63)).toInt ∧ (t >>> ((nI 28).toInt64 &&& 63)).toInt ≤ 1) ∧ lm_ev b28 (nd (vp_updL f i (t &&& 268435455))) (i + 1) + (t >>> ((nI 28).toInt64 &&& 63)).toInt * b28 ^ (i + 1) = S + (x.toInt + y.toInt) * b28 ^ i := pu_sum hc hx hy ht h
theorem pv_dif {f : Nat → Int64} {i : Nat} {c x y t : Int64} {S : Int} (hc : -1 ≤ c.toInt ∧ c.toInt ≤ 0) (hx : 0 ≤ x.toInt ∧ x.toInt < 268435456) (hy : 0 ≤ y.toInt ∧ y.toInt < 268435456) (ht : t = c + (x - y)) (h : lm_ev b28 (nd f) i + c.toInt * b28 ^ i = S) :
    (-1 ≤ (t >>> ((nI 28).toInt64 &&& 63)).toInt ∧ (t >>> ((nI 28).toInt64 &&& 63)).toInt ≤ 0) ∧ lm_ev b28 (nd (vp_updL f i (t &&& 268435455))) (i + 1) + (t >>> ((nI 28).toInt64 &&& 63)).toInt * b28 ^ (i + 1) = S + (x.toInt - y.toInt) * b28 ^ i := pu_dif hc hx hy ht h
theorem pv_alias {V : Nat → Nat} {x a i : Nat} {f : Nat → Int64} (h : ∀ j, i ≤ j → f j = fD (V x) j) : va_up (fF V) x f a i = fD (V a) i := by
  by_cases ea : a = x
  · subst ea; rw [va_up_self]; exact h i (Nat.le_refl i)
  · rw [va_up_ne _ _ ea]; rfl
/-- a difference that isn't below 0 leaves no carry -/
theorem pv_nocarry {f : Nat → Int64} {n : Nat} {c a b : Int} (hd : ∀ j, j < n → 0 ≤ nd f j ∧ nd f j < b28) (hc : -1 ≤ c ∧ c ≤ 0) (h : lm_ev b28 (nd f) n + c * b28 ^ n = a - b) (hab : b ≤ a) : c = 0 := by
  have h1 := lm_lt b28_pos (f := nd f) (n := n) (fun j hj => (hd j hj).2)
  have h2 := lm_powpos b28_pos n
  by_cases e : c = 0
  · exact e
  · have e1 : c = -1 := by omega
    rw [e1] at h
    omega

section MA
variable {p : Program} {l : Launch} {e : Env} {R : Room} {s : State} {m : MethodId} {args : Array Value} {below : List Frame} {meth : Method} {c : Code} {H H0 : Heap} {locs : List Loc} {cells slots : Nat} {Q : State → Prop}
variable {cc : ByteArray} {pc maxL index : Nat} {ls : Array Slot} {rest : List Value} {own : String}
theorem mc_maxI : Cond.code Lib.Math.max.name Lib.Math.max.code 2 (some .int) ∈ bg := bg_at 382 (by decide +kernel) (by decide +kernel)
theorem ms_maxI : Cond.static Lib.Math.max.name ∈ bg := bg_at 381 (by decide +kernel) (by decide +kernel)
theorem wm_maxI {a b : Nat} (hx : p.tables.exec = Jvm.exec) (hb : c.code = cc) (hC : wC m c maxL s args own) (hlk : Cond.methodLink own index Lib.Math.max.name ∈ bg) (ha : a < 2147483648) (hb2 : b < 2147483648) (hls : ls.size = maxL) (hf : 1 ≤ R.frames) (hl : (rest.map fun v => v.category).sum + 13 ≤ R.locals) (hcs : cells ≤ R.cells ∧ slots ≤ R.slots) (hdg : decode cc pc = .ok (.invokestatic index, 3)) (kk : W p l e R s m args below meth c H locs cells slots Q (F0 m (pc + 3) ls (.int (nI (max a b)) :: rest))) : W p l e R s m args below meth c H locs cells slots Q (F0 m pc ls (.int (nI b) :: .int (nI a) :: rest)) := by
  refine va_mmax hx hb (hC.1.trans hls.symm) hC.2.2 (hC.hts hlk) (hC.hts ms_maxI) (hC.hts bw_14) (hC.hts mc_maxI) hf hl hcs.1 hcs.2 hdg (sw_i ?_ kk)
  split
  · rename_i h; rw [nI_ltI ha hb2] at h; congr 1; omega
  · rename_i h; rw [nI_ltI ha hb2] at h; congr 1; omega
theorem mc_minI : Cond.code Lib.Math.min.name Lib.Math.min.code 2 (some .int) ∈ bg := bg_at 573 (by decide +kernel) (by decide +kernel)
theorem ms_minI : Cond.static Lib.Math.min.name ∈ bg := bg_at 572 (by decide +kernel) (by decide +kernel)
theorem wm_minI {a b : Nat} (hx : p.tables.exec = Jvm.exec) (hb : c.code = cc) (hC : wC m c maxL s args own) (hlk : Cond.methodLink own index Lib.Math.min.name ∈ bg) (ha : a < 2147483648) (hb2 : b < 2147483648) (hls : ls.size = maxL) (hf : 1 ≤ R.frames) (hl : (rest.map fun v => v.category).sum + 13 ≤ R.locals) (hcs : cells ≤ R.cells ∧ slots ≤ R.slots) (hdg : decode cc pc = .ok (.invokestatic index, 3)) (kk : W p l e R s m args below meth c H locs cells slots Q (F0 m (pc + 3) ls (.int (nI (min a b)) :: rest))) : W p l e R s m args below meth c H locs cells slots Q (F0 m pc ls (.int (nI b) :: .int (nI a) :: rest)) := by
  refine va_mmin hx hb (hC.1.trans hls.symm) hC.2.2 (hC.hts hlk) (hC.hts ms_minI) (hC.hts bw_14) (hC.hts mc_minI) hf hl hcs.1 hcs.2 hdg (sw_i ?_ kk)
  split
  · rename_i h; rw [nI_ltI hb2 ha] at h; congr 1; omega
  · rename_i h; rw [nI_ltI hb2 ha] at h; congr 1; omega
theorem mc_minJ : Cond.code Lib.MathLoose.min_long.x Lib.MathLoose.min_long.code 4 (some .long) ∈ bg := bg_at 531 (by decide +kernel) (by decide +kernel)
theorem ms_minJ : Cond.static Lib.MathLoose.min_long.x ∈ bg := bg_at 530 (by decide +kernel) (by decide +kernel)
theorem wm_minJ {x y : Int64} (hx : p.tables.exec = Jvm.exec) (hb : c.code = cc) (hC : wC m c maxL s args own) (hlk : Cond.methodLink own index Lib.MathLoose.min_long.x ∈ bg) (hls : ls.size = maxL) (hf : 1 ≤ R.frames) (hl : (rest.map fun v => v.category).sum + 15 ≤ R.locals) (hcs : cells ≤ R.cells ∧ slots ≤ R.slots) (hdg : decode cc pc = .ok (.invokestatic index, 3)) (kk : W p l e R s m args below meth c H locs cells slots Q (F0 m (pc + 3) ls (.long (if y < x then y else x) :: rest))) : W p l e R s m args below meth c H locs cells slots Q (F0 m pc ls (.long y :: .long x :: rest)) := va_mmin_long hx hb (hC.1.trans hls.symm) hC.2.2 (hC.hts hlk) (hC.hts ms_minJ) (hC.hts bw_14) (hC.hts mc_minJ) hf hl hcs.1 hcs.2 hdg kk
theorem ml_340 : Cond.methodLink "LimbRegisters$Natural" 45 Lib.Math.max.name ∈ bg := bg_at 380 (by decide +kernel) (by decide +kernel)
theorem ml_489 : Cond.methodLink "LimbRegisters$Division" 90 Lib.MathLoose.min_long.x ∈ bg := bg_at 529 (by decide +kernel) (by decide +kernel)
theorem ml_522 : Cond.methodLink "LimbRegisters" 118 Lib.Math.max.name ∈ bg := bg_at 562 (by decide +kernel) (by decide +kernel)
theorem ml_531 : Cond.methodLink "LimbRegisters$Natural" 33 Lib.Math.min.name ∈ bg := bg_at 571 (by decide +kernel) (by decide +kernel)
end MA
set_option maxRecDepth 100000 in
set_option maxHeartbeats 4000000 in
theorem k_N_takeSum (l : Launch) (T : wT) (V : Nat → Nat) (K : wUt) (I : wIt) (O : wOt) (x a b : Nat) (hi : x < 34) (ha : a < 34) (hb9 : b < 34) (hka : kD (V a) ≤ 74) (hkb : kD (V b) ≤ 74) (hV : ∀ n, n < 34 → V n < vLim) : Met l y_N_takeSum (.code y_N_takeSum c_N_takeSum 7 none :: bg) ({ frames := 1, cells := 0, slots := 0, locals := 22 } : Room) (mP T (fF V) (fU V) K I O [.ref (wa T x), .ref (wa T a), .ref (wa T b)]) (mQv T (fF (va_up V x (V a + V b))) (fU (va_up V x (V a + V b))) K I O) 0 0 (wA T) := by
  refine wM_v (by decide) (Nat.le_of_ble_eq_true rfl) ?_
  intro p e R s m args below meth c Q ls hx hb hC hRf hRl hret hl hw
  have hRf : 1 ≤ R.frames := hRf
  have hRl : 22 ≤ R.locals := hRl
  have hl : lv_has ls 7 [(0, .ref (wa T x)), (1, .ref (wa T a)), (2, .ref (wa T b))] := hl
  refine lv_aload_n hx hb d_N_takeSum_0 rfl (lv_at hl 1 rfl) ?_
  refine wg_Natural_used hx hb hC hw (by omega) bw_45 d_N_takeSum_1 ?_
  refine sw_i (y := nI (kD (V a))) (rfl) ?_
  refine lv_aload_n hx hb d_N_takeSum_4 rfl (lv_at hl 2 rfl) ?_
  refine wg_Natural_used hx hb hC hw (by omega) bw_45 d_N_takeSum_5 ?_
  refine sw_i (y := nI (kD (V b))) (rfl) ?_
  refine wm_maxI hx hb hC ml_340 (by omega) (by omega) hl.1 (by omega) (by show 0 + 13 ≤ R.locals; omega) ⟨Nat.zero_le _, Nat.zero_le _⟩ d_N_takeSum_8 ?_
  generalize hen : max (kD (V a)) (kD (V b)) = en
  refine lv_istore_n hx hb d_N_takeSum_11 rfl hl (by decide) rfl (fun ls hl => ?_)
  have hl : lv_has ls 7 [(3, .int (nI en)), (0, .ref (wa T x)), (1, .ref (wa T a)), (2, .ref (wa T b))] := hl
  refine lv_lconst (v := 0) hx hb d_N_takeSum_12 (by decide +kernel) ?_
  refine lv_lstore hx hb d_N_takeSum_13 hl (by decide) rfl (fun ls hl => ?_)
  have hl : lv_has ls 7 [(4, .long (0 : Int64)), (3, .int (nI en)), (0, .ref (wa T x)), (1, .ref (wa T a)), (2, .ref (wa T b))] := hl
  refine lv_iconst (v := nI 0) hx hb d_N_takeSum_15 (by decide +kernel) ?_
  refine lv_istore hx hb d_N_takeSum_16 hl (by decide) rfl (fun ls hl => ?_)
  have hl : lv_has ls 7 [(6, .int (nI 0)), (4, .long (0 : Int64)), (3, .int (nI en)), (0, .ref (wa T x)), (1, .ref (wa T a)), (2, .ref (wa T b))] := hl
  rw [← va_upx (fF V) x] at hw
  have hb74 : en ≤ 74 := by omega
  have lp : ∀ (n i : Nat) (f : Nat → Int64) (cy : Int64) (ls : Array Slot) (H : Heap) (locs : List Loc), en - i = n → i ≤ en → (0 ≤ cy.toInt ∧ cy.toInt ≤ 1) → (lm_ev b28 (nd f) i + cy.toInt * b28 ^ i = lm_ev b28 (nd (fD (V a))) i + lm_ev b28 (nd (fD (V b))) i) → (∀ j, j < i → 0 ≤ nd f j ∧ nd f j < b28) → (∀ j, i ≤ j → f j = fD (V x) j) →  lv_has ls 7 [(6, .int (nI i)), (4, .long cy), (3, .int (nI en)), (0, .ref (wa T x)), (1, .ref (wa T a)), (2, .ref (wa T b))] → wH T (va_up (fF V) x f) (fU V) K I O (wA T) s s.heap H locs → W p l e R s m args below meth c H locs 0 0 Q (F0 m 18 ls []) := by
    intro n
    induction n with
    | zero =>
      intro i f cy ls H locs hn hle h1 h2 h3 h4 hl hw
      refine lv_iload hx hb d_N_takeSum_18 (lv_at hl 0 rfl) ?_
      refine lv_iload_n hx hb d_N_takeSum_20 rfl (lv_at hl 2 rfl) ?_
      refine n_icmp_ge (tgt := 70) hx hb d_N_takeSum_21 (by decide) (by omega) (by omega) (fun h0 => ?_) (fun h0 => ?_)
      · have e9 : en = i := by omega
        subst e9
        refine lv_aload_n hx hb d_N_takeSum_70 rfl (lv_at hl 3 rfl) ?_
        refine wg_Natural_limbs hx hb hC hw (by omega) bw_43 d_N_takeSum_71 ?_
        refine lv_iload_n hx hb d_N_takeSum_74 rfl (lv_at hl 2 rfl) ?_
        refine lv_lload hx hb d_N_takeSum_75 (lv_at hl 1 rfl) ?_
        refine ws_limbs hx hb hw (by omega) (by omega) d_N_takeSum_77 (fun H locs hw => ?_)
        refine lv_aload_n hx hb d_N_takeSum_78 rfl (lv_at hl 3 rfl) ?_
        refine lv_iload_n hx hb d_N_takeSum_79 rfl (lv_at hl 2 rfl) ?_
        refine lv_iconst (v := nI 1) hx hb d_N_takeSum_80 (by decide +kernel) ?_
        refine n_iadd hx hb d_N_takeSum_81 ?_
        rw [bx_uu, va_up_self] at hw
        have s1 : ∀ j, j < en + 1 → 0 ≤ nd (vp_updL f en cy) j ∧ nd (vp_updL f en cy) j < b28 := fun j hj => by
          by_cases ej : j = en
          · rw [ej, nd_upd]; exact ⟨h1.1, by show cy.toInt < 268435456; omega⟩
          · rw [nd_updN ej]; exact h3 j (by omega)
        have s2 : lm_ev b28 (nd (vp_updL f en cy)) (en + 1) = ((V a + V b : Nat) : Int) := by
          rw [lm_evs, nd_upd, nd_evU (Nat.le_refl en), h2, fD_ev_k (hV a ha) (by omega), fD_ev_k (hV b hb9) (by omega)]; omega
        refine wcV_v (As := [.int (nI (en + 1))]) hx hb hC hw (k_N_settle l T (va_up (fF V) x (vp_updL f en cy)) (fU V) K I O x (kD (V x)) (en + 1) (V a + V b) hi rfl (kD_le _) (by omega) (by rw [va_up_self]; exact s1) (fun j a1 a2 a3 => by rw [va_up_self, pk_uLn (by omega), h4 j (by omega)]; exact fD_zero (hV x hi) a2) (by rw [va_up_self]; exact s2)) lk_N_39 rfl rfl ⟨by show 0 + 1 ≤ R.frames; omega, by show 8 + (3 + 11) + 0 ≤ R.locals; omega⟩ (by omega) (we_Natural (by omega)) rfl rfl hl.1 rfl (Nat.le_of_ble_eq_true rfl) ⟨Nat.zero_le _, Nat.zero_le _⟩ d_N_takeSum_82 (fun H locs hw => ?_)
        rw [bx_uu, fF_up, fU_up] at hw
        exact hret _ _ _ _ hw d_N_takeSum_85
      · exact absurd h0 (by omega)
    | succ n ih =>
      intro i f cy ls H locs hn hle h1 h2 h3 h4 hl hw
      refine lv_iload hx hb d_N_takeSum_18 (lv_at hl 0 rfl) ?_
      refine lv_iload_n hx hb d_N_takeSum_20 rfl (lv_at hl 2 rfl) ?_
      refine n_icmp_ge (tgt := 70) hx hb d_N_takeSum_21 (by decide) (by omega) (by omega) (fun h0 => ?_) (fun h0 => ?_)
      · exact absurd h0 (by omega)
      · refine lv_lload hx hb d_N_takeSum_24 (lv_at hl 1 rfl) ?_
        refine lv_aload_n hx hb d_N_takeSum_26 rfl (lv_at hl 4 rfl) ?_
        refine wg_Natural_limbs hx hb hC hw (by omega) bw_43 d_N_takeSum_27 ?_
        refine lv_iload hx hb d_N_takeSum_30 (lv_at hl 0 rfl) ?_
        refine wl_limbs hx hb hw (by omega) (by omega) d_N_takeSum_32 ?_
        refine sw_l (y := fD (V a) i) (pv_alias h4) ?_
        refine lv_aload_n hx hb d_N_takeSum_33 rfl (lv_at hl 5 rfl) ?_
        refine wg_Natural_limbs hx hb hC hw (by omega) bw_43 d_N_takeSum_34 ?_
        refine lv_iload hx hb d_N_takeSum_37 (lv_at hl 0 rfl) ?_
        refine wl_limbs hx hb hw (by omega) (by omega) d_N_takeSum_39 ?_
        refine sw_l (y := fD (V b) i) (pv_alias h4) ?_
        refine lv_ladd hx hb d_N_takeSum_40 ?_
        refine lv_ladd hx hb d_N_takeSum_41 ?_
        refine lv_topl (fun t et => ?_)
        refine lv_lstore hx hb d_N_takeSum_42 hl (by decide) rfl (fun ls hl => ?_)
        have hl : lv_has ls 7 [(4, .long t), (6, .int (nI i)), (3, .int (nI en)), (0, .ref (wa T x)), (1, .ref (wa T a)), (2, .ref (wa T b))] := hl
        refine lv_aload_n hx hb d_N_takeSum_44 rfl (lv_at hl 3 rfl) ?_
        refine wg_Natural_limbs hx hb hC hw (by omega) bw_43 d_N_takeSum_45 ?_
        refine lv_iload hx hb d_N_takeSum_48 (lv_at hl 1 rfl) ?_
        refine lv_lload hx hb d_N_takeSum_50 (lv_at hl 0 rfl) ?_
        refine lv_ldc2 (v := 268435455) hx hb hC.ow (hC.hts bw_300) d_N_takeSum_52 ?_
        refine lv_land hx hb d_N_takeSum_55 ?_
        refine ws_limbs hx hb hw (by omega) (by omega) d_N_takeSum_56 (fun H locs hw => ?_)
        refine lv_lload hx hb d_N_takeSum_57 (lv_at hl 0 rfl) ?_
        refine lv_bipush (v := nI 28) hx hb d_N_takeSum_59 (by decide +kernel) ?_
        refine lv_lshr hx hb d_N_takeSum_61 rfl ?_
        refine lv_lstore hx hb d_N_takeSum_62 hl (by decide) rfl (fun ls hl => ?_)
        have hl : lv_has ls 7 [(4, .long (t >>> ((nI 28).toInt64 &&& 63))), (6, .int (nI i)), (3, .int (nI en)), (0, .ref (wa T x)), (1, .ref (wa T a)), (2, .ref (wa T b))] := hl
        refine lv_iinc (v := nI (i + 1)) hx hb d_N_takeSum_64 hl (k := 1) rfl (nI_add _ 1) (by decide) rfl (fun ls hl => ?_)
        have hl : lv_has ls 7 [(6, .int (nI (i + 1))), (4, .long (t >>> ((nI 28).toInt64 &&& 63))), (3, .int (nI en)), (0, .ref (wa T x)), (1, .ref (wa T a)), (2, .ref (wa T b))] := hl
        refine lv_goto (tgt := 18) hx hb d_N_takeSum_67 (by decide) ?_
        rw [bx_uu, va_up_self] at hw
        have q := pv_sum h1 (fD_in (V a) i) (fD_in (V b) i) et h2
        exact ih (i + 1) _ _ ls H locs (by omega) (by omega) q.1 (q.2.trans (lm_add2 rfl)) (pu_in h3) (fun j hj => by rw [pk_uLn (by omega)]; exact h4 j (by omega)) hl hw
  exact lp en 0 (fD (V x)) 0 ls _ _ (by omega) (by omega) (by decide +kernel) (by rw [lm_ev0, lm_ev0, lm_ev0, lj_0]; rfl) (fun j h => absurd h (by omega)) (fun _ _ => rfl) hl hw
set_option maxRecDepth 100000 in
set_option maxHeartbeats 4000000 in
theorem k_N_takeDifference (l : Launch) (T : wT) (V : Nat → Nat) (K : wUt) (I : wIt) (O : wOt) (x a b : Nat) (hi : x < 34) (ha : a < 34) (hb9 : b < 34) (hab : V b ≤ V a) (hV : ∀ n, n < 34 → V n < vLim) : Met l y_N_takeDifference (.code y_N_takeDifference c_N_takeDifference 7 none :: bg) ({ frames := 1, cells := 0, slots := 0, locals := 22 } : Room) (mP T (fF V) (fU V) K I O [.ref (wa T x), .ref (wa T a), .ref (wa T b)]) (mQv T (fF (va_up V x (V a - V b))) (fU (va_up V x (V a - V b))) K I O) 0 0 (wA T) := by
  refine wM_v (by decide) (Nat.le_of_ble_eq_true rfl) ?_
  intro p e R s m args below meth c Q ls hx hb hC hRf hRl hret hl hw
  have hRf : 1 ≤ R.frames := hRf
  have hRl : 22 ≤ R.locals := hRl
  have hl : lv_has ls 7 [(0, .ref (wa T x)), (1, .ref (wa T a)), (2, .ref (wa T b))] := hl
  have hka := kD_le (V a)
  have hkb : kD (V b) ≤ kD (V a) := by
    apply Nat.le_of_not_lt; intro q9
    have := kD_less (hV a ha) q9; omega
  generalize hen : kD (V a) = en at hka hkb
  refine lv_aload_n hx hb d_N_takeDifference_0 rfl (lv_at hl 1 rfl) ?_
  refine wg_Natural_used hx hb hC hw (by omega) bw_45 d_N_takeDifference_1 ?_
  refine sw_i (y := nI en) (by rw [← hen]; rfl) ?_
  refine lv_istore_n hx hb d_N_takeDifference_4 rfl hl (by decide) rfl (fun ls hl => ?_)
  have hl : lv_has ls 7 [(3, .int (nI en)), (0, .ref (wa T x)), (1, .ref (wa T a)), (2, .ref (wa T b))] := hl
  refine lv_lconst (v := 0) hx hb d_N_takeDifference_5 (by decide +kernel) ?_
  refine lv_lstore hx hb d_N_takeDifference_6 hl (by decide) rfl (fun ls hl => ?_)
  have hl : lv_has ls 7 [(4, .long (0 : Int64)), (3, .int (nI en)), (0, .ref (wa T x)), (1, .ref (wa T a)), (2, .ref (wa T b))] := hl
  refine lv_iconst (v := nI 0) hx hb d_N_takeDifference_8 (by decide +kernel) ?_
  refine lv_istore hx hb d_N_takeDifference_9 hl (by decide) rfl (fun ls hl => ?_)
  have hl : lv_has ls 7 [(6, .int (nI 0)), (4, .long (0 : Int64)), (3, .int (nI en)), (0, .ref (wa T x)), (1, .ref (wa T a)), (2, .ref (wa T b))] := hl
  rw [← va_upx (fF V) x] at hw
  have lp : ∀ (n i : Nat) (f : Nat → Int64) (cy : Int64) (ls : Array Slot) (H : Heap) (locs : List Loc), en - i = n → i ≤ en → (-1 ≤ cy.toInt ∧ cy.toInt ≤ 0) → (lm_ev b28 (nd f) i + cy.toInt * b28 ^ i = lm_ev b28 (nd (fD (V a))) i - lm_ev b28 (nd (fD (V b))) i) → (∀ j, j < i → 0 ≤ nd f j ∧ nd f j < b28) → (∀ j, i ≤ j → f j = fD (V x) j) →  lv_has ls 7 [(6, .int (nI i)), (4, .long cy), (3, .int (nI en)), (0, .ref (wa T x)), (1, .ref (wa T a)), (2, .ref (wa T b))] → wH T (va_up (fF V) x f) (fU V) K I O (wA T) s s.heap H locs → W p l e R s m args below meth c H locs 0 0 Q (F0 m 11 ls []) := by
    intro n
    induction n with
    | zero =>
      intro i f cy ls H locs hn hle h1 h2 h3 h4 hl hw
      refine lv_iload hx hb d_N_takeDifference_11 (lv_at hl 0 rfl) ?_
      refine lv_iload_n hx hb d_N_takeDifference_13 rfl (lv_at hl 2 rfl) ?_
      refine n_icmp_ge (tgt := 63) hx hb d_N_takeDifference_14 (by decide) (by omega) (by omega) (fun h0 => ?_) (fun h0 => ?_)
      · have e9 : en = i := by omega
        subst e9
        refine lv_aload_n hx hb d_N_takeDifference_63 rfl (lv_at hl 3 rfl) ?_
        refine lv_iload_n hx hb d_N_takeDifference_64 rfl (lv_at hl 2 rfl) ?_
        have c0 := pv_nocarry h3 h1 h2 (by rw [fD_ev_k (hV a ha) (by omega), fD_ev_k (hV b hb9) (by omega)]; omega)
        have s2 : lm_ev b28 (nd f) en = ((V a - V b : Nat) : Int) := by
          rw [c0, fD_ev_k (hV a ha) (by omega), fD_ev_k (hV b hb9) (by omega)] at h2; omega
        refine wcV_v (As := [.int (nI en)]) hx hb hC hw (k_N_settle l T (va_up (fF V) x f) (fU V) K I O x (kD (V x)) en (V a - V b) hi rfl (kD_le _) (by omega) (by rw [va_up_self]; exact h3) (fun j a1 a2 a3 => by rw [va_up_self, h4 j (by omega)]; exact fD_zero (hV x hi) a2) (by rw [va_up_self]; exact s2)) lk_N_39 rfl rfl ⟨by show 0 + 1 ≤ R.frames; omega, by show 8 + (3 + 11) + 0 ≤ R.locals; omega⟩ (by omega) (we_Natural (by omega)) rfl rfl hl.1 rfl (Nat.le_of_ble_eq_true rfl) ⟨Nat.zero_le _, Nat.zero_le _⟩ d_N_takeDifference_65 (fun H locs hw => ?_)
        rw [bx_uu, fF_up, fU_up] at hw
        exact hret _ _ _ _ hw d_N_takeDifference_68
      · exact absurd h0 (by omega)
    | succ n ih =>
      intro i f cy ls H locs hn hle h1 h2 h3 h4 hl hw
      refine lv_iload hx hb d_N_takeDifference_11 (lv_at hl 0 rfl) ?_
      refine lv_iload_n hx hb d_N_takeDifference_13 rfl (lv_at hl 2 rfl) ?_
      refine n_icmp_ge (tgt := 63) hx hb d_N_takeDifference_14 (by decide) (by omega) (by omega) (fun h0 => ?_) (fun h0 => ?_)
      · exact absurd h0 (by omega)
      · refine lv_lload hx hb d_N_takeDifference_17 (lv_at hl 1 rfl) ?_
        refine lv_aload_n hx hb d_N_takeDifference_19 rfl (lv_at hl 4 rfl) ?_
        refine wg_Natural_limbs hx hb hC hw (by omega) bw_43 d_N_takeDifference_20 ?_
        refine lv_iload hx hb d_N_takeDifference_23 (lv_at hl 0 rfl) ?_
        refine wl_limbs hx hb hw (by omega) (by omega) d_N_takeDifference_25 ?_
        refine sw_l (y := fD (V a) i) (pv_alias h4) ?_
        refine lv_aload_n hx hb d_N_takeDifference_26 rfl (lv_at hl 5 rfl) ?_
        refine wg_Natural_limbs hx hb hC hw (by omega) bw_43 d_N_takeDifference_27 ?_
        refine lv_iload hx hb d_N_takeDifference_30 (lv_at hl 0 rfl) ?_
        refine wl_limbs hx hb hw (by omega) (by omega) d_N_takeDifference_32 ?_
        refine sw_l (y := fD (V b) i) (pv_alias h4) ?_
        refine lv_lsub hx hb d_N_takeDifference_33 ?_
        refine lv_ladd hx hb d_N_takeDifference_34 ?_
        refine lv_topl (fun t et => ?_)
        refine lv_lstore hx hb d_N_takeDifference_35 hl (by decide) rfl (fun ls hl => ?_)
        have hl : lv_has ls 7 [(4, .long t), (6, .int (nI i)), (3, .int (nI en)), (0, .ref (wa T x)), (1, .ref (wa T a)), (2, .ref (wa T b))] := hl
        refine lv_aload_n hx hb d_N_takeDifference_37 rfl (lv_at hl 3 rfl) ?_
        refine wg_Natural_limbs hx hb hC hw (by omega) bw_43 d_N_takeDifference_38 ?_
        refine lv_iload hx hb d_N_takeDifference_41 (lv_at hl 1 rfl) ?_
        refine lv_lload hx hb d_N_takeDifference_43 (lv_at hl 0 rfl) ?_
        refine lv_ldc2 (v := 268435455) hx hb hC.ow (hC.hts bw_300) d_N_takeDifference_45 ?_
        refine lv_land hx hb d_N_takeDifference_48 ?_
        refine ws_limbs hx hb hw (by omega) (by omega) d_N_takeDifference_49 (fun H locs hw => ?_)
        refine lv_lload hx hb d_N_takeDifference_50 (lv_at hl 0 rfl) ?_
        refine lv_bipush (v := nI 28) hx hb d_N_takeDifference_52 (by decide +kernel) ?_
        refine lv_lshr hx hb d_N_takeDifference_54 rfl ?_
        refine lv_lstore hx hb d_N_takeDifference_55 hl (by decide) rfl (fun ls hl => ?_)
        have hl : lv_has ls 7 [(4, .long (t >>> ((nI 28).toInt64 &&& 63))), (6, .int (nI i)), (3, .int (nI en)), (0, .ref (wa T x)), (1, .ref (wa T a)), (2, .ref (wa T b))] := hl
        refine lv_iinc (v := nI (i + 1)) hx hb d_N_takeDifference_57 hl (k := 1) rfl (nI_add _ 1) (by decide) rfl (fun ls hl => ?_)
        have hl : lv_has ls 7 [(6, .int (nI (i + 1))), (4, .long (t >>> ((nI 28).toInt64 &&& 63))), (3, .int (nI en)), (0, .ref (wa T x)), (1, .ref (wa T a)), (2, .ref (wa T b))] := hl
        refine lv_goto (tgt := 11) hx hb d_N_takeDifference_60 (by decide) ?_
        rw [bx_uu, va_up_self] at hw
        have q := pv_dif h1 (fD_in (V a) i) (fD_in (V b) i) et h2
        exact ih (i + 1) _ _ ls H locs (by omega) (by omega) q.1 (q.2.trans (lm_sub2 rfl)) (pu_in h3) (fun j hj => by rw [pk_uLn (by omega)]; exact h4 j (by omega)) hl hw
  exact lp en 0 (fD (V x)) 0 ls _ _ (by omega) (by omega) (by decide +kernel) (by rw [lm_ev0, lm_ev0, lm_ev0, lj_0]; rfl) (fun j h => absurd h (by omega)) (fun _ _ => rfl) hl hw
