/-! Euclid: the factor; Natural: one bit; answers with numbers told by a property -/
def bfw (sg : Bool) (f m : Nat) : Nat := if (sg && !decide (f = 0)) = true then m - f else f
def mQip (T : wT) (r : Int32) (Pr : (Nat → Nat) → Prop) (K : wUt) (I : wIt) (O : wOt) : Array Value → State → Outcome → State → Prop := va_Qi (fun x (V' : Nat → Nat) => x = r ∧ Pr V') (fun V' t => wd T (fF V') (fU V') K I O t) (wA T)
section EZ
variable {p : Program} {l : Launch} {e : Env} {R : Room} {s : State} {m : MethodId} {args : Array Value} {below : List Frame} {meth : Method} {c : Code} {H H0 : Heap} {locs : List Loc} {cells slots : Nat} {Q : State → Prop}
variable {cc : ByteArray} {pc maxL : Nat} {ls : Array Slot} {rest st0 As : List Value} {T : wT} {F : wFt} {U K K' : wUt} {I I' : wIt} {O O' : wOt} {A : Nat → Prop} {own : String}
variable {y : MethodName} {bytes : ByteArray} {mL n index k ci N : Nat} {fs : List Value} {Tt : u_T} {rm : Room} {Pr : (Nat → Nat) → Prop} {r : Int32}
theorem wM_zp (hpn : plainName y.cls = true) {av : List Value} (hav : (lg_sl av).length ≤ maxL) (hr1 : narrow .boolean (.int r) = .int r)
    (body : ∀ (p : Program) (e : Env) (R : Room) (s : State) (m : MethodId) (args : Array Value) (below : List Frame) (meth : Method) (c : Code) (Q : State → Prop) (ls : Array Slot), p.tables.exec = Jvm.exec → c.code = cc → wC m c maxL s args y.cls → rm.frames ≤ R.frames → rm.locals ≤ R.locals →
      (∀ (V' : Nat → Nat) (H : Heap) (locs : List Loc) (pc : Nat) (ls : Array Slot), Pr V' → wH T (fF V') (fU V') K' I' O' (wA T) s s.heap H locs → decode cc pc = .ok (.ireturn, 1) → W p l e R s m args below meth c H locs 0 0 Q (F0 m pc ls [.int r])) →
      lv_has ls maxL (lv_args 0 av) → wH T F U K I O (wA T) s s.heap s.heap [] → W p l e R s m args below meth c s.heap [] 0 0 Q (F0 m 0 ls [])) :
    Met l y (.code y cc maxL (some .boolean) :: bg) rm (mP T F U K I O av) (mQip T r Pr K' I' O') 0 0 (wA T) := by
  refine Met.ofW (cc := cc) (maxL := maxL) (ret := some .boolean) hpn rfl ?_
  intro p e s m args below meth c s₁ B hml hv
  obtain ⟨rfl, hv⟩ := hv
  have hts := atoms_spec (ws := (.code y cc maxL (some .boolean) :: bg)) B.pre
  have hlocks := B.notSynchronized
  rw [lg_entry_eq]
  refine body p e _ s m _ below meth c _ _ B.exec B.bytes ⟨hml, fun w h => hts w (List.mem_cons_of_mem _ h), findClass_of_methodNamed B.named⟩ (Nat.le_refl _) (Nat.le_refl _) ?_ (lv_entry av hav) (wH.start hv)
  intro V' H locs pc ls hP hw hd
  exact W.zret B.exec B.bytes B.returns hr1 (fun t ht hW => ⟨⟨r, V', rfl, ⟨rfl, hP⟩, hw.stop ht hW.alike⟩, hw.2.2.2.1.F ht⟩) hw.2.2.2.1.2.2 hd hlocks
theorem wcV_zp (hx : p.tables.exec = Jvm.exec) (hb : c.code = cc) (hC : wC m c maxL s args own) (hw : wH T F U K I O A s H0 H locs)
    (hM : Met l y (.code y bytes mL (some .boolean) :: bg) rm (mP T F U K I O (.ref (wa T k) :: As)) (mQip T r Pr K' I' O') 0 0 (wA T)) (h : wLv own index y bytes mL (some .boolean) n) (hrc : rm.cells = 0) (hrs : rm.slots = 0) (hR : rm.frames + 1 ≤ R.frames ∧ 8 + (mL + 11) + rm.locals ≤ R.locals)
    (hk : k < 97) (he : wE T F U K I O k = .inr (ci, fs)) (hc : clS[ci]? = some (y.cls, Tt, N)) (hn : As.length = n) (hls : ls.size = maxL) (hst : st0 = As.reverse ++ .ref (wa T k) :: rest) (hW8 : (rest.map fun v => v.category).sum ≤ 8) (hf : cells ≤ R.cells ∧ slots ≤ R.slots) (hdg : decode cc pc = .ok (.invokevirtual index, 3))
    (kk : ∀ (V' : Nat → Nat) (H1 : Heap) (locs1 : List Loc), Pr V' → wH T (fF V') (fU V') K' I' O' A s H0 H1 locs1 → W p l e R s m args below meth c H1 locs1 cells slots Q (F0 m (pc + 3) ls (.int r :: rest))) : W p l e R s m args below meth c H locs cells slots Q (F0 m pc ls st0) := by
  refine va_calli (va_runV (C := y.cls) (As := As) (rest := rest) ⟨hx, hb, hC.1, hC.2.2, hC.2.1⟩ hM ⟨wc_B hC h.1 hrc hrs hR, hC.hts h.2.1, hC.hts h.2.2⟩ ⟨mP_blind, hw.recv hk he hc, hw.pre⟩ rfl hn hls hst (lv_room hW8) hdg hf) hw.2.2.2.1 (fun q _ h => wA_sub hw q h) (wA_sub hw) (fun r9 u t H1 locs1 ht hvm hp hB hz hk1 hS => ?_)
  obtain ⟨rfl, hp⟩ := hp
  exact kk u H1 locs1 hp (hw.back ht hvm hB hS)
end EZ
/-- a bit below all bits of a number is set -/
theorem pb_dg {d r : Nat} (h : d % 2 ^ (r + 1) = 0) (hr : r < 28) (hd : d < 268435456) : lN d ||| lN (2 ^ r) = lN (d + 2 ^ r) ∧ d + 2 ^ r < 268435456 := by
  have h1 : 2 ^ r < 2 ^ (r + 1) := Nat.pow_lt_pow_right (by decide) (by omega)
  have h2 : d / 2 ^ (r + 1) * 2 ^ (r + 1) = d := by have := Nat.div_add_mod d (2 ^ (r + 1)); rw [h, Nat.mul_comm] at this; omega
  have h3 : 2 ^ (r + 1) ∣ 268435456 := ⟨2 ^ (27 - r), by rw [← Nat.pow_add, show r + 1 + (27 - r) = 28 by omega]⟩
  have h4 : d + 2 ^ (r + 1) ≤ 268435456 := by
    obtain ⟨q, hq⟩ := h3
    rw [← h2, hq] at hd ⊢
    have h5 : d / 2 ^ (r + 1) < q := by
      apply Nat.lt_of_not_le; intro h6
      have := Nat.mul_le_mul_right (2 ^ (r + 1)) h6
      rw [Nat.mul_comm q] at this
      omega
    have h7 : (d / 2 ^ (r + 1) + 1) * 2 ^ (r + 1) ≤ q * 2 ^ (r + 1) := Nat.mul_le_mul_right _ h5
    rw [Nat.add_mul, Nat.one_mul, Nat.mul_comm q] at h7
    exact h7
  have h8 := g_or (k := r + 1) (p := 2 ^ (r + 1)) (a := 2 ^ r) (b := d / 2 ^ (r + 1)) rfl h1 (by rw [h2]; omega)
  rw [h2] at h8
  exact ⟨h8, by omega⟩
theorem pb_low {v i : Nat} (h : v % 2 ^ (i + 1) = 0) : v / vB ^ (i / 28) % vB % 2 ^ (i % 28 + 1) = 0 := by
  have hm := Nat.mod_lt i (show 0 < 28 by decide)
  have h1 : 2 ^ (i % 28 + 1) ∣ vB := ⟨2 ^ (27 - i % 28), by rw [← Nat.pow_add, show i % 28 + 1 + (27 - i % 28) = 28 by omega]; rfl⟩
  rw [Nat.mod_mod_of_dvd _ h1, vB_two]
  have e : 2 ^ (i + 1) = 2 ^ (28 * (i / 28)) * 2 ^ (i % 28 + 1) := by rw [← Nat.pow_add]; congr 1; have := Nat.div_add_mod i 28; omega
  rw [e, Nat.mod_mul] at h
  have hp : 0 < 2 ^ (28 * (i / 28)) := Nat.two_pow_pos _
  have h2 : 2 ^ (28 * (i / 28)) * (v / 2 ^ (28 * (i / 28)) % 2 ^ (i % 28 + 1)) = 0 := by omega
  rcases Nat.mul_eq_zero.mp h2 with h3 | h3
  · omega
  · exact h3

set_option maxRecDepth 100000 in
set_option maxHeartbeats 4000000 in
theorem k_E_bring (l : Launch) (T : wT) (V : Nat → Nat) (K : wUt) (I : wIt) (O : wOt) (mo : Nat) (hm : mo < 13) (sg : Bool) (hK : K 13 = bI sg) (hle : V 30 ≤ V mo) (hV : ∀ n, n < 34 → V n < vLim) : Met l y_E_bringFactorWithin (.code y_E_bringFactorWithin c_E_bringFactorWithin 2 none :: bg) ({ frames := 2, cells := 0, slots := 0, locals := 48 } : Room) (mP T (fF V) (fU V) K I O [.ref (wa T 90), .ref (wa T mo)]) (mQv T (fF (va_up V 30 (bfw sg (V 30) (V mo)))) (fU (va_up V 30 (bfw sg (V 30) (V mo)))) K I O) 0 0 (wA T) := by
  refine wM_v (by decide) (Nat.le_of_ble_eq_true rfl) ?_
  intro p e R s m args below meth c Q ls hx hb hC hRf hRl hret hl hw
  have hRf : 2 ≤ R.frames := hRf
  have hRl : 48 ≤ R.locals := hRl
  have hl : lv_has ls 2 [(0, .ref (wa T 90)), (1, .ref (wa T mo))] := hl
  cases sg
  · refine lv_aload_n hx hb d_E_bringFactorWithin_0 rfl (lv_at hl 0 rfl) ?_
    refine wg_Euclid_factorBelow hx hb hC hw bw_165 d_E_bringFactorWithin_1 ?_
    refine sw_i (y := nI 0) (hK) ?_
    refine n_if_eq (tgt := 29) hx hb d_E_bringFactorWithin_4 (by decide) (by omega) (fun hw9 => ?_) (fun hw9 => ?_)
    · have e9 : va_up V 30 (bfw false (V 30) (V mo)) = V := va_upx V 30
      rw [← e9] at hw
      exact hret _ _ _ _ hw d_E_bringFactorWithin_29
    · exact absurd hw9 (by decide)
  · refine lv_aload_n hx hb d_E_bringFactorWithin_0 rfl (lv_at hl 0 rfl) ?_
    refine wg_Euclid_factorBelow hx hb hC hw bw_165 d_E_bringFactorWithin_1 ?_
    refine sw_i (y := nI 1) (hK) ?_
    refine n_if_eq (tgt := 29) hx hb d_E_bringFactorWithin_4 (by decide) (by omega) (fun hw9 => ?_) (fun hw9 => ?_)
    · exact absurd hw9 (by decide)
    · refine lv_aload_n hx hb d_E_bringFactorWithin_7 rfl (lv_at hl 0 rfl) ?_
      refine wg_Euclid_factor hx hb hC hw bw_163 d_E_bringFactorWithin_8 ?_
      refine wcV_z (As := []) hx hb hC hw (k_N_isZero l T V K I O 30 (by omega) hV) lk_E_50 rfl rfl ⟨by show 0 + 1 ≤ R.frames; omega, by show 8 + (1 + 11) + 0 ≤ R.locals; omega⟩ (by omega) (we_Natural (by omega)) rfl rfl hl.1 rfl (Nat.le_of_ble_eq_true rfl) ⟨Nat.zero_le _, Nat.zero_le _⟩ d_E_bringFactorWithin_11 (fun H locs hw => ?_)
      by_cases hz : V 30 = 0
      · refine sw_i (y := nI 1) (by rw [if_pos hz]; rfl) ?_
        refine n_if_ne (tgt := 29) hx hb d_E_bringFactorWithin_14 (by decide) (by omega) (fun hw9 => ?_) (fun hw9 => ?_)
        · have e9 : va_up V 30 (bfw true (V 30) (V mo)) = V := by unfold bfw; rw [decide_eq_true hz]; exact va_upx V 30
          rw [← e9] at hw
          exact hret _ _ _ _ hw d_E_bringFactorWithin_29
        · exact absurd hw9 (by decide)
      · refine sw_i (y := nI 0) (by rw [if_neg hz]; rfl) ?_
        refine n_if_ne (tgt := 29) hx hb d_E_bringFactorWithin_14 (by decide) (by omega) (fun hw9 => ?_) (fun hw9 => ?_)
        · exact absurd hw9 (by decide)
        · refine lv_aload_n hx hb d_E_bringFactorWithin_17 rfl (lv_at hl 0 rfl) ?_
          refine wg_Euclid_factor hx hb hC hw bw_163 d_E_bringFactorWithin_18 ?_
          refine lv_aload_n hx hb d_E_bringFactorWithin_21 rfl (lv_at hl 1 rfl) ?_
          refine lv_aload_n hx hb d_E_bringFactorWithin_22 rfl (lv_at hl 0 rfl) ?_
          refine wg_Euclid_factor hx hb hC hw bw_163 d_E_bringFactorWithin_23 ?_
          refine wcV_v (As := [.ref (wa T mo), .ref (wa T 30)]) hx hb hC hw (k_N_takeDifference l T V K I O 30 mo 30 (by omega) (by omega) (by omega) hle hV) lk_E_70 rfl rfl ⟨by show 1 + 1 ≤ R.frames; omega, by show 8 + (7 + 11) + 22 ≤ R.locals; omega⟩ (by omega) (we_Natural (by omega)) rfl rfl hl.1 rfl (Nat.le_of_ble_eq_true rfl) ⟨Nat.zero_le _, Nat.zero_le _⟩ d_E_bringFactorWithin_26 (fun H locs hw => ?_)
          have e9 : bfw true (V 30) (V mo) = V mo - V 30 := by unfold bfw; rw [decide_eq_false hz]; rfl
          rw [← e9] at hw
          exact hret _ _ _ _ hw d_E_bringFactorWithin_29
set_option maxRecDepth 100000 in
set_option maxHeartbeats 4000000 in
theorem k_N_putBit (l : Launch) (T : wT) (V : Nat → Nat) (K : wUt) (I : wIt) (O : wOt) (x i : Nat) (hi : x < 34) (hb9 : i < 2100) (h0 : V x % 2 ^ (i + 1) = 0) (hV : ∀ n, n < 34 → V n < vLim) : Met l y_N_putBit (.code y_N_putBit c_N_putBit 3 none :: bg) ({ frames := 1, cells := 0, slots := 0, locals := 21 } : Room) (mP T (fF V) (fU V) K I O [.ref (wa T x), .int (nI i)]) (mQv T (fF (va_up V x (V x + 2 ^ i))) (fU (va_up V x (V x + 2 ^ i))) K I O) 0 0 (wA T) := by
  refine wM_v (by decide) (Nat.le_of_ble_eq_true rfl) ?_
  intro p e R s m args below meth c Q ls hx hb hC hRf hRl hret hl hw
  have hRf : 1 ≤ R.frames := hRf
  have hRl : 21 ≤ R.locals := hRl
  have hl : lv_has ls 3 [(0, .ref (wa T x)), (1, .int (nI i))] := hl
  have hm := Nat.mod_lt i (show 0 < 28 by decide)
  have hk := kD_le (V x)
  have hd := dg_lt (V x) (i / 28)
  obtain ⟨p1, p2⟩ := pb_dg (pb_low h0) hm hd
  refine lv_iload_n hx hb d_N_putBit_0 rfl (lv_at hl 1 rfl) ?_
  refine lv_bipush (v := nI 28) hx hb d_N_putBit_1 (by decide +kernel) ?_
  refine n_idiv hx hb d_N_putBit_3 (by omega) (by omega) (by omega) ?_
  refine lv_istore_n hx hb d_N_putBit_4 rfl hl (by decide) rfl (fun ls hl => ?_)
  have hl : lv_has ls 3 [(2, .int (nI (i / 28))), (0, .ref (wa T x)), (1, .int (nI i))] := hl
  refine lv_iload_n hx hb d_N_putBit_5 rfl (lv_at hl 0 rfl) ?_
  refine n_if_lt hx hb d_N_putBit_6 (by decide) (by omega) ?_
  refine lv_iload_n hx hb d_N_putBit_9 rfl (lv_at hl 0 rfl) ?_
  refine lv_bipush (v := nI 75) hx hb d_N_putBit_10 (by decide +kernel) ?_
  refine n_icmp_lt (tgt := 16) hx hb d_N_putBit_12 (by decide) (by omega) (by omega) (fun h => ?_) (fun h => ?_)
  · refine lv_aload_n hx hb d_N_putBit_16 rfl (lv_at hl 1 rfl) ?_
    refine wg_Natural_limbs hx hb hC hw (by omega) bw_43 d_N_putBit_17 ?_
    refine lv_iload_n hx hb d_N_putBit_20 rfl (lv_at hl 0 rfl) ?_
    refine lv_dup2_11 hx hb d_N_putBit_21 rfl rfl ?_
    refine wl_limbs hx hb hw (by omega) (by omega) d_N_putBit_22 ?_
    refine sw_l (y := lN (V x / vB ^ (i / 28) % vB)) (rfl) ?_
    refine lv_lconst (v := 1) hx hb d_N_putBit_23 (by decide +kernel) ?_
    refine lv_iload_n hx hb d_N_putBit_24 rfl (lv_at hl 2 rfl) ?_
    refine lv_bipush (v := nI 28) hx hb d_N_putBit_25 (by decide +kernel) ?_
    refine n_irem hx hb d_N_putBit_27 (by omega) (by omega) (by omega) ?_
    refine lv_lshl hx hb d_N_putBit_28 rfl ?_
    refine sw_l (y := lN (2 ^ (i % 28))) ((wb_shl 1 (k := i % 28) (by omega)).trans (by rw [Nat.one_mul])) ?_
    refine lv_lor hx hb d_N_putBit_29 ?_
    refine sw_l (y := lN (V x / vB ^ (i / 28) % vB + 2 ^ (i % 28))) (p1) ?_
    refine ws_limbs hx hb hw (by omega) (by omega) d_N_putBit_30 (fun H locs hw => ?_)
    refine lv_aload_n hx hb d_N_putBit_31 rfl (lv_at hl 1 rfl) ?_
    refine lv_aload_n hx hb d_N_putBit_32 rfl (lv_at hl 1 rfl) ?_
    refine wg_Natural_used hx hb hC hw (by omega) bw_45 d_N_putBit_33 ?_
    refine sw_i (y := nI (kD (V x))) (rfl) ?_
    refine lv_iload_n hx hb d_N_putBit_36 rfl (lv_at hl 0 rfl) ?_
    refine lv_iconst (v := nI 1) hx hb d_N_putBit_37 (by decide +kernel) ?_
    refine n_iadd hx hb d_N_putBit_38 ?_
    refine wm_maxI hx hb hC ml_340 (by omega) (by omega) hl.1 (by omega) (by show 1 + 13 ≤ R.locals; omega) ⟨Nat.zero_le _, Nat.zero_le _⟩ d_N_putBit_39 ?_
    refine wp_Natural_used hx hb hC hw (by omega) bw_45 d_N_putBit_42 (fun H locs hw => ?_)
    have ht : (lN (V x / vB ^ (i / 28) % vB + 2 ^ (i % 28))).toInt = ((V x / vB ^ (i / 28) % vB + 2 ^ (i % 28) : Nat) : Int) := lj_lN (by omega)
    have hpp : 0 < 2 ^ (i % 28) := Nat.two_pow_pos _
    generalize hf : vp_updL (fF V x) (i / 28) (lN (V x / vB ^ (i / 28) % vB + 2 ^ (i % 28))) = f at hw
    have pa : ∀ j, j < max (kD (V x)) (i / 28 + 1) → 0 ≤ nd f j ∧ nd f j < b28 := fun j hj => by
      rw [← hf]
      by_cases ej : j = i / 28
      · rw [ej, nd_upd, ht]; exact ⟨by omega, by show _ < (268435456 : Int); omega⟩
      · rw [nd_updN ej]; exact fD_in _ _
    have pz : ∀ j, max (kD (V x)) (i / 28 + 1) ≤ j → j < 75 → f j = 0 := fun j a1 a2 => by rw [← hf, pk_uLn (by omega)]; exact fD_zero (hV x hi) (by omega)
    have pt : 0 < max (kD (V x)) (i / 28 + 1) → f (max (kD (V x)) (i / 28 + 1) - 1) ≠ 0 := fun _ hq => by
      rw [← hf] at hq
      by_cases ej : max (kD (V x)) (i / 28 + 1) - 1 = i / 28
      · rw [ej, pk_uLs] at hq
        exact lN_ne0 (by omega) (by omega) hq
      · rw [pk_uLn ej, show max (kD (V x)) (i / 28 + 1) - 1 = kD (V x) - 1 by omega] at hq
        exact fD_top (hV x hi) (by omega) hq
    have pe : lm_ev b28 (nd f) (max (kD (V x)) (i / 28 + 1)) = ((V x + 2 ^ i : Nat) : Int) := by
      rw [← hf, nd_upd_ev (by omega), ht]
      have e1 : lm_ev b28 (nd (fF V x)) (max (kD (V x)) (i / 28 + 1)) = (V x : Int) := fD_ev_k (hV x hi) (by omega)
      have e2 : nd (fF V x) (i / 28) = ((V x / vB ^ (i / 28) % vB : Nat) : Int) := fD_toInt (V x) (i / 28)
      have e3 : 2 ^ i = 2 ^ (i % 28) * vB ^ (i / 28) := by rw [vB_two, ← Nat.pow_add]; congr 1; have := Nat.div_add_mod i 28; omega
      rw [e1, e2, e3, ← vB_c]
      push_cast
      grind
    obtain ⟨c1, c2, c3⟩ := nv_close (by omega) pa pz pt pe
    have hw := wH.canon hi hw c3
    rw [fF_up] at hw
    have e9 : va_up (fU V) x (nI (max (kD (V x)) (i / 28 + 1))) = fU (va_up V x (V x + 2 ^ i)) := by rw [← fU_up]; unfold uD; rw [c2]
    rw [e9] at hw
    exact hret _ _ _ _ hw d_N_putBit_45
  · exact absurd h (by omega)
