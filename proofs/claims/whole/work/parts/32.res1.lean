/-! contracts whose numbers are told by a property; Residues -/
def mQvp (T : wT) (Pr : (Nat → Nat) → wUt → Prop) (I : wIt) (O : wOt) : Array Value → State → Outcome → State → Prop := va_Qv (fun u : (Nat → Nat) × wUt => Pr u.1 u.2) (fun u t => wd T (fF u.1) (fU u.1) u.2 I O t) (wA T)
section EV
variable {p : Program} {l : Launch} {e : Env} {R : Room} {s : State} {m : MethodId} {args : Array Value} {below : List Frame} {meth : Method} {c : Code} {H H0 : Heap} {locs : List Loc} {cells slots : Nat} {Q : State → Prop}
variable {cc : ByteArray} {pc maxL : Nat} {ls : Array Slot} {rest st0 As : List Value} {T : wT} {F : wFt} {U K : wUt} {I I' : wIt} {O O' : wOt} {A : Nat → Prop} {own : String}
variable {y : MethodName} {bytes : ByteArray} {mL n index k ci N : Nat} {fs : List Value} {Tt : u_T} {rm : Room} {Pr : (Nat → Nat) → wUt → Prop}
theorem wM_vp (hpn : plainName y.cls = true) {av : List Value} (hav : (lg_sl av).length ≤ maxL)
    (body : ∀ (p : Program) (e : Env) (R : Room) (s : State) (m : MethodId) (args : Array Value) (below : List Frame) (meth : Method) (c : Code) (Q : State → Prop) (ls : Array Slot), p.tables.exec = Jvm.exec → c.code = cc → wC m c maxL s args y.cls → rm.frames ≤ R.frames → rm.locals ≤ R.locals →
      (∀ (V' : Nat → Nat) (K' : wUt) (H : Heap) (locs : List Loc) (pc : Nat) (ls : Array Slot), Pr V' K' → wH T (fF V') (fU V') K' I' O' (wA T) s s.heap H locs → decode cc pc = .ok (.return_, 1) → W p l e R s m args below meth c H locs 0 0 Q (F0 m pc ls [])) →
      lv_has ls maxL (lv_args 0 av) → wH T F U K I O (wA T) s s.heap s.heap [] → W p l e R s m args below meth c s.heap [] 0 0 Q (F0 m 0 ls [])) :
    Met l y (.code y cc maxL none :: bg) rm (mP T F U K I O av) (mQvp T Pr I' O') 0 0 (wA T) := by
  refine Met.ofW (cc := cc) (maxL := maxL) (ret := none) hpn rfl ?_
  intro p e s m args below meth c s₁ B hml hv
  obtain ⟨rfl, hv⟩ := hv
  have hts := atoms_spec (ws := (.code y cc maxL none :: bg)) B.pre
  have hlocks := B.notSynchronized
  rw [lg_entry_eq]
  refine body p e _ s m _ below meth c _ _ B.exec B.bytes ⟨hml, fun w h => hts w (List.mem_cons_of_mem _ h), findClass_of_methodNamed B.named⟩ (Nat.le_refl _) (Nat.le_refl _) ?_ (lv_entry av hav) (wH.start hv)
  intro V' K' H locs pc ls hP hw hd
  exact W.vret B.exec B.bytes B.returns (fun t ht hW => ⟨⟨(V', K'), rfl, hP, hw.stop ht hW.alike⟩, hw.2.2.2.1.F ht⟩) hw.2.2.2.1.2.2 hd hlocks
theorem wcV_vp (hx : p.tables.exec = Jvm.exec) (hb : c.code = cc) (hC : wC m c maxL s args own) (hw : wH T F U K I O A s H0 H locs)
    (hM : Met l y (.code y bytes mL none :: bg) rm (mP T F U K I O (.ref (wa T k) :: As)) (mQvp T Pr I' O') 0 0 (wA T)) (h : wLv own index y bytes mL none n) (hrc : rm.cells = 0) (hrs : rm.slots = 0) (hR : rm.frames + 1 ≤ R.frames ∧ 8 + (mL + 11) + rm.locals ≤ R.locals)
    (hk : k < 97) (he : wE T F U K I O k = .inr (ci, fs)) (hc : clS[ci]? = some (y.cls, Tt, N)) (hn : As.length = n) (hls : ls.size = maxL) (hst : st0 = As.reverse ++ .ref (wa T k) :: rest) (hW8 : (rest.map fun v => v.category).sum ≤ 8) (hf : cells ≤ R.cells ∧ slots ≤ R.slots) (hdg : decode cc pc = .ok (.invokevirtual index, 3))
    (kk : ∀ (V' : Nat → Nat) (K' : wUt) (H1 : Heap) (locs1 : List Loc), Pr V' K' → wH T (fF V') (fU V') K' I' O' A s H0 H1 locs1 → W p l e R s m args below meth c H1 locs1 cells slots Q (F0 m (pc + 3) ls rest)) : W p l e R s m args below meth c H locs cells slots Q (F0 m pc ls st0) := by
  refine va_callv (va_runV (C := y.cls) (As := As) (rest := rest) ⟨hx, hb, hC.1, hC.2.2, hC.2.1⟩ hM ⟨wc_B hC h.1 hrc hrs hR, hC.hts h.2.1, hC.hts h.2.2⟩ ⟨mP_blind, hw.recv hk he hc, hw.pre⟩ rfl hn hls hst (lv_room hW8) hdg hf) hw.2.2.2.1 (fun q _ h => wA_sub hw q h) (wA_sub hw) (fun u t H1 locs1 ht hvm hp hB hz hk1 hS => ?_)
  exact kk u.1 u.2 H1 locs1 hp (hw.back ht hvm hB hS)
end EV
def m1024 : Nat := 2 ^ 1024
theorem k37 {v : Nat} (h : v < m1024) : kD v ≤ 37 := kD_mono (Nat.lt_of_lt_of_le h (by rw [vB_two]; exact Nat.pow_le_pow_right (by decide) (by decide)))
theorem m1024_lim : m1024 ≤ vLim := by rw [vLim_two]; exact Nat.pow_le_pow_right (by decide) (by decide)
theorem sp_fit {a b v : Nat} (ha : a < m1024) (hb : b < v) (hv : v < m1024) : a * b * 2 ^ (28 * kD v - bl v) < vB ^ 74 := by
  have hvl : v < vLim := Nat.lt_of_lt_of_le hv m1024_lim
  have hk : 0 < kD v := by apply Nat.pos_of_ne_zero; intro q; have := kD0 hvl q; omega
  have h1 := (sp_norm hvl hk).1
  have h2 := vB_le (k37 hv)
  have h3 : b * 2 ^ (28 * kD v - bl v) ≤ v * 2 ^ (28 * kD v - bl v) := Nat.mul_le_mul_right _ (Nat.le_of_lt hb)
  have h4 : b * 2 ^ (28 * kD v - bl v) < vB ^ 37 := by omega
  have h5 : a < vB ^ 37 := Nat.lt_of_lt_of_le ha (by rw [vB_two]; exact Nat.pow_le_pow_right (by decide) (by decide))
  rw [Nat.mul_assoc]
  exact vB_mul (m := 37) (n := 37) h5 h4
theorem sp_fit1 {a v : Nat} (ha : a < m1024) (hv : v < m1024) (h0 : 0 < v) : a * 2 ^ (28 * kD v - bl v) < vB ^ 74 := by
  by_cases h1 : 1 < v
  · have := sp_fit ha h1 hv
    rw [Nat.mul_one] at this; exact this
  · have e : v = 1 := by omega
    subst e
    have hk := sp_norm (v := 1) (by decide +kernel) (by decide +kernel)
    have h2 : 1 * 2 ^ (28 * kD 1 - bl 1) < vB ^ 1 := Nat.lt_of_lt_of_le hk.1 (vB_le (kD_mono (by decide)))
    rw [Nat.one_mul] at h2
    have h5 : a < vB ^ 37 := Nat.lt_of_lt_of_le ha (by rw [vB_two]; exact Nat.pow_le_pow_right (by decide) (by decide))
    exact Nat.lt_of_lt_of_le (vB_mul h5 h2) (vB_le (by decide))
theorem dvV_rest (V : Nat → Nat) (d a b : Nat) : dvV V d a b (14 + 3 * d) = V a % V b := by unfold dvV; rw [va_up_self]
theorem dvV_quot (V : Nat → Nat) (d a b : Nat) : dvV V d a b (13 + 3 * d) = V a / V b := by unfold dvV; rw [va_up_ne _ _ (by omega), va_up_self]
theorem dvV_out {V : Nat → Nat} {d a b x : Nat} (h : x < 13 + 3 * d ∨ 15 + 3 * d < x) : dvV V d a b x = V x := by unfold dvV; rw [va_up_ne _ _ (by omega), va_up_ne _ _ (by omega), va_up_ne _ _ (by omega)]
theorem dvV_lim {V : Nat → Nat} {d a b : Nat} (hd : d < 3) (ha : a < 34) (hb : b < 34) (hV : ∀ n, n < 34 → V n < vLim) : ∀ n, n < 34 → dvV V d a b n < vLim := by
  unfold dvV
  refine hV_up (hV_up (hV_up hV ?_) (Nat.lt_of_le_of_lt (Nat.div_le_self _ _) (hV a ha))) (Nat.lt_of_le_of_lt (Nat.mod_le _ _) (hV a ha))
  unfold dvL
  split
  · exact hV _ (by omega)
  · rename_i h
    have hk : 0 < kD (V b) := by apply Nat.pos_of_ne_zero; intro q; exact h (Or.inl (kD0 (hV b hb) q))
    exact Nat.lt_of_lt_of_le (sp_norm (hV b hb) hk).1 (vB_le (kD_le _))
def rdc (b : Bool) (x m : Nat) : Nat := if (b && !decide (x % m = 0)) = true then m - x % m else x % m
theorem rdc_lt {b : Bool} {x m : Nat} (h : 0 < m) : rdc b x m < m := by
  have := Nat.mod_lt x h
  unfold rdc
  split
  · rename_i q
    simp at q
    omega
  · exact this
def rpV (V : Nat → Nat) (mo : Nat) : Nat → Nat := va_up (dvV V 1 28 mo) 26 (V 28 % V mo)
def rdV (V : Nat → Nat) (b : Bool) (k mo : Nat) : Nat → Nat := va_up (dvV V 1 k mo) 26 (rdc b (V k) (V mo))

set_option maxRecDepth 100000 in
set_option maxHeartbeats 4000000 in
theorem k_S_reduceProduct (l : Launch) (T : wT) (V : Nat → Nat) (K : wUt) (I : wIt) (O : wOt) (mo : Nat) (hm : mo < 13) (hA : V 28 * 2 ^ (28 * kD (V mo) - bl (V mo)) < vB ^ 74) (hV : ∀ n, n < 34 → V n < vLim) : Met l y_S_reduceProduct (.code y_S_reduceProduct c_S_reduceProduct 2 none :: bg) ({ frames := 4, cells := 0, slots := 0, locals := 105 } : Room) (mP T (fF V) (fU V) K I O [.ref (wa T 89), .ref (wa T mo)]) (mQv T (fF (rpV V mo)) (fU (rpV V mo)) K I O) 0 0 (wA T) := by
  refine wM_v (by decide) (Nat.le_of_ble_eq_true rfl) ?_
  intro p e R s m args below meth c Q ls hx hb hC hRf hRl hret hl hw
  have hRf : 4 ≤ R.frames := hRf
  have hRl : 105 ≤ R.locals := hRl
  have hl : lv_has ls 2 [(0, .ref (wa T 89)), (1, .ref (wa T mo))] := hl
  refine lv_aload_n hx hb d_S_reduceProduct_0 rfl (lv_at hl 0 rfl) ?_
  refine wg_Residues_division hx hb hC hw bw_141 d_S_reduceProduct_1 ?_
  refine lv_aload_n hx hb d_S_reduceProduct_4 rfl (lv_at hl 0 rfl) ?_
  refine wg_Residues_product hx hb hC hw bw_140 d_S_reduceProduct_5 ?_
  refine lv_aload_n hx hb d_S_reduceProduct_8 rfl (lv_at hl 1 rfl) ?_
  refine wcV_v (As := [.ref (wa T 28), .ref (wa T mo)]) hx hb hC hw (k_D_run l T V K I O 1 28 mo (by omega) (by omega) (by omega) (by omega) (by omega) hA hV) lk_S_34 rfl rfl ⟨by show 3 + 1 ≤ R.frames; omega, by show 8 + (6 + 11) + 80 ≤ R.locals; omega⟩ (by omega) (we_Division (by omega)) rfl rfl hl.1 rfl (Nat.le_of_ble_eq_true rfl) ⟨Nat.zero_le _, Nat.zero_le _⟩ d_S_reduceProduct_9 (fun H locs hw => ?_)
  refine lv_aload_n hx hb d_S_reduceProduct_12 rfl (lv_at hl 0 rfl) ?_
  refine wg_Residues_found hx hb hC hw bw_137 d_S_reduceProduct_13 ?_
  refine lv_aload_n hx hb d_S_reduceProduct_16 rfl (lv_at hl 0 rfl) ?_
  refine wg_Residues_division hx hb hC hw bw_141 d_S_reduceProduct_17 ?_
  refine wg_Division_rest (i := 1) hx hb hC hw (by omega) bw_94 d_S_reduceProduct_20 ?_
  refine wcV_v (As := [.ref (wa T (14 + 3 * 1))]) hx hb hC hw (k_N_take l T (dvV V 1 28 mo) K I O 26 (14 + 3 * 1) (by omega) (by omega) (dvV_lim (by omega) (by omega) (by omega) hV)) lk_S_41 rfl rfl ⟨by show 1 + 1 ≤ R.frames; omega, by show 8 + (4 + 11) + 22 ≤ R.locals; omega⟩ (by omega) (we_Natural (by omega)) rfl rfl hl.1 rfl (Nat.le_of_ble_eq_true rfl) ⟨Nat.zero_le _, Nat.zero_le _⟩ d_S_reduceProduct_23 (fun H locs hw => ?_)
  rw [dvV_rest] at hw
  exact hret _ _ _ _ hw d_S_reduceProduct_26
set_option maxRecDepth 100000 in
set_option maxHeartbeats 4000000 in
theorem k_S_reduce (l : Launch) (T : wT) (V : Nat → Nat) (K : wUt) (I : wIt) (O : wOt) (k mo : Nat) (bk : Bool) (hk : k < 13) (hm : mo < 13) (hKk : K k = bI bk) (h0 : 0 < V mo) (hA : V k * 2 ^ (28 * kD (V mo) - bl (V mo)) < vB ^ 74) (hV : ∀ n, n < 34 → V n < vLim) : Met l y_S_reduce (.code y_S_reduce c_S_reduce 3 none :: bg) ({ frames := 4, cells := 0, slots := 0, locals := 105 } : Room) (mP T (fF V) (fU V) K I O [.ref (wa T 89), .ref (wa T (68 + k)), .ref (wa T mo)]) (mQv T (fF (rdV V bk k mo)) (fU (rdV V bk k mo)) K I O) 0 0 (wA T) := by
  refine wM_v (by decide) (Nat.le_of_ble_eq_true rfl) ?_
  intro p e R s m args below meth c Q ls hx hb hC hRf hRl hret hl hw
  have hRf : 4 ≤ R.frames := hRf
  have hRl : 105 ≤ R.locals := hRl
  have hl : lv_has ls 3 [(0, .ref (wa T 89)), (1, .ref (wa T (68 + k))), (2, .ref (wa T mo))] := hl
  refine lv_aload_n hx hb d_S_reduce_0 rfl (lv_at hl 0 rfl) ?_
  refine wg_Residues_division hx hb hC hw bw_141 d_S_reduce_1 ?_
  refine lv_aload_n hx hb d_S_reduce_4 rfl (lv_at hl 1 rfl) ?_
  refine wg_Whole_size hx hb hC hw (by omega) bw_54 d_S_reduce_5 ?_
  refine lv_aload_n hx hb d_S_reduce_8 rfl (lv_at hl 2 rfl) ?_
  refine wcV_v (As := [.ref (wa T k), .ref (wa T mo)]) hx hb hC hw (k_D_run l T V K I O 1 k mo (by omega) (by omega) (by omega) (by omega) (by omega) hA hV) lk_S_34 rfl rfl ⟨by show 3 + 1 ≤ R.frames; omega, by show 8 + (6 + 11) + 80 ≤ R.locals; omega⟩ (by omega) (we_Division (by omega)) rfl rfl hl.1 rfl (Nat.le_of_ble_eq_true rfl) ⟨Nat.zero_le _, Nat.zero_le _⟩ d_S_reduce_9 (fun H locs hw => ?_)
  have hL := dvV_lim (V := V) (d := 1) (a := k) (b := mo) (by omega) (by omega) (by omega) hV
  refine lv_aload_n hx hb d_S_reduce_12 rfl (lv_at hl 0 rfl) ?_
  refine wg_Residues_found hx hb hC hw bw_137 d_S_reduce_13 ?_
  refine lv_aload_n hx hb d_S_reduce_16 rfl (lv_at hl 0 rfl) ?_
  refine wg_Residues_division hx hb hC hw bw_141 d_S_reduce_17 ?_
  refine wg_Division_rest (i := 1) hx hb hC hw (by omega) bw_94 d_S_reduce_20 ?_
  refine wcV_v (As := [.ref (wa T (14 + 3 * 1))]) hx hb hC hw (k_N_take l T (dvV V 1 k mo) K I O 26 (14 + 3 * 1) (by omega) (by omega) hL) lk_S_41 rfl rfl ⟨by show 1 + 1 ≤ R.frames; omega, by show 8 + (4 + 11) + 22 ≤ R.locals; omega⟩ (by omega) (we_Natural (by omega)) rfl rfl hl.1 rfl (Nat.le_of_ble_eq_true rfl) ⟨Nat.zero_le _, Nat.zero_le _⟩ d_S_reduce_23 (fun H locs hw => ?_)
  rw [dvV_rest] at hw
  have hL2 : ∀ n, n < 34 → va_up (dvV V 1 k mo) 26 (V k % V mo) n < vLim := hV_up hL (Nat.lt_of_le_of_lt (Nat.mod_le _ _) (hV k (by omega)))
  cases bk
  · refine lv_aload_n hx hb d_S_reduce_26 rfl (lv_at hl 1 rfl) ?_
    refine wg_Whole_below hx hb hC hw (by omega) bw_58 d_S_reduce_27 ?_
    refine sw_i (y := nI 0) (hKk) ?_
    refine n_if_eq (tgt := 55) hx hb d_S_reduce_30 (by decide) (by omega) (fun hw9 => ?_) (fun hw9 => ?_)
    · exact hret _ _ _ _ hw d_S_reduce_55
    · exact absurd hw9 (by decide)
  · refine lv_aload_n hx hb d_S_reduce_26 rfl (lv_at hl 1 rfl) ?_
    refine wg_Whole_below hx hb hC hw (by omega) bw_58 d_S_reduce_27 ?_
    refine sw_i (y := nI 1) (hKk) ?_
    refine n_if_eq (tgt := 55) hx hb d_S_reduce_30 (by decide) (by omega) (fun hw9 => ?_) (fun hw9 => ?_)
    · exact absurd hw9 (by decide)
    · refine lv_aload_n hx hb d_S_reduce_33 rfl (lv_at hl 0 rfl) ?_
      refine wg_Residues_found hx hb hC hw bw_137 d_S_reduce_34 ?_
      refine wcV_z (As := []) hx hb hC hw (k_N_isZero l T (va_up (dvV V 1 k mo) 26 (V k % V mo)) K I O 26 (by omega) hL2) lk_S_49 rfl rfl ⟨by show 0 + 1 ≤ R.frames; omega, by show 8 + (1 + 11) + 0 ≤ R.locals; omega⟩ (by omega) (we_Natural (by omega)) rfl rfl hl.1 rfl (Nat.le_of_ble_eq_true rfl) ⟨Nat.zero_le _, Nat.zero_le _⟩ d_S_reduce_37 (fun H locs hw => ?_)
      by_cases hz : (va_up (dvV V 1 k mo) 26 (V k % V mo)) 26 = 0
      · refine sw_i (y := nI 1) (by rw [if_pos hz]; rfl) ?_
        refine n_if_ne (tgt := 55) hx hb d_S_reduce_40 (by decide) (by omega) (fun hw9 => ?_) (fun hw9 => ?_)
        · rw [va_up_self] at hz
          have e9 : rdc true (V k) (V mo) = V k % V mo := by unfold rdc; rw [decide_eq_true hz]; rfl
          rw [← e9] at hw
          exact hret _ _ _ _ hw d_S_reduce_55
        · exact absurd hw9 (by decide)
      · refine sw_i (y := nI 0) (by rw [if_neg hz]; rfl) ?_
        refine n_if_ne (tgt := 55) hx hb d_S_reduce_40 (by decide) (by omega) (fun hw9 => ?_) (fun hw9 => ?_)
        · exact absurd hw9 (by decide)
        · rw [va_up_self] at hz
          have em : va_up (dvV V 1 k mo) 26 (V k % V mo) mo = V mo := by rw [va_up_ne _ _ (by omega)]; exact dvV_out (by omega)
          refine lv_aload_n hx hb d_S_reduce_43 rfl (lv_at hl 0 rfl) ?_
          refine wg_Residues_found hx hb hC hw bw_137 d_S_reduce_44 ?_
          refine lv_aload_n hx hb d_S_reduce_47 rfl (lv_at hl 2 rfl) ?_
          refine lv_aload_n hx hb d_S_reduce_48 rfl (lv_at hl 0 rfl) ?_
          refine wg_Residues_found hx hb hC hw bw_137 d_S_reduce_49 ?_
          refine wcV_v (As := [.ref (wa T mo), .ref (wa T 26)]) hx hb hC hw (k_N_takeDifference l T (va_up (dvV V 1 k mo) 26 (V k % V mo)) K I O 26 mo 26 (by omega) (by omega) (by omega) (by rw [em, va_up_self]; exact Nat.le_of_lt (Nat.mod_lt _ h0)) hL2) lk_S_53 rfl rfl ⟨by show 1 + 1 ≤ R.frames; omega, by show 8 + (7 + 11) + 22 ≤ R.locals; omega⟩ (by omega) (we_Natural (by omega)) rfl rfl hl.1 rfl (Nat.le_of_ble_eq_true rfl) ⟨Nat.zero_le _, Nat.zero_le _⟩ d_S_reduce_52 (fun H locs hw => ?_)
          rw [em, va_up_self, bx_uu] at hw
          have e9 : rdc true (V k) (V mo) = V mo - V k % V mo := by unfold rdc; rw [decide_eq_false hz]; rfl
          rw [← e9] at hw
          exact hret _ _ _ _ hw d_S_reduce_55
