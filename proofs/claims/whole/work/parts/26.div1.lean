/-! Division: contracts whose answer is told by a property -/
def mQlp (T : wT) (Pr : Int64 → Prop) (F : wFt) (U K : wUt) (I : wIt) (O : wOt) : Array Value → State → Outcome → State → Prop := va_Ql (fun x (_ : Unit) => Pr x) (fun _ t => wd T F U K I O t) (wA T)
section EP
variable {p : Program} {l : Launch} {e : Env} {R : Room} {s : State} {m : MethodId} {args : Array Value} {below : List Frame} {meth : Method} {c : Code} {H H0 : Heap} {locs : List Loc} {cells slots : Nat} {Q : State → Prop}
variable {cc : ByteArray} {pc maxL : Nat} {ls : Array Slot} {rest st0 As : List Value} {T : wT} {F F' : wFt} {U K U' K' : wUt} {I I' : wIt} {O O' : wOt} {A : Nat → Prop} {own : String}
variable {y : MethodName} {bytes : ByteArray} {mL n index k ci N : Nat} {fs : List Value} {Tt : u_T} {rm : Room} {Pr : Int64 → Prop}
theorem wM_lp (hpn : plainName y.cls = true) {av : List Value} (hav : (lg_sl av).length ≤ maxL)
    (body : ∀ (p : Program) (e : Env) (R : Room) (s : State) (m : MethodId) (args : Array Value) (below : List Frame) (meth : Method) (c : Code) (Q : State → Prop) (ls : Array Slot), p.tables.exec = Jvm.exec → c.code = cc → wC m c maxL s args y.cls → rm.frames ≤ R.frames → rm.locals ≤ R.locals →
      (∀ (r : Int64) (H : Heap) (locs : List Loc) (pc : Nat) (ls : Array Slot), Pr r → wH T F' U' K' I' O' (wA T) s s.heap H locs → decode cc pc = .ok (.lreturn, 1) → W p l e R s m args below meth c H locs 0 0 Q (F0 m pc ls [.long r])) →
      lv_has ls maxL (lv_args 0 av) → wH T F U K I O (wA T) s s.heap s.heap [] → W p l e R s m args below meth c s.heap [] 0 0 Q (F0 m 0 ls [])) :
    Met l y (.code y cc maxL (some .long) :: bg) rm (mP T F U K I O av) (mQlp T Pr F' U' K' I' O') 0 0 (wA T) := by
  refine Met.ofW (cc := cc) (maxL := maxL) (ret := some .long) hpn rfl ?_
  intro p e s m args below meth c s₁ B hml hv
  obtain ⟨rfl, hv⟩ := hv
  have hts := atoms_spec (ws := (.code y cc maxL (some .long) :: bg)) B.pre
  have hlocks := B.notSynchronized
  rw [lg_entry_eq]
  refine body p e _ s m _ below meth c _ _ B.exec B.bytes ⟨hml, fun w h => hts w (List.mem_cons_of_mem _ h), findClass_of_methodNamed B.named⟩ (Nat.le_refl _) (Nat.le_refl _) ?_ (lv_entry av hav) (wH.start hv)
  intro r H locs pc ls hP hw hd
  exact W.lret B.exec B.bytes B.returns (fun t ht hW => ⟨⟨r, (), rfl, hP, hw.stop ht hW.alike⟩, hw.2.2.2.1.F ht⟩) hw.2.2.2.1.2.2 hd hlocks
theorem wcV_lp (hx : p.tables.exec = Jvm.exec) (hb : c.code = cc) (hC : wC m c maxL s args own) (hw : wH T F U K I O A s H0 H locs)
    (hM : Met l y (.code y bytes mL (some .long) :: bg) rm (mP T F U K I O (.ref (wa T k) :: As)) (mQlp T Pr F' U' K' I' O') 0 0 (wA T)) (h : wLv own index y bytes mL (some .long) n) (hrc : rm.cells = 0) (hrs : rm.slots = 0) (hR : rm.frames + 1 ≤ R.frames ∧ 8 + (mL + 11) + rm.locals ≤ R.locals)
    (hk : k < 97) (he : wE T F U K I O k = .inr (ci, fs)) (hc : clS[ci]? = some (y.cls, Tt, N)) (hn : As.length = n) (hls : ls.size = maxL) (hst : st0 = As.reverse ++ .ref (wa T k) :: rest) (hW8 : (rest.map fun v => v.category).sum ≤ 8) (hf : cells ≤ R.cells ∧ slots ≤ R.slots) (hdg : decode cc pc = .ok (.invokevirtual index, 3))
    (kk : ∀ (r : Int64) (H1 : Heap) (locs1 : List Loc), Pr r → wH T F' U' K' I' O' A s H0 H1 locs1 → W p l e R s m args below meth c H1 locs1 cells slots Q (F0 m (pc + 3) ls (.long r :: rest))) : W p l e R s m args below meth c H locs cells slots Q (F0 m pc ls st0) := by
  refine va_calll (va_runV (C := y.cls) (As := As) (rest := rest) ⟨hx, hb, hC.1, hC.2.2, hC.2.1⟩ hM ⟨wc_B hC h.1 hrc hrs hR, hC.hts h.2.1, hC.hts h.2.2⟩ ⟨mP_blind, hw.recv hk he hc, hw.pre⟩ rfl hn hls hst (lv_room hW8) hdg hf) hw.2.2.2.1 (fun q _ h => wA_sub hw q h) (wA_sub hw) (fun r9 u t H1 locs1 ht hvm hp hB hz hk1 hS => ?_)
  exact kk r9 H1 locs1 hp (hw.back ht hvm hB hS)
end EP
/-! windows of limbs -/
def ta (f : Nat → Int64) (fr n X : Nat) (t : Int64) : Nat → Int64 := fun j => if fr ≤ j ∧ j < fr + n then fD X (j - fr) else if j = fr + n then t else f j
theorem ts_carry {h : Nat → Int64} {fr i : Nat} {t : Int64} {c x S : Int} (ht : t.toInt = c + x) (H : lm_ev b28 (fun j => nd h (fr + j)) i + c * b28 ^ i = S) :
    lm_ev b28 (fun j => nd (vp_updL h (fr + i) (t &&& 268435455)) (fr + j)) (i + 1) + (t >>> ((nI 28).toInt64 &&& 63)).toInt * b28 ^ (i + 1) = S + x * b28 ^ i := by
  have e3 : (t >>> ((nI 28).toInt64 &&& 63)).toInt = t.toInt / 268435456 := lj_shr28 t
  rw [e3]
  refine lm_step b28_pos ?_ x ht ?_
  · rw [← H]; congr 1; exact lm_congr (fun j hj => nd_updN (by omega))
  · show nd _ (fr + i) = _
    rw [nd_upd, lj_and28]
theorem ts_in {h : Nat → Int64} {fr i : Nat} {t : Int64} (hd : ∀ j, j < i → 0 ≤ nd h (fr + j) ∧ nd h (fr + j) < b28) : ∀ j, j < i + 1 → 0 ≤ nd (vp_updL h (fr + i) (t &&& 268435455)) (fr + j) ∧ nd (vp_updL h (fr + i) (t &&& 268435455)) (fr + j) < b28 := by
  intro j hj
  by_cases e : j = i
  · rw [e, nd_upd]; exact nd_and t
  · rw [nd_updN (by omega)]; exact hd j (by omega)
/-- lower limbs by a number, the top limb by what is left -/
theorem ta_end {h f : Nat → Int64} {fr n X : Nat} {t z : Int64} (hd : ∀ j, j < n → 0 ≤ nd h (fr + j) ∧ nd h (fr + j) < b28) {c D : Int} (he : lm_ev b28 (fun j => nd h (fr + j)) n + c * b28 ^ n = D) (hX : X < vB ^ n) (hD : (X : Int) + t.toInt * b28 ^ n = D + z.toInt * b28 ^ n) (hc : (z.toInt + c = (z.toInt + c))) (ho : ∀ j, (j < fr ∨ fr + n ≤ j) → h j = f j) :
    t.toInt = z.toInt + c ∧ ∀ j, j ≠ fr + n → h j = ta f fr n X t j := by
  have hp := lm_powpos b28_pos n
  have h1 := lm_nonneg b28_pos (f := fun j => nd h (fr + j)) (n := n) (fun j hj => (hd j hj).1)
  have h2 := lm_lt b28_pos (f := fun j => nd h (fr + j)) (n := n) (fun j hj => (hd j hj).2)
  have h3 : (X : Int) < b28 ^ n := by rw [← vB_c, ← Int.natCast_pow]; exact Int.ofNat_lt.mpr hX
  have e1 : t.toInt = z.toInt + c := by
    have e2 : (t.toInt - z.toInt - c) * b28 ^ n = lm_ev b28 (fun j => nd h (fr + j)) n - X := by grind
    by_cases e0 : t.toInt - z.toInt - c = 0
    · omega
    · exfalso
      rcases (show t.toInt - z.toInt - c ≥ 1 ∨ t.toInt - z.toInt - c ≤ -1 by omega) with g | g
      · have := Int.mul_le_mul_of_nonneg_right g (Int.le_of_lt hp); omega
      · have := Int.mul_le_mul_of_nonneg_right g (Int.le_of_lt hp); omega
  have e4 : lm_ev b28 (fun j => nd h (fr + j)) n = (X : Int) := by rw [e1] at hD; grind
  refine ⟨e1, fun j hj => ?_⟩
  unfold ta
  by_cases e5 : fr ≤ j ∧ j < fr + n
  · rw [if_pos e5]
    have := fD_uniq (f := fun k => h (fr + k)) hd e4 (j := j - fr) (by omega)
    rw [← this, show fr + (j - fr) = j by omega]
  · rw [if_neg e5, if_neg hj]; exact ho j (by omega)
theorem da_step {h : Nat → Int64} {fr i : Nat} {c d g b t : Int64} {S : Int} (hc : -268435456 ≤ c.toInt ∧ c.toInt ≤ 0) (hd : 0 ≤ d.toInt ∧ d.toInt < 268435456) (hg : 0 ≤ g.toInt ∧ g.toInt < 268435456) (hb : 0 ≤ b.toInt ∧ b.toInt < 268435456) (ht : t = c + (d - g * b)) (H : lm_ev b28 (fun j => nd h (fr + j)) i + c.toInt * b28 ^ i = S) :
    (-268435456 ≤ (t >>> ((nI 28).toInt64 &&& 63)).toInt ∧ (t >>> ((nI 28).toInt64 &&& 63)).toInt ≤ 0) ∧ lm_ev b28 (fun j => nd (vp_updL h (fr + i) (t &&& 268435455)) (fr + j)) (i + 1) + (t >>> ((nI 28).toInt64 &&& 63)).toInt * b28 ^ (i + 1) = S + (d.toInt - g.toInt * b.toInt) * b28 ^ i := by
  have hm := lm_mulbd hg.1 hb.1 (show g.toInt ≤ 268435455 by omega) (show b.toInt ≤ 268435455 by omega)
  have e0 : (g * b).toInt = g.toInt * b.toInt := lj_mul (by omega) (by omega)
  have e1 : (d - g * b).toInt = d.toInt - g.toInt * b.toInt := by rw [lj_sub (by rw [e0]; omega) (by rw [e0]; omega), e0]
  have e2 : t.toInt = c.toInt + (d.toInt - g.toInt * b.toInt) := by rw [ht, lj_add (by rw [e1]; omega) (by rw [e1]; omega), e1]
  refine ⟨?_, ts_carry e2 H⟩
  have e3 : (t >>> ((nI 28).toInt64 &&& 63)).toInt = t.toInt / 268435456 := lj_shr28 t
  rw [e3, e2]; omega
theorem db_step {h : Nat → Int64} {fr i : Nat} {c d b t : Int64} {S : Int} (hc : 0 ≤ c.toInt ∧ c.toInt ≤ 1) (hd : 0 ≤ d.toInt ∧ d.toInt < 268435456) (hb : 0 ≤ b.toInt ∧ b.toInt < 268435456) (ht : t = c + (d + b)) (H : lm_ev b28 (fun j => nd h (fr + j)) i + c.toInt * b28 ^ i = S) :
    (0 ≤ (t >>> ((nI 28).toInt64 &&& 63)).toInt ∧ (t >>> ((nI 28).toInt64 &&& 63)).toInt ≤ 1) ∧ lm_ev b28 (fun j => nd (vp_updL h (fr + i) (t &&& 268435455)) (fr + j)) (i + 1) + (t >>> ((nI 28).toInt64 &&& 63)).toInt * b28 ^ (i + 1) = S + (d.toInt + b.toInt) * b28 ^ i := by
  have e1 : (d + b).toInt = d.toInt + b.toInt := lj_add (by omega) (by omega)
  have e2 : t.toInt = c.toInt + (d.toInt + b.toInt) := by rw [ht, lj_add (by rw [e1]; omega) (by rw [e1]; omega), e1]
  refine ⟨?_, ts_carry e2 H⟩
  have e3 : (t >>> ((nI 28).toInt64 &&& 63)).toInt = t.toInt / 268435456 := lj_shr28 t
  rw [e3, e2]; omega

set_option maxRecDepth 100000 in
set_option maxHeartbeats 4000000 in
theorem k_D_takeAway (l : Launch) (T : wT) (F : wFt) (U K : wUt) (I : wIt) (O : wOt) (d fr n v X : Nat) (t : Int64) (hd3 : d < 3) (hn : n ≤ 74) (hfr : fr + n ≤ 74) (hU : U (15 + 3 * d) = nI n) (hv : v < vB ^ n) (hL : ∀ j, F (15 + 3 * d) j = fD v j) (g D : Nat) (hg : g < 268435456) (hdg : ∀ j, j ≤ n → 0 ≤ nd (F (14 + 3 * d)) (fr + j) ∧ nd (F (14 + 3 * d)) (fr + j) < b28) (hD : lm_ev b28 (fun j => nd (F (14 + 3 * d)) (fr + j)) (n + 1) = (D : Int)) (hX : X < vB ^ n) (he : (X : Int) + t.toInt * b28 ^ n = (D : Int) - (g : Int) * (v : Int)) : Met l y_D_takeAway (.code y_D_takeAway c_D_takeAway 10 (some .boolean) :: bg) ({ frames := 0, cells := 0, slots := 0, locals := 0 } : Room) (mP T F U K I O [.ref (wa T (81 + d)), .int (nI fr), .long (lN g)]) (mQi T (if 0 ≤ t.toInt then (1 : Int32) else 0) (va_up F (14 + 3 * d) (ta (F (14 + 3 * d)) fr n X t)) U K I O) 0 0 (wA T) := by
  refine wM_z (by decide) (Nat.le_of_ble_eq_true rfl) (zN _) ?_
  intro p e R s m args below meth c Q ls hx hb hC hRf hRl hret hl hw
  have hRf : 0 ≤ R.frames := hRf
  have hRl : 0 ≤ R.locals := hRl
  have hl : lv_has ls 10 [(0, .ref (wa T (81 + d))), (1, .int (nI fr)), (2, .long (lN g))] := hl
  have eg : (lN g).toInt = (g : Int) := lj_lN (by omega)
  refine lv_aload_n hx hb d_D_takeAway_0 rfl (lv_at hl 0 rfl) ?_
  refine wg_Division_rest hx hb hC hw (by omega) bw_93 d_D_takeAway_1 ?_
  refine wg_Natural_limbs hx hb hC hw (by omega) bw_44 d_D_takeAway_4 ?_
  refine lv_astore hx hb d_D_takeAway_7 hl (by decide) rfl (fun ls hl => ?_)
  have hl : lv_has ls 10 [(4, .ref (wa T (34 + (14 + 3 * d)))), (0, .ref (wa T (81 + d))), (1, .int (nI fr)), (2, .long (lN g))] := hl
  refine lv_aload_n hx hb d_D_takeAway_9 rfl (lv_at hl 1 rfl) ?_
  refine wg_Division_lifted hx hb hC hw (by omega) bw_97 d_D_takeAway_10 ?_
  refine wg_Natural_limbs hx hb hC hw (by omega) bw_44 d_D_takeAway_13 ?_
  refine lv_astore hx hb d_D_takeAway_16 hl (by decide) rfl (fun ls hl => ?_)
  have hl : lv_has ls 10 [(5, .ref (wa T (34 + (15 + 3 * d)))), (4, .ref (wa T (34 + (14 + 3 * d)))), (0, .ref (wa T (81 + d))), (1, .int (nI fr)), (2, .long (lN g))] := hl
  refine lv_aload_n hx hb d_D_takeAway_18 rfl (lv_at hl 2 rfl) ?_
  refine wg_Division_lifted hx hb hC hw (by omega) bw_97 d_D_takeAway_19 ?_
  refine wg_Natural_used hx hb hC hw (by omega) bw_46 d_D_takeAway_22 ?_
  refine sw_i (y := nI n) (hU) ?_
  refine lv_istore hx hb d_D_takeAway_25 hl (by decide) rfl (fun ls hl => ?_)
  have hl : lv_has ls 10 [(6, .int (nI n)), (5, .ref (wa T (34 + (15 + 3 * d)))), (4, .ref (wa T (34 + (14 + 3 * d)))), (0, .ref (wa T (81 + d))), (1, .int (nI fr)), (2, .long (lN g))] := hl
  refine lv_lconst (v := 0) hx hb d_D_takeAway_27 (by decide +kernel) ?_
  refine lv_lstore hx hb d_D_takeAway_28 hl (by decide) rfl (fun ls hl => ?_)
  have hl : lv_has ls 10 [(7, .long (0 : Int64)), (6, .int (nI n)), (5, .ref (wa T (34 + (15 + 3 * d)))), (4, .ref (wa T (34 + (14 + 3 * d)))), (0, .ref (wa T (81 + d))), (1, .int (nI fr)), (2, .long (lN g))] := hl
  refine lv_iconst (v := nI 0) hx hb d_D_takeAway_30 (by decide +kernel) ?_
  refine lv_istore hx hb d_D_takeAway_31 hl (by decide) rfl (fun ls hl => ?_)
  have hl : lv_has ls 10 [(9, .int (nI 0)), (7, .long (0 : Int64)), (6, .int (nI n)), (5, .ref (wa T (34 + (15 + 3 * d)))), (4, .ref (wa T (34 + (14 + 3 * d)))), (0, .ref (wa T (81 + d))), (1, .int (nI fr)), (2, .long (lN g))] := hl
  rw [← va_upx F (14 + 3 * d)] at hw
  have lp : ∀ (z9 i : Nat) (f : Nat → Int64) (cy : Int64) (ls : Array Slot) (H : Heap) (locs : List Loc), n - i = z9 → i ≤ n → (-268435456 ≤ cy.toInt ∧ cy.toInt ≤ 0) → (lm_ev b28 (fun j => nd f (fr + j)) i + cy.toInt * b28 ^ i = lm_ev b28 (fun j => nd (F (14 + 3 * d)) (fr + j)) i - (g : Int) * lm_ev b28 (nd (fD v)) i) → (∀ j, j < i → 0 ≤ nd f (fr + j) ∧ nd f (fr + j) < b28) → (∀ j, (j < fr ∨ fr + i ≤ j) → f j = F (14 + 3 * d) j) →  lv_has ls 10 [(9, .int (nI i)), (7, .long cy), (6, .int (nI n)), (5, .ref (wa T (34 + (15 + 3 * d)))), (4, .ref (wa T (34 + (14 + 3 * d)))), (0, .ref (wa T (81 + d))), (1, .int (nI fr)), (2, .long (lN g))] → wH T (va_up F (14 + 3 * d) f) U K I O (wA T) s s.heap H locs → W p l e R s m args below meth c H locs 0 0 Q (F0 m 33 ls []) := by
    intro z9
    induction z9 with
    | zero =>
      intro i f cy ls H locs hn hle h1 h2 h3 h4 hl hw
      refine lv_iload hx hb d_D_takeAway_33 (lv_at hl 0 rfl) ?_
      refine lv_iload hx hb d_D_takeAway_35 (lv_at hl 2 rfl) ?_
      refine n_icmp_ge (tgt := 86) hx hb d_D_takeAway_37 (by decide) (by omega) (by omega) (fun h0 => ?_) (fun h0 => ?_)
      · have e9 : n = i := by omega
        subst e9
        have ev0 : lm_ev b28 (nd (fD v)) n = (v : Int) := by rw [fD_ev, Nat.mod_eq_of_lt hv]
        have hz := hdg n (Nat.le_refl n)
        rw [lm_evs] at hD
        obtain ⟨q1, q2⟩ := ta_end (t := t) (z := F (14 + 3 * d) (fr + n)) h3 h2 hX (by rw [ev0]; have h9 : lm_ev b28 (fun j => nd (F (14 + 3 * d)) (fr + j)) n + nd (F (14 + 3 * d)) (fr + n) * b28 ^ n = (D : Int) := hD; show (X : Int) + t.toInt * b28 ^ n = _ + nd (F (14 + 3 * d)) (fr + n) * b28 ^ n; rw [he, ← h9]; grind) rfl h4
        have q3 : F (14 + 3 * d) (fr + n) + cy = t := lj_inj (by
          have h9 : 0 ≤ (F (14 + 3 * d) (fr + n)).toInt ∧ (F (14 + 3 * d) (fr + n)).toInt < 268435456 := hz
          rw [lj_add (by omega) (by omega), q1])
        refine lv_aload hx hb d_D_takeAway_86 (lv_at hl 4 rfl) ?_
        refine lv_iload_n hx hb d_D_takeAway_88 rfl (lv_at hl 6 rfl) ?_
        refine lv_iload hx hb d_D_takeAway_89 (lv_at hl 2 rfl) ?_
        refine n_iadd hx hb d_D_takeAway_91 ?_
        refine lv_dup2_11 hx hb d_D_takeAway_92 rfl rfl ?_
        refine wl_limbs hx hb hw (by omega) (by omega) d_D_takeAway_93 ?_
        refine sw_l (y := F (14 + 3 * d) (fr + n)) (by rw [va_up_self]; exact h4 _ (by omega)) ?_
        refine lv_lload hx hb d_D_takeAway_94 (lv_at hl 1 rfl) ?_
        refine lv_ladd hx hb d_D_takeAway_96 ?_
        refine sw_l (y := t) (q3) ?_
        refine ws_limbs hx hb hw (by omega) (by omega) d_D_takeAway_97 (fun H locs hw => ?_)
        rw [bx_uu, va_up_self] at hw
        have hw := wH.canon (g := ta (F (14 + 3 * d)) fr n X t) (by omega) hw (fun j _ => by
          by_cases ej : j = fr + n
          · rw [ej, pk_uLs]; unfold ta; rw [if_neg (by omega), if_pos rfl]
          · rw [pk_uLn ej]; exact q2 j ej)
        refine lv_aload hx hb d_D_takeAway_98 (lv_at hl 4 rfl) ?_
        refine lv_iload_n hx hb d_D_takeAway_100 rfl (lv_at hl 6 rfl) ?_
        refine lv_iload hx hb d_D_takeAway_101 (lv_at hl 2 rfl) ?_
        refine n_iadd hx hb d_D_takeAway_103 ?_
        refine wl_limbs hx hb hw (by omega) (by omega) d_D_takeAway_104 ?_
        refine sw_l (y := t) (by rw [va_up_self]; unfold ta; rw [if_neg (by omega), if_pos rfl]) ?_
        refine lv_lconst (v := 0) hx hb d_D_takeAway_105 (by decide +kernel) ?_
        refine lc_lt (tgt := 114) hx hb d_D_takeAway_106 d_D_takeAway_107 (by decide) (fun h8 => ?_) (fun h8 => ?_)
        · refine lv_iconst (v := nI 0) hx hb d_D_takeAway_114 (by decide +kernel) ?_
          refine sw_i (y := (if 0 ≤ t.toInt then (1 : Int32) else 0)) (by rw [lj_0] at h8; rw [if_neg (by omega)]; rfl) ?_
          exact hret _ _ _ _ hw d_D_takeAway_115
        · refine lv_iconst (v := nI 1) hx hb d_D_takeAway_110 (by decide +kernel) ?_
          refine lv_goto (tgt := 115) hx hb d_D_takeAway_111 (by decide) ?_
          refine sw_i (y := (if 0 ≤ t.toInt then (1 : Int32) else 0)) (by rw [lj_0] at h8; rw [if_pos (by omega)]; rfl) ?_
          exact hret _ _ _ _ hw d_D_takeAway_115
      · exact absurd h0 (by omega)
    | succ z9 ih =>
      intro i f cy ls H locs hn hle h1 h2 h3 h4 hl hw
      refine lv_iload hx hb d_D_takeAway_33 (lv_at hl 0 rfl) ?_
      refine lv_iload hx hb d_D_takeAway_35 (lv_at hl 2 rfl) ?_
      refine n_icmp_ge (tgt := 86) hx hb d_D_takeAway_37 (by decide) (by omega) (by omega) (fun h0 => ?_) (fun h0 => ?_)
      · exact absurd h0 (by omega)
      · refine lv_lload hx hb d_D_takeAway_40 (lv_at hl 1 rfl) ?_
        refine lv_aload hx hb d_D_takeAway_42 (lv_at hl 4 rfl) ?_
        refine lv_iload_n hx hb d_D_takeAway_44 rfl (lv_at hl 6 rfl) ?_
        refine lv_iload hx hb d_D_takeAway_45 (lv_at hl 0 rfl) ?_
        refine n_iadd hx hb d_D_takeAway_47 ?_
        refine wl_limbs hx hb hw (by omega) (by omega) d_D_takeAway_48 ?_
        refine sw_l (y := F (14 + 3 * d) (fr + i)) (by rw [va_up_self]; exact h4 _ (by omega)) ?_
        refine lv_lload_n hx hb d_D_takeAway_49 rfl (lv_at hl 7 rfl) ?_
        refine lv_aload hx hb d_D_takeAway_50 (lv_at hl 3 rfl) ?_
        refine lv_iload hx hb d_D_takeAway_52 (lv_at hl 0 rfl) ?_
        refine wl_limbs hx hb hw (by omega) (by omega) d_D_takeAway_54 ?_
        refine sw_l (y := fD v i) (by rw [va_up_ne _ _ (by omega)]; exact hL i) ?_
        refine lv_lmul hx hb d_D_takeAway_55 ?_
        refine lv_lsub hx hb d_D_takeAway_56 ?_
        refine lv_ladd hx hb d_D_takeAway_57 ?_
        refine lv_topl (fun t9 et => ?_)
        refine lv_lstore hx hb d_D_takeAway_58 hl (by decide) rfl (fun ls hl => ?_)
        have hl : lv_has ls 10 [(7, .long t9), (9, .int (nI i)), (6, .int (nI n)), (5, .ref (wa T (34 + (15 + 3 * d)))), (4, .ref (wa T (34 + (14 + 3 * d)))), (0, .ref (wa T (81 + d))), (1, .int (nI fr)), (2, .long (lN g))] := hl
        refine lv_aload hx hb d_D_takeAway_60 (lv_at hl 4 rfl) ?_
        refine lv_iload_n hx hb d_D_takeAway_62 rfl (lv_at hl 6 rfl) ?_
        refine lv_iload hx hb d_D_takeAway_63 (lv_at hl 1 rfl) ?_
        refine n_iadd hx hb d_D_takeAway_65 ?_
        refine lv_lload hx hb d_D_takeAway_66 (lv_at hl 0 rfl) ?_
        refine lv_ldc2 (v := 268435455) hx hb hC.ow (hC.hts bw_488) d_D_takeAway_68 ?_
        refine lv_land hx hb d_D_takeAway_71 ?_
        refine ws_limbs hx hb hw (by omega) (by omega) d_D_takeAway_72 (fun H locs hw => ?_)
        refine lv_lload hx hb d_D_takeAway_73 (lv_at hl 0 rfl) ?_
        refine lv_bipush (v := nI 28) hx hb d_D_takeAway_75 (by decide +kernel) ?_
        refine lv_lshr hx hb d_D_takeAway_77 rfl ?_
        refine lv_lstore hx hb d_D_takeAway_78 hl (by decide) rfl (fun ls hl => ?_)
        have hl : lv_has ls 10 [(7, .long (t9 >>> ((nI 28).toInt64 &&& 63))), (9, .int (nI i)), (6, .int (nI n)), (5, .ref (wa T (34 + (15 + 3 * d)))), (4, .ref (wa T (34 + (14 + 3 * d)))), (0, .ref (wa T (81 + d))), (1, .int (nI fr)), (2, .long (lN g))] := hl
        refine lv_iinc (v := nI (i + 1)) hx hb d_D_takeAway_80 hl (k := 1) rfl (nI_add _ 1) (by decide) rfl (fun ls hl => ?_)
        have hl : lv_has ls 10 [(9, .int (nI (i + 1))), (7, .long (t9 >>> ((nI 28).toInt64 &&& 63))), (6, .int (nI n)), (5, .ref (wa T (34 + (15 + 3 * d)))), (4, .ref (wa T (34 + (14 + 3 * d)))), (0, .ref (wa T (81 + d))), (1, .int (nI fr)), (2, .long (lN g))] := hl
        refine lv_goto (tgt := 33) hx hb d_D_takeAway_83 (by decide) ?_
        rw [bx_uu, va_up_self] at hw
        have q := da_step h1 (hdg i (by omega)) (by rw [eg]; omega) (fD_in v i) et h2
        exact ih (i + 1) _ _ ls H locs (by omega) (by omega) q.1 (q.2.trans (by rw [lm_evs, lm_evs, eg]; show _ + (nd (F (14 + 3 * d)) (fr + i) - (g : Int) * nd (fD v) i) * _ = _; grind)) (ts_in h3) (fun j hj => by rw [pk_uLn (by omega)]; exact h4 j (by omega)) hl hw
  exact lp n 0 (F (14 + 3 * d)) 0 ls _ _ (by omega) (by omega) (by decide +kernel) (by rw [lm_ev0, lm_ev0, lj_0]; simp) (fun j h => absurd h (by omega)) (fun _ _ => rfl) hl hw
set_option maxRecDepth 100000 in
set_option maxHeartbeats 4000000 in
theorem k_D_putBack (l : Launch) (T : wT) (F : wFt) (U K : wUt) (I : wIt) (O : wOt) (d fr n v X : Nat) (t : Int64) (hd3 : d < 3) (hn : n ≤ 74) (hfr : fr + n ≤ 74) (hU : U (15 + 3 * d) = nI n) (hv : v < vB ^ n) (hL : ∀ j, F (15 + 3 * d) j = fD v j) (X0 : Nat) (t0 : Int64) (hX0 : X0 < vB ^ n) (hlow : ∀ j, j < n → F (14 + 3 * d) (fr + j) = fD X0 j) (htop : F (14 + 3 * d) (fr + n) = t0) (ht0 : -2 ≤ t0.toInt ∧ t0.toInt ≤ 268435456) (hX : X < vB ^ n) (he : (X : Int) + t.toInt * b28 ^ n = (X0 : Int) + t0.toInt * b28 ^ n + (v : Int)) : Met l y_D_putBack (.code y_D_putBack c_D_putBack 6 none :: bg) ({ frames := 0, cells := 0, slots := 0, locals := 0 } : Room) (mP T F U K I O [.ref (wa T (81 + d)), .int (nI fr)]) (mQv T (va_up F (14 + 3 * d) (ta (F (14 + 3 * d)) fr n X t)) U K I O) 0 0 (wA T) := by
  refine wM_v (by decide) (Nat.le_of_ble_eq_true rfl) ?_
  intro p e R s m args below meth c Q ls hx hb hC hRf hRl hret hl hw
  have hRf : 0 ≤ R.frames := hRf
  have hRl : 0 ≤ R.locals := hRl
  have hl : lv_has ls 6 [(0, .ref (wa T (81 + d))), (1, .int (nI fr))] := hl
  refine lv_aload_n hx hb d_D_putBack_0 rfl (lv_at hl 0 rfl) ?_
  refine wg_Division_lifted hx hb hC hw (by omega) bw_97 d_D_putBack_1 ?_
  refine wg_Natural_used hx hb hC hw (by omega) bw_46 d_D_putBack_4 ?_
  refine sw_i (y := nI n) (hU) ?_
  refine lv_istore_n hx hb d_D_putBack_7 rfl hl (by decide) rfl (fun ls hl => ?_)
  have hl : lv_has ls 6 [(2, .int (nI n)), (0, .ref (wa T (81 + d))), (1, .int (nI fr))] := hl
  refine lv_lconst (v := 0) hx hb d_D_putBack_8 (by decide +kernel) ?_
  refine lv_lstore_n hx hb d_D_putBack_9 rfl hl (by decide) rfl (fun ls hl => ?_)
  have hl : lv_has ls 6 [(3, .long (0 : Int64)), (2, .int (nI n)), (0, .ref (wa T (81 + d))), (1, .int (nI fr))] := hl
  refine lv_iconst (v := nI 0) hx hb d_D_putBack_10 (by decide +kernel) ?_
  refine lv_istore hx hb d_D_putBack_11 hl (by decide) rfl (fun ls hl => ?_)
  have hl : lv_has ls 6 [(5, .int (nI 0)), (3, .long (0 : Int64)), (2, .int (nI n)), (0, .ref (wa T (81 + d))), (1, .int (nI fr))] := hl
  rw [← va_upx F (14 + 3 * d)] at hw
  have lp : ∀ (z9 i : Nat) (f : Nat → Int64) (cy : Int64) (ls : Array Slot) (H : Heap) (locs : List Loc), n - i = z9 → i ≤ n → (0 ≤ cy.toInt ∧ cy.toInt ≤ 1) → (lm_ev b28 (fun j => nd f (fr + j)) i + cy.toInt * b28 ^ i = lm_ev b28 (nd (fD X0)) i + lm_ev b28 (nd (fD v)) i) → (∀ j, j < i → 0 ≤ nd f (fr + j) ∧ nd f (fr + j) < b28) → (∀ j, (j < fr ∨ fr + i ≤ j) → f j = F (14 + 3 * d) j) →  lv_has ls 6 [(5, .int (nI i)), (3, .long cy), (2, .int (nI n)), (0, .ref (wa T (81 + d))), (1, .int (nI fr))] → wH T (va_up F (14 + 3 * d) f) U K I O (wA T) s s.heap H locs → W p l e R s m args below meth c H locs 0 0 Q (F0 m 13 ls []) := by
    intro z9
    induction z9 with
    | zero =>
      intro i f cy ls H locs hn hle h1 h2 h3 h4 hl hw
      refine lv_iload hx hb d_D_putBack_13 (lv_at hl 0 rfl) ?_
      refine lv_iload_n hx hb d_D_putBack_15 rfl (lv_at hl 2 rfl) ?_
      refine n_icmp_ge (tgt := 73) hx hb d_D_putBack_16 (by decide) (by omega) (by omega) (fun h0 => ?_) (fun h0 => ?_)
      · have e9 : n = i := by omega
        subst e9
        have ev0 : lm_ev b28 (nd (fD v)) n = (v : Int) := by rw [fD_ev, Nat.mod_eq_of_lt hv]
        have ev1 : lm_ev b28 (nd (fD X0)) n = (X0 : Int) := by rw [fD_ev, Nat.mod_eq_of_lt hX0]
        obtain ⟨q1, q2⟩ := ta_end (t := t) (z := t0) h3 h2 hX (by rw [ev0, ev1, he]; grind) rfl h4
        have q3 : t0 + cy = t := lj_inj (by rw [lj_add (by omega) (by omega), q1])
        refine lv_aload_n hx hb d_D_putBack_73 rfl (lv_at hl 3 rfl) ?_
        refine wg_Division_rest hx hb hC hw (by omega) bw_93 d_D_putBack_74 ?_
        refine wg_Natural_limbs hx hb hC hw (by omega) bw_44 d_D_putBack_77 ?_
        refine lv_iload_n hx hb d_D_putBack_80 rfl (lv_at hl 4 rfl) ?_
        refine lv_iload_n hx hb d_D_putBack_81 rfl (lv_at hl 2 rfl) ?_
        refine n_iadd hx hb d_D_putBack_82 ?_
        refine lv_dup2_11 hx hb d_D_putBack_83 rfl rfl ?_
        refine wl_limbs hx hb hw (by omega) (by omega) d_D_putBack_84 ?_
        refine sw_l (y := t0) (by rw [va_up_self, h4 _ (by omega)]; exact htop) ?_
        refine lv_lload_n hx hb d_D_putBack_85 rfl (lv_at hl 1 rfl) ?_
        refine lv_ladd hx hb d_D_putBack_86 ?_
        refine sw_l (y := t) (q3) ?_
        refine ws_limbs hx hb hw (by omega) (by omega) d_D_putBack_87 (fun H locs hw => ?_)
        rw [bx_uu, va_up_self] at hw
        have hw := wH.canon (g := ta (F (14 + 3 * d)) fr n X t) (by omega) hw (fun j _ => by
          by_cases ej : j = fr + n
          · rw [ej, pk_uLs]; unfold ta; rw [if_neg (by omega), if_pos rfl]
          · rw [pk_uLn ej]; exact q2 j ej)
        exact hret _ _ _ _ hw d_D_putBack_88
      · exact absurd h0 (by omega)
    | succ z9 ih =>
      intro i f cy ls H locs hn hle h1 h2 h3 h4 hl hw
      refine lv_iload hx hb d_D_putBack_13 (lv_at hl 0 rfl) ?_
      refine lv_iload_n hx hb d_D_putBack_15 rfl (lv_at hl 2 rfl) ?_
      refine n_icmp_ge (tgt := 73) hx hb d_D_putBack_16 (by decide) (by omega) (by omega) (fun h0 => ?_) (fun h0 => ?_)
      · exact absurd h0 (by omega)
      · refine lv_lload_n hx hb d_D_putBack_19 rfl (lv_at hl 1 rfl) ?_
        refine lv_aload_n hx hb d_D_putBack_20 rfl (lv_at hl 3 rfl) ?_
        refine wg_Division_rest hx hb hC hw (by omega) bw_93 d_D_putBack_21 ?_
        refine wg_Natural_limbs hx hb hC hw (by omega) bw_44 d_D_putBack_24 ?_
        refine lv_iload_n hx hb d_D_putBack_27 rfl (lv_at hl 4 rfl) ?_
        refine lv_iload hx hb d_D_putBack_28 (lv_at hl 0 rfl) ?_
        refine n_iadd hx hb d_D_putBack_30 ?_
        refine wl_limbs hx hb hw (by omega) (by omega) d_D_putBack_31 ?_
        refine sw_l (y := fD X0 i) (by rw [va_up_self, h4 _ (by omega)]; exact hlow i (by omega)) ?_
        refine lv_aload_n hx hb d_D_putBack_32 rfl (lv_at hl 3 rfl) ?_
        refine wg_Division_lifted hx hb hC hw (by omega) bw_97 d_D_putBack_33 ?_
        refine wg_Natural_limbs hx hb hC hw (by omega) bw_44 d_D_putBack_36 ?_
        refine lv_iload hx hb d_D_putBack_39 (lv_at hl 0 rfl) ?_
        refine wl_limbs hx hb hw (by omega) (by omega) d_D_putBack_41 ?_
        refine sw_l (y := fD v i) (by rw [va_up_ne _ _ (by omega)]; exact hL i) ?_
        refine lv_ladd hx hb d_D_putBack_42 ?_
        refine lv_ladd hx hb d_D_putBack_43 ?_
        refine lv_topl (fun t9 et => ?_)
        refine lv_lstore_n hx hb d_D_putBack_44 rfl hl (by decide) rfl (fun ls hl => ?_)
        have hl : lv_has ls 6 [(3, .long t9), (5, .int (nI i)), (2, .int (nI n)), (0, .ref (wa T (81 + d))), (1, .int (nI fr))] := hl
        refine lv_aload_n hx hb d_D_putBack_45 rfl (lv_at hl 3 rfl) ?_
        refine wg_Division_rest hx hb hC hw (by omega) bw_93 d_D_putBack_46 ?_
        refine wg_Natural_limbs hx hb hC hw (by omega) bw_44 d_D_putBack_49 ?_
        refine lv_iload_n hx hb d_D_putBack_52 rfl (lv_at hl 4 rfl) ?_
        refine lv_iload hx hb d_D_putBack_53 (lv_at hl 1 rfl) ?_
        refine n_iadd hx hb d_D_putBack_55 ?_
        refine lv_lload_n hx hb d_D_putBack_56 rfl (lv_at hl 0 rfl) ?_
        refine lv_ldc2 (v := 268435455) hx hb hC.ow (hC.hts bw_488) d_D_putBack_57 ?_
        refine lv_land hx hb d_D_putBack_60 ?_
        refine ws_limbs hx hb hw (by omega) (by omega) d_D_putBack_61 (fun H locs hw => ?_)
        refine lv_lload_n hx hb d_D_putBack_62 rfl (lv_at hl 0 rfl) ?_
        refine lv_bipush (v := nI 28) hx hb d_D_putBack_63 (by decide +kernel) ?_
        refine lv_lshr hx hb d_D_putBack_65 rfl ?_
        refine lv_lstore_n hx hb d_D_putBack_66 rfl hl (by decide) rfl (fun ls hl => ?_)
        have hl : lv_has ls 6 [(3, .long (t9 >>> ((nI 28).toInt64 &&& 63))), (5, .int (nI i)), (2, .int (nI n)), (0, .ref (wa T (81 + d))), (1, .int (nI fr))] := hl
        refine lv_iinc (v := nI (i + 1)) hx hb d_D_putBack_67 hl (k := 1) rfl (nI_add _ 1) (by decide) rfl (fun ls hl => ?_)
        have hl : lv_has ls 6 [(5, .int (nI (i + 1))), (3, .long (t9 >>> ((nI 28).toInt64 &&& 63))), (2, .int (nI n)), (0, .ref (wa T (81 + d))), (1, .int (nI fr))] := hl
        refine lv_goto (tgt := 13) hx hb d_D_putBack_70 (by decide) ?_
        rw [bx_uu, va_up_self] at hw
        have q := db_step h1 (fD_in X0 i) (fD_in v i) et h2
        exact ih (i + 1) _ _ ls H locs (by omega) (by omega) q.1 (q.2.trans (lm_add2 rfl)) (ts_in h3) (fun j hj => by rw [pk_uLn (by omega)]; exact h4 j (by omega)) hl hw
  exact lp n 0 (F (14 + 3 * d)) 0 ls _ _ (by omega) (by omega) (by decide +kernel) (by rw [lm_ev0, lm_ev0, lm_ev0, lj_0]; simp) (fun j h => absurd h (by omega)) (fun _ _ => rfl) hl hw
