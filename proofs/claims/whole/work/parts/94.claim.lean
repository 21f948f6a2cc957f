/-! THE CLAIM OUT OF ONE WALK OF THE LAW'S BODY. Your part is whole_start (and what it stands on); all else here is the same for every law, but numbers. -/
def R_law : String := "LimbRegistersLaw"
def lw_P (b : Addr) (xs : List Int32) (args : Array Value) (s : State) : Prop := args = #[.ref b] ∧ s.IntsAt b xs ∧ xs.length ≤ 3072 ∧ (Jvm.Cond.and given_1 narrow_1).before args s = true
def lw_Q (_ : Array Value) (s : State) (o : Outcome) (t : State) : Prop := o = .returned (some (.int 1)) ∧ Framed s o t [] 601024 7293034
def lw_Z (below : List Frame) (a : Array Value) (s : State) : State → Prop := fun t => ∃ o, t.status = .running ∧ Ended t below o ∧ lw_Q a s o t
/-- the law's own end, with 1 on the stack, nothing written that was there before, its room as the claim has it -/
theorem lw_ret {p : Program} {l : Launch} {e : Env} {s : State} {m : MethodId} {below : List Frame} {meth : Method} {c : Code} {b : Nat} (hx : p.tables.exec = Jvm.exec) (hb : c.code = code) (hr : meth.sig.returnType = ret) (hlocks : meth.locks = false) {pc : Nat} {H : Heap} {ls : Array Slot} (hdg : decode code pc = .ok (.ireturn, 1)) : W p l e room_1 s m #[Value.ref b] below meth c H [] 601024 7293034 (lw_Z below #[Value.ref b] s) (F0 m pc ls [.int 1]) := by
  intro T hT X
  obtain ⟨fs, hret, hrun, hended, hW, hframe⟩ := X.leave (v := some (.int 1)) (hlocks := hlocks) (fun h => by rw [hr] at h; cases h)
  have hmeth' : T.vm.method? m = some meth := X.method'
  refine ⟨T.setFrames fs, ?_, .returned (some (.int 1)), hrun, hended, rfl, ⟨_, rfl⟩, hW, hframe⟩
  jvm_step X.here [X.here.top, hx, hb, hdg, hmeth', hr, ret, narrow_b1]
  (try refine ⟨rfl, ?_⟩); (try refine ⟨rfl, ?_⟩)
  first | (intro acts; rw [hret _ acts rfl rfl rfl]) | rw [hret _ _ rfl rfl rfl]
  exact Steps.refl _
/-- what holds at the law's entry: the machine, the code, the tables' words (any of lw_tbl by 'hts w (by decide +kernel)'), the script of L ints xs at the cell b, what the Statement gives of the start (any of its parts by flat_of_before) -/
def lw_At (p : Program) (s : State) (m : MethodId) (meth : Method) (c : Code) (b L : Nat) (xs : Nat → Int32) : Prop :=
  p.tables.exec = Jvm.exec ∧ c.code = code ∧ meth.sig.returnType = ret ∧ c.maxLocals = 8 ∧ s.vm.findClass R_law = some m.cls ∧ (∀ w ∈ lw_tbl, w.before #[Value.ref b] s = true) ∧ va_X b L xs s s.heap ∧ b < s.heap.size ∧ meth.locks = false ∧ (Jvm.Cond.and given_1 narrow_1).before #[Value.ref b] s = true
/-- the tables know the classes and the arrays -/
theorem kn_start {args : Array Value} {s : State} (hts : ∀ w ∈ lw_tbl, w.before args s = true) : ∃ t : gT, va_K (gD t) clS (gt t) s := by
  have hb : ∀ w ∈ bg, w.before args s = true := fun w h => hts w (bg_tbl w h)
  obtain ⟨c0, i0, k0⟩ := u_known hb in_c0 (hb _ bw_83)
  obtain ⟨c1, i1, k1⟩ := u_known hb in_c1 (hb _ bw_152)
  obtain ⟨c2, i2, k2⟩ := u_known hb in_c2 (hb _ bw_38)
  obtain ⟨c3, i3, k3⟩ := u_known hb in_c3 (hb _ bw_128)
  obtain ⟨c4, i4, k4⟩ := u_known hb in_c4 (hb _ bw_106)
  obtain ⟨c5, i5, k5⟩ := u_known hb in_c5 (hb _ bw_67)
  obtain ⟨c6, i6, k6⟩ := u_known hb in_c6 (hb _ bw_32)
  obtain ⟨c7, i7, k7⟩ := u_known hb in_c7 (hb _ bw_23)
  obtain ⟨c8, i8, k8⟩ := u_known hb in_c8 (hb _ bw_812)
  obtain ⟨a0, kA0, co0, f0, g0, h0⟩ := Cond.arrayClass_spec (hb _ bw_52)
  obtain ⟨a1, kA1, co1, f1, g1, h1⟩ := Cond.arrayClass_spec (hb _ bw_836)
  obtain ⟨a2, kA2, co2, f2, g2, h2⟩ := Cond.arrayClass_spec (hb _ bw_81)
  obtain ⟨co3, a3, kA3, e3, -, g3, h3, f3⟩ := Cond.arrayOver_spec (hts (.arrayOver (.object RX6)) (List.mem_of_getElem? (i := 71) (by decide +kernel)))
  refine ⟨(fun k => match k with | 0 => c0 | 1 => c1 | 2 => c2 | 3 => c3 | 4 => c4 | 5 => c5 | 6 => c6 | 7 => c7 | _ => c8, fun k => match k with | 0 => i0 | 1 => i1 | 2 => i2 | 3 => i3 | 4 => i4 | 5 => i5 | 6 => i6 | 7 => i7 | _ => i8, fun k => match k with | 0 => a0 | 1 => a1 | 2 => a2 | _ => a3), fun c q hq => ?_, fun k q hq => ?_⟩
  · match c, hq with
    | 0, hq => have e9 : (RX0, TX0, 3) = q := Option.some.inj hq; subst e9; exact k0
    | 1, hq => have e9 : (RX1, TX1, 7) = q := Option.some.inj hq; subst e9; exact k1
    | 2, hq => have e9 : (RX2, TX2, 2) = q := Option.some.inj hq; subst e9; exact k2
    | 3, hq => have e9 : (RX3, TX3, 4) = q := Option.some.inj hq; subst e9; exact k3
    | 4, hq => have e9 : (RX4, TX4, 4) = q := Option.some.inj hq; subst e9; exact k4
    | 5, hq => have e9 : (RX5, TX5, 2) = q := Option.some.inj hq; subst e9; exact k5
    | 6, hq => have e9 : (RX6, TX6, 2) = q := Option.some.inj hq; subst e9; exact k6
    | 7, hq => have e9 : (RX7, TX7, 7) = q := Option.some.inj hq; subst e9; exact k7
    | 8, hq => have e9 : ("LimbRegistersModel", TM, 6) = q := Option.some.inj hq; subst e9; exact k8
    | c + 9, hq => exact absurd hq (by simp)
  · match k, hq with
    | 0, hq => have e9 : (a0, FieldType.long) = q := Option.some.inj hq; subst e9; exact ⟨fun n z => ⟨fun k h => (by cases h), kA0, g0, co0, h0⟩, f0⟩
    | 1, hq => have e9 : (a1, FieldType.int) = q := Option.some.inj hq; subst e9; exact ⟨fun n z => ⟨fun k h => (by cases h), kA1, g1, co1, h1⟩, f1⟩
    | 2, hq => have e9 : (a2, FieldType.byte) = q := Option.some.inj hq; subst e9; exact ⟨fun n z => ⟨fun k h => (by cases h), kA2, g2, co2, h2⟩, f2⟩
    | 3, hq => have e9 : (a3, FieldType.object RX6) = q := Option.some.inj hq; subst e9; exact ⟨fun n z => ⟨fun k h => (by cases h), kA3, g3, co3, h3⟩, kA3, co3, g3, h3, e3, f3⟩
    | k + 4, hq => exact absurd hq (by simp [gt])
theorem xS_in : ∀ q ∈ xS, Cond.stringRef "LimbRegisters" q.1 q.2 ∈ lw_tbl := by decide +kernel
theorem xN_in : ∀ a ∈ xNs, ∀ b ∈ xNs, a ≠ b → Cond.not (.castable a b) ∈ flatC (Jvm.Cond.and given_1 narrow_1) := by decide +kernel
theorem xs_start {args : Array Value} {s : State} (hts : ∀ w ∈ lw_tbl, w.before args s = true) (hgv : (Jvm.Cond.and given_1 narrow_1).before args s = true) (hk : ∃ cur, s.vm.findClass "LimbRegisters" = some cur) : wSA (fun q => s.heap.size ≤ q) s := by
  have hf := flat_of_before _ hgv
  obtain ⟨cur, hcur⟩ := hk
  refine ⟨vx_Zqof (hts _ (List.mem_of_getElem? (i := 289) (by decide +kernel))) (hts _ (List.mem_of_getElem? (i := 50) (by decide +kernel))) (hf (.isRef (.static "java/lang/Throwable" "UNASSIGNED_STACK" "[Ljava/lang/StackTraceElement;")) (by decide +kernel)) (fun a h1 h2 => absurd h2 (Nat.not_le.mpr h1)),
    vx_Zqof (hts _ (List.mem_of_getElem? (i := 291) (by decide +kernel))) (hts _ (List.mem_of_getElem? (i := 50) (by decide +kernel))) (hf (.isRef (.static "java/lang/Throwable" "SUPPRESSED_SENTINEL" "Ljava/util/List;")) (by decide +kernel)) (fun a h1 h2 => absurd h2 (Nat.not_le.mpr h1)),
    fun w hw => vx_ot_at (State.WarmedH.refl _) rfl (xW_ot (List.mem_filter.mp hw).2) (hts w (List.mem_filter.mp hw).1), fun q hq => ?_, fun a ha b hb hab => va_Nc.of (hf _ (xN_in a ha b hb hab))⟩
  obtain ⟨_, _, _, sa, _, _, _, _, _, h2⟩ := Cond.stringRef_spec hcur (hts _ (xS_in q hq))
  exact ⟨sa, vk_R.of (hts _ (xS_in q hq)) h2⟩
theorem cN_start {args : Array Value} {s : State} (hts : ∀ w ∈ lw_tbl, w.before args s = true) : cNw s := ⟨fun w hw => nest_of (List.mem_filter.mp hw).2 (hts w (List.mem_filter.mp hw).1), va_AO.of (hts (.arrayOver (.object RX6)) (List.mem_of_getElem? (i := 71) (by decide +kernel)))⟩
set_option maxRecDepth 100000 in
set_option maxHeartbeats 4000000 in
theorem whole_start {p : Program} {e : Env} {s : State} {m : MethodId} {below : List Frame} {meth : Method} {c : Code} (l : Launch) (hst : l.stackTraces = false) {b L : Nat} {xs : Nat → Int32} (hL : L ≤ 3072) (C0 : lw_At p s m meth c b L xs) : W p l e room_1 s m #[Value.ref b] below meth c s.heap [] 0 0 (lw_Z below #[Value.ref b] s) (entryFrame m ([Value.ref b] : List Value).toArray 8) := by
  obtain ⟨hx, hb, hr, hml, hown, hts, hX, hbl, hlocks, hgv⟩ := C0
  have hC : wC m c 8 s #[Value.ref b] "LimbRegistersLaw" := ⟨hml, fun w h => hts w (bg_tbl w h), hown⟩
  obtain ⟨t, hK⟩ := kn_start hts
  have hz := xs_start hts hgv ⟨_, (hK.1 7 (RX7, TX7, 7) rfl).2.1⟩
  have hw : cH t [] (fun q => s.heap.size ≤ q) s s.heap s.heap [] := ⟨fun k q h => (by cases h), hK, ⟨fun i j p q h => (by cases h), fun k q h => (by cases h)⟩, va_S.rf, fun q h => h, cN_start hts⟩
  rw [lg_entry_eq]
  have hl := lv_entry ([.ref b]) (n := 8) (Nat.le_of_ble_eq_true rfl)
  generalize (lg_sl ([.ref b]) ++ List.replicate (8 - (lg_sl ([.ref b])).length) Slot.unset).toArray = ls at hl ⊢
  have hl : lv_has ls 8 [(0, .ref b)] := hl
  refine cNew (ci := 7) (fs := [.null, .null, .null, .null, .null, .null, .null]) hx hb hC hw rfl in_c7 tyX7_ok bw_22 bw_23 bw_1 df_L ⟨by decide, by decide⟩ d_w_0 (fun h84 H hw => ?_)
  refine lv_dup hx hb d_w_3 rfl ?_
  refine cIp (ws := []) hx hb hC hw (fun sz => k_L_init l t h84 sz) cd_L_init bw_1 im_L_init ml_L_init rfl ⟨by decide, by decide, by decide +kernel⟩ rfl rfl ⟨by decide, by decide⟩ hl.1 (Nat.le_of_ble_eq_true rfl) ⟨by decide, by decide⟩ d_w_4 (fun u H locs hw => ?_)
  have hw : cH t (bL t h84 u) (fun q => s.heap.size ≤ q) s s.heap H locs := hw
  refine lv_astore_n hx hb d_w_7 rfl hl (by decide) rfl (fun ls hl => ?_)
  have hl : lv_has ls 8 [(1, .ref h84), (0, .ref b)] := hl
  refine cNew (ci := 8) (fs := [.int 0, .null, .null, .null, .int 0, .null]) hx hb hC hw rfl in_c8 tyM_ok bw_811 bw_812 bw_9 df_M ⟨by decide, by decide⟩ d_w_8 (fun h91 H hw => ?_)
  refine lv_dup hx hb d_w_11 rfl ?_
  refine cIp hx hb hC hw (fun sz => k_M_init l t h91 sz) cd_M_init bw_9 im_M_init ml_M_init rfl ⟨by decide, by decide, by decide +kernel⟩ rfl rfl ⟨by decide, by decide⟩ hl.1 (Nat.le_of_ble_eq_true rfl) ⟨by decide, by decide⟩ d_w_12 (fun v H locs hw => ?_)
  refine lv_astore_n hx hb d_w_15 rfl hl (by decide) rfl (fun ls hl => ?_)
  have hl : lv_has ls 8 [(2, .ref h91), (1, .ref h84), (0, .ref b)] := hl
  refine lv_iconst (v := 1) hx hb d_w_16 (by decide) ?_
  refine cNewA hx hb hC hw 0 (ty := .long) rfl rfl (fun _ h => h) bw_52 (a0 := (1, .inr (.inl fun _ => 0))) (fun _ => rfl) (by decide) (by decide) (by decide) ⟨by decide, by decide⟩ d_w_17 (fun h96 H hw => ?_)
  have hw : cH t (bA t h84 u h91 v h96) (fun q => s.heap.size ≤ q) s s.heap H locs := hw
  refine lv_astore_n hx hb d_w_19 rfl hl (by decide) rfl (fun ls hl => ?_)
  have hl : lv_has ls 8 [(3, .ref h96), (2, .ref h91), (1, .ref h84), (0, .ref b)] := hl
  refine lv_iconst (v := nI 0) hx hb d_w_20 (by decide) ?_
  refine lv_istore hx hb d_w_21 hl (by decide) rfl (fun ls hl => ?_)
  have hl : lv_has ls 8 (lL (tT t h84 u h91 v h96) b 0) := hl
  refine law_loop l hst (tT t h84 u h91 v h96) (CE := 609) (SE := 10368) (by decide) (by decide) ⟨hx, hb, hC, hz, hX, hbl, Nat.not_le.mpr hbl, hL, by decide, by decide⟩ (fun H1 locs1 ls1 hw1 => ?_) 512 0 _ _ H locs ls (by omega) (Nat.zero_le _) (by decide) (by decide) (lI_0 (bA_wH t h84 u h91 v h96 hw)) hl
  obtain ⟨V, K, I, O, z, n9, tx, M, Z, G, hc, hm, hn9, hK14, hK16, hI0, hI4, ht, hw9⟩ := hw1
  refine va_forget (fun q hq => hw9.2.2.2.1.2.2 q hq) ?_
  refine W.widen (k := 601024) (n := 7293034) (by decide) (by decide) ?_
  refine lv_iconst (v := 1) hx hb d_w_1449 (by decide) ?_
  exact lw_ret hx hb hr hlocks d_w_1450
set_option maxHeartbeats 4000000 in
theorem lw_walk (l : Launch) (hst : l.stackTraces = false) (b : Addr) (xs : List Int32) : MetFree l x (headSpec (Jvm.Cond.code x code maxLocals ret :: tables_1) room_1) (lw_P b xs) (fun _ _ _ _ _ => True) lw_Q := by
  refine MetFree.of_bodyS (code := code) (maxLocals := maxLocals) (ret := ret) (by decide) ?_ ?_
  · intro args s m h hn
    obtain ⟨meth, c, h1, h2, h3, h4, h5, h6, -, -⟩ := Cond.code_spec hn (atoms_spec (ws := Jvm.Cond.code x code maxLocals ret :: tables_1) h _ List.mem_cons_self)
    exact ⟨meth, c, h1, h2, h3, h4, h5, h6⟩
  · intro p e s m args below meth c s₁ B hml0 hP _
    obtain ⟨rfl, hx, hbd, hgv⟩ := hP
    obtain ⟨scr, harrAt, hlist, hof, hsmall⟩ := hx
    obtain ⟨hcb, hkn, -, -⟩ := State.arrayAt?_spec harrAt
    have hown : s.vm.findClass R_law = some m.cls := findClass_of_methodNamed B.named
    have hts0 : ∀ c ∈ (Jvm.Cond.code x code maxLocals ret :: tables_1), c.before #[Value.ref b] s = true := atoms_spec (ws := Jvm.Cond.code x code maxLocals ret :: tables_1) B.pre
    have hts : ∀ w ∈ lw_tbl, w.before #[Value.ref b] s = true := k2_hts_sels lw_privs (fun w hw => hts0 w (List.mem_cons_of_mem _ hw)) lw_privs_ok
    have hml : c.maxLocals = 8 := B.maxLocals_eq (hts0 _ List.mem_cons_self)
    have X₀ : Stand p l e room_1 s m #[Value.ref b] below meth c s₁ [] 0 0 := Stand.of_body B
    have hh0 : s₁.heap = s.heap := by rw [B.state]; rfl
    have hsz : scr.slots.size = xs.length := by rw [← Array.length_toList, hlist, List.length_map]
    have hval : ∀ j : Nat, j < xs.length → scr.slots[j]? = some (.int (xs.getD j 0)) := fun j hj => by
      rw [← Array.getElem?_toList, hlist]
      simp [hj]
    have hbl : b < s.heap.size := (Array.getElem?_eq_some_iff.mp hcb).1
    have hX : va_X b xs.length (fun j => xs.getD j 0) s s.heap := ⟨scr, hcb, hof, hkn, hsz, hval⟩
    have K : W p l e room_1 s m #[Value.ref b] below meth c s₁.heap [] 0 0 (lw_Z below #[Value.ref b] s) (entryFrame m ([Value.ref b] : List Value).toArray 8) := by
      rw [hh0]
      exact whole_start l hst hbd ⟨B.exec, B.bytes, B.returns, hml, hown, hts, hX, hbl, B.notSynchronized, hgv⟩
    obtain ⟨t, a1, o, b1, b2, b3⟩ := K s₁ rfl X₀
    exact ⟨t, o, a1, b1, b2, b3⟩
theorem lw_pre_spec {args : Array Value} {s : State} (h : (Jvm.Cond.and given_1 narrow_1).before args s = true) (hr : rest_1_c.before args s = true) : ∃ (b : Addr) (xs : List Int32), lw_P b xs args s := by
  have hs := flat_of_before _ h
  have hq := flat_of_before _ hr
  have hc : (Cond.count 1).before args s = true := hs _ (by decide +kernel)
  have harr : (Cond.arrayOf (.arg 0) .int).before args s = true := hs _ (by decide +kernel)
  have hle : (Cond.le (.length (.arg 0)) (.int 3072)).before args s = true := hs _ (by decide +kernel)
  have hlen : (Cond.isInt (.length (.arg 0))).before args s = true := hq _ (by decide +kernel)
  have hall : (Cond.all (.arg 0) (.isInt (.elem (.arg 0) (.index 0)))).before args s = true := hq _ (by decide +kernel)
  obtain ⟨b, xs, hb, hx⟩ := State.ints_of_pre rfl harr hlen hall
  have hsm : xs.length < 2 ^ 31 := hx.choose_spec.2.2.2
  have hev : (Term.length (.arg 0)).eval args s none [] s = some (.int xs.length.toInt32) := hx.length_eval hb
  have hv := Cond.le_ints hev (show (Term.int 3072).eval args s none [] s = some (.int 3072) from rfl)
  have hd : xs.length.toInt32 ≤ 3072 := by
    simpa [Cond.before, Cond.holds, hv] using hle
  have hN : xs.length ≤ 3072 := (Int32.ofNat_le_ofNat hsm (by decide)).mp (show Int32.ofNat xs.length ≤ Int32.ofNat 3072 from hd)
  exact ⟨b, xs, Cond.one_arg hc (show args[0]? = some (.ref b) from hb), hx, hN, h⟩
theorem lw_comes (l : Launch) (hst : l.stackTraces = false) : Comes l x (Jvm.Cond.code x code maxLocals ret :: tables_1) room_1 (fun tb e args s => Calls_1 tb e args s ∧ rest_1 tb e args s ∧ Pre_1 tb e args s)
    (fun _ _ args s o t => lw_Q args s o t) := by
  intro p e ha hc hk s m args below hf hfit hheap happ hpre
  obtain ⟨b, xs, hP⟩ := lw_pre_spec hpre.2.2 hpre.2.1
  obtain ⟨k, o, h1, h2, h3, hQ⟩ := lw_walk l hst b xs p e ha hc hk s m args below hf ((Spec.applies_iff_loose hf).mp happ).1 hP trivial
  exact ⟨k, o, h1, h2, h3, hQ⟩
theorem lw_frame {s t : State} {o : Outcome} {args : Array Value} (h : Framed s o t [] 601024 7293034) :
    Framed s o t (fieldLocs frame_1_writes args s ++ arrayLocs frame_1_arrays args s ++ staticLocs frame_1_statics s) 601024 7293034 := h
theorem lw_limb (L : Cond) (hL : ∀ (args : Array Value) (s t : State), L.after args s (.returned (some (.int 1))) t = true) :
    ArmFor flags0 classFile x code maxLocals ret World_1 tables_1 room_1 Calls_1 rest_1 Pre_1
      (fun tb e a s o t => postC L tb e a s o t ∧ Framed s o t (fieldLocs frame_1_writes a s ++ arrayLocs frame_1_arrays a s ++ staticLocs frame_1_statics s) 601024 7293034) := by
  intro l hf9 _ _ p e ha hc hk s m args below hf hfit hheap happ hpre
  obtain ⟨k, o, h1, h2, h3, rfl, hF⟩ := lw_comes l (by unfold Launch.stackTraces; rw [hf9]; decide) p e ha hc hk s m args below hf hfit hheap happ hpre
  exact ⟨k, _, h1, h2, h3, hL args s _, lw_frame hF⟩
theorem i_vc : Claimed_1_1 ∧ Claimed_1_2 := ⟨lw_limb limb_1_1 (fun args s t => by simp [limb_1_1, Cond.after, Cond.holds, Cond.value]), lw_limb limb_1_2 (fun args s t => Cond.after_iff.mpr (by
  first | (rw [show limb_1_2 = Cond.eq .result (.int 1) from rfl, Cond.eq_ints (x := 1) (y := 1) rfl rfl]; simp; done) | (simp [limb_1_2, Cond.value, Term.eval]; done)))⟩
