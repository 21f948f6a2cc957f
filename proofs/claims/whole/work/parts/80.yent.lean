/-! the law's helpers: an exception is caught and told by a number -/
def xNs : List String := [eIX, eUO, eIA, eAR, eIS, eNE]
def wN (s : State) : Prop := ∀ a ∈ xNs, ∀ b ∈ xNs, a ≠ b → va_Nc a b s
theorem wN.moved {s V : State} (hvm : s.vm.Alike V.vm) (h : wN s) : wN V := fun a ha b hb hab => va_Nc.moved hvm (h a ha b hb hab)
def mPy (T : wT) (F : wFt) (U K : wUt) (I : wIt) (O : wOt) (av : List Value) : Array Value → State → Prop := va_Pc av (fun t => wd T F U K I O t ∧ wS T t t.heap ∧ wN t)
abbrev yS : Type := (Nat → Nat) × wUt × wIt × wOt
def mQy (T : wT) (Pr : Int32 → (Nat → Nat) → wUt → wIt → wOt → Prop) : Array Value → State → Outcome → State → Prop := va_Qi (fun x (u : yS) => Pr x u.1 u.2.1 u.2.2.1 u.2.2.2) (fun u t => wd T (fF u.1) (fU u.1) u.2.1 u.2.2.1 u.2.2.2 t) (wA T)
def wLh (own : String) (index : Nat) (y : MethodName) (bytes : ByteArray) (mL : Nat) (hh : List (Nat × Nat × Nat × Nat)) (n : Nat) : Prop :=
  Cond.codeWith y bytes mL (some .int) hh ∈ bg ∧ Cond.initialized y.cls ∈ bg ∧ (y.cls ≠ "java/lang/invoke/MethodHandle" ∧ y.cls ≠ "java/lang/invoke/VarHandle" ∧ (parseMethodDescriptor y.desc).map (fun d => d.parameters.length) = some n) ∧ Cond.methodLink own index y ∈ bg ∧ Cond.static y ∈ bg
section YH

variable {p : Program} {l : Launch} {e : Env} {R : Room} {s : State} {m : MethodId} {args : Array Value} {below : List Frame} {meth : Method} {c : Code} {H H0 : Heap} {locs : List Loc} {cells slots : Nat} {Q : State → Prop}
variable {cc : ByteArray} {pc maxL : Nat} {ls : Array Slot} {rest st0 As : List Value} {T : wT} {F F' : wFt} {U K U' K' : wUt} {I I' I2 : wIt} {O O' O2 : wOt} {A : Nat → Prop} {own : String}
variable {y : MethodName} {bytes : ByteArray} {mL n index k ci N : Nat} {fs : List Value} {Tt : u_T} {rm : Room} {EP : String → Prop} {Px : (Nat → Nat) → wUt → Prop} {hh : List (Nat × Nat × Nat × Nat)}


theorem metH {ws ws' : List Cond} {Pc : Array Value → State → Prop} {Qc : Array Value → State → Outcome → State → Prop} {mc ms : Nat} {free : Addr → Prop} {ret : Option FieldType}
    (hy : plainName y.cls = true) (hw : ws = Cond.codeWith y cc maxL ret hh :: ws')
    (body : ∀ p e s m args below meth c s₁, BodyLoose p l y (headSpec ws rm) cc maxL ret e s m args below meth c s₁ → c.maxLocals = maxL → Pc args s →
      W p l e (headSpec ws rm).room s m args below meth c s.heap [] 0 0 (MQ below Qc args s mc ms free) (entryFrame m args maxL)) : Met l y ws rm Pc Qc mc ms free := by
  refine MetFree.of_bodyS (code := cc) (maxLocals := maxL) (ret := ret) hy ?_ ?_
  · intro args s m h hn
    obtain ⟨m9, meth, c, hn9, h1, h2, h3, h4, -, h5, h6, -⟩ := Cond.codeWith_spec (atoms_spec (ws := ws) h _ (by rw [hw]; exact List.mem_cons_self))
    cases hn.symm.trans hn9
    exact ⟨meth, c, h1, h2, h3, h4, h5, h6⟩
  · intro p e s m args below meth c s₁ B hml hP _
    have hh0 : s₁.heap = s.heap := by rw [B.state]; rfl
    obtain ⟨t, a1, o, b1, b2, b3⟩ := body p e s m args below meth c s₁ B hml hP s₁ hh0 (Stand.of_body B)
    exact ⟨t, o, a1, b1, b2, b3⟩
theorem yH {Pr : Int32 → (Nat → Nat) → wUt → wIt → wOt → Prop} (hcl : y.cls = "LimbRegistersLaw") {av : List Value} (hav : (lg_sl av).length ≤ maxL) (hrc : rm.cells = 1) (hrs : rm.slots = 6)
    (body : ∀ (p : Program) (e : Env) (R : Room) (s : State) (m : MethodId) (args : Array Value) (below : List Frame) (meth : Method) (c : Code) (Q : State → Prop) (ls : Array Slot), p.tables.exec = Jvm.exec → c.code = cc → wC m c maxL s args "LimbRegistersLaw" → rm.frames ≤ R.frames → rm.locals ≤ R.locals → 1 ≤ R.cells ∧ 6 ≤ R.slots → wS T s s.heap → wN s → c.exceptionTable.toList = tableOf hh →
      (∀ (r : Int32) (V' : Nat → Nat) (K' : wUt) (I' : wIt) (O' : wOt) (H : Heap) (locs : List Loc) (pc : Nat) (ls : Array Slot), Pr r V' K' I' O' → wH T (fF V') (fU V') K' I' O' (wA T) s s.heap H locs → decode cc pc = .ok (.ireturn, 1) → W p l e R s m args below meth c H locs 1 6 Q (F0 m pc ls [.int r])) →
      lv_has ls maxL (lv_args 0 av) → wH T F U K I O (wA T) s s.heap s.heap [] → W p l e R s m args below meth c s.heap [] 0 0 Q (F0 m 0 ls [])) :
    Met l y (.codeWith y cc maxL (some .int) hh :: bg) rm (mPy T F U K I O av) (mQy T Pr) 1 6 (wA T) := by
  refine metH (hh := hh) (by rw [hcl]; decide) rfl ?_
  intro p e s m args below meth c s₁ B hml hv
  obtain ⟨rfl, hv, hv2, hv3⟩ := hv
  have hts := atoms_spec (ws := (.codeWith y cc maxL (some .int) hh :: bg)) B.pre
  have hlocks := B.notSynchronized
  have htab := vx_table (x := y) B (hts _ List.mem_cons_self)
  rw [lg_entry_eq]
  refine body p e _ s m _ below meth c _ _ B.exec B.bytes ⟨hml, fun w h => hts w (List.mem_cons_of_mem _ h), hcl ▸ findClass_of_methodNamed B.named⟩ (Nat.le_refl _) (Nat.le_refl _) ⟨?_, ?_⟩ hv2 hv3 htab ?_ (lv_entry av hav) (wH.start hv)
  · show 1 ≤ rm.cells; omega
  · show 6 ≤ rm.slots; omega
  · intro r V' K' I' O' H locs pc ls hP hw hd
    exact W.iret B.exec B.bytes B.returns (fun t ht hW => ⟨⟨r, (V', K', I', O'), rfl, hP, hw.stop ht hW.alike⟩, hw.2.2.2.1.F ht⟩) hw.2.2.2.1.2.2 hd hlocks

theorem yc_v {Pr : (Nat → Nat) → wUt → Prop} (hx : p.tables.exec = Jvm.exec) (hb : c.code = cc) (hC : wC m c maxL s args own) (hz : wS T s s.heap) (hw : wH T F U K I O (wA T) s s.heap H locs)
    (hM : vx_Met l y (.code y bytes mL none :: bg) rm (mPx T F U K I O (.ref (wa T k) :: As)) (mQvp T Pr I' O') (xXm T EP Px I2 O2) 1 6 (wA T)) (h : wLv own index y bytes mL none n) (hrc : rm.cells = 1) (hrs : rm.slots = 6) (hR : rm.frames + 1 ≤ R.frames ∧ 8 + (mL + 11) + rm.locals ≤ R.locals)
    (hk : k < 97) (he : wE T F U K I O k = .inr (ci, fs)) (hc : clS[ci]? = some (y.cls, Tt, N)) (hn : As.length = n) (hls : ls.size = maxL) (hst : st0 = As.reverse ++ .ref (wa T k) :: rest) (hW8 : (rest.map fun v => v.category).sum ≤ 8) (hf : 1 ≤ R.cells ∧ 6 ≤ R.slots) (hdg : decode cc pc = .ok (.invokevirtual index, 3))
    (kx : ∀ (E : String) (V' : Nat → Nat) (K' : wUt) (H1 : Heap) (locs1 : List Loc) (ce : Cell) (q : Addr), EP E → Px V' K' → wH T (fF V') (fU V') K' I2 O2 (wA T) s s.heap H1 locs1 → H1[q]? = some ce → ce.vm = .none → s.vm.findClass E = some ce.cls → vx_W p l e R s m args below meth c H1 locs1 1 6 Q (F0 m pc ls rest) q)
    (kk : ∀ (V' : Nat → Nat) (K' : wUt) (H1 : Heap) (locs1 : List Loc), Pr V' K' → wH T (fF V') (fU V') K' I' O' (wA T) s s.heap H1 locs1 → W p l e R s m args below meth c H1 locs1 1 6 Q (F0 m (pc + 3) ls (rest))) : W p l e R s m args below meth c H locs 0 0 Q (F0 m pc ls st0) := by
  refine vx_callv (vx_runV (C := y.cls) (As := As) (rest := rest) ⟨hx, hb, hC.1, hC.2.2, hC.2.1⟩ hM ⟨wc_Bx hC h.1 hrc hrs hR, hC.hts h.2.1, hC.hts h.2.2⟩ ⟨mPx_blind, hw.recv hk he hc, hw.prex hz⟩ rfl hn hls hst (lv_room hW8) hdg (by omega)) hw.2.2.2.1 (fun q _ h => wA_sub hw q h) (wA_sub hw) (fun q _ h => wA_sub hw q h) (fun E ce q9 u t H1 locs1 ht hvm hp hB hsz hk1 hS h1 h2 h3 => ?_) (fun u t H1 locs1 ht hvm hp hB hsz hk1 hS => ?_)
  · exact kx E u.1 u.2 H1 locs1 ce q9 hB.1 hp (hw.back ht hvm hB.2 hS) h1 h2 h3
  · exact kk u.1 u.2 H1 locs1 hp (hw.back ht hvm hB hS)
theorem yc_i {Pr : Int32 → (Nat → Nat) → wUt → Prop} (hx : p.tables.exec = Jvm.exec) (hb : c.code = cc) (hC : wC m c maxL s args own) (hz : wS T s s.heap) (hw : wH T F U K I O (wA T) s s.heap H locs)
    (hM : vx_Met l y (.code y bytes mL (some .int) :: bg) rm (mPx T F U K I O (.ref (wa T k) :: As)) (mQi2 T Pr I' O') (xXm T EP Px I2 O2) 1 6 (wA T)) (h : wLv own index y bytes mL (some .int) n) (hrc : rm.cells = 1) (hrs : rm.slots = 6) (hR : rm.frames + 1 ≤ R.frames ∧ 8 + (mL + 11) + rm.locals ≤ R.locals)
    (hk : k < 97) (he : wE T F U K I O k = .inr (ci, fs)) (hc : clS[ci]? = some (y.cls, Tt, N)) (hn : As.length = n) (hls : ls.size = maxL) (hst : st0 = As.reverse ++ .ref (wa T k) :: rest) (hW8 : (rest.map fun v => v.category).sum ≤ 8) (hf : 1 ≤ R.cells ∧ 6 ≤ R.slots) (hdg : decode cc pc = .ok (.invokevirtual index, 3))
    (kx : ∀ (E : String) (V' : Nat → Nat) (K' : wUt) (H1 : Heap) (locs1 : List Loc) (ce : Cell) (q : Addr), EP E → Px V' K' → wH T (fF V') (fU V') K' I2 O2 (wA T) s s.heap H1 locs1 → H1[q]? = some ce → ce.vm = .none → s.vm.findClass E = some ce.cls → vx_W p l e R s m args below meth c H1 locs1 1 6 Q (F0 m pc ls rest) q)
    (kk : ∀ (r : Int32) (V' : Nat → Nat) (K' : wUt) (H1 : Heap) (locs1 : List Loc), Pr r V' K' → wH T (fF V') (fU V') K' I' O' (wA T) s s.heap H1 locs1 → W p l e R s m args below meth c H1 locs1 1 6 Q (F0 m (pc + 3) ls (.int r :: rest))) : W p l e R s m args below meth c H locs 0 0 Q (F0 m pc ls st0) := by
  refine vx_calli (vx_runV (C := y.cls) (As := As) (rest := rest) ⟨hx, hb, hC.1, hC.2.2, hC.2.1⟩ hM ⟨wc_Bx hC h.1 hrc hrs hR, hC.hts h.2.1, hC.hts h.2.2⟩ ⟨mPx_blind, hw.recv hk he hc, hw.prex hz⟩ rfl hn hls hst (lv_room hW8) hdg (by omega)) hw.2.2.2.1 (fun q _ h => wA_sub hw q h) (wA_sub hw) (fun q _ h => wA_sub hw q h) (fun E ce q9 u t H1 locs1 ht hvm hp hB hsz hk1 hS h1 h2 h3 => ?_) (fun r u t H1 locs1 ht hvm hp hB hsz hk1 hS => ?_)
  · exact kx E u.1 u.2 H1 locs1 ce q9 hB.1 hp (hw.back ht hvm hB.2 hS) h1 h2 h3
  · exact kk r u.1 u.2 H1 locs1 hp (hw.back ht hvm hB hS)
theorem yc_z {Pr : Int32 → (Nat → Nat) → wUt → Prop} (hx : p.tables.exec = Jvm.exec) (hb : c.code = cc) (hC : wC m c maxL s args own) (hz : wS T s s.heap) (hw : wH T F U K I O (wA T) s s.heap H locs)
    (hM : vx_Met l y (.code y bytes mL (some .boolean) :: bg) rm (mPx T F U K I O (.ref (wa T k) :: As)) (mQi2 T Pr I' O') (xXm T EP Px I2 O2) 1 6 (wA T)) (h : wLv own index y bytes mL (some .boolean) n) (hrc : rm.cells = 1) (hrs : rm.slots = 6) (hR : rm.frames + 1 ≤ R.frames ∧ 8 + (mL + 11) + rm.locals ≤ R.locals)
    (hk : k < 97) (he : wE T F U K I O k = .inr (ci, fs)) (hc : clS[ci]? = some (y.cls, Tt, N)) (hn : As.length = n) (hls : ls.size = maxL) (hst : st0 = As.reverse ++ .ref (wa T k) :: rest) (hW8 : (rest.map fun v => v.category).sum ≤ 8) (hf : 1 ≤ R.cells ∧ 6 ≤ R.slots) (hdg : decode cc pc = .ok (.invokevirtual index, 3))
    (kx : ∀ (E : String) (V' : Nat → Nat) (K' : wUt) (H1 : Heap) (locs1 : List Loc) (ce : Cell) (q : Addr), EP E → Px V' K' → wH T (fF V') (fU V') K' I2 O2 (wA T) s s.heap H1 locs1 → H1[q]? = some ce → ce.vm = .none → s.vm.findClass E = some ce.cls → vx_W p l e R s m args below meth c H1 locs1 1 6 Q (F0 m pc ls rest) q)
    (kk : ∀ (r : Int32) (V' : Nat → Nat) (K' : wUt) (H1 : Heap) (locs1 : List Loc), Pr r V' K' → wH T (fF V') (fU V') K' I' O' (wA T) s s.heap H1 locs1 → W p l e R s m args below meth c H1 locs1 1 6 Q (F0 m (pc + 3) ls (.int r :: rest))) : W p l e R s m args below meth c H locs 0 0 Q (F0 m pc ls st0) := by
  refine vx_calli (vx_runV (C := y.cls) (As := As) (rest := rest) ⟨hx, hb, hC.1, hC.2.2, hC.2.1⟩ hM ⟨wc_Bx hC h.1 hrc hrs hR, hC.hts h.2.1, hC.hts h.2.2⟩ ⟨mPx_blind, hw.recv hk he hc, hw.prex hz⟩ rfl hn hls hst (lv_room hW8) hdg (by omega)) hw.2.2.2.1 (fun q _ h => wA_sub hw q h) (wA_sub hw) (fun q _ h => wA_sub hw q h) (fun E ce q9 u t H1 locs1 ht hvm hp hB hsz hk1 hS h1 h2 h3 => ?_) (fun r u t H1 locs1 ht hvm hp hB hsz hk1 hS => ?_)
  · exact kx E u.1 u.2 H1 locs1 ce q9 hB.1 hp (hw.back ht hvm hB.2 hS) h1 h2 h3
  · exact kk r u.1 u.2 H1 locs1 hp (hw.back ht hvm hB hS)
theorem yc_l {Pr : Int64 → (Nat → Nat) → wUt → Prop} (hx : p.tables.exec = Jvm.exec) (hb : c.code = cc) (hC : wC m c maxL s args own) (hz : wS T s s.heap) (hw : wH T F U K I O (wA T) s s.heap H locs)
    (hM : vx_Met l y (.code y bytes mL (some .long) :: bg) rm (mPx T F U K I O (.ref (wa T k) :: As)) (mQl2 T Pr I' O') (xXm T EP Px I2 O2) 1 6 (wA T)) (h : wLv own index y bytes mL (some .long) n) (hrc : rm.cells = 1) (hrs : rm.slots = 6) (hR : rm.frames + 1 ≤ R.frames ∧ 8 + (mL + 11) + rm.locals ≤ R.locals)
    (hk : k < 97) (he : wE T F U K I O k = .inr (ci, fs)) (hc : clS[ci]? = some (y.cls, Tt, N)) (hn : As.length = n) (hls : ls.size = maxL) (hst : st0 = As.reverse ++ .ref (wa T k) :: rest) (hW8 : (rest.map fun v => v.category).sum ≤ 8) (hf : 1 ≤ R.cells ∧ 6 ≤ R.slots) (hdg : decode cc pc = .ok (.invokevirtual index, 3))
    (kx : ∀ (E : String) (V' : Nat → Nat) (K' : wUt) (H1 : Heap) (locs1 : List Loc) (ce : Cell) (q : Addr), EP E → Px V' K' → wH T (fF V') (fU V') K' I2 O2 (wA T) s s.heap H1 locs1 → H1[q]? = some ce → ce.vm = .none → s.vm.findClass E = some ce.cls → vx_W p l e R s m args below meth c H1 locs1 1 6 Q (F0 m pc ls rest) q)
    (kk : ∀ (r : Int64) (V' : Nat → Nat) (K' : wUt) (H1 : Heap) (locs1 : List Loc), Pr r V' K' → wH T (fF V') (fU V') K' I' O' (wA T) s s.heap H1 locs1 → W p l e R s m args below meth c H1 locs1 1 6 Q (F0 m (pc + 3) ls (.long r :: rest))) : W p l e R s m args below meth c H locs 0 0 Q (F0 m pc ls st0) := by
  refine vx_calll (vx_runV (C := y.cls) (As := As) (rest := rest) ⟨hx, hb, hC.1, hC.2.2, hC.2.1⟩ hM ⟨wc_Bx hC h.1 hrc hrs hR, hC.hts h.2.1, hC.hts h.2.2⟩ ⟨mPx_blind, hw.recv hk he hc, hw.prex hz⟩ rfl hn hls hst (lv_room hW8) hdg (by omega)) hw.2.2.2.1 (fun q _ h => wA_sub hw q h) (wA_sub hw) (fun q _ h => wA_sub hw q h) (fun E ce q9 u t H1 locs1 ht hvm hp hB hsz hk1 hS h1 h2 h3 => ?_) (fun r u t H1 locs1 ht hvm hp hB hsz hk1 hS => ?_)
  · exact kx E u.1 u.2 H1 locs1 ce q9 hB.1 hp (hw.back ht hvm hB.2 hS) h1 h2 h3
  · exact kk r u.1 u.2 H1 locs1 hp (hw.back ht hvm hB hS)
theorem mPy_blind {av : List Value} : FrameBlind (mPy T F U K I O av) := fun a V g mk q => ⟨q.1, (mPx_blind (av := av) a V g mk ⟨q.1, q.2.1, q.2.2.1⟩).2.1, (mPx_blind (av := av) a V g mk ⟨q.1, q.2.1, q.2.2.1⟩).2.2, wN.moved (s := V) (V := V.calling g mk a) (Vm.Alike.refl V.vm) q.2.2.2⟩
/-- what the law holds of the exceptions, over all cells that it made -/
def wSA (A : Nat → Prop) (s : State) : Prop := vx_Zq Bundle.tN "UNASSIGNED_STACK" Bundle.steD A s s.heap ∧ vx_Zq Bundle.tN "SUPPRESSED_SENTINEL" Bundle.listD A s s.heap ∧ (∀ w ∈ xW, w.before #[] s = true) ∧ (∀ q ∈ xS, ∃ sa, vk_R "LimbRegisters" q.1 q.2 sa s) ∧ wN s
theorem wSA.pre {V : State} (h : wSA A s) (hw : wH T F U K I O A s s.heap H locs) (hV : V.heap = H) (hW : s.WarmedH V.vm) : wS T V V.heap ∧ wN V := by
  refine ⟨?_, wN.moved hW.alike h.2.2.2.2⟩
  rw [hV]
  have hsub : ∀ q, wA T q → A q := fun q hq => by obtain ⟨k, hk, rfl⟩ := hq; exact hw.2.2.2.2 k hk
  exact ⟨(vx_Zq.moved hW.alike (h.1.kept hw.2.2.2.1.2.1)).narrow hsub, (vx_Zq.moved hW.alike (h.2.1.kept hw.2.2.2.1.2.1)).narrow hsub, fun w hw => xW_moved (List.mem_filter.mp hw).2 hW (h.2.2.1 w hw), fun q hq => by obtain ⟨sa, z⟩ := h.2.2.2.1 q hq; exact ⟨sa, vk_R.warm hW z⟩⟩
theorem wcY {Pr : Int32 → (Nat → Nat) → wUt → wIt → wOt → Prop} (hx : p.tables.exec = Jvm.exec) (hb : c.code = cc) (hC : wC m c maxL s args own) (hz : wSA A s) (hw : wH T F U K I O A s s.heap H locs)
    (hM : Met l y (.codeWith y bytes mL (some .int) hh :: bg) rm (mPy T F U K I O As) (mQy T Pr) 1 6 (wA T)) (h : wLh own index y bytes mL hh n) (hrc : rm.cells = 1) (hrs : rm.slots = 6) (hR : rm.frames + 1 ≤ R.frames ∧ 8 + (mL + 11) + rm.locals ≤ R.locals)
    (hn : As.length = n) (hls : ls.size = maxL) (hst : st0 = As.reverse ++ rest) (hW8 : (rest.map fun v => v.category).sum ≤ 8) (hf : cells + 1 ≤ R.cells ∧ slots + 6 ≤ R.slots) (hdg : decode cc pc = .ok (.invokestatic index, 3))
    (kk : ∀ (r : Int32) (V' : Nat → Nat) (K' : wUt) (I' : wIt) (O' : wOt) (H1 : Heap) (locs1 : List Loc), Pr r V' K' I' O' → wH T (fF V') (fU V') K' I' O' A s s.heap H1 locs1 → W p l e R s m args below meth c H1 locs1 (cells + 1) (slots + 6) Q (F0 m (pc + 3) ls (.int r :: rest))) : W p l e R s m args below meth c H locs cells slots Q (F0 m pc ls st0) := by
  have hG : GoodIn bg (va_wsS own index y (.codeWith y bytes mL (some .int) hh :: bg)) := fun w hw9 => by
    rcases List.mem_append.mp hw9 with q | q
    · simp only [List.mem_cons, List.not_mem_nil, or_false] at q
      rcases q with rfl | rfl | rfl
      · exact ⟨h.2.2.2.1, good_of_word (bg_good _ h.2.2.2.1)⟩
      · exact ⟨h.2.2.2.2, good_of_word (bg_good _ h.2.2.2.2)⟩
      · exact ⟨h.2.1, good_of_word (bg_good _ h.2.1)⟩
    · exact wc_good h.1 w q
  refine va_calli (vx_runSW (As := As) (rest := rest) ⟨hx, hb, hC.1, hC.2.2, hC.2.1⟩ hM (vx_cwSW n hC.2.1 hG rfl hrc hrs h.2.2.1 hR) ⟨mPy_blind, fun V hV hW => ⟨rfl, hw.stop hV hW.alike, (hz.pre hw hV hW).1, (hz.pre hw hV hW).2⟩⟩ rfl hn hls hst (lv_room hW8) hdg hf) hw.2.2.2.1 (fun q _ h => wA_sub hw q h) (wA_sub hw) (fun r u t H1 locs1 ht hvm hp hB hsz hk1 hS => ?_)
  exact kk r u.1 u.2.1 u.2.2.1 u.2.2.2 H1 locs1 hp (hw.back ht hvm hB hS)
end YH
