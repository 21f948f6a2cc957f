/-! contracts over the world: they begin and end with it -/
def mP (T : wT) (F : wFt) (U K : wUt) (I : wIt) (O : wOt) (av : List Value) : Array Value → State → Prop := va_Pc av (fun t => wd T F U K I O t)
def mQv (T : wT) (F : wFt) (U K : wUt) (I : wIt) (O : wOt) : Array Value → State → Outcome → State → Prop := va_Qv (fun _ : Unit => True) (fun _ t => wd T F U K I O t) (wA T)
def mQi (T : wT) (r : Int32) (F : wFt) (U K : wUt) (I : wIt) (O : wOt) : Array Value → State → Outcome → State → Prop := va_Qi (fun x (_ : Unit) => x = r) (fun _ t => wd T F U K I O t) (wA T)
def mQl (T : wT) (r : Int64) (F : wFt) (U K : wUt) (I : wIt) (O : wOt) : Array Value → State → Outcome → State → Prop := va_Ql (fun x (_ : Unit) => x = r) (fun _ t => wd T F U K I O t) (wA T)
def wC (m : MethodId) (c : Code) (maxL : Nat) (s : State) (args : Array Value) (own : String) : Prop := c.maxLocals = maxL ∧ (∀ w ∈ bg, w.before args s = true) ∧ s.vm.findClass own = some m.cls
section EN
variable {p : Program} {l : Launch} {e : Env} {R : Room} {s : State} {m : MethodId} {args : Array Value} {below : List Frame} {meth : Method} {c : Code} {H H0 : Heap} {locs : List Loc} {cells slots : Nat} {Q : State → Prop}
variable {cc : ByteArray} {pc maxL : Nat} {ls : Array Slot} {rest : List Value} {T : wT} {F F' : wFt} {U K U' K' : wUt} {I I' : wIt} {O O' : wOt} {A : Nat → Prop} {own : String}
theorem wC.hts (h : wC m c maxL s args own) {w : Cond} (hw : w ∈ bg) : w.before args s = true := h.2.1 w hw
theorem wC.ow (h : wC m c maxL s args own) : s.vm.findClass own = some m.cls := h.2.2
theorem wA_in (T : wT) : ∀ k, k < 97 → wA T (wa T k) := fun k hk => ⟨k, hk, rfl⟩
theorem wH.start (h : wd T F U K I O s) : wH T F U K I O (wA T) s s.heap s.heap [] := ⟨h.1, h.2.1, h.2.2, va_S.rf, wA_in T⟩
theorem wH.stop {t : State} (h : wH T F U K I O A s H0 H locs) (ht : t.heap = H) (hW : s.vm.Alike t.vm) : wd T F U K I O t := ⟨by rw [ht]; exact h.1, va_K.moved hW h.2.1, h.2.2.1⟩
theorem wM_v {y : MethodName} (hpn : plainName y.cls = true) {rm : Room} {av : List Value} (hav : (lg_sl av).length ≤ maxL)
    (body : ∀ (p : Program) (e : Env) (R : Room) (s : State) (m : MethodId) (args : Array Value) (below : List Frame) (meth : Method) (c : Code) (Q : State → Prop) (ls : Array Slot), p.tables.exec = Jvm.exec → c.code = cc → wC m c maxL s args y.cls → rm.frames ≤ R.frames → rm.locals ≤ R.locals →
      (∀ (H : Heap) (locs : List Loc) (pc : Nat) (ls : Array Slot), wH T F' U' K' I' O' (wA T) s s.heap H locs → decode cc pc = .ok (.return_, 1) → W p l e R s m args below meth c H locs 0 0 Q (F0 m pc ls [])) →
      lv_has ls maxL (lv_args 0 av) → wH T F U K I O (wA T) s s.heap s.heap [] → W p l e R s m args below meth c s.heap [] 0 0 Q (F0 m 0 ls [])) :
    Met l y (.code y cc maxL none :: bg) rm (mP T F U K I O av) (mQv T F' U' K' I' O') 0 0 (wA T) := by
  refine Met.ofW (cc := cc) (maxL := maxL) (ret := none) hpn rfl ?_
  intro p e s m args below meth c s₁ B hml hv
  obtain ⟨rfl, hv⟩ := hv
  have hts := atoms_spec (ws := (.code y cc maxL none :: bg)) B.pre
  have hlocks := B.notSynchronized
  rw [lg_entry_eq]
  refine body p e _ s m _ below meth c _ _ B.exec B.bytes ⟨hml, fun w h => hts w (List.mem_cons_of_mem _ h), findClass_of_methodNamed B.named⟩ (Nat.le_refl _) (Nat.le_refl _) ?_ (lv_entry av hav) (wH.start hv)
  intro H locs pc ls hw hd
  exact W.vret B.exec B.bytes B.returns (fun t ht hW => ⟨⟨(), rfl, trivial, hw.stop ht hW.alike⟩, hw.2.2.2.1.F ht⟩) hw.2.2.2.1.2.2 hd hlocks
theorem wM_i {y : MethodName} (hpn : plainName y.cls = true) {rm : Room} {av : List Value} (hav : (lg_sl av).length ≤ maxL) {r : Int32}
    (body : ∀ (p : Program) (e : Env) (R : Room) (s : State) (m : MethodId) (args : Array Value) (below : List Frame) (meth : Method) (c : Code) (Q : State → Prop) (ls : Array Slot), p.tables.exec = Jvm.exec → c.code = cc → wC m c maxL s args y.cls → rm.frames ≤ R.frames → rm.locals ≤ R.locals →
      (∀ (H : Heap) (locs : List Loc) (pc : Nat) (ls : Array Slot), wH T F' U' K' I' O' (wA T) s s.heap H locs → decode cc pc = .ok (.ireturn, 1) → W p l e R s m args below meth c H locs 0 0 Q (F0 m pc ls [.int r])) →
      lv_has ls maxL (lv_args 0 av) → wH T F U K I O (wA T) s s.heap s.heap [] → W p l e R s m args below meth c s.heap [] 0 0 Q (F0 m 0 ls [])) :
    Met l y (.code y cc maxL (some .int) :: bg) rm (mP T F U K I O av) (mQi T r F' U' K' I' O') 0 0 (wA T) := by
  refine Met.ofW (cc := cc) (maxL := maxL) (ret := some .int) hpn rfl ?_
  intro p e s m args below meth c s₁ B hml hv
  obtain ⟨rfl, hv⟩ := hv
  have hts := atoms_spec (ws := (.code y cc maxL (some .int) :: bg)) B.pre
  have hlocks := B.notSynchronized
  rw [lg_entry_eq]
  refine body p e _ s m _ below meth c _ _ B.exec B.bytes ⟨hml, fun w h => hts w (List.mem_cons_of_mem _ h), findClass_of_methodNamed B.named⟩ (Nat.le_refl _) (Nat.le_refl _) ?_ (lv_entry av hav) (wH.start hv)
  intro H locs pc ls hw hd
  exact W.iret B.exec B.bytes B.returns (fun t ht hW => ⟨⟨r, (), rfl, rfl, hw.stop ht hW.alike⟩, hw.2.2.2.1.F ht⟩) hw.2.2.2.1.2.2 hd hlocks
theorem wM_z {y : MethodName} (hpn : plainName y.cls = true) {rm : Room} {av : List Value} (hav : (lg_sl av).length ≤ maxL) {r : Int32} (hr1 : narrow .boolean (.int r) = .int r)
    (body : ∀ (p : Program) (e : Env) (R : Room) (s : State) (m : MethodId) (args : Array Value) (below : List Frame) (meth : Method) (c : Code) (Q : State → Prop) (ls : Array Slot), p.tables.exec = Jvm.exec → c.code = cc → wC m c maxL s args y.cls → rm.frames ≤ R.frames → rm.locals ≤ R.locals →
      (∀ (H : Heap) (locs : List Loc) (pc : Nat) (ls : Array Slot), wH T F' U' K' I' O' (wA T) s s.heap H locs → decode cc pc = .ok (.ireturn, 1) → W p l e R s m args below meth c H locs 0 0 Q (F0 m pc ls [.int r])) →
      lv_has ls maxL (lv_args 0 av) → wH T F U K I O (wA T) s s.heap s.heap [] → W p l e R s m args below meth c s.heap [] 0 0 Q (F0 m 0 ls [])) :
    Met l y (.code y cc maxL (some .boolean) :: bg) rm (mP T F U K I O av) (mQi T r F' U' K' I' O') 0 0 (wA T) := by
  refine Met.ofW (cc := cc) (maxL := maxL) (ret := some .boolean) hpn rfl ?_
  intro p e s m args below meth c s₁ B hml hv
  obtain ⟨rfl, hv⟩ := hv
  have hts := atoms_spec (ws := (.code y cc maxL (some .boolean) :: bg)) B.pre
  have hlocks := B.notSynchronized
  rw [lg_entry_eq]
  refine body p e _ s m _ below meth c _ _ B.exec B.bytes ⟨hml, fun w h => hts w (List.mem_cons_of_mem _ h), findClass_of_methodNamed B.named⟩ (Nat.le_refl _) (Nat.le_refl _) ?_ (lv_entry av hav) (wH.start hv)
  intro H locs pc ls hw hd
  exact W.zret B.exec B.bytes B.returns hr1 (fun t ht hW => ⟨⟨r, (), rfl, rfl, hw.stop ht hW.alike⟩, hw.2.2.2.1.F ht⟩) hw.2.2.2.1.2.2 hd hlocks
theorem wM_l {y : MethodName} (hpn : plainName y.cls = true) {rm : Room} {av : List Value} (hav : (lg_sl av).length ≤ maxL) {r : Int64}
    (body : ∀ (p : Program) (e : Env) (R : Room) (s : State) (m : MethodId) (args : Array Value) (below : List Frame) (meth : Method) (c : Code) (Q : State → Prop) (ls : Array Slot), p.tables.exec = Jvm.exec → c.code = cc → wC m c maxL s args y.cls → rm.frames ≤ R.frames → rm.locals ≤ R.locals →
      (∀ (H : Heap) (locs : List Loc) (pc : Nat) (ls : Array Slot), wH T F' U' K' I' O' (wA T) s s.heap H locs → decode cc pc = .ok (.lreturn, 1) → W p l e R s m args below meth c H locs 0 0 Q (F0 m pc ls [.long r])) →
      lv_has ls maxL (lv_args 0 av) → wH T F U K I O (wA T) s s.heap s.heap [] → W p l e R s m args below meth c s.heap [] 0 0 Q (F0 m 0 ls [])) :
    Met l y (.code y cc maxL (some .long) :: bg) rm (mP T F U K I O av) (mQl T r F' U' K' I' O') 0 0 (wA T) := by
  refine Met.ofW (cc := cc) (maxL := maxL) (ret := some .long) hpn rfl ?_
  intro p e s m args below meth c s₁ B hml hv
  obtain ⟨rfl, hv⟩ := hv
  have hts := atoms_spec (ws := (.code y cc maxL (some .long) :: bg)) B.pre
  have hlocks := B.notSynchronized
  rw [lg_entry_eq]
  refine body p e _ s m _ below meth c _ _ B.exec B.bytes ⟨hml, fun w h => hts w (List.mem_cons_of_mem _ h), findClass_of_methodNamed B.named⟩ (Nat.le_refl _) (Nat.le_refl _) ?_ (lv_entry av hav) (wH.start hv)
  intro H locs pc ls hw hd
  exact W.lret B.exec B.bytes B.returns (fun t ht hW => ⟨⟨r, (), rfl, rfl, hw.stop ht hW.alike⟩, hw.2.2.2.1.F ht⟩) hw.2.2.2.1.2.2 hd hlocks
/-! calls -/
def wLk (own : String) (index : Nat) (y : MethodName) (bytes : ByteArray) (mL : Nat) (ret : Option FieldType) (n : Nat) : Prop :=
  Cond.code y bytes mL ret ∈ bg ∧ Cond.initialized y.cls ∈ bg ∧ (y.cls ≠ "java/lang/invoke/MethodHandle" ∧ y.cls ≠ "java/lang/invoke/VarHandle") ∧ (parseMethodDescriptor y.desc).map (fun d => d.parameters.length) = some n ∧ Cond.methodLink own index y ∈ bg
def wLv (own : String) (index : Nat) (y : MethodName) (bytes : ByteArray) (mL : Nat) (ret : Option FieldType) (n : Nat) : Prop :=
  wLk own index y bytes mL ret n ∧ Cond.instanceMethod y ∈ bg ∧ Cond.selects y.cls y y ∈ bg
def wLs (own : String) (index : Nat) (y : MethodName) (bytes : ByteArray) (mL : Nat) (ret : Option FieldType) (n : Nat) : Prop :=
  wLk own index y bytes mL ret n ∧ Cond.static y ∈ bg
variable {y : MethodName} {bytes : ByteArray} {mL n index : Nat} {ret : Option FieldType} {rm : Room}
theorem wc_good {w0 : Cond} (h : w0 ∈ bg) : GoodIn bg (w0 :: bg) := fun w hw => (List.mem_cons.mp hw).elim (fun q => by rw [q]; exact ⟨h, good_of_word (bg_good _ h)⟩) (fun q => ⟨q, good_of_word (bg_good _ q)⟩)
theorem wc_B (hC : wC m c maxL s args own) (h : wLk own index y bytes mL ret n) (hrc : rm.cells = 0) (hrs : rm.slots = 0) (hR : rm.frames + 1 ≤ R.frames ∧ 8 + (mL + 11) + rm.locals ≤ R.locals) : CallB R s args own index y bytes mL ret (.code y bytes mL ret :: bg) rm 0 0 n :=
  callB_of n hC.2.1 (wc_good h.1) rfl hrc hrs (hC.hts h.2.1) (hC.hts h.2.2.2.2) ⟨h.2.2.1.1, h.2.2.1.2, h.2.2.2.1⟩ hR
theorem mP_blind {av : List Value} : FrameBlind (mP T F U K I O av) := fun a V g mk q => ⟨q.1, q.2.1, va_K.moved (u := V) (U := V.calling g mk a) (Vm.Alike.refl V.vm) q.2.2.1, q.2.2.2⟩
theorem wH.pre {av : List Value} (hw : wH T F U K I O A s H0 H locs) : ∀ V : State, V.heap = H → s.WarmedH V.vm → mP T F U K I O av av.toArray V := fun V hV hW => ⟨rfl, hw.stop hV hW.alike⟩
theorem wH.recv {k ci : Nat} {fs : List Value} {C : String} {Tt : u_T} {N : Nat} (hw : wH T F U K I O A s H0 H locs) (hk : k < 97) (he : wE T F U K I O k = .inr (ci, fs)) (hc : clS[ci]? = some (C, Tt, N)) : ∃ cellB : Cell, H[wa T k]? = some cellB ∧ cellB.vm.isStatics = false ∧ s.vm.findClass C = some cellB.cls := by
  have h1 := hw.1 k _ (wl_at hk)
  rw [he] at h1
  obtain ⟨r, h2, cell, q1, q2, q3, q4⟩ := h1
  have hr : r = (C, Tt, N) := Option.some.inj (h2.symm.trans hc)
  subst hr
  obtain ⟨hS, hfc, kC, hkC, hkind⟩ := hw.2.1.1 ci _ hc
  exact ⟨cell, q1, by rw [q3]; rfl, by rw [q2]; exact hfc⟩
theorem wH.back {t : State} {H1 : Heap} {locs1 : List Loc} (hw : wH T F U K I O A s H0 H locs) (ht : t.heap = H1) (hvm : s.vm.Alike t.vm) (hB : wd T F' U' K' I' O' t) (hS : va_S A H0 H1 locs1) : wH T F' U' K' I' O' A s H0 H1 locs1 :=
  ⟨by rw [← ht]; exact hB.1, va_K.moved hvm.symm hB.2.1, hB.2.2, hS, hw.2.2.2.2⟩
theorem wA_sub (hw : wH T F U K I O A s H0 H locs) : ∀ q, wA T q → A q := fun q h => by obtain ⟨k, hk, rfl⟩ := h; exact hw.2.2.2.2 k hk
end EN
