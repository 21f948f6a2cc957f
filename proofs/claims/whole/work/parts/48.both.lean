/-! methods of the class that return or throw -/
def mQi2 (T : wT) (Pr : Int32 → (Nat → Nat) → wUt → Prop) (I : wIt) (O : wOt) : Array Value → State → Outcome → State → Prop := va_Qi (fun x (u : (Nat → Nat) × wUt) => Pr x u.1 u.2) (fun u t => wd T (fF u.1) (fU u.1) u.2 I O t) (wA T)
def mQl2 (T : wT) (Pr : Int64 → (Nat → Nat) → wUt → Prop) (I : wIt) (O : wOt) : Array Value → State → Outcome → State → Prop := va_Ql (fun x (u : (Nat → Nat) × wUt) => Pr x u.1 u.2) (fun u t => wd T (fF u.1) (fU u.1) u.2 I O t) (wA T)
def xXm (T : wT) (EP : String → Prop) (Pr : (Nat → Nat) → wUt → Prop) (I : wIt) (O : wOt) : String → State → State → Prop := vx_X (fun u : (Nat → Nat) × wUt => Pr u.1 u.2) (fun E u t => EP E ∧ wd T (fF u.1) (fU u.1) u.2 I O t) (wA T)
/-- the exceptions and the codes under which the law's helper tells them -/
def eP (oc : Nat) (es : List (String × Nat)) : String → Prop := fun E => (E, oc) ∈ es
section YM
variable {p : Program} {l : Launch} {e : Env} {R : Room} {s : State} {m : MethodId} {args : Array Value} {below : List Frame} {meth : Method} {c : Code} {H H0 : Heap} {locs : List Loc} {cells slots : Nat} {Q : State → Prop}
variable {cc : ByteArray} {pc maxL : Nat} {ls : Array Slot} {rest st0 As : List Value} {T : wT} {F F' : wFt} {U K U' K' : wUt} {I I' : wIt} {O O' : wOt} {A : Nat → Prop} {own : String}
variable {EP : String → Prop} {Px : (Nat → Nat) → wUt → Prop}
/-- how a body that may throw returns -/
def yR (p : Program) (l : Launch) (e : Env) (R : Room) (s : State) (m : MethodId) (args : Array Value) (below : List Frame) (meth : Method) (c : Code) (T : wT) (Q : State → Prop) (Qc : Array Value → State → Outcome → State → Prop) (ret : Option FieldType) : Prop :=
  meth.sig.returnType = ret ∧ meth.locks = false ∧ ∀ (H : Heap) (locs : List Loc) (cells slots : Nat) (g : JFrame), cells ≤ 1 → slots ≤ 6 → W p l e R s m args below meth c H locs 1 6 (MQ below Qc args s 1 6 (wA T)) g → W p l e R s m args below meth c H locs cells slots Q g
theorem yM {y : MethodName} {Qc : Array Value → State → Outcome → State → Prop} (hcl : y.cls = "LimbRegisters") (hst : l.stackTraces = false) {rm : Room} {av : List Value} (hav : (lg_sl av).length ≤ maxL) {ret : Option FieldType} (hrc : rm.cells = 1) (hrs : rm.slots = 6)
    (body : ∀ (p : Program) (e : Env) (R : Room) (s : State) (m : MethodId) (args : Array Value) (below : List Frame) (meth : Method) (c : Code) (Q : State → Prop) (ls : Array Slot), p.tables.exec = Jvm.exec → c.code = cc → wC m c maxL s args "LimbRegisters" → rm.frames ≤ R.frames → rm.locals ≤ R.locals → 1 ≤ R.cells ∧ 6 ≤ R.slots → wS T s s.heap →
      yR p l e R s m args below meth c T Q Qc ret →
      (∀ (E0 : String) (V' : Nat → Nat) (K' : wUt) (H : Heap) (locs : List Loc) (pc : Nat) (ls : Array Slot) (rest : List Value) (ce : Cell) (q : Addr), EP E0 → Px V' K' → wH T (fF V') (fU V') K' I' O' (wA T) s s.heap H locs → H[q]? = some ce → ce.vm = .none → s.vm.findClass E0 = some ce.cls → vx_W p l e R s m args below meth c H locs 1 6 Q (F0 m pc ls rest) q) →
      (∀ (E0 : String) (V' : Nat → Nat) (K' : wUt) (H : Heap) (locs : List Loc) (pc : Nat) (ls : Array Slot) (rest : List Value) (ik is ic : Nat) (names : List String) (text : String), xT E0 ik is ic names text → EP E0 → Px V' K' → wH T (fF V') (fU V') K' I' O' (wA T) s s.heap H locs → ls.size = maxL →
        decode cc pc = .ok (.new ik, 3) → decode cc (pc + 3) = .ok (.dup, 1) → decode cc (pc + 4) = .ok (.ldc is, 2) → decode cc (pc + 6) = .ok (.invokespecial ic, 3) → decode cc (pc + 9) = .ok (.athrow, 1) → names.length + 3 < R.frames → (rest.map fun v => v.category).sum + (13 * (names.length + 1) + 43) ≤ R.locals → W p l e R s m args below meth c H locs 0 0 Q (F0 m pc ls rest)) →
      lv_has ls maxL (lv_args 0 av) → wH T F U K I O (wA T) s s.heap s.heap [] → W p l e R s m args below meth c s.heap [] 0 0 Q (F0 m 0 ls [])) :
    vx_Met l y (.code y cc maxL ret :: bg) rm (mPx T F U K I O av) Qc (xXm T EP Px I' O') 1 6 (wA T) := by
  refine vx_ofW (cc := cc) (maxL := maxL) (ret := ret) (by rw [hcl]; decide) rfl ?_
  intro p e s m args below meth c s₁ B hml htab hv
  obtain ⟨rfl, hv, hv2⟩ := hv
  have hts := atoms_spec (ws := (.code y cc maxL ret :: bg)) B.pre
  have hlocks := B.notSynchronized
  have hC : wC m c maxL s av.toArray "LimbRegisters" := ⟨hml, fun w h => hts w (List.mem_cons_of_mem _ h), hcl ▸ findClass_of_methodNamed B.named⟩
  rw [lg_entry_eq]
  refine body p e _ s m _ below meth c _ _ B.exec B.bytes hC (Nat.le_refl _) (Nat.le_refl _) ⟨?_, ?_⟩ hv2 ⟨B.returns, hlocks, fun H locs cells slots g h1 h2 k => W.widen h1 h2 (vx_ret k)⟩ ?_ ?_ (lv_entry av hav) (wH.start hv)
  · show 1 ≤ rm.cells; omega
  · show 6 ≤ rm.slots; omega
  · intro E0 V' K' H locs pc ls rest ce q hE hP hw h1 h2 h3
    exact vx_out (fun x hx => (htab x hx).elim) hlocks h1 h2 h3 (fun t ht hA => ⟨(V', K'), hP, ⟨hE, hw.stop ht hA⟩, hw.2.2.2.1.F ht⟩) hw.2.2.2.1.2.2 (Nat.le_refl _) (Nat.le_refl _)
  · intro E0 V' K' H locs pc ls rest ik is ic names text hT hE hP hw hls d0 d3 d4 d6 d9 hfr hlo
    have hG := xT_good hT
    obtain ⟨t1, t2, t3, t4, t5, t6⟩ := hT
    obtain ⟨sa, hsa⟩ := hv2.2.2.2 _ t5
    exact vx_throwS B.exec B.bytes hst hC.2.2 t1 t2 (hC.hts t3) (hC.hts t4) hsa (fun w hw9 => (t6 w hw9).elim (fun q => hC.hts q) (fun q => hv2.word q)) hG hv2.1 hv2.2.1 hw.2.2.2.1 (hls.trans hml.symm) d0 d3 d4 d6 d9 (fun x hx => (htab x hx).elim) hfr hlo
      (by show 0 + 1 ≤ rm.cells; omega) (by show 0 + 6 ≤ rm.slots; omega) hlocks (fun t hA hz hq => ⟨(V', K'), hP, ⟨hE, hw.grow hA hq⟩, ⟨Nat.le_trans hw.2.2.2.1.1 hz, fun q h1 h2 => (hq q (Nat.lt_of_lt_of_le h1 hw.2.2.2.1.1)).trans (hw.2.2.2.1.2.1 q h1 h2)⟩⟩) hw.2.2.2.1.2.2 (Nat.le_refl _) (Nat.le_refl _)
theorem yv {Pr : (Nat → Nat) → wUt → Prop} {V' : Nat → Nat} (h : yR p l e R s m args below meth c T Q (mQvp T Pr I' O') none) (hc1 : cells ≤ 1) (hc6 : slots ≤ 6) (hx : p.tables.exec = Jvm.exec) (hb : c.code = cc) (hP : Pr V' K') (hw : wH T (fF V') (fU V') K' I' O' (wA T) s s.heap H locs) (hd : decode cc pc = .ok (.return_, 1)) : W p l e R s m args below meth c H locs cells slots Q (F0 m pc ls []) :=
  h.2.2 _ _ _ _ _ hc1 hc6 (W.vret hx hb h.1 (fun t ht hW => ⟨⟨(V', K'), rfl, hP, hw.stop ht hW.alike⟩, hw.2.2.2.1.F ht⟩) hw.2.2.2.1.2.2 hd h.2.1)
theorem yi {Pr : Int32 → (Nat → Nat) → wUt → Prop} {r : Int32} {V' : Nat → Nat} (h : yR p l e R s m args below meth c T Q (mQi2 T Pr I' O') (some .int)) (hc1 : cells ≤ 1) (hc6 : slots ≤ 6) (hx : p.tables.exec = Jvm.exec) (hb : c.code = cc) (hP : Pr r V' K') (hw : wH T (fF V') (fU V') K' I' O' (wA T) s s.heap H locs) (hd : decode cc pc = .ok (.ireturn, 1)) : W p l e R s m args below meth c H locs cells slots Q (F0 m pc ls [.int r]) :=
  h.2.2 _ _ _ _ _ hc1 hc6 (W.iret hx hb h.1 (fun t ht hW => ⟨⟨r, (V', K'), rfl, hP, hw.stop ht hW.alike⟩, hw.2.2.2.1.F ht⟩) hw.2.2.2.1.2.2 hd h.2.1)
theorem yz {Pr : Int32 → (Nat → Nat) → wUt → Prop} {r : Int32} {V' : Nat → Nat} (hr1 : narrow .boolean (.int r) = .int r) (h : yR p l e R s m args below meth c T Q (mQi2 T Pr I' O') (some .boolean)) (hc1 : cells ≤ 1) (hc6 : slots ≤ 6) (hx : p.tables.exec = Jvm.exec) (hb : c.code = cc) (hP : Pr r V' K') (hw : wH T (fF V') (fU V') K' I' O' (wA T) s s.heap H locs) (hd : decode cc pc = .ok (.ireturn, 1)) : W p l e R s m args below meth c H locs cells slots Q (F0 m pc ls [.int r]) :=
  h.2.2 _ _ _ _ _ hc1 hc6 (W.zret hx hb h.1 hr1 (fun t ht hW => ⟨⟨r, (V', K'), rfl, hP, hw.stop ht hW.alike⟩, hw.2.2.2.1.F ht⟩) hw.2.2.2.1.2.2 hd h.2.1)
theorem yl {Pr : Int64 → (Nat → Nat) → wUt → Prop} {r : Int64} {V' : Nat → Nat} (h : yR p l e R s m args below meth c T Q (mQl2 T Pr I' O') (some .long)) (hc1 : cells ≤ 1) (hc6 : slots ≤ 6) (hx : p.tables.exec = Jvm.exec) (hb : c.code = cc) (hP : Pr r V' K') (hw : wH T (fF V') (fU V') K' I' O' (wA T) s s.heap H locs) (hd : decode cc pc = .ok (.lreturn, 1)) : W p l e R s m args below meth c H locs cells slots Q (F0 m pc ls [.long r]) :=
  h.2.2 _ _ _ _ _ hc1 hc6 (W.lret hx hb h.1 (fun t ht hW => ⟨⟨r, (V', K'), rfl, hP, hw.stop ht hW.alike⟩, hw.2.2.2.1.F ht⟩) hw.2.2.2.1.2.2 hd h.2.1)
end YM
