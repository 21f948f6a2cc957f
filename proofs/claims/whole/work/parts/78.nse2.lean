/-! NoSuchElementException: the throw, and the entry of the method that has it -/
theorem xn_in : ∀ w ∈ xnW, w ∈ bg ∨ w ∈ xW := by decide +kernel
section XT
variable {p : Program} {l : Launch} {e : Env} {R : Room} {s : State} {m : MethodId} {args : Array Value} {below : List Frame} {meth : Method} {c : Code} {H : Heap} {locs : List Loc} {cells slots : Nat} {Q : State → Prop} {ls : Array Slot} {rest : List Value} {free : Addr → Prop}
variable {Qc : Array Value → State → Outcome → State → Prop} {XC : String → State → State → Prop}
theorem xn_throw {cc : ByteArray} {pc : Nat} (hexec : p.tables.exec = Jvm.exec) (hb : c.code = cc) (hl : l.stackTraces = false) {text : String} {mc ms sa : Nat} {A : Nat → Prop}
    (hown : s.vm.findClass "LimbRegisters" = some m.cls)
    (hk : (Cond.classLink "LimbRegisters" 171 eNE).before args s = true) (hini : (Cond.initialized eNE).before args s = true) (hstr : vk_R "LimbRegisters" 173 text sa s) (hat : ∀ w ∈ xnW, w.before args s = true)
    (hgood : ∀ w ∈ Cond.classLink "LimbRegisters" 171 eNE :: Cond.initialized eNE :: xnW, vx_ot w = true)
    (hU : vx_Zq Bundle.tN "UNASSIGNED_STACK" Bundle.steD A s s.heap) (hN : vx_Zq Bundle.tN "SUPPRESSED_SENTINEL" Bundle.listD A s s.heap) (hS : va_S A s.heap H locs) (hsize : ls.size = c.maxLocals)
    (d0 : decode cc pc = .ok (.new 171, 3)) (d3 : decode cc (pc + 3) = .ok (.dup, 1)) (d4 : decode cc (pc + 4) = .ok (.ldc 173, 2)) (d6 : decode cc (pc + 6) = .ok (.invokespecial 175, 3)) (d9 : decode cc (pc + 9) = .ok (.athrow, 1))
    (hout : ∀ x ∈ c.exceptionTable.toList, covers x (pc + 9) = false)
    (hRframes : 2 + 3 < R.frames) (hRlocals : (rest.map fun v => v.category).sum + (13 * (2 + 1) + 43) ≤ R.locals) (hRcells : cells + 1 ≤ R.cells) (hRslots : slots + 6 ≤ R.slots) (hlocks : meth.locks = false)
    (hx : ∀ t : State, s.vm.Alike t.vm → H.size ≤ t.heap.size → (∀ q : Nat, q < H.size → t.heap[q]? = H[q]?) → XC eNE s t)
    (hf : ∀ z ∈ locs, free z.base) (hc : cells + 1 ≤ mc) (hs : slots + 6 ≤ ms) :
    W p l e R s m args below meth c H locs cells slots (vx_MQ below Qc XC args s mc ms free) (F0 m pc ls rest) := by
  intro T hT X
  have htr : e.platform.stackTraces = false := (show e.platform.stackTraces = l.stackTraces by rw [X.admits.platform]).trans hl
  have Y := vx_rebase X (R' := { frames := R.frames, locals := R.locals, cells := 1, slots := 6 }) (Nat.le_refl _) (Nat.le_refl _) hRcells hRslots
  obtain ⟨s', hA⟩ : ∃ z, z = (T.setVm s.vm).setFrames (.invoking m args :: below) := ⟨_, rfl⟩
  rw [← hA] at Y
  have hvm : s'.vm = s.vm := by rw [hA]; rfl
  have hhp : s'.heap = H := by rw [hA]; exact hT
  have hW0 : s.WarmedH s'.vm := by rw [hvm]; exact State.WarmedH.refl s
  have hat' : ∀ w ∈ xnW, w.before args s' = true := fun w hw => vx_ot_at hW0 hvm.symm (hgood w (List.mem_cons_of_mem _ (List.mem_cons_of_mem _ hw))) (hat w hw)
  have hk' : (Cond.classLink "LimbRegisters" 171 eNE).before args s' = true := vx_ot_at hW0 hvm.symm (hgood _ List.mem_cons_self) hk
  have hini' : (Cond.initialized eNE).before args s' = true := vx_ot_at hW0 hvm.symm (hgood _ (List.mem_cons_of_mem _ List.mem_cons_self)) hini
  have hU' : vx_Zq Bundle.tN "UNASSIGNED_STACK" Bundle.steD A s' s'.heap := by rw [hhp]; exact vx_Zq.moved hW0.alike (hU.kept hS.2.1)
  have hN' : vx_Zq Bundle.tN "SUPPRESSED_SENTINEL" Bundle.listD A s' s'.heap := by rw [hhp]; exact vx_Zq.moved hW0.alike (hN.kept hS.2.1)
  have h : ∀ w ∈ xnL, w.before args s' = true := vx_own hat' (vx_isRefq hU'.1) (vx_isRefq hN'.1) hU'.2.word hN'.2.word
  have hown' : s'.vm.findClass "LimbRegisters" = some m.cls := by rw [hvm]; exact hown
  have hins : (Cond.instantiable eNE 6).before args s' = true := h _ (by decide +kernel)
  obtain ⟨vm₁, cX, kX, hfX, hkX, -, -, X₁, st1⟩ := Y.newCold hexec (own := "LimbRegisters") (C := eNE) (index := 171) (n := 6) hown' hk' hins hini'
    (g := F0 m pc ls rest) rfl (by rw [hb]; exact d0) (Nat.le_refl _) (Nat.le_refl _)
  generalize hT1 : (T.setVm vm₁).pushCell { cls := cX, slots := kX.instanceTypes.map defaultValue, vm := .none } = T1 at X₁ st1
  have hcat : (Value.ref T.heap.size).category = 1 := rfl
  have hcellA : T1.heap[T.heap.size]? = some (freshCell cX kX) := by rw [← hT1]; exact State.heap_pushCell_size _ _
  have d3' : decode c.code (pc + 3) = .ok (.dup, 1) := by rw [hb]; exact d3
  have d4' : decode c.code (pc + 4) = .ok (.ldc 173, 2) := by rw [hb]; exact d4
  have hstr' : vk_R "LimbRegisters" 173 text sa s' := vk_R.warm hW0 hstr
  obtain ⟨U, hsteps, hrun, hend, hW, hsame, ce, hce, hO1, hO2⟩ := xn_ctor X₁ hexec htr hown' h (fun x hx => nomatch hx) hfX hkX hcellA (by rw [hhp, hT]; exact Nat.le_refl _) (msg := .ref sa) rfl
    (g := { method := m, pc := pc + 6, locals := ls, stack := .ref sa :: .ref T.heap.size :: .ref T.heap.size :: rest, locked := none }) rfl hsize rfl rfl (rest := rest) rfl
    (by rw [hb]; exact d6) (by rw [hb]; exact d9) hout hRframes (by simp only [List.map_cons, List.sum_cons, hcat]; omega) hlocks
  obtain ⟨f1, f2⟩ := vx_frame hsame
  rw [hhp] at f1 f2
  have hWs : s.WarmedH U.vm := State.WarmedH.trans hW0 hW
  have hcl : s.vm.findClass eNE = some ce.cls := by
    have h9 := hO1
    rw [hvm] at h9
    exact h9
  have hall : s.sameButNew ({ U with vm := s.vm } : State) locs mc ms := by
    subst hA
    obtain ⟨e1, e2⟩ := hsame
    rw [State.setFrames_setFrames] at e1
    have h2 : (T.setVm s.vm).sameButNew ({ U with vm := s.vm } : State) [] (0 + 1) (0 + 6) := ⟨e1, e2⟩
    have h3 := X.same.trans h2
    rw [List.append_nil] at h3
    exact h3.mono hc hs
  refine ⟨U, ?_, .threw T.heap.size, hrun, hend, Or.inr ⟨T.heap.size, rfl, eNE, ce, locs, hx U hWs.alike f1 (fun q hq => f2 q hq (fun z hz => nomatch hz)), hce, hO2, hcl, hWs, hall, hf⟩⟩
  refine st1 _ ?_
  show Steps p.tables e below (T1.setTop { method := m, pc := pc + 3, locals := ls, stack := .ref T.heap.size :: rest, locked := none }) _
  jvm_step X₁.here [X₁.here.top, hexec, d3', Value.category]
  exact X₁.ldcString hexec (own := "LimbRegisters") (text := text) (index := 173) (a := sa) hown' hstr'.1 hstr'.2
    (g := { method := m, pc := pc + 4, locals := ls, stack := .ref T.heap.size :: .ref T.heap.size :: rest, locked := none }) rfl d4' _ hsteps
end XT
section YN
variable {p : Program} {l : Launch} {e : Env} {R : Room} {s : State} {m : MethodId} {args : Array Value} {below : List Frame} {meth : Method} {c : Code} {H H0 : Heap} {locs : List Loc} {cells slots : Nat} {Q : State → Prop}
variable {cc : ByteArray} {pc maxL : Nat} {ls : Array Slot} {rest st0 As : List Value} {T : wT} {F F' : wFt} {U K U' K' : wUt} {I I' : wIt} {O O' : wOt} {A : Nat → Prop} {own : String}
variable {EP : String → Prop} {Px : (Nat → Nat) → wUt → Prop}
theorem yMN {y : MethodName} {Qc : Array Value → State → Outcome → State → Prop} (hcl : y.cls = "LimbRegisters") (hst : l.stackTraces = false) {rm : Room} {av : List Value} (hav : (lg_sl av).length ≤ maxL) {ret : Option FieldType} (hrc : rm.cells = 1) (hrs : rm.slots = 6)
    (body : ∀ (p : Program) (e : Env) (R : Room) (s : State) (m : MethodId) (args : Array Value) (below : List Frame) (meth : Method) (c : Code) (Q : State → Prop) (ls : Array Slot), p.tables.exec = Jvm.exec → c.code = cc → wC m c maxL s args "LimbRegisters" → rm.frames ≤ R.frames → rm.locals ≤ R.locals → 1 ≤ R.cells ∧ 6 ≤ R.slots → wS T s s.heap →
      yR p l e R s m args below meth c T Q Qc ret →
      (∀ (E0 : String) (V' : Nat → Nat) (K' : wUt) (H : Heap) (locs : List Loc) (pc : Nat) (ls : Array Slot) (rest : List Value) (ce : Cell) (q : Addr), EP E0 → Px V' K' → wH T (fF V') (fU V') K' I' O' (wA T) s s.heap H locs → H[q]? = some ce → ce.vm = .none → s.vm.findClass E0 = some ce.cls → vx_W p l e R s m args below meth c H locs 1 6 Q (F0 m pc ls rest) q) →
      (∀ (E0 : String) (V' : Nat → Nat) (K' : wUt) (H : Heap) (locs : List Loc) (pc : Nat) (ls : Array Slot) (rest : List Value) (ik is ic : Nat) (names : List String) (text : String), xT E0 ik is ic names text → EP E0 → Px V' K' → wH T (fF V') (fU V') K' I' O' (wA T) s s.heap H locs → ls.size = maxL →
        decode cc pc = .ok (.new ik, 3) → decode cc (pc + 3) = .ok (.dup, 1) → decode cc (pc + 4) = .ok (.ldc is, 2) → decode cc (pc + 6) = .ok (.invokespecial ic, 3) → decode cc (pc + 9) = .ok (.athrow, 1) → names.length + 3 < R.frames → (rest.map fun v => v.category).sum + (13 * (names.length + 1) + 43) ≤ R.locals → W p l e R s m args below meth c H locs 0 0 Q (F0 m pc ls rest)) →
      (∀ (V' : Nat → Nat) (K' : wUt) (H : Heap) (locs : List Loc) (pc : Nat) (ls : Array Slot) (rest : List Value), EP eNE → Px V' K' → wH T (fF V') (fU V') K' I' O' (wA T) s s.heap H locs → ls.size = maxL →
        decode cc pc = .ok (.new 171, 3) → decode cc (pc + 3) = .ok (.dup, 1) → decode cc (pc + 4) = .ok (.ldc 173, 2) → decode cc (pc + 6) = .ok (.invokespecial 175, 3) → decode cc (pc + 9) = .ok (.athrow, 1) → 2 + 3 < R.frames → (rest.map fun v => v.category).sum + (13 * (2 + 1) + 43) ≤ R.locals → W p l e R s m args below meth c H locs 0 0 Q (F0 m pc ls rest)) →
      lv_has ls maxL (lv_args 0 av) → wH T F U K I O (wA T) s s.heap s.heap [] → W p l e R s m args below meth c s.heap [] 0 0 Q (F0 m 0 ls [])) :
    vx_Met l y (.code y cc maxL ret :: bg) rm (mPx T F U K I O av) Qc (xXm T EP Px I' O') 1 6 (wA T) := by
  refine vx_ofW (cc := cc) (maxL := maxL) (ret := ret) (by rw [hcl]; decide) rfl ?_
  intro p e s m args below meth c s₁ B hml htab hv
  obtain ⟨rfl, hv, hv2⟩ := hv
  have hts := atoms_spec (ws := (.code y cc maxL ret :: bg)) B.pre
  have hlocks := B.notSynchronized
  have hC : wC m c maxL s av.toArray "LimbRegisters" := ⟨hml, fun w h => hts w (List.mem_cons_of_mem _ h), hcl ▸ findClass_of_methodNamed B.named⟩
  rw [lg_entry_eq]
  refine body p e _ s m _ below meth c _ _ B.exec B.bytes hC (Nat.le_refl _) (Nat.le_refl _) ⟨?_, ?_⟩ hv2 ⟨B.returns, hlocks, fun H locs cells slots g h1 h2 k => W.widen h1 h2 (vx_ret k)⟩ ?_ ?_ ?_ (lv_entry av hav) (wH.start hv)
  · show 1 ≤ rm.cells; omega
  · show 6 ≤ rm.slots; omega
  · intro E0 V' K' H locs pc ls rest ce q hE hP hw h1 h2 h3
    exact vx_out (fun x hx => (htab x hx).elim) hlocks h1 h2 h3 (fun t ht hA => ⟨(V', K'), hP, ⟨hE, hw.stop ht hA⟩, hw.2.2.2.1.F ht⟩) hw.2.2.2.1.2.2 (Nat.le_refl _) (Nat.le_refl _)
  · intro E0 V' K' H locs pc ls rest ik is ic names text hT hE hP hw hls d0 d3 d4 d6 d9 hfr hlo
    have hG := xT_good hT
    obtain ⟨t1, t2, t3, t4, t5, t6⟩ := hT
    obtain ⟨sa, hsa⟩ := hv2.2.2.2 _ t5
    exact vx_throwS B.exec B.bytes hst hC.2.2 t1 t2 (hC.hts t3) (hC.hts t4) hsa (fun w hw9 => (t6 w hw9).elim (fun q => hC.hts q) (fun q => hv2.word q)) hG hv2.1 hv2.2.1 hw.2.2.2.1 (hls.trans hml.symm) d0 d3 d4 d6 d9 (fun x hx => (htab x hx).elim) hfr hlo
      (by show 0 + 1 ≤ rm.cells; omega) (by show 0 + 6 ≤ rm.slots; omega) hlocks (fun t hA hz hq => ⟨(V', K'), hP, ⟨hE, hw.grow hA hq⟩, ⟨Nat.le_trans hw.2.2.2.1.1 hz, fun q h1 h2 => (hq q (Nat.lt_of_lt_of_le h1 hw.2.2.2.1.1)).trans (hw.2.2.2.1.2.1 q h1 h2)⟩⟩) hw.2.2.2.1.2.2 (Nat.le_refl _) (Nat.le_refl _)
  · intro V' K' H locs pc ls rest hE hP hw hls d0 d3 d4 d6 d9 hfr hlo
    obtain ⟨sa, hsa⟩ := hv2.2.2.2 (173, "no inverse by this modulus") (by decide +kernel)
    have g : ∀ w ∈ bg, vx_ot w = true := fun w q => by unfold vx_ot; rw [bg_good w q, Bool.or_true]
    exact xn_throw B.exec B.bytes hst hC.2.2 (hC.hts (by decide +kernel)) (hC.hts (by decide +kernel)) hsa (fun w hw9 => (xn_in w hw9).elim (fun q => hC.hts q) (fun q => hv2.word q))
      (fun w hw9 => by
        rcases List.mem_cons.mp hw9 with rfl | hw9
        · exact g _ (by decide +kernel)
        · rcases List.mem_cons.mp hw9 with rfl | hw9
          · exact g _ (by decide +kernel)
          · rcases xn_in w hw9 with q | q
            · exact g _ q
            · exact xW_ot (List.mem_filter.mp q).2)
      hv2.1 hv2.2.1 hw.2.2.2.1 (hls.trans hml.symm) d0 d3 d4 d6 d9 (fun x hx => (htab x hx).elim) hfr hlo
      (by show 0 + 1 ≤ rm.cells; omega) (by show 0 + 6 ≤ rm.slots; omega) hlocks (fun t hA hz hq => ⟨(V', K'), hP, ⟨hE, hw.grow hA hq⟩, ⟨Nat.le_trans hw.2.2.2.1.1 hz, fun q h1 h2 => (hq q (Nat.lt_of_lt_of_le h1 hw.2.2.2.1.1)).trans (hw.2.2.2.1.2.1 q h1 h2)⟩⟩) hw.2.2.2.1.2.2 (Nat.le_refl _) (Nat.le_refl _)
end YN
