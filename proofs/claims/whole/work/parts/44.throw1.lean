/-! exceptions of the class: what a thrower needs, what its caller gets -/
def xWk (w : Cond) : Bool := match w with
  | .castable _ _ => true
  | .declares .. => true
  | _ => false
def xW : List Cond := lw_tbl.filter xWk
def xS : List (Nat × String) := [(243, "no such register"), (134, "too great"), (88, "quotient and rest in the same register"), (101, "division by 0"), (140, "the root's degree is below 1"), (142, "root of a number below 0"), (247, "the modulus is not above 0"), (157, "the exponent is below 0"), (173, "no inverse by this modulus"), (188, "no such bit"), (199, "not 1 to 8 characters"), (205, "a code that is not 32 to 126"), (213, "the text would have more than 1200 characters"), (245, "the radix is not 2 to 36"), (226, "the text is no numeral in this radix"), (237, "no such character")]
theorem xW_ot {w : Cond} (hw : xWk w = true) : vx_ot w = true := by
  cases w <;> first | rfl | (exact absurd hw (by simp [xWk]))
theorem xW_moved {w : Cond} (hw : xWk w = true) {s V : State} (hW : s.WarmedH V.vm) (h : w.before #[] s = true) : w.before #[] V = true := by
  have h1 : w.before #[] (s.setVm V.vm) = true := by
    cases w <;> first | (rw [Cond.castable_setVm hW.alike]; exact h) | (rw [Cond.declares_setVm hW.alike]; exact h) | (exact absurd hw (by simp [xWk]))
  exact vx_ot_at (s := s.setVm V.vm) (State.WarmedH.refl _) rfl (xW_ot hw) h1
def wS (T : wT) (s : State) (H : Heap) : Prop := vx_Zq Bundle.tN "UNASSIGNED_STACK" Bundle.steD (wA T) s H ∧ vx_Zq Bundle.tN "SUPPRESSED_SENTINEL" Bundle.listD (wA T) s H ∧ (∀ w ∈ xW, w.before #[] s = true) ∧ ∀ q ∈ xS, ∃ sa, vk_R "LimbRegisters" q.1 q.2 sa s
theorem wS.pre {T : wT} {s V : State} {H : Heap} {locs : List Loc} (h : wS T s s.heap) (hS : va_S (wA T) s.heap H locs) (hV : V.heap = H) (hW : s.WarmedH V.vm) : wS T V V.heap := by
  rw [hV]
  exact ⟨vx_Zq.moved hW.alike (h.1.kept hS.2.1), vx_Zq.moved hW.alike (h.2.1.kept hS.2.1), fun w hw => xW_moved (List.mem_filter.mp hw).2 hW (h.2.2.1 w hw), fun q hq => by obtain ⟨sa, z⟩ := h.2.2.2 q hq; exact ⟨sa, vk_R.warm hW z⟩⟩
theorem wS.word {T : wT} {s : State} {H : Heap} {a : Array Value} (h : wS T s H) {w : Cond} (hw : w ∈ xW) : w.before a s = true :=
  vx_ot_at (State.WarmedH.refl _) rfl (xW_ot (List.mem_filter.mp hw).2) (h.2.2.1 w hw)
def mPx (T : wT) (F : wFt) (U K : wUt) (I : wIt) (O : wOt) (av : List Value) : Array Value → State → Prop := va_Pc av (fun t => wd T F U K I O t ∧ wS T t t.heap)
def xX (T : wT) (E0 : String) (Pr : (Nat → Nat) → wUt → Prop) (I : wIt) (O : wOt) : String → State → State → Prop := vx_X (fun u : (Nat → Nat) × wUt => Pr u.1 u.2) (fun E u t => E = E0 ∧ wd T (fF u.1) (fU u.1) u.2 I O t) (wA T)
def mQn : Array Value → State → Outcome → State → Prop := fun _ _ _ _ => False
/-- what a throw of E0 by 'new E0(text)' needs of the tables -/
def xT (E0 : String) (ik is ic : Nat) (names : List String) (text : String) : Prop :=
  Bundle.fit E0 = true ∧ (∀ n ∈ names, Bundle.fit n = true) ∧ Cond.classLink "LimbRegisters" ik E0 ∈ bg ∧ Cond.initialized E0 ∈ bg ∧ (is, text) ∈ xS ∧ (∀ w ∈ vx_atS "LimbRegisters" ic E0 names, w ∈ bg ∨ w ∈ xW)
section XM
variable {p : Program} {l : Launch} {e : Env} {R : Room} {s : State} {m : MethodId} {args : Array Value} {below : List Frame} {meth : Method} {c : Code} {H H0 : Heap} {locs : List Loc} {cells slots : Nat} {Q : State → Prop}
variable {cc : ByteArray} {pc maxL : Nat} {ls : Array Slot} {rest st0 As : List Value} {T : wT} {F F' : wFt} {U K U' K' : wUt} {I I' : wIt} {O O' : wOt} {A : Nat → Prop} {own : String}
variable {E0 : String} {Pr : (Nat → Nat) → wUt → Prop}
theorem wH.grow {V : Nat → Nat} {t : State} (hw : wH T (fF V) (fU V) K I O A s H0 H locs) (h1 : s.vm.Alike t.vm) (h3 : ∀ q : Nat, q < H.size → t.heap[q]? = H[q]?) : wd T (fF V) (fU V) K I O t :=
  ⟨hw.1.kept (fun k q hk => h3 _ (vx_lt hw.1 hk)), va_K.moved h1 hw.2.1, hw.2.2.1⟩
theorem xT_good {ik is ic : Nat} {names : List String} {text : String} (h : xT E0 ik is ic names text) : ∀ w ∈ Cond.classLink "LimbRegisters" ik E0 :: Cond.initialized E0 :: vx_atS "LimbRegisters" ic E0 names, vx_ot w = true := by
  intro w hw
  have g : ∀ w ∈ bg, vx_ot w = true := fun w q => by unfold vx_ot; rw [bg_good w q, Bool.or_true]
  rcases List.mem_cons.mp hw with rfl | hw
  · exact g _ h.2.2.1
  · rcases List.mem_cons.mp hw with rfl | hw
    · exact g _ h.2.2.2.1
    · rcases h.2.2.2.2.2 w hw with q | q
      · exact g _ q
      · exact xW_ot (List.mem_filter.mp q).2
theorem xM {y : MethodName} (hcl : y.cls = "LimbRegisters") (hst : l.stackTraces = false) {rm : Room} {av : List Value} (hav : (lg_sl av).length ≤ maxL) {ret : Option FieldType} (hrc : rm.cells = 1) (hrs : rm.slots = 6)
    (body : ∀ (p : Program) (e : Env) (R : Room) (s : State) (m : MethodId) (args : Array Value) (below : List Frame) (meth : Method) (c : Code) (Q : State → Prop) (ls : Array Slot), p.tables.exec = Jvm.exec → c.code = cc → wC m c maxL s args "LimbRegisters" → rm.frames ≤ R.frames → rm.locals ≤ R.locals → 1 ≤ R.cells ∧ 6 ≤ R.slots → wS T s s.heap →
      (∀ (V' : Nat → Nat) (K' : wUt) (H : Heap) (locs : List Loc) (pc : Nat) (ls : Array Slot) (rest : List Value) (ce : Cell) (q : Addr), Pr V' K' → wH T (fF V') (fU V') K' I' O' (wA T) s s.heap H locs → H[q]? = some ce → ce.vm = .none → s.vm.findClass E0 = some ce.cls → vx_W p l e R s m args below meth c H locs 1 6 Q (F0 m pc ls rest) q) →
      (∀ (V' : Nat → Nat) (K' : wUt) (H : Heap) (locs : List Loc) (pc : Nat) (ls : Array Slot) (rest : List Value) (ik is ic : Nat) (names : List String) (text : String), xT E0 ik is ic names text → Pr V' K' → wH T (fF V') (fU V') K' I' O' (wA T) s s.heap H locs → ls.size = maxL →
        decode cc pc = .ok (.new ik, 3) → decode cc (pc + 3) = .ok (.dup, 1) → decode cc (pc + 4) = .ok (.ldc is, 2) → decode cc (pc + 6) = .ok (.invokespecial ic, 3) → decode cc (pc + 9) = .ok (.athrow, 1) → names.length + 3 < R.frames → (rest.map fun v => v.category).sum + (13 * (names.length + 1) + 43) ≤ R.locals → W p l e R s m args below meth c H locs 0 0 Q (F0 m pc ls rest)) →
      lv_has ls maxL (lv_args 0 av) → wH T F U K I O (wA T) s s.heap s.heap [] → W p l e R s m args below meth c s.heap [] 0 0 Q (F0 m 0 ls [])) :
    vx_Met l y (.code y cc maxL ret :: bg) rm (mPx T F U K I O av) mQn (xX T E0 Pr I' O') 1 6 (wA T) := by
  refine vx_ofW (cc := cc) (maxL := maxL) (ret := ret) (by rw [hcl]; decide) rfl ?_
  intro p e s m args below meth c s₁ B hml htab hv
  obtain ⟨rfl, hv, hv2⟩ := hv
  have hts := atoms_spec (ws := (.code y cc maxL ret :: bg)) B.pre
  have hlocks := B.notSynchronized
  have hC : wC m c maxL s av.toArray "LimbRegisters" := ⟨hml, fun w h => hts w (List.mem_cons_of_mem _ h), hcl ▸ findClass_of_methodNamed B.named⟩
  rw [lg_entry_eq]
  refine body p e _ s m _ below meth c _ _ B.exec B.bytes hC (Nat.le_refl _) (Nat.le_refl _) ⟨?_, ?_⟩ hv2 ?_ ?_ (lv_entry av hav) (wH.start hv)
  · show 1 ≤ rm.cells; omega
  · show 6 ≤ rm.slots; omega
  · intro V' K' H locs pc ls rest ce q hP hw h1 h2 h3
    exact vx_out (fun x hx => (htab x hx).elim) hlocks h1 h2 h3 (fun t ht hA => ⟨(V', K'), hP, ⟨rfl, hw.stop ht hA⟩, hw.2.2.2.1.F ht⟩) hw.2.2.2.1.2.2 (Nat.le_refl _) (Nat.le_refl _)
  · intro V' K' H locs pc ls rest ik is ic names text hT hP hw hls d0 d3 d4 d6 d9 hfr hlo
    have hG := xT_good hT
    obtain ⟨t1, t2, t3, t4, t5, t6⟩ := hT
    obtain ⟨sa, hsa⟩ := hv2.2.2.2 _ t5
    exact vx_throwS B.exec B.bytes hst hC.2.2 t1 t2 (hC.hts t3) (hC.hts t4) hsa (fun w hw9 => (t6 w hw9).elim (fun q => hC.hts q) (fun q => hv2.word q)) hG hv2.1 hv2.2.1 hw.2.2.2.1 (hls.trans hml.symm) d0 d3 d4 d6 d9 (fun x hx => (htab x hx).elim) hfr hlo
      (by show 0 + 1 ≤ rm.cells; omega) (by show 0 + 6 ≤ rm.slots; omega) hlocks (fun t hA hz hq => ⟨(V', K'), hP, ⟨rfl, hw.grow hA hq⟩, ⟨Nat.le_trans hw.2.2.2.1.1 hz, fun q h1 h2 => (hq q (Nat.lt_of_lt_of_le h1 hw.2.2.2.1.1)).trans (hw.2.2.2.1.2.1 q h1 h2)⟩⟩) hw.2.2.2.1.2.2 (Nat.le_refl _) (Nat.le_refl _)
end XM
