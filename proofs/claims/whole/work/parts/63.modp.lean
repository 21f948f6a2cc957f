/-! contracts whose model rows are told by a property -/
def mQvM (T : wT) (Pr : (Nat → Nat) → (Nat → Nat) → (Nat → Int32) → Prop) (F : wFt) (U K : wUt) (I : wIt) (O : wOt) : Array Value → State → Outcome → State → Prop := va_Qv (fun (u : (Nat → Nat) × (Nat → Nat) × (Nat → Int32)) => Pr u.1 u.2.1 u.2.2) (fun (u : (Nat → Nat) × (Nat → Nat) × (Nat → Int32)) t => wd T F U K (gI I (dgm u.1) u.2.1 u.2.2) O t) (wA T)
def mQiM (T : wT) (r : Int32) (Pr : (Nat → Nat) → (Nat → Nat) → (Nat → Int32) → Prop) (F : wFt) (U K : wUt) (I : wIt) (O : wOt) : Array Value → State → Outcome → State → Prop := va_Qi (fun x (u : (Nat → Nat) × (Nat → Nat) × (Nat → Int32)) => x = r ∧ Pr u.1 u.2.1 u.2.2) (fun (u : (Nat → Nat) × (Nat → Nat) × (Nat → Int32)) t => wd T F U K (gI I (dgm u.1) u.2.1 u.2.2) O t) (wA T)
def mQlM (T : wT) (r : Int64) (Pr : (Nat → Nat) → (Nat → Nat) → (Nat → Int32) → Prop) (F : wFt) (U K : wUt) (I : wIt) (O : wOt) : Array Value → State → Outcome → State → Prop := va_Ql (fun x (u : (Nat → Nat) × (Nat → Nat) × (Nat → Int32)) => x = r ∧ Pr u.1 u.2.1 u.2.2) (fun (u : (Nat → Nat) × (Nat → Nat) × (Nat → Int32)) t => wd T F U K (gI I (dgm u.1) u.2.1 u.2.2) O t) (wA T)
section EM
variable {p : Program} {l : Launch} {e : Env} {R : Room} {s : State} {m : MethodId} {args : Array Value} {below : List Frame} {meth : Method} {c : Code} {H H0 : Heap} {locs : List Loc} {cells slots : Nat} {Q : State → Prop}
variable {cc : ByteArray} {pc maxL : Nat} {ls : Array Slot} {rest st0 As : List Value} {T : wT} {F F' : wFt} {U K U' K' : wUt} {I I' : wIt} {O O' : wOt} {A : Nat → Prop} {own : String}
variable {y : MethodName} {bytes : ByteArray} {mL n index k ci N : Nat} {fs : List Value} {Tt : u_T} {rm : Room} {Pr : (Nat → Nat) → (Nat → Nat) → (Nat → Int32) → Prop}
theorem wM_vM  (hpn : plainName y.cls = true) {av : List Value} (hav : (lg_sl av).length ≤ maxL)
    (body : ∀ (p : Program) (e : Env) (R : Room) (s : State) (m : MethodId) (args : Array Value) (below : List Frame) (meth : Method) (c : Code) (Q : State → Prop) (ls : Array Slot), p.tables.exec = Jvm.exec → c.code = cc → wC m c maxL s args y.cls → rm.frames ≤ R.frames → rm.locals ≤ R.locals →
      (∀ (M1 Z1 : Nat → Nat) (G1 : Nat → Int32) (H : Heap) (locs : List Loc) (pc : Nat) (ls : Array Slot), Pr M1 Z1 G1 → wH T F' U' K' (gI I' (dgm M1) Z1 G1) O' (wA T) s s.heap H locs → decode cc pc = .ok (.return_, 1) → W p l e R s m args below meth c H locs 0 0 Q (F0 m pc ls [])) →
      lv_has ls maxL (lv_args 0 av) → wH T F U K I O (wA T) s s.heap s.heap [] → W p l e R s m args below meth c s.heap [] 0 0 Q (F0 m 0 ls [])) :
    Met l y (.code y cc maxL none :: bg) rm (mP T F U K I O av) (mQvM T Pr F' U' K' I' O') 0 0 (wA T) := by
  refine Met.ofW (cc := cc) (maxL := maxL) (ret := none) hpn rfl ?_
  intro p e s m args below meth c s₁ B hml hv
  obtain ⟨rfl, hv⟩ := hv
  have hts := atoms_spec (ws := (.code y cc maxL none :: bg)) B.pre
  have hlocks := B.notSynchronized
  rw [lg_entry_eq]
  refine body p e _ s m _ below meth c _ _ B.exec B.bytes ⟨hml, fun w h => hts w (List.mem_cons_of_mem _ h), findClass_of_methodNamed B.named⟩ (Nat.le_refl _) (Nat.le_refl _) ?_ (lv_entry av hav) (wH.start hv)
  intro M1 Z1 G1 H locs pc ls hP hw hd
  exact W.vret B.exec B.bytes B.returns (fun t ht hW => ⟨⟨(M1, Z1, G1), rfl, hP, hw.stop ht hW.alike⟩, hw.2.2.2.1.F ht⟩) hw.2.2.2.1.2.2 hd hlocks
theorem wcV_vM  (hx : p.tables.exec = Jvm.exec) (hb : c.code = cc) (hC : wC m c maxL s args own) (hw : wH T F U K I O A s H0 H locs)
    (hM : Met l y (.code y bytes mL none :: bg) rm (mP T F U K I O (.ref (wa T k) :: As)) (mQvM T Pr F' U' K' I' O') 0 0 (wA T)) (h : wLv own index y bytes mL none n) (hrc : rm.cells = 0) (hrs : rm.slots = 0) (hR : rm.frames + 1 ≤ R.frames ∧ 8 + (mL + 11) + rm.locals ≤ R.locals)
    (hk : k < 97) (he : wE T F U K I O k = .inr (ci, fs)) (hc : clS[ci]? = some (y.cls, Tt, N)) (hn : As.length = n) (hls : ls.size = maxL) (hst : st0 = As.reverse ++ .ref (wa T k) :: rest) (hW8 : (rest.map fun v => v.category).sum ≤ 8) (hf : cells ≤ R.cells ∧ slots ≤ R.slots) (hdg : decode cc pc = .ok (.invokevirtual index, 3))
    (kk : ∀ (M1 Z1 : Nat → Nat) (G1 : Nat → Int32) (H1 : Heap) (locs1 : List Loc), Pr M1 Z1 G1 → wH T F' U' K' (gI I' (dgm M1) Z1 G1) O' A s H0 H1 locs1 → W p l e R s m args below meth c H1 locs1 cells slots Q (F0 m (pc + 3) ls (rest))) : W p l e R s m args below meth c H locs cells slots Q (F0 m pc ls st0) := by
  refine va_callv (va_runV (C := y.cls) (As := As) (rest := rest) ⟨hx, hb, hC.1, hC.2.2, hC.2.1⟩ hM ⟨wc_B hC h.1 hrc hrs hR, hC.hts h.2.1, hC.hts h.2.2⟩ ⟨mP_blind, hw.recv hk he hc, hw.pre⟩ rfl hn hls hst (lv_room hW8) hdg hf) hw.2.2.2.1 (fun q _ h => wA_sub hw q h) (wA_sub hw) (fun u t H1 locs1 ht hvm hp hB hz hk1 hS => ?_)
  exact kk u.1 u.2.1 u.2.2 H1 locs1 hp (hw.back ht hvm hB hS)
theorem wM_iM {r : Int32} (hpn : plainName y.cls = true) {av : List Value} (hav : (lg_sl av).length ≤ maxL)
    (body : ∀ (p : Program) (e : Env) (R : Room) (s : State) (m : MethodId) (args : Array Value) (below : List Frame) (meth : Method) (c : Code) (Q : State → Prop) (ls : Array Slot), p.tables.exec = Jvm.exec → c.code = cc → wC m c maxL s args y.cls → rm.frames ≤ R.frames → rm.locals ≤ R.locals →
      (∀ (M1 Z1 : Nat → Nat) (G1 : Nat → Int32) (H : Heap) (locs : List Loc) (pc : Nat) (ls : Array Slot), Pr M1 Z1 G1 → wH T F' U' K' (gI I' (dgm M1) Z1 G1) O' (wA T) s s.heap H locs → decode cc pc = .ok (.ireturn, 1) → W p l e R s m args below meth c H locs 0 0 Q (F0 m pc ls [.int r])) →
      lv_has ls maxL (lv_args 0 av) → wH T F U K I O (wA T) s s.heap s.heap [] → W p l e R s m args below meth c s.heap [] 0 0 Q (F0 m 0 ls [])) :
    Met l y (.code y cc maxL (some .int) :: bg) rm (mP T F U K I O av) (mQiM T r Pr F' U' K' I' O') 0 0 (wA T) := by
  refine Met.ofW (cc := cc) (maxL := maxL) (ret := (some .int)) hpn rfl ?_
  intro p e s m args below meth c s₁ B hml hv
  obtain ⟨rfl, hv⟩ := hv
  have hts := atoms_spec (ws := (.code y cc maxL (some .int) :: bg)) B.pre
  have hlocks := B.notSynchronized
  rw [lg_entry_eq]
  refine body p e _ s m _ below meth c _ _ B.exec B.bytes ⟨hml, fun w h => hts w (List.mem_cons_of_mem _ h), findClass_of_methodNamed B.named⟩ (Nat.le_refl _) (Nat.le_refl _) ?_ (lv_entry av hav) (wH.start hv)
  intro M1 Z1 G1 H locs pc ls hP hw hd
  exact W.iret B.exec B.bytes B.returns (fun t ht hW => ⟨⟨r, (M1, Z1, G1), rfl, ⟨rfl, hP⟩, hw.stop ht hW.alike⟩, hw.2.2.2.1.F ht⟩) hw.2.2.2.1.2.2 hd hlocks
theorem wcV_iM {r : Int32} (hx : p.tables.exec = Jvm.exec) (hb : c.code = cc) (hC : wC m c maxL s args own) (hw : wH T F U K I O A s H0 H locs)
    (hM : Met l y (.code y bytes mL (some .int) :: bg) rm (mP T F U K I O (.ref (wa T k) :: As)) (mQiM T r Pr F' U' K' I' O') 0 0 (wA T)) (h : wLv own index y bytes mL (some .int) n) (hrc : rm.cells = 0) (hrs : rm.slots = 0) (hR : rm.frames + 1 ≤ R.frames ∧ 8 + (mL + 11) + rm.locals ≤ R.locals)
    (hk : k < 97) (he : wE T F U K I O k = .inr (ci, fs)) (hc : clS[ci]? = some (y.cls, Tt, N)) (hn : As.length = n) (hls : ls.size = maxL) (hst : st0 = As.reverse ++ .ref (wa T k) :: rest) (hW8 : (rest.map fun v => v.category).sum ≤ 8) (hf : cells ≤ R.cells ∧ slots ≤ R.slots) (hdg : decode cc pc = .ok (.invokevirtual index, 3))
    (kk : ∀ (M1 Z1 : Nat → Nat) (G1 : Nat → Int32) (H1 : Heap) (locs1 : List Loc), Pr M1 Z1 G1 → wH T F' U' K' (gI I' (dgm M1) Z1 G1) O' A s H0 H1 locs1 → W p l e R s m args below meth c H1 locs1 cells slots Q (F0 m (pc + 3) ls (.int r :: rest))) : W p l e R s m args below meth c H locs cells slots Q (F0 m pc ls st0) := by
  refine va_calli (va_runV (C := y.cls) (As := As) (rest := rest) ⟨hx, hb, hC.1, hC.2.2, hC.2.1⟩ hM ⟨wc_B hC h.1 hrc hrs hR, hC.hts h.2.1, hC.hts h.2.2⟩ ⟨mP_blind, hw.recv hk he hc, hw.pre⟩ rfl hn hls hst (lv_room hW8) hdg hf) hw.2.2.2.1 (fun q _ h => wA_sub hw q h) (wA_sub hw) (fun r9 u t H1 locs1 ht hvm hp hB hz hk1 hS => ?_)
  obtain ⟨rfl, hp⟩ := hp
  exact kk u.1 u.2.1 u.2.2 H1 locs1 hp (hw.back ht hvm hB hS)
theorem wM_zM {r : Int32} (hpn : plainName y.cls = true) {av : List Value} (hav : (lg_sl av).length ≤ maxL) (hr1 : narrow .boolean (.int r) = .int r)
    (body : ∀ (p : Program) (e : Env) (R : Room) (s : State) (m : MethodId) (args : Array Value) (below : List Frame) (meth : Method) (c : Code) (Q : State → Prop) (ls : Array Slot), p.tables.exec = Jvm.exec → c.code = cc → wC m c maxL s args y.cls → rm.frames ≤ R.frames → rm.locals ≤ R.locals →
      (∀ (M1 Z1 : Nat → Nat) (G1 : Nat → Int32) (H : Heap) (locs : List Loc) (pc : Nat) (ls : Array Slot), Pr M1 Z1 G1 → wH T F' U' K' (gI I' (dgm M1) Z1 G1) O' (wA T) s s.heap H locs → decode cc pc = .ok (.ireturn, 1) → W p l e R s m args below meth c H locs 0 0 Q (F0 m pc ls [.int r])) →
      lv_has ls maxL (lv_args 0 av) → wH T F U K I O (wA T) s s.heap s.heap [] → W p l e R s m args below meth c s.heap [] 0 0 Q (F0 m 0 ls [])) :
    Met l y (.code y cc maxL (some .boolean) :: bg) rm (mP T F U K I O av) (mQiM T r Pr F' U' K' I' O') 0 0 (wA T) := by
  refine Met.ofW (cc := cc) (maxL := maxL) (ret := (some .boolean)) hpn rfl ?_
  intro p e s m args below meth c s₁ B hml hv
  obtain ⟨rfl, hv⟩ := hv
  have hts := atoms_spec (ws := (.code y cc maxL (some .boolean) :: bg)) B.pre
  have hlocks := B.notSynchronized
  rw [lg_entry_eq]
  refine body p e _ s m _ below meth c _ _ B.exec B.bytes ⟨hml, fun w h => hts w (List.mem_cons_of_mem _ h), findClass_of_methodNamed B.named⟩ (Nat.le_refl _) (Nat.le_refl _) ?_ (lv_entry av hav) (wH.start hv)
  intro M1 Z1 G1 H locs pc ls hP hw hd
  exact W.zret B.exec B.bytes B.returns hr1 (fun t ht hW => ⟨⟨r, (M1, Z1, G1), rfl, ⟨rfl, hP⟩, hw.stop ht hW.alike⟩, hw.2.2.2.1.F ht⟩) hw.2.2.2.1.2.2 hd hlocks
theorem wcV_zM {r : Int32} (hx : p.tables.exec = Jvm.exec) (hb : c.code = cc) (hC : wC m c maxL s args own) (hw : wH T F U K I O A s H0 H locs)
    (hM : Met l y (.code y bytes mL (some .boolean) :: bg) rm (mP T F U K I O (.ref (wa T k) :: As)) (mQiM T r Pr F' U' K' I' O') 0 0 (wA T)) (h : wLv own index y bytes mL (some .boolean) n) (hrc : rm.cells = 0) (hrs : rm.slots = 0) (hR : rm.frames + 1 ≤ R.frames ∧ 8 + (mL + 11) + rm.locals ≤ R.locals)
    (hk : k < 97) (he : wE T F U K I O k = .inr (ci, fs)) (hc : clS[ci]? = some (y.cls, Tt, N)) (hn : As.length = n) (hls : ls.size = maxL) (hst : st0 = As.reverse ++ .ref (wa T k) :: rest) (hW8 : (rest.map fun v => v.category).sum ≤ 8) (hf : cells ≤ R.cells ∧ slots ≤ R.slots) (hdg : decode cc pc = .ok (.invokevirtual index, 3))
    (kk : ∀ (M1 Z1 : Nat → Nat) (G1 : Nat → Int32) (H1 : Heap) (locs1 : List Loc), Pr M1 Z1 G1 → wH T F' U' K' (gI I' (dgm M1) Z1 G1) O' A s H0 H1 locs1 → W p l e R s m args below meth c H1 locs1 cells slots Q (F0 m (pc + 3) ls (.int r :: rest))) : W p l e R s m args below meth c H locs cells slots Q (F0 m pc ls st0) := by
  refine va_calli (va_runV (C := y.cls) (As := As) (rest := rest) ⟨hx, hb, hC.1, hC.2.2, hC.2.1⟩ hM ⟨wc_B hC h.1 hrc hrs hR, hC.hts h.2.1, hC.hts h.2.2⟩ ⟨mP_blind, hw.recv hk he hc, hw.pre⟩ rfl hn hls hst (lv_room hW8) hdg hf) hw.2.2.2.1 (fun q _ h => wA_sub hw q h) (wA_sub hw) (fun r9 u t H1 locs1 ht hvm hp hB hz hk1 hS => ?_)
  obtain ⟨rfl, hp⟩ := hp
  exact kk u.1 u.2.1 u.2.2 H1 locs1 hp (hw.back ht hvm hB hS)
theorem wM_lM {r : Int64} (hpn : plainName y.cls = true) {av : List Value} (hav : (lg_sl av).length ≤ maxL)
    (body : ∀ (p : Program) (e : Env) (R : Room) (s : State) (m : MethodId) (args : Array Value) (below : List Frame) (meth : Method) (c : Code) (Q : State → Prop) (ls : Array Slot), p.tables.exec = Jvm.exec → c.code = cc → wC m c maxL s args y.cls → rm.frames ≤ R.frames → rm.locals ≤ R.locals →
      (∀ (M1 Z1 : Nat → Nat) (G1 : Nat → Int32) (H : Heap) (locs : List Loc) (pc : Nat) (ls : Array Slot), Pr M1 Z1 G1 → wH T F' U' K' (gI I' (dgm M1) Z1 G1) O' (wA T) s s.heap H locs → decode cc pc = .ok (.lreturn, 1) → W p l e R s m args below meth c H locs 0 0 Q (F0 m pc ls [.long r])) →
      lv_has ls maxL (lv_args 0 av) → wH T F U K I O (wA T) s s.heap s.heap [] → W p l e R s m args below meth c s.heap [] 0 0 Q (F0 m 0 ls [])) :
    Met l y (.code y cc maxL (some .long) :: bg) rm (mP T F U K I O av) (mQlM T r Pr F' U' K' I' O') 0 0 (wA T) := by
  refine Met.ofW (cc := cc) (maxL := maxL) (ret := (some .long)) hpn rfl ?_
  intro p e s m args below meth c s₁ B hml hv
  obtain ⟨rfl, hv⟩ := hv
  have hts := atoms_spec (ws := (.code y cc maxL (some .long) :: bg)) B.pre
  have hlocks := B.notSynchronized
  rw [lg_entry_eq]
  refine body p e _ s m _ below meth c _ _ B.exec B.bytes ⟨hml, fun w h => hts w (List.mem_cons_of_mem _ h), findClass_of_methodNamed B.named⟩ (Nat.le_refl _) (Nat.le_refl _) ?_ (lv_entry av hav) (wH.start hv)
  intro M1 Z1 G1 H locs pc ls hP hw hd
  exact W.lret B.exec B.bytes B.returns (fun t ht hW => ⟨⟨r, (M1, Z1, G1), rfl, ⟨rfl, hP⟩, hw.stop ht hW.alike⟩, hw.2.2.2.1.F ht⟩) hw.2.2.2.1.2.2 hd hlocks
theorem wcV_lM {r : Int64} (hx : p.tables.exec = Jvm.exec) (hb : c.code = cc) (hC : wC m c maxL s args own) (hw : wH T F U K I O A s H0 H locs)
    (hM : Met l y (.code y bytes mL (some .long) :: bg) rm (mP T F U K I O (.ref (wa T k) :: As)) (mQlM T r Pr F' U' K' I' O') 0 0 (wA T)) (h : wLv own index y bytes mL (some .long) n) (hrc : rm.cells = 0) (hrs : rm.slots = 0) (hR : rm.frames + 1 ≤ R.frames ∧ 8 + (mL + 11) + rm.locals ≤ R.locals)
    (hk : k < 97) (he : wE T F U K I O k = .inr (ci, fs)) (hc : clS[ci]? = some (y.cls, Tt, N)) (hn : As.length = n) (hls : ls.size = maxL) (hst : st0 = As.reverse ++ .ref (wa T k) :: rest) (hW8 : (rest.map fun v => v.category).sum ≤ 8) (hf : cells ≤ R.cells ∧ slots ≤ R.slots) (hdg : decode cc pc = .ok (.invokevirtual index, 3))
    (kk : ∀ (M1 Z1 : Nat → Nat) (G1 : Nat → Int32) (H1 : Heap) (locs1 : List Loc), Pr M1 Z1 G1 → wH T F' U' K' (gI I' (dgm M1) Z1 G1) O' A s H0 H1 locs1 → W p l e R s m args below meth c H1 locs1 cells slots Q (F0 m (pc + 3) ls (.long r :: rest))) : W p l e R s m args below meth c H locs cells slots Q (F0 m pc ls st0) := by
  refine va_calll (va_runV (C := y.cls) (As := As) (rest := rest) ⟨hx, hb, hC.1, hC.2.2, hC.2.1⟩ hM ⟨wc_B hC h.1 hrc hrs hR, hC.hts h.2.1, hC.hts h.2.2⟩ ⟨mP_blind, hw.recv hk he hc, hw.pre⟩ rfl hn hls hst (lv_room hW8) hdg hf) hw.2.2.2.1 (fun q _ h => wA_sub hw q h) (wA_sub hw) (fun r9 u t H1 locs1 ht hvm hp hB hz hk1 hS => ?_)
  obtain ⟨rfl, hp⟩ := hp
  exact kk u.1 u.2.1 u.2.2 H1 locs1 hp (hw.back ht hvm hB hS)
end EM
/-! what the model holds: numbers, sizes, signs of the registers -/
def sgnI (x : Int) : Int32 := if x < 0 then -1 else if x = 0 then nI 0 else nI 1
def mI (z : Nat → Int) (M Z : Nat → Nat) (G : Nat → Int32) : Prop := (∀ i, i < 12 → (z i).natAbs < m1024 ∧ M i = (z i).natAbs ∧ Z i = lnM (M i) ∧ G i = sgnI (z i)) ∧ ∀ s, s < 20 → M s < mM
theorem m1024_mM : m1024 ≤ b20 ^ 52 := by unfold m1024; rw [b20_two]; exact Nat.pow_le_pow_right (by decide) (by decide)
theorem mM_of {v : Nat} (h : v < m1024) : v < mM := Nat.lt_of_lt_of_le h (Nat.le_trans m1024_mM (b20_le (by decide)))
theorem m107_of {v : Nat} (h : v < m1024) : v < b20 ^ 107 := Nat.lt_of_lt_of_le h (Nat.le_trans m1024_mM (b20_le (by decide)))
theorem ln52 {v : Nat} (h : v < m1024) : lnM v ≤ 52 := lnM_mono (Nat.lt_of_lt_of_le h m1024_mM)
section MI
variable {z : Nat → Int} {M Z : Nat → Nat} {G : Nat → Int32} {x n v k : Nat} {w : Int}
theorem mI.out (h : mI z M Z G) (hn : 12 ≤ n) (hv : v < mM) : mI z (va_up M n v) (va_up Z n k) G := by
  refine ⟨fun i hi => ?_, fun s hs => ?_⟩
  · rw [va_up_ne _ _ (by omega), va_up_ne _ _ (by omega)]; exact h.1 i hi
  · rw [va_va]; split
    · exact hv
    · exact h.2 s hs
theorem mI.lt (h : mI z M Z G) (hx : x < 12) : M x < m1024 := by rw [(h.1 x hx).2.1]; exact (h.1 x hx).1
theorem sgnI_0 {x : Int} : (if lnM x.natAbs = 0 then nI 0 else sgnI x) = sgnI x := by
  by_cases h : x = 0
  · subst h; rw [Int.natAbs_zero, lnM_0, if_pos rfl]; rfl
  · split
    · rename_i q
      exfalso
      have : ¬ x.natAbs = 0 := by omega
      unfold lnM at q
      have h1 : lm_len b20 x.natAbs 108 = 0 := q
      by_cases hb : x.natAbs < mM
      · exact this ((lnM_z hb).mp q)
      · have h2 : ¬ x.natAbs / b20 ^ 107 = 0 := by
          rw [Nat.div_eq_zero_iff]; intro q2
          have h3 : b20 ^ 107 ≤ mM := b20_le (by decide)
          have := b20_pp 107
          omega
        rw [show (108 : Nat) = 107 + 1 from rfl] at h1
        unfold lm_len at h1
        rw [if_neg h2] at h1; omega
    · rfl
/-- a number of slot n stored in a register -/
theorem mI.store {sg : Int32} (h : mI z M Z G) (hx : x < 12) (hn : n < 20) (hM : M n = w.natAbs) (hZ : Z n = lnM (M n)) (hw : w.natAbs < m1024) (hsg : w ≠ 0 → sg = sgnI w) : mI (va_up z x w) (va_up M x (M n)) (va_up Z x (Z n)) (va_up G x (if Z n = 0 then nI 0 else sg)) := by
  refine ⟨fun i hi => ?_, fun s hs => ?_⟩
  · rw [va_va, va_va, va_va, va_va]
    by_cases e : i = x
    · rw [if_pos e, if_pos e, if_pos e, if_pos e]
      refine ⟨hw, hM, hZ, ?_⟩
      by_cases h0 : w = 0
      · rw [hZ, hM, h0, Int.natAbs_zero, lnM_0, if_pos rfl]; rfl
      · rw [hsg h0, hZ, hM]; exact sgnI_0
    · rw [if_neg e, if_neg e, if_neg e, if_neg e]; exact h.1 i hi
  · rw [va_va]; split
    · exact h.2 n hn
    · exact h.2 s hs
end MI
