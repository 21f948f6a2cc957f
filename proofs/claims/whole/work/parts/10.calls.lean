/-! calls over the world -/
section CL
variable {p : Program} {l : Launch} {e : Env} {R : Room} {s : State} {m : MethodId} {args : Array Value} {below : List Frame} {meth : Method} {c : Code} {H H0 : Heap} {locs : List Loc} {cells slots : Nat} {Q : State → Prop}
variable {cc : ByteArray} {pc maxL : Nat} {ls : Array Slot} {rest st0 As : List Value} {T : wT} {F F' : wFt} {U K U' K' : wUt} {I I' : wIt} {O O' : wOt} {A : Nat → Prop} {own : String}
variable {y : MethodName} {bytes : ByteArray} {mL n index k ci N : Nat} {fs : List Value} {Tt : u_T} {rm : Room}

theorem wcV_v (hx : p.tables.exec = Jvm.exec) (hb : c.code = cc) (hC : wC m c maxL s args own) (hw : wH T F U K I O A s H0 H locs)
    (hM : Met l y (.code y bytes mL none :: bg) rm (mP T F U K I O (.ref (wa T k) :: As)) (mQv T F' U' K' I' O') 0 0 (wA T)) (h : wLv own index y bytes mL none n) (hrc : rm.cells = 0) (hrs : rm.slots = 0) (hR : rm.frames + 1 ≤ R.frames ∧ 8 + (mL + 11) + rm.locals ≤ R.locals)
    (hk : k < 97) (he : wE T F U K I O k = .inr (ci, fs)) (hc : clS[ci]? = some (y.cls, Tt, N)) (hn : As.length = n) (hls : ls.size = maxL) (hst : st0 = As.reverse ++ .ref (wa T k) :: rest) (hW8 : (rest.map fun v => v.category).sum ≤ 8) (hf : cells ≤ R.cells ∧ slots ≤ R.slots) (hdg : decode cc pc = .ok (.invokevirtual index, 3))
    (kk : ∀ (H1 : Heap) (locs1 : List Loc), wH T F' U' K' I' O' A s H0 H1 locs1 → W p l e R s m args below meth c H1 locs1 cells slots Q (F0 m (pc + 3) ls (rest))) : W p l e R s m args below meth c H locs cells slots Q (F0 m pc ls st0) := by
  refine va_callv (va_runV (C := y.cls) (As := As) (rest := rest) ⟨hx, hb, hC.1, hC.2.2, hC.2.1⟩ hM ⟨wc_B hC h.1 hrc hrs hR, hC.hts h.2.1, hC.hts h.2.2⟩ ⟨mP_blind, hw.recv hk he hc, hw.pre⟩ rfl hn hls hst (lv_room hW8) hdg hf) hw.2.2.2.1 (fun q _ h => wA_sub hw q h) (wA_sub hw) (fun u t H1 locs1 ht hvm hp hB hz hk1 hS => ?_)
  exact kk H1 locs1 (hw.back ht hvm hB hS)
theorem wcS_v (hx : p.tables.exec = Jvm.exec) (hb : c.code = cc) (hC : wC m c maxL s args own) (hw : wH T F U K I O A s H0 H locs)
    (hM : Met l y (.code y bytes mL none :: bg) rm (mP T F U K I O As) (mQv T F' U' K' I' O') 0 0 (wA T)) (h : wLs own index y bytes mL none n) (hrc : rm.cells = 0) (hrs : rm.slots = 0) (hR : rm.frames + 1 ≤ R.frames ∧ 8 + (mL + 11) + rm.locals ≤ R.locals)
    (hn : As.length = n) (hls : ls.size = maxL) (hst : st0 = As.reverse ++ rest) (hW8 : (rest.map fun v => v.category).sum ≤ 8) (hf : cells ≤ R.cells ∧ slots ≤ R.slots) (hdg : decode cc pc = .ok (.invokestatic index, 3))
    (kk : ∀ (H1 : Heap) (locs1 : List Loc), wH T F' U' K' I' O' A s H0 H1 locs1 → W p l e R s m args below meth c H1 locs1 cells slots Q (F0 m (pc + 3) ls (rest))) : W p l e R s m args below meth c H locs cells slots Q (F0 m pc ls st0) := by
  refine va_callv (va_runS (As := As) (rest := rest) ⟨hx, hb, hC.1, hC.2.2, hC.2.1⟩ hM ⟨wc_B hC h.1 hrc hrs hR, hC.hts h.2⟩ ⟨mP_blind, hw.pre⟩ rfl hn hls hst (lv_room hW8) hdg hf) hw.2.2.2.1 (fun q _ h => wA_sub hw q h) (wA_sub hw) (fun u t H1 locs1 ht hvm hp hB hz hk1 hS => ?_)
  exact kk H1 locs1 (hw.back ht hvm hB hS)
theorem wcV_i {r : Int32} (hx : p.tables.exec = Jvm.exec) (hb : c.code = cc) (hC : wC m c maxL s args own) (hw : wH T F U K I O A s H0 H locs)
    (hM : Met l y (.code y bytes mL (some .int) :: bg) rm (mP T F U K I O (.ref (wa T k) :: As)) (mQi T r F' U' K' I' O') 0 0 (wA T)) (h : wLv own index y bytes mL (some .int) n) (hrc : rm.cells = 0) (hrs : rm.slots = 0) (hR : rm.frames + 1 ≤ R.frames ∧ 8 + (mL + 11) + rm.locals ≤ R.locals)
    (hk : k < 97) (he : wE T F U K I O k = .inr (ci, fs)) (hc : clS[ci]? = some (y.cls, Tt, N)) (hn : As.length = n) (hls : ls.size = maxL) (hst : st0 = As.reverse ++ .ref (wa T k) :: rest) (hW8 : (rest.map fun v => v.category).sum ≤ 8) (hf : cells ≤ R.cells ∧ slots ≤ R.slots) (hdg : decode cc pc = .ok (.invokevirtual index, 3))
    (kk : ∀ (H1 : Heap) (locs1 : List Loc), wH T F' U' K' I' O' A s H0 H1 locs1 → W p l e R s m args below meth c H1 locs1 cells slots Q (F0 m (pc + 3) ls (.int r :: rest))) : W p l e R s m args below meth c H locs cells slots Q (F0 m pc ls st0) := by
  refine va_calli (va_runV (C := y.cls) (As := As) (rest := rest) ⟨hx, hb, hC.1, hC.2.2, hC.2.1⟩ hM ⟨wc_B hC h.1 hrc hrs hR, hC.hts h.2.1, hC.hts h.2.2⟩ ⟨mP_blind, hw.recv hk he hc, hw.pre⟩ rfl hn hls hst (lv_room hW8) hdg hf) hw.2.2.2.1 (fun q _ h => wA_sub hw q h) (wA_sub hw) (fun r9 u t H1 locs1 ht hvm hp hB hz hk1 hS => ?_)
  subst hp
  exact kk H1 locs1 (hw.back ht hvm hB hS)
theorem wcS_i {r : Int32} (hx : p.tables.exec = Jvm.exec) (hb : c.code = cc) (hC : wC m c maxL s args own) (hw : wH T F U K I O A s H0 H locs)
    (hM : Met l y (.code y bytes mL (some .int) :: bg) rm (mP T F U K I O As) (mQi T r F' U' K' I' O') 0 0 (wA T)) (h : wLs own index y bytes mL (some .int) n) (hrc : rm.cells = 0) (hrs : rm.slots = 0) (hR : rm.frames + 1 ≤ R.frames ∧ 8 + (mL + 11) + rm.locals ≤ R.locals)
    (hn : As.length = n) (hls : ls.size = maxL) (hst : st0 = As.reverse ++ rest) (hW8 : (rest.map fun v => v.category).sum ≤ 8) (hf : cells ≤ R.cells ∧ slots ≤ R.slots) (hdg : decode cc pc = .ok (.invokestatic index, 3))
    (kk : ∀ (H1 : Heap) (locs1 : List Loc), wH T F' U' K' I' O' A s H0 H1 locs1 → W p l e R s m args below meth c H1 locs1 cells slots Q (F0 m (pc + 3) ls (.int r :: rest))) : W p l e R s m args below meth c H locs cells slots Q (F0 m pc ls st0) := by
  refine va_calli (va_runS (As := As) (rest := rest) ⟨hx, hb, hC.1, hC.2.2, hC.2.1⟩ hM ⟨wc_B hC h.1 hrc hrs hR, hC.hts h.2⟩ ⟨mP_blind, hw.pre⟩ rfl hn hls hst (lv_room hW8) hdg hf) hw.2.2.2.1 (fun q _ h => wA_sub hw q h) (wA_sub hw) (fun r9 u t H1 locs1 ht hvm hp hB hz hk1 hS => ?_)
  subst hp
  exact kk H1 locs1 (hw.back ht hvm hB hS)
theorem wcV_z {r : Int32} (hx : p.tables.exec = Jvm.exec) (hb : c.code = cc) (hC : wC m c maxL s args own) (hw : wH T F U K I O A s H0 H locs)
    (hM : Met l y (.code y bytes mL (some .boolean) :: bg) rm (mP T F U K I O (.ref (wa T k) :: As)) (mQi T r F' U' K' I' O') 0 0 (wA T)) (h : wLv own index y bytes mL (some .boolean) n) (hrc : rm.cells = 0) (hrs : rm.slots = 0) (hR : rm.frames + 1 ≤ R.frames ∧ 8 + (mL + 11) + rm.locals ≤ R.locals)
    (hk : k < 97) (he : wE T F U K I O k = .inr (ci, fs)) (hc : clS[ci]? = some (y.cls, Tt, N)) (hn : As.length = n) (hls : ls.size = maxL) (hst : st0 = As.reverse ++ .ref (wa T k) :: rest) (hW8 : (rest.map fun v => v.category).sum ≤ 8) (hf : cells ≤ R.cells ∧ slots ≤ R.slots) (hdg : decode cc pc = .ok (.invokevirtual index, 3))
    (kk : ∀ (H1 : Heap) (locs1 : List Loc), wH T F' U' K' I' O' A s H0 H1 locs1 → W p l e R s m args below meth c H1 locs1 cells slots Q (F0 m (pc + 3) ls (.int r :: rest))) : W p l e R s m args below meth c H locs cells slots Q (F0 m pc ls st0) := by
  refine va_calli (va_runV (C := y.cls) (As := As) (rest := rest) ⟨hx, hb, hC.1, hC.2.2, hC.2.1⟩ hM ⟨wc_B hC h.1 hrc hrs hR, hC.hts h.2.1, hC.hts h.2.2⟩ ⟨mP_blind, hw.recv hk he hc, hw.pre⟩ rfl hn hls hst (lv_room hW8) hdg hf) hw.2.2.2.1 (fun q _ h => wA_sub hw q h) (wA_sub hw) (fun r9 u t H1 locs1 ht hvm hp hB hz hk1 hS => ?_)
  subst hp
  exact kk H1 locs1 (hw.back ht hvm hB hS)
theorem wcS_z {r : Int32} (hx : p.tables.exec = Jvm.exec) (hb : c.code = cc) (hC : wC m c maxL s args own) (hw : wH T F U K I O A s H0 H locs)
    (hM : Met l y (.code y bytes mL (some .boolean) :: bg) rm (mP T F U K I O As) (mQi T r F' U' K' I' O') 0 0 (wA T)) (h : wLs own index y bytes mL (some .boolean) n) (hrc : rm.cells = 0) (hrs : rm.slots = 0) (hR : rm.frames + 1 ≤ R.frames ∧ 8 + (mL + 11) + rm.locals ≤ R.locals)
    (hn : As.length = n) (hls : ls.size = maxL) (hst : st0 = As.reverse ++ rest) (hW8 : (rest.map fun v => v.category).sum ≤ 8) (hf : cells ≤ R.cells ∧ slots ≤ R.slots) (hdg : decode cc pc = .ok (.invokestatic index, 3))
    (kk : ∀ (H1 : Heap) (locs1 : List Loc), wH T F' U' K' I' O' A s H0 H1 locs1 → W p l e R s m args below meth c H1 locs1 cells slots Q (F0 m (pc + 3) ls (.int r :: rest))) : W p l e R s m args below meth c H locs cells slots Q (F0 m pc ls st0) := by
  refine va_calli (va_runS (As := As) (rest := rest) ⟨hx, hb, hC.1, hC.2.2, hC.2.1⟩ hM ⟨wc_B hC h.1 hrc hrs hR, hC.hts h.2⟩ ⟨mP_blind, hw.pre⟩ rfl hn hls hst (lv_room hW8) hdg hf) hw.2.2.2.1 (fun q _ h => wA_sub hw q h) (wA_sub hw) (fun r9 u t H1 locs1 ht hvm hp hB hz hk1 hS => ?_)
  subst hp
  exact kk H1 locs1 (hw.back ht hvm hB hS)
theorem wcV_l {r : Int64} (hx : p.tables.exec = Jvm.exec) (hb : c.code = cc) (hC : wC m c maxL s args own) (hw : wH T F U K I O A s H0 H locs)
    (hM : Met l y (.code y bytes mL (some .long) :: bg) rm (mP T F U K I O (.ref (wa T k) :: As)) (mQl T r F' U' K' I' O') 0 0 (wA T)) (h : wLv own index y bytes mL (some .long) n) (hrc : rm.cells = 0) (hrs : rm.slots = 0) (hR : rm.frames + 1 ≤ R.frames ∧ 8 + (mL + 11) + rm.locals ≤ R.locals)
    (hk : k < 97) (he : wE T F U K I O k = .inr (ci, fs)) (hc : clS[ci]? = some (y.cls, Tt, N)) (hn : As.length = n) (hls : ls.size = maxL) (hst : st0 = As.reverse ++ .ref (wa T k) :: rest) (hW8 : (rest.map fun v => v.category).sum ≤ 8) (hf : cells ≤ R.cells ∧ slots ≤ R.slots) (hdg : decode cc pc = .ok (.invokevirtual index, 3))
    (kk : ∀ (H1 : Heap) (locs1 : List Loc), wH T F' U' K' I' O' A s H0 H1 locs1 → W p l e R s m args below meth c H1 locs1 cells slots Q (F0 m (pc + 3) ls (.long r :: rest))) : W p l e R s m args below meth c H locs cells slots Q (F0 m pc ls st0) := by
  refine va_calll (va_runV (C := y.cls) (As := As) (rest := rest) ⟨hx, hb, hC.1, hC.2.2, hC.2.1⟩ hM ⟨wc_B hC h.1 hrc hrs hR, hC.hts h.2.1, hC.hts h.2.2⟩ ⟨mP_blind, hw.recv hk he hc, hw.pre⟩ rfl hn hls hst (lv_room hW8) hdg hf) hw.2.2.2.1 (fun q _ h => wA_sub hw q h) (wA_sub hw) (fun r9 u t H1 locs1 ht hvm hp hB hz hk1 hS => ?_)
  subst hp
  exact kk H1 locs1 (hw.back ht hvm hB hS)
theorem wcS_l {r : Int64} (hx : p.tables.exec = Jvm.exec) (hb : c.code = cc) (hC : wC m c maxL s args own) (hw : wH T F U K I O A s H0 H locs)
    (hM : Met l y (.code y bytes mL (some .long) :: bg) rm (mP T F U K I O As) (mQl T r F' U' K' I' O') 0 0 (wA T)) (h : wLs own index y bytes mL (some .long) n) (hrc : rm.cells = 0) (hrs : rm.slots = 0) (hR : rm.frames + 1 ≤ R.frames ∧ 8 + (mL + 11) + rm.locals ≤ R.locals)
    (hn : As.length = n) (hls : ls.size = maxL) (hst : st0 = As.reverse ++ rest) (hW8 : (rest.map fun v => v.category).sum ≤ 8) (hf : cells ≤ R.cells ∧ slots ≤ R.slots) (hdg : decode cc pc = .ok (.invokestatic index, 3))
    (kk : ∀ (H1 : Heap) (locs1 : List Loc), wH T F' U' K' I' O' A s H0 H1 locs1 → W p l e R s m args below meth c H1 locs1 cells slots Q (F0 m (pc + 3) ls (.long r :: rest))) : W p l e R s m args below meth c H locs cells slots Q (F0 m pc ls st0) := by
  refine va_calll (va_runS (As := As) (rest := rest) ⟨hx, hb, hC.1, hC.2.2, hC.2.1⟩ hM ⟨wc_B hC h.1 hrc hrs hR, hC.hts h.2⟩ ⟨mP_blind, hw.pre⟩ rfl hn hls hst (lv_room hW8) hdg hf) hw.2.2.2.1 (fun q _ h => wA_sub hw q h) (wA_sub hw) (fun r9 u t H1 locs1 ht hvm hp hB hz hk1 hS => ?_)
  subst hp
  exact kk H1 locs1 (hw.back ht hvm hB hS)
end CL
