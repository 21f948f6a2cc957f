/-! calls of throwers -/
section XC
variable {p : Program} {l : Launch} {e : Env} {R : Room} {s : State} {m : MethodId} {args : Array Value} {below : List Frame} {meth : Method} {c : Code} {H H0 : Heap} {locs : List Loc} {cells slots : Nat} {Q : State → Prop}
variable {cc : ByteArray} {pc maxL : Nat} {ls : Array Slot} {rest st0 As : List Value} {T : wT} {F F' : wFt} {U K U' K' : wUt} {I I' : wIt} {O O' : wOt} {A : Nat → Prop} {own : String}
variable {E0 : String} {Pr : (Nat → Nat) → wUt → Prop} {y : MethodName} {bytes : ByteArray} {mL n index k ci N : Nat} {fs : List Value} {Tt : u_T} {rm : Room} {ret : Option FieldType}
theorem wc_Bx (hC : wC m c maxL s args own) (h : wLk own index y bytes mL ret n) (hrc : rm.cells = 1) (hrs : rm.slots = 6) (hR : rm.frames + 1 ≤ R.frames ∧ 8 + (mL + 11) + rm.locals ≤ R.locals) : CallB R s args own index y bytes mL ret (.code y bytes mL ret :: bg) rm 1 6 n :=
  callB_of n hC.2.1 (wc_good h.1) rfl hrc hrs (hC.hts h.2.1) (hC.hts h.2.2.2.2) ⟨h.2.2.1.1, h.2.2.1.2, h.2.2.2.1⟩ hR
theorem mPx_blind {av : List Value} : FrameBlind (mPx T F U K I O av) := fun a V g mk q => ⟨q.1, (mP_blind (av := av) a V g mk ⟨q.1, q.2.1⟩).2, wS.pre (s := V) (V := V.calling g mk a) (H := V.heap) (locs := []) q.2.2 va_S.rf rfl (State.WarmedH.refl V)⟩
theorem wH.prex {av : List Value} (hw : wH T F U K I O (wA T) s s.heap H locs) (hz : wS T s s.heap) : ∀ V : State, V.heap = H → s.WarmedH V.vm → mPx T F U K I O av av.toArray V := fun V hV hW => ⟨rfl, hw.stop hV hW.alike, hz.pre hw.2.2.2.1 hV hW⟩
theorem xcall {mc ms : Nat} {free : Addr → Prop} {SX : Type} {px : SX → Prop} {BX : String → SX → State → Prop} {AX A0 : Nat → Prop} (hr : vx_Run p l e R s m args below meth c H locs cells slots mc ms (F0 m pc ls st0) rest (fun _ _ _ => False) (vx_X px BX AX) free) (hS : va_S A0 H0 H locs) (hf : ∀ q, free q → A0 q) (hAX : ∀ q, q < H.size → AX q → A0 q)
    (kx : ∀ (E : String) (ce : Cell) (q9 : Addr) (u : SX) (t : State) (H1 : Heap) (locs1 : List Loc), t.heap = H1 → s.vm.Alike t.vm → px u → BX E u t → va_S A0 H0 H1 locs1 → H1[q9]? = some ce → ce.vm = .none → s.vm.findClass E = some ce.cls → vx_W p l e R s m args below meth c H1 locs1 (cells + mc) (slots + ms) Q (F0 m pc ls rest) q9) : W p l e R s m args below meth c H locs cells slots Q (F0 m pc ls st0) := by
  intro T hT X
  rcases hr T hT X with ⟨v, st₀, t, T', L, h0, X', hL, e1, e2, hF, st⟩ | ⟨q, st₀, t, T', L, E, ce, h0, X', hL, e1, e2, ⟨u, hp, hb, hF⟩, hce, hcv, hcl, st⟩
  · exact hF.elim
  · obtain ⟨k1, k2, k3⟩ := vx_keep h0 e1 hS hAX hf hL hF
    obtain ⟨t2, a1, b1⟩ := kx E ce q u t T'.heap (locs ++ L) e1.symm (by rw [← e2]; exact X'.warmed.alike) hp hb k3 (by rw [e1]; exact hce) hcv hcl T' rfl X'
    exact ⟨t2, st.trans a1, b1⟩
theorem xcS (hx : p.tables.exec = Jvm.exec) (hb : c.code = cc) (hC : wC m c maxL s args own) (hz : wS T s s.heap) (hw : wH T F U K I O (wA T) s s.heap H locs)
    (hM : vx_Met l y (.code y bytes mL ret :: bg) rm (mPx T F U K I O As) mQn (xX T E0 Pr I' O') 1 6 (wA T)) (h : wLs own index y bytes mL ret n) (hrc : rm.cells = 1) (hrs : rm.slots = 6) (hR : rm.frames + 1 ≤ R.frames ∧ 8 + (mL + 11) + rm.locals ≤ R.locals)
    (hn : As.length = n) (hls : ls.size = maxL) (hst : st0 = As.reverse ++ rest) (hW8 : (rest.map fun v => v.category).sum ≤ 8) (hf : 1 ≤ R.cells ∧ 6 ≤ R.slots) (hdg : decode cc pc = .ok (.invokestatic index, 3))
    (kx : ∀ (V' : Nat → Nat) (K' : wUt) (H1 : Heap) (locs1 : List Loc) (ce : Cell) (q : Addr), Pr V' K' → wH T (fF V') (fU V') K' I' O' (wA T) s s.heap H1 locs1 → H1[q]? = some ce → ce.vm = .none → s.vm.findClass E0 = some ce.cls → vx_W p l e R s m args below meth c H1 locs1 1 6 Q (F0 m pc ls rest) q) : W p l e R s m args below meth c H locs 0 0 Q (F0 m pc ls st0) := by
  refine xcall (vx_runS (As := As) (rest := rest) ⟨hx, hb, hC.1, hC.2.2, hC.2.1⟩ hM ⟨wc_Bx hC h.1 hrc hrs hR, hC.hts h.2⟩ ⟨mPx_blind, hw.prex hz⟩ rfl hn hls hst (lv_room hW8) hdg (by omega)) hw.2.2.2.1 (wA_sub hw) (fun q _ h => wA_sub hw q h) (fun E ce q9 u t H1 locs1 ht hvm hp hB hS h1 h2 h3 => ?_)
  obtain ⟨rfl, hB⟩ := hB
  exact kx u.1 u.2 H1 locs1 ce q9 hp (hw.back ht hvm hB hS) h1 h2 h3
theorem xcV (hx : p.tables.exec = Jvm.exec) (hb : c.code = cc) (hC : wC m c maxL s args own) (hz : wS T s s.heap) (hw : wH T F U K I O (wA T) s s.heap H locs)
    (hM : vx_Met l y (.code y bytes mL ret :: bg) rm (mPx T F U K I O (.ref (wa T k) :: As)) mQn (xX T E0 Pr I' O') 1 6 (wA T)) (h : wLv own index y bytes mL ret n) (hrc : rm.cells = 1) (hrs : rm.slots = 6) (hR : rm.frames + 1 ≤ R.frames ∧ 8 + (mL + 11) + rm.locals ≤ R.locals)
    (hk : k < 97) (he : wE T F U K I O k = .inr (ci, fs)) (hc : clS[ci]? = some (y.cls, Tt, N)) (hn : As.length = n) (hls : ls.size = maxL) (hst : st0 = As.reverse ++ .ref (wa T k) :: rest) (hW8 : (rest.map fun v => v.category).sum ≤ 8) (hf : 1 ≤ R.cells ∧ 6 ≤ R.slots) (hdg : decode cc pc = .ok (.invokevirtual index, 3))
    (kx : ∀ (V' : Nat → Nat) (K' : wUt) (H1 : Heap) (locs1 : List Loc) (ce : Cell) (q : Addr), Pr V' K' → wH T (fF V') (fU V') K' I' O' (wA T) s s.heap H1 locs1 → H1[q]? = some ce → ce.vm = .none → s.vm.findClass E0 = some ce.cls → vx_W p l e R s m args below meth c H1 locs1 1 6 Q (F0 m pc ls rest) q) : W p l e R s m args below meth c H locs 0 0 Q (F0 m pc ls st0) := by
  refine xcall (vx_runV (C := y.cls) (As := As) (rest := rest) ⟨hx, hb, hC.1, hC.2.2, hC.2.1⟩ hM ⟨wc_Bx hC h.1 hrc hrs hR, hC.hts h.2.1, hC.hts h.2.2⟩ ⟨mPx_blind, hw.recv hk he hc, hw.prex hz⟩ rfl hn hls hst (lv_room hW8) hdg (by omega)) hw.2.2.2.1 (wA_sub hw) (fun q _ h => wA_sub hw q h) (fun E ce q9 u t H1 locs1 ht hvm hp hB hS h1 h2 h3 => ?_)
  obtain ⟨rfl, hB⟩ := hB
  exact kx u.1 u.2 H1 locs1 ce q9 hp (hw.back ht hvm hB hS) h1 h2 h3
end XC
