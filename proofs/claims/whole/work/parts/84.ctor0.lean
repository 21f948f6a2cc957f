/-! constructors: cells are made one behind the other; what is held of them -/
abbrev gT : Type := (Nat → ClassId) × (Nat → Nat → Nat) × (Nat → ClassId)
def gD (t : gT) : va_G := (t.1, t.2.1)
def gt (t : gT) : List (ClassId × FieldType) := [(t.2.2 0, .long), (t.2.2 1, .int), (t.2.2 2, .byte), (t.2.2 3, .object RX6)]
def isNest (w : Cond) : Bool := match w with
  | .methodLinkNest _ _ _ _ => true
  | _ => false
def nW : List Cond := lw_tbl.filter isNest
theorem nW_at {w : Cond} (i : Nat) (h : (lw_tbl)[i]? = some w) (hg : isNest w = true) : w ∈ nW := List.mem_filter.mpr ⟨List.mem_of_getElem? h, hg⟩
def cNw (U : State) : Prop := (∀ w ∈ nW, va_Nw w U) ∧ va_AO RX6 U
theorem nest_same {w : Cond} (hn : isNest w = true) {s U : State} (h : s.vm = U.vm) (hz : va_Nw w s) : va_Nw w U := by
  cases w <;> first | exact va_Nw.same rfl h hz | cases hn
theorem nest_warm {w : Cond} (hn : isNest w = true) {s U : State} (hW : s.WarmedH U.vm) (hz : va_Nw w s) : va_Nw w U := by
  cases w <;> first | exact va_Nw.warmM hW hz | cases hn
theorem nest_of {w : Cond} (hn : isNest w = true) {args : Array Value} {s : State} (hz : w.before args s = true) : va_Nw w s := by
  cases w <;> first | exact va_Nw.of rfl hz | cases hn
theorem cNw.same {s U : State} (h : s.vm = U.vm) (hz : cNw s) : cNw U := ⟨fun w hw => nest_same (List.mem_filter.mp hw).2 h (hz.1 w hw), va_AO.moved (by rw [h]; exact Vm.Alike.refl _) hz.2⟩
theorem cNw.warm {s U : State} (hW : s.WarmedH U.vm) (hz : cNw s) : cNw U := ⟨fun w hw => nest_warm (List.mem_filter.mp hw).2 hW (hz.1 w hw), va_AO.moved hW.alike hz.2⟩
def cH (t : gT) (ws : va_W) (A : Nat → Prop) (s : State) (H0 H : Heap) (locs : List Loc) : Prop :=
  va_P (gD t) clS ws H ∧ va_K (gD t) clS (gt t) s ∧ va_D A ws ∧ va_S A H0 H locs ∧ (∀ q, H0.size ≤ q → A q) ∧ cNw s
def cAd (h0 sz : Nat) : Nat → Prop := fun q => q = h0 ∨ sz ≤ q
def cPre (t : gT) (h0 sz ci : Nat) (fs : List Value) : Array Value → State → Prop := va_Pc [.ref h0] (fun U => U.heap.size = sz ∧ va_P (gD t) clS [(h0, .inr (ci, fs))] U.heap ∧ va_K (gD t) clS (gt t) U ∧ cNw U)
def cPost {S : Type} (t : gT) (B : S → va_W) (A : Nat → Prop) : Array Value → State → Outcome → State → Prop := va_Qv (fun _ : S => True) (fun u U => va_P (gD t) clS (B u) U.heap ∧ va_D A (B u)) A
theorem gt_un {D : va_G} {cl : List vw_C} {tys : List (ClassId × FieldType)} {s : State} {cA c0 : ClassId} {ty : FieldType} {i : Nat} (h : va_K D cl (tys ++ [(cA, ty)]) s) (hi : tys[i]? = some (c0, ty)) (hr : ∀ x, va_RA s x ty → s.vm.findClass ("[" ++ ty.toString) = some x) : cA = c0 := by
  have hl : i < tys.length := (List.getElem?_eq_some_iff.mp hi).1
  have h1 := (h.2 i (c0, ty) (by rw [List.getElem?_append_left hl]; exact hi)).2
  have h2 := (h.2 tys.length (cA, ty) (by rw [List.getElem?_append_right (Nat.le_refl _), Nat.sub_self]; rfl)).2
  exact Option.some.inj ((hr _ h2).symm.trans (hr _ h1))
section CT
variable {p : Program} {l : Launch} {e : Env} {R : Room} {s : State} {m : MethodId} {args : Array Value} {below : List Frame} {meth : Method} {c : Code} {H H0 : Heap} {locs : List Loc} {cells slots : Nat} {Q : State → Prop}
variable {cc : ByteArray} {pc maxL : Nat} {ls : Array Slot} {rest st0 As : List Value} {t : gT} {A : Nat → Prop} {own : String} {ws : va_W}
variable {y : MethodName} {bytes : ByteArray} {mL n index k ci N q h0 sz mc ms : Nat} {fs : List Value} {Tt : u_T} {rm : Room} {S : Type} {B : S → va_W}
theorem cM {B : S → va_W} (hpn : plainName y.cls = true) (hmL : 1 ≤ maxL) (hrc : rm.cells = mc) (hrs : rm.slots = ms) (hyn : y.name = "<init>")
    (body : ∀ (p : Program) (e : Env) (R : Room) (s : State) (m : MethodId) (args : Array Value) (below : List Frame) (meth : Method) (c : Code) (Q : State → Prop) (ls : Array Slot), p.tables.exec = Jvm.exec → c.code = cc → wC m c maxL s args y.cls → meth.name = "<init>" → rm.frames ≤ R.frames → rm.locals ≤ R.locals → mc ≤ R.cells ∧ ms ≤ R.slots →
      (∀ (u : S) (H : Heap) (locs : List Loc) (pc : Nat) (ls : Array Slot), cH t (B u) (cAd h0 s.heap.size) s s.heap H locs → decode cc pc = .ok (.return_, 1) → W p l e R s m args below meth c H locs mc ms Q (F0 m pc ls [])) →
      lv_has ls maxL [(0, .ref h0)] → cH t [(h0, .inr (ci, fs))] (cAd h0 s.heap.size) s s.heap s.heap [] → W p l e R s m args below meth c s.heap [] 0 0 Q (F0 m 0 ls [])) :
    Met l y (.code y cc maxL none :: bg) rm (cPre t h0 sz ci fs) (cPost t B (cAd h0 sz)) mc ms (cAd h0 sz) := by
  refine Met.ofW (cc := cc) (maxL := maxL) (ret := none) hpn rfl ?_
  intro p e s m args below meth c s₁ B9 hml hv
  obtain ⟨rfl, hsz, hP, hK, hN⟩ := hv
  have hts := atoms_spec (ws := (.code y cc maxL none :: bg)) B9.pre
  have hlocks := B9.notSynchronized
  have hin : meth.name = "<init>" := (name_of_methodNamed B9.named B9.method).1.trans hyn
  subst hsz
  have hD : va_D (cAd h0 s.heap.size) [(h0, .inr (ci, fs))] := by
    refine ⟨fun i j a b h1 h2 _ => ?_, fun k q h => ?_⟩
    · have a1 := (List.getElem?_eq_some_iff.mp h1).1
      have a2 := (List.getElem?_eq_some_iff.mp h2).1
      simp only [List.length_cons, List.length_nil] at a1 a2
      omega
    · have a1 := (List.getElem?_eq_some_iff.mp h).1
      simp only [List.length_cons, List.length_nil] at a1
      rw [show k = 0 by omega] at h
      cases h
      exact Or.inl rfl
  rw [lg_entry_eq]
  refine body p e _ s m _ below meth c _ _ B9.exec B9.bytes ⟨hml, fun w h => hts w (List.mem_cons_of_mem _ h), findClass_of_methodNamed B9.named⟩ hin (Nat.le_refl _) (Nat.le_refl _) ⟨?_, ?_⟩ ?_ (lv_entry [.ref h0] hmL) ⟨hP, hK, hD, va_S.rf, fun q h => Or.inr h, hN⟩
  · show mc ≤ rm.cells; omega
  · show ms ≤ rm.slots; omega
  · intro u H locs pc ls hw hd
    exact W.vret B9.exec B9.bytes B9.returns (fun t ht hW => ⟨⟨u, rfl, trivial, by rw [ht]; exact hw.1, hw.2.2.1⟩, hw.2.2.2.1.F ht⟩) hw.2.2.2.1.2.2 hd hlocks
theorem cPre_blind : FrameBlind (cPre t h0 sz ci fs) := fun a V g mk q => ⟨q.1, q.2.1, q.2.2.1, va_K.moved (u := V) (U := V.calling g mk a) (Vm.Alike.refl V.vm) q.2.2.2.1, cNw.same (s := V) (U := V.calling g mk a) rfl q.2.2.2.2⟩
theorem cH.pre (hw : cH t (ws ++ [(q, .inr (ci, fs))]) A s H0 H locs) : ∀ V : State, V.heap = H → s.WarmedH V.vm → cPre t q H.size ci fs [.ref q].toArray V := fun V hV hW => ⟨rfl, by rw [hV], by
  rw [hV]
  intro k x hx
  have a1 := (List.getElem?_eq_some_iff.mp hx).1
  simp only [List.length_cons, List.length_nil] at a1
  rw [show k = 0 by omega] at hx
  exact hw.1 ws.length x (by rw [List.getElem?_append_right (Nat.le_refl _), Nat.sub_self]; exact hx), va_K.moved hW.alike hw.2.1, hw.2.2.2.2.2.warm hW⟩
theorem cH.free (hw : cH t (ws ++ [(q, .inr (ci, fs))]) A s H0 H locs) : ∀ x, cAd q H.size x → A x := fun x h => by
  rcases h with rfl | h
  · exact hw.2.2.1.2 ws.length (x, .inr (ci, fs)) (by rw [List.getElem?_append_right (Nat.le_refl _), Nat.sub_self]; rfl)
  · exact hw.2.2.2.2.1 x (Nat.le_trans hw.2.2.2.1.1 h)
theorem cH.back {V : State} {H1 : Heap} {locs1 : List Loc} {w1 : va_W} (hw : cH t (ws ++ [(q, .inr (ci, fs))]) A s H0 H locs) (hV : V.heap = H1) (hB : va_P (gD t) clS w1 V.heap ∧ va_D (cAd q H.size) w1) (hk : ∀ x : Nat, x < H.size → ¬ cAd q H.size x → H1[x]? = H[x]?) (hS : va_S A H0 H1 locs1) : cH t (ws ++ w1) A s H0 H1 locs1 := by
  have hq : (ws ++ [(q, Sum.inr (ci, fs))])[ws.length]? = some (q, (Sum.inr (ci, fs) : va_E)) := by rw [List.getElem?_append_right (Nat.le_refl _), Nat.sub_self]; rfl
  have hpart : ∀ (i : Nat) (x : Nat × va_E), ws[i]? = some x → (ws ++ [(q, (Sum.inr (ci, fs) : va_E))])[i]? = some x := fun i x h => by rw [List.getElem?_append_left (List.getElem?_eq_some_iff.mp h).1]; exact h
  have apart : ∀ (i : Nat) (x : Nat × va_E), ws[i]? = some x → x.1 < H.size ∧ ¬ cAd q H.size x.1 := fun i x h => by
    have hl := (hw.1 i x (hpart i x h)).lt
    refine ⟨hl, fun z => ?_⟩
    rcases z with z | z
    · have := hw.2.2.1.1 i ws.length x _ (hpart i x h) hq z
      have := (List.getElem?_eq_some_iff.mp h).1
      omega
    · omega
  refine ⟨va_P.app (fun i x h => ?_) (by rw [← hV]; exact hB.1), hw.2.1, va_D.app ⟨fun i j a b h1 h2 h3 => hw.2.2.1.1 i j a b (hpart _ _ h1) (hpart _ _ h2) h3, fun k x h => hw.2.2.1.2 k x (hpart _ _ h)⟩ (hB.2.weaken (fun k x _ h => hw.free x.1 h)) (fun i j x y hx hy hxy => ?_), hS, hw.2.2.2.2.1, hw.2.2.2.2.2⟩
  · obtain ⟨g1, g2⟩ := apart i x h
    exact (hw.1 i x (hpart _ _ h)).kept (hk x.1 g1 g2)
  · exact (apart i x hx).2 (by rw [hxy]; exact hB.2.2 j y hy)
/-- a constructor of a nest mate -/
theorem cIn {host : String} (hx : p.tables.exec = Jvm.exec) (hb : c.code = cc) (hC : wC m c maxL s args own) (hw : cH t (ws ++ [(q, .inr (ci, fs))]) A s H0 H locs)
    (hM : ∀ sz, Met l y (.code y bytes mL none :: bg) rm (cPre t q sz ci fs) (cPost t B (cAd q sz)) mc ms (cAd q sz))
    (hcd : Cond.code y bytes mL none ∈ bg) (hini : Cond.initialized y.cls ∈ bg) (hins : Cond.instanceMethod y ∈ bg) (hnest : Cond.methodLinkNest own index y host ∈ nW) (hyn : y.name = "<init>") (hd : y.cls ≠ "java/lang/invoke/MethodHandle" ∧ y.cls ≠ "java/lang/invoke/VarHandle" ∧ (parseMethodDescriptor y.desc).map (fun d => d.parameters.length) = some 0)
    (hrc : rm.cells = mc) (hrs : rm.slots = ms) (hR : rm.frames + 1 ≤ R.frames ∧ 8 + (mL + 11) + rm.locals ≤ R.locals) (hls : ls.size = maxL) (hW8 : (rest.map fun v => v.category).sum ≤ 8) (hf : cells + mc ≤ R.cells ∧ slots + ms ≤ R.slots) (hdg : decode cc pc = .ok (.invokespecial index, 3))
    (kk : ∀ (u : S) (H1 : Heap) (locs1 : List Loc), cH t (ws ++ B u) A s H0 H1 locs1 → W p l e R s m args below meth c H1 locs1 (cells + mc) (slots + ms) Q (F0 m (pc + 3) ls rest)) : W p l e R s m args below meth c H locs cells slots Q (F0 m pc ls (.ref q :: rest)) := by
  refine va_callv (va_runIN (As := []) (rest := rest) ⟨hx, hb, hC.1, hC.2.2, hC.2.1⟩ (hM H.size) ⟨va_cnB 0 hC.2.1 (wc_good hcd) rfl hrc hrs (hw.2.2.2.2.2.1 _ hnest) (hC.hts hini) hd hR, hyn, hC.hts hins⟩ ⟨cPre_blind, hw.pre⟩ rfl rfl hls rfl (lv_room hW8) hdg hf) hw.2.2.2.1 (fun x _ h => hw.free x h) hw.free (fun u t9 H1 locs1 ht hvm _ hB hsz hk1 hS => ?_)
  exact kk u H1 locs1 (hw.back ht hB hk1 hS)
/-- a constructor by its plain link -/
theorem cIp (hx : p.tables.exec = Jvm.exec) (hb : c.code = cc) (hC : wC m c maxL s args own) (hw : cH t (ws ++ [(q, .inr (ci, fs))]) A s H0 H locs)
    (hM : ∀ sz, Met l y (.code y bytes mL none :: bg) rm (cPre t q sz ci fs) (cPost t B (cAd q sz)) mc ms (cAd q sz))
    (hcd : Cond.code y bytes mL none ∈ bg) (hini : Cond.initialized y.cls ∈ bg) (hins : Cond.instanceMethod y ∈ bg) (hlk : Cond.methodLink own index y ∈ bg) (hyn : y.name = "<init>") (hd : y.cls ≠ "java/lang/invoke/MethodHandle" ∧ y.cls ≠ "java/lang/invoke/VarHandle" ∧ (parseMethodDescriptor y.desc).map (fun d => d.parameters.length) = some 0)
    (hrc : rm.cells = mc) (hrs : rm.slots = ms) (hR : rm.frames + 1 ≤ R.frames ∧ 8 + (mL + 11) + rm.locals ≤ R.locals) (hls : ls.size = maxL) (hW8 : (rest.map fun v => v.category).sum ≤ 8) (hf : cells + mc ≤ R.cells ∧ slots + ms ≤ R.slots) (hdg : decode cc pc = .ok (.invokespecial index, 3))
    (kk : ∀ (u : S) (H1 : Heap) (locs1 : List Loc), cH t (ws ++ B u) A s H0 H1 locs1 → W p l e R s m args below meth c H1 locs1 (cells + mc) (slots + ms) Q (F0 m (pc + 3) ls rest)) : W p l e R s m args below meth c H locs cells slots Q (F0 m pc ls (.ref q :: rest)) := by
  refine va_callv (va_runI (As := []) (rest := rest) ⟨hx, hb, hC.1, hC.2.2, hC.2.1⟩ (hM H.size) (cwI 0 hC.2.1 (wc_good hcd) rfl hrc hrs (hC.hts hini) (hC.hts hlk) (hC.hts hins) hyn hd hR) ⟨cPre_blind, hw.pre⟩ rfl rfl hls rfl (lv_room hW8) hdg hf) hw.2.2.2.1 (fun x _ h => hw.free x h) hw.free (fun u t9 H1 locs1 ht hvm _ hB hsz hk1 hS => ?_)
  exact kk u H1 locs1 (hw.back ht hB hk1 hS)
/-- Object's constructor -/
theorem cOb (hx : p.tables.exec = Jvm.exec) (hb : c.code = cc) (hC : wC m c maxL s args own) (hlk : Cond.methodLink own index Lib.objectInit ∈ bg) (hins : Cond.instanceMethod Lib.objectInit ∈ bg) (hcd : Cond.code Lib.objectInit ⟨#[0xb1]⟩ 1 none ∈ bg) (hls : ls.size = maxL) (hf : 1 ≤ R.frames) (hlo : 20 ≤ R.locals) (hdg : decode cc pc = .ok (.invokespecial index, 3))
    (kk : W p l e R s m args below meth c H locs cells slots Q (F0 m (pc + 3) ls [])) : W p l e R s m args below meth c H locs cells slots Q (F0 m pc ls [.ref q]) := by
  refine W.objInit hx hb hC.2.2 (hC.hts hlk) (hC.hts hins) (hC.hts hcd) rfl (by rw [hC.1]; exact hls) rfl hdg hf ?_ kk
  show 2 * 0 + 0 + 12 ≤ R.locals
  omega
theorem cNew (hx : p.tables.exec = Jvm.exec) (hb : c.code = cc) (hC : wC m c maxL s args own) (hw : cH t ws A s H0 H locs) {C : String} {ty : Nat → FieldType} (hc : clS[ci]? = some (C, Tt, N)) (hin : ∀ w ∈ u_ws C Tt N, w ∈ bg) (hty : ∀ k, k < N → parseFieldDescriptor (Tt k).2.2.1 = some (ty k)) (hcl : Cond.classLink own index C ∈ bg) (hinst : Cond.instantiable C N ∈ bg) (hini : Cond.initialized C ∈ bg) (hfs : ∀ j, j < N → defaultValue (ty j) = vp_V fs j) (hf : cells + 1 ≤ R.cells ∧ slots + N ≤ R.slots) (hdg : decode cc pc = .ok (.new index, 3))
    (kk : ∀ (q : Nat) (H1 : Heap), cH t (ws ++ [(q, .inr (ci, fs))]) A s H0 H1 locs → W p l e R s m args below meth c H1 locs (cells + 1) (slots + N) Q (F0 m (pc + 3) ls (.ref q :: rest))) : W p l e R s m args below meth c H locs cells slots Q (F0 m pc ls rest) :=
  va_new hx hb hC.2.1 hin ty hty hC.2.2 (hC.hts hcl) (hC.hts hinst) (hC.hts hini) hw.2.1 hw.1 hw.2.2.1 hw.2.2.2.1 hw.2.2.2.2.1 hc hfs hf.1 hf.2 hdg (fun q H1 h1 h2 h3 => kk q H1 ⟨h1, hw.2.1, h2, h3, hw.2.2.2.2⟩)
theorem cNewA (hx : p.tables.exec = Jvm.exec) (hb : c.code = cc) (hC : wC m c maxL s args own) (hw : cH t ws A s H0 H locs) (i : Nat) {at9 : ArrayType} {ty : FieldType} (hty : newarray.typeOf at9 = ty) (hi : (gt t)[i]? = some (t.2.2 i, ty)) (hr : ∀ x, va_RA s x ty → s.vm.findClass ("[" ++ ty.toString) = some x) (harr : Cond.arrayClass ty ∈ bg)
    {z : Int32} {N' : Nat} {a0 : vp_A} (ha : ∀ cA : ClassId, vp_cell cA a0 = arrV cA N' (fun _ => defaultValue ty)) (hz : ¬ z < 0) (hN : z.toNatClampNeg = N') (hby : N' * componentBytes ty ≤ 536870912) (hf : cells + 1 ≤ R.cells ∧ slots + N' ≤ R.slots) (hdg : decode cc pc = .ok (.newarray at9, 2))
    (kk : ∀ (q : Nat) (H1 : Heap), cH t (ws ++ [(q, .inl (t.2.2 i, a0))]) A s H0 H1 locs → W p l e R s m args below meth c H1 locs (cells + 1) (slots + N') Q (F0 m (pc + 2) ls (.ref q :: rest))) : W p l e R s m args below meth c H locs cells slots Q (F0 m pc ls (.int z :: rest)) := by
  refine va_newa hx hb (by rw [hty]; exact hC.hts harr) hty hw.2.1 hw.1 hw.2.2.1 hw.2.2.2.1 hw.2.2.2.2.1 ha hz hN hby hf.1 hf.2 hdg (fun q cA H1 h0 h1 h2 h3 => ?_)
  have e9 := gt_un h0 hi hr
  subst e9
  exact kk q H1 ⟨h1, hw.2.1, h2, h3, hw.2.2.2.2⟩
theorem cNewQ (hx : p.tables.exec = Jvm.exec) (hb : c.code = cc) (hC : wC m c maxL s args own) (hw : cH t ws A s H0 H locs) (hcl : Cond.classLink own index RX6 ∈ bg)
    {z : Int32} {N' : Nat} (hz : ¬ z < 0) (hN : z.toNatClampNeg = N') (hby : N' * 4 ≤ 536870912) (hf : cells + 1 ≤ R.cells ∧ slots + N' ≤ R.slots) (hdg : decode cc pc = .ok (.anewarray index, 3))
    (kk : ∀ (q : Nat) (H1 : Heap), cH t (ws ++ [(q, .inl (t.2.2 3, N', .inr (.inr (.inr (.inr (fun _ => none))))))]) A s H0 H1 locs → W p l e R s m args below meth c H1 locs (cells + 1) (slots + N') Q (F0 m (pc + 3) ls (.ref q :: rest))) : W p l e R s m args below meth c H locs cells slots Q (F0 m pc ls (.int z :: rest)) := by
  refine va_newq hx hb hC.2.2 (hC.hts hcl) hw.2.2.2.2.2.2 hw.2.1 hw.1 hw.2.2.1 hw.2.2.2.1 hw.2.2.2.2.1 hz hN hby hf.1 hf.2 hdg (fun q cA H1 h0 h1 h2 h3 => ?_)
  have e9 := gt_un (i := 3) h0 rfl (fun x hx => by obtain ⟨_, _, _, _, _, h4⟩ := hx; exact h4)
  subst e9
  exact kk q H1 ⟨h1, hw.2.1, h2, h3, hw.2.2.2.2⟩
/-- a field of the own cell, which stands first -/
theorem cPutF {L : va_W} (hx : p.tables.exec = Jvm.exec) (hb : c.code = cc) (hC : wC m c maxL s args own) (hw : cH t ((h0, .inr (ci, fs)) :: L) A s H0 H locs) {ty0 : Nat → FieldType} (hc : clS[ci]? = some (own, Tt, N)) (hin : ∀ w ∈ u_ws own Tt N, w ∈ bg) (hty : ∀ k, k < N → parseFieldDescriptor (Tt k).2.2.1 = some (ty0 k)) (hnm : ∀ a, a < N → ∀ b, b < N → a ≠ b → (Tt a).2.1 ≠ (Tt b).2.1)
    (k : Nat) (hk : k < N) (hown : (Tt k).1 = own) (hlink : Cond.fieldLink own index own (Tt k).2.1 (Tt k).2.2.1 ∈ bg) (hfin : (Tt k).2.2.2 = true) (hmn : meth.name = "<init>") {ty : FieldType} {v : Value} (hd : parseFieldDescriptor (Tt k).2.2.1 = some ty) (hn : narrow ty v = v) (hfit : fits ty v = true) (hl : k < fs.length) (hdg : decode cc pc = .ok (.putfield index, 3))
    (kk : ∀ (H1 : Heap) (locs1 : List Loc), cH t ((h0, .inr (ci, fs.set k v)) :: L) A s H0 H1 locs1 → W p l e R s m args below meth c H1 locs1 cells slots Q (F0 m (pc + 3) ls rest)) : W p l e R s m args below meth c H locs cells slots Q (F0 m pc ls (v :: .ref h0 :: rest)) :=
  va_putF hx hb hC.2.1 hin ty0 hty hnm hC.2.2 hw.2.1 hw.1 hw.2.2.1 hw.2.2.2.1 0 rfl hc k hk (hC.hts hlink) (fun x9 h9 => by rw [hown] at h9; exact h9) hfin hmn hown hd hn hfit hl hdg (fun H1 locs1 h1 h2 h3 => kk H1 locs1 ⟨h1, hw.2.1, h2, h3, hw.2.2.2.2⟩)
theorem cPut {L : va_W} (hx : p.tables.exec = Jvm.exec) (hb : c.code = cc) (hC : wC m c maxL s args own) (hw : cH t ((h0, .inr (ci, fs)) :: L) A s H0 H locs) {ty0 : Nat → FieldType} (hc : clS[ci]? = some (own, Tt, N)) (hin : ∀ w ∈ u_ws own Tt N, w ∈ bg) (hty : ∀ k, k < N → parseFieldDescriptor (Tt k).2.2.1 = some (ty0 k)) (hnm : ∀ a, a < N → ∀ b, b < N → a ≠ b → (Tt a).2.1 ≠ (Tt b).2.1)
    (k : Nat) (hk : k < N) (hown : (Tt k).1 = own) (hlink : Cond.fieldLink own index own (Tt k).2.1 (Tt k).2.2.1 ∈ bg) (hfin : (Tt k).2.2.2 = false) {ty : FieldType} {v : Value} (hd : parseFieldDescriptor (Tt k).2.2.1 = some ty) (hn : narrow ty v = v) (hfit : fits ty v = true) (hl : k < fs.length) (hdg : decode cc pc = .ok (.putfield index, 3))
    (kk : ∀ (H1 : Heap) (locs1 : List Loc), cH t ((h0, .inr (ci, fs.set k v)) :: L) A s H0 H1 locs1 → W p l e R s m args below meth c H1 locs1 cells slots Q (F0 m (pc + 3) ls rest)) : W p l e R s m args below meth c H locs cells slots Q (F0 m pc ls (v :: .ref h0 :: rest)) :=
  va_put hx hb hC.2.1 hin ty0 hty hnm hC.2.2 hw.2.1 hw.1 hw.2.2.1 hw.2.2.2.1 0 rfl hc k hk (hC.hts hlink) (fun x9 h9 => by rw [hown] at h9; exact h9) hfin hd hn hfit hl hdg (fun H1 locs1 h1 h2 h3 => kk H1 locs1 ⟨h1, hw.2.1, h2, h3, hw.2.2.2.2⟩)
end CT
