/-! the law: what holds around its loop -/
def lX (p : Program) (R : Room) (s : State) (m : MethodId) (args : Array Value) (c : Code) (b L : Nat) (xs : Nat → Int32) (A : Nat → Prop) : Prop := p.tables.exec = Jvm.exec ∧ c.code = code ∧ wC m c 8 s args "LimbRegistersLaw" ∧ wSA A s ∧ va_X b L xs s s.heap ∧ b < s.heap.size ∧ ¬ A b ∧ L ≤ 3072 ∧ 11 ≤ R.frames ∧ 400 ≤ R.locals
def lI (T : wT) (A : Nat → Prop) (s : State) (H : Heap) (locs : List Loc) : Prop := ∃ (V : Nat → Nat) (K : wUt) (I : wIt) (O : wOt) (z : Nat → Int) (n9 : Nat) (tx : Nat → Nat) (M Z : Nat → Nat) (G : Nat → Int32), cI z V K ∧ mI z M Z G ∧ n9 ≤ 1200 ∧ K 14 = nI n9 ∧ K 16 = nI n9 ∧ I 0 = tI tx ∧ I 4 = tI tx ∧ (∀ i, tx i < 128) ∧ wH T (fF V) (fU V) K (gI I (dgm M) Z G) O A s s.heap H locs
def lL (T : wT) (b i : Nat) : List (Nat × Value) := [(4, .int (nI i)), (3, .ref (wa T 96)), (2, .ref (wa T 91)), (1, .ref (wa T 84)), (0, .ref b)]
theorem lN_of (v : Int64) : ∃ N, N < 2 ^ 64 ∧ v = lN N := by
  refine ⟨v.toUInt64.toNat, v.toUInt64.toNat_lt, ?_⟩
  apply Int64.toBitVec_inj.mp
  simp [lN]
section LW
variable {p : Program} {l : Launch} {e : Env} {R : Room} {s : State} {m : MethodId} {args : Array Value} {below : List Frame} {meth : Method} {c : Code} {H : Heap} {locs : List Loc} {cells slots : Nat} {Q : State → Prop}
variable {pc i b L k : Nat} {ls : Array Slot} {rest : List Value} {xs : Nat → Int32} {A : Nat → Prop}
/-- an int of the script -/
theorem rS (hQ : lX p R s m args c b L xs A) (hS : va_S A s.heap H locs) (hi : i + 6 ≤ L) (hk : k < 6) (h0 : ls[0]? = some (.val (.ref b))) (h4 : ls[4]? = some (.val (.int (nI i)))) {z : Int} (hz : Int32.ofInt z = nI k) (d0 : decode code pc = .ok (.aload_n 0, 1)) (d1 : decode code (pc + 1) = .ok (.iload 4, 2)) (d2 : decode code (pc + 3) = .ok (.iconst z, 1)) (d3 : decode code (pc + 4) = .ok (.iadd, 1)) (d4 : decode code (pc + 5) = .ok (.iaload, 1))
    (kk : W p l e R s m args below meth c H locs cells slots Q (F0 m (pc + 6) ls (.int (xs (i + k)) :: rest))) : W p l e R s m args below meth c H locs cells slots Q (F0 m pc ls rest) := by
  obtain ⟨hx, hb, hC, hz9, hX, hbl, hbA, hL, hR1, hR2⟩ := hQ
  refine lv_aload_n hx hb d0 rfl h0 ?_
  refine lv_iload hx hb d1 h4 ?_
  refine lv_iconst (v := nI k) hx hb d2 hz ?_
  refine n_iadd hx hb d3 ?_
  refine va_sld hx hb hX hbl hbA hS (vp_in_nI (by omega) (by omega)) d4 ?_
  rw [nI_clamp (n := i + k) (by omega)]
  exact kk
/-- not zero, as a boolean -/
theorem rZ (hx : p.tables.exec = Jvm.exec) (hb : c.code = code) {v : Int32} (d0 : decode code pc = .ok (.ifCond .eq 7, 3)) (d1 : decode code (pc + 3) = .ok (.iconst 1, 1)) (d2 : decode code (pc + 4) = .ok (.goto 4, 3)) (d3 : decode code (pc + 7) = .ok (.iconst 0, 1))
    (kk : W p l e R s m args below meth c H locs cells slots Q (F0 m (pc + 8) ls (.int (bI (decide (v ≠ 0))) :: rest))) : W p l e R s m args below meth c H locs cells slots Q (F0 m pc ls (.int v :: rest)) := by
  refine lv_if_eq (tgt := pc + 7) hx hb d0 (by omega) (fun h => ?_) (fun h => ?_)
  · refine lv_iconst (v := bI (decide (v ≠ 0))) hx hb d3 (by rw [h]; decide) ?_
    exact kk
  · refine lv_iconst (v := bI (decide (v ≠ 0))) hx hb d1 (by rw [decide_eq_true h]; decide) ?_
    refine lv_goto (tgt := pc + 8) hx hb d2 (by omega) ?_
    exact kk
/-- two ints as a long -/
theorem rJ (hx : p.tables.exec = Jvm.exec) (hb : c.code = code) (hC : wC m c 8 s args "LimbRegistersLaw") (hQ : lX p R s m args c b L xs A) (hS : va_S A s.heap H locs) (hi : i + 6 ≤ L) (hk : k < 5) (h0 : ls[0]? = some (.val (.ref b))) (h4 : ls[4]? = some (.val (.int (nI i)))) {y z : Int} (hy : Int32.ofInt y = nI k) (hz : Int32.ofInt z = nI (k + 1)) (d0 : decode code pc = .ok (.aload_n 0, 1)) (d1 : decode code (pc + 1) = .ok (.iload 4, 2)) (d2 : decode code (pc + 3) = .ok (.iconst y, 1)) (d3 : decode code (pc + 4) = .ok (.iadd, 1)) (d4 : decode code (pc + 5) = .ok (.iaload, 1))
    (d5 : decode code (pc + 6) = .ok (.i2l, 1)) (d6 : decode code (pc + 7) = .ok (.bipush 32, 2)) (d7 : decode code (pc + 9) = .ok (.lshl, 1)) (f0 : decode code (pc + 10) = .ok (.aload_n 0, 1)) (f1 : decode code (pc + 11) = .ok (.iload 4, 2)) (f2 : decode code (pc + 13) = .ok (.iconst z, 1)) (f3 : decode code (pc + 14) = .ok (.iadd, 1)) (f4 : decode code (pc + 15) = .ok (.iaload, 1)) (f5 : decode code (pc + 16) = .ok (.i2l, 1)) (f6 : decode code (pc + 17) = .ok (.ldc2_w 92, 3)) (f7 : decode code (pc + 20) = .ok (.land, 1)) (f8 : decode code (pc + 21) = .ok (.lor, 1))
    (kk : W p l e R s m args below meth c H locs cells slots Q (F0 m (pc + 22) ls (.long (((xs (i + k)).toInt64 <<< ((32 : Int32).toInt64 &&& 63)) ||| ((xs (i + (k + 1))).toInt64 &&& 4294967295)) :: rest))) : W p l e R s m args below meth c H locs cells slots Q (F0 m pc ls rest) := by
  refine rS hQ hS hi (by omega) h0 h4 hy d0 d1 d2 d3 d4 ?_
  refine lv_i2l hx hb d5 rfl ?_
  refine lv_bipush (v := 32) hx hb d6 (by decide +kernel) ?_
  refine lv_lshl hx hb d7 rfl ?_
  refine rS (k := k + 1) hQ hS hi (by omega) h0 h4 hz f0 f1 f2 f3 f4 ?_
  refine lv_i2l hx hb f5 rfl ?_
  refine lv_ldc2 (v := 4294967295) hx hb hC.ow (hC.hts bw_1041) f6 ?_
  refine lv_land hx hb f7 ?_
  refine lv_lor hx hb f8 ?_
  exact kk
end LW
