/-! the law: bounds of codes and texts -/
theorem ocG0_lt {g : Prop} [Decidable g] : ocG g 0 < 2147483648 := by unfold ocG; split <;> decide
theorem tyC_lt {n9 N : Nat} {n : Int32} : tyC n9 N n < 2147483648 := by
  unfold tyC
  repeat' split
  all_goals decide
theorem psC_lt {tx : Nat → Nat} {n9 : Nat} {r b : Int32} : psC tx n9 r b < 2147483648 := by
  unfold psC
  repeat' split
  all_goals decide
theorem prC_lt {a b : Int32} : prC a b < 2147483648 := by
  unfold prC
  repeat' split
  all_goals decide
theorem tyC_n {n9 N : Nat} {n : Int32} (h : n9 ≤ 1200) : (if tyC n9 N n = 0 then n9 + rg n else n9) ≤ 1200 := by
  by_cases h0 : tyC n9 N n = 0
  · rw [if_pos h0]
    unfold tyC at h0
    split at h0
    · split at h0
      · assumption
      · cases h0
    · cases h0
  · rw [if_neg h0]; exact h
theorem tyC_t {n9 N : Nat} {n : Int32} {tx : Nat → Nat} (h : ∀ i, tx i < 128) : ∀ i, (if tyC n9 N n = 0 then apT tx n9 N (rg n) else tx) i < 128 := by
  by_cases h0 : tyC n9 N n = 0
  · rw [if_pos h0]
    unfold tyC at h0
    split at h0
    · rename_i g
      exact apT_lt h (arC_lt g.2.2)
    · cases h0
  · rw [if_neg h0]; exact h
theorem psC_n {n9 : Nat} {r b : Int32} {tx : Nat → Nat} (h : n9 ≤ 1200) : (if psC tx n9 r b = 0 then 0 else n9) ≤ 1200 := by
  split
  · decide
  · exact h
theorem prC_n {n9 v : Nat} {a b : Int32} {sg : Bool} (h : n9 ≤ 1200) : (if prC a b = 0 then pL (rg b) v sg else n9) ≤ 1200 := by
  split
  · unfold pL
    have := ndg_le (rg b) v
    split <;> omega
  · exact h
theorem prC_t {v : Nat} {a b : Int32} {sg : Bool} {tx : Nat → Nat} (h : ∀ i, tx i < 128) : ∀ i, (if prC a b = 0 then prT tx v (rg b) sg else tx) i < 128 := by
  by_cases h0 : prC a b = 0
  · rw [if_pos h0]
    unfold prC at h0
    split at h0
    · split at h0
      · rename_i g
        obtain ⟨x, h1, h2, hx⟩ := isX_of g
        have e9 : rg b = x := by rw [hx]; exact (rx_all ⟨x, by omega⟩).1
        rw [e9]
        exact prT_lt (by omega) h2 h
      · cases h0
    · cases h0
  · rw [if_neg h0]; exact h
theorem bitI_01 (x : Int) (k : Nat) : bitI x k = 0 ∨ bitI x k = 1 := by unfold bitI; split <;> simp
theorem oU_0 {oc : Nat} {O : wOt} {v : Int64} (h : oc = 0) : oU oc O v 0 = v := by unfold oU; rw [if_pos h]; simp [vp_updL]
section LV
variable {p : Program} {l : Launch} {e : Env} {R : Room} {s : State} {m : MethodId} {args : Array Value} {below : List Frame} {meth : Method} {c : Code} {H : Heap} {locs : List Loc} {cells slots : Nat} {Q : State → Prop}
variable {pc : Nat} {ls : Array Slot} {rest : List Value}
/-- a boolean as a long -/
theorem rL (hx : p.tables.exec = Jvm.exec) (hb : c.code = code) {v : Int32} (hv : v = 0 ∨ v = 1) (d0 : decode code pc = .ok (.ifCond .eq 7, 3)) (d1 : decode code (pc + 3) = .ok (.lconst 1, 1)) (d2 : decode code (pc + 4) = .ok (.goto 4, 3)) (d3 : decode code (pc + 7) = .ok (.lconst 0, 1))
    (kk : W p l e R s m args below meth c H locs cells slots Q (F0 m (pc + 8) ls (.long v.toInt64 :: rest))) : W p l e R s m args below meth c H locs cells slots Q (F0 m pc ls (.int v :: rest)) := by
  refine lv_if_eq (tgt := pc + 7) hx hb d0 (by omega) (fun h => ?_) (fun h => ?_)
  · refine lv_lconst (v := v.toInt64) hx hb d3 (by rw [h]; decide) ?_
    exact kk
  · refine lv_lconst (v := v.toInt64) hx hb d1 (by rw [hv.resolve_left h]; decide) ?_
    refine lv_goto (tgt := pc + 8) hx hb d2 (by omega) ?_
    exact kk
end LV
