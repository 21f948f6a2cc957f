/-! LimbRegisters: needRegister, needRadix, needModulus, keepAnswer -/
def xE (V : Nat → Nat) (K : wUt) : (Nat → Nat) → wUt → Prop := fun V' K' => V' = V ∧ K' = K
def kpR (V : Nat → Nat) (K : wUt) : (Nat → Nat) → wUt → Prop := fun V' K' => (∀ i, i < 12 → V' i = V i ∧ K' i = K i) ∧ (∀ n, n < 34 → V' n < vLim) ∧ K' 14 = K 14 ∧ K' 15 = K 15 ∧ K' 16 = K 16
theorem kpR_self {V : Nat → Nat} {K : wUt} (hV : ∀ n, n < 34 → V n < vLim) : kpR V K V K := ⟨fun _ _ => ⟨rfl, rfl⟩, hV, rfl, rfl, rfl⟩
theorem kpR_x {V V' : Nat → Nat} {K K' : wUt} (hV : ∀ n, n < 34 → V n < vLim) (h : xE V K V' K') : kpR V K V' K' := by obtain ⟨rfl, rfl⟩ := h; exact kpR_self hV
abbrev eIX : String := "java/lang/IndexOutOfBoundsException"
abbrev isR (r : Int32) : Prop := 0 ≤ r ∧ r < nI 12
theorem isR_of {r : Int32} (h : isR r) : ∃ x, x < 12 ∧ r = nI x := by
  obtain ⟨h1, h2⟩ := h
  have a1 := Int32.le_iff_toInt_le.mp h1
  have a2 := Int32.lt_iff_toInt_lt.mp h2
  have e0 : (0 : Int32).toInt = 0 := by decide +kernel
  have e1 : (nI 12).toInt = 12 := by decide +kernel
  rw [e0] at a1; rw [e1] at a2
  refine ⟨r.toInt.toNat, by omega, ?_⟩
  conv => lhs; rw [← Int32.ofInt_toInt r, ← Int.toNat_of_nonneg a1]
  rfl

set_option maxRecDepth 100000 in
set_option maxHeartbeats 4000000 in
theorem k_L_needRegister (l : Launch) (T : wT) (V : Nat → Nat) (K : wUt) (I : wIt) (O : wOt) (x : Nat) (hx9 : x < 12) : Met l y_L_needRegister (.code y_L_needRegister c_L_needRegister 1 none :: bg) ({ frames := 6, cells := 0, slots := 0, locals := 90 } : Room) (mP T (fF V) (fU V) K I O [.int (nI x)]) (mQv T (fF V) (fU V) K I O) 0 0 (wA T) := by
  refine wM_v (by decide) (Nat.le_of_ble_eq_true rfl) ?_
  intro p e R s m args below meth c Q ls hx hb hC hRf hRl hret hl hw
  have hRf : 6 ≤ R.frames := hRf
  have hRl : 90 ≤ R.locals := hRl
  have hl : lv_has ls 1 [(0, .int (nI x))] := hl
  refine lv_iload_n hx hb d_L_needRegister_0 rfl (lv_at hl 0 rfl) ?_
  refine n_if_lt hx hb d_L_needRegister_1 (by decide) (by omega) ?_
  refine lv_iload_n hx hb d_L_needRegister_4 rfl (lv_at hl 0 rfl) ?_
  refine lv_bipush (v := nI 12) hx hb d_L_needRegister_5 (by decide +kernel) ?_
  refine n_icmp_lt (tgt := 20) hx hb d_L_needRegister_7 (by decide) (by omega) (by omega) (fun h => ?_) (fun h => ?_)
  · exact hret _ _ _ _ hw d_L_needRegister_20
  · exact absurd h (by omega)
set_option maxRecDepth 100000 in
set_option maxHeartbeats 4000000 in
theorem x_L_needRegister (l : Launch) (hst9 : l.stackTraces = false) (T : wT) (V : Nat → Nat) (K : wUt) (I : wIt) (O : wOt) (r : Int32) (hr : ¬ isR r) : vx_Met l y_L_needRegister (.code y_L_needRegister c_L_needRegister 1 none :: bg) ({ frames := 6, cells := 1, slots := 6, locals := 90 } : Room) (mPx T (fF V) (fU V) K I O [.int r]) mQn (xX T "java/lang/IndexOutOfBoundsException" (xE V K) I O) 1 6 (wA T) := by
  refine xM rfl hst9 (Nat.le_of_ble_eq_true rfl) rfl rfl ?_
  intro p e R s m args below meth c Q ls hx hb hC hRf hRl hRc hz9 hout hthr hl hw
  have hRf : 6 ≤ R.frames := hRf
  have hRl : 90 ≤ R.locals := hRl
  have hl : lv_has ls 1 [(0, .int r)] := hl
  refine lv_iload_n hx hb d_L_needRegister_0 rfl (lv_at hl 0 rfl) ?_
  refine lv_if_lt (tgt := 10) hx hb d_L_needRegister_1 (by decide) (fun h => ?_) (fun h => ?_)
  · exact hthr _ _ _ _ _ _ _ _ _ _ _ _ xt_243 (⟨rfl, rfl⟩) hw hl.1 d_L_needRegister_10 d_L_needRegister_13 d_L_needRegister_14 d_L_needRegister_16 d_L_needRegister_19 (by show 2 + 3 < R.frames; omega) (by show 0 + (13 * (2 + 1) + 43) ≤ R.locals; omega)
  · refine lv_iload_n hx hb d_L_needRegister_4 rfl (lv_at hl 0 rfl) ?_
    refine lv_bipush (v := nI 12) hx hb d_L_needRegister_5 (by decide +kernel) ?_
    refine lv_icmp_lt (tgt := 20) hx hb d_L_needRegister_7 (by decide) (fun h2 => ?_) (fun h2 => ?_)
    · exact absurd (show isR r from ⟨Int32.not_lt.mp h, h2⟩) hr
    · exact hthr _ _ _ _ _ _ _ _ _ _ _ _ xt_243 (⟨rfl, rfl⟩) hw hl.1 d_L_needRegister_10 d_L_needRegister_13 d_L_needRegister_14 d_L_needRegister_16 d_L_needRegister_19 (by show 2 + 3 < R.frames; omega) (by show 0 + (13 * (2 + 1) + 43) ≤ R.locals; omega)
