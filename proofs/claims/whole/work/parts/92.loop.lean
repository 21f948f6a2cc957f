/-! the law's loop -/
theorem and31 (x : Int32) : 0 ≤ (x &&& 31).toInt ∧ (x &&& 31).toInt < 32 := by
  have h : (x &&& 31).toBitVec.toNat ≤ 31 := by rw [Int32.toBitVec_and, BitVec.toNat_and]; exact Nat.and_le_right
  have e : (x &&& 31).toInt = ((x &&& 31).toBitVec.toNat : Int) := by
    show (x &&& 31).toBitVec.toInt = _
    exact BitVec.toInt_eq_toNat_of_lt (by omega)
  omega
theorem len6 {L i : Nat} (hL : L ≤ 3072) (hi : i ≤ 4000) : (nI L - nI 6 < nI i) ↔ L < i + 6 := by
  have e1 : (nI L).toInt = L := by show (Int32.ofNat L).toInt = L; rw [Int32.toInt_ofNat_of_lt (by omega)]
  have e2 : (nI i).toInt = i := by show (Int32.ofNat i).toInt = i; rw [Int32.toInt_ofNat_of_lt (by omega)]
  have e3 : (nI 6).toInt = 6 := by decide
  have e4 : (nI L - nI 6).toInt = (L : Int) - 6 := by
    rw [Int32.toInt_sub, e1, e3]
    exact Int.bmod_eq_of_le (by omega) (by omega)
  rw [Int32.lt_iff_toInt_lt, e4, e2]
  omega
set_option maxRecDepth 100000 in
set_option maxHeartbeats 4000000 in
theorem law_loop (l : Launch) (hst : l.stackTraces = false) (T : wT) {p : Program} {e : Env} {R : Room} {s : State} {m : MethodId} {args : Array Value} {below : List Frame} {meth : Method} {c : Code} {Q : State → Prop} {b L : Nat} {xs : Nat → Int32} {A : Nat → Prop} {CE SE : Nat} (hCE : CE ≤ R.cells) (hSE : SE ≤ R.slots) (hQ : lX p R s m args c b L xs A)
    (kend : ∀ (H1 : Heap) (locs1 : List Loc) (ls1 : Array Slot), lI T A s H1 locs1 → W p l e R s m args below meth c H1 locs1 CE SE Q (F0 m 1449 ls1 [])) (n : Nat) :
    ∀ (i cells slots : Nat) (H : Heap) (locs : List Loc) (ls : Array Slot), L < i + 6 * (n + 1) → i ≤ L → cells + n ≤ CE → slots + 6 * n ≤ SE → lI T A s H locs → lv_has ls 8 (lL T b i) → W p l e R s m args below meth c H locs cells slots Q (F0 m 23 ls []) := by
  induction n with
  | zero =>
    intro i cells slots H locs ls hn hiL hc1 hs1 hw hl
    have hQ9 := hQ
    obtain ⟨hx, hb, hC, hz, hX, hbl, hbA, hL, hR1, hR2⟩ := hQ9
    have hw9 := hw
    obtain ⟨V, K, I, O, z, n9, tx, M, Z, G, hc, hm, hn9, hK14, hK16, hI0, hI4, ht, hw9⟩ := hw9
    have hl : lv_has ls 8 [(4, .int (nI i)), (3, .ref (wa T 96)), (2, .ref (wa T 91)), (1, .ref (wa T 84)), (0, .ref b)] := hl
    refine lv_iload hx hb d_w_23 (lv_at hl 0 rfl) ?_
    refine lv_aload_n hx hb d_w_25 rfl (lv_at hl 4 rfl) ?_
    refine va_slen hx hb hX hbl hbA hw9.2.2.2.1 d_w_26 ?_
    refine lv_bipush (v := nI 6) hx hb d_w_27 (by decide +kernel) ?_
    refine lv_isub hx hb d_w_29 ?_
    refine lv_icmp_gt (tgt := 1449) hx hb d_w_30 (by decide) (fun h => ?_) (fun h => ?_)
    · refine W.widen (k := CE) (n := SE) (by omega) (by omega) ?_
      exact kend H locs ls hw
    · exact absurd ((len6 hL (by omega)).mpr (by omega)) h
  | succ n IH =>
    intro i cells slots H locs ls hn hiL hc1 hs1 hw hl
    have hQ9 := hQ
    obtain ⟨hx, hb, hC, hz, hX, hbl, hbA, hL, hR1, hR2⟩ := hQ9
    have hw9 := hw
    obtain ⟨V, K, I, O, z, n9, tx, M, Z, G, hc, hm, hn9, hK14, hK16, hI0, hI4, ht, hw9⟩ := hw9
    have hl0 := hl
    have hl : lv_has ls 8 [(4, .int (nI i)), (3, .ref (wa T 96)), (2, .ref (wa T 91)), (1, .ref (wa T 84)), (0, .ref b)] := hl
    refine lv_iload hx hb d_w_23 (lv_at hl 0 rfl) ?_
    refine lv_aload_n hx hb d_w_25 rfl (lv_at hl 4 rfl) ?_
    refine va_slen hx hb hX hbl hbA hw9.2.2.2.1 d_w_26 ?_
    refine lv_bipush (v := nI 6) hx hb d_w_27 (by decide +kernel) ?_
    refine lv_isub hx hb d_w_29 ?_
    refine lv_icmp_gt (tgt := 1449) hx hb d_w_30 (by decide) (fun h => ?_) (fun h => ?_)
    · refine W.widen (k := CE) (n := SE) (by omega) (by omega) ?_
      exact kend H locs ls hw
    have hi : i + 6 ≤ L := Nat.not_lt.mp (fun q => h ((len6 hL (by omega)).mpr q))
    refine lv_aload_n hx hb d_w_33 rfl (lv_at hl 4 rfl) ?_
    refine lv_iload hx hb d_w_34 (lv_at hl 0 rfl) ?_
    refine va_sld hx hb hX hbl hbA hw9.2.2.2.1 (vp_in_nI (by omega) (by omega)) d_w_36 ?_
    refine lv_bipush (v := 31) hx hb d_w_37 (by decide +kernel) ?_
    refine lv_iand hx hb d_w_39 ?_
    generalize hv : xs (nI i).toNatClampNeg &&& 31 = v
    have hv := and31 (xs (nI i).toNatClampNeg)
    rw [show xs (nI i).toNatClampNeg &&& 31 = v from by assumption] at hv
    have kk : ∀ (H1 : Heap) (locs1 : List Loc) (ls1 : Array Slot), lI T A s H1 locs1 → lv_has ls1 8 (lL T b i) → W p l e R s m args below meth c H1 locs1 (cells + 1) (slots + 6) Q (F0 m 1443 ls1 []) := by
      intro H1 locs1 ls1 hw1 hl1
      have hl1 : lv_has ls1 8 [(4, .int (nI i)), (3, .ref (wa T 96)), (2, .ref (wa T 91)), (1, .ref (wa T 84)), (0, .ref b)] := hl1
      refine lv_iinc (v := nI (i + 6)) hx hb d_w_1443 hl1 (k := 0) rfl (nI_add _ 6) (by decide) rfl (fun ls2 hl2 => ?_)
      refine lv_goto (tgt := 23) hx hb d_w_1446 (by decide) ?_
      exact IH (i + 6) (cells + 1) (slots + 6) H1 locs1 ls2 (by omega) (by omega) (by omega) (by omega) hw1 hl2
    by_cases h20 : 19 < v.toInt
    · refine lv_tableOut (tgt := 1443) hx hb d_w_40 (Or.inr h20) (by decide) ?_
      refine W.widen (k := cells + 1) (n := slots + 6) (by omega) (by omega) ?_
      exact kk H locs ls hw hl0
    have hd : v.toInt = 0 ∨ v.toInt = 1 ∨ v.toInt = 2 ∨ v.toInt = 3 ∨ v.toInt = 4 ∨ v.toInt = 5 ∨ v.toInt = 6 ∨ v.toInt = 7 ∨ v.toInt = 8 ∨ v.toInt = 9 ∨ v.toInt = 10 ∨ v.toInt = 11 ∨ v.toInt = 12 ∨ v.toInt = 13 ∨ v.toInt = 14 ∨ v.toInt = 15 ∨ v.toInt = 16 ∨ v.toInt = 17 ∨ v.toInt = 18 ∨ v.toInt = 19 := by omega
    rcases hd with h9 | h9 | h9 | h9 | h9 | h9 | h9 | h9 | h9 | h9 | h9 | h9 | h9 | h9 | h9 | h9 | h9 | h9 | h9 | h9
    · refine lv_tableIn (off := 96) (tgt := 136) hx hb d_w_40 (by omega) (by omega) (by rw [h9]; decide) (by decide) ?_
      exact law_set l hst T hQ hi hw hl0 (by omega) (by omega) kk
    · refine lv_tableIn (off := 176) (tgt := 216) hx hb d_w_40 (by omega) (by omega) (by rw [h9]; decide) (by decide) ?_
      exact law_copy l hst T hQ hi hw hl0 (by omega) (by omega) kk
    · refine lv_tableIn (off := 252) (tgt := 292) hx hb d_w_40 (by omega) (by omega) (by rw [h9]; decide) (by decide) ?_
      exact law_add l hst T hQ hi hw hl0 (by omega) (by omega) kk
    · refine lv_tableIn (off := 312) (tgt := 352) hx hb d_w_40 (by omega) (by omega) (by rw [h9]; decide) (by decide) ?_
      exact law_subtract l hst T hQ hi hw hl0 (by omega) (by omega) kk
    · refine lv_tableIn (off := 372) (tgt := 412) hx hb d_w_40 (by omega) (by omega) (by rw [h9]; decide) (by decide) ?_
      exact law_multiply l hst T hQ hi hw hl0 (by omega) (by omega) kk
    · refine lv_tableIn (off := 432) (tgt := 472) hx hb d_w_40 (by omega) (by omega) (by rw [h9]; decide) (by decide) ?_
      exact law_divide l hst T hQ hi hw hl0 (by omega) (by omega) kk
    · refine lv_tableIn (off := 532) (tgt := 572) hx hb d_w_40 (by omega) (by omega) (by rw [h9]; decide) (by decide) ?_
      exact law_shift l hst T hQ hi hw hl0 (by omega) (by omega) kk
    · refine lv_tableIn (off := 592) (tgt := 632) hx hb d_w_40 (by omega) (by omega) (by rw [h9]; decide) (by decide) ?_
      exact law_root l hst T hQ hi hw hl0 (by omega) (by omega) kk
    · refine lv_tableIn (off := 652) (tgt := 692) hx hb d_w_40 (by omega) (by omega) (by rw [h9]; decide) (by decide) ?_
      exact law_gcd l hst T hQ hi hw hl0 (by omega) (by omega) kk
    · refine lv_tableIn (off := 712) (tgt := 752) hx hb d_w_40 (by omega) (by omega) (by rw [h9]; decide) (by decide) ?_
      exact law_power l hst T hQ hi hw hl0 (by omega) (by omega) kk
    · refine lv_tableIn (off := 784) (tgt := 824) hx hb d_w_40 (by omega) (by omega) (by rw [h9]; decide) (by decide) ?_
      exact law_inverse l hst T hQ hi hw hl0 (by omega) (by omega) kk
    · refine lv_tableIn (off := 844) (tgt := 884) hx hb d_w_40 (by omega) (by omega) (by rw [h9]; decide) (by decide) ?_
      exact law_compare l hst T hQ hi hw hl0 (by omega) (by omega) kk
    · refine lv_tableIn (off := 912) (tgt := 952) hx hb d_w_40 (by omega) (by omega) (by rw [h9]; decide) (by decide) ?_
      exact law_bits l hst T hQ hi hw hl0 (by omega) (by omega) kk
    · refine lv_tableIn (off := 968) (tgt := 1008) hx hb d_w_40 (by omega) (by omega) (by rw [h9]; decide) (by decide) ?_
      exact law_bit l hst T hQ hi hw hl0 (by omega) (by omega) kk
    · refine lv_tableIn (off := 1043) (tgt := 1083) hx hb d_w_40 (by omega) (by omega) (by rw [h9]; decide) (by decide) ?_
      exact law_low l hst T hQ hi hw hl0 (by omega) (by omega) kk
    · refine lv_tableIn (off := 1098) (tgt := 1138) hx hb d_w_40 (by omega) (by omega) (by rw [h9]; decide) (by decide) ?_
      exact law_type l hst T hQ hi hw hl0 (by omega) (by omega) kk
    · refine lv_tableIn (off := 1198) (tgt := 1238) hx hb d_w_40 (by omega) (by omega) (by rw [h9]; decide) (by decide) ?_
      exact law_wipe l hst T hQ hi hw hl0 (by omega) (by omega) kk
    · refine lv_tableIn (off := 1211) (tgt := 1251) hx hb d_w_40 (by omega) (by omega) (by rw [h9]; decide) (by decide) ?_
      exact law_parse l hst T hQ hi hw hl0 (by omega) (by omega) kk
    · refine lv_tableIn (off := 1279) (tgt := 1319) hx hb d_w_40 (by omega) (by omega) (by rw [h9]; decide) (by decide) ?_
      exact law_print l hst T hQ hi hw hl0 (by omega) (by omega) kk
    · refine lv_tableIn (off := 1347) (tgt := 1387) hx hb d_w_40 (by omega) (by omega) (by rw [h9]; decide) (by decide) ?_
      exact law_character l hst T hQ hi hw hl0 (by omega) (by omega) kk
