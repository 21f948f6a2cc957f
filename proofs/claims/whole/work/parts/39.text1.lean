/-! Text: codes and digits -/
def tI (tx : Nat → Nat) : Nat → Int32 := fun i => nI (tx i)
def tU (tx : Nat → Nat) (n c : Nat) : Nat → Nat := fun i => if i = n then c else tx i
theorem tI_up (tx : Nat → Nat) (n c : Nat) : upd (tI tx) n (nI c) = tI (tU tx n c) := by
  funext i; unfold upd tI tU; split <;> rfl
def dgN (c : Nat) : Nat := if 48 ≤ c ∧ c ≤ 57 then c - 48 else if 97 ≤ c ∧ c ≤ 122 then c - 87 else if 65 ≤ c ∧ c ≤ 90 then c - 55 else 99
def dgI (c : Nat) : Int32 := if dgN c = 99 then -1 else nI (dgN c)
def cdN (d : Nat) : Nat := if d < 10 then 48 + d else 87 + d
def sgN (n : Nat) (tx : Nat → Nat) : Nat := if 0 < n ∧ tx 0 = 45 then 1 else 0
theorem sgN_le (n : Nat) (tx : Nat → Nat) : sgN n tx ≤ 1 := by unfold sgN; split <;> omega
theorem zbI (b : Bool) : narrow .boolean (.int (bI b)) = .int (bI b) := by cases b <;> rfl
theorem b8_all : ∀ c, c < 128 → (nI c).toInt8.toInt32 = nI c := by decide +kernel
theorem li_tb (q : Nat) : (lN q).toInt32.toBitVec = BitVec.ofNat 32 q := by
  show ((lN q).toBitVec.signExtend 32) = _
  rw [wb_tb, BitVec.signExtend_eq_setWidth_of_le _ (by decide)]
  apply BitVec.eq_of_toNat_eq
  rw [BitVec.toNat_setWidth, BitVec.toNat_ofNat, BitVec.toNat_ofNat, Nat.mod_mod_of_dvd _ (by decide)]
theorem li_255 (q : Nat) : (lN q).toInt32 &&& nI 255 = nI (q % 256) := by
  apply Int32.toBitVec_inj.mp
  rw [Int32.toBitVec_and, li_tb]
  show _ &&& BitVec.ofNat 32 255 = BitVec.ofNat 32 (q % 256)
  apply BitVec.eq_of_toNat_eq
  rw [BitVec.toNat_and, BitVec.toNat_ofNat, BitVec.toNat_ofNat, BitVec.toNat_ofNat, show 255 % 2 ^ 32 = 2 ^ 8 - 1 by decide, Nat.and_two_pow_sub_one_eq_mod, Nat.mod_mod_of_dvd _ (by decide), Nat.mod_eq_of_lt (a := q % 256) (by omega)]

set_option maxRecDepth 100000 in
set_option maxHeartbeats 4000000 in
theorem k_T_codeIn (l : Launch) (T : wT) (F : wFt) (U K : wUt) (I : wIt) (O : wOt) (N i : Nat) (hN : N < 2 ^ 64) (hi : i < 8) : Met l y_T_codeIn (.code y_T_codeIn c_T_codeIn 3 (some .int) :: bg) ({ frames := 0, cells := 0, slots := 0, locals := 0 } : Room) (mP T F U K I O [.long (lN N), .int (nI i)]) (mQi T (nI (N / 2 ^ (8 * i) % 256)) F U K I O) 0 0 (wA T) := by
  refine wM_i (by decide) (Nat.le_of_ble_eq_true rfl) ?_
  intro p e R s m args below meth c Q ls hx hb hC hRf hRl hret hl hw
  have hRf : 0 ≤ R.frames := hRf
  have hRl : 0 ≤ R.locals := hRl
  have hl : lv_has ls 3 [(0, .long (lN N)), (2, .int (nI i))] := hl
  refine lv_lload_n hx hb d_T_codeIn_0 rfl (lv_at hl 0 rfl) ?_
  refine lv_bipush (v := nI 8) hx hb d_T_codeIn_1 (by decide +kernel) ?_
  refine lv_iload_n hx hb d_T_codeIn_3 rfl (lv_at hl 1 rfl) ?_
  refine n_imul hx hb d_T_codeIn_4 ?_
  refine lv_lushr hx hb d_T_codeIn_5 rfl ?_
  refine sw_l (y := lN (N / 2 ^ (8 * i))) (wb_shr hN (by omega)) ?_
  refine lv_l2i hx hb d_T_codeIn_6 rfl ?_
  refine lv_sipush (v := nI 255) hx hb d_T_codeIn_7 (by decide +kernel) ?_
  refine lv_iand hx hb d_T_codeIn_10 ?_
  refine sw_i (y := nI (N / 2 ^ (8 * i) % 256)) (li_255 _) ?_
  exact hret _ _ _ _ hw d_T_codeIn_11
set_option maxRecDepth 100000 in
set_option maxHeartbeats 4000000 in
theorem k_T_digitOf (l : Launch) (T : wT) (F : wFt) (U K : wUt) (I : wIt) (O : wOt) (c9 : Nat) (hc9 : c9 < 128) : Met l y_T_digitOf (.code y_T_digitOf c_T_digitOf 1 (some .int) :: bg) ({ frames := 0, cells := 0, slots := 0, locals := 0 } : Room) (mP T F U K I O [.int (nI c9)]) (mQi T (dgI c9) F U K I O) 0 0 (wA T) := by
  refine wM_i (by decide) (Nat.le_of_ble_eq_true rfl) ?_
  intro p e R s m args below meth c Q ls hx hb hC hRf hRl hret hl hw
  have hRf : 0 ≤ R.frames := hRf
  have hRl : 0 ≤ R.locals := hRl
  have hl : lv_has ls 1 [(0, .int (nI c9))] := hl
  refine lv_iload_n hx hb d_T_digitOf_0 rfl (lv_at hl 0 rfl) ?_
  refine lv_bipush (v := nI 48) hx hb d_T_digitOf_1 (by decide +kernel) ?_
  refine n_icmp_lt (tgt := 17) hx hb d_T_digitOf_3 (by decide) (by omega) (by omega) (fun h1 => ?_) (fun h1 => ?_)
  · skip
    refine lv_iload_n hx hb d_T_digitOf_17 rfl (lv_at hl 0 rfl) ?_
    refine lv_bipush (v := nI 97) hx hb d_T_digitOf_18 (by decide +kernel) ?_
    refine n_icmp_lt (tgt := 37) hx hb d_T_digitOf_20 (by decide) (by omega) (by omega) (fun h2 => ?_) (fun h2 => ?_)
    · skip
      refine lv_iload_n hx hb d_T_digitOf_37 rfl (lv_at hl 0 rfl) ?_
      refine lv_bipush (v := nI 65) hx hb d_T_digitOf_38 (by decide +kernel) ?_
      refine n_icmp_lt (tgt := 57) hx hb d_T_digitOf_40 (by decide) (by omega) (by omega) (fun h3 => ?_) (fun h3 => ?_)
      · skip
        refine lv_iconst (v := (-1)) hx hb d_T_digitOf_57 (by decide +kernel) ?_
        have e : dgN c9 = 99 := by unfold dgN; (repeat' split) <;> omega
        refine sw_i (y := dgI c9) (by unfold dgI; rw [if_pos e]) ?_
        exact hret _ _ _ _ hw d_T_digitOf_58
      · skip
        refine lv_iload_n hx hb d_T_digitOf_43 rfl (lv_at hl 0 rfl) ?_
        refine lv_bipush (v := nI 90) hx hb d_T_digitOf_44 (by decide +kernel) ?_
        refine n_icmp_gt (tgt := 57) hx hb d_T_digitOf_46 (by decide) (by omega) (by omega) (fun h4 => ?_) (fun h4 => ?_)
        · skip
          refine lv_iconst (v := (-1)) hx hb d_T_digitOf_57 (by decide +kernel) ?_
          have e : dgN c9 = 99 := by unfold dgN; (repeat' split) <;> omega
          refine sw_i (y := dgI c9) (by unfold dgI; rw [if_pos e]) ?_
          exact hret _ _ _ _ hw d_T_digitOf_58
        · skip
          refine lv_iload_n hx hb d_T_digitOf_49 rfl (lv_at hl 0 rfl) ?_
          refine lv_bipush (v := nI 65) hx hb d_T_digitOf_50 (by decide +kernel) ?_
          refine n_isub hx hb d_T_digitOf_52 (by omega) ?_
          refine lv_bipush (v := nI 10) hx hb d_T_digitOf_53 (by decide +kernel) ?_
          refine n_iadd hx hb d_T_digitOf_55 ?_
          have e : dgN c9 = (c9 - 65) + 10 := by unfold dgN; (repeat' split) <;> omega
          refine sw_i (y := dgI c9) (by unfold dgI; rw [if_neg (by rw [e]; omega), e]) ?_
          exact hret _ _ _ _ hw d_T_digitOf_56
    · skip
      refine lv_iload_n hx hb d_T_digitOf_23 rfl (lv_at hl 0 rfl) ?_
      refine lv_bipush (v := nI 122) hx hb d_T_digitOf_24 (by decide +kernel) ?_
      refine n_icmp_gt (tgt := 37) hx hb d_T_digitOf_26 (by decide) (by omega) (by omega) (fun h3 => ?_) (fun h3 => ?_)
      · skip
        refine lv_iload_n hx hb d_T_digitOf_37 rfl (lv_at hl 0 rfl) ?_
        refine lv_bipush (v := nI 65) hx hb d_T_digitOf_38 (by decide +kernel) ?_
        refine n_icmp_lt (tgt := 57) hx hb d_T_digitOf_40 (by decide) (by omega) (by omega) (fun h4 => ?_) (fun h4 => ?_)
        · skip
          refine lv_iconst (v := (-1)) hx hb d_T_digitOf_57 (by decide +kernel) ?_
          have e : dgN c9 = 99 := by unfold dgN; (repeat' split) <;> omega
          refine sw_i (y := dgI c9) (by unfold dgI; rw [if_pos e]) ?_
          exact hret _ _ _ _ hw d_T_digitOf_58
        · skip
          refine lv_iload_n hx hb d_T_digitOf_43 rfl (lv_at hl 0 rfl) ?_
          refine lv_bipush (v := nI 90) hx hb d_T_digitOf_44 (by decide +kernel) ?_
          refine n_icmp_gt (tgt := 57) hx hb d_T_digitOf_46 (by decide) (by omega) (by omega) (fun h5 => ?_) (fun h5 => ?_)
          · skip
            refine lv_iconst (v := (-1)) hx hb d_T_digitOf_57 (by decide +kernel) ?_
            have e : dgN c9 = 99 := by unfold dgN; (repeat' split) <;> omega
            refine sw_i (y := dgI c9) (by unfold dgI; rw [if_pos e]) ?_
            exact hret _ _ _ _ hw d_T_digitOf_58
          · skip
            refine lv_iload_n hx hb d_T_digitOf_49 rfl (lv_at hl 0 rfl) ?_
            refine lv_bipush (v := nI 65) hx hb d_T_digitOf_50 (by decide +kernel) ?_
            refine n_isub hx hb d_T_digitOf_52 (by omega) ?_
            refine lv_bipush (v := nI 10) hx hb d_T_digitOf_53 (by decide +kernel) ?_
            refine n_iadd hx hb d_T_digitOf_55 ?_
            have e : dgN c9 = (c9 - 65) + 10 := by unfold dgN; (repeat' split) <;> omega
            refine sw_i (y := dgI c9) (by unfold dgI; rw [if_neg (by rw [e]; omega), e]) ?_
            exact hret _ _ _ _ hw d_T_digitOf_56
      · skip
        refine lv_iload_n hx hb d_T_digitOf_29 rfl (lv_at hl 0 rfl) ?_
        refine lv_bipush (v := nI 97) hx hb d_T_digitOf_30 (by decide +kernel) ?_
        refine n_isub hx hb d_T_digitOf_32 (by omega) ?_
        refine lv_bipush (v := nI 10) hx hb d_T_digitOf_33 (by decide +kernel) ?_
        refine n_iadd hx hb d_T_digitOf_35 ?_
        have e : dgN c9 = (c9 - 97) + 10 := by unfold dgN; (repeat' split) <;> omega
        refine sw_i (y := dgI c9) (by unfold dgI; rw [if_neg (by rw [e]; omega), e]) ?_
        exact hret _ _ _ _ hw d_T_digitOf_36
  · skip
    refine lv_iload_n hx hb d_T_digitOf_6 rfl (lv_at hl 0 rfl) ?_
    refine lv_bipush (v := nI 57) hx hb d_T_digitOf_7 (by decide +kernel) ?_
    refine n_icmp_gt (tgt := 17) hx hb d_T_digitOf_9 (by decide) (by omega) (by omega) (fun h2 => ?_) (fun h2 => ?_)
    · skip
      refine lv_iload_n hx hb d_T_digitOf_17 rfl (lv_at hl 0 rfl) ?_
      refine lv_bipush (v := nI 97) hx hb d_T_digitOf_18 (by decide +kernel) ?_
      refine n_icmp_lt (tgt := 37) hx hb d_T_digitOf_20 (by decide) (by omega) (by omega) (fun h3 => ?_) (fun h3 => ?_)
      · skip
        refine lv_iload_n hx hb d_T_digitOf_37 rfl (lv_at hl 0 rfl) ?_
        refine lv_bipush (v := nI 65) hx hb d_T_digitOf_38 (by decide +kernel) ?_
        refine n_icmp_lt (tgt := 57) hx hb d_T_digitOf_40 (by decide) (by omega) (by omega) (fun h4 => ?_) (fun h4 => ?_)
        · skip
          refine lv_iconst (v := (-1)) hx hb d_T_digitOf_57 (by decide +kernel) ?_
          have e : dgN c9 = 99 := by unfold dgN; (repeat' split) <;> omega
          refine sw_i (y := dgI c9) (by unfold dgI; rw [if_pos e]) ?_
          exact hret _ _ _ _ hw d_T_digitOf_58
        · skip
          refine lv_iload_n hx hb d_T_digitOf_43 rfl (lv_at hl 0 rfl) ?_
          refine lv_bipush (v := nI 90) hx hb d_T_digitOf_44 (by decide +kernel) ?_
          refine n_icmp_gt (tgt := 57) hx hb d_T_digitOf_46 (by decide) (by omega) (by omega) (fun h5 => ?_) (fun h5 => ?_)
          · skip
            refine lv_iconst (v := (-1)) hx hb d_T_digitOf_57 (by decide +kernel) ?_
            have e : dgN c9 = 99 := by unfold dgN; (repeat' split) <;> omega
            refine sw_i (y := dgI c9) (by unfold dgI; rw [if_pos e]) ?_
            exact hret _ _ _ _ hw d_T_digitOf_58
          · skip
            refine lv_iload_n hx hb d_T_digitOf_49 rfl (lv_at hl 0 rfl) ?_
            refine lv_bipush (v := nI 65) hx hb d_T_digitOf_50 (by decide +kernel) ?_
            refine n_isub hx hb d_T_digitOf_52 (by omega) ?_
            refine lv_bipush (v := nI 10) hx hb d_T_digitOf_53 (by decide +kernel) ?_
            refine n_iadd hx hb d_T_digitOf_55 ?_
            have e : dgN c9 = (c9 - 65) + 10 := by unfold dgN; (repeat' split) <;> omega
            refine sw_i (y := dgI c9) (by unfold dgI; rw [if_neg (by rw [e]; omega), e]) ?_
            exact hret _ _ _ _ hw d_T_digitOf_56
      · skip
        refine lv_iload_n hx hb d_T_digitOf_23 rfl (lv_at hl 0 rfl) ?_
        refine lv_bipush (v := nI 122) hx hb d_T_digitOf_24 (by decide +kernel) ?_
        refine n_icmp_gt (tgt := 37) hx hb d_T_digitOf_26 (by decide) (by omega) (by omega) (fun h4 => ?_) (fun h4 => ?_)
        · skip
          refine lv_iload_n hx hb d_T_digitOf_37 rfl (lv_at hl 0 rfl) ?_
          refine lv_bipush (v := nI 65) hx hb d_T_digitOf_38 (by decide +kernel) ?_
          refine n_icmp_lt (tgt := 57) hx hb d_T_digitOf_40 (by decide) (by omega) (by omega) (fun h5 => ?_) (fun h5 => ?_)
          · skip
            refine lv_iconst (v := (-1)) hx hb d_T_digitOf_57 (by decide +kernel) ?_
            have e : dgN c9 = 99 := by unfold dgN; (repeat' split) <;> omega
            refine sw_i (y := dgI c9) (by unfold dgI; rw [if_pos e]) ?_
            exact hret _ _ _ _ hw d_T_digitOf_58
          · skip
            refine lv_iload_n hx hb d_T_digitOf_43 rfl (lv_at hl 0 rfl) ?_
            refine lv_bipush (v := nI 90) hx hb d_T_digitOf_44 (by decide +kernel) ?_
            refine n_icmp_gt (tgt := 57) hx hb d_T_digitOf_46 (by decide) (by omega) (by omega) (fun h6 => ?_) (fun h6 => ?_)
            · skip
              refine lv_iconst (v := (-1)) hx hb d_T_digitOf_57 (by decide +kernel) ?_
              have e : dgN c9 = 99 := by unfold dgN; (repeat' split) <;> omega
              refine sw_i (y := dgI c9) (by unfold dgI; rw [if_pos e]) ?_
              exact hret _ _ _ _ hw d_T_digitOf_58
            · skip
              refine lv_iload_n hx hb d_T_digitOf_49 rfl (lv_at hl 0 rfl) ?_
              refine lv_bipush (v := nI 65) hx hb d_T_digitOf_50 (by decide +kernel) ?_
              refine n_isub hx hb d_T_digitOf_52 (by omega) ?_
              refine lv_bipush (v := nI 10) hx hb d_T_digitOf_53 (by decide +kernel) ?_
              refine n_iadd hx hb d_T_digitOf_55 ?_
              have e : dgN c9 = (c9 - 65) + 10 := by unfold dgN; (repeat' split) <;> omega
              refine sw_i (y := dgI c9) (by unfold dgI; rw [if_neg (by rw [e]; omega), e]) ?_
              exact hret _ _ _ _ hw d_T_digitOf_56
        · skip
          refine lv_iload_n hx hb d_T_digitOf_29 rfl (lv_at hl 0 rfl) ?_
          refine lv_bipush (v := nI 97) hx hb d_T_digitOf_30 (by decide +kernel) ?_
          refine n_isub hx hb d_T_digitOf_32 (by omega) ?_
          refine lv_bipush (v := nI 10) hx hb d_T_digitOf_33 (by decide +kernel) ?_
          refine n_iadd hx hb d_T_digitOf_35 ?_
          have e : dgN c9 = (c9 - 97) + 10 := by unfold dgN; (repeat' split) <;> omega
          refine sw_i (y := dgI c9) (by unfold dgI; rw [if_neg (by rw [e]; omega), e]) ?_
          exact hret _ _ _ _ hw d_T_digitOf_36
    · skip
      refine lv_iload_n hx hb d_T_digitOf_12 rfl (lv_at hl 0 rfl) ?_
      refine lv_bipush (v := nI 48) hx hb d_T_digitOf_13 (by decide +kernel) ?_
      refine n_isub hx hb d_T_digitOf_15 (by omega) ?_
      have e : dgN c9 = c9 - 48 := by unfold dgN; (repeat' split) <;> omega
      refine sw_i (y := dgI c9) (by unfold dgI; rw [if_neg (by rw [e]; omega), e]) ?_
      exact hret _ _ _ _ hw d_T_digitOf_16
set_option maxRecDepth 100000 in
set_option maxHeartbeats 4000000 in
theorem k_T_codeOf (l : Launch) (T : wT) (F : wFt) (U K : wUt) (I : wIt) (O : wOt) (d9 : Nat) (hd9 : d9 < 36) : Met l y_T_codeOf (.code y_T_codeOf c_T_codeOf 1 (some .int) :: bg) ({ frames := 0, cells := 0, slots := 0, locals := 0 } : Room) (mP T F U K I O [.int (nI d9)]) (mQi T (nI (cdN d9)) F U K I O) 0 0 (wA T) := by
  refine wM_i (by decide) (Nat.le_of_ble_eq_true rfl) ?_
  intro p e R s m args below meth c Q ls hx hb hC hRf hRl hret hl hw
  have hRf : 0 ≤ R.frames := hRf
  have hRl : 0 ≤ R.locals := hRl
  have hl : lv_has ls 1 [(0, .int (nI d9))] := hl
  refine lv_iload_n hx hb d_T_codeOf_0 rfl (lv_at hl 0 rfl) ?_
  refine lv_bipush (v := nI 10) hx hb d_T_codeOf_1 (by decide +kernel) ?_
  refine n_icmp_ge (tgt := 13) hx hb d_T_codeOf_3 (by decide) (by omega) (by omega) (fun h1 => ?_) (fun h1 => ?_)
  · skip
    refine lv_bipush (v := nI 97) hx hb d_T_codeOf_13 (by decide +kernel) ?_
    refine lv_iload_n hx hb d_T_codeOf_15 rfl (lv_at hl 0 rfl) ?_
    refine n_iadd hx hb d_T_codeOf_16 ?_
    refine lv_bipush (v := nI 10) hx hb d_T_codeOf_17 (by decide +kernel) ?_
    refine n_isub hx hb d_T_codeOf_19 (by omega) ?_
    refine sw_i (y := nI (cdN d9)) (congrArg nI (by unfold cdN; split <;> omega)) ?_
    exact hret _ _ _ _ hw d_T_codeOf_20
  · skip
    refine lv_bipush (v := nI 48) hx hb d_T_codeOf_6 (by decide +kernel) ?_
    refine lv_iload_n hx hb d_T_codeOf_8 rfl (lv_at hl 0 rfl) ?_
    refine n_iadd hx hb d_T_codeOf_9 ?_
    refine lv_goto (tgt := 20) hx hb d_T_codeOf_10 (by decide) ?_
    refine sw_i (y := nI (cdN d9)) (congrArg nI (by unfold cdN; split <;> omega)) ?_
    exact hret _ _ _ _ hw d_T_codeOf_20
set_option maxRecDepth 100000 in
set_option maxHeartbeats 4000000 in
theorem k_T_signs (l : Launch) (T : wT) (F : wFt) (U K : wUt) (I : wIt) (O : wOt) (n9 : Nat) (tx : Nat → Nat) (hn9 : n9 ≤ 1200) (hK : K 14 = nI n9) (hI : I 0 = tI tx) (ht : ∀ i, tx i < 128) : Met l y_T_signs (.code y_T_signs c_T_signs 1 (some .int) :: bg) ({ frames := 0, cells := 0, slots := 0, locals := 0 } : Room) (mP T F U K I O [.ref (wa T 86)]) (mQi T (nI (sgN n9 tx)) F U K I O) 0 0 (wA T) := by
  refine wM_i (by decide) (Nat.le_of_ble_eq_true rfl) ?_
  intro p e R s m args below meth c Q ls hx hb hC hRf hRl hret hl hw
  have hRf : 0 ≤ R.frames := hRf
  have hRl : 0 ≤ R.locals := hRl
  have hl : lv_has ls 1 [(0, .ref (wa T 86))] := hl
  have ht0 := ht 0
  refine lv_aload_n hx hb d_T_signs_0 rfl (lv_at hl 0 rfl) ?_
  refine wg_Text_count hx hb hC hw bw_74 d_T_signs_1 ?_
  refine sw_i (y := nI n9) (hK) ?_
  refine n_if_le (tgt := 22) hx hb d_T_signs_4 (by decide) (by omega) (fun h1 => ?_) (fun h1 => ?_)
  · skip
    refine lv_iconst (v := nI 0) hx hb d_T_signs_22 (by decide +kernel) ?_
    refine sw_i (y := nI (sgN n9 tx)) (congrArg nI (by unfold sgN; split <;> omega)) ?_
    exact hret _ _ _ _ hw d_T_signs_23
  · skip
    refine lv_aload_n hx hb d_T_signs_7 rfl (lv_at hl 0 rfl) ?_
    refine wg_Text_codes hx hb hC hw bw_72 d_T_signs_8 ?_
    refine lv_iconst (v := nI 0) hx hb d_T_signs_11 (by decide +kernel) ?_
    refine wl_codes hx hb hw (by omega) d_T_signs_12 ?_
    refine sw_i (y := nI (tx 0)) (congrFun hI _) ?_
    refine lv_bipush (v := nI 45) hx hb d_T_signs_13 (by decide +kernel) ?_
    refine n_icmp_ne (tgt := 22) hx hb d_T_signs_15 (by decide) (by omega) (by omega) (fun h2 => ?_) (fun h2 => ?_)
    · skip
      refine lv_iconst (v := nI 0) hx hb d_T_signs_22 (by decide +kernel) ?_
      refine sw_i (y := nI (sgN n9 tx)) (congrArg nI (by unfold sgN; split <;> omega)) ?_
      exact hret _ _ _ _ hw d_T_signs_23
    · skip
      refine lv_iconst (v := nI 1) hx hb d_T_signs_18 (by decide +kernel) ?_
      refine lv_goto (tgt := 23) hx hb d_T_signs_19 (by decide) ?_
      refine sw_i (y := nI (sgN n9 tx)) (congrArg nI (by unfold sgN; split <;> omega)) ?_
      exact hret _ _ _ _ hw d_T_signs_23
set_option maxRecDepth 100000 in
set_option maxHeartbeats 4000000 in
theorem k_T_append (l : Launch) (T : wT) (F : wFt) (U K : wUt) (I : wIt) (O : wOt) (n9 c9 : Nat) (tx : Nat → Nat) (hn9 : n9 < 1200) (hc9 : c9 < 128) (hK : K 14 = nI n9) (hI : I 0 = tI tx) : Met l y_T_append (.code y_T_append c_T_append 2 none :: bg) ({ frames := 0, cells := 0, slots := 0, locals := 0 } : Room) (mP T F U K I O [.ref (wa T 86), .int (nI c9)]) (mQv T F U (va_up K 14 (nI (n9 + 1))) (va_up I 0 (tI (tU tx n9 c9))) O) 0 0 (wA T) := by
  refine wM_v (by decide) (Nat.le_of_ble_eq_true rfl) ?_
  intro p e R s m args below meth c Q ls hx hb hC hRf hRl hret hl hw
  have hRf : 0 ≤ R.frames := hRf
  have hRl : 0 ≤ R.locals := hRl
  have hl : lv_has ls 2 [(0, .ref (wa T 86)), (1, .int (nI c9))] := hl
  refine lv_aload_n hx hb d_T_append_0 rfl (lv_at hl 0 rfl) ?_
  refine wg_Text_count hx hb hC hw bw_74 d_T_append_1 ?_
  refine sw_i (y := nI n9) (hK) ?_
  refine lv_sipush (v := nI 1200) hx hb d_T_append_4 (by decide +kernel) ?_
  refine n_icmp_ge (tgt := 31) hx hb d_T_append_7 (by decide) (by omega) (by omega) (fun h1 => ?_) (fun h1 => ?_)
  · exact absurd h1 (by omega)
  · refine lv_aload_n hx hb d_T_append_10 rfl (lv_at hl 0 rfl) ?_
    refine wg_Text_codes hx hb hC hw bw_72 d_T_append_11 ?_
    refine lv_aload_n hx hb d_T_append_14 rfl (lv_at hl 0 rfl) ?_
    refine wg_Text_count hx hb hC hw bw_74 d_T_append_15 ?_
    refine sw_i (y := nI n9) (hK) ?_
    refine lv_iload_n hx hb d_T_append_18 rfl (lv_at hl 1 rfl) ?_
    refine lv_i2b hx hb d_T_append_19 rfl ?_
    refine sw_i (y := nI c9) (b8_all _ hc9) ?_
    refine ws_codes hx hb hw (by omega) d_T_append_20 (fun H locs hw => ?_)
    rw [b8_all _ hc9, hI, tI_up] at hw
    refine lv_aload_n hx hb d_T_append_21 rfl (lv_at hl 0 rfl) ?_
    refine lv_dup hx hb d_T_append_22 rfl ?_
    refine wg_Text_count hx hb hC hw bw_74 d_T_append_23 ?_
    refine sw_i (y := nI n9) (hK) ?_
    refine lv_iconst (v := nI 1) hx hb d_T_append_26 (by decide +kernel) ?_
    refine n_iadd hx hb d_T_append_27 ?_
    refine wp_Text_count hx hb hC hw bw_74 d_T_append_28 (fun H locs hw => ?_)
    exact hret _ _ _ _ hw d_T_append_31
