/-! the constructors -/
def bN (t : gT) (h0 : Nat) (u : Nat) : va_W := (h0, .inr (2, [.ref u, .int 0])) :: ([(u, .inl (t.2.2 0, 75, .inr (.inl fun _ => 0)))])
theorem k_N_init (l : Launch) (t : gT) (h0 sz : Nat) : Met l y_N_init (.code y_N_init c_N_init 1 none :: bg) { frames := 1, cells := 1, slots := 75, locals := 20 } (cPre t h0 sz 2 [.null, .int 0]) (cPost t (bN t h0) (cAd h0 sz)) 1 75 (cAd h0 sz) := by
  refine cM (by decide) (by decide) rfl rfl rfl ?_
  intro p e R s m args below meth c Q ls hx hb hC hin hR1 hR2 hR3 fin hl hw
  have hR1 : 1 ≤ R.frames := hR1
  have hR2 : 20 ≤ R.locals := hR2
  obtain ⟨hR3, hR4⟩ := hR3
  refine lv_aload_n hx hb d_N_init_0 rfl (lv_at hl 0 rfl) ?_
  refine cOb hx hb hC ob_N ob_im ob_cd hl.1 (by omega) (by omega) d_N_init_1 ?_
  refine lv_aload_n hx hb d_N_init_4 rfl (lv_at hl 0 rfl) ?_
  refine lv_bipush (v := 75) hx hb d_N_init_5 (by decide +kernel) ?_
  refine cNewA hx hb hC hw 0 (ty := .long) rfl rfl (fun _ h => h) bw_52 (a0 := (75, .inr (.inl fun _ => 0))) (fun _ => rfl) (by decide) (by decide) (by decide) ⟨by omega, by omega⟩ d_N_init_7 (fun q0 H hw => ?_)
  have hw : cH t ((h0, .inr (2, [.null, .int 0])) :: ([(q0, .inl (t.2.2 0, 75, .inr (.inl fun _ => 0)))])) (cAd h0 s.heap.size) s s.heap H _ := hw
  refine cPutF hx hb hC hw (v := .ref q0) rfl in_c2 tyX2_ok nmX2 0 (by decide) rfl bw_43 rfl hin rfl rfl rfl (Nat.le_of_ble_eq_true rfl) d_N_init_9 (fun H locs hw => ?_)
  have hw : cH t ((h0, .inr (2, [.ref q0, .int 0])) :: ([(q0, .inl (t.2.2 0, 75, .inr (.inl fun _ => 0)))])) (cAd h0 s.heap.size) s s.heap H _ := hw
  refine lv_aload_n hx hb d_N_init_12 rfl (lv_at hl 0 rfl) ?_
  refine lv_iconst (v := 0) hx hb d_N_init_13 (by decide +kernel) ?_
  refine cPut hx hb hC hw (v := .int 0) rfl in_c2 tyX2_ok nmX2 1 (by decide) rfl bw_45 rfl rfl rfl rfl (Nat.le_of_ble_eq_true rfl) d_N_init_14 (fun H locs hw => ?_)
  have hw : cH t ((h0, .inr (2, [.ref q0, .int 0])) :: ([(q0, .inl (t.2.2 0, 75, .inr (.inl fun _ => 0)))])) (cAd h0 s.heap.size) s s.heap H _ := hw
  exact fin q0 H _ _ ls hw d_N_init_17
def bW (t : gT) (h0 : Nat) (u : (Nat × Nat)) : va_W := (h0, .inr (6, [.ref u.1, .int 0])) :: (bN t u.1 u.2)
theorem k_W_init (l : Launch) (t : gT) (h0 sz : Nat) : Met l y_W_init (.code y_W_init c_W_init 1 none :: bg) { frames := 2, cells := 2, slots := 77, locals := 40 } (cPre t h0 sz 6 [.null, .int 0]) (cPost t (bW t h0) (cAd h0 sz)) 2 77 (cAd h0 sz) := by
  refine cM (by decide) (by decide) rfl rfl rfl ?_
  intro p e R s m args below meth c Q ls hx hb hC hin hR1 hR2 hR3 fin hl hw
  have hR1 : 2 ≤ R.frames := hR1
  have hR2 : 40 ≤ R.locals := hR2
  obtain ⟨hR3, hR4⟩ := hR3
  refine lv_aload_n hx hb d_W_init_0 rfl (lv_at hl 0 rfl) ?_
  refine cOb hx hb hC ob_W ob_im ob_cd hl.1 (by omega) (by omega) d_W_init_1 ?_
  refine lv_aload_n hx hb d_W_init_4 rfl (lv_at hl 0 rfl) ?_
  refine cNew (ci := 2) (fs := [.null, .int 0]) hx hb hC hw rfl in_c2 tyX2_ok bw_37 bw_38 bw_3 df_N ⟨by omega, by omega⟩ d_W_init_5 (fun q0 H hw => ?_)
  refine lv_dup hx hb d_W_init_8 rfl ?_
  refine cIn hx hb hC hw (fun sz => k_N_init l t q0 sz) cd_N_init bw_3 im_N_init nl_W_9 rfl ⟨by decide, by decide, by decide +kernel⟩ rfl rfl ⟨show 1 + 1 ≤ R.frames by omega, show 8 + (1 + 11) + 20 ≤ R.locals by omega⟩ hl.1 (Nat.le_of_ble_eq_true rfl) ⟨by omega, by omega⟩ d_W_init_9 (fun u0 H locs hw => ?_)
  have hw : cH t ((h0, .inr (6, [.null, .int 0])) :: (bN t q0 u0)) (cAd h0 s.heap.size) s s.heap H _ := hw
  refine cPutF hx hb hC hw (v := .ref q0) rfl in_c6 tyX6_ok nmX6 0 (by decide) rfl bw_53 rfl hin rfl rfl rfl (Nat.le_of_ble_eq_true rfl) d_W_init_12 (fun H locs hw => ?_)
  have hw : cH t ((h0, .inr (6, [.ref q0, .int 0])) :: (bN t q0 u0)) (cAd h0 s.heap.size) s s.heap H _ := hw
  refine lv_aload_n hx hb d_W_init_15 rfl (lv_at hl 0 rfl) ?_
  refine lv_iconst (v := 0) hx hb d_W_init_16 (by decide +kernel) ?_
  refine cPut hx hb hC hw (v := .int 0) rfl in_c6 tyX6_ok nmX6 1 (by decide) rfl bw_57 rfl rfl rfl rfl (Nat.le_of_ble_eq_true rfl) d_W_init_17 (fun H locs hw => ?_)
  have hw : cH t ((h0, .inr (6, [.ref q0, .int 0])) :: (bN t q0 u0)) (cAd h0 s.heap.size) s s.heap H _ := hw
  exact fin (q0, u0) H _ _ ls hw d_W_init_20
def bD (t : gT) (h0 : Nat) (u : ((Nat × Nat) × (Nat × Nat) × (Nat × Nat))) : va_W := (h0, .inr (0, [.ref u.1.1, .ref u.2.1.1, .ref u.2.2.1])) :: (bN t u.1.1 u.1.2 ++ bN t u.2.1.1 u.2.1.2 ++ bN t u.2.2.1 u.2.2.2)
theorem k_D_init (l : Launch) (t : gT) (h0 sz : Nat) : Met l y_D_init (.code y_D_init c_D_init 1 none :: bg) { frames := 2, cells := 6, slots := 231, locals := 40 } (cPre t h0 sz 0 [.null, .null, .null]) (cPost t (bD t h0) (cAd h0 sz)) 6 231 (cAd h0 sz) := by
  refine cM (by decide) (by decide) rfl rfl rfl ?_
  intro p e R s m args below meth c Q ls hx hb hC hin hR1 hR2 hR3 fin hl hw
  have hR1 : 2 ≤ R.frames := hR1
  have hR2 : 40 ≤ R.locals := hR2
  obtain ⟨hR3, hR4⟩ := hR3
  refine lv_aload_n hx hb d_D_init_0 rfl (lv_at hl 0 rfl) ?_
  refine cOb hx hb hC ob_D ob_im ob_cd hl.1 (by omega) (by omega) d_D_init_1 ?_
  refine lv_aload_n hx hb d_D_init_4 rfl (lv_at hl 0 rfl) ?_
  refine cNew (ci := 2) (fs := [.null, .int 0]) hx hb hC hw rfl in_c2 tyX2_ok bw_88 bw_38 bw_3 df_N ⟨by omega, by omega⟩ d_D_init_5 (fun q0 H hw => ?_)
  refine lv_dup hx hb d_D_init_8 rfl ?_
  refine cIn hx hb hC hw (fun sz => k_N_init l t q0 sz) cd_N_init bw_3 im_N_init nl_D_11 rfl ⟨by decide, by decide, by decide +kernel⟩ rfl rfl ⟨show 1 + 1 ≤ R.frames by omega, show 8 + (1 + 11) + 20 ≤ R.locals by omega⟩ hl.1 (Nat.le_of_ble_eq_true rfl) ⟨by omega, by omega⟩ d_D_init_9 (fun u0 H locs hw => ?_)
  have hw : cH t ((h0, .inr (0, [.null, .null, .null])) :: (bN t q0 u0)) (cAd h0 s.heap.size) s s.heap H _ := hw
  refine cPutF hx hb hC hw (v := .ref q0) rfl in_c0 tyX0_ok nmX0 0 (by decide) rfl bw_90 rfl hin rfl rfl rfl (Nat.le_of_ble_eq_true rfl) d_D_init_12 (fun H locs hw => ?_)
  have hw : cH t ((h0, .inr (0, [.ref q0, .null, .null])) :: (bN t q0 u0)) (cAd h0 s.heap.size) s s.heap H _ := hw
  refine lv_aload_n hx hb d_D_init_15 rfl (lv_at hl 0 rfl) ?_
  refine cNew (ci := 2) (fs := [.null, .int 0]) hx hb hC hw rfl in_c2 tyX2_ok bw_88 bw_38 bw_3 df_N ⟨by omega, by omega⟩ d_D_init_16 (fun q1 H hw => ?_)
  refine lv_dup hx hb d_D_init_19 rfl ?_
  refine cIn hx hb hC hw (fun sz => k_N_init l t q1 sz) cd_N_init bw_3 im_N_init nl_D_11 rfl ⟨by decide, by decide, by decide +kernel⟩ rfl rfl ⟨show 1 + 1 ≤ R.frames by omega, show 8 + (1 + 11) + 20 ≤ R.locals by omega⟩ hl.1 (Nat.le_of_ble_eq_true rfl) ⟨by omega, by omega⟩ d_D_init_20 (fun u1 H locs hw => ?_)
  have hw : cH t ((h0, .inr (0, [.ref q0, .null, .null])) :: (bN t q0 u0 ++ bN t q1 u1)) (cAd h0 s.heap.size) s s.heap H _ := hw
  refine cPutF hx hb hC hw (v := .ref q1) rfl in_c0 tyX0_ok nmX0 1 (by decide) rfl bw_93 rfl hin rfl rfl rfl (Nat.le_of_ble_eq_true rfl) d_D_init_23 (fun H locs hw => ?_)
  have hw : cH t ((h0, .inr (0, [.ref q0, .ref q1, .null])) :: (bN t q0 u0 ++ bN t q1 u1)) (cAd h0 s.heap.size) s s.heap H _ := hw
  refine lv_aload_n hx hb d_D_init_26 rfl (lv_at hl 0 rfl) ?_
  refine cNew (ci := 2) (fs := [.null, .int 0]) hx hb hC hw rfl in_c2 tyX2_ok bw_88 bw_38 bw_3 df_N ⟨by omega, by omega⟩ d_D_init_27 (fun q2 H hw => ?_)
  refine lv_dup hx hb d_D_init_30 rfl ?_
  refine cIn hx hb hC hw (fun sz => k_N_init l t q2 sz) cd_N_init bw_3 im_N_init nl_D_11 rfl ⟨by decide, by decide, by decide +kernel⟩ rfl rfl ⟨show 1 + 1 ≤ R.frames by omega, show 8 + (1 + 11) + 20 ≤ R.locals by omega⟩ hl.1 (Nat.le_of_ble_eq_true rfl) ⟨by omega, by omega⟩ d_D_init_31 (fun u2 H locs hw => ?_)
  have hw : cH t ((h0, .inr (0, [.ref q0, .ref q1, .null])) :: (bN t q0 u0 ++ bN t q1 u1 ++ bN t q2 u2)) (cAd h0 s.heap.size) s s.heap H _ := hw
  refine cPutF hx hb hC hw (v := .ref q2) rfl in_c0 tyX0_ok nmX0 2 (by decide) rfl bw_97 rfl hin rfl rfl rfl (Nat.le_of_ble_eq_true rfl) d_D_init_34 (fun H locs hw => ?_)
  have hw : cH t ((h0, .inr (0, [.ref q0, .ref q1, .ref q2])) :: (bN t q0 u0 ++ bN t q1 u1 ++ bN t q2 u2)) (cAd h0 s.heap.size) s s.heap H _ := hw
  exact fin ((q0, u0), (q1, u1), (q2, u2)) H _ _ ls hw d_D_init_37
def bO (t : gT) (h0 : Nat) (u : ((Nat × Nat) × (Nat × Nat) × (Nat × Nat) × (Nat × Nat))) : va_W := (h0, .inr (4, [.ref u.1.1, .ref u.2.1.1, .ref u.2.2.1.1, .ref u.2.2.2.1])) :: (bN t u.1.1 u.1.2 ++ bN t u.2.1.1 u.2.1.2 ++ bN t u.2.2.1.1 u.2.2.1.2 ++ bN t u.2.2.2.1 u.2.2.2.2)
theorem k_O_init (l : Launch) (t : gT) (h0 sz : Nat) : Met l y_O_init (.code y_O_init c_O_init 1 none :: bg) { frames := 2, cells := 8, slots := 308, locals := 40 } (cPre t h0 sz 4 [.null, .null, .null, .null]) (cPost t (bO t h0) (cAd h0 sz)) 8 308 (cAd h0 sz) := by
  refine cM (by decide) (by decide) rfl rfl rfl ?_
  intro p e R s m args below meth c Q ls hx hb hC hin hR1 hR2 hR3 fin hl hw
  have hR1 : 2 ≤ R.frames := hR1
  have hR2 : 40 ≤ R.locals := hR2
  obtain ⟨hR3, hR4⟩ := hR3
  refine lv_aload_n hx hb d_O_init_0 rfl (lv_at hl 0 rfl) ?_
  refine cOb hx hb hC ob_O ob_im ob_cd hl.1 (by omega) (by omega) d_O_init_1 ?_
  refine lv_aload_n hx hb d_O_init_4 rfl (lv_at hl 0 rfl) ?_
  refine cNew (ci := 2) (fs := [.null, .int 0]) hx hb hC hw rfl in_c2 tyX2_ok bw_111 bw_38 bw_3 df_N ⟨by omega, by omega⟩ d_O_init_5 (fun q0 H hw => ?_)
  refine lv_dup hx hb d_O_init_8 rfl ?_
  refine cIn hx hb hC hw (fun sz => k_N_init l t q0 sz) cd_N_init bw_3 im_N_init nl_O_9 rfl ⟨by decide, by decide, by decide +kernel⟩ rfl rfl ⟨show 1 + 1 ≤ R.frames by omega, show 8 + (1 + 11) + 20 ≤ R.locals by omega⟩ hl.1 (Nat.le_of_ble_eq_true rfl) ⟨by omega, by omega⟩ d_O_init_9 (fun u0 H locs hw => ?_)
  have hw : cH t ((h0, .inr (4, [.null, .null, .null, .null])) :: (bN t q0 u0)) (cAd h0 s.heap.size) s s.heap H _ := hw
  refine cPutF hx hb hC hw (v := .ref q0) rfl in_c4 tyX4_ok nmX4 0 (by decide) rfl bw_113 rfl hin rfl rfl rfl (Nat.le_of_ble_eq_true rfl) d_O_init_12 (fun H locs hw => ?_)
  have hw : cH t ((h0, .inr (4, [.ref q0, .null, .null, .null])) :: (bN t q0 u0)) (cAd h0 s.heap.size) s s.heap H _ := hw
  refine lv_aload_n hx hb d_O_init_15 rfl (lv_at hl 0 rfl) ?_
  refine cNew (ci := 2) (fs := [.null, .int 0]) hx hb hC hw rfl in_c2 tyX2_ok bw_111 bw_38 bw_3 df_N ⟨by omega, by omega⟩ d_O_init_16 (fun q1 H hw => ?_)
  refine lv_dup hx hb d_O_init_19 rfl ?_
  refine cIn hx hb hC hw (fun sz => k_N_init l t q1 sz) cd_N_init bw_3 im_N_init nl_O_9 rfl ⟨by decide, by decide, by decide +kernel⟩ rfl rfl ⟨show 1 + 1 ≤ R.frames by omega, show 8 + (1 + 11) + 20 ≤ R.locals by omega⟩ hl.1 (Nat.le_of_ble_eq_true rfl) ⟨by omega, by omega⟩ d_O_init_20 (fun u1 H locs hw => ?_)
  have hw : cH t ((h0, .inr (4, [.ref q0, .null, .null, .null])) :: (bN t q0 u0 ++ bN t q1 u1)) (cAd h0 s.heap.size) s s.heap H _ := hw
  refine cPutF hx hb hC hw (v := .ref q1) rfl in_c4 tyX4_ok nmX4 1 (by decide) rfl bw_115 rfl hin rfl rfl rfl (Nat.le_of_ble_eq_true rfl) d_O_init_23 (fun H locs hw => ?_)
  have hw : cH t ((h0, .inr (4, [.ref q0, .ref q1, .null, .null])) :: (bN t q0 u0 ++ bN t q1 u1)) (cAd h0 s.heap.size) s s.heap H _ := hw
  refine lv_aload_n hx hb d_O_init_26 rfl (lv_at hl 0 rfl) ?_
  refine cNew (ci := 2) (fs := [.null, .int 0]) hx hb hC hw rfl in_c2 tyX2_ok bw_111 bw_38 bw_3 df_N ⟨by omega, by omega⟩ d_O_init_27 (fun q2 H hw => ?_)
  refine lv_dup hx hb d_O_init_30 rfl ?_
  refine cIn hx hb hC hw (fun sz => k_N_init l t q2 sz) cd_N_init bw_3 im_N_init nl_O_9 rfl ⟨by decide, by decide, by decide +kernel⟩ rfl rfl ⟨show 1 + 1 ≤ R.frames by omega, show 8 + (1 + 11) + 20 ≤ R.locals by omega⟩ hl.1 (Nat.le_of_ble_eq_true rfl) ⟨by omega, by omega⟩ d_O_init_31 (fun u2 H locs hw => ?_)
  have hw : cH t ((h0, .inr (4, [.ref q0, .ref q1, .null, .null])) :: (bN t q0 u0 ++ bN t q1 u1 ++ bN t q2 u2)) (cAd h0 s.heap.size) s s.heap H _ := hw
  refine cPutF hx hb hC hw (v := .ref q2) rfl in_c4 tyX4_ok nmX4 2 (by decide) rfl bw_116 rfl hin rfl rfl rfl (Nat.le_of_ble_eq_true rfl) d_O_init_34 (fun H locs hw => ?_)
  have hw : cH t ((h0, .inr (4, [.ref q0, .ref q1, .ref q2, .null])) :: (bN t q0 u0 ++ bN t q1 u1 ++ bN t q2 u2)) (cAd h0 s.heap.size) s s.heap H _ := hw
  refine lv_aload_n hx hb d_O_init_37 rfl (lv_at hl 0 rfl) ?_
  refine cNew (ci := 2) (fs := [.null, .int 0]) hx hb hC hw rfl in_c2 tyX2_ok bw_111 bw_38 bw_3 df_N ⟨by omega, by omega⟩ d_O_init_38 (fun q3 H hw => ?_)
  refine lv_dup hx hb d_O_init_41 rfl ?_
  refine cIn hx hb hC hw (fun sz => k_N_init l t q3 sz) cd_N_init bw_3 im_N_init nl_O_9 rfl ⟨by decide, by decide, by decide +kernel⟩ rfl rfl ⟨show 1 + 1 ≤ R.frames by omega, show 8 + (1 + 11) + 20 ≤ R.locals by omega⟩ hl.1 (Nat.le_of_ble_eq_true rfl) ⟨by omega, by omega⟩ d_O_init_42 (fun u3 H locs hw => ?_)
  have hw : cH t ((h0, .inr (4, [.ref q0, .ref q1, .ref q2, .null])) :: (bN t q0 u0 ++ bN t q1 u1 ++ bN t q2 u2 ++ bN t q3 u3)) (cAd h0 s.heap.size) s s.heap H _ := hw
  refine cPutF hx hb hC hw (v := .ref q3) rfl in_c4 tyX4_ok nmX4 3 (by decide) rfl bw_117 rfl hin rfl rfl rfl (Nat.le_of_ble_eq_true rfl) d_O_init_45 (fun H locs hw => ?_)
  have hw : cH t ((h0, .inr (4, [.ref q0, .ref q1, .ref q2, .ref q3])) :: (bN t q0 u0 ++ bN t q1 u1 ++ bN t q2 u2 ++ bN t q3 u3)) (cAd h0 s.heap.size) s s.heap H _ := hw
  exact fin ((q0, u0), (q1, u1), (q2, u2), (q3, u3)) H _ _ ls hw d_O_init_48
def bS (t : gT) (h0 : Nat) (u : ((Nat × Nat) × (Nat × Nat) × (Nat × Nat) × (Nat × ((Nat × Nat) × (Nat × Nat) × (Nat × Nat))))) : va_W := (h0, .inr (3, [.ref u.1.1, .ref u.2.1.1, .ref u.2.2.1.1, .ref u.2.2.2.1])) :: (bN t u.1.1 u.1.2 ++ bN t u.2.1.1 u.2.1.2 ++ bN t u.2.2.1.1 u.2.2.1.2 ++ bD t u.2.2.2.1 u.2.2.2.2)
theorem k_S_init (l : Launch) (t : gT) (h0 sz : Nat) : Met l y_S_init (.code y_S_init c_S_init 1 none :: bg) { frames := 3, cells := 13, slots := 465, locals := 60 } (cPre t h0 sz 3 [.null, .null, .null, .null]) (cPost t (bS t h0) (cAd h0 sz)) 13 465 (cAd h0 sz) := by
  refine cM (by decide) (by decide) rfl rfl rfl ?_
  intro p e R s m args below meth c Q ls hx hb hC hin hR1 hR2 hR3 fin hl hw
  have hR1 : 3 ≤ R.frames := hR1
  have hR2 : 60 ≤ R.locals := hR2
  obtain ⟨hR3, hR4⟩ := hR3
  refine lv_aload_n hx hb d_S_init_0 rfl (lv_at hl 0 rfl) ?_
  refine cOb hx hb hC ob_S ob_im ob_cd hl.1 (by omega) (by omega) d_S_init_1 ?_
  refine lv_aload_n hx hb d_S_init_4 rfl (lv_at hl 0 rfl) ?_
  refine cNew (ci := 2) (fs := [.null, .int 0]) hx hb hC hw rfl in_c2 tyX2_ok bw_133 bw_38 bw_3 df_N ⟨by omega, by omega⟩ d_S_init_5 (fun q0 H hw => ?_)
  refine lv_dup hx hb d_S_init_8 rfl ?_
  refine cIn hx hb hC hw (fun sz => k_N_init l t q0 sz) cd_N_init bw_3 im_N_init nl_S_9 rfl ⟨by decide, by decide, by decide +kernel⟩ rfl rfl ⟨show 1 + 1 ≤ R.frames by omega, show 8 + (1 + 11) + 20 ≤ R.locals by omega⟩ hl.1 (Nat.le_of_ble_eq_true rfl) ⟨by omega, by omega⟩ d_S_init_9 (fun u0 H locs hw => ?_)
  have hw : cH t ((h0, .inr (3, [.null, .null, .null, .null])) :: (bN t q0 u0)) (cAd h0 s.heap.size) s s.heap H _ := hw
  refine cPutF hx hb hC hw (v := .ref q0) rfl in_c3 tyX3_ok nmX3 0 (by decide) rfl bw_137 rfl hin rfl rfl rfl (Nat.le_of_ble_eq_true rfl) d_S_init_12 (fun H locs hw => ?_)
  have hw : cH t ((h0, .inr (3, [.ref q0, .null, .null, .null])) :: (bN t q0 u0)) (cAd h0 s.heap.size) s s.heap H _ := hw
  refine lv_aload_n hx hb d_S_init_15 rfl (lv_at hl 0 rfl) ?_
  refine cNew (ci := 2) (fs := [.null, .int 0]) hx hb hC hw rfl in_c2 tyX2_ok bw_133 bw_38 bw_3 df_N ⟨by omega, by omega⟩ d_S_init_16 (fun q1 H hw => ?_)
  refine lv_dup hx hb d_S_init_19 rfl ?_
  refine cIn hx hb hC hw (fun sz => k_N_init l t q1 sz) cd_N_init bw_3 im_N_init nl_S_9 rfl ⟨by decide, by decide, by decide +kernel⟩ rfl rfl ⟨show 1 + 1 ≤ R.frames by omega, show 8 + (1 + 11) + 20 ≤ R.locals by omega⟩ hl.1 (Nat.le_of_ble_eq_true rfl) ⟨by omega, by omega⟩ d_S_init_20 (fun u1 H locs hw => ?_)
  have hw : cH t ((h0, .inr (3, [.ref q0, .null, .null, .null])) :: (bN t q0 u0 ++ bN t q1 u1)) (cAd h0 s.heap.size) s s.heap H _ := hw
  refine cPutF hx hb hC hw (v := .ref q1) rfl in_c3 tyX3_ok nmX3 1 (by decide) rfl bw_139 rfl hin rfl rfl rfl (Nat.le_of_ble_eq_true rfl) d_S_init_23 (fun H locs hw => ?_)
  have hw : cH t ((h0, .inr (3, [.ref q0, .ref q1, .null, .null])) :: (bN t q0 u0 ++ bN t q1 u1)) (cAd h0 s.heap.size) s s.heap H _ := hw
  refine lv_aload_n hx hb d_S_init_26 rfl (lv_at hl 0 rfl) ?_
  refine cNew (ci := 2) (fs := [.null, .int 0]) hx hb hC hw rfl in_c2 tyX2_ok bw_133 bw_38 bw_3 df_N ⟨by omega, by omega⟩ d_S_init_27 (fun q2 H hw => ?_)
  refine lv_dup hx hb d_S_init_30 rfl ?_
  refine cIn hx hb hC hw (fun sz => k_N_init l t q2 sz) cd_N_init bw_3 im_N_init nl_S_9 rfl ⟨by decide, by decide, by decide +kernel⟩ rfl rfl ⟨show 1 + 1 ≤ R.frames by omega, show 8 + (1 + 11) + 20 ≤ R.locals by omega⟩ hl.1 (Nat.le_of_ble_eq_true rfl) ⟨by omega, by omega⟩ d_S_init_31 (fun u2 H locs hw => ?_)
  have hw : cH t ((h0, .inr (3, [.ref q0, .ref q1, .null, .null])) :: (bN t q0 u0 ++ bN t q1 u1 ++ bN t q2 u2)) (cAd h0 s.heap.size) s s.heap H _ := hw
  refine cPutF hx hb hC hw (v := .ref q2) rfl in_c3 tyX3_ok nmX3 2 (by decide) rfl bw_140 rfl hin rfl rfl rfl (Nat.le_of_ble_eq_true rfl) d_S_init_34 (fun H locs hw => ?_)
  have hw : cH t ((h0, .inr (3, [.ref q0, .ref q1, .ref q2, .null])) :: (bN t q0 u0 ++ bN t q1 u1 ++ bN t q2 u2)) (cAd h0 s.heap.size) s s.heap H _ := hw
  refine lv_aload_n hx hb d_S_init_37 rfl (lv_at hl 0 rfl) ?_
  refine cNew (ci := 0) (fs := [.null, .null, .null]) hx hb hC hw rfl in_c0 tyX0_ok bw_135 bw_83 bw_5 df_D ⟨by omega, by omega⟩ d_S_init_38 (fun q3 H hw => ?_)
  refine lv_dup hx hb d_S_init_41 rfl ?_
  refine cIn hx hb hC hw (fun sz => k_D_init l t q3 sz) cd_D_init bw_5 im_D_init nl_S_24 rfl ⟨by decide, by decide, by decide +kernel⟩ rfl rfl ⟨show 2 + 1 ≤ R.frames by omega, show 8 + (1 + 11) + 40 ≤ R.locals by omega⟩ hl.1 (Nat.le_of_ble_eq_true rfl) ⟨by omega, by omega⟩ d_S_init_42 (fun u3 H locs hw => ?_)
  have hw : cH t ((h0, .inr (3, [.ref q0, .ref q1, .ref q2, .null])) :: (bN t q0 u0 ++ bN t q1 u1 ++ bN t q2 u2 ++ bD t q3 u3)) (cAd h0 s.heap.size) s s.heap H _ := hw
  refine cPutF hx hb hC hw (v := .ref q3) rfl in_c3 tyX3_ok nmX3 3 (by decide) rfl bw_141 rfl hin rfl rfl rfl (Nat.le_of_ble_eq_true rfl) d_S_init_45 (fun H locs hw => ?_)
  have hw : cH t ((h0, .inr (3, [.ref q0, .ref q1, .ref q2, .ref q3])) :: (bN t q0 u0 ++ bN t q1 u1 ++ bN t q2 u2 ++ bD t q3 u3)) (cAd h0 s.heap.size) s s.heap H _ := hw
  exact fin ((q0, u0), (q1, u1), (q2, u2), (q3, u3)) H _ _ ls hw d_S_init_48
def bE (t : gT) (h0 : Nat) (u : ((Nat × Nat) × (Nat × Nat) × (Nat × Nat) × (Nat × Nat) × (Nat × Nat) × (Nat × ((Nat × Nat) × (Nat × Nat) × (Nat × Nat))))) : va_W := (h0, .inr (1, [.ref u.1.1, .ref u.2.1.1, .int 0, .ref u.2.2.1.1, .ref u.2.2.2.1.1, .ref u.2.2.2.2.1.1, .ref u.2.2.2.2.2.1])) :: (bN t u.1.1 u.1.2 ++ bN t u.2.1.1 u.2.1.2 ++ bN t u.2.2.1.1 u.2.2.1.2 ++ bN t u.2.2.2.1.1 u.2.2.2.1.2 ++ bN t u.2.2.2.2.1.1 u.2.2.2.2.1.2 ++ bD t u.2.2.2.2.2.1 u.2.2.2.2.2.2)
theorem k_E_init (l : Launch) (t : gT) (h0 sz : Nat) : Met l y_E_init (.code y_E_init c_E_init 1 none :: bg) { frames := 3, cells := 17, slots := 619, locals := 60 } (cPre t h0 sz 1 [.null, .null, .int 0, .null, .null, .null, .null]) (cPost t (bE t h0) (cAd h0 sz)) 17 619 (cAd h0 sz) := by
  refine cM (by decide) (by decide) rfl rfl rfl ?_
  intro p e R s m args below meth c Q ls hx hb hC hin hR1 hR2 hR3 fin hl hw
  have hR1 : 3 ≤ R.frames := hR1
  have hR2 : 60 ≤ R.locals := hR2
  obtain ⟨hR3, hR4⟩ := hR3
  refine lv_aload_n hx hb d_E_init_0 rfl (lv_at hl 0 rfl) ?_
  refine cOb hx hb hC ob_E ob_im ob_cd hl.1 (by omega) (by omega) d_E_init_1 ?_
  refine lv_aload_n hx hb d_E_init_4 rfl (lv_at hl 0 rfl) ?_
  refine cNew (ci := 2) (fs := [.null, .int 0]) hx hb hC hw rfl in_c2 tyX2_ok bw_157 bw_38 bw_3 df_N ⟨by omega, by omega⟩ d_E_init_5 (fun q0 H hw => ?_)
  refine lv_dup hx hb d_E_init_8 rfl ?_
  refine cIn hx hb hC hw (fun sz => k_N_init l t q0 sz) cd_N_init bw_3 im_N_init nl_E_9 rfl ⟨by decide, by decide, by decide +kernel⟩ rfl rfl ⟨show 1 + 1 ≤ R.frames by omega, show 8 + (1 + 11) + 20 ≤ R.locals by omega⟩ hl.1 (Nat.le_of_ble_eq_true rfl) ⟨by omega, by omega⟩ d_E_init_9 (fun u0 H locs hw => ?_)
  have hw : cH t ((h0, .inr (1, [.null, .null, .int 0, .null, .null, .null, .null])) :: (bN t q0 u0)) (cAd h0 s.heap.size) s s.heap H _ := hw
  refine cPutF hx hb hC hw (v := .ref q0) rfl in_c1 tyX1_ok nmX1 0 (by decide) rfl bw_161 rfl hin rfl rfl rfl (Nat.le_of_ble_eq_true rfl) d_E_init_12 (fun H locs hw => ?_)
  have hw : cH t ((h0, .inr (1, [.ref q0, .null, .int 0, .null, .null, .null, .null])) :: (bN t q0 u0)) (cAd h0 s.heap.size) s s.heap H _ := hw
  refine lv_aload_n hx hb d_E_init_15 rfl (lv_at hl 0 rfl) ?_
  refine cNew (ci := 2) (fs := [.null, .int 0]) hx hb hC hw rfl in_c2 tyX2_ok bw_157 bw_38 bw_3 df_N ⟨by omega, by omega⟩ d_E_init_16 (fun q1 H hw => ?_)
  refine lv_dup hx hb d_E_init_19 rfl ?_
  refine cIn hx hb hC hw (fun sz => k_N_init l t q1 sz) cd_N_init bw_3 im_N_init nl_E_9 rfl ⟨by decide, by decide, by decide +kernel⟩ rfl rfl ⟨show 1 + 1 ≤ R.frames by omega, show 8 + (1 + 11) + 20 ≤ R.locals by omega⟩ hl.1 (Nat.le_of_ble_eq_true rfl) ⟨by omega, by omega⟩ d_E_init_20 (fun u1 H locs hw => ?_)
  have hw : cH t ((h0, .inr (1, [.ref q0, .null, .int 0, .null, .null, .null, .null])) :: (bN t q0 u0 ++ bN t q1 u1)) (cAd h0 s.heap.size) s s.heap H _ := hw
  refine cPutF hx hb hC hw (v := .ref q1) rfl in_c1 tyX1_ok nmX1 1 (by decide) rfl bw_163 rfl hin rfl rfl rfl (Nat.le_of_ble_eq_true rfl) d_E_init_23 (fun H locs hw => ?_)
  have hw : cH t ((h0, .inr (1, [.ref q0, .ref q1, .int 0, .null, .null, .null, .null])) :: (bN t q0 u0 ++ bN t q1 u1)) (cAd h0 s.heap.size) s s.heap H _ := hw
  refine lv_aload_n hx hb d_E_init_26 rfl (lv_at hl 0 rfl) ?_
  refine lv_iconst (v := 0) hx hb d_E_init_27 (by decide +kernel) ?_
  refine cPut hx hb hC hw (v := .int 0) rfl in_c1 tyX1_ok nmX1 2 (by decide) rfl bw_165 rfl rfl rfl rfl (Nat.le_of_ble_eq_true rfl) d_E_init_28 (fun H locs hw => ?_)
  have hw : cH t ((h0, .inr (1, [.ref q0, .ref q1, .int 0, .null, .null, .null, .null])) :: (bN t q0 u0 ++ bN t q1 u1)) (cAd h0 s.heap.size) s s.heap H _ := hw
  refine lv_aload_n hx hb d_E_init_31 rfl (lv_at hl 0 rfl) ?_
  refine cNew (ci := 2) (fs := [.null, .int 0]) hx hb hC hw rfl in_c2 tyX2_ok bw_157 bw_38 bw_3 df_N ⟨by omega, by omega⟩ d_E_init_32 (fun q2 H hw => ?_)
  refine lv_dup hx hb d_E_init_35 rfl ?_
  refine cIn hx hb hC hw (fun sz => k_N_init l t q2 sz) cd_N_init bw_3 im_N_init nl_E_9 rfl ⟨by decide, by decide, by decide +kernel⟩ rfl rfl ⟨show 1 + 1 ≤ R.frames by omega, show 8 + (1 + 11) + 20 ≤ R.locals by omega⟩ hl.1 (Nat.le_of_ble_eq_true rfl) ⟨by omega, by omega⟩ d_E_init_36 (fun u2 H locs hw => ?_)
  have hw : cH t ((h0, .inr (1, [.ref q0, .ref q1, .int 0, .null, .null, .null, .null])) :: (bN t q0 u0 ++ bN t q1 u1 ++ bN t q2 u2)) (cAd h0 s.heap.size) s s.heap H _ := hw
  refine cPutF hx hb hC hw (v := .ref q2) rfl in_c1 tyX1_ok nmX1 3 (by decide) rfl bw_166 rfl hin rfl rfl rfl (Nat.le_of_ble_eq_true rfl) d_E_init_39 (fun H locs hw => ?_)
  have hw : cH t ((h0, .inr (1, [.ref q0, .ref q1, .int 0, .ref q2, .null, .null, .null])) :: (bN t q0 u0 ++ bN t q1 u1 ++ bN t q2 u2)) (cAd h0 s.heap.size) s s.heap H _ := hw
  refine lv_aload_n hx hb d_E_init_42 rfl (lv_at hl 0 rfl) ?_
  refine cNew (ci := 2) (fs := [.null, .int 0]) hx hb hC hw rfl in_c2 tyX2_ok bw_157 bw_38 bw_3 df_N ⟨by omega, by omega⟩ d_E_init_43 (fun q3 H hw => ?_)
  refine lv_dup hx hb d_E_init_46 rfl ?_
  refine cIn hx hb hC hw (fun sz => k_N_init l t q3 sz) cd_N_init bw_3 im_N_init nl_E_9 rfl ⟨by decide, by decide, by decide +kernel⟩ rfl rfl ⟨show 1 + 1 ≤ R.frames by omega, show 8 + (1 + 11) + 20 ≤ R.locals by omega⟩ hl.1 (Nat.le_of_ble_eq_true rfl) ⟨by omega, by omega⟩ d_E_init_47 (fun u3 H locs hw => ?_)
  have hw : cH t ((h0, .inr (1, [.ref q0, .ref q1, .int 0, .ref q2, .null, .null, .null])) :: (bN t q0 u0 ++ bN t q1 u1 ++ bN t q2 u2 ++ bN t q3 u3)) (cAd h0 s.heap.size) s s.heap H _ := hw
  refine cPutF hx hb hC hw (v := .ref q3) rfl in_c1 tyX1_ok nmX1 4 (by decide) rfl bw_167 rfl hin rfl rfl rfl (Nat.le_of_ble_eq_true rfl) d_E_init_50 (fun H locs hw => ?_)
  have hw : cH t ((h0, .inr (1, [.ref q0, .ref q1, .int 0, .ref q2, .ref q3, .null, .null])) :: (bN t q0 u0 ++ bN t q1 u1 ++ bN t q2 u2 ++ bN t q3 u3)) (cAd h0 s.heap.size) s s.heap H _ := hw
  refine lv_aload_n hx hb d_E_init_53 rfl (lv_at hl 0 rfl) ?_
  refine cNew (ci := 2) (fs := [.null, .int 0]) hx hb hC hw rfl in_c2 tyX2_ok bw_157 bw_38 bw_3 df_N ⟨by omega, by omega⟩ d_E_init_54 (fun q4 H hw => ?_)
  refine lv_dup hx hb d_E_init_57 rfl ?_
  refine cIn hx hb hC hw (fun sz => k_N_init l t q4 sz) cd_N_init bw_3 im_N_init nl_E_9 rfl ⟨by decide, by decide, by decide +kernel⟩ rfl rfl ⟨show 1 + 1 ≤ R.frames by omega, show 8 + (1 + 11) + 20 ≤ R.locals by omega⟩ hl.1 (Nat.le_of_ble_eq_true rfl) ⟨by omega, by omega⟩ d_E_init_58 (fun u4 H locs hw => ?_)
  have hw : cH t ((h0, .inr (1, [.ref q0, .ref q1, .int 0, .ref q2, .ref q3, .null, .null])) :: (bN t q0 u0 ++ bN t q1 u1 ++ bN t q2 u2 ++ bN t q3 u3 ++ bN t q4 u4)) (cAd h0 s.heap.size) s s.heap H _ := hw
  refine cPutF hx hb hC hw (v := .ref q4) rfl in_c1 tyX1_ok nmX1 5 (by decide) rfl bw_168 rfl hin rfl rfl rfl (Nat.le_of_ble_eq_true rfl) d_E_init_61 (fun H locs hw => ?_)
  have hw : cH t ((h0, .inr (1, [.ref q0, .ref q1, .int 0, .ref q2, .ref q3, .ref q4, .null])) :: (bN t q0 u0 ++ bN t q1 u1 ++ bN t q2 u2 ++ bN t q3 u3 ++ bN t q4 u4)) (cAd h0 s.heap.size) s s.heap H _ := hw
  refine lv_aload_n hx hb d_E_init_64 rfl (lv_at hl 0 rfl) ?_
  refine cNew (ci := 0) (fs := [.null, .null, .null]) hx hb hC hw rfl in_c0 tyX0_ok bw_159 bw_83 bw_5 df_D ⟨by omega, by omega⟩ d_E_init_65 (fun q5 H hw => ?_)
  refine lv_dup hx hb d_E_init_68 rfl ?_
  refine cIn hx hb hC hw (fun sz => k_D_init l t q5 sz) cd_D_init bw_5 im_D_init nl_E_34 rfl ⟨by decide, by decide, by decide +kernel⟩ rfl rfl ⟨show 2 + 1 ≤ R.frames by omega, show 8 + (1 + 11) + 40 ≤ R.locals by omega⟩ hl.1 (Nat.le_of_ble_eq_true rfl) ⟨by omega, by omega⟩ d_E_init_69 (fun u5 H locs hw => ?_)
  have hw : cH t ((h0, .inr (1, [.ref q0, .ref q1, .int 0, .ref q2, .ref q3, .ref q4, .null])) :: (bN t q0 u0 ++ bN t q1 u1 ++ bN t q2 u2 ++ bN t q3 u3 ++ bN t q4 u4 ++ bD t q5 u5)) (cAd h0 s.heap.size) s s.heap H _ := hw
  refine cPutF hx hb hC hw (v := .ref q5) rfl in_c1 tyX1_ok nmX1 6 (by decide) rfl bw_169 rfl hin rfl rfl rfl (Nat.le_of_ble_eq_true rfl) d_E_init_72 (fun H locs hw => ?_)
  have hw : cH t ((h0, .inr (1, [.ref q0, .ref q1, .int 0, .ref q2, .ref q3, .ref q4, .ref q5])) :: (bN t q0 u0 ++ bN t q1 u1 ++ bN t q2 u2 ++ bN t q3 u3 ++ bN t q4 u4 ++ bD t q5 u5)) (cAd h0 s.heap.size) s s.heap H _ := hw
  exact fin ((q0, u0), (q1, u1), (q2, u2), (q3, u3), (q4, u4), (q5, u5)) H _ _ ls hw d_E_init_75
def bT (t : gT) (h0 : Nat) (u : Nat) : va_W := (h0, .inr (5, [.ref u, .int 0])) :: ([(u, .inl (t.2.2 2, 1200, .inl fun _ => 0))])
theorem k_T_init (l : Launch) (t : gT) (h0 sz : Nat) : Met l y_T_init (.code y_T_init c_T_init 1 none :: bg) { frames := 1, cells := 1, slots := 1200, locals := 20 } (cPre t h0 sz 5 [.null, .int 0]) (cPost t (bT t h0) (cAd h0 sz)) 1 1200 (cAd h0 sz) := by
  refine cM (by decide) (by decide) rfl rfl rfl ?_
  intro p e R s m args below meth c Q ls hx hb hC hin hR1 hR2 hR3 fin hl hw
  have hR1 : 1 ≤ R.frames := hR1
  have hR2 : 20 ≤ R.locals := hR2
  obtain ⟨hR3, hR4⟩ := hR3
  refine lv_aload_n hx hb d_T_init_0 rfl (lv_at hl 0 rfl) ?_
  refine cOb hx hb hC ob_T ob_im ob_cd hl.1 (by omega) (by omega) d_T_init_1 ?_
  refine lv_aload_n hx hb d_T_init_4 rfl (lv_at hl 0 rfl) ?_
  refine lv_sipush (v := 1200) hx hb d_T_init_5 (by decide +kernel) ?_
  refine cNewA hx hb hC hw 2 (ty := .byte) rfl rfl (fun _ h => h) bw_81 (a0 := (1200, .inl fun _ => 0)) (fun _ => rfl) (by decide) (by decide) (by decide) ⟨by omega, by omega⟩ d_T_init_8 (fun q0 H hw => ?_)
  have hw : cH t ((h0, .inr (5, [.null, .int 0])) :: ([(q0, .inl (t.2.2 2, 1200, .inl fun _ => 0))])) (cAd h0 s.heap.size) s s.heap H _ := hw
  refine cPutF hx hb hC hw (v := .ref q0) rfl in_c5 tyX5_ok nmX5 0 (by decide) rfl bw_72 rfl hin rfl rfl rfl (Nat.le_of_ble_eq_true rfl) d_T_init_10 (fun H locs hw => ?_)
  have hw : cH t ((h0, .inr (5, [.ref q0, .int 0])) :: ([(q0, .inl (t.2.2 2, 1200, .inl fun _ => 0))])) (cAd h0 s.heap.size) s s.heap H _ := hw
  refine lv_aload_n hx hb d_T_init_13 rfl (lv_at hl 0 rfl) ?_
  refine lv_iconst (v := 0) hx hb d_T_init_14 (by decide +kernel) ?_
  refine cPut hx hb hC hw (v := .int 0) rfl in_c5 tyX5_ok nmX5 1 (by decide) rfl bw_74 rfl rfl rfl rfl (Nat.le_of_ble_eq_true rfl) d_T_init_15 (fun H locs hw => ?_)
  have hw : cH t ((h0, .inr (5, [.ref q0, .int 0])) :: ([(q0, .inl (t.2.2 2, 1200, .inl fun _ => 0))])) (cAd h0 s.heap.size) s s.heap H _ := hw
  exact fin q0 H _ _ ls hw d_T_init_18
def bM (t : gT) (h0 : Nat) (u : (Nat × Nat × Nat × Nat)) : va_W := (h0, .inr (8, [.int 0, .ref u.1, .ref u.2.1, .ref u.2.2.1, .int 0, .ref u.2.2.2])) :: ([(u.1, .inl (t.2.2 1, 2160, .inl fun _ => 0))] ++ [(u.2.1, .inl (t.2.2 1, 20, .inl fun _ => 0))] ++ [(u.2.2.1, .inl (t.2.2 1, 20, .inl fun _ => 0))] ++ [(u.2.2.2, .inl (t.2.2 1, 1200, .inl fun _ => 0))])
theorem k_M_init (l : Launch) (t : gT) (h0 sz : Nat) : Met l y_M_init (.code y_M_init c_M_init 1 none :: bg) { frames := 1, cells := 4, slots := 3400, locals := 20 } (cPre t h0 sz 8 [.int 0, .null, .null, .null, .int 0, .null]) (cPost t (bM t h0) (cAd h0 sz)) 4 3400 (cAd h0 sz) := by
  refine cM (by decide) (by decide) rfl rfl rfl ?_
  intro p e R s m args below meth c Q ls hx hb hC hin hR1 hR2 hR3 fin hl hw
  have hR1 : 1 ≤ R.frames := hR1
  have hR2 : 20 ≤ R.locals := hR2
  obtain ⟨hR3, hR4⟩ := hR3
  refine lv_aload_n hx hb d_M_init_0 rfl (lv_at hl 0 rfl) ?_
  refine cOb hx hb hC ob_M ob_im ob_cd hl.1 (by omega) (by omega) d_M_init_1 ?_
  refine lv_aload_n hx hb d_M_init_4 rfl (lv_at hl 0 rfl) ?_
  refine lv_sipush (v := 2160) hx hb d_M_init_5 (by decide +kernel) ?_
  refine cNewA hx hb hC hw 1 (ty := .int) rfl rfl (fun _ h => h) bw_836 (a0 := (2160, .inl fun _ => 0)) (fun _ => rfl) (by decide) (by decide) (by decide) ⟨by omega, by omega⟩ d_M_init_8 (fun q0 H hw => ?_)
  have hw : cH t ((h0, .inr (8, [.int 0, .null, .null, .null, .int 0, .null])) :: ([(q0, .inl (t.2.2 1, 2160, .inl fun _ => 0))])) (cAd h0 s.heap.size) s s.heap H _ := hw
  refine cPutF hx hb hC hw (v := .ref q0) rfl in_c8 tyM_ok nmM 1 (by decide) rfl bw_818 rfl hin rfl rfl rfl (Nat.le_of_ble_eq_true rfl) d_M_init_10 (fun H locs hw => ?_)
  have hw : cH t ((h0, .inr (8, [.int 0, .ref q0, .null, .null, .int 0, .null])) :: ([(q0, .inl (t.2.2 1, 2160, .inl fun _ => 0))])) (cAd h0 s.heap.size) s s.heap H _ := hw
  refine lv_aload_n hx hb d_M_init_13 rfl (lv_at hl 0 rfl) ?_
  refine lv_bipush (v := 20) hx hb d_M_init_14 (by decide +kernel) ?_
  refine cNewA hx hb hC hw 1 (ty := .int) rfl rfl (fun _ h => h) bw_836 (a0 := (20, .inl fun _ => 0)) (fun _ => rfl) (by decide) (by decide) (by decide) ⟨by omega, by omega⟩ d_M_init_16 (fun q1 H hw => ?_)
  have hw : cH t ((h0, .inr (8, [.int 0, .ref q0, .null, .null, .int 0, .null])) :: ([(q0, .inl (t.2.2 1, 2160, .inl fun _ => 0))] ++ [(q1, .inl (t.2.2 1, 20, .inl fun _ => 0))])) (cAd h0 s.heap.size) s s.heap H _ := hw
  refine cPutF hx hb hC hw (v := .ref q1) rfl in_c8 tyM_ok nmM 2 (by decide) rfl bw_819 rfl hin rfl rfl rfl (Nat.le_of_ble_eq_true rfl) d_M_init_18 (fun H locs hw => ?_)
  have hw : cH t ((h0, .inr (8, [.int 0, .ref q0, .ref q1, .null, .int 0, .null])) :: ([(q0, .inl (t.2.2 1, 2160, .inl fun _ => 0))] ++ [(q1, .inl (t.2.2 1, 20, .inl fun _ => 0))])) (cAd h0 s.heap.size) s s.heap H _ := hw
  refine lv_aload_n hx hb d_M_init_21 rfl (lv_at hl 0 rfl) ?_
  refine lv_bipush (v := 20) hx hb d_M_init_22 (by decide +kernel) ?_
  refine cNewA hx hb hC hw 1 (ty := .int) rfl rfl (fun _ h => h) bw_836 (a0 := (20, .inl fun _ => 0)) (fun _ => rfl) (by decide) (by decide) (by decide) ⟨by omega, by omega⟩ d_M_init_24 (fun q2 H hw => ?_)
  have hw : cH t ((h0, .inr (8, [.int 0, .ref q0, .ref q1, .null, .int 0, .null])) :: ([(q0, .inl (t.2.2 1, 2160, .inl fun _ => 0))] ++ [(q1, .inl (t.2.2 1, 20, .inl fun _ => 0))] ++ [(q2, .inl (t.2.2 1, 20, .inl fun _ => 0))])) (cAd h0 s.heap.size) s s.heap H _ := hw
  refine cPutF hx hb hC hw (v := .ref q2) rfl in_c8 tyM_ok nmM 3 (by decide) rfl bw_820 rfl hin rfl rfl rfl (Nat.le_of_ble_eq_true rfl) d_M_init_26 (fun H locs hw => ?_)
  have hw : cH t ((h0, .inr (8, [.int 0, .ref q0, .ref q1, .ref q2, .int 0, .null])) :: ([(q0, .inl (t.2.2 1, 2160, .inl fun _ => 0))] ++ [(q1, .inl (t.2.2 1, 20, .inl fun _ => 0))] ++ [(q2, .inl (t.2.2 1, 20, .inl fun _ => 0))])) (cAd h0 s.heap.size) s s.heap H _ := hw
  refine lv_aload_n hx hb d_M_init_29 rfl (lv_at hl 0 rfl) ?_
  refine lv_sipush (v := 1200) hx hb d_M_init_30 (by decide +kernel) ?_
  refine cNewA hx hb hC hw 1 (ty := .int) rfl rfl (fun _ h => h) bw_836 (a0 := (1200, .inl fun _ => 0)) (fun _ => rfl) (by decide) (by decide) (by decide) ⟨by omega, by omega⟩ d_M_init_33 (fun q3 H hw => ?_)
  have hw : cH t ((h0, .inr (8, [.int 0, .ref q0, .ref q1, .ref q2, .int 0, .null])) :: ([(q0, .inl (t.2.2 1, 2160, .inl fun _ => 0))] ++ [(q1, .inl (t.2.2 1, 20, .inl fun _ => 0))] ++ [(q2, .inl (t.2.2 1, 20, .inl fun _ => 0))] ++ [(q3, .inl (t.2.2 1, 1200, .inl fun _ => 0))])) (cAd h0 s.heap.size) s s.heap H _ := hw
  refine cPutF hx hb hC hw (v := .ref q3) rfl in_c8 tyM_ok nmM 5 (by decide) rfl bw_822 rfl hin rfl rfl rfl (Nat.le_of_ble_eq_true rfl) d_M_init_35 (fun H locs hw => ?_)
  have hw : cH t ((h0, .inr (8, [.int 0, .ref q0, .ref q1, .ref q2, .int 0, .ref q3])) :: ([(q0, .inl (t.2.2 1, 2160, .inl fun _ => 0))] ++ [(q1, .inl (t.2.2 1, 20, .inl fun _ => 0))] ++ [(q2, .inl (t.2.2 1, 20, .inl fun _ => 0))] ++ [(q3, .inl (t.2.2 1, 1200, .inl fun _ => 0))])) (cAd h0 s.heap.size) s s.heap H _ := hw
  exact fin (q0, q1, q2, q3) H _ _ ls hw d_M_init_38
