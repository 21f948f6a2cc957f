/-! Natural: the canonical row of a number; contracts -/
theorem arrV_cong {cI : ClassId} {N : Nat} {f g : Nat → Value} (h : ∀ j, j < N → f j = g j) : arrV cI N f = arrV cI N g := by
  unfold arrV
  congr 1
  apply Array.ext_getElem?
  intro j
  by_cases hj : j < N
  · simp [hj, h j hj]
  · simp [hj]
theorem wH.canon {T : wT} {F : wFt} {U K : wUt} {I : wIt} {O : wOt} {A : Nat → Prop} {s : State} {H0 H : Heap} {locs : List Loc} {x : Nat} {f g : Nat → Int64} (hx : x < 34) (hw : wH T (va_up F x f) U K I O A s H0 H locs) (h : ∀ j, j < 75 → f j = g j) : wH T (va_up F x g) U K I O A s H0 H locs := by
  refine ⟨fun k q hq => ?_, hw.2⟩
  obtain ⟨hk, rfl⟩ := wl_inv hq
  have h1 := hw.1 k _ (wl_at hk)
  by_cases e : k = 34 + x
  · subst e
    rw [we_limbs hx, va_up_self] at h1 ⊢
    have h2 : H[wa T (34 + x)]? = some (vp_cell (T.2.2.2 0) (75, .inr (.inl f))) := h1
    show H[wa T (34 + x)]? = some (vp_cell (T.2.2.2 0) (75, .inr (.inl g)))
    rw [h2, vp_cell_l, vp_cell_l, arrV_cong (fun j hj => by rw [h j hj])]
  · have h3 : wE T (va_up F x g) U K I O k = wE T (va_up F x f) U K I O k := wE_cong (fun _ => rfl) (fun _ _ => by rw [va_up_ne _ _ (by omega), va_up_ne _ _ (by omega)]) (fun _ _ => rfl) (fun _ => rfl) (fun _ => rfl) (fun _ => rfl) (fun _ => ⟨rfl, rfl⟩) (fun _ => rfl) (fun _ => rfl) (fun _ => rfl) (fun _ => rfl) (fun _ => rfl)
    rw [h3]; exact h1
theorem nv_close {f : Nat → Int64} {q v : Nat} (hq : q ≤ 75) (hd : ∀ j, j < q → 0 ≤ nd f j ∧ nd f j < b28) (hz : ∀ j, q ≤ j → j < 75 → f j = 0) (ht : 0 < q → f (q - 1) ≠ 0) (hv : lm_ev b28 (nd f) q = (v : Int)) : v < vLim ∧ kD v = q ∧ (∀ j, j < 75 → f j = fD v j) := by
  have h1 : v < vB ^ q := fD_lt hd hv
  have hl : v < vLim := Nat.lt_of_lt_of_le h1 (vB_le hq)
  have h2 : kD v = q := by
    refine kD_eq h1 (fun hp => ?_) hq
    obtain ⟨r, rfl⟩ : ∃ r, q = r + 1 := ⟨q - 1, by omega⟩
    have h3 : nd f r ≠ 0 := fun h => ht hp (lj_inj (by rw [lj_0]; exact h))
    have h4 := hd r (by omega)
    have h5 := lm_top b28_pos (f := nd f) (n := r) (fun j hj => (hd j (by omega)).1) (by omega)
    rw [hv, ← vB_c, ← Int.natCast_pow] at h5
    exact Int.ofNat_le.mp h5
  refine ⟨hl, h2, fun j hj => ?_⟩
  by_cases e : j < q
  · exact fD_uniq hd hv e
  · rw [hz j (by omega) hj, fD_zero hl (by omega)]
theorem va_upx {α : Type} (f : Nat → α) (x : Nat) : va_up f x (f x) = f := funext fun j => by
  by_cases h : j = x
  · rw [h, va_up_self]
  · rw [va_up_ne _ _ h]

set_option maxRecDepth 100000 in
set_option maxHeartbeats 4000000 in
theorem k_N_settle (l : Launch) (T : wT) (F : wFt) (U K : wUt) (I : wIt) (O : wOt) (x k0 en v : Nat) (hi : x < 34) (hU : U x = nI k0) (hk : k0 ≤ 75) (he : en ≤ 75) (hd : ∀ j, j < en → 0 ≤ nd (F x) j ∧ nd (F x) j < b28) (hz : ∀ j, en ≤ j → k0 ≤ j → j < 75 → F x j = 0) (hv : lm_ev b28 (nd (F x)) en = (v : Int)) : Met l y_N_settle (.code y_N_settle c_N_settle 3 none :: bg) ({ frames := 0, cells := 0, slots := 0, locals := 0 } : Room) (mP T F U K I O [.ref (wa T x), .int (nI en)]) (mQv T (va_up F x (fD v)) (va_up U x (uD v)) K I O) 0 0 (wA T) := by
  refine wM_v (by decide) (Nat.le_of_ble_eq_true rfl) ?_
  intro p e R s m args below meth c Q ls hx hb hC hRf hRl hret hl hw
  have hRf : 0 ≤ R.frames := hRf
  have hRl : 0 ≤ R.locals := hRl
  have hl : lv_has ls 3 [(0, .ref (wa T x)), (1, .int (nI en))] := hl
  refine lv_iload_n hx hb d_N_settle_0 rfl (lv_at hl 1 rfl) ?_
  refine lv_istore_n hx hb d_N_settle_1 rfl hl (by decide) rfl (fun ls hl => ?_)
  have hl : lv_has ls 3 [(2, .int (nI en)), (0, .ref (wa T x)), (1, .int (nI en))] := hl
  rw [← va_upx F x] at hw
  have lp1 : ∀ (n i : Nat) (f : Nat → Int64) (ls : Array Slot) (H : Heap) (locs : List Loc), k0 - i = n → en ≤ i → i ≤ 75 → (∀ j, j < en → f j = F x j) → (∀ j, en ≤ j → (j < i ∨ k0 ≤ j) → j < 75 → f j = 0) → lv_has ls 3 [(2, .int (nI i)), (0, .ref (wa T x)), (1, .int (nI en))] → wH T (va_up F x f) U K I O (wA T) s s.heap H locs → W p l e R s m args below meth c H locs 0 0 Q (F0 m 2 ls []) := by
    intro n
    induction n with
    | zero =>
      intro i f ls H locs hn hei hi75 h1 h2 hl hw
      refine lv_iload_n hx hb d_N_settle_2 rfl (lv_at hl 0 rfl) ?_
      refine lv_aload_n hx hb d_N_settle_3 rfl (lv_at hl 1 rfl) ?_
      refine wg_Natural_used hx hb hC hw (by omega) bw_45 d_N_settle_4 ?_
      refine sw_i (y := nI k0) (hU) ?_
      refine n_icmp_ge (tgt := 23) hx hb d_N_settle_7 (by decide) (by omega) (by omega) (fun h => ?_) (fun h => ?_)
      · have hz2 : ∀ j, en ≤ j → j < 75 → f j = 0 := fun j a b => h2 j a (by omega) b
        refine lv_aload_n hx hb d_N_settle_23 rfl (lv_at hl 1 rfl) ?_
        refine lv_iload_n hx hb d_N_settle_24 rfl (lv_at hl 2 rfl) ?_
        refine wp_Natural_used hx hb hC hw (by omega) bw_45 d_N_settle_25 (fun H locs hw => ?_)
        have hw : wH T (va_up F x f) (va_up U x (nI en)) K I O (wA T) s s.heap H locs := hw
        have hd2 : ∀ j, j < en → 0 ≤ nd f j ∧ nd f j < b28 := fun j hj => by have := hd j hj; unfold nd at *; rw [h1 j hj]; exact this
        have hv2 : lm_ev b28 (nd f) en = (v : Int) := by rw [← hv]; exact lm_congr (fun j hj => by unfold nd; rw [h1 j hj])
        have lp2 : ∀ (q : Nat) (ls : Array Slot) (H : Heap) (locs : List Loc), q ≤ en → (∀ j, q ≤ j → j < 75 → f j = 0) → lm_ev b28 (nd f) q = (v : Int) → lv_has ls 3 [(2, .int (nI i)), (0, .ref (wa T x)), (1, .int (nI en))] → wH T (va_up F x f) (va_up U x (nI q)) K I O (wA T) s s.heap H locs → W p l e R s m args below meth c H locs 0 0 Q (F0 m 28 ls []) := by
          intro q
          induction q with
          | zero =>
            intro ls H locs hq hz3 hv3 hl hw
            refine lv_aload_n hx hb d_N_settle_28 rfl (lv_at hl 1 rfl) ?_
            refine wg_Natural_used hx hb hC hw (by omega) bw_45 d_N_settle_29 ?_
            refine sw_i (y := nI 0) (by rw [va_up_self]) ?_
            refine n_if_le (tgt := 64) hx hb d_N_settle_32 (by decide) (by omega) (fun h9 => ?_) (fun h9 => ?_)
            · obtain ⟨_, c2, c3⟩ := nv_close (f := f) (q := 0) (by omega) (fun j hj => hd2 j (by omega)) hz3 (fun h => absurd h (by omega)) hv3
              have hw := wH.canon (by omega) hw c3
              unfold uD at hret; rw [c2] at hret
              exact hret _ _ _ _ hw d_N_settle_64
            · exact absurd h9 (by omega)
          | succ q ih =>
            intro ls H locs hq hz3 hv3 hl hw
            refine lv_aload_n hx hb d_N_settle_28 rfl (lv_at hl 1 rfl) ?_
            refine wg_Natural_used hx hb hC hw (by omega) bw_45 d_N_settle_29 ?_
            refine sw_i (y := nI (q + 1)) (by rw [va_up_self]) ?_
            refine n_if_le (tgt := 64) hx hb d_N_settle_32 (by decide) (by omega) (fun h9 => ?_) (fun h9 => ?_)
            · exact absurd h9 (by omega)
            · refine lv_aload_n hx hb d_N_settle_35 rfl (lv_at hl 1 rfl) ?_
              refine wg_Natural_limbs hx hb hC hw (by omega) bw_43 d_N_settle_36 ?_
              refine lv_aload_n hx hb d_N_settle_39 rfl (lv_at hl 1 rfl) ?_
              refine wg_Natural_used hx hb hC hw (by omega) bw_45 d_N_settle_40 ?_
              refine sw_i (y := nI (q + 1)) (by rw [va_up_self]) ?_
              refine lv_iconst (v := nI 1) hx hb d_N_settle_43 (by decide +kernel) ?_
              refine n_isub hx hb d_N_settle_44 (by omega) ?_
              refine wl_limbs hx hb hw (by omega) (by omega) d_N_settle_45 ?_
              refine lv_lconst (v := 0) hx hb d_N_settle_46 (by decide +kernel) ?_
              refine lc_ne (tgt := 64) hx hb d_N_settle_47 d_N_settle_48 (by decide) (fun h8 => ?_) (fun h8 => ?_)
              · rw [va_up_self, show q + 1 - 1 = q from rfl, lj_0] at h8
                obtain ⟨_, c2, c3⟩ := nv_close (f := f) (q := q + 1) (by omega) (fun j hj => hd2 j (by omega)) hz3 (fun _ h => h8 (by rw [show q + 1 - 1 = q from rfl] at h; rw [h]; exact lj_0)) hv3
                have hw := wH.canon (by omega) hw c3
                unfold uD at hret; rw [c2] at hret
                exact hret _ _ _ _ hw d_N_settle_64
              · rw [va_up_self, show q + 1 - 1 = q from rfl, lj_0] at h8
                refine lv_aload_n hx hb d_N_settle_51 rfl (lv_at hl 1 rfl) ?_
                refine lv_dup hx hb d_N_settle_52 rfl ?_
                refine wg_Natural_used hx hb hC hw (by omega) bw_45 d_N_settle_53 ?_
                refine sw_i (y := nI (q + 1)) (by rw [va_up_self]) ?_
                refine lv_iconst (v := nI 1) hx hb d_N_settle_56 (by decide +kernel) ?_
                refine n_isub hx hb d_N_settle_57 (by omega) ?_
                refine wp_Natural_used hx hb hC hw (by omega) bw_45 d_N_settle_58 (fun H locs hw => ?_)
                refine lv_goto (tgt := 28) hx hb d_N_settle_61 (by decide) ?_
                rw [bx_uu] at hw
                have hf0 : f q = 0 := lj_inj (by rw [h8, lj_0])
                refine ih ls H locs (by omega) (fun j a b => ?_) ?_ hl hw
                · by_cases ej : j = q
                  · rw [ej]; exact hf0
                  · exact hz3 j (by omega) b
                · rw [← hv3, lm_evs, nd_0 hf0]; omega
        exact lp2 en ls H locs (Nat.le_refl en) hz2 hv2 hl hw
      · exact absurd h (by omega)
    | succ n ih =>
      intro i f ls H locs hn hei hi75 h1 h2 hl hw
      refine lv_iload_n hx hb d_N_settle_2 rfl (lv_at hl 0 rfl) ?_
      refine lv_aload_n hx hb d_N_settle_3 rfl (lv_at hl 1 rfl) ?_
      refine wg_Natural_used hx hb hC hw (by omega) bw_45 d_N_settle_4 ?_
      refine sw_i (y := nI k0) (hU) ?_
      refine n_icmp_ge (tgt := 23) hx hb d_N_settle_7 (by decide) (by omega) (by omega) (fun h => ?_) (fun h => ?_)
      · exact absurd h (by omega)
      · refine lv_aload_n hx hb d_N_settle_10 rfl (lv_at hl 1 rfl) ?_
        refine wg_Natural_limbs hx hb hC hw (by omega) bw_43 d_N_settle_11 ?_
        refine lv_iload_n hx hb d_N_settle_14 rfl (lv_at hl 0 rfl) ?_
        refine lv_lconst (v := 0) hx hb d_N_settle_15 (by decide +kernel) ?_
        refine ws_limbs hx hb hw (by omega) (by omega) d_N_settle_16 (fun H locs hw => ?_)
        refine lv_iinc (v := nI (i + 1)) hx hb d_N_settle_17 hl (k := 0) rfl (nI_add _ 1) (by decide) rfl (fun ls hl => ?_)
        have hl : lv_has ls 3 [(2, .int (nI (i + 1))), (0, .ref (wa T x)), (1, .int (nI en))] := hl
        refine lv_goto (tgt := 2) hx hb d_N_settle_20 (by decide) ?_
        rw [bx_uu, va_up_self] at hw
        refine ih (i + 1) _ ls H locs (by omega) (by omega) (by omega) (fun j hj => ?_) (fun j a1 a2 a3 => ?_) hl hw
        · rw [pk_uLn (by omega)]; exact h1 j hj
        · by_cases ej : j = i
          · rw [ej, pk_uLs]
          · rw [pk_uLn ej]; exact h2 j a1 (by omega) a3
  exact lp1 (k0 - en) en (F x) ls _ _ rfl (Nat.le_refl en) he (fun _ _ => rfl) (fun j a1 a2 a3 => hz j a1 (by omega) a3) hl hw
