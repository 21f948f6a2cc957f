/-! Text: characters, numerals -/
def arC (N n : Nat) : Bool := (List.range n).all (fun i => decide (32 ≤ N / 2 ^ (8 * i) % 256) && decide (N / 2 ^ (8 * i) % 256 ≤ 126))
theorem arC_t {N n : Nat} (h : ∀ i, i < n → 32 ≤ N / 2 ^ (8 * i) % 256 ∧ N / 2 ^ (8 * i) % 256 ≤ 126) : arC N n = true := by
  unfold arC; rw [List.all_eq_true]; intro i hi
  have := h i (List.mem_range.mp hi)
  simp [this]
theorem arC_f {N n i : Nat} (hi : i < n) (h : ¬ (32 ≤ N / 2 ^ (8 * i) % 256 ∧ N / 2 ^ (8 * i) % 256 ≤ 126)) : arC N n = false := by
  apply Bool.eq_false_iff.mpr; intro q
  unfold arC at q; rw [List.all_eq_true] at q
  have := q i (List.mem_range.mpr hi)
  simp only [Bool.and_eq_true, decide_eq_true_eq] at this
  exact h this
/-- n codes of a long, the highest first, stand from k on -/
def apT (tx : Nat → Nat) (k N n : Nat) : Nat → Nat := fun i => if k ≤ i ∧ i < k + n then N / 2 ^ (8 * (n - 1 - (i - k))) % 256 else tx i
def rvT (tx : Nat → Nat) (n : Nat) : Nat → Nat := fun i => if i < n then tx (n - 1 - i) else tx i
def nmB (tx : Nat → Nat) (n b : Nat) : Bool := decide (sgN n tx < n) && (List.range n).all (fun i => decide (i < sgN n tx) || decide (dgN (tx i) < b))
theorem nmB_t {tx : Nat → Nat} {n b : Nat} (h0 : sgN n tx < n) (h : ∀ i, i < n → sgN n tx ≤ i → dgN (tx i) < b) : nmB tx n b = true := by
  unfold nmB; rw [Bool.and_eq_true, List.all_eq_true]
  refine ⟨decide_eq_true h0, fun i hi => ?_⟩
  rw [Bool.or_eq_true, decide_eq_true_eq, decide_eq_true_eq]
  have := h i (List.mem_range.mp hi)
  omega
theorem nmB_f0 {tx : Nat → Nat} {n b : Nat} (h0 : ¬ sgN n tx < n) : nmB tx n b = false := by unfold nmB; rw [decide_eq_false h0]; rfl
theorem nmB_f {tx : Nat → Nat} {n b i : Nat} (hi : i < n) (h1 : sgN n tx ≤ i) (h : ¬ dgN (tx i) < b) : nmB tx n b = false := by
  apply Bool.eq_false_iff.mpr; intro q
  unfold nmB at q; rw [Bool.and_eq_true, List.all_eq_true] at q
  have := q.2 i (List.mem_range.mpr hi)
  rw [Bool.or_eq_true, decide_eq_true_eq, decide_eq_true_eq] at this
  omega
theorem dgN_le (c : Nat) : dgN c < 36 ∨ dgN c = 99 := by unfold dgN; (repeat' split) <;> omega
theorem dgI_neg {c : Nat} (h : dgI c = -1) : dgN c = 99 := by
  unfold dgI at h
  by_cases e : dgN c = 99
  · exact e
  · rw [if_neg e] at h
    have h1 := dgN_le c
    exact absurd h ((show ∀ d, d < 36 → nI d ≠ -1 by decide +kernel) _ (by omega))
theorem dgI_pos {c : Nat} (h : ¬ dgI c = -1) : dgI c = nI (dgN c) ∧ dgN c < 36 := by
  unfold dgI at h ⊢
  by_cases e : dgN c = 99
  · rw [if_pos e] at h; exact absurd rfl h
  · have h1 := dgN_le c
    rw [if_neg e]; exact ⟨rfl, by omega⟩

set_option maxRecDepth 100000 in
set_option maxHeartbeats 4000000 in
theorem k_T_areCharacters (l : Launch) (T : wT) (F : wFt) (U K : wUt) (I : wIt) (O : wOt) (N n9 : Nat) (hN : N < 2 ^ 64) (hn9 : n9 ≤ 8) : Met l y_T_areCharacters (.code y_T_areCharacters c_T_areCharacters 5 (some .boolean) :: bg) ({ frames := 1, cells := 0, slots := 0, locals := 22 } : Room) (mP T F U K I O [.long (lN N), .int (nI n9)]) (mQi T (bI (arC N n9)) F U K I O) 0 0 (wA T) := by
  refine wM_z (by decide) (Nat.le_of_ble_eq_true rfl) (zbI _) ?_
  intro p e R s m args below meth c Q ls hx hb hC hRf hRl hret hl hw
  have hRf : 1 ≤ R.frames := hRf
  have hRl : 22 ≤ R.locals := hRl
  have hl : lv_has ls 5 [(0, .long (lN N)), (2, .int (nI n9))] := hl
  refine lv_iconst (v := nI 0) hx hb d_T_areCharacters_0 (by decide +kernel) ?_
  refine lv_istore_n hx hb d_T_areCharacters_1 rfl hl (by decide) rfl (fun ls hl => ?_)
  have hl : lv_has ls 5 [(3, .int (nI 0)), (0, .long (lN N)), (2, .int (nI n9))] := hl
  have hL : ∀ (z9 i : Nat)  (ls : Array Slot) (H : Heap) (locs : List Loc), n9 - i = z9 → i ≤ n9 → (∀ j, j < i → 32 ≤ N / 2 ^ (8 * j) % 256 ∧ N / 2 ^ (8 * j) % 256 ≤ 126) →  lv_has ls 5 [(3, .int (nI i)), (0, .long (lN N)), (2, .int (nI n9))] → wH T F U K I O (wA T) s s.heap H locs → W p l e R s m args below meth c H locs 0 0 Q (F0 m 2 ls []) := by
    intro z9
    induction z9 with
    | zero =>
      intro i  ls H locs hn hle h1 hl hw
      refine lv_iload_n hx hb d_T_areCharacters_2 rfl (lv_at hl 0 rfl) ?_
      refine lv_iload_n hx hb d_T_areCharacters_3 rfl (lv_at hl 2 rfl) ?_
      refine n_icmp_ge (tgt := 36) hx hb d_T_areCharacters_4 (by decide) (by omega) (by omega) (fun h0 => ?_) (fun h0 => ?_)
      · have e9 : n9 = i := by omega
        refine lv_iconst (v := nI 1) hx hb d_T_areCharacters_36 (by decide +kernel) ?_
        refine sw_i (y := bI (arC N n9)) (by rw [arC_t (fun j hj => h1 j (by omega))]; rfl) ?_
        exact hret _ _ _ _ hw d_T_areCharacters_37
      · exact absurd h0 (by omega)
    | succ z9 ih =>
      intro i  ls H locs hn hle h1 hl hw
      refine lv_iload_n hx hb d_T_areCharacters_2 rfl (lv_at hl 0 rfl) ?_
      refine lv_iload_n hx hb d_T_areCharacters_3 rfl (lv_at hl 2 rfl) ?_
      refine n_icmp_ge (tgt := 36) hx hb d_T_areCharacters_4 (by decide) (by omega) (by omega) (fun h0 => ?_) (fun h0 => ?_)
      · exact absurd h0 (by omega)
      · refine lv_lload_n hx hb d_T_areCharacters_7 rfl (lv_at hl 1 rfl) ?_
        refine lv_iload_n hx hb d_T_areCharacters_8 rfl (lv_at hl 0 rfl) ?_
        refine wcS_i (As := [.long (lN N), .int (nI i)]) hx hb hC hw (k_T_codeIn l T F U K I O N i hN (by omega)) lk_T_19 rfl rfl ⟨by show 0 + 1 ≤ R.frames; omega, by show 8 + (3 + 11) + 0 ≤ R.locals; omega⟩ rfl hl.1 rfl (Nat.le_of_ble_eq_true rfl) ⟨Nat.zero_le _, Nat.zero_le _⟩ d_T_areCharacters_9 (fun H locs hw => ?_)
        have hq : N / 2 ^ (8 * i) % 256 < 256 := Nat.mod_lt _ (by decide)
        refine lv_istore hx hb d_T_areCharacters_12 hl (by decide) rfl (fun ls hl => ?_)
        have hl : lv_has ls 5 [(4, .int (nI (N / 2 ^ (8 * i) % 256))), (3, .int (nI i)), (0, .long (lN N)), (2, .int (nI n9))] := hl
        refine lv_iload hx hb d_T_areCharacters_14 (lv_at hl 0 rfl) ?_
        refine lv_bipush (v := nI 32) hx hb d_T_areCharacters_16 (by decide +kernel) ?_
        refine n_icmp_lt (tgt := 28) hx hb d_T_areCharacters_18 (by decide) (by omega) (by omega) (fun h3 => ?_) (fun h3 => ?_)
        · refine lv_iconst (v := nI 0) hx hb d_T_areCharacters_28 (by decide +kernel) ?_
          refine sw_i (y := bI (arC N n9)) (by rw [arC_f (i := i) (by omega) (by omega)]; rfl) ?_
          exact hret _ _ _ _ hw d_T_areCharacters_29
        · refine lv_iload hx hb d_T_areCharacters_21 (lv_at hl 0 rfl) ?_
          refine lv_bipush (v := nI 126) hx hb d_T_areCharacters_23 (by decide +kernel) ?_
          refine n_icmp_le (tgt := 30) hx hb d_T_areCharacters_25 (by decide) (by omega) (by omega) (fun h4 => ?_) (fun h4 => ?_)
          · refine lv_iinc (v := nI (i + 1)) hx hb d_T_areCharacters_30 hl (k := 1) rfl (nI_add _ 1) (by decide) rfl (fun ls hl => ?_)
            have hl : lv_has ls 5 [(3, .int (nI (i + 1))), (4, .int (nI (N / 2 ^ (8 * i) % 256))), (0, .long (lN N)), (2, .int (nI n9))] := hl
            refine lv_goto (tgt := 2) hx hb d_T_areCharacters_33 (by decide) ?_
            have hl := lv_sub hl [0, 2, 3] rfl
            have hl : lv_has ls 5 [(3, .int (nI (i + 1))), (0, .long (lN N)), (2, .int (nI n9))] := hl
            exact ih (i + 1) ls H locs (by omega) (by omega) (fun j hj => by by_cases ej : j = i; exact ej ▸ (by omega); exact h1 j (by omega)) hl hw
          · refine lv_iconst (v := nI 0) hx hb d_T_areCharacters_28 (by decide +kernel) ?_
            refine sw_i (y := bI (arC N n9)) (by rw [arC_f (i := i) (by omega) (by omega)]; rfl) ?_
            exact hret _ _ _ _ hw d_T_areCharacters_29
  exact hL _ 0 ls s.heap [] rfl (by omega) (fun j hj => absurd hj (by omega)) hl hw
set_option maxRecDepth 100000 in
set_option maxHeartbeats 4000000 in
theorem k_T_appendAll (l : Launch) (T : wT) (F : wFt) (U K : wUt) (I : wIt) (O : wOt) (N n k9 : Nat) (tx : Nat → Nat) (hN : N < 2 ^ 64) (hc9 : ∀ j, j < n → N / 2 ^ (8 * j) % 256 < 128) (hn9 : n ≤ 8) (hk9 : k9 + n ≤ 1200) (hK : K 14 = nI k9) (hI : I 0 = tI tx) : Met l y_T_appendAll (.code y_T_appendAll c_T_appendAll 5 none :: bg) ({ frames := 1, cells := 0, slots := 0, locals := 22 } : Room) (mP T F U K I O [.ref (wa T 86), .long (lN N), .int (nI n)]) (mQv T F U (va_up K 14 (nI (k9 + n))) (va_up I 0 (tI (apT tx k9 N n))) O) 0 0 (wA T) := by
  refine wM_v (by decide) (Nat.le_of_ble_eq_true rfl) ?_
  intro p e R s m args below meth c Q ls hx hb hC hRf hRl hret hl hw
  have hRf : 1 ≤ R.frames := hRf
  have hRl : 22 ≤ R.locals := hRl
  have hl : lv_has ls 5 [(0, .ref (wa T 86)), (1, .long (lN N)), (3, .int (nI n))] := hl
  refine lv_iload_n hx hb d_T_appendAll_0 rfl (lv_at hl 2 rfl) ?_
  refine lv_iconst (v := nI 1) hx hb d_T_appendAll_1 (by decide +kernel) ?_
  refine lv_isub hx hb d_T_appendAll_2 ?_
  refine lv_istore hx hb d_T_appendAll_3 hl (by decide) rfl (fun ls hl => ?_)
  have hl : lv_has ls 5 [(4, .int (nI n - 1)), (0, .ref (wa T 86)), (1, .long (lN N)), (3, .int (nI n))] := hl
  have hw : wH T F U (va_up K 14 (nI k9)) (va_up I 0 (tI tx)) O (wA T) s s.heap s.heap [] := by rw [← hK, va_upx, ← hI, va_upx]; exact hw
  have hL : ∀ (q : Nat) (cn : Nat) (t1 : Nat → Nat) (ls : Array Slot) (H : Heap) (locs : List Loc), (cn + q = k9 + n) → (∀ i, t1 i = if k9 ≤ i ∧ i < cn then N / 2 ^ (8 * (n - 1 - (i - k9))) % 256 else tx i) → (q ≤ n) →  lv_has ls 5 [(4, .int (nI q - 1)), (0, .ref (wa T 86)), (1, .long (lN N)), (3, .int (nI n))] → wH T F U (va_up K 14 (nI cn)) (va_up I 0 (tI t1)) O (wA T) s s.heap H locs → W p l e R s m args below meth c H locs 0 0 Q (F0 m 5 ls []) := by
    intro q
    induction q with
    | zero =>
      intro cn t1 ls H locs h1 h2 h3 hl hw
      refine lv_iload hx hb d_T_appendAll_5 (lv_at hl 0 rfl) ?_
      refine d_if_lt (tgt := 26) hx hb d_T_appendAll_7 (by decide) (by omega) (fun h0 => ?_) (fun h0 => ?_)
      · have e1 : t1 = apT tx k9 N n := by funext i; rw [h2 i]; unfold apT; split <;> split <;> first | rfl | omega
        have e2 : cn = k9 + n := by omega
        rw [e1, e2] at hw
        exact hret _ _ _ _ hw d_T_appendAll_26
      · exact absurd h0 (by omega)
    | succ r ih =>
      intro cn t1 ls H locs h1 h2 h3 hl hw
      rw [nI_pred] at hl
      have hl : lv_has ls 5 [(4, .int (nI r)), (0, .ref (wa T 86)), (1, .long (lN N)), (3, .int (nI n))] := hl
      refine lv_iload hx hb d_T_appendAll_5 (lv_at hl 0 rfl) ?_
      refine n_if_lt hx hb d_T_appendAll_7 (by decide) (by omega) ?_
      refine lv_aload_n hx hb d_T_appendAll_10 rfl (lv_at hl 1 rfl) ?_
      refine lv_lload_n hx hb d_T_appendAll_11 rfl (lv_at hl 2 rfl) ?_
      refine lv_iload hx hb d_T_appendAll_12 (lv_at hl 0 rfl) ?_
      refine wcS_i (As := [.long (lN N), .int (nI r)]) hx hb hC hw (k_T_codeIn l T F U (va_up K 14 (nI cn)) (va_up I 0 (tI t1)) O N r hN (by omega)) lk_T_19 rfl rfl ⟨by show 0 + 1 ≤ R.frames; omega, by show 8 + (3 + 11) + 0 ≤ R.locals; omega⟩ rfl hl.1 rfl (Nat.le_of_ble_eq_true rfl) ⟨Nat.zero_le _, Nat.zero_le _⟩ d_T_appendAll_14 (fun H locs hw => ?_)
      refine wcV_v (As := [.int (nI (N / 2 ^ (8 * r) % 256))]) hx hb hC hw (k_T_append l T F U (va_up K 14 (nI cn)) (va_up I 0 (tI t1)) O cn (N / 2 ^ (8 * r) % 256) t1 (by omega) (hc9 r (by omega)) (va_up_self _ _ _) (va_up_self _ _ _)) lk_T_23 rfl rfl ⟨by show 0 + 1 ≤ R.frames; omega, by show 8 + (2 + 11) + 0 ≤ R.locals; omega⟩ (by omega) (we_Text ) rfl rfl hl.1 rfl (Nat.le_of_ble_eq_true rfl) ⟨Nat.zero_le _, Nat.zero_le _⟩ d_T_appendAll_17 (fun H locs hw => ?_)
      rw [bx_uu, bx_uu] at hw
      refine lv_iinc (v := (nI r - 1)) hx hb d_T_appendAll_20 hl (k := 0) rfl (i32_m1 _) (by decide) rfl (fun ls hl => ?_)
      have hl : lv_has ls 5 [(4, .int (nI r - 1)), (0, .ref (wa T 86)), (1, .long (lN N)), (3, .int (nI n))] := hl
      refine lv_goto (tgt := 5) hx hb d_T_appendAll_23 (by decide) ?_
      exact ih (cn + 1) (tU t1 cn (N / 2 ^ (8 * r) % 256)) ls H locs (by omega) (fun i => by
        unfold tU
        by_cases e : i = cn
        · rw [if_pos e, if_pos (by omega), show n - 1 - (i - k9) = r by omega]
        · rw [if_neg e, h2 i]; split <;> split <;> first | rfl | omega) (by omega) hl hw
  exact hL n k9 tx ls s.heap [] rfl (fun i => by rw [if_neg (by omega)]) (by omega) hl hw
