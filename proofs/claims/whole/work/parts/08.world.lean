/-! the world: 97 cells at fixed places; addresses, classes and slots by T -/
abbrev wT : Type := (Nat → Nat) × (Nat → ClassId) × (Nat → Nat → Nat) × (Nat → ClassId)
def wa (T : wT) (k : Nat) : Nat := T.1 k
def wD (T : wT) : va_G := (T.2.1, T.2.2.1)
def wt (T : wT) : List (ClassId × FieldType) := [(T.2.2.2 0, .long), (T.2.2.2 1, .int), (T.2.2.2 2, .byte), (T.2.2.2 3, .object RX6)]
abbrev wFt : Type := Nat → Nat → Int64
abbrev wUt : Type := Nat → Int32
abbrev wIt : Type := Nat → Nat → Int32
abbrev wOt : Type := Nat → Int64
def wE (T : wT) (F : wFt) (U K : wUt) (I : wIt) (O : wOt) (k : Nat) : va_E :=
  if k < 34 then .inr (2, [.ref (wa T (34 + k)), .int (U k)])
  else if k < 68 then .inl (T.2.2.2 0, 75, .inr (.inl (F (k - 34))))
  else if k < 81 then .inr (6, [.ref (wa T (k - 68)), .int (K (k - 68))])
  else if k < 84 then .inr (0, [.ref (wa T (13 + 3 * (k - 81))), .ref (wa T (14 + 3 * (k - 81))), .ref (wa T (15 + 3 * (k - 81)))])
  else if k = 84 then .inr (7, [.ref (wa T 85), .ref (wa T 80), .ref (wa T 86), .ref (wa T 81), .ref (wa T 88), .ref (wa T 89), .ref (wa T 90)])
  else if k = 85 then .inl (T.2.2.2 3, 12, .inr (.inr (.inr (.inr (fun i => some (wa T (68 + i)))))))
  else if k = 86 then .inr (5, [.ref (wa T 87), .int (K 14)])
  else if k = 87 then .inl (T.2.2.2 2, 1200, .inl (I 0))
  else if k = 88 then .inr (4, [.ref (wa T 22), .ref (wa T 23), .ref (wa T 24), .ref (wa T 25)])
  else if k = 89 then .inr (3, [.ref (wa T 26), .ref (wa T 27), .ref (wa T 28), .ref (wa T 82)])
  else if k = 90 then .inr (1, [.ref (wa T 29), .ref (wa T 30), .int (K 13), .ref (wa T 31), .ref (wa T 32), .ref (wa T 33), .ref (wa T 83)])
  else if k = 91 then .inr (8, [.int (K 15), .ref (wa T 92), .ref (wa T 93), .ref (wa T 94), .int (K 16), .ref (wa T 95)])
  else if k = 92 then .inl (T.2.2.2 1, 2160, .inl (I 1))
  else if k = 93 then .inl (T.2.2.2 1, 20, .inl (I 2))
  else if k = 94 then .inl (T.2.2.2 1, 20, .inl (I 3))
  else if k = 95 then .inl (T.2.2.2 1, 1200, .inl (I 4))
  else .inl (T.2.2.2 0, 1, .inr (.inl O))
def wl (T : wT) (F : wFt) (U K : wUt) (I : wIt) (O : wOt) : va_W := (List.range 97).map (fun k => (wa T k, wE T F U K I O k))
def wA (T : wT) : Nat → Prop := fun q => ∃ k, k < 97 ∧ q = wa T k
def wX (T : wT) : Prop := ∀ i j, i < 97 → j < 97 → wa T i = wa T j → i = j
def wd (T : wT) (F : wFt) (U K : wUt) (I : wIt) (O : wOt) (t : State) : Prop := va_P (wD T) clS (wl T F U K I O) t.heap ∧ va_K (wD T) clS (wt T) t ∧ wX T
def wH (T : wT) (F : wFt) (U K : wUt) (I : wIt) (O : wOt) (A : Nat → Prop) (s : State) (H0 H : Heap) (locs : List Loc) : Prop :=
  va_P (wD T) clS (wl T F U K I O) H ∧ va_K (wD T) clS (wt T) s ∧ wX T ∧ va_S A H0 H locs ∧ ∀ k, k < 97 → A (wa T k)
theorem wl_at {T : wT} {F : wFt} {U K : wUt} {I : wIt} {O : wOt} {k : Nat} (hk : k < 97) : (wl T F U K I O)[k]? = some (wa T k, wE T F U K I O k) := by
  unfold wl; rw [List.getElem?_map, List.getElem?_range hk]; rfl
theorem wl_len {T : wT} {F : wFt} {U K : wUt} {I : wIt} {O : wOt} : (wl T F U K I O).length = 97 := by simp [wl]
theorem wl_inv {T : wT} {F : wFt} {U K : wUt} {I : wIt} {O : wOt} {k : Nat} {q : Nat × va_E} (h : (wl T F U K I O)[k]? = some q) : k < 97 ∧ q = (wa T k, wE T F U K I O k) := by
  have hk : k < 97 := by have := (List.getElem?_eq_some_iff.mp h).1; rw [wl_len] at this; exact this
  rw [wl_at hk] at h
  exact ⟨hk, (Option.some.inj h).symm⟩
theorem wl_D {T : wT} {F : wFt} {U K : wUt} {I : wIt} {O : wOt} {A : Nat → Prop} (hX : wX T) (hA : ∀ k, k < 97 → A (wa T k)) : va_D A (wl T F U K I O) := by
  refine ⟨fun i j p q h1 h2 h3 => ?_, fun k q h => ?_⟩
  · obtain ⟨a1, rfl⟩ := wl_inv h1
    obtain ⟨a2, rfl⟩ := wl_inv h2
    exact hX i j a1 a2 h3
  · obtain ⟨a1, rfl⟩ := wl_inv h
    exact hA k a1
theorem wl_set {T : wT} {F F' : wFt} {U K U' K' : wUt} {I I' : wIt} {O O' : wOt} {k : Nat} {en : va_E} (hk : k < 97) (h1 : wE T F' U' K' I' O' k = en) (h2 : ∀ j, j < 97 → j ≠ k → wE T F' U' K' I' O' j = wE T F U K I O j) : (wl T F U K I O).set k (wa T k, en) = wl T F' U' K' I' O' := by
  apply List.ext_getElem?
  intro j
  rw [List.getElem?_set]
  by_cases e : k = j
  · subst e
    rw [if_pos rfl, wl_len, if_pos hk, wl_at hk, h1]
  · rw [if_neg e]
    by_cases hj : j < 97
    · rw [wl_at hj, wl_at hj, h2 j hj (fun q => e q.symm)]
    · rw [List.getElem?_eq_none (by rw [wl_len]; omega), List.getElem?_eq_none (by rw [wl_len]; omega)]
