/-! Euclid -/
/-- what holds of the rests r0, r1 and the factors f0, f1 while Euclid's steps go on from a and b; sg: the factor f0 is below 0 -/
def eInv (a b r0 r1 f0 f1 : Nat) (sg : Bool) : Prop :=
  Nat.gcd r0 r1 = Nat.gcd a b ∧ f0 * r1 + f1 * r0 = a ∧ (0 < r0 ∨ (f0 = 0 ∧ f1 = 1)) ∧
  (∃ u : Int, (r0 : Int) = (if sg then -(f0 : Int) else (f0 : Int)) * b + u * a) ∧ (∃ u : Int, (r1 : Int) = (if sg then (f1 : Int) else -(f1 : Int)) * b + u * a) ∧
  (b ≤ a → f0 ≤ f1 ∧ r1 ≤ r0) ∧ (b = 0 → r1 = 0 ∧ f0 = 0)
theorem eInv_0 (a b : Nat) : eInv a b a b 0 1 true := by
  refine ⟨rfl, by omega, ?_, ⟨1, by simp⟩, ⟨0, by simp⟩, fun h => ⟨by omega, h⟩, fun h => ⟨h, rfl⟩⟩
  by_cases h : 0 < a
  · exact Or.inl h
  · exact Or.inr ⟨rfl, rfl⟩
theorem eInv_s {a b r0 r1 f0 f1 : Nat} {sg : Bool} (h : eInv a b r0 r1 f0 f1 sg) (h1 : 0 < r1) : eInv a b r1 (r0 % r1) f1 (r0 / r1 * f1 + f0) (!sg) := by
  obtain ⟨g1, g2, g3, ⟨u, g4⟩, ⟨w, g5⟩, g6, g7⟩ := h
  have hd := Nat.div_add_mod r0 r1
  have g8 : b ≤ a → f1 ≤ r0 / r1 * f1 + f0 ∧ r0 % r1 ≤ r1 := fun q => by
    have q1 : 1 * f1 ≤ r0 / r1 * f1 := Nat.mul_le_mul_right _ (Nat.div_pos (g6 q).2 h1)
    have q2 := Nat.mod_lt r0 h1
    omega
  generalize r0 / r1 = q at *
  generalize hr2 : r0 % r1 = r2 at *
  have hdI : (r1 : Int) * (q : Int) + (r2 : Int) = (r0 : Int) := by exact_mod_cast hd
  refine ⟨?_, ?_, Or.inl h1, ⟨w, ?_⟩, ⟨u - q * w, ?_⟩, g8, fun q9 => absurd h1 (by have := (g7 q9).1; omega)⟩
  · rw [← g1, ← hr2, Nat.gcd_comm r1, ← Nat.gcd_rec, Nat.gcd_comm]
  · rw [← g2, ← hd]; grind
  · rw [g5]; cases sg <;> simp
  · have e1 : (r2 : Int) = (r0 : Int) - (r1 : Int) * (q : Int) := by omega
    rw [e1, g4, g5]
    have e2 : ((q * f1 + f0 : Nat) : Int) = (q : Int) * f1 + f0 := by push_cast; rfl
    cases sg
    · simp only [Bool.not_false, if_true, Bool.false_eq_true, if_false]; rw [e2]; grind
    · simp only [Bool.not_true, if_true, Bool.false_eq_true, if_false]; rw [e2]; grind
theorem eInv_bd {a b r0 r1 f0 f1 : Nat} {sg : Bool} (h : eInv a b r0 r1 f0 f1 sg) (h1 : 0 < r1) : r0 / r1 * f1 + f0 ≤ a ∧ f0 ≤ a ∧ r0 / r1 * f1 ≤ a := by
  have h2 := (eInv_s h h1).2.1
  have h3 : (r0 / r1 * f1 + f0) * 1 ≤ (r0 / r1 * f1 + f0) * r1 := Nat.mul_le_mul_left _ h1
  have h4 : (r0 / r1 * f1 + f0) * r1 ≤ a := by rw [← h2]; exact Nat.le_add_left _ _
  rw [Nat.mul_one] at h3
  omega
theorem eInv_f1 {a b r0 r1 f0 f1 : Nat} {sg : Bool} (h : eInv a b r0 r1 f0 f1 sg) : f1 ≤ a + 1 := by
  obtain ⟨_, g2, g3, _⟩ := h
  rcases g3 with h | h
  · have h3 : f1 * 1 ≤ f1 * r0 := Nat.mul_le_mul_left _ h
    rw [Nat.mul_one] at h3
    omega
  · omega
/-- two steps halve the greater number -/
theorem half_mod {r0 r1 : Nat} (h1 : 0 < r1) (h : r1 ≤ r0) : 2 * (r0 % r1) < r0 + 1 := by
  have h2 := Nat.mod_lt r0 h1
  have h3 := Nat.div_add_mod r0 r1
  have h4 : 1 ≤ r0 / r1 := Nat.div_pos h h1
  have h5 : r1 * 1 ≤ r1 * (r0 / r1) := Nat.mul_le_mul_left _ h4
  omega

