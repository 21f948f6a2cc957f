/-! the model: a digit put into a number; products and differences of multiples -/
def sD (v p x : Nat) : Nat := v % b20 ^ p + b20 ^ p * (x + b20 * (v / b20 ^ (p + 1)))
theorem dg_low {lo y p j : Nat} (hj : j < p) : dg (lo + b20 ^ p * y) j = dg lo j := by
  unfold dg
  have e : b20 ^ p = b20 ^ j * (b20 * b20 ^ (p - j - 1)) := by
    rw [← Nat.pow_succ', ← Nat.pow_add]; congr 1; omega
  rw [e, Nat.mul_assoc, Nat.add_mul_div_left _ _ (b20_pp j), Nat.mul_assoc, Nat.add_mul_mod_self_left]
theorem dg_high {lo y p j : Nat} (hl : lo < b20 ^ p) : dg (lo + b20 ^ p * y) (p + j) = dg y j := by
  unfold dg
  rw [Nat.pow_add, ← Nat.div_div_eq_div_mul, Nat.add_mul_div_left _ _ (b20_pp p), Nat.div_eq_of_lt hl, Nat.zero_add]
theorem dg_c0 {x y : Nat} (hx : x < 1048576) : dg (x + b20 * y) 0 = x := by
  unfold dg; rw [Nat.pow_zero, Nat.div_one, Nat.add_mul_mod_self_left]; exact Nat.mod_eq_of_lt hx
theorem dg_cs {x y j : Nat} (hx : x < 1048576) : dg (x + b20 * y) (j + 1) = dg y j := by
  have := dg_high (lo := x) (y := y) (p := 1) (j := j) (by rw [Nat.pow_one]; exact hx)
  rw [Nat.pow_one, Nat.add_comm 1 j] at this; exact this
theorem dg_mod {v p j : Nat} (hj : j < p) : dg (v % b20 ^ p) j = dg v j := by
  conv => rhs; rw [← Nat.mod_add_div v (b20 ^ p)]
  exact (dg_low hj).symm
theorem dg_div (v p j : Nat) : dg (v / b20 ^ p) j = dg v (p + j) := by
  unfold dg; rw [Nat.div_div_eq_div_mul, ← Nat.pow_add]
theorem dg_sD {v p x : Nat} (hx : x < 1048576) : va_up (dg v) p x = dg (sD v p x) := by
  funext j
  rw [va_va]; unfold sD
  by_cases h : j = p
  · subst h; rw [if_pos rfl]
    exact ((dg_high (j := 0) (Nat.mod_lt _ (b20_pp j))).trans (dg_c0 hx)).symm
  · rw [if_neg h]
    by_cases h2 : j < p
    · rw [dg_low h2, dg_mod h2]
    · obtain ⟨k, rfl⟩ : ∃ k, j = p + (k + 1) := ⟨j - p - 1, by omega⟩
      rw [dg_high (Nat.mod_lt _ (b20_pp p)), dg_cs hx, dg_div]; congr 1; omega
/-- what putting a digit does to the number -/
theorem sD_eq (v p x : Nat) : sD v p x + dg v p * b20 ^ p = v + x * b20 ^ p := by
  unfold sD
  have h1 := Nat.mod_add_div v (b20 ^ p)
  have h2 := dv_s v p
  rw [h2] at h1
  have e : b20 ^ p * (x + b20 * (v / b20 ^ (p + 1))) = x * b20 ^ p + b20 ^ p * (v / b20 ^ (p + 1) * 1048576) := by
    rw [Nat.mul_add, Nat.mul_comm _ x, Nat.mul_comm b20]; rfl
  rw [e]
  rw [Nat.mul_add, Nat.mul_comm (b20 ^ p) (dg v p)] at h1
  omega
theorem sD_lt {v p x N : Nat} (hx : x < 1048576) (hp : p < N) (hv : v < b20 ^ N) : sD v p x < b20 ^ N := by
  unfold sD
  obtain ⟨k, rfl⟩ : ∃ k, N = p + 1 + k := ⟨N - p - 1, by omega⟩
  have h1 : v / b20 ^ (p + 1) < b20 ^ k := Nat.div_lt_of_lt_mul (by rw [← Nat.pow_add]; exact hv)
  have h2 : x + b20 * (v / b20 ^ (p + 1)) < b20 * b20 ^ k := by
    have : b20 * (v / b20 ^ (p + 1) + 1) ≤ b20 * b20 ^ k := Nat.mul_le_mul_left _ h1
    have e : b20 * (v / b20 ^ (p + 1) + 1) = b20 * (v / b20 ^ (p + 1)) + 1048576 := by rw [Nat.mul_add]; rfl
    omega
  have h3 := Nat.mod_lt v (b20_pp p)
  have h4 : b20 ^ p * (x + b20 * (v / b20 ^ (p + 1)) + 1) ≤ b20 ^ p * (b20 * b20 ^ k) := Nat.mul_le_mul_left _ h2
  rw [Nat.mul_succ] at h4
  have e2 : b20 ^ (p + 1 + k) = b20 ^ p * (b20 * b20 ^ k) := by rw [Nat.pow_add, Nat.pow_succ, Nat.mul_assoc]
  omega
theorem dg_z {v p : Nat} (h : v < b20 ^ p) : dg v p = 0 := by unfold dg; rw [Nat.div_eq_of_lt h]; rfl
theorem dgm_sD {M : Nat → Nat} {s p x : Nat} (hx : x < 1048576) : va_up (dgm M) s (va_up (dgm M s) p x) = dgm (va_up M s (sD (M s) p x)) := by
  rw [show dgm M s = dg (M s) from rfl, dg_sD hx, dgm_up]
/-- a step of the product's inner loop -/
theorem tm_step {W c X Q d y t p : Nat} (h : W + c * b20 ^ p = Q + X) (ht : t = dg W p + d * y + c) (hp : t / 1048576 < 1048576) : sD W p (t % 1048576) + t / 1048576 * b20 ^ (p + 1) = Q + (X + d * y * b20 ^ p) := by
  have h1 := sD_eq W p (t % 1048576)
  have h2 : t * b20 ^ p = t % 1048576 * b20 ^ p + t / 1048576 * b20 ^ (p + 1) := by
    rw [Nat.pow_succ, Nat.mul_comm (b20 ^ p) b20, ← Nat.mul_assoc, ← Nat.add_mul]
    congr 1
    have := Nat.mod_add_div t 1048576
    show t = t % 1048576 + t / 1048576 * 1048576
    omega
  rw [ht] at h2
  rw [Nat.add_mul, Nat.add_mul] at h2
  rw [← ht] at h2
  omega
theorem tm_bd {u d y c : Nat} (hu : u < 1048576) (hd : d < 1048576) (hy : y < 1048576) (hc : c < 1048576) : u + d * y + c < 1099511627776 ∧ (u + d * y + c) / 1048576 < 1048576 := by
  have h : d * y ≤ 1048575 * 1048575 := Nat.mul_le_mul (by omega) (by omega)
  omega
/-- a step of taking a multiple away -/
theorem ta_step {W p g y : Nat} {T c X : Int} (h : (W : Int) + c * ((b20 ^ p : Nat) : Int) = X) (hT : T = (dg W p : Int) - g * y + c) : ((sD W p (T % 1048576).toNat : Nat) : Int) + T / 1048576 * ((b20 ^ (p + 1) : Nat) : Int) = X - ((g * y * b20 ^ p : Nat) : Int) := by
  have h1 := sD_eq W p (T % 1048576).toNat
  have h0 : ((T % 1048576).toNat : Int) = T % 1048576 := Int.toNat_of_nonneg (Int.emod_nonneg _ (by decide))
  generalize (T % 1048576).toNat = x at *
  have h2 : ((sD W p x : Nat) : Int) + (dg W p : Int) * ((b20 ^ p : Nat) : Int) = (W : Int) + T % 1048576 * ((b20 ^ p : Nat) : Int) := by
    rw [← h0, ← Int.natCast_mul, ← Int.natCast_mul, ← Int.natCast_add, ← Int.natCast_add, h1]
  have h3 : ((b20 ^ (p + 1) : Nat) : Int) = 1048576 * ((b20 ^ p : Nat) : Int) := by rw [Nat.pow_succ, Nat.mul_comm]; rfl
  have h4 : ((g * y * b20 ^ p : Nat) : Int) = (g : Int) * y * ((b20 ^ p : Nat) : Int) := by push_cast; rfl
  rw [h3, h4]
  generalize ((b20 ^ p : Nat) : Int) = P at *
  have h5 := Int.emod_add_mul_ediv T 1048576
  generalize T % 1048576 = r at *
  generalize T / 1048576 = q at *
  have e1 : q * (1048576 * P) = (1048576 * q) * P := by rw [← Int.mul_assoc, Int.mul_comm q]
  have e2 : r * P + (1048576 * q) * P = T * P := by rw [← Int.add_mul, h5]
  rw [hT, Int.add_mul, Int.sub_mul] at e2
  rw [e1]; omega
theorem tak_end {W p R : Nat} {c : Int} (h : (W : Int) + c * ((b20 ^ p : Nat) : Int) = (R : Int)) (hW : W < b20 ^ (p + 1)) (hc : c ≤ 0) : 0 ≤ (dg W p : Int) + c ∧ (dg W p : Int) + c < 1048576 ∧ sD W p ((dg W p : Int) + c).toNat = R := by
  have hd := dgm_lt W p
  have hp := b20_pp p
  have h1 := Nat.mod_add_div W (b20 ^ p)
  rw [← dg_top hW] at h1
  have h2 := Nat.mod_lt W hp
  have h3 : ((W % b20 ^ p : Nat) : Int) + ((b20 ^ p : Nat) : Int) * ((dg W p : Int) + c) = R := by
    rw [← h, Int.mul_add, Int.mul_comm _ c]
    have : ((W % b20 ^ p : Nat) : Int) + ((b20 ^ p : Nat) : Int) * (dg W p : Int) = (W : Int) := by exact_mod_cast h1
    omega
  have h4 : 0 ≤ (dg W p : Int) + c := by
    apply Int.not_lt.mp; intro q
    have : ((b20 ^ p : Nat) : Int) * ((dg W p : Int) + c) ≤ ((b20 ^ p : Nat) : Int) * (-1) := Int.mul_le_mul_of_nonneg_left (by omega) (by omega)
    omega
  refine ⟨h4, by omega, ?_⟩
  unfold sD
  have h5 : (((dg W p : Int) + c).toNat : Int) = (dg W p : Int) + c := Int.toNat_of_nonneg h4
  have h6 : W / b20 ^ (p + 1) = 0 := Nat.div_eq_of_lt hW
  rw [h6, Nat.mul_zero, Nat.add_zero]
  have h7 : ((W % b20 ^ p + b20 ^ p * ((dg W p : Int) + c).toNat : Nat) : Int) = (R : Int) := by
    rw [← h3, Int.natCast_add, Int.natCast_mul, h5]
  exact_mod_cast h7
theorem ta_bd {u g y : Nat} {c : Int} (hu : u < 1048576) (hg : g < 1048576) (hy : y < 1048576) (h1 : -1048576 ≤ c) (h2 : c ≤ 0) : -1099511627776 ≤ (u : Int) - g * y + c ∧ (u : Int) - g * y + c < 1048576 ∧ -1048576 ≤ ((u : Int) - g * y + c) / 1048576 ∧ ((u : Int) - g * y + c) / 1048576 ≤ 0 := by
  have h : g * y ≤ 1048575 * 1048575 := Nat.mul_le_mul (by omega) (by omega)
  have h3 : (g : Int) * y = ((g * y : Nat) : Int) := by push_cast; rfl
  rw [h3]
  generalize g * y = w at *
  omega
/-- a guess is never too great -/
theorem gs_le {u v R B n k : Nat} (h1 : u * b20 ^ (n + k) ≤ R * b20 ^ 2) (h2 : B * b20 ^ 2 ≤ (v + 1) * b20 ^ n) : u / (v + 1) * (B * b20 ^ k) ≤ R := by
  have h3 : u / (v + 1) * (v + 1) ≤ u := Nat.div_mul_le_self _ _
  generalize u / (v + 1) = g at *
  have h4 : g * (B * b20 ^ 2) * b20 ^ k ≤ g * ((v + 1) * b20 ^ n) * b20 ^ k := Nat.mul_le_mul_right _ (Nat.mul_le_mul_left _ h2)
  have h5 : g * ((v + 1) * b20 ^ n) * b20 ^ k ≤ u * b20 ^ (n + k) := by
    rw [← Nat.mul_assoc, Nat.mul_assoc _ (b20 ^ n), ← Nat.pow_add]; exact Nat.mul_le_mul_right _ h3
  have h6 : g * (B * b20 ^ k) * b20 ^ 2 ≤ R * b20 ^ 2 := by
    refine Nat.le_trans (Nat.le_of_eq ?_) (Nat.le_trans h4 (Nat.le_trans h5 h1))
    rw [Nat.mul_assoc, Nat.mul_assoc g, Nat.mul_assoc B, Nat.mul_assoc B, Nat.mul_comm (b20 ^ k)]
  exact Nat.le_of_mul_le_mul_right h6 (b20_pp 2)
/-- the three highest digits of the rest -/
theorem gs_u {R q : Nat} (hR : R < b20 ^ (q + 3)) : dg R (q + 2) * 1099511627776 + dg R (q + 1) * 1048576 + dg R q = R / b20 ^ q := by
  have h1 := dv_s R q
  have h2 := dv_s R (q + 1)
  have h3 := dg_top (r := q + 2) hR
  rw [h2, ← h3] at h1
  omega
theorem gs_u2 {R q : Nat} (hR : R < b20 ^ (q + 3)) : (dg R (q + 2) * 1099511627776 + dg R (q + 1) * 1048576 + dg R q) * b20 ^ (q + 2) ≤ R * b20 ^ 2 := by
  rw [gs_u hR, Nat.pow_add, ← Nat.mul_assoc]
  exact Nat.mul_le_mul_right _ (Nat.div_mul_le_self _ _)
theorem gs_u1 {R : Nat} (hR : R < b20 ^ 2) : (dg R 1 * 1099511627776 + dg R 0 * 1048576 + 0) * b20 ^ 1 ≤ R * b20 ^ 2 := by
  have h1 := dv_s R 0
  have h3 := dg_top (r := 1) hR
  rw [Nat.pow_zero, Nat.div_one, Nat.zero_add, ← h3] at h1
  have : dg R 1 * 1099511627776 + dg R 0 * 1048576 + 0 = R * b20 := by show _ = R * 1048576; omega
  rw [this, show b20 ^ 2 = b20 * b20 ^ 1 by rw [Nat.pow_one, Nat.pow_two], ← Nat.mul_assoc]; exact Nat.le_refl _
/-- the two highest digits of the divisor -/
theorem gs_v2 {B q : Nat} (hB : B < b20 ^ (q + 2)) : B * b20 ^ 2 ≤ (dg B (q + 1) * 1048576 + dg B q + 1) * b20 ^ (q + 2) := by
  have h1 := dv_s B q
  have h3 := dg_top (r := q + 1) hB
  rw [← h3] at h1
  rw [← h1, Nat.pow_add, ← Nat.mul_assoc]
  refine Nat.mul_le_mul_right _ ?_
  have := Nat.div_add_mod B (b20 ^ q)
  have h4 := Nat.mod_lt B (b20_pp q)
  rw [Nat.succ_mul, Nat.mul_comm]; omega
theorem gs_v1 {B : Nat} (hB : B < b20 ^ 1) : B * b20 ^ 2 ≤ (dg B 0 * 1048576 + 0 + 1) * b20 ^ 1 := by
  have h3 := dg_top (r := 0) hB
  rw [Nat.pow_zero, Nat.div_one] at h3
  rw [h3, show b20 ^ 2 = b20 * b20 ^ 1 by rw [Nat.pow_one, Nat.pow_two], ← Nat.mul_assoc]
  refine Nat.mul_le_mul_right _ ?_
  show B * 1048576 ≤ _; omega
theorem go_hi {R B n k : Nat} (hB : B < b20 ^ n) (h : 0 < dg R (n + k)) : B * b20 ^ k ≤ R := by
  have h1 : b20 ^ (n + k) ≤ R := Nat.le_of_not_lt fun q => by rw [dg_z q] at h; omega
  refine Nat.le_trans (Nat.le_of_lt (Nat.mul_lt_mul_of_pos_right hB (b20_pp k))) ?_
  rw [← Nat.pow_add]; exact h1
theorem go_iff {R B k : Nat} : B * b20 ^ k ≤ R ↔ B ≤ R / b20 ^ k := (Nat.le_div_iff_mul_le (b20_pp k)).symm
theorem go_lo {R n k : Nat} (hR : R < b20 ^ (n + k + 1)) (h : dg R (n + k) = 0) : R / b20 ^ k < b20 ^ n := by
  refine Nat.div_lt_of_lt_mul ?_
  rw [← Nat.pow_add, Nat.add_comm k]; exact dg_down hR h
/-- a digit of the quotient is found -/
theorem sp_dig {R X A q g P : Nat} (h : R + (X + q * P) = A) (hg : g * P ≤ R) : R - g * P + (X + (q + g) * P) = A := by
  rw [Nat.add_mul]; omega
theorem sp_end {A B R Q : Nat} (h : R + B * Q = A) (hR : R < B) : A / B = Q ∧ A % B = R := by
  have e : A = R + B * Q := h.symm
  refine ⟨?_, ?_⟩
  · rw [e, Nat.add_mul_div_left _ _ (by omega), Nat.div_eq_of_lt hR, Nat.zero_add]
  · rw [e, Nat.add_mul_mod_self_left, Nat.mod_eq_of_lt hR]
