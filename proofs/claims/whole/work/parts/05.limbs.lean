/-! rows of limbs of 28 bits -/
def nd (f : Nat → Int64) : Nat → Int := fun j => (f j).toInt
abbrev b28 : Int := 268435456
def vB : Nat := 268435456
def vLim : Nat := vB ^ 75
def fD (v : Nat) : Nat → Int64 := fun j => lN (v / vB ^ j % vB)
def kD (v : Nat) : Nat := lm_len vB v 75
def uD (v : Nat) : Int32 := nI (kD v)
theorem b28_pos : (0 : Int) < b28 := by decide
theorem vB_pos : 0 < vB := by decide
theorem vB_c : ((vB : Nat) : Int) = b28 := rfl
theorem nd_upd {f : Nat → Int64} {i : Nat} {x : Int64} : nd (vp_updL f i x) i = x.toInt := by unfold nd; rw [pk_uLs]
theorem nd_updN {f : Nat → Int64} {i j : Nat} {x : Int64} (h : j ≠ i) : nd (vp_updL f i x) j = nd f j := by unfold nd; rw [pk_uLn h]
theorem nd_evU {f : Nat → Int64} {i n : Nat} {x : Int64} (h : n ≤ i) : lm_ev b28 (nd (vp_updL f i x)) n = lm_ev b28 (nd f) n := lm_congr (fun j hj => nd_updN (by omega))
theorem fD_toInt (v j : Nat) : (fD v j).toInt = ((v / vB ^ j % vB : Nat) : Int) := by
  unfold fD
  refine lj_lN (Nat.lt_trans (Nat.mod_lt _ vB_pos) (by decide))
theorem fD_nd (v : Nat) : nd (fD v) = fun j => ((v / vB ^ j % vB : Nat) : Int) := funext fun j => fD_toInt v j
theorem fD_in (v j : Nat) : 0 ≤ nd (fD v) j ∧ nd (fD v) j < b28 := by
  rw [fD_nd]
  have := Nat.mod_lt (v / vB ^ j) vB_pos
  have e : vB = 268435456 := rfl
  constructor
  · exact Int.natCast_nonneg _
  · show ((v / vB ^ j % vB : Nat) : Int) < 268435456
    omega
theorem fD_ev (v n : Nat) : lm_ev b28 (nd (fD v)) n = ((v % vB ^ n : Nat) : Int) := by
  rw [fD_nd, ← vB_c]; exact lm_evd vB_pos v n
theorem kD_le (v : Nat) : kD v ≤ 75 := lm_len_le _ _ _
theorem kD_lt {v : Nat} (h : v < vLim) : v < vB ^ kD v := lm_len_lt vB_pos h
theorem kD_ge {v : Nat} (h : 0 < kD v) : vB ^ (kD v - 1) ≤ v := lm_len_ge h
theorem kD_eq {v k : Nat} (h1 : v < vB ^ k) (h2 : 0 < k → vB ^ (k - 1) ≤ v) (h : k ≤ 75) : kD v = k := lm_len_eq (by decide) h1 h2 h
theorem vB_le {a b : Nat} (h : a ≤ b) : vB ^ a ≤ vB ^ b := Nat.pow_le_pow_right vB_pos h
theorem kD_mono {v k : Nat} (hv : v < vB ^ k) : kD v ≤ k := by
  apply Nat.le_of_not_lt
  intro h
  have h1 := kD_ge (v := v) (by omega)
  have h2 := vB_le (show k ≤ kD v - 1 by omega)
  omega
theorem fD_ev_k {v n : Nat} (h : v < vLim) (hn : kD v ≤ n) : lm_ev b28 (nd (fD v)) n = (v : Int) := by
  rw [fD_ev, Nat.mod_eq_of_lt (Nat.lt_of_lt_of_le (kD_lt h) (vB_le hn))]
theorem fD_zero {v j : Nat} (h : v < vLim) (hj : kD v ≤ j) : fD v j = 0 := by
  unfold fD
  rw [Nat.div_eq_of_lt (Nat.lt_of_lt_of_le (kD_lt h) (vB_le hj))]
  decide +kernel
/-- a row that has the digits of v has its canonical limbs -/
theorem fD_uniq {f : Nat → Int64} {n v : Nat} (hd : ∀ j, j < n → 0 ≤ nd f j ∧ nd f j < b28) (he : lm_ev b28 (nd f) n = (v : Int)) {j : Nat} (hj : j < n) : f j = fD v j := by
  apply lj_inj
  rw [fD_toInt]
  have := lm_digit b28_pos hd he hj
  show nd f j = _
  rw [this, ← vB_c]
  simp only [Int.natCast_ediv, Int.natCast_emod, Int.natCast_pow]
theorem fD_lt {f : Nat → Int64} {n v : Nat} (hd : ∀ j, j < n → 0 ≤ nd f j ∧ nd f j < b28) (he : lm_ev b28 (nd f) n = (v : Int)) : v < vB ^ n := by
  have := lm_lt b28_pos (f := nd f) (n := n) (fun j hj => (hd j hj).2)
  rw [he, ← vB_c, ← Int.natCast_pow] at this
  exact Int.ofNat_lt.mp this
theorem nd_0 {f : Nat → Int64} {j : Nat} (h : f j = 0) : nd f j = 0 := by unfold nd; rw [h]; exact lj_0
/-- a carry goes one limb on -/
theorem nd_carry {f : Nat → Int64} {i : Nat} {t : Int64} {c x S : Int} (ht : t.toInt = c + x) (h : lm_ev b28 (nd f) i + c * b28 ^ i = S) :
    lm_ev b28 (nd (vp_updL f i (t &&& 268435455))) (i + 1) + (t >>> ((28 : Int32).toInt64 &&& 63)).toInt * b28 ^ (i + 1) = S + x * b28 ^ i := by
  rw [lj_shr28]
  refine lm_step b28_pos ?_ x ht ?_
  · rw [nd_evU (Nat.le_refl i)]; exact h
  · rw [nd_upd, lj_and28]
theorem nd_and (t : Int64) : 0 ≤ (t &&& 268435455).toInt ∧ (t &&& 268435455).toInt < b28 := by
  rw [lj_and28]; exact lm_mod b28_pos _
/-! the guess of a limb -/
theorem kn_a {g V2 P vl U3 ul : Int} (hg : 1 ≤ g) (hgV : g - 1 ≤ V2) (hP : 0 < P) (hvl : vl < P) (hul : 0 ≤ ul) (ht : g * V2 ≤ U3) : (g - 1) * (V2 * P + vl) ≤ U3 * P + ul := by
  have h1 : (g - 1) * vl ≤ (g - 1) * P := Int.mul_le_mul_of_nonneg_left (by omega) (by omega)
  have h2 : (g * V2) * P ≤ U3 * P := Int.mul_le_mul_of_nonneg_right ht (by omega)
  have h3 : (g - 1) * P ≤ V2 * P := Int.mul_le_mul_of_nonneg_right hgV (by omega)
  have e : (g - 1) * (V2 * P + vl) = (g * V2) * P - V2 * P + (g - 1) * vl := by grind
  omega
theorem kn_b {g V2 P vl U3 ul : Int} (hg : 0 ≤ g) (hP : 0 < P) (hvl : 0 ≤ vl) (hul : ul < P) (ht : U3 < g * V2) : U3 * P + ul < g * (V2 * P + vl) := by
  have h1 : 0 ≤ g * vl := Int.mul_nonneg hg hvl
  have h2 : (U3 + 1) * P ≤ (g * V2) * P := Int.mul_le_mul_of_nonneg_right (by omega) (by omega)
  have e : g * (V2 * P + vl) = (g * V2) * P + g * vl := by grind
  have e2 : (U3 + 1) * P = U3 * P + P := by grind
  omega
theorem kn_c {h v1 P vl ul : Int} (hh : 0 ≤ h) (hv : 0 < v1) (hP : 0 < P) (hvl : 0 ≤ vl) (hul : ul < P) : h * P + ul < (h / v1 + 1) * (v1 * P + vl) := by
  have h0 : 0 ≤ h / v1 := Int.ediv_nonneg hh (by omega)
  have h1 : h < (h / v1 + 1) * v1 := Int.lt_ediv_add_one_mul_self h hv
  have h2 : (h + 1) * P ≤ ((h / v1 + 1) * v1) * P := Int.mul_le_mul_of_nonneg_right (by omega) (by omega)
  have h3 : 0 ≤ (h / v1 + 1) * vl := Int.mul_nonneg (by omega) hvl
  have e : (h / v1 + 1) * (v1 * P + vl) = ((h / v1 + 1) * v1) * P + (h / v1 + 1) * vl := by grind
  have e2 : (h + 1) * P = h * P + P := by grind
  omega
/-! one digit changed; products of digits -/
theorem lm_upd {B : Int} {f g : Nat → Int} {k : Nat} (hg : ∀ j, j ≠ k → g j = f j) : ∀ {n : Nat}, k < n → lm_ev B g n = lm_ev B f n + (g k - f k) * B ^ k
  | 0, h => absurd h (Nat.not_lt_zero k)
  | n + 1, h => by
    by_cases e : k = n
    · subst e
      rw [lm_evs, lm_evs, lm_congr (f := g) (g := f) (fun j hj => hg j (by omega))]
      grind
    · rw [lm_evs, lm_evs, lm_upd hg (n := n) (by omega), hg n (by omega)]
      grind
theorem nd_upd_ev {f : Nat → Int64} {k n : Nat} {x : Int64} (h : k < n) : lm_ev b28 (nd (vp_updL f k x)) n = lm_ev b28 (nd f) n + (x.toInt - nd f k) * b28 ^ k := by
  have := lm_upd (B := b28) (f := nd f) (g := nd (vp_updL f k x)) (k := k) (fun j hj => nd_updN hj) h
  rw [nd_upd] at this
  exact this
theorem lm_mulbd {a b M N : Int} (ha : 0 ≤ a) (hb : 0 ≤ b) (ha2 : a ≤ M) (hb2 : b ≤ N) : 0 ≤ a * b ∧ a * b ≤ M * N :=
  ⟨Int.mul_nonneg ha hb, Int.mul_le_mul ha2 hb2 hb (by omega)⟩
/-! what one turn of a loop does to a row of limbs -/
theorem pu_sum {f : Nat → Int64} {i : Nat} {c x y t : Int64} {S : Int} (hc : 0 ≤ c.toInt ∧ c.toInt ≤ 1) (hx : 0 ≤ x.toInt ∧ x.toInt < 268435456) (hy : 0 ≤ y.toInt ∧ y.toInt < 268435456) (ht : t = c + (x + y)) (h : lm_ev b28 (nd f) i + c.toInt * b28 ^ i = S) :
    (0 ≤ (t >>> ((28 : Int32).toInt64 &&& 63)).toInt ∧ (t >>> ((28 : Int32).toInt64 &&& 63)).toInt ≤ 1) ∧ lm_ev b28 (nd (vp_updL f i (t &&& 268435455))) (i + 1) + (t >>> ((28 : Int32).toInt64 &&& 63)).toInt * b28 ^ (i + 1) = S + (x.toInt + y.toInt) * b28 ^ i := by
  have e1 : (x + y).toInt = x.toInt + y.toInt := lj_add (by omega) (by omega)
  have e2 : t.toInt = c.toInt + (x.toInt + y.toInt) := by rw [ht, lj_add (by omega) (by omega), e1]
  refine ⟨?_, nd_carry e2 h⟩
  rw [lj_shr28, e2]; omega
theorem pu_dif {f : Nat → Int64} {i : Nat} {c x y t : Int64} {S : Int} (hc : -1 ≤ c.toInt ∧ c.toInt ≤ 0) (hx : 0 ≤ x.toInt ∧ x.toInt < 268435456) (hy : 0 ≤ y.toInt ∧ y.toInt < 268435456) (ht : t = c + (x - y)) (h : lm_ev b28 (nd f) i + c.toInt * b28 ^ i = S) :
    (-1 ≤ (t >>> ((28 : Int32).toInt64 &&& 63)).toInt ∧ (t >>> ((28 : Int32).toInt64 &&& 63)).toInt ≤ 0) ∧ lm_ev b28 (nd (vp_updL f i (t &&& 268435455))) (i + 1) + (t >>> ((28 : Int32).toInt64 &&& 63)).toInt * b28 ^ (i + 1) = S + (x.toInt - y.toInt) * b28 ^ i := by
  have e1 : (x - y).toInt = x.toInt - y.toInt := lj_sub (by omega) (by omega)
  have e2 : t.toInt = c.toInt + (x.toInt - y.toInt) := by rw [ht, lj_add (by omega) (by omega), e1]
  refine ⟨?_, nd_carry e2 h⟩
  rw [lj_shr28, e2]; omega
/-- the row so far has digits -/
theorem pu_in {f : Nat → Int64} {i : Nat} {t : Int64} (h : ∀ j, j < i → 0 ≤ nd f j ∧ nd f j < b28) : ∀ j, j < i + 1 → 0 ≤ nd (vp_updL f i (t &&& 268435455)) j ∧ nd (vp_updL f i (t &&& 268435455)) j < b28 := by
  intro j hj
  by_cases e : j = i
  · rw [e, nd_upd]; exact nd_and t
  · rw [nd_updN e]; exact h j (by omega)
theorem lm_add2 {B S : Int} {f g : Nat → Int} {i : Nat} (h : S = lm_ev B f i + lm_ev B g i) : S + (f i + g i) * B ^ i = lm_ev B f (i + 1) + lm_ev B g (i + 1) := by
  rw [lm_evs, lm_evs, h]; grind
theorem lm_sub2 {B S : Int} {f g : Nat → Int} {i : Nat} (h : S = lm_ev B f i - lm_ev B g i) : S + (f i - g i) * B ^ i = lm_ev B f (i + 1) - lm_ev B g (i + 1) := by
  rw [lm_evs, lm_evs, h]; grind
