/-! the model: rows of digits of 20 bits, 108 to a number; sizes; signs -/
def b20 : Nat := 1048576
theorem b20_pos : 0 < b20 := by decide
theorem b20_two (i : Nat) : b20 ^ i = 2 ^ (20 * i) := by rw [Nat.pow_mul]; rfl
theorem b20_pp (i : Nat) : 0 < b20 ^ i := Nat.pow_pos b20_pos
def mM : Nat := b20 ^ 108
def dg (v i : Nat) : Nat := v / b20 ^ i % b20
theorem dgm_lt (v i : Nat) : dg v i < 1048576 := Nat.mod_lt _ b20_pos
theorem dg_0 (i : Nat) : dg 0 i = 0 := by unfold dg; rw [Nat.zero_div]; rfl
def dR (D : Nat → Nat → Nat) : Nat → Int32 := fun j => nI (D (j / 108) (j % 108))
def dgm (M : Nat → Nat) : Nat → Nat → Nat := fun s => dg (M s)
def gI (I : wIt) (D : Nat → Nat → Nat) (Z : Nat → Nat) (G : Nat → Int32) : wIt := fun k => if k = 1 then dR D else if k = 2 then tI Z else if k = 3 then G else I k
section GI
variable {I : wIt} {D : Nat → Nat → Nat} {Z : Nat → Nat} {G : Nat → Int32} {s i j x t : Nat}
theorem ix_s (h : i < 108) : (108 * s + i) / 108 = s := by omega
theorem ix_i (h : i < 108) : (108 * s + i) % 108 = i := by omega
theorem gI_d (h : i < 108) : gI I D Z G 1 (108 * s + i) = nI (D s i) := by show nI (D _ _) = _; rw [ix_s h, ix_i h]
theorem gI_d0 : gI I D Z G 1 (108 * s) = nI (D s 0) := gI_d (i := 0) (by decide)
theorem gI_z : gI I D Z G 2 s = nI (Z s) := rfl
theorem gI_g : gI I D Z G 3 s = G s := rfl
theorem gI_o {k : Nat} (h1 : k ≠ 1) (h2 : k ≠ 2) (h3 : k ≠ 3) : gI I D Z G k = I k := by unfold gI; rw [if_neg h1, if_neg h2, if_neg h3]
theorem va_va {α : Type} (f : Nat → α) (i : Nat) (v : α) (j : Nat) : va_up f i v j = if j = i then v else f j := by
  by_cases h : j = i
  · subst h; rw [va_up_self, if_pos rfl]
  · rw [va_up_ne _ _ h, if_neg h]
theorem gI_sd (h : i < 108) : va_up (gI I D Z G) 1 (upd (gI I D Z G 1) (108 * s + i) (nI x)) = gI I (va_up D s (va_up (D s) i x)) Z G := by
  funext k
  rw [va_va]
  by_cases h1 : k = 1
  · subst h1; rw [if_pos rfl]
    funext j
    show (if j = 108 * s + i then nI x else nI (D (j / 108) (j % 108))) = nI (va_up D s (va_up (D s) i x) (j / 108) (j % 108))
    rw [va_va]
    by_cases e : j / 108 = s
    · rw [if_pos e, va_va]
      by_cases e2 : j % 108 = i
      · rw [if_pos (by omega), if_pos e2]
      · rw [if_neg (by omega), if_neg e2, e]
    · rw [if_neg (by omega), if_neg e]
  · rw [if_neg h1]; unfold gI; rw [if_neg h1, if_neg h1]
theorem gI_sz : va_up (gI I D Z G) 2 (upd (gI I D Z G 2) s (nI x)) = gI I D (va_up Z s x) G := by
  funext k
  rw [va_va]
  by_cases h1 : k = 2
  · subst h1; rw [if_pos rfl]
    funext j
    show (if j = s then nI x else nI (Z j)) = nI (va_up Z s x j)
    rw [va_va]; split <;> rfl
  · rw [if_neg h1]; unfold gI; by_cases h2 : k = 1
    · rw [if_pos h2, if_pos h2]
    · rw [if_neg h2, if_neg h2, if_neg h1, if_neg h1]
theorem gI_sg {v : Int32} : va_up (gI I D Z G) 3 (upd (gI I D Z G 3) s v) = gI I D Z (va_up G s v) := by
  funext k
  rw [va_va]
  by_cases h1 : k = 3
  · subst h1; rw [if_pos rfl]
    funext j
    show (if j = s then v else G j) = va_up G s v j
    rw [va_va]
  · rw [if_neg h1]; unfold gI; by_cases h2 : k = 1
    · rw [if_pos h2, if_pos h2]
    · by_cases h3 : k = 2
      · rw [if_neg h2, if_neg h2, if_pos h3, if_pos h3]
      · rw [if_neg h2, if_neg h2, if_neg h3, if_neg h3, if_neg h1, if_neg h1]
theorem gI_up {k : Nat} {f : Nat → Int32} (h1 : k ≠ 1) (h2 : k ≠ 2) (h3 : k ≠ 3) : va_up (gI I D Z G) k f = gI (va_up I k f) D Z G := by
  funext q
  rw [va_va]
  by_cases e : q = k
  · subst e; rw [if_pos rfl, gI_o h1 h2 h3, va_up_self]
  · rw [if_neg e]; unfold gI; split
    · rfl
    · split
      · rfl
      · split
        · rfl
        · rw [va_up_ne _ _ e]
theorem gI_ext {D' : Nat → Nat → Nat} (h : ∀ s j, j < 108 → D s j = D' s j) : gI I D Z G = gI I D' Z G := by
  have e : dR D = dR D' := funext fun j => by show nI _ = nI _; rw [h _ _ (Nat.mod_lt _ (by decide))]
  unfold gI; rw [e]
/-- digits of f below i, of g from there on -/
def mx (f g : Nat → Nat) (i : Nat) : Nat → Nat := fun j => if j < i then f j else g j
theorem mx_0 (f g : Nat → Nat) : mx f g 0 = g := funext fun j => if_neg (Nat.not_lt_zero _)
theorem mx_s (f g : Nat → Nat) (i : Nat) : va_up (mx f g i) i (f i) = mx f g (i + 1) := funext fun j => by
  rw [va_va]; unfold mx
  by_cases h : j = i
  · subst h; rw [if_pos rfl, if_pos (by omega)]
  · rw [if_neg h]
    by_cases h2 : j < i
    · rw [if_pos h2, if_pos (by omega)]
    · rw [if_neg h2, if_neg (by omega)]
theorem va_v2 {α : Type} (f : Nat → α) (i : Nat) (u v : α) : va_up (va_up f i u) i v = va_up f i v := funext fun j => by
  rw [va_va, va_va, va_va]; split <;> rfl
theorem mx_st {f g : Nat → Nat} (hx : x = f i) : va_up (va_up D t (mx f g i)) t (va_up ((va_up D t (mx f g i)) t) i x) = va_up D t (mx f g (i + 1)) := by
  rw [va_v2, va_up_self, hx, mx_s]
theorem mx_rd {f : Nat → Nat} (a : Nat) : va_up D t (mx f (D t) i) a i = D a i := by
  rw [va_va]
  by_cases h : a = t
  · subst h; rw [if_pos rfl]; unfold mx; rw [if_neg (by omega)]
  · rw [if_neg h]
theorem mx_full {f g : Nat → Nat} : gI I (va_up D t (mx f g 108)) Z G = gI I (va_up D t f) Z G := gI_ext fun a j hj => by
  rw [va_va, va_va]; split
  · exact if_pos hj
  · rfl
theorem mx_start {f : Nat → Nat} : va_up D t (mx f (D t) 0) = D := funext fun a => by
  rw [mx_0, va_va]; split
  · rename_i h; rw [h]
  · rfl
theorem dgm_up {M : Nat → Nat} {v : Nat} : va_up (dgm M) t (dg v) = dgm (va_up M t v) := funext fun a => by
  unfold dgm; rw [va_va, va_va]; split <;> rfl
end GI
/-! ints as whole numbers -/
theorem ij_toInt (x : Int32) : x.toInt = if x.toBitVec.toNat < 2147483648 then (x.toBitVec.toNat : Int) else (x.toBitVec.toNat : Int) - 4294967296 := by
  show x.toBitVec.toInt = _
  rw [BitVec.toInt_eq_toNat_cond]
  split <;> split <;> omega
theorem ij_and20 (x : Int32) : (x &&& nI 1048575).toInt = x.toInt % 1048576 := by
  have e : (x &&& nI 1048575).toBitVec.toNat = x.toBitVec.toNat % 2 ^ 20 := by
    rw [Int32.toBitVec_and, BitVec.toNat_and, show (nI 1048575).toBitVec.toNat = 2 ^ 20 - 1 by decide +kernel, Nat.and_two_pow_sub_one_eq_mod]
  rw [ij_toInt (x &&& nI 1048575), e, ij_toInt x]
  split <;> split <;> omega
theorem ij_shr (x : Int32) {D : Int32} (k : Nat) (hD : (D.toBitVec.smod 32).toNat = k) : (x >>> D).toInt = x.toInt / 2 ^ k := by
  have e : (x >>> D).toInt = x.toInt >>> k := by
    rw [← hD]
    exact BitVec.toInt_sshiftRight ..
  rw [e, Int.shiftRight_eq_div_pow]; rfl
theorem ij_shr20 (x : Int32) : (x >>> (nI 20 &&& 31)).toInt = x.toInt / 1048576 := by
  rw [ij_shr x 20 (by decide +kernel)]; rfl
theorem ij_inj {x y : Int32} (h : x.toInt = y.toInt) : x = y := Int32.toInt_inj.mp h
theorem ij_add {x y : Int32} (h1 : -2147483648 ≤ x.toInt + y.toInt) (h2 : x.toInt + y.toInt < 2147483648) : (x + y).toInt = x.toInt + y.toInt := by
  rw [Int32.toInt_add]; exact Int.bmod_eq_of_le (by omega) (by omega)
theorem ij_sub {x y : Int32} (h1 : -2147483648 ≤ x.toInt - y.toInt) (h2 : x.toInt - y.toInt < 2147483648) : (x - y).toInt = x.toInt - y.toInt := by
  rw [Int32.toInt_sub]; exact Int.bmod_eq_of_le (by omega) (by omega)
theorem ij_neg {x : Int32} (h1 : -2147483648 < x.toInt) : (-x).toInt = -x.toInt := by
  have := x.toInt_lt
  rw [Int32.toInt_neg]; exact Int.bmod_eq_of_le (by omega) (by omega)
theorem ij_nI {k : Nat} (h : k < 2147483648) : (nI k).toInt = k := Int32.toInt_ofNat_of_lt (by omega)
/-- t & MASK and t >> 20 of a number that is not below 0 -/
theorem mk_and {t : Nat} (h : t < 2147483648) : nI t &&& nI 1048575 = nI (t % 1048576) := ij_inj (by rw [ij_and20, ij_nI h, ij_nI (by omega)]; omega)
theorem mk_shr {t : Nat} (h : t < 2147483648) : nI t >>> (nI 20 &&& 31) = nI (t / 1048576) := ij_inj (by rw [ij_shr20, ij_nI h, ij_nI (by omega)]; omega)
/-- the same of x - y less a borrow w -/
theorem mk_and2 {x y w : Nat} (hx : x < 1048576) (hy : y < 1048576) (hw : w ≤ 1) : (nI x - nI y + -(nI w)) &&& nI 1048575 = nI ((x + 1048576 - y - w) % 1048576) := by
  apply ij_inj
  have e1 : (nI x - nI y).toInt = (x : Int) - y := by rw [ij_sub (by rw [ij_nI (by omega), ij_nI (by omega)]; omega) (by rw [ij_nI (by omega), ij_nI (by omega)]; omega), ij_nI (by omega), ij_nI (by omega)]
  have e2 : (-(nI w)).toInt = -(w : Int) := by rw [ij_neg (by rw [ij_nI (by omega)]; omega), ij_nI (by omega)]
  rw [ij_and20, ij_add (by rw [e1, e2]; omega) (by rw [e1, e2]; omega), e1, e2, ij_nI (by omega)]
  omega
theorem mk_shr2 {x y w : Nat} (hx : x < 1048576) (hy : y < 1048576) (hw : w ≤ 1) : (nI x - nI y + -(nI w)) >>> (nI 20 &&& 31) = -(nI (if x < y + w then 1 else 0)) := by
  apply ij_inj
  have e1 : (nI x - nI y).toInt = (x : Int) - y := by rw [ij_sub (by rw [ij_nI (by omega), ij_nI (by omega)]; omega) (by rw [ij_nI (by omega), ij_nI (by omega)]; omega), ij_nI (by omega), ij_nI (by omega)]
  have e2 : (-(nI w)).toInt = -(w : Int) := by rw [ij_neg (by rw [ij_nI (by omega)]; omega), ij_nI (by omega)]
  rw [ij_shr20, ij_add (by rw [e1, e2]; omega) (by rw [e1, e2]; omega), e1, e2]
  split
  · rw [ij_neg (by rw [ij_nI (by omega)]; omega), ij_nI (by omega)]; omega
  · rw [ij_neg (by rw [ij_nI (by omega)]; omega), ij_nI (by omega)]; omega
/-! sums and differences, digit by digit -/
def cyS (A B i : Nat) : Nat := (A % b20 ^ i + B % b20 ^ i) / b20 ^ i
theorem cyS_0 (A B : Nat) : cyS A B 0 = 0 := by unfold cyS; rw [Nat.pow_zero, Nat.mod_one, Nat.mod_one]
theorem cyS_le (A B i : Nat) : cyS A B i ≤ 1 := by
  unfold cyS
  have h := b20_pp i
  have h1 := Nat.mod_lt A h
  have h2 := Nat.mod_lt B h
  have h3 : (A % b20 ^ i + B % b20 ^ i) / b20 ^ i < 2 := Nat.div_lt_of_lt_mul (by omega)
  omega
theorem dg_sum (A B i : Nat) : dg (A + B) i = (dg A i + dg B i + cyS A B i) % 1048576 := by
  unfold dg cyS
  have hp := b20_pp i
  generalize b20 ^ i = P at *
  have h1 : A + B = (A % P + B % P) + P * (A / P + B / P) := by
    have := Nat.div_add_mod A P; have := Nat.div_add_mod B P; rw [Nat.mul_add]; omega
  conv => lhs; rw [h1]
  rw [Nat.add_mul_div_left _ _ hp]
  show _ % 1048576 = (_ % 1048576 + _ % 1048576 + _) % 1048576
  omega
theorem mod_s (A i : Nat) : A % b20 ^ (i + 1) = A % b20 ^ i + b20 ^ i * dg A i := by rw [Nat.pow_succ, Nat.mod_mul]; rfl
theorem cyS_s (A B i : Nat) : cyS A B (i + 1) = (dg A i + dg B i + cyS A B i) / 1048576 := by
  unfold cyS
  rw [mod_s, mod_s, Nat.pow_succ, ← Nat.div_div_eq_div_mul]
  have hp := b20_pp i
  have e : A % b20 ^ i + b20 ^ i * dg A i + (B % b20 ^ i + b20 ^ i * dg B i) = (A % b20 ^ i + B % b20 ^ i) + b20 ^ i * (dg A i + dg B i) := by rw [Nat.mul_add]; omega
  rw [e, Nat.add_mul_div_left _ _ hp, Nat.add_comm]; rfl
def cyD (A B i : Nat) : Nat := if A % b20 ^ i < B % b20 ^ i then 1 else 0
theorem cyD_0 (A B : Nat) : cyD A B 0 = 0 := by unfold cyD; rw [Nat.pow_zero, Nat.mod_one, Nat.mod_one]; rfl
theorem cyD_le (A B i : Nat) : cyD A B i ≤ 1 := by unfold cyD; split <;> omega
theorem cyD_s (A B i : Nat) : cyD A B (i + 1) = if dg A i < dg B i + cyD A B i then 1 else 0 := by
  unfold cyD
  rw [mod_s, mod_s]
  have hp := b20_pp i
  have h1 := Nat.mod_lt A hp
  have h2 := Nat.mod_lt B hp
  generalize b20 ^ i = P at *
  generalize A % P = a at *
  generalize B % P = b at *
  generalize dg A i = x at *
  generalize dg B i = y at *
  by_cases h : a < b
  · rw [if_pos h]
    by_cases h3 : x < y + 1
    · have : P * x ≤ P * y := Nat.mul_le_mul_left _ (by omega)
      rw [if_pos (by omega), if_pos h3]
    · have : P * (y + 1) ≤ P * x := Nat.mul_le_mul_left _ (by omega)
      rw [Nat.mul_succ] at this
      rw [if_neg (by omega), if_neg h3]
  · rw [if_neg h, Nat.add_zero]
    by_cases h3 : x < y
    · have : P * (x + 1) ≤ P * y := Nat.mul_le_mul_left _ (by omega)
      rw [Nat.mul_succ] at this
      rw [if_pos (by omega), if_pos h3]
    · have : P * y ≤ P * x := Nat.mul_le_mul_left _ (by omega)
      rw [if_neg (by omega), if_neg h3]
theorem dg_dif {A B : Nat} (h : B ≤ A) (i : Nat) : dg (A - B) i = (dg A i + 1048576 - dg B i - cyD A B i) % 1048576 := by
  have h1 := dg_sum (A - B) B i
  have h2 : cyS (A - B) B i = cyD A B i := by
    unfold cyS cyD
    have hp := b20_pp i
    generalize b20 ^ i = P at *
    have q1 := Nat.mod_lt (A - B) hp
    have q2 := Nat.mod_lt B hp
    have q3 : A % P = ((A - B) % P + B % P) % P := by rw [← Nat.add_mod, Nat.sub_add_cancel h]
    generalize (A - B) % P = u at *
    generalize B % P = v at *
    by_cases h4 : u + v < P
    · rw [Nat.mod_eq_of_lt h4] at q3
      rw [Nat.div_eq_of_lt h4, q3, if_neg (by omega)]
    · have h5 : (u + v) % P = u + v - P := by rw [Nat.mod_eq_sub_mod (by omega), Nat.mod_eq_of_lt (by omega)]
      rw [h5] at q3
      rw [q3, if_pos (by omega)]
      have : (u + v) / P = 1 := Nat.div_eq_of_lt_le (by omega) (by omega)
      exact this
  rw [Nat.sub_add_cancel h, h2] at h1
  have h3 := dgm_lt (A - B) i
  have h4 := dgm_lt B i
  have h5 := cyD_le A B i
  omega
/-! how many digits -/
def lnM (v : Nat) : Nat := lm_len b20 v 108
theorem lnM_eq {v k : Nat} (h1 : v < b20 ^ k) (h2 : 0 < k → b20 ^ (k - 1) ≤ v) (h : k ≤ 108) : lnM v = k := lm_len_eq (by decide) h1 h2 h
theorem lnM_lt {v : Nat} (h : v < mM) : v < b20 ^ lnM v := lm_len_lt b20_pos h
theorem lnM_ge {v : Nat} (h : 0 < lnM v) : b20 ^ (lnM v - 1) ≤ v := lm_len_ge h
theorem lnM_le (v : Nat) : lnM v ≤ 108 := lm_len_le _ _ _
theorem lnM_0 : lnM 0 = 0 := lnM_eq (by decide) (fun h => absurd h (by decide)) (by decide)
theorem lnM_mono {v k : Nat} (hv : v < b20 ^ k) : lnM v ≤ k := by
  apply Decidable.byContradiction; intro h
  have h1 := lnM_ge (v := v) (by omega)
  have h2 : b20 ^ k ≤ b20 ^ (lnM v - 1) := Nat.pow_le_pow_right b20_pos (by omega)
  omega
theorem lnM_z {v : Nat} (h : v < mM) : lnM v = 0 ↔ v = 0 := by
  constructor
  · intro q
    have := lnM_lt h
    rw [q, Nat.pow_zero] at this; omega
  · intro q; subst q; exact lnM_0
theorem dg_top {v r : Nat} (h : v < b20 ^ (r + 1)) : dg v r = v / b20 ^ r := by
  unfold dg
  exact Nat.mod_eq_of_lt (Nat.div_lt_of_lt_mul (by rw [Nat.pow_succ] at h; exact h))
theorem dg_down {v r : Nat} (h : v < b20 ^ (r + 1)) (h0 : dg v r = 0) : v < b20 ^ r := by
  rw [dg_top h] at h0
  rcases Nat.div_eq_zero_iff.mp h0 with q | q
  · have := b20_pp r; omega
  · exact q
theorem lnM_at {v r : Nat} (h : v < b20 ^ (r + 1)) (hr : r < 108) (h0 : 0 < dg v r) : lnM v = r + 1 := by
  refine lnM_eq h (fun _ => ?_) (by omega)
  rw [dg_top h] at h0
  rw [Nat.add_sub_cancel]
  exact Nat.le_of_not_lt fun q => by rw [Nat.div_eq_of_lt q] at h0; omega
theorem dv_s (v r : Nat) : v / b20 ^ r = v / b20 ^ (r + 1) * 1048576 + dg v r := by
  unfold dg
  rw [Nat.pow_succ, ← Nat.div_div_eq_div_mul]
  have := Nat.div_add_mod (v / b20 ^ r) b20
  show v / b20 ^ r = v / b20 ^ r / b20 * b20 + _
  rw [Nat.mul_comm]; omega
theorem lt_of_dv {a b r : Nat} (h : a / b20 ^ r < b / b20 ^ r) : a < b := Nat.lt_of_not_le fun q => absurd (Nat.div_le_div_right (c := b20 ^ r) q) (by omega)
theorem lt_of_dg {a b r : Nat} (h : a / b20 ^ (r + 1) = b / b20 ^ (r + 1)) (hd : dg a r < dg b r) : a < b := lt_of_dv (r := r) (by rw [dv_s a, dv_s b, h]; omega)
theorem lt_of_ln {a b : Nat} (ha : a < mM) (h : lnM a < lnM b) : a < b := by
  have h1 := lnM_lt ha
  have h2 := lnM_ge (v := b) (by omega)
  have h3 : b20 ^ lnM a ≤ b20 ^ (lnM b - 1) := Nat.pow_le_pow_right b20_pos (by omega)
  omega
theorem cmp3_lt {a b : Nat} (h : a < b) : cmp3 a b = -1 := if_pos h
theorem cmp3_gt {a b : Nat} (h : b < a) : cmp3 a b = nI 1 := by unfold cmp3; rw [if_neg (by omega), if_neg (by omega)]; rfl
theorem cmp3_eq {a b : Nat} (h : a = b) : cmp3 a b = nI 0 := by unfold cmp3; rw [if_neg (by omega), if_pos h]; rfl
/-- 52 digits, the highest of 4 bits: 1024 bits -/
theorem great_iff {v : Nat} (h : v < mM) : (52 < lnM v ∨ (lnM v = 52 ∧ 15 < dg v 51)) ↔ ¬ v < m1024 := by
  have e : m1024 = b20 ^ 51 * 16 := by unfold m1024; rw [b20_two, show (16 : Nat) = 2 ^ 4 from rfl, ← Nat.pow_add]
  have hp := b20_pp 51
  have h1 := lnM_lt h
  constructor
  · rintro (q | ⟨q1, q2⟩) hv
    · have h2 := lnM_ge (v := v) (by omega)
      have h3 : b20 ^ 52 ≤ b20 ^ (lnM v - 1) := Nat.pow_le_pow_right b20_pos (by omega)
      have h4 : b20 ^ 51 * 16 ≤ b20 ^ 52 := by rw [Nat.pow_succ]; exact Nat.mul_le_mul_left _ (by decide)
      omega
    · rw [q1] at h1
      rw [dg_top h1] at q2
      rw [e] at hv
      have := Nat.div_lt_of_lt_mul hv
      omega
  · intro hv
    by_cases q : 52 < lnM v
    · exact Or.inl q
    · have h2 : b20 ^ lnM v ≤ b20 ^ 52 := Nat.pow_le_pow_right b20_pos (by omega)
      have h5 : v < b20 ^ (51 + 1) := Nat.lt_of_lt_of_le h1 h2
      have h6 : 16 ≤ v / b20 ^ 51 := by
        rw [Nat.le_div_iff_mul_le hp, Nat.mul_comm, ← e]; omega
      refine Or.inr ⟨?_, by rw [dg_top h5]; omega⟩
      exact lnM_at h5 (by decide) (by rw [dg_top h5]; omega)
