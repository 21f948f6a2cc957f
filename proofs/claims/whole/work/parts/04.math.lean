/-! numbers in digits: sums of digits times powers of a base -/
def lm_ev (B : Int) (f : Nat → Int) : Nat → Int
  | 0 => 0
  | n + 1 => lm_ev B f n + f n * B ^ n
theorem lm_ev0 (B : Int) (f : Nat → Int) : lm_ev B f 0 = 0 := rfl
theorem lm_evs (B : Int) (f : Nat → Int) (n : Nat) : lm_ev B f (n + 1) = lm_ev B f n + f n * B ^ n := rfl
theorem lm_congr {B : Int} {f g : Nat → Int} : ∀ {n : Nat}, (∀ j, j < n → f j = g j) → lm_ev B f n = lm_ev B g n
  | 0, _ => rfl
  | n + 1, h => by
    rw [lm_evs, lm_evs, lm_congr (fun j hj => h j (Nat.lt_succ_of_lt hj)), h n (Nat.lt_succ_self n)]
theorem lm_powpos {B : Int} (hB : 0 < B) (n : Nat) : 0 < B ^ n := Int.pow_pos hB
theorem lm_nonneg {B : Int} {f : Nat → Int} (hB : 0 < B) : ∀ {n : Nat}, (∀ j, j < n → 0 ≤ f j) → 0 ≤ lm_ev B f n
  | 0, _ => Int.le_refl 0
  | n + 1, h => by
    have h1 := lm_nonneg hB (n := n) (fun j hj => h j (Nat.lt_succ_of_lt hj))
    have h2 := Int.mul_nonneg (h n (Nat.lt_succ_self n)) (Int.le_of_lt (lm_powpos hB n))
    rw [lm_evs]; omega
theorem lm_lt {B : Int} {f : Nat → Int} (hB : 0 < B) : ∀ {n : Nat}, (∀ j, j < n → f j < B) → lm_ev B f n < B ^ n
  | 0, _ => by rw [lm_ev0]; exact Int.pow_pos hB
  | n + 1, h => by
    have h1 := lm_lt hB (n := n) (fun j hj => h j (Nat.lt_succ_of_lt hj))
    have h2 : f n + 1 ≤ B := h n (Nat.lt_succ_self n)
    have h3 := Int.mul_le_mul_of_nonneg_right h2 (Int.le_of_lt (lm_powpos hB n))
    rw [lm_evs, Int.pow_succ]
    grind
theorem lm_top {B : Int} {f : Nat → Int} (hB : 0 < B) {n : Nat} (h : ∀ j, j < n → 0 ≤ f j) (h1 : 1 ≤ f n) : B ^ n ≤ lm_ev B f (n + 1) := by
  have h2 := lm_nonneg hB h
  have h3 := Int.mul_le_mul_of_nonneg_right h1 (Int.le_of_lt (lm_powpos hB n))
  rw [lm_evs]; omega
theorem lm_tail {B : Int} {f : Nat → Int} {k : Nat} : ∀ {n : Nat}, k ≤ n → (∀ j, k ≤ j → j < n → f j = 0) → lm_ev B f n = lm_ev B f k
  | 0, h, _ => by rw [Nat.le_zero.mp h]
  | n + 1, h, h0 => by
    by_cases e : k = n + 1
    · rw [e]
    · have hk : k ≤ n := by omega
      rw [lm_evs, lm_tail hk (fun j a b => h0 j a (by omega)), h0 n hk (by omega)]; simp
theorem lm_split {B : Int} (f : Nat → Int) (m : Nat) : ∀ n : Nat, lm_ev B f (m + n) = lm_ev B f m + B ^ m * lm_ev B (fun j => f (m + j)) n
  | 0 => by simp [lm_ev0]
  | n + 1 => by
    rw [← Nat.add_assoc, lm_evs, lm_evs, lm_split f m n, Int.pow_add]
    grind
/-- digits of one number are the digits of any other that it equals -/
theorem lm_step {B : Int} (hB : 0 < B) {f : Nat → Int} {n : Nat} {c t S : Int} (h : lm_ev B f n + c * B ^ n = S) (x : Int) (ht : t = c + x) (hf : f n = t % B) : lm_ev B f (n + 1) + t / B * B ^ (n + 1) = S + x * B ^ n := by
  have e := Int.emod_add_mul_ediv t B
  rw [lm_evs, hf, Int.pow_succ]
  grind
theorem lm_mod {B : Int} (hB : 0 < B) (t : Int) : 0 ≤ t % B ∧ t % B < B := ⟨Int.emod_nonneg _ (by omega), Int.emod_lt_of_pos _ hB⟩
/-- the higher digits alike, the one at n greater: the number is greater -/
theorem lm_ltN {B : Int} (hB : 0 < B) {f g : Nat → Int} {n : Nat} (hf : ∀ j, j < n → f j < B) (hg : ∀ j, j < n → 0 ≤ g j) (h : f n < g n) : lm_ev B f (n + 1) < lm_ev B g (n + 1) := by
  have h1 := lm_lt hB hf
  have h2 := lm_nonneg hB hg
  have h3 : f n + 1 ≤ g n := h
  have h4 := Int.mul_le_mul_of_nonneg_right h3 (Int.le_of_lt (lm_powpos hB n))
  rw [lm_evs, lm_evs]
  grind
theorem lm_ltUp {B : Int} {f g : Nat → Int} {k : Nat} : ∀ {n : Nat}, k ≤ n → (∀ j, k ≤ j → j < n → f j = g j) → lm_ev B f k < lm_ev B g k → lm_ev B f n < lm_ev B g n
  | 0, h, _, h0 => by rw [Nat.le_zero.mp h] at h0; exact h0
  | n + 1, h, he, h0 => by
    by_cases e : k = n + 1
    · rw [← e]; exact h0
    · have hk : k ≤ n := by omega
      have := lm_ltUp hk (fun j a b => he j a (by omega)) h0
      rw [lm_evs, lm_evs, he n hk (by omega)]; omega
/-! longs and ints as whole numbers -/
theorem lj_add {x y : Int64} (h1 : -9223372036854775808 ≤ x.toInt + y.toInt) (h2 : x.toInt + y.toInt < 9223372036854775808) : (x + y).toInt = x.toInt + y.toInt := by
  rw [Int64.toInt_add]; exact Int.bmod_eq_of_le (by omega) (by omega)
theorem lj_sub {x y : Int64} (h1 : -9223372036854775808 ≤ x.toInt - y.toInt) (h2 : x.toInt - y.toInt < 9223372036854775808) : (x - y).toInt = x.toInt - y.toInt := by
  rw [Int64.toInt_sub]; exact Int.bmod_eq_of_le (by omega) (by omega)
theorem lj_mul {x y : Int64} (h1 : -9223372036854775808 ≤ x.toInt * y.toInt) (h2 : x.toInt * y.toInt < 9223372036854775808) : (x * y).toInt = x.toInt * y.toInt := by
  rw [Int64.toInt_mul]; exact Int.bmod_eq_of_le (by omega) (by omega)
theorem lj_shr (x : Int64) {D : Int64} (k : Nat) (hD : (D.toBitVec.smod 64).toNat = k) : (x >>> D).toInt = x.toInt / 2 ^ k := by
  have e : (x >>> D).toInt = x.toInt >>> k := by
    rw [← hD]
    exact BitVec.toInt_sshiftRight ..
  rw [e, Int.shiftRight_eq_div_pow]; rfl
theorem lj_shr28 (x : Int64) : (x >>> ((28 : Int32).toInt64 &&& 63)).toInt = x.toInt / 268435456 := by
  rw [lj_shr x 28 (by decide +kernel)]; rfl
theorem lj_shr20 (x : Int64) : (x >>> ((20 : Int32).toInt64 &&& 63)).toInt = x.toInt / 1048576 := by
  rw [lj_shr x 20 (by decide +kernel)]; rfl
theorem lj_toInt (x : Int64) : x.toInt = if x.toBitVec.toNat < 9223372036854775808 then (x.toBitVec.toNat : Int) else (x.toBitVec.toNat : Int) - 18446744073709551616 := by
  show x.toBitVec.toInt = _
  rw [BitVec.toInt_eq_toNat_cond]
  split <;> split <;> omega
theorem lj_andN (x : Int64) {m : Int64} (k : Nat) (hm : m.toBitVec.toNat = 2 ^ k - 1) : (x &&& m).toBitVec.toNat = x.toBitVec.toNat % 2 ^ k := by
  rw [Int64.toBitVec_and, BitVec.toNat_and, hm, Nat.and_two_pow_sub_one_eq_mod]
theorem lj_and28 (x : Int64) : (x &&& 268435455).toInt = x.toInt % 268435456 := by
  have e := lj_andN x (m := 268435455) 28 (by decide +kernel)
  rw [lj_toInt (x &&& 268435455), e, lj_toInt x]
  split <;> split <;> omega
theorem lj_and20 (x : Int64) : (x &&& 1048575).toInt = x.toInt % 1048576 := by
  have e := lj_andN x (m := 1048575) 20 (by decide +kernel)
  rw [lj_toInt (x &&& 1048575), e, lj_toInt x]
  split <;> split <;> omega
theorem lj_inj {x y : Int64} (h : x.toInt = y.toInt) : x = y := Int64.toInt_inj.mp h
theorem lj_0 : (0 : Int64).toInt = 0 := by decide +kernel
theorem lj_1 : (1 : Int64).toInt = 1 := by decide +kernel
theorem lj_lN {n : Nat} (h : n < 9223372036854775808) : (lN n).toInt = (n : Int) := pk_lT (by omega)
/-! a number's digits by a base, and how many there are -/
def lm_len (B v : Nat) : Nat → Nat
  | 0 => 0
  | n + 1 => if v / B ^ n = 0 then lm_len B v n else n + 1
theorem lm_len_le (B v : Nat) : ∀ n, lm_len B v n ≤ n
  | 0 => Nat.le_refl 0
  | n + 1 => by
    have := lm_len_le B v n
    unfold lm_len; split <;> omega
theorem lm_len_lt {B v : Nat} (hB : 0 < B) : ∀ {n}, v < B ^ n → v < B ^ lm_len B v n
  | 0, h => h
  | n + 1, h => by
    unfold lm_len; split
    · rename_i h0
      refine lm_len_lt hB ?_
      rcases Nat.div_eq_zero_iff.mp h0 with h1 | h1
      · exact absurd h1 (by have := Nat.pow_pos (n := n) hB; omega)
      · exact h1
    · exact h
theorem lm_len_ge {B v : Nat} : ∀ {n}, 0 < lm_len B v n → B ^ (lm_len B v n - 1) ≤ v
  | 0, h => absurd h (Nat.lt_irrefl 0)
  | n + 1, h => by
    unfold lm_len at h ⊢; split at h
    · rename_i h0
      rw [if_pos h0]
      exact lm_len_ge h
    · rename_i h0
      rw [if_neg h0]
      show B ^ n ≤ v
      apply Nat.le_of_not_lt
      intro h2
      exact h0 (Nat.div_eq_of_lt h2)
theorem lm_len_eq {B v k : Nat} (hB : 1 < B) (h1 : v < B ^ k) (h2 : 0 < k → B ^ (k - 1) ≤ v) : ∀ {n}, k ≤ n → lm_len B v n = k
  | 0, h => by unfold lm_len; omega
  | n + 1, h => by
    unfold lm_len
    by_cases e : k = n + 1
    · have h3 : B ^ n ≤ v := by have := h2 (by omega); rw [e] at this; exact this
      have h4 : v / B ^ n ≠ 0 := by
        have := Nat.div_pos h3 (Nat.pow_pos (by omega))
        omega
      rw [if_neg h4]; exact e.symm
    · have h3 : v < B ^ n := Nat.lt_of_lt_of_le h1 (Nat.pow_le_pow_right (by omega) (by omega))
      rw [if_pos (Nat.div_eq_of_lt h3)]
      exact lm_len_eq hB h1 h2 (by omega)
theorem lm_digit {B : Int} (hB : 0 < B) {f : Nat → Int} {n : Nat} {v : Int} (h : ∀ j, j < n → 0 ≤ f j ∧ f j < B) (hv : lm_ev B f n = v) {j : Nat} (hj : j < n) : f j = v / B ^ j % B := by
  obtain ⟨r, hr⟩ : ∃ r, n = j + (1 + r) := ⟨n - j - 1, by omega⟩
  have e1 := lm_split (B := B) f j (1 + r)
  have e2 := lm_split (B := B) (fun i => f (j + i)) 1 r
  have e3 : lm_ev B (fun i => f (j + i)) 1 = f j := by simp [lm_ev]
  rw [e3, Int.pow_one] at e2
  rw [← hr, hv, e2] at e1
  have n1 := lm_nonneg hB (f := f) (n := j) (fun i hi => (h i (by omega)).1)
  have n2 := lm_lt hB (f := f) (n := j) (fun i hi => (h i (by omega)).2)
  have hp := lm_powpos hB j
  rw [e1, Int.add_mul_ediv_left _ _ (by omega), Int.ediv_eq_zero_of_lt n1 n2, Int.zero_add, Int.add_mul_emod_self_left, Int.emod_eq_of_lt (h j hj).1 (h j hj).2]
/-- the canonical digits give the number again -/
theorem lm_evd {B : Nat} (hB : 0 < B) (v : Nat) : ∀ n, lm_ev (B : Int) (fun j => ((v / B ^ j % B : Nat) : Int)) n = ((v % B ^ n : Nat) : Int)
  | 0 => by simp [lm_ev, Nat.mod_one]
  | n + 1 => by
    rw [lm_evs, lm_evd hB v n, Nat.pow_succ, Nat.mod_mul]
    simp only [Int.natCast_add, Int.natCast_mul, Int.natCast_pow]
    grind
