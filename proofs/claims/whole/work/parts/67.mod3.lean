/-! the model: bits -/
theorem bl_half {x : Nat} (hx : 0 < x) (h : x < vLim) : bl x = bl (x / 2) + 1 := by
  by_cases h2 : 2 ≤ x
  · have := bl_shift (s := 1) h (by rw [Nat.pow_one]; exact h2)
    rw [Nat.pow_one] at this; exact this
  · have e : x = 1 := by omega
    subst e
    rw [show (1 : Nat) / 2 = 0 from rfl, bl_0]
    exact bl_eq (by decide) (fun _ => by decide) (by decide)
theorem bl_20 {v : Nat} (hv : v < m1024) (h0 : 0 < lnM v) : bl v = 20 * (lnM v - 1) + bl (dg v (lnM v - 1)) := by
  have hL : v < vLim := Nat.lt_of_lt_of_le hv m1024_lim
  have h1 := lnM_ge h0
  have hm : v < mM := Nat.lt_of_lt_of_le hv (by unfold m1024 mM; rw [b20_two]; exact Nat.pow_le_pow_right (by decide) (by decide))
  have h2 := lnM_lt hm
  obtain ⟨r, hr⟩ : ∃ r, lnM v = r + 1 := ⟨lnM v - 1, by omega⟩
  rw [hr] at h1 h2 ⊢
  rw [Nat.add_sub_cancel] at h1 ⊢
  rw [dg_top h2, b20_two]
  rw [b20_two] at h1
  rw [bl_shift hL h1, Nat.add_comm]
theorem ij_shrN {d k : Nat} (hd : d < 2147483648) (hk : k < 32) : nI d >>> (nI k &&& 31) = nI (d / 2 ^ k) := by
  have hD : ∀ k : Fin 32, ((nI k.val &&& 31).toBitVec.smod 32).toNat = k.val := by decide +kernel
  have h1 := ij_shr (nI d) k (hD ⟨k, hk⟩)
  apply ij_inj
  have h2 : d / 2 ^ k ≤ d := Nat.div_le_self _ _
  rw [h1, ij_nI hd, ij_nI (by omega)]
  push_cast; rfl
theorem ij_and1 {d : Nat} (hd : d < 2147483648) : nI d &&& nI 1 = nI (d % 2) := by
  have e : (nI d &&& nI 1).toBitVec.toNat = d % 2 := by
    rw [Int32.toBitVec_and, BitVec.toNat_and]
    have h1 : (nI d).toBitVec.toNat = d := by show (BitVec.ofNat 32 d).toNat = d; rw [BitVec.toNat_ofNat]; omega
    have h2 : (nI 1).toBitVec.toNat = 2 ^ 1 - 1 := by decide +kernel
    rw [h1, h2, Nat.and_two_pow_sub_one_eq_mod]
  have e2 : (nI (d % 2)).toBitVec.toNat = d % 2 := by show (BitVec.ofNat 32 (d % 2)).toNat = d % 2; rw [BitVec.toNat_ofNat]; omega
  exact Int32.toBitVec_inj.mp (BitVec.eq_of_toNat_eq (e.trans e2.symm))
theorem tb_dg (v i : Nat) : dg v (i / 20) / 2 ^ (i % 20) % 2 = v / 2 ^ i % 2 := by
  unfold dg
  rw [b20_two]
  have h1 : 2 ^ i = 2 ^ (20 * (i / 20)) * 2 ^ (i % 20) := by rw [← Nat.pow_add, Nat.div_add_mod]
  have h2 : b20 = 2 ^ (i % 20) * 2 ^ (20 - i % 20) := by rw [← Nat.pow_add, show i % 20 + (20 - i % 20) = 20 by omega]; rfl
  rw [h1, ← Nat.div_div_eq_div_mul, h2]
  generalize v / 2 ^ (20 * (i / 20)) = w
  rw [Nat.mod_mul_right_div_self]
  have h3 : 2 ^ (20 - i % 20) = 2 * 2 ^ (20 - i % 20 - 1) := by rw [← Nat.pow_succ']; congr 1; omega
  rw [h3, Nat.mod_mul_right_mod]
theorem tb_iff (v i : Nat) : v.testBit i = decide (v / 2 ^ i % 2 = 1) := by
  rw [Nat.testBit_eq_decide_div_mod_eq]
theorem tb_big {v i : Nat} (hv : v < mM) (hi : 2160 ≤ i) : v.testBit i = false := by
  refine Nat.testBit_lt_two_pow (Nat.lt_of_lt_of_le hv ?_)
  unfold mM; rw [b20_two]; exact Nat.pow_le_pow_right (by decide) (by omega)
theorem or_bit {d k : Nat} (hd : d < 1048576) (hk : k < 20) (h : d / 2 ^ k % 2 = 0) : nI d ||| (nI 1 <<< (nI k &&& 31)) = nI (d + 2 ^ k) ∧ d + 2 ^ k < 1048576 := by
  have hs : ∀ k : Fin 20, nI 1 <<< (nI k.val &&& 31) = nI (2 ^ k.val) := by decide +kernel
  have hp : 2 ^ k < 1048576 := Nat.pow_lt_pow_right (by decide) hk
  have hsum : d + 2 ^ k < 1048576 := by
    have h1 : 2 ^ (k + 1) * 2 ^ (19 - k) = 1048576 := by rw [← Nat.pow_add, show k + 1 + (19 - k) = 20 by omega]
    have h2 := Nat.div_add_mod d (2 ^ k)
    have h3 := Nat.mod_lt d (Nat.two_pow_pos k)
    have h4 := Nat.div_add_mod (d / 2 ^ k) 2
    rw [h, Nat.add_zero] at h4
    have h5 : d / 2 ^ k / 2 < 2 ^ (19 - k) := by
      rw [Nat.div_div_eq_div_mul, ← Nat.pow_succ]
      exact Nat.div_lt_of_lt_mul (by rw [h1]; exact hd)
    have h6 : 2 ^ (k + 1) * (d / 2 ^ k / 2 + 1) ≤ 2 ^ (k + 1) * 2 ^ (19 - k) := Nat.mul_le_mul_left _ h5
    rw [h1, Nat.mul_add, Nat.pow_succ, Nat.mul_assoc, h4] at h6
    omega
  refine ⟨?_, hsum⟩
  rw [hs ⟨k, hk⟩]
  apply Int32.toBitVec_inj.mp
  apply BitVec.eq_of_toNat_eq
  rw [Int32.toBitVec_or, BitVec.toNat_or]
  have t : ∀ n, n < 4294967296 → (nI n).toBitVec.toNat = n := fun n hn => by show (BitVec.ofNat 32 n).toNat = n; rw [BitVec.toNat_ofNat]; omega
  rw [t d (by omega), t (2 ^ k) (by omega), t (d + 2 ^ k) (by omega)]
  apply Nat.eq_of_testBit_eq
  intro j
  have h2 := Nat.div_add_mod d (2 ^ k)
  have h3 := Nat.mod_lt d (Nat.two_pow_pos k)
  have h4 := Nat.div_add_mod (d / 2 ^ k) 2
  rw [h, Nat.add_zero] at h4
  generalize d / 2 ^ k / 2 = q at *
  generalize hl : d % 2 ^ k = lo at *
  have e1 : d = 2 ^ (k + 1) * q + lo := by rw [Nat.pow_succ, Nat.mul_assoc, h4]; exact h2.symm
  have e2 : d + 2 ^ k = 2 ^ (k + 1) * q + (2 ^ k + lo) := by omega
  have hlo : lo < 2 ^ (k + 1) := by rw [Nat.pow_succ]; omega
  have hlo2 : 2 ^ k + lo < 2 ^ (k + 1) := by rw [Nat.pow_succ]; omega
  rw [e2, e1, Nat.testBit_or, Nat.testBit_two_pow_mul_add _ hlo, Nat.testBit_two_pow_mul_add _ hlo2]
  by_cases hj : j < k + 1
  · rw [if_pos hj, if_pos hj]
    have e3 : 2 ^ k + lo = 2 ^ k * 1 + lo := by omega
    rw [e3, Nat.testBit_two_pow_mul_add _ h3]
    by_cases hj2 : j < k
    · rw [if_pos hj2, Nat.testBit_two_pow_of_ne (by omega), Bool.or_false]
    · have : j = k := by omega
      subst this
      rw [if_neg hj2, Nat.testBit_two_pow_self, Bool.or_true, Nat.sub_self]; rfl
  · rw [if_neg hj, if_neg hj, Nat.testBit_two_pow_of_ne (by omega), Bool.or_false]
theorem ra_eq {v i : Nat} (h : v / 2 ^ i % 2 = 0) : sD v (i / 20) (dg v (i / 20) + 2 ^ (i % 20)) = v + 2 ^ i := by
  have h1 := sD_eq v (i / 20) (dg v (i / 20) + 2 ^ (i % 20))
  rw [Nat.add_mul] at h1
  have h2 : 2 ^ (i % 20) * b20 ^ (i / 20) = 2 ^ i := by rw [b20_two, ← Nat.pow_add, Nat.add_comm, Nat.div_add_mod]
  rw [h2] at h1; omega
