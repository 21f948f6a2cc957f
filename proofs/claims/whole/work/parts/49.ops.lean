/-! what the calls do, told in whole numbers: z registers, oc_ the code under which the law's helper tells an exception (0: none), ow_ the new number -/
abbrev eUO : String := "java/lang/UnsupportedOperationException"
abbrev eIA : String := "java/lang/IllegalArgumentException"
abbrev eAR : String := "java/lang/ArithmeticException"
abbrev eIS : String := "java/lang/IllegalStateException"
abbrev eNE : String := "java/util/NoSuchElementException"
def rg (r : Int32) : Nat := r.toInt.toNat
theorem rg_all : ∀ x : Fin 12, rg (nI x.val) = x.val ∧ isR (nI x.val) := by decide +kernel
theorem rg_nI {x : Nat} (h : x < 12) : rg (nI x) = x := (rg_all ⟨x, h⟩).1
theorem isR_nI {x : Nat} (h : x < 12) : isR (nI x) := (rg_all ⟨x, h⟩).2
theorem eP_1 {oc : Nat} {es : List (String × Nat)} (h : oc = 1) : eP oc ((eIX, 1) :: es) eIX := by subst h; exact List.mem_cons_self
theorem eP_k {oc k : Nat} {es : List (String × Nat)} {E : String} (h : oc = k) (hm : (E, k) ∈ es) : eP oc es E := by subst h; exact hm
def sgI (b : Bool) (n : Nat) : Int := if b = true then -(n : Int) else n
theorem sgI_abs (b : Bool) (n : Nat) : (sgI b n).natAbs = n := by unfold sgI; split <;> omega
theorem sgI_neg (b : Bool) (n : Nat) : decide (sgI b n < 0) = (b && !decide (n = 0)) := by
  unfold sgI; cases b
  · simp
  · by_cases h : n = 0
    · subst h; simp
    · simp [h]; omega
theorem sgI_self (x : Int) : sgI (decide (x < 0)) x.natAbs = x := by
  unfold sgI
  by_cases h : x < 0
  · rw [if_pos (decide_eq_true h)]; omega
  · rw [if_neg (by simp; omega)]; omega
def cI (z : Nat → Int) (V : Nat → Nat) (K : wUt) : Prop := (∀ i, i < 12 → (z i).natAbs < m1024 ∧ V i = (z i).natAbs ∧ K i = bI (decide (z i < 0))) ∧ ∀ n, n < 34 → V n < vLim
def cQ (z : Nat → Int) (K : wUt) (c : Int32) : (Nat → Nat) → wUt → Prop := fun V' K' => cI z V' K' ∧ K' 14 = c ∧ K' 15 = K 15 ∧ K' 16 = K 16
section CI
variable {z : Nat → Int} {V V' : Nat → Nat} {K K' : wUt} {x n v : Nat} {w : Int} {b : Bool}
theorem cI.lt (h : cI z V K) (hx : x < 12) : V x < m1024 := by rw [(h.1 x hx).2.1]; exact (h.1 x hx).1
theorem cI.q (h : cI z V K) : cQ z K (K 14) V K := ⟨h, rfl, rfl, rfl⟩
theorem cQ_x (h : cI z V K) (hp : xE V K V' K') : cQ z K (K 14) V' K' := by obtain ⟨rfl, rfl⟩ := hp; exact h.q
theorem cI.up (h : cI z V K) (hx : x < 12) (hw : w.natAbs < m1024) : cI (va_up z x w) (va_up V x w.natAbs) (va_up K x (bI (decide (w < 0)))) := by
  refine ⟨fun i hi => ?_, fun n hn => ?_⟩
  · by_cases e : i = x
    · subst e; rw [va_up_self, va_up_self, va_up_self]; exact ⟨hw, rfl, rfl⟩
    · rw [va_up_ne _ _ e, va_up_ne _ _ e, va_up_ne _ _ e]; exact h.1 i hi
  · by_cases e : n = x
    · subst e; rw [va_up_self]; exact Nat.lt_of_lt_of_le hw m1024_lim
    · rw [va_up_ne _ _ e]; exact h.2 n hn
theorem cI.take (h : cI z V K) (hx : x < 12) (hv : V n = v) (hm : v < m1024) : cI (va_up z x (sgI b v)) (va_up V x (V n)) (va_up K x (bI (b && !decide (V n = 0)))) := by
  have h1 := h.up (x := x) (w := sgI b v) hx (by rw [sgI_abs]; exact hm)
  rw [sgI_abs, sgI_neg, ← hv] at h1
  rw [← hv]; exact h1
theorem cI.out (h : cI z V K) (hn : 12 ≤ n) (hv : v < vLim) : cI z (va_up V n v) K := by
  refine ⟨fun i hi => ?_, fun k hk => ?_⟩
  · rw [va_up_ne _ _ (by omega)]; exact h.1 i hi
  · by_cases e : k = n
    · subst e; rw [va_up_self]; exact hv
    · rw [va_up_ne _ _ e]; exact h.2 k hk
theorem cI.outK {c : Int32} (h : cI z V K) (hn : 12 ≤ n) : cI z V (va_up K n c) :=
  ⟨fun i hi => by rw [va_up_ne _ _ (by omega)]; exact h.1 i hi, h.2⟩
theorem cI.same (h : cI z V K) (h1 : ∀ n, n < 12 → V' n = V n) (h2 : ∀ n, n < 34 → V' n < vLim) (h3 : ∀ i, i < 12 → K' i = K i) : cI z V' K' :=
  ⟨fun i hi => by rw [h1 i hi, h3 i hi]; exact h.1 i hi, h2⟩
theorem cQ_up {c : Int32} (h : cI (va_up z x w) V' (va_up K' x c)) (hx : x < 14) (h14 : K' 14 = K 14) (h15 : K' 15 = K 15) (h16 : K' 16 = K 16) : cQ (va_up z x w) K (K 14) V' (va_up K' x c) :=
  ⟨h, by rw [va_up_ne _ _ (by omega)]; exact h14, by rw [va_up_ne _ _ (by omega)]; exact h15, by rw [va_up_ne _ _ (by omega)]; exact h16⟩
end CI
/-! sums -/
theorem sV_int (x y : Int) (s : Bool) (hs : y ≠ 0 → s = decide (y < 0)) : sV (decide (x < 0)) s x.natAbs y.natAbs = (x + y).natAbs := by
  unfold sV
  by_cases hy : y = 0
  · subst hy
    simp only [Int.natAbs_zero, Int.add_zero, Nat.add_zero, Nat.zero_le, if_true, Nat.sub_zero]
    split <;> rfl
  · rw [hs hy]
    by_cases h1 : x < 0 <;> by_cases h2 : y < 0 <;> simp only [h1, h2, decide_true, decide_false, if_true, Bool.true_eq_false, Bool.false_eq_true, if_false] <;> (try split) <;> omega
theorem sB_int (x y : Int) (s : Bool) (hs : y ≠ 0 → s = decide (y < 0)) : sB (decide (x < 0)) s x.natAbs y.natAbs = decide (x + y < 0) := by
  unfold sB
  rw [sV_int x y s hs]
  unfold sG
  by_cases hy : y = 0
  · subst hy
    simp only [Int.natAbs_zero, Int.add_zero, Nat.zero_le, if_true]
    have e : (if decide (x < 0) = s then decide (x < 0) else decide (x < 0)) = decide (x < 0) := by split <;> rfl
    rw [e]
    by_cases h1 : x < 0
    · have : ¬ x.natAbs = 0 := by omega
      simp [h1]; omega
    · simp [h1]
  · rw [hs hy]
    by_cases h1 : x < 0 <;> by_cases h2 : y < 0 <;> by_cases h3 : y.natAbs ≤ x.natAbs <;> by_cases h4 : (x + y).natAbs = 0 <;> by_cases h5 : x + y < 0 <;> simp only [h1, h2, h3, h4, h5, decide_true, decide_false, if_true, Bool.true_eq_false, Bool.false_eq_true, if_false, Bool.not_true, Bool.not_false, Bool.and_true, Bool.and_false] <;> first | rfl | omega
/-! roots and inverses: found by going down -/
def rtG (a k : Nat) : Nat → Nat
  | 0 => 0
  | n + 1 => if (n + 1) ^ k ≤ a then n + 1 else rtG a k n
def rtN (a k : Nat) : Nat := rtG a k a
theorem rtG_eq {a k q : Nat} (h1 : q ^ k ≤ a) (h2 : a < (q + 1) ^ k) : ∀ n, q ≤ n → rtG a k n = q
  | 0, h => by
    have : q = 0 := by omega
    subst this; rfl
  | n + 1, h => by
    show (if (n + 1) ^ k ≤ a then n + 1 else rtG a k n) = q
    by_cases e : q = n + 1
    · subst e; rw [if_pos h1]
    · have h3 : (q + 1) ^ k ≤ (n + 1) ^ k := Nat.pow_le_pow_left (by omega) k
      rw [if_neg (by omega)]; exact rtG_eq h1 h2 n (by omega)
theorem rtN_eq {a k q : Nat} (hk : 0 < k) (h1 : q ^ k ≤ a) (h2 : a < (q + 1) ^ k) : rtN a k = q := by
  refine rtG_eq h1 h2 a ?_
  by_cases e : q = 0
  · omega
  · refine Nat.le_trans ?_ h1
    conv => lhs; rw [← Nat.pow_one q]
    exact Nat.pow_le_pow_right (by omega) hk
theorem rtN_le (a k : Nat) : rtN a k ≤ a := by
  unfold rtN
  have h : ∀ n, rtG a k n ≤ n := fun n => by
    induction n with
    | zero => exact Nat.le_refl _
    | succ n ih =>
      show (if (n + 1) ^ k ≤ a then n + 1 else rtG a k n) ≤ n + 1
      split
      · exact Nat.le_refl _
      · omega
  exact h a
def ivG (a m : Nat) : Nat → Nat
  | 0 => 0
  | n + 1 => if n * a % m = 1 % m then n else ivG a m n
def ivN (a m : Nat) : Nat := ivG a m m
theorem iv_uniq {a m x y : Nat} (hx : x < m) (hy : y < m) (h1 : x * a % m = 1 % m) (h2 : y * a % m = 1 % m) : x = y := by
  have e1 : x * (y * a) % m = x % m := by rw [Nat.mul_mod, h2, ← Nat.mul_mod, Nat.mul_one]
  have e2 : y * (x * a) % m = y % m := by rw [Nat.mul_mod, h1, ← Nat.mul_mod, Nat.mul_one]
  rw [Nat.mod_eq_of_lt hx] at e1
  rw [Nat.mod_eq_of_lt hy] at e2
  rw [Nat.mul_left_comm] at e1
  exact e1.symm.trans e2
theorem ivN_eq {a m x : Nat} (hx : x < m) (h1 : x * a % m = 1 % m) : ivN a m = x := by
  have h : ∀ n, n ≤ m → x < n → ivG a m n = x := fun n => by
    induction n with
    | zero => intro _ h; omega
    | succ n ih =>
      intro hn h
      show (if n * a % m = 1 % m then n else ivG a m n) = x
      by_cases e : n * a % m = 1 % m
      · rw [if_pos e]; exact iv_uniq (by omega) hx e h1
      · rw [if_neg e]
        have : x ≠ n := fun q => e (q ▸ h1)
        exact ih (by omega) (by omega)
  exact h m (Nat.le_refl _) hx
/-- what Euclid's run leaves, brought within the modulus, is the inverse -/
theorem iv_of_eInv {m b f f1 : Nat} {sg : Bool} (hb : b < m) (h : eInv m b 1 0 f f1 sg) : f ≤ m ∧ bfw sg f m < m ∧ bfw sg f m * b % m = 1 % m := by
  obtain ⟨-, g2, -, ⟨u, g4⟩, -, g6, g7⟩ := h
  have hf : f ≤ m := by have := (g6 (by omega)).1; omega
  have hI : ∀ (x : Nat) (v : Int), (x : Int) * b = 1 + v * m → x * b % m = 1 % m := fun x v q => by
    have : ((x * b % m : Nat) : Int) = ((1 % m : Nat) : Int) := by
      push_cast
      rw [q, Int.add_mul_emod_self_right]
    exact_mod_cast this
  unfold bfw
  cases sg
  · simp only [Bool.false_and, Bool.false_eq_true, if_false] at g4 ⊢
    have e1 : f * b % m = 1 % m := hI f (-u) (by rw [Int.neg_mul]; omega)
    refine ⟨hf, ?_, e1⟩
    by_cases e : f = m
    · subst e
      rw [Nat.mul_mod_right] at e1
      by_cases e2 : f = 1
      · have := (g7 (by omega)).2; omega
      · rw [Nat.mod_eq_of_lt (by omega)] at e1; omega
    · omega
  · simp only [if_true, Bool.true_and] at g4 ⊢
    by_cases e : f = 0
    · subst e
      simp only [decide_true, Bool.not_true, Bool.false_eq_true, if_false]
      exact ⟨hf, by omega, hI 0 (-u) (by rw [Int.neg_mul]; simp at g4 ⊢; omega)⟩
    · simp only [e, decide_false, Bool.not_false, if_true]
      refine ⟨hf, by omega, hI (m - f) (b - u) ?_⟩
      rw [show ((m - f : Nat) : Int) = (m : Int) - f from by omega, Int.sub_mul, Int.sub_mul]
      rw [Int.neg_mul] at g4
      rw [Int.mul_comm (b : Int) m]
      omega
/-! the codes and the new numbers -/
def ocF (g : Prop) [Decidable g] (w : Int) : Nat := if g then (if w.natAbs < m1024 then 0 else 2) else 1
theorem ocF_1 {g : Prop} [Decidable g] {w : Int} (h : ¬ g) : ocF g w = 1 := if_neg h
theorem ocF_2 {g : Prop} [Decidable g] {w : Int} (h : g) (hw : ¬ w.natAbs < m1024) : ocF g w = 2 := by unfold ocF; rw [if_pos h, if_neg hw]
theorem ocF_0 {g : Prop} [Decidable g] {w : Int} (h : g) (hw : w.natAbs < m1024) : ocF g w = 0 := by unfold ocF; rw [if_pos h, if_pos hw]
def ocG (g : Prop) [Decidable g] (k : Nat) : Nat := if g then k else 1
theorem ocG_1 {g : Prop} [Decidable g] {k : Nat} (h : ¬ g) : ocG g k = 1 := if_neg h
theorem ocG_k {g : Prop} [Decidable g] {k : Nat} (h : g) : ocG g k = k := if_pos h
def dvS (dn : Bool) (x y : Int) : Bool := dn && (decide (x < 0) != decide (y < 0)) && !decide (x.natAbs % y.natAbs = 0)
def dvQ (dn : Bool) (x y : Int) : Int := sgI (decide (x < 0) != decide (y < 0)) (x.natAbs / y.natAbs + if dvS dn x y = true then 1 else 0)
def dvR (dn : Bool) (x y : Int) : Int := if dvS dn x y = true then sgI (decide (y < 0)) (y.natAbs - x.natAbs % y.natAbs) else sgI (decide (x < 0)) (x.natAbs % y.natAbs)
def dvC (q r : Int32) (y : Int) : Nat := if q = r then 2 else if y = 0 then 3 else 0
def shD (x : Int) (k : Nat) : Int := sgI (decide (x < 0)) (x.natAbs / 2 ^ k + if (decide (x < 0) && decide (x.natAbs % 2 ^ k ≠ 0)) = true then 1 else 0)
def shW (x n : Int) : Int := if n ≤ 0 then shD x (-n).toNat else x * 2 ^ n.toNat
def shC (x n : Int) : Nat := if x ≠ 0 ∧ 1024 < (bl x.natAbs : Int) + n then 2 else 0
def rtC (k : Int32) (x : Int) : Nat := if nI 1 ≤ k then (if x < 0 then 3 else 0) else 2
def pwC (e m : Int) : Nat := if m ≤ 0 ∨ e < 0 then 2 else 0
def rdI (x m : Int) : Nat := rdc (decide (x < 0)) x.natAbs m.natAbs
def pwW (x e m : Int) : Nat := rdI x m ^ e.natAbs % m.natAbs
def ivC (x m : Int) : Nat := if m ≤ 0 then 2 else if Nat.gcd m.natAbs (rdI x m) = 1 then 0 else 3
def ivW (x m : Int) : Nat := ivN (rdI x m) m.natAbs
def cmpI (x y : Int) : Int32 := if x < y then -1 else if x = y then 0 else 1
def bitI (x : Int) (k : Nat) : Int32 := if (x.natAbs.testBit k != (decide (x < 0) && decide (x.natAbs % 2 ^ k ≠ 0))) = true then (1 : Int32) else 0
def lowI (x : Int) : Int64 := if x < 0 then -(lN x.natAbs) else lN x.natAbs
theorem cmpI_eq (x y : Int) : (if decide (x < 0) = decide (y < 0) then (if decide (x < 0) = true then cmp3 y.natAbs x.natAbs else cmp3 x.natAbs y.natAbs) else if decide (x < 0) = true then (-1 : Int32) else 1) = cmpI x y := by
  unfold cmpI cmp3
  by_cases h1 : x < 0 <;> by_cases h2 : y < 0 <;> simp only [h1, h2, decide_true, decide_false, if_true, Bool.true_eq_false, Bool.false_eq_true, if_false]
  · by_cases h3 : x < y
    · rw [if_pos (by omega), if_pos h3]
    · by_cases h4 : x = y
      · rw [if_neg (by omega), if_pos (by omega), if_neg h3, if_pos h4]
      · rw [if_neg (by omega), if_neg (by omega), if_neg h3, if_neg h4]
  · rw [if_pos (by omega)]
  · rw [if_neg (by omega), if_neg (by omega)]
  · by_cases h3 : x < y
    · rw [if_pos (by omega), if_pos h3]
    · by_cases h4 : x = y
      · rw [if_neg (by omega), if_pos (by omega), if_neg h3, if_pos h4]
      · rw [if_neg (by omega), if_neg (by omega), if_neg h3, if_neg h4]
theorem nb_neg (y : Int) (h : -y ≠ 0) : (decide (y < 0) != true) = decide (-y < 0) := by
  by_cases h1 : y < 0
  · simp [h1]; omega
  · simp [h1]; omega
theorem cQ_keep {z : Nat → Int} {V : Nat → Nat} {K : wUt} {x : Nat} {w : Int} (hc : cI z V K) (hx : x < 12) (hm : w.natAbs < m1024) : cQ (va_up z x w) K (K 14) (va_up (va_up V 12 w.natAbs) x ((va_up V 12 w.natAbs) 12)) (va_up (va_up K 12 (bI (decide (w < 0)))) x (bI (decide (w < 0) && !decide ((va_up V 12 w.natAbs) 12 = 0)))) := by
  have h1 : cI z (va_up V 12 w.natAbs) (va_up K 12 (bI (decide (w < 0)))) := (hc.out (by omega) (Nat.lt_of_lt_of_le hm m1024_lim)).outK (by omega)
  have h2 := h1.take (b := decide (w < 0)) (x := x) (n := 12) (v := w.natAbs) hx (va_up_self _ _ _) hm
  rw [sgI_self] at h2
  exact cQ_up h2 (by omega) (va_up_ne _ _ (by omega)) (va_up_ne _ _ (by omega)) (va_up_ne _ _ (by omega))
/-- a number of the world taken into a register: all else is as before -/
theorem cQ_take {z : Nat → Int} {V : Nat → Nat} {K K0 : wUt} {x n v : Nat} {b : Bool} {w : Int} (hc : cI z V K) (hx : x < 12) (hv : V n = v) (hm : v < m1024) (hw : w = sgI b v) (h14 : K 14 = K0 14) (h15 : K 15 = K0 15) (h16 : K 16 = K0 16) : cQ (va_up z x w) K0 (K0 14) (va_up V x (V n)) (va_up K x (bI (b && !decide (V n = 0)))) := by
  subst hw; exact cQ_up (hc.take hx hv hm) (by omega) h14 h15 h16
theorem sgI_f (n : Nat) : (n : Int) = sgI false n := rfl
theorem ng_t {x : Int} (h : x < 0) : decide (x < 0) = true := decide_eq_true h
theorem ng_f {x : Int} (h : ¬ x < 0) : decide (x < 0) = false := decide_eq_false h
theorem sum_lim {x y : Int} (hx : x.natAbs < m1024) (hy : y.natAbs < m1024) : (x + y).natAbs < vLim := by
  have h1 : (x + y).natAbs ≤ x.natAbs + y.natAbs := Int.natAbs_add_le x y
  have h2 : m1024 + m1024 ≤ vLim := by rw [vLim_two]; unfold m1024; rw [← Nat.two_mul, ← Nat.pow_succ']; exact Nat.pow_le_pow_right (by decide) (by decide)
  omega
theorem mul_lim {x y : Int} (hx : x.natAbs < m1024) (hy : y.natAbs < m1024) : (x * y).natAbs < vLim := by
  rw [Int.natAbs_mul, vLim_two]
  refine Nat.lt_of_lt_of_le (Nat.mul_lt_mul'' hx hy) ?_
  unfold m1024; rw [← Nat.pow_add]; exact Nat.pow_le_pow_right (by decide) (by decide)
theorem mul_sgn (x y : Int) : ((decide (x < 0) != decide (y < 0)) && !decide (x.natAbs * y.natAbs = 0)) = decide (x * y < 0) := by
  rw [← Int.natAbs_mul]
  have h := sgI_neg (decide (x < 0) != decide (y < 0)) (x * y).natAbs
  rw [← h]
  congr 1
  have e : sgI (decide (x < 0) != decide (y < 0)) (x * y).natAbs = x * y := by
    unfold sgI
    by_cases h1 : x < 0 <;> by_cases h2 : y < 0 <;> simp only [h1, h2, decide_true, decide_false, bne_self_eq_false, Bool.false_eq_true, if_false, bne, BEq.rfl, Bool.not_true, Bool.not_false]
    · have := Int.mul_pos_of_neg_of_neg h1 h2; omega
    · have := Int.mul_nonpos_of_nonpos_of_nonneg (by omega : x ≤ 0) (by omega : 0 ≤ y); simp; omega
    · have := Int.mul_nonpos_of_nonneg_of_nonpos (by omega : 0 ≤ x) (by omega : y ≤ 0); simp; omega
    · have := Int.mul_nonneg (by omega : 0 ≤ x) (by omega : 0 ≤ y); omega
  rw [e]
theorem dv_q1 {a b : Nat} (h : a % b ≠ 0) : a / b + 1 ≤ a := by
  have h1 := Nat.div_add_mod a b
  by_cases hb : b = 0
  · subst hb; simp at h ⊢; omega
  · have h2 : 1 * (a / b) ≤ b * (a / b) := Nat.mul_le_mul_right _ (by omega)
    omega
theorem dvQ_n {dn : Bool} {x y : Int} {bx b : Bool} (h : dvS dn x y = false) (hx : decide (x < 0) = bx) (hy : decide (y < 0) = b) : dvQ dn x y = sgI (bx != b) (x.natAbs / y.natAbs) := by
  unfold dvQ; rw [h, hx, hy]; simp
theorem dvR_n {dn : Bool} {x y : Int} {bx : Bool} (h : dvS dn x y = false) (hx : decide (x < 0) = bx) : dvR dn x y = sgI bx (x.natAbs % y.natAbs) := by
  unfold dvR; rw [h, hx]; simp
theorem dvQ_s {dn : Bool} {x y : Int} {bx b : Bool} (h : dvS dn x y = true) (hx : decide (x < 0) = bx) (hy : decide (y < 0) = b) : dvQ dn x y = sgI (bx != b) (x.natAbs / y.natAbs + 1) := by
  unfold dvQ; rw [h, hx, hy]; simp
theorem dvR_s {dn : Bool} {x y : Int} {b : Bool} (h : dvS dn x y = true) (hy : decide (y < 0) = b) : dvR dn x y = sgI b (y.natAbs - x.natAbs % y.natAbs) := by
  unfold dvR; rw [h, hy]; simp
theorem dvS_f {x y : Int} : dvS false x y = false := by unfold dvS; simp
theorem dvS_e {dn : Bool} {x y : Int} {b : Bool} (hx : decide (x < 0) = b) (hy : decide (y < 0) = b) : dvS dn x y = false := by unfold dvS; rw [hx, hy]; simp
theorem dvS_z {dn : Bool} {x y : Int} (h : x.natAbs % y.natAbs = 0) : dvS dn x y = false := by unfold dvS; simp [h]
theorem dvS_t {x y : Int} {bx b : Bool} (hx : decide (x < 0) = bx) (hy : decide (y < 0) = b) (hn : (bx != b) = true) (h : ¬ x.natAbs % y.natAbs = 0) : dvS true x y = true := by unfold dvS; rw [hx, hy, hn]; simp [h]
/-! shifts -/
theorem mx_neg (n : Int32) (h : ¬ 0 < n) : -(if n < (-1024) then (-1024) else n) = nI (min (-n.toInt).toNat 1024) := by
  have h0 : ¬ (0 : Int) < n.toInt := fun q => h (Int32.lt_iff_toInt_lt.mpr (by rw [show (0 : Int32).toInt = 0 by decide +kernel]; exact q))
  have e : (-1024 : Int32).toInt = -1024 := by decide +kernel
  split
  · rename_i q
    have q1 := Int32.lt_iff_toInt_lt.mp q
    rw [e] at q1
    rw [Nat.min_eq_right (by omega)]; decide +kernel
  · rename_i q
    have q1 : ¬ n.toInt < -1024 := fun w => q (Int32.lt_iff_toInt_lt.mpr (by rw [e]; exact w))
    rw [Nat.min_eq_left (by omega)]
    conv => lhs; rw [← Int32.ofInt_toInt n, ← Int32.ofInt_neg, ← Int.toNat_of_nonneg (by omega : 0 ≤ -n.toInt)]
    rfl
theorem nI_int {k : Nat} (h : k < 2147483648) : (nI k).toInt = k := Int32.toInt_ofNat_of_lt (by omega)
theorem pos_nI {n : Int32} (h : 0 < n) : ∃ k, 0 < k ∧ k < 2147483648 ∧ n = nI k := by
  have h1 := Int32.lt_iff_toInt_lt.mp h
  rw [show (0 : Int32).toInt = 0 by decide +kernel] at h1
  have h2 := n.toInt_lt
  refine ⟨n.toInt.toNat, by omega, by omega, ?_⟩
  conv => lhs; rw [← Int32.ofInt_toInt n, ← Int.toNat_of_nonneg (by omega : 0 ≤ n.toInt)]
  rfl
theorem nn_nI {n : Int32} (h : 0 ≤ n) : ∃ k, k < 2147483648 ∧ n = nI k := by
  have h1 := Int32.le_iff_toInt_le.mp h
  rw [show (0 : Int32).toInt = 0 by decide +kernel] at h1
  have h2 := n.toInt_lt
  refine ⟨n.toInt.toNat, by omega, ?_⟩
  conv => lhs; rw [← Int32.ofInt_toInt n, ← Int.toNat_of_nonneg (by omega : 0 ≤ n.toInt)]
  rfl
theorem npos_int {n : Int32} (h : ¬ 0 < n) : n.toInt ≤ 0 := by
  have e : (0 : Int32).toInt = 0 := by decide +kernel
  exact Int.not_lt.mp fun q => h (Int32.lt_iff_toInt_lt.mpr (by rw [e]; exact q))
theorem rg_k {k : Nat} (h : k < 2147483648) : rg (nI k) = k := by unfold rg; rw [nI_int h]; rfl
def shN (x : Int) (k : Nat) : Nat := x.natAbs / 2 ^ k + if (decide (x < 0) && decide (x.natAbs % 2 ^ k ≠ 0)) = true then 1 else 0
theorem shD_abs (x : Int) (k : Nat) : (shD x k).natAbs = shN x k := sgI_abs _ _
theorem shD_neg (x : Int) (k : Nat) : decide (shD x k < 0) = decide (x < 0) := by
  unfold shD; rw [sgI_neg]
  by_cases h : x < 0
  · have h1 := Nat.div_add_mod x.natAbs (2 ^ k)
    have h2 : ¬ (x.natAbs / 2 ^ k + (if (decide (x < 0) && decide (x.natAbs % 2 ^ k ≠ 0)) = true then 1 else 0)) = 0 := by
      by_cases h3 : x.natAbs % 2 ^ k = 0
      · intro q
        have h4 : x.natAbs / 2 ^ k = 0 := (Nat.add_eq_zero_iff.mp q).1
        rw [h4, Nat.mul_zero, h3] at h1; omega
      · simp [h, h3]
    rw [decide_eq_false h2, decide_eq_true h]; rfl
  · rw [decide_eq_false h]; rfl
theorem shN_le (x : Int) (k : Nat) : shN x k ≤ x.natAbs := by
  unfold shN
  by_cases h : (decide (x < 0) && decide (x.natAbs % 2 ^ k ≠ 0)) = true
  · rw [if_pos h]; exact dv_q1 (by simp at h; exact h.2)
  · rw [if_neg h]; exact Nat.div_le_self _ _
theorem shD_min {x : Int} {k : Nat} (hx : x.natAbs < m1024) : shD x (min k 1024) = shD x k := by
  by_cases h : k ≤ 1024
  · rw [Nat.min_eq_left h]
  · rw [Nat.min_eq_right (by omega)]
    have h1 : x.natAbs < 2 ^ k := Nat.lt_of_lt_of_le hx (Nat.pow_le_pow_right (by decide) (by omega))
    have h2 : x.natAbs < 2 ^ 1024 := hx
    unfold shD
    rw [Nat.div_eq_of_lt h1, Nat.mod_eq_of_lt h1, Nat.div_eq_of_lt h2, Nat.mod_eq_of_lt h2]
theorem mul2_abs (x : Int) (k : Nat) : (x * 2 ^ k).natAbs = x.natAbs * 2 ^ k := by rw [Int.natAbs_mul, Int.natAbs_pow]; rfl
theorem mul2_neg (x : Int) (k : Nat) : decide (x * 2 ^ k < 0) = decide (x < 0) := by
  have h1 : (0 : Int) < 2 ^ k := Int.pow_pos (by decide)
  by_cases h : x < 0
  · rw [decide_eq_true h, decide_eq_true (Int.mul_neg_of_neg_of_pos h h1)]
  · rw [decide_eq_false h, decide_eq_false (Int.not_lt.mpr (Int.mul_nonneg (by omega) (by omega)))]
theorem mul2_lt {v b k : Nat} (hv : v < 2 ^ b) (h : b + k ≤ 1024) : v * 2 ^ k < m1024 := by
  refine Nat.lt_of_lt_of_le (Nat.mul_lt_mul_of_pos_right hv (Nat.pow_pos (by decide))) ?_
  unfold m1024; rw [← Nat.pow_add]; exact Nat.pow_le_pow_right (by decide) h
theorem shW_n {x n : Int} (h : n ≤ 0) : shW x n = shD x (-n).toNat := if_pos h
theorem shW_p {x : Int} {k : Nat} (h : 0 < k) : shW x k = x * 2 ^ k := by unfold shW; rw [if_neg (by omega), Int.toNat_natCast]
