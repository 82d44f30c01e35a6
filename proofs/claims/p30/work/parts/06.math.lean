/-! ===== numbers made of bits ===== -/
def mk (f : Nat → Bool) : Nat → Nat
  | 0 => 0
  | n + 1 => mk f n ||| ((f n).toNat <<< n)
theorem mk_0 (f : Nat → Bool) : mk f 0 = 0 := rfl
theorem mk_s (f : Nat → Bool) (n : Nat) : mk f (n + 1) = mk f n ||| ((f n).toNat <<< n) := rfl
theorem bit1_lt (b : Bool) (n : Nat) : b.toNat <<< n < 2 ^ (n + 1) := by
  rw [Nat.shiftLeft_eq, Nat.pow_succ]
  have h := Nat.two_pow_pos n
  cases b
  · simp only [Bool.toNat_false, Nat.zero_mul]; omega
  · simp only [Bool.toNat_true, Nat.one_mul]; omega
theorem mk_lt (f : Nat → Bool) : ∀ n, mk f n < 2 ^ n
  | 0 => Nat.zero_lt_one
  | n + 1 => by
    rw [mk_s]
    exact Nat.or_lt_two_pow (Nat.lt_of_lt_of_le (mk_lt f n) (Nat.pow_le_pow_right (by decide) (Nat.le_succ n))) (bit1_lt _ _)
theorem b1_bit (b : Bool) (n i : Nat) : (b.toNat <<< n).testBit i = (decide (i = n) && b) := by
  rw [Nat.testBit_shiftLeft]
  cases b
  · simp
  · by_cases h : i = n
    · subst h; simp
    · by_cases h2 : n ≤ i
      · have e : Nat.testBit 1 (i - n) = false := by
          rw [show (1 : Nat) = 2 ^ 0 from rfl, Nat.testBit_two_pow]
          simp; omega
        simp [h, h2, e]
      · simp [h, h2]
theorem mk_bit (f : Nat → Bool) (i : Nat) : ∀ n, (mk f n).testBit i = (decide (i < n) && f i)
  | 0 => by simp [mk]
  | n + 1 => by
    rw [mk_s, Nat.testBit_or, mk_bit f i n, b1_bit]
    by_cases h : i = n
    · subst h; simp
    · by_cases h2 : i < n
      · have h3 : i < n + 1 := by omega
        simp [h, h2, h3]
      · have h3 : ¬ i < n + 1 := by omega
        simp [h, h2, h3]
theorem mk_cong {f g : Nat → Bool} : ∀ {n : Nat}, (∀ i, i < n → f i = g i) → mk f n = mk g n
  | 0, _ => rfl
  | n + 1, h => by rw [mk_s, mk_s, mk_cong (n := n) (fun i hi => h i (by omega)), h n (by omega)]
theorem mk_ext {x y : Nat} (h : ∀ i, x.testBit i = y.testBit i) : x = y := Nat.eq_of_testBit_eq h
theorem tb_lt {x n i : Nat} (h : x < 2 ^ n) (hi : n ≤ i) : x.testBit i = false := Nat.testBit_lt_two_pow (Nat.lt_of_lt_of_le h (Nat.pow_le_pow_right (by decide) hi))
theorem mk_of {x n : Nat} (h : x < 2 ^ n) : mk x.testBit n = x := by
  refine mk_ext fun i => ?_
  rw [mk_bit]
  by_cases hi : i < n
  · simp [hi]
  · rw [tb_lt h (by omega)]; simp
theorem mk_inj {f g : Nat → Bool} {n : Nat} (h : mk f n = mk g n) : ∀ i, i < n → f i = g i := by
  intro i hi
  have h1 := mk_bit f i n
  rw [h, mk_bit g i n] at h1
  simp only [hi, decide_true, Bool.true_and] at h1
  exact h1.symm
theorem mk_full (n i : Nat) : (1 <<< n - 1).testBit i = decide (i < n) := by
  rw [Nat.one_shiftLeft, Nat.testBit_two_pow_sub_one]
theorem sh1 (n : Nat) : 1 <<< n = 2 ^ n := Nat.one_shiftLeft n
theorem sh1_pos (n : Nat) : 1 ≤ 1 <<< n := by rw [sh1]; exact Nat.two_pow_pos n
theorem and_full {x n : Nat} : x &&& (1 <<< n - 1) = x % 2 ^ n := by rw [Nat.one_shiftLeft, Nat.and_two_pow_sub_one_eq_mod]
theorem and_full_of {x n : Nat} (h : x < 2 ^ n) : x &&& (1 <<< n - 1) = x := by rw [and_full, Nat.mod_eq_of_lt h]
theorem mk_xor_full (f : Nat → Bool) (n : Nat) : mk f n ^^^ (1 <<< n - 1) = mk (fun i => !f i) n := by
  refine mk_ext fun i => ?_
  rw [Nat.testBit_xor, mk_bit, mk_bit, mk_full]
  by_cases h : i < n <;> simp [h]
theorem mk_wo_full (f : Nat → Bool) (n : Nat) : nw_wo (1 <<< n - 1) (mk f n) = mk (fun i => !f i) n := by
  refine mk_ext fun i => ?_
  rw [nw_wo_bit, mk_bit, mk_bit, mk_full]
  by_cases h : i < n <;> simp [h]
theorem mk_xor (f g : Nat → Bool) (n : Nat) : mk f n ^^^ mk g n = mk (fun i => f i ^^ g i) n := by
  refine mk_ext fun i => ?_
  rw [Nat.testBit_xor, mk_bit, mk_bit, mk_bit]
  by_cases h : i < n <;> simp [h]
/-- how many -/
def ct (f : Nat → Bool) : Nat → Nat
  | 0 => 0
  | n + 1 => ct f n + (f n).toNat
theorem ct_s (f : Nat → Bool) (n : Nat) : ct f (n + 1) = ct f n + (f n).toNat := rfl
theorem toNat_le (b : Bool) : b.toNat ≤ 1 := by cases b <;> decide
theorem ct_le (f : Nat → Bool) : ∀ n, ct f n ≤ n
  | 0 => Nat.le_refl 0
  | n + 1 => by
    have h := ct_le f n
    have h2 := toNat_le (f n)
    rw [ct_s]
    omega
theorem ct_cong {f g : Nat → Bool} : ∀ {n : Nat}, (∀ i, i < n → f i = g i) → ct f n = ct g n
  | 0, _ => rfl
  | n + 1, h => by rw [ct_s, ct_s, ct_cong (n := n) (fun i hi => h i (by omega)), h n (by omega)]
theorem ct_more (f : Nat → Bool) (n : Nat) (h : ∀ i, n ≤ i → f i = false) : ∀ k, ct f (n + k) = ct f n
  | 0 => rfl
  | k + 1 => by rw [show n + (k + 1) = (n + k) + 1 from rfl, ct_s, ct_more f n h k, h (n + k) (by omega)]; rfl
theorem ct_mono (f : Nat → Bool) (n : Nat) : ∀ k, ct f n ≤ ct f (n + k)
  | 0 => Nat.le_refl _
  | k + 1 => by rw [show n + (k + 1) = (n + k) + 1 from rfl, ct_s]; have := ct_mono f n k; omega
/-- the ones of a number below 2^16 -/
def pop (x : Nat) : Nat := ct x.testBit 16
theorem pop_le (x : Nat) : pop x ≤ 16 := ct_le _ _
theorem pop_mk {f : Nat → Bool} {n : Nat} (hn : n ≤ 16) : pop (mk f n) = ct f n := by
  unfold pop
  rw [show 16 = n + (16 - n) by omega, ct_more _ n (fun i hi => by rw [mk_bit]; simp [Nat.not_lt.mpr hi])]
  exact ct_cong fun i hi => by rw [mk_bit]; simp [hi]
/-! ===== answers of tests ===== -/
def zB (b : Bool) : Int32 := if b then 1 else 0
theorem zB_nI (b : Bool) : zB b = nI b.toNat := by cases b <;> rfl
theorem zB_t : nI 1 = zB true := rfl
theorem zB_f : nI 0 = zB false := rfl
theorem zB_1 {b : Bool} (h : b = true) : nI 1 = zB b := by subst h; rfl
theorem zB_0 {b : Bool} (h : b = false) : nI 0 = zB b := by subst h; rfl
theorem zB_eq0 {b : Bool} (h : zB b = 0) : b = false := by
  cases b
  · rfl
  · exact absurd h (by decide)
theorem zB_ne0 {b : Bool} (h : ¬ zB b = 0) : b = true := by
  cases b
  · exact absurd rfl h
  · rfl
theorem zB_z (b : Bool) : zB b = 0 ∨ zB b = 1 := by cases b <;> decide
/-- x is one of 0 .. n-1 -/
def inB (x : Int32) (n : Nat) : Bool := decide (0 ≤ x.toInt ∧ x.toInt < n)
theorem inB_nI {k n : Nat} (h : k < n) (hn : n < 2 ^ 31) : inB (nI k) n = true := by
  unfold inB
  rw [nI_toInt (by omega)]
  simp; omega
theorem inB_of {x : Int32} {n : Nat} (hn : n < 2 ^ 31) (h : inB x n = true) : ∃ k, k < n ∧ x = nI k := by
  have h1 := of_decide_eq_true h
  obtain ⟨j, hj, e⟩ := vp_in_of (vp_in_iff.mpr h1) hn
  exact ⟨j, hj, e⟩
theorem i_neg {x : Int32} : x < 0 ↔ x.toInt < 0 := Int32.lt_iff_toInt_lt
theorem inB_neg {x : Int32} {n : Nat} (h : x < 0) : inB x n = false := by
  have h1 := i_neg.mp h
  unfold inB
  simp; omega
theorem inB_ge {x : Int32} {n : Nat} (hn : n < 2 ^ 31) (h : nI n ≤ x) : inB x n = false := by
  have h1 := Int32.le_iff_toInt_le.mp h
  rw [nI_toInt hn] at h1
  unfold inB
  simp; omega
theorem inB_in {x : Int32} {n : Nat} (hn : n < 2 ^ 31) (h0 : ¬ x < 0) (h1 : ¬ nI n ≤ x) : inB x n = true := by
  have h2 : ¬ x.toInt < 0 := fun q => h0 (i_neg.mpr q)
  have h3 : ¬ (n : Int) ≤ x.toInt := fun q => h1 (Int32.le_iff_toInt_le.mpr (by rw [nI_toInt hn]; exact q))
  unfold inB
  simp; omega
theorem inB_gt {x : Int32} {n : Nat} (hn : n + 1 < 2 ^ 31) (h : nI n < x) : inB x (n + 1) = false := by
  have h1 := Int32.lt_iff_toInt_lt.mp h
  rw [nI_toInt (by omega)] at h1
  unfold inB
  simp; omega
theorem inB_le {x : Int32} {n : Nat} (hn : n + 1 < 2 ^ 31) (h0 : ¬ x < 0) (h1 : ¬ nI n < x) : inB x (n + 1) = true := by
  have h2 : ¬ x.toInt < 0 := fun q => h0 (i_neg.mpr q)
  have h3 : ¬ (n : Int) < x.toInt := fun q => h1 (Int32.lt_iff_toInt_lt.mpr (by rw [nI_toInt (by omega)]; exact q))
  unfold inB
  simp; omega
theorem nIc {k : Nat} (h : k < 2 ^ 31) : (nI k).toNatClampNeg = k := nI_clamp h
