/-- what java.lang.Integer.bitCount works out, for a number below 2^16 -/
def bc1 (x : Nat) : Nat := x - (x >>> 1 &&& 1431655765)
def bc2 (x : Nat) : Nat := (x &&& 858993459) + (x >>> 2 &&& 858993459)
def bc3 (x : Nat) : Nat := (x + x >>> 4) &&& 252645135
def bc4 (x : Nat) : Nat := x + x >>> 8
def bc5 (x : Nat) : Nat := x + x >>> 16
def bcN (x : Nat) : Nat := bc5 (bc4 (bc3 (bc2 (bc1 x)))) &&& 63
theorem ct_split (f : Nat → Bool) (m : Nat) : ∀ n, ct f (m + n) = ct f m + ct (fun i => f (m + i)) n
  | 0 => rfl
  | n + 1 => by rw [show m + (n + 1) = (m + n) + 1 from rfl, ct_s, ct_split f m n, ct_s, Nat.add_assoc]
theorem two_bit {a b : Nat} (hb : b < 256) (j : Nat) : (256 * a + b).testBit j = if j < 8 then b.testBit j else a.testBit (j - 8) := Nat.testBit_two_pow_mul_add (i := 8) a hb j
theorem bc_and {a b m n k : Nat} (hk : k ≤ 8) (hb : b < 256) (hn : n < 2 ^ (8 - k)) : (256 * a + b) >>> k &&& (256 * m + n) = 256 * (a >>> k &&& m) + (b >>> k &&& n) := by
  have hn2 : n < 256 := Nat.lt_of_lt_of_le hn (show 2 ^ (8 - k) ≤ 2 ^ 8 from Nat.pow_le_pow_right (by decide) (by omega))
  have hb2 : (b >>> k &&& n) < 256 := Nat.lt_of_le_of_lt Nat.and_le_right hn2
  refine mk_ext fun j => ?_
  rw [two_bit hb2, Nat.testBit_and, Nat.testBit_shiftRight, two_bit hb, two_bit hn2]
  by_cases h : j < 8
  · rw [if_pos h, if_pos h, Nat.testBit_and, Nat.testBit_shiftRight]
    by_cases h2 : k + j < 8
    · rw [if_pos h2]
    · rw [tb_lt hn (by omega), Bool.and_false, Bool.and_false]
  · rw [if_neg h, if_neg h, Nat.testBit_and, Nat.testBit_shiftRight, if_neg (by omega), show k + j - 8 = k + (j - 8) by omega]
def by1 (b : Nat) : Nat := b - (b >>> 1 &&& 85)
def by2 (b : Nat) : Nat := (by1 b &&& 51) + (by1 b >>> 2 &&& 51)
theorem by_all : ∀ b, b < 256 → (b >>> 1 &&& 5592405 = b >>> 1 &&& 85) ∧ (b >>> 1 &&& 85 ≤ b) ∧ (by1 b &&& 3355443 = by1 b &&& 51) ∧ (by1 b >>> 2 &&& 3355443 = by1 b >>> 2 &&& 51) ∧ by2 b ≤ 68 ∧ by2 b % 16 ≤ 4 ∧ (by2 b + by2 b >>> 4) &&& 986895 = ct b.testBit 8 ∧ (by2 b + by2 b >>> 4) % 16 = ct b.testBit 8 := by decide +kernel
theorem bc_pop {x : Nat} (h : x < 65536) : bcN x = pop x := by
  obtain ⟨a, b, ha, hb, rfl⟩ : ∃ a b, a < 256 ∧ b < 256 ∧ x = 256 * a + b := ⟨x / 256, x % 256, by omega, by omega, by omega⟩
  obtain ⟨a1, a2, a3, a4, a5, a6, a7, -⟩ := by_all a ha
  obtain ⟨b1, b2, b3, b4, b5, b6, b7, b8⟩ := by_all b hb
  have e1 : bc1 (256 * a + b) = 256 * by1 a + by1 b := by
    have h1 := bc_and (a := a) (b := b) (m := 5592405) (n := 85) (k := 1) (by decide) hb (by decide)
    rw [show 256 * 5592405 + 85 = 1431655765 from rfl, a1] at h1
    unfold bc1 by1
    rw [h1]
    omega
  have hb1 : by1 b < 256 := by unfold by1; omega
  have e2 : bc2 (256 * by1 a + by1 b) = 256 * by2 a + by2 b := by
    have h1 := bc_and (a := by1 a) (b := by1 b) (m := 3355443) (n := 51) (k := 0) (by decide) hb1 (by decide)
    have h2 := bc_and (a := by1 a) (b := by1 b) (m := 3355443) (n := 51) (k := 2) (by decide) hb1 (by decide)
    rw [show 256 * 3355443 + 51 = 858993459 from rfl] at h1 h2
    rw [Nat.shiftRight_zero, Nat.shiftRight_zero, Nat.shiftRight_zero, a3] at h1
    rw [a4] at h2
    unfold bc2 by2
    rw [h1, h2]
    omega
  have hp : pop (256 * a + b) = ct a.testBit 8 + ct b.testBit 8 := by
    show ct (256 * a + b).testBit (8 + 8) = _
    rw [ct_split, Nat.add_comm]
    congr 1
    · refine ct_cong fun i hi => ?_
      rw [two_bit hb, if_neg (by omega), show 8 + i - 8 = i by omega]
    · refine ct_cong fun i hi => ?_
      rw [two_bit hb, if_pos hi]
  have hA := ct_le a.testBit 8
  have hB := ct_le b.testBit 8
  have e3 : bc3 (256 * by2 a + by2 b) = 256 * ct a.testBit 8 + ct b.testBit 8 := by
    unfold bc3
    have h4 : (256 * by2 a + by2 b) + (256 * by2 a + by2 b) >>> 4 = 256 * (by2 a + by2 a >>> 4) + (by2 b + 16 * (by2 a % 16) + by2 b / 16) := by
      rw [Nat.shiftRight_eq_div_pow, Nat.shiftRight_eq_div_pow]
      omega
    have h5 := bc_and (a := by2 a + by2 a >>> 4) (b := by2 b + 16 * (by2 a % 16) + by2 b / 16) (m := 986895) (n := 15) (k := 0) (by decide) (by omega) (by decide)
    rw [show 256 * 986895 + 15 = 252645135 from rfl, Nat.shiftRight_zero, Nat.shiftRight_zero, Nat.shiftRight_zero, a7] at h5
    rw [h4, h5, show 15 = 2 ^ 4 - 1 from rfl, Nat.and_two_pow_sub_one_eq_mod, ← b8, Nat.shiftRight_eq_div_pow]
    omega
  rw [hp]
  unfold bcN
  rw [e1, e2, e3]
  unfold bc5 bc4
  rw [Nat.shiftRight_eq_div_pow, Nat.shiftRight_eq_div_pow, show 63 = 2 ^ 6 - 1 from rfl, Nat.and_two_pow_sub_one_eq_mod]
  clear e1 e2 e3 hp
  generalize ct a.testBit 8 = u at hA ⊢
  generalize ct b.testBit 8 = v at hB ⊢
  rw [show (256 * u + v) / 2 ^ 8 = u by omega, show (256 * u + v + u) / 2 ^ 16 = 0 by omega]
  omega
