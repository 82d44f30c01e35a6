theorem stA_lt {σ : Nat → Nat} (hw : wf σ) : ∀ n, n ≤ nA σ → stA σ n < 65536
  | 0, _ => by unfold stA; omega
  | n + 1, h => by
    have ih := stA_lt hw n (by omega)
    obtain ⟨hd, -, -⟩ := ad_div hw.2.2.2.2.1 (show n < nA σ by omega)
    rw [stA]
    split
    · exact ih
    · refine Nat.or_lt_two_pow (n := 16) ih ?_
      rw [sh1]
      exact Nat.pow_lt_pow_right (by decide) (by have := hw.2.1; omega)
theorem sr_lt {σ : Nat → Nat} {r t : Nat} (hr : r < σ 0) (ht : t < σ 2) : σ 2 * r + t < nA σ := by
  unfold nA
  have h1 : σ 2 * (r + 1) ≤ σ 2 * σ 0 := Nat.mul_le_mul_left _ hr
  rw [Nat.mul_succ] at h1
  rw [Nat.mul_comm (σ 0)]
  omega
theorem tn_lt {σ : Nat → Nat} (hw : wf σ) (w t : Nat) : tnN σ w t < 2048 := by
  unfold tnN
  split
  · rename_i h
    rw [sh1]
    refine Nat.lt_of_le_of_lt (Nat.pow_le_pow_right (n := 2) (by decide) (show w - (8 + t * (σ 1 + 1)) ≤ 10 by have := hw.2.2.2.1; omega)) (by decide)
  · omega
theorem nw_wo_le (b a : Nat) : nw_wo b a ≤ b := by
  have h : nw_wo b a = nw_wo b a &&& b := by
    refine mk_ext fun i => ?_
    rw [Nat.testBit_and, nw_wo_bit]
    cases b.testBit i <;> simp
  rw [h]
  exact Nat.and_le_right
theorem nI_m1 {n : Nat} (h : n < 2 ^ 31) : ¬ nI n = -1 := by
  intro q
  have h1 : (nI n).toInt = (-1 : Int32).toInt := by rw [q]
  rw [nI_toInt h] at h1
  have h2 : (-1 : Int32).toInt = -1 := by decide
  omega
theorem snE_t {σ : Nat → Nat} {w r : Nat} (h : stA σ (nA σ) = 1 <<< r) (h2 : ∀ t, t < σ 2 → rwM (wvM σ) σ (σ 2 * r + t) = rbM σ t (1 <<< r) ^^^ tnN σ w t) : snE σ w r = true := by
  unfold snE
  rw [h]
  simp
  exact h2
theorem snE_f1 {σ : Nat → Nat} {w r : Nat} (h : ¬ stA σ (nA σ) = 1 <<< r) : snE σ w r = false := by
  unfold snE
  simp [h]
theorem snE_f2 {σ : Nat → Nat} {w r t : Nat} (ht : t < σ 2) (h : ¬ rwM (wvM σ) σ (σ 2 * r + t) = rbM σ t (1 <<< r) ^^^ tnN σ w t) : snE σ w r = false := by
  unfold snE
  refine Bool.eq_false_iff.mpr fun q => ?_
  rw [Bool.and_eq_true, List.all_eq_true] at q
  have h1 := q.2 t (List.mem_range.mpr ht)
  exact h (eq_of_beq h1)
theorem ihT_t {σ : Nat → Nat} {q pk : Nat} (h : nw_wo (stA σ (nA σ)) (1 <<< q) = 0) (h2 : ∀ t, t < σ 2 → rwM (wvM σ) σ (σ 2 * q + t) = rbM σ t pk) : ihT σ q pk = true := by
  unfold ihT
  rw [h]
  simp
  exact h2
theorem ihT_f1 {σ : Nat → Nat} {q pk : Nat} (h : ¬ nw_wo (stA σ (nA σ)) (1 <<< q) = 0) : ihT σ q pk = false := by
  unfold ihT
  simp [h]
theorem ihT_f2 {σ : Nat → Nat} {q pk t : Nat} (ht : t < σ 2) (h : ¬ rwM (wvM σ) σ (σ 2 * q + t) = rbM σ t pk) : ihT σ q pk = false := by
  unfold ihT
  refine Bool.eq_false_iff.mpr fun z => ?_
  rw [Bool.and_eq_true, List.all_eq_true] at z
  have h1 := z.2 t (List.mem_range.mpr ht)
  exact h (eq_of_beq h1)
theorem ihE_A {σ : Nat → Nat} (hw : wf σ) {w r q : Nat} (h : ihb σ w r = true) (hq : q < σ 0) (e : σ (3 + q) = σ (3 + r) ^^^ 1 <<< (w / 2)) : ihE σ w r = ihT σ q (1 <<< r ||| 1 <<< q) := by
  have h1 : fsf (fun q => σ (3 + q) == σ (3 + r) ^^^ 1 <<< (w / 2)) (σ 0) = q := by
    refine fsf_at (fun j hj => ?_) (by simp [e]) hq
    refine beq_eq_false_iff_ne.mpr fun z => ?_
    have := hw.2.2.2.2.2.2.2.1 j q (by omega) hq (by rw [z, e])
    omega
  unfold ihE
  rw [h1, if_pos h, if_pos hq]
theorem ihE_N {σ : Nat → Nat} {w r : Nat} (h : ihb σ w r = true) (hn : ∀ j, j < σ 0 → ¬ σ (3 + j) = σ (3 + r) ^^^ 1 <<< (w / 2)) : ihE σ w r = (stA σ (nA σ) == 0) := by
  have h1 : fsf (fun q => σ (3 + q) == σ (3 + r) ^^^ 1 <<< (w / 2)) (σ 0) = σ 0 := fsf_none fun j hj => beq_eq_false_iff_ne.mpr (hn j hj)
  unfold ihE
  rw [h1, if_pos h, if_neg (Nat.lt_irrefl _)]
theorem ihE_B {σ : Nat → Nat} {w r : Nat} (h : ihb σ w r = false) : ihE σ w r = ihT σ r 0 := by
  unfold ihE
  rw [h]
  rfl
theorem exE_i {σ : Nat → Nat} {w r : Nat} (h : w < 8) : exE σ w r = ihE σ w r := by unfold exE; rw [if_pos h]
theorem exE_s {σ : Nat → Nat} {w r : Nat} (h : 8 ≤ w) : exE σ w r = snE σ w r := by unfold exE; rw [if_neg (by omega)]
def exP (σ : Nat → Nat) (n : Nat) : Bool := exE σ (n / σ 0) (n % σ 0)
theorem exP_at {σ : Nat → Nat} {w i : Nat} (hi : i < σ 0) : exP σ (w * σ 0 + i) = exE σ w i := by
  unfold exP
  rw [Nat.mul_comm, Nat.mul_add_div (by omega), Nat.div_eq_of_lt hi, Nat.mul_add_mod, Nat.mod_eq_of_lt hi, Nat.add_zero]
theorem ct_le_of {p : Nat → Bool} {n m : Nat} (h : n ≤ m) : ct p n ≤ ct p m := by
  rw [show m = n + (m - n) by omega]
  exact ct_mono p n _
theorem exV_at {p : Nat → Bool} {R k n : Nat} (hp : p n = true) (hc : ct p n = k) : ∀ {m : Nat}, n < m → exV p R k m = nI (16 * (n / R) + n % R)
  | 0, h => absurd h (Nat.not_lt_zero n)
  | m + 1, h => by
    rw [exV]
    by_cases e : n = m
    · subst e
      rw [if_neg (by omega), hp, hc]
      simp
    · have h1 : ct p (n + 1) ≤ ct p m := ct_le_of (by omega)
      rw [ct_s, hp, hc] at h1
      simp only [Bool.toNat_true] at h1
      rw [if_pos (show k < ct p m by omega), exV_at hp hc (m := m) (by omega)]
theorem exV_none {p : Nat → Bool} {R k : Nat} : ∀ {m : Nat}, ct p m ≤ k → exV p R k m = -1
  | 0, _ => rfl
  | m + 1, h => by
    rw [ct_s] at h
    rw [exV, if_neg (by omega)]
    split
    · rename_i q
      rw [Bool.and_eq_true] at q
      have h1 := eq_of_beq q.2
      rw [q.1] at h
      simp only [Bool.toNat_true] at h
      omega
    · rfl
def exF (σ : Nat → Nat) (k : Nat) : Int32 := exV (exP σ) (σ 0) k (nW σ * σ 0)
/-- the digest -/
def hq (σ : Nat → Nat) : Nat → Int64 → Int64
  | 0, x => x
  | n + 1, x => 31 * (31 * (31 * (31 * hq σ n x + (nI (σ (19 + n))).toInt64) + (nI (rdN σ n)).toInt64) + (nI (paB σ n).toNat).toInt64) + (ptF σ n).toInt64
def hv (σ : Nat → Nat) : Nat → Int64 → Int64
  | 0, x => x
  | n + 1, x => hs (fun r => nI ((wvM σ n).testBit r).toNat) (σ 0) (hv σ n x)
def hsF (σ : Nat → Nat) : Int64 := hv σ (nW σ) (hq σ (nA σ) (hs (fun r => nI (σ (3 + r))) (σ 0) (hs (fun k => nI (nuN σ k)) 9 17)))
theorem exF_at {σ : Nat → Nat} {w i k : Nat} (hw : w < nW σ) (hi : i < σ 0) (h : exE σ w i = true) (h1 : ct (exP σ) (w * σ 0 + i) ≤ k) (h2 : k - ct (exP σ) (w * σ 0 + i) = 0) : nI (16 * w + i) = exF σ k := by
  have h3 : (w + 1) * σ 0 ≤ nW σ * σ 0 := Nat.mul_le_mul_right _ hw
  rw [Nat.succ_mul] at h3
  unfold exF
  rw [exV_at (n := w * σ 0 + i) (by rw [exP_at hi]; exact h) (by omega) (by omega), Nat.mul_comm w, Nat.mul_add_div (by omega), Nat.div_eq_of_lt hi, Nat.mul_add_mod, Nat.mod_eq_of_lt hi, Nat.add_zero]
theorem exF_none {σ : Nat → Nat} {k : Nat} (h : ct (exP σ) (nW σ * σ 0) ≤ k) : -1 = exF σ k := (exV_none h).symm
