/-! ===== the model's walk of a text ===== -/
theorem skF_e (b : Nat → Nat) (ln : Nat) : ∀ n i, ln ≤ i + n → ¬ (skF b ln n i < ln ∧ b (skF b ln n i) = 32)
  | 0, i, h => by
    show ¬ (i < ln ∧ b i = 32)
    omega
  | n + 1, i, h => by
    rw [skF]
    split
    · exact skF_e b ln n (i + 1) (by omega)
    · rename_i q
      exact q
theorem sk_id {b : Nat → Nat} {ln i : Nat} (h : i ≤ ln) : skb b ln (skb b ln i) = skb b ln i := sk_stop (skF_e b ln (ln - i) i (by omega))
theorem hr_lt {b : Nat → Nat} {ln i : Nat} (h : ¬ hrF b ln i = -1) : i < ln ∧ hrF b ln i = nI (b i) := by
  unfold hrF at h ⊢
  by_cases q : i < ln
  · rw [if_pos q]
    exact ⟨q, rfl⟩
  · rw [if_neg q] at h
    exact absurd rfl h
theorem hr_ge {b : Nat → Nat} {ln i : Nat} (hb : i < ln → b i < 256) (h : hrF b ln i = -1) : ¬ i < ln := by
  intro q
  unfold hrF at h
  rw [if_pos q] at h
  exact nI_m1 (by have := hb q; omega) h
theorem rt_44 {b : Nat → Nat} {ln A B rl : Nat} {ρ : Nat → Nat → Nat} {i pa m : Nat} {iz : Bool} {r : Nat → Nat → Nat} (h : rtN b ln A B rl ρ i = (iz, pa, m, r)) (h1 : iz = true) (h2 : pa < ln) (h3 : b pa = 44) : rtN b ln A B rl ρ (i + 1) = (rdO b ln A B (pa + 1) m, skb b ln (rdA b ln A B (pa + 1) m), rdM b ln A B (pa + 1) m, rdR b ln A B (pa + 1) m rl r) := by
  rw [rtN, h]
  unfold rtS
  rw [if_pos ⟨h1, h2⟩, if_pos h3]
theorem rt_no {b : Nat → Nat} {ln A B rl : Nat} {ρ : Nat → Nat → Nat} {i pa m : Nat} {iz : Bool} {r : Nat → Nat → Nat} (h : rtN b ln A B rl ρ i = (iz, pa, m, r)) (h1 : iz = true) (h2 : pa < ln) (h3 : ¬ b pa = 44) : rtN b ln A B rl ρ (i + 1) = (false, pa, m, r) := by
  rw [rtN, h]
  unfold rtS
  rw [if_pos ⟨h1, h2⟩, if_neg h3]
/-- what does not depend on the row -/
theorem rt_ind (b : Nat → Nat) (ln A B rl rl' : Nat) (ρ ρ' : Nat → Nat → Nat) : ∀ n, (rtN b ln A B rl ρ n).1 = (rtN b ln A B rl' ρ' n).1 ∧ (rtN b ln A B rl ρ n).2.1 = (rtN b ln A B rl' ρ' n).2.1 ∧ (rtN b ln A B rl ρ n).2.2.1 = (rtN b ln A B rl' ρ' n).2.2.1
  | 0 => ⟨rfl, rfl, rfl⟩
  | n + 1 => by
    obtain ⟨h1, h2, h3⟩ := rt_ind b ln A B rl rl' ρ ρ' n
    rw [rtN, rtN]
    unfold rtS
    rw [h1, h2, h3]
    split
    · split
      · exact ⟨rfl, rfl, rfl⟩
      · exact ⟨rfl, rfl, rfl⟩
    · exact ⟨h1, h2, h3⟩
theorem rd_r0 {b : Nat → Nat} {ln A B i m : Nat} {ρ : Nat → Nat → Nat} : rdR b ln A B i m 0 ρ = ρ := by
  unfold rdR
  rw [show (0 != 0) = false from rfl, Bool.and_false]
  rfl
theorem rt_r0 {b : Nat → Nat} {ln A B : Nat} {ρ : Nat → Nat → Nat} : ∀ n, (rtN b ln A B 0 ρ n).2.2.2 = ρ
  | 0 => rd_r0
  | n + 1 => by
    have ih := rt_r0 (b := b) (ln := ln) (A := A) (B := B) (ρ := ρ) n
    rw [rtN]
    unfold rtS
    split
    · split
      · show rdR b ln A B _ _ 0 _ = ρ
        rw [rd_r0, ih]
      · exact ih
    · exact ih
/-- the place of the fault, or -1 -/
def rtF (b : Nat → Nat) (ln A B : Nat) (ρ : Nat → Nat → Nat) : Int32 := cond (rtN b ln A B 0 ρ ln).1 (-1) (nI (rtN b ln A B 0 ρ ln).2.1)
def lmX (b : Nat → Nat) (ln : Nat) (ρ : Nat → Nat → Nat) (sv : Nat) : Int32 := cond (rtN b ln (nA (ρ 0)) (ρ 0 1) 0 ρ ln).1 (nI (rtN b ln (nA (ρ 0)) (ρ 0 1) 1 (svR ρ sv) ln).2.2.1) (-4)
def lmS (b : Nat → Nat) (ln : Nat) (ρ : Nat → Nat → Nat) (sv : Nat) : Nat → Nat → Nat := cond (rtN b ln (nA (ρ 0)) (ρ 0 1) 0 ρ ln).1 (rtN b ln (nA (ρ 0)) (ρ 0 1) 1 (svR ρ sv) ln).2.2.2 ρ
def lmV (b : Nat → Nat) (ln : Nat) (ρ : Nat → Nat → Nat) (sv : Nat) : Nat := cond (rtN b ln (nA (ρ 0)) (ρ 0 1) 0 ρ ln).1 (kpN sv) sv
def lmA (b : Nat → Nat) (ln : Nat) (ρ : Nat → Nat → Nat) (sv : Nat) : Nat := cond (rtN b ln (nA (ρ 0)) (ρ 0 1) 0 ρ ln).1 (rtN b ln (nA (ρ 0)) (ρ 0 1) 1 (svR ρ sv) ln).2.1 (rtN b ln (nA (ρ 0)) (ρ 0 1) 0 ρ ln).2.1
def lmW (b : Nat → Nat) (ln : Nat) (ρ : Nat → Nat → Nat) (sv : Nat) : Nat := cond (rtN b ln (nA (ρ 0)) (ρ 0 1) 0 ρ ln).1 (rtN b ln (nA (ρ 0)) (ρ 0 1) 1 (svR ρ sv) ln).2.2.1 (rtN b ln (nA (ρ 0)) (ρ 0 1) 0 ρ ln).2.2.1
