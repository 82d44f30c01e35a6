/-! ===== how the model reads a text ===== -/
def skF (b : Nat → Nat) (ln : Nat) : Nat → Nat → Nat
  | 0, i => i
  | n + 1, i => if i < ln ∧ b i = 32 then skF b ln n (i + 1) else i
def skb (b : Nat → Nat) (ln i : Nat) : Nat := skF b ln (ln - i) i
theorem sk_stop {b : Nat → Nat} {ln i : Nat} (h : ¬ (i < ln ∧ b i = 32)) : skb b ln i = i := by
  unfold skb
  cases ln - i with
  | zero => rfl
  | succ n => rw [skF, if_neg h]
theorem sk_step {b : Nat → Nat} {ln i : Nat} (h : i < ln) (h2 : b i = 32) : skb b ln i = skb b ln (i + 1) := by
  unfold skb
  rw [show ln - i = (ln - (i + 1)) + 1 by omega, skF, if_pos ⟨h, h2⟩]
theorem skF_le (b : Nat → Nat) (ln : Nat) : ∀ n i, i ≤ ln → i ≤ skF b ln n i ∧ skF b ln n i ≤ ln
  | 0, i, h => ⟨Nat.le_refl i, h⟩
  | n + 1, i, h => by
    rw [skF]
    split
    · rename_i q
      obtain ⟨h1, h2⟩ := skF_le b ln n (i + 1) (by omega)
      exact ⟨by omega, h2⟩
    · exact ⟨Nat.le_refl i, h⟩
theorem sk_le {b : Nat → Nat} {ln i : Nat} (h : i ≤ ln) : i ≤ skb b ln i ∧ skb b ln i ≤ ln := skF_le b ln _ i h
/-- what stands at a place, -1 behind the text -/
def hrF (b : Nat → Nat) (ln i : Nat) : Int32 := if i < ln then nI (b i) else -1
def dgF (b : Nat → Nat) (ln : Nat) : Nat → Nat → Nat
  | 0, i => i
  | n + 1, i => if i < ln ∧ (48 ≤ b i ∧ b i ≤ 55) then dgF b ln n (i + 1) else i
def dge (b : Nat → Nat) (ln i : Nat) : Nat := dgF b ln (ln - i) i
theorem dg_stop {b : Nat → Nat} {ln i : Nat} (h : ¬ (i < ln ∧ (48 ≤ b i ∧ b i ≤ 55))) : dge b ln i = i := by
  unfold dge
  cases ln - i with
  | zero => rfl
  | succ n => rw [dgF, if_neg h]
theorem dg_step {b : Nat → Nat} {ln i : Nat} (h : i < ln) (h2 : 48 ≤ b i ∧ b i ≤ 55) : dge b ln i = dge b ln (i + 1) := by
  unfold dge
  rw [show ln - i = (ln - (i + 1)) + 1 by omega, dgF, if_pos ⟨h, h2⟩]
theorem dgF_le (b : Nat → Nat) (ln : Nat) : ∀ n i, i ≤ ln → i ≤ dgF b ln n i ∧ dgF b ln n i ≤ ln
  | 0, i, h => ⟨Nat.le_refl i, h⟩
  | n + 1, i, h => by
    rw [dgF]
    split
    · rename_i q
      obtain ⟨h1, h2⟩ := dgF_le b ln n (i + 1) (by omega)
      exact ⟨by omega, h2⟩
    · exact ⟨Nat.le_refl i, h⟩
theorem dg_le {b : Nat → Nat} {ln i : Nat} (h : i ≤ ln) : i ≤ dge b ln i ∧ dge b ln i ≤ ln := dgF_le b ln _ i h
def vlN (b : Nat → Nat) (s : Nat) : Nat → Nat
  | 0 => 0
  | k + 1 => if k < 5 then 8 * vlN b s k + b (s + k) - 48 else vlN b s k
theorem vl_lt {b : Nat → Nat} {s : Nat} (hb : ∀ k, b (s + k) ≤ 55 ∨ True) : True := trivial
/-- reading a word, from the place i on, with m words read: whether there is one, where it ends (or ought to begin), its value -/
def rdS (b : Nat → Nat) (ln i : Nat) : Nat := skb b ln i
def rdE (b : Nat → Nat) (ln i : Nat) : Nat := dge b ln (skb b ln i)
def rdV (b : Nat → Nat) (ln i : Nat) : Nat := vlN b (skb b ln i) (rdE b ln i - skb b ln i)
def rdO (b : Nat → Nat) (ln A B i m : Nat) : Bool := !(rdE b ln i == rdS b ln i) && (decide (rdE b ln i - rdS b ln i ≤ 4) && (decide (rdV b ln i < 2 ^ B) && !(m == A)))
def rdA (b : Nat → Nat) (ln A B i m : Nat) : Nat := cond (rdO b ln A B i m) (rdE b ln i) (rdS b ln i)
def rdM (b : Nat → Nat) (ln A B i m : Nat) : Nat := cond (rdO b ln A B i m) (m + 1) m
def rdR (b : Nat → Nat) (ln A B i m rl : Nat) (ρ : Nat → Nat → Nat) : Nat → Nat → Nat := cond (rdO b ln A B i m && rl != 0) (rs ρ (19 + m) (rdV b ln i)) ρ
theorem rdO_t {b : Nat → Nat} {ln A B i m : Nat} (h1 : ¬ rdE b ln i = rdS b ln i) (h2 : rdE b ln i - rdS b ln i ≤ 4) (h3 : rdV b ln i < 2 ^ B) (h4 : ¬ m = A) : rdO b ln A B i m = true := by
  unfold rdO
  rw [beq_eq_false_iff_ne.mpr h1, decide_eq_true h2, decide_eq_true h3, beq_eq_false_iff_ne.mpr h4]
  rfl
theorem rdO_1 {b : Nat → Nat} {ln A B i m : Nat} (h1 : rdE b ln i = rdS b ln i) : rdO b ln A B i m = false := by
  unfold rdO
  rw [h1]
  simp
theorem rdO_2 {b : Nat → Nat} {ln A B i m : Nat} (h2 : ¬ rdE b ln i - rdS b ln i ≤ 4) : rdO b ln A B i m = false := by
  unfold rdO
  rw [decide_eq_false h2]
  simp
theorem rdO_3 {b : Nat → Nat} {ln A B i m : Nat} (h3 : ¬ rdV b ln i < 2 ^ B) : rdO b ln A B i m = false := by
  unfold rdO
  rw [decide_eq_false h3]
  simp
theorem rdO_4 {b : Nat → Nat} {ln A B i m : Nat} (h4 : m = A) : rdO b ln A B i m = false := by
  unfold rdO
  rw [h4]
  simp
theorem upd_id (f : Nat → Int32) (k : Nat) : upd f k (f k) = f := by
  funext j
  unfold upd
  by_cases h : j = k
  · subst h; rw [if_pos rfl]
  · rw [if_neg h]
theorem upd_rw0 {ρ : Nat → Nat → Nat} {j : Nat} (hj : j < 141) : upd (rwF ρ) j (nI (ρ 0 j)) = rwF ρ := by
  rw [← rw_lo hj]
  exact upd_id _ _
theorem inB_k {k n : Nat} (hk : k < 2 ^ 31) (hn : n < 2 ^ 31) : inB (nI k) n = decide (k < n) := by
  by_cases h : k < n
  · rw [inB_nI h hn, decide_eq_true h]
  · rw [inB_ge hn (nI_le (by omega) hk), decide_eq_false h]
theorem vl_b {b : Nat → Nat} {s : Nat} : ∀ k, (∀ j, j < k → b (s + j) ≤ 55) → vlN b s k + 1 ≤ 8 ^ (min k 5)
  | 0, _ => by show 0 + 1 ≤ 1; omega
  | k + 1, h => by
    have ih := vl_b k (fun j hj => h j (by omega))
    have hk := h k (by omega)
    rw [vlN]
    split
    · rename_i q
      rw [show min (k + 1) 5 = min k 5 + 1 by omega, Nat.pow_succ]
      omega
    · rename_i q
      rw [show min (k + 1) 5 = min k 5 by omega]
      exact ih
theorem vl_small {b : Nat → Nat} {s k : Nat} (h : ∀ j, j < k → b (s + j) ≤ 55) : vlN b s k < 32768 := by
  have h1 := vl_b k h
  have h2 : 8 ^ (min k 5) ≤ 8 ^ 5 := Nat.pow_le_pow_right (by decide) (by omega)
  omega
/-- the model's walk of the whole text: whether all is well so far, the place, the words, the row -/
def rtS (b : Nat → Nat) (ln A B rl : Nat) (t : Bool × Nat × Nat × (Nat → Nat → Nat)) : Bool × Nat × Nat × (Nat → Nat → Nat) :=
  if t.1 = true ∧ t.2.1 < ln then (if b t.2.1 = 44 then (rdO b ln A B (t.2.1 + 1) t.2.2.1, skb b ln (rdA b ln A B (t.2.1 + 1) t.2.2.1), rdM b ln A B (t.2.1 + 1) t.2.2.1, rdR b ln A B (t.2.1 + 1) t.2.2.1 rl t.2.2.2) else (false, t.2.1, t.2.2.1, t.2.2.2)) else t
def rtN (b : Nat → Nat) (ln A B rl : Nat) (ρ : Nat → Nat → Nat) : Nat → Bool × Nat × Nat × (Nat → Nat → Nat)
  | 0 => (rdO b ln A B 0 0, skb b ln (rdA b ln A B 0 0), rdM b ln A B 0 0, rdR b ln A B 0 0 rl ρ)
  | n + 1 => rtS b ln A B rl (rtN b ln A B rl ρ n)
theorem rt_stop {b : Nat → Nat} {ln A B rl : Nat} {ρ : Nat → Nat → Nat} {i : Nat} (h : ¬ ((rtN b ln A B rl ρ i).1 = true ∧ (rtN b ln A B rl ρ i).2.1 < ln)) : ∀ k, rtN b ln A B rl ρ (i + k) = rtN b ln A B rl ρ i
  | 0 => rfl
  | k + 1 => by
    have ih := rt_stop h k
    rw [show i + (k + 1) = (i + k) + 1 from rfl, rtN, ih]
    unfold rtS
    rw [if_neg h]
theorem rt_at {b : Nat → Nat} {ln A B rl : Nat} {ρ : Nat → Nat → Nat} {i pa m : Nat} {iz : Bool} {r : Nat → Nat → Nat} (h : rtN b ln A B rl ρ i = (iz, pa, m, r)) (hs : ¬ (iz = true ∧ pa < ln)) (hi : i ≤ ln) : rtN b ln A B rl ρ ln = (iz, pa, m, r) := by
  have h1 := rt_stop (b := b) (ln := ln) (A := A) (B := B) (rl := rl) (ρ := ρ) (i := i) (by rw [h]; exact hs) (ln - i)
  rw [show i + (ln - i) = ln by omega] at h1
  rw [h1, h]
theorem rd_lo {b : Nat → Nat} {ln A B i m rl : Nat} {ρ : Nat → Nat → Nat} {k : Nat} (h : k < 19) : rdR b ln A B i m rl ρ 0 k = ρ 0 k := by
  unfold rdR
  cases rdO b ln A B i m && rl != 0
  · rfl
  · show rs ρ (19 + m) (rdV b ln i) 0 k = ρ 0 k
    unfold rs
    rw [up_s, up_ne (by omega)]
theorem wf_rd {b : Nat → Nat} {ln i m rl : Nat} {ρ : Nat → Nat → Nat} (hw : wf (ρ 0)) (hm : m ≤ nA (ρ 0)) : wf (rdR b ln (nA (ρ 0)) (ρ 0 1) i m rl ρ 0) := by
  unfold rdR
  cases ho : rdO b ln (nA (ρ 0)) (ρ 0 1) i m
  · exact hw
  · cases hr : rl != 0
    · exact hw
    · show wf (rs ρ (19 + m) (rdV b ln i) 0)
      unfold rs
      rw [up_s]
      unfold rdO at ho
      rw [Bool.and_eq_true, Bool.and_eq_true, Bool.and_eq_true] at ho
      refine wf_word hw ?_ (of_decide_eq_true ho.2.2.1)
      have h1 : ¬ m = nA (ρ 0) := by have := ho.2.2.2; simpa using this
      omega
theorem rdM_le {b : Nat → Nat} {ln A B i m : Nat} (hm : m ≤ A) : rdM b ln A B i m ≤ A := by
  unfold rdM
  cases ho : rdO b ln A B i m
  · exact hm
  · unfold rdO at ho
    rw [Bool.and_eq_true, Bool.and_eq_true, Bool.and_eq_true] at ho
    have h1 : ¬ m = A := by have := ho.2.2.2; simpa using this
    show m + 1 ≤ A
    omega
theorem rdA_le {b : Nat → Nat} {ln A B i m : Nat} (hi : i ≤ ln) : i ≤ rdA b ln A B i m ∧ rdA b ln A B i m ≤ ln := by
  obtain ⟨h1, h2⟩ := sk_le (b := b) hi
  obtain ⟨h3, h4⟩ := dg_le (b := b) h2
  unfold rdA rdE rdS
  cases rdO b ln A B i m
  · exact ⟨h1, h2⟩
  · exact ⟨Nat.le_trans h1 h3, h4⟩
