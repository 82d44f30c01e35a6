theorem rwF_ext {ρ ρ' : Nat → Nat → Nat} (h : ∀ s j, j < 189 → ρ s j = ρ' s j) : rwF ρ = rwF ρ' := by
  funext k
  unfold rwF
  rw [h _ _ (Nat.mod_lt k (by decide))]
def cpS (ρ : Nat → Nat → Nat) (fr to n : Nat) : Nat → Nat → Nat := fun s j => if s = to ∧ j < n then ρ fr j else ρ s j
theorem cp_0 (ρ : Nat → Nat → Nat) (fr to : Nat) : rwF ρ = rwF (cpS ρ fr to 0) := rwF_ext fun s j _ => by unfold cpS; rw [if_neg (by omega)]
theorem cp_s {ρ : Nat → Nat → Nat} {fr to i : Nat} (hi : i < 189) : upd (rwF (cpS ρ fr to i)) (189 * to + i) (rwF (cpS ρ fr to i) (189 * fr + i)) = rwF (cpS ρ fr to (i + 1)) := by
  funext k
  unfold upd
  by_cases e : k = 189 * to + i
  · subst e
    rw [if_pos rfl]
    unfold rwF
    have e1 : (189 * fr + i) % 189 = i := by omega
    have e2 : (189 * fr + i) / 189 = fr := by omega
    have e3 : (189 * to + i) % 189 = i := by omega
    have e4 : (189 * to + i) / 189 = to := by omega
    rw [e1, e2, e3, e4]
    have e5 : cpS ρ fr to i fr i = ρ fr i := by unfold cpS; rw [if_neg (by omega)]
    have e6 : cpS ρ fr to (i + 1) to i = ρ fr i := by unfold cpS; rw [if_pos (by omega)]
    rw [e5, e6]
  · rw [if_neg e]
    have e1 : cpS ρ fr to i (k / 189) (k % 189) = cpS ρ fr to (i + 1) (k / 189) (k % 189) := by
      unfold cpS
      by_cases h : k / 189 = to ∧ k % 189 < i
      · rw [if_pos h, if_pos (by omega)]
      · rw [if_neg h, if_neg (by omega)]
    unfold rwF
    rw [e1]
theorem cp_e (ρ : Nat → Nat → Nat) (fr to : Nat) : rwF (cpS ρ fr to 189) = rwF (va_up ρ to (ρ fr)) := rwF_ext fun s j hj => by
  unfold cpS va_up
  by_cases h : s = to
  · rw [if_pos ⟨h, hj⟩, if_pos h]
  · rw [if_neg (by omega), if_neg h]
def shR (ρ : Nat → Nat → Nat) : Nat → Nat → Nat → Nat
  | 0 => ρ
  | n + 1 => va_up (shR ρ n) (n + 1) (shR ρ n (n + 1 + 1))
/-- the model's row with the present state saved -/
def svR (ρ : Nat → Nat → Nat) (sv : Nat) : Nat → Nat → Nat := if sv = 5 then va_up (shR ρ 4) 5 (shR ρ 4 0) else va_up ρ (sv + 1) (ρ 0)
theorem sh_0 (ρ : Nat → Nat → Nat) : ∀ n, shR ρ n 0 = ρ 0
  | 0 => rfl
  | n + 1 => by rw [shR, up_n _ _ (by omega)]; exact sh_0 ρ n
theorem sv_0 (ρ : Nat → Nat → Nat) (sv : Nat) : svR ρ sv 0 = ρ 0 := by
  unfold svR
  split
  · rw [up_n _ _ (by omega)]
    exact sh_0 ρ 4
  · rw [up_n _ _ (by omega)]
def rs (ρ : Nat → Nat → Nat) (j x : Nat) : Nat → Nat → Nat := va_up ρ 0 (va_up (ρ 0) j x)
theorem upd_rw {ρ : Nat → Nat → Nat} {j x : Nat} (hj : j < 141) : upd (rwF ρ) j (nI x) = rwF (rs ρ j x) := by
  funext k
  unfold upd
  by_cases e : k = j
  · subst e
    rw [if_pos rfl, rw_lo hj]
    unfold rs
    rw [up_s, up_s]
  · rw [if_neg e]
    have e1 : rs ρ j x (k / 189) (k % 189) = ρ (k / 189) (k % 189) := by
      unfold rs
      by_cases h : k / 189 = 0
      · rw [h, up_s, up_ne (by omega)]
      · rw [up_n _ _ h]
    unfold rwF
    rw [e1]
theorem upd_rwp {ρ : Nat → Nat → Nat} {a x : Nat} (ha : a < 48) : upd (rwF ρ) (141 + a) (nI x) = rwF (rs ρ (141 + a) (x + 1)) := by
  funext k
  unfold upd
  by_cases e : k = 141 + a
  · subst e
    rw [if_pos rfl, rw_pt ha]
    unfold rs ptF
    rw [up_s, up_s]
    exact (pk_sub (a := x + 1) (b := 1) (by omega)).symm
  · rw [if_neg e]
    have e1 : rs ρ (141 + a) (x + 1) (k / 189) (k % 189) = ρ (k / 189) (k % 189) := by
      unfold rs
      by_cases h : k / 189 = 0
      · rw [h, up_s, up_ne (by omega)]
      · rw [up_n _ _ h]
    unfold rwF
    rw [e1]
theorem upd_rwm {ρ : Nat → Nat → Nat} {a : Nat} (ha : a < 48) : upd (rwF ρ) (141 + a) (-1) = rwF (rs ρ (141 + a) 0) := by
  funext k
  unfold upd
  by_cases e : k = 141 + a
  · subst e
    rw [if_pos rfl, rw_pt ha]
    unfold rs ptF
    rw [up_s, up_s]
    rfl
  · rw [if_neg e]
    have e1 : rs ρ (141 + a) 0 (k / 189) (k % 189) = ρ (k / 189) (k % 189) := by
      unfold rs
      by_cases h : k / 189 = 0
      · rw [h, up_s, up_ne (by omega)]
      · rw [up_n _ _ h]
    unfold rwF
    rw [e1]
def zbS (ρ : Nat → Nat → Nat) (n : Nat) : Nat → Nat → Nat := fun s j => if s = 0 ∧ j < n then 0 else ρ s j
theorem zb_0 (ρ : Nat → Nat → Nat) : rwF ρ = rwF (zbS ρ 0) := rwF_ext fun s j _ => by unfold zbS; rw [if_neg (by omega)]
theorem zb_x {ρ : Nat → Nat → Nat} {i k : Nat} (hi : i < 189) (e : ¬ k = i) : rwF (zbS ρ i) k = rwF (zbS ρ (i + 1)) k := by
  have e1 : zbS ρ i (k / 189) (k % 189) = zbS ρ (i + 1) (k / 189) (k % 189) := by
    unfold zbS
    by_cases h : k / 189 = 0 ∧ k % 189 < i
    · rw [if_pos h, if_pos (by omega)]
    · rw [if_neg h, if_neg (by omega)]
  unfold rwF
  rw [e1]
theorem zb_lo {ρ : Nat → Nat → Nat} {i : Nat} (hi : i < 141) : upd (rwF (zbS ρ i)) i (nI 0) = rwF (zbS ρ (i + 1)) := by
  funext k
  unfold upd
  by_cases e : k = i
  · subst e
    rw [if_pos rfl, rw_lo hi]
    unfold zbS
    rw [if_pos (by omega)]
  · rw [if_neg e]
    exact zb_x (by omega) e
theorem zb_hi {ρ : Nat → Nat → Nat} {i : Nat} (h1 : 141 ≤ i) (h2 : i < 189) : upd (rwF (zbS ρ i)) i (-1) = rwF (zbS ρ (i + 1)) := by
  funext k
  unfold upd
  by_cases e : k = i
  · subst e
    rw [if_pos rfl]
    unfold rwF
    rw [if_neg (by omega), Nat.div_eq_of_lt h2, Nat.mod_eq_of_lt h2]
    unfold zbS
    rw [if_pos (by omega)]
    rfl
  · rw [if_neg e]
    exact zb_x h2 e
def bgR (ρ : Nat → Nat → Nat) (R B S : Nat) : Nat → Nat → Nat → Nat
  | 0 => rs (rs (rs (zbS ρ 189) 0 R) 1 B) 2 S
  | n + 1 => rs (bgR ρ R B S n) (3 + n) n
theorem bgR_o (ρ : Nat → Nat → Nat) (R B S : Nat) {s : Nat} (hs : ¬ s = 0) : ∀ n, bgR ρ R B S n s = ρ s
  | 0 => by
    unfold bgR rs
    rw [up_n _ _ hs, up_n _ _ hs, up_n _ _ hs]
    funext j
    unfold zbS
    rw [if_neg (by omega)]
  | n + 1 => by
    rw [bgR]
    unfold rs
    rw [up_n _ _ hs]
    exact bgR_o ρ R B S hs n
theorem bgR_s (ρ : Nat → Nat → Nat) (R B S : Nat) {j : Nat} (hj : j < 189) : ∀ n, bgR ρ R B S n 0 j = if j = 0 then R else if j = 1 then B else if j = 2 then S else if 3 ≤ j ∧ j < 3 + n then j - 3 else 0
  | 0 => by
    unfold bgR rs
    rw [up_s, up_s, up_s]
    by_cases e2 : j = 2
    · subst e2
      rw [up_s]; rfl
    · rw [up_ne e2]
      by_cases e1 : j = 1
      · subst e1
        rw [up_s]; rfl
      · rw [up_ne e1]
        by_cases e0 : j = 0
        · subst e0
          rw [up_s]; rfl
        · rw [up_ne e0, if_neg e0, if_neg e1, if_neg e2, if_neg (by omega)]
          unfold zbS
          rw [if_pos (by omega)]
  | n + 1 => by
    rw [bgR]
    unfold rs
    rw [up_s]
    by_cases e : j = 3 + n
    · subst e
      rw [up_s, if_neg (by omega), if_neg (by omega), if_neg (by omega), if_pos (by omega)]
      omega
    · rw [up_ne e, bgR_s ρ R B S hj n]
      by_cases h : 3 ≤ j ∧ j < 3 + n
      · rw [if_neg (by omega), if_neg (by omega), if_neg (by omega), if_pos h, if_neg (by omega), if_neg (by omega), if_neg (by omega), if_pos (by omega)]
      · split
        · rfl
        · split
          · rfl
          · split
            · rfl
            · rw [if_neg (by omega)]
theorem bgR_e (ρ : Nat → Nat → Nat) (R B S : Nat) : rwF (bgR ρ R B S R) = rwF (va_up ρ 0 (bgS R B S)) := rwF_ext fun s j hj => by
  by_cases h : s = 0
  · subst h
    rw [up_s, bgR_s ρ R B S hj]
    rfl
  · rw [up_n _ _ h, bgR_o ρ R B S h]
/-- all addresses are read as they were -/
def asB (σ wv nw : Nat → Nat) (n : Nat) : Bool := (List.range n).all fun a => rwM wv σ a == nw a
theorem as_s (σ wv nw : Nat → Nat) (n : Nat) : asB σ wv nw (n + 1) = (asB σ wv nw n && rwM wv σ n == nw n) := by
  unfold asB
  rw [List.range_succ, List.all_append]
  simp
theorem as_stop {σ wv nw : Nat → Nat} {i m : Nat} (h : asB σ wv nw i = false) (hm : i ≤ m) : asB σ wv nw m = false := by
  unfold asB at h ⊢
  rw [List.all_eq_false] at h ⊢
  obtain ⟨a, h1, h2⟩ := h
  exact ⟨a, List.mem_range.mpr (by have := List.mem_range.mp h1; omega), h2⟩
