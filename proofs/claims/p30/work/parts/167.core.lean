/-- the world of a CoreRope: itself, its rope, its history, its text -/
def wCR (h : Nat) (ad : Nat → Nat) (aa : Nat → Nat → Nat) (cI cR : ClassId) (σ : Nat → Nat) (o n : Nat) (τ : Nat → Nat → Nat) (b : Nat → Nat) (ln : Nat) (g : Nat → Nat) (fo0 : Nat) : va_W := (h, .inr (3, [.ref (ad 0), .ref (ad 1), .ref (ad 2)])) :: (wRp (ad 0) (aa 0) cI (σ 0) (σ 1) (σ 2) (onF σ) (wwF σ) (crF σ) (ptF σ) ++ (wHs (ad 1) (ad 3) (fun j => ad (4 + j)) (fun j => aa (2 + j)) cI cR o n τ ++ wTx (ad 2) (aa 1) cI (nF b) ln (nF g) fo0))
theorem rcF_m1 {σ : Nat → Nat} {c : Nat} (hR : σ 0 ≤ 16) (h : rcF σ c = -1) : ∀ j, j < σ 0 → ¬ σ (3 + j) = c := by
  rcases rcF_cases σ c with ⟨i, hi, hc, e⟩ | ⟨hn, -⟩
  · intro j hj hz
    rw [e] at h
    exact nI_m1 (by omega) h
  · exact hn
theorem rcF_nI {σ : Nat → Nat} {c k : Nat} (hw : wf σ) (hk : k < σ 0) (h : rcF σ c = nI k) : σ (3 + k) = c := by
  have hR := hw.2.1
  rcases rcF_cases σ c with ⟨i, hi, hc, e⟩ | ⟨hn, e⟩
  · rw [e] at h
    have := (nI_eq (by omega) (by omega)).mp h
    subst this
    exact hc
  · rw [e] at h
    exact absurd h.symm (nI_m1 (by omega))
theorem okC_t {σ : Nat → Nat} {x y : Int32} (h : rcF σ (cl y) = -1 ∨ rcF σ (cl y) = x) : okC σ x y = true := by
  unfold okC
  rcases h with h | h <;> simp [h]
theorem okC_f {σ : Nat → Nat} {x y : Int32} (h : ¬ rcF σ (cl y) = -1) (h2 : ¬ rcF σ (cl y) = x) : okC σ x y = false := by
  unfold okC
  simp [h, h2]
/-- no other ring has the code -/
theorem okC_free {σ : Nat → Nat} (hw : wf σ) {k : Nat} {y : Int32} (hk : k < σ 0) (h : okC σ (nI k) y = true) : ∀ q, q < σ 0 → ¬ q = k → ¬ σ (3 + q) = cl y := by
  unfold okC at h
  rw [Bool.or_eq_true] at h
  intro q hq hne hz
  rcases h with h | h
  · exact rcF_m1 hw.2.1 (eq_of_beq h) q hq hz
  · have h1 := rcF_nI hw hk (eq_of_beq h)
    exact hne (hw.2.2.2.2.2.2.2.1 q k hq hk (by rw [hz, h1]))
theorem cond_t {α : Type} {b : Bool} {x y : α} (h : b = true) : cond b x y = x := by rw [h]; rfl
theorem cond_f {α : Type} {b : Bool} {x y : α} (h : b = false) : cond b x y = y := by rw [h]; rfl
theorem inB_clt {x : Int32} {n : Nat} (hx : x = nI (cl x)) (hn : n < 2 ^ 31) (h : cl x < n) : inB x n = true := by rw [hx]; exact inB_nI h hn
theorem inB_clf {x : Int32} {n : Nat} (hx : x = nI (cl x)) (hn : cl x < 2 ^ 31) (h : n ≤ cl x) : inB x n = false := by
  rw [hx]
  exact inB_ge (by omega) (nI_le h hn)
theorem okP_1 {σ : Nat → Nat} {x : Int32} (h : ¬ σ (141 + cl x) = 0) : okP σ x = true := by unfold okP; rw [bne_iff_ne.mpr h]; rfl
theorem okP_2 {σ : Nat → Nat} {x : Int32} (h : pcN σ < 4) : okP σ x = true := by unfold okP; rw [decide_eq_true h]; simp
theorem okP_f {σ : Nat → Nat} {x : Int32} (h : σ (141 + cl x) = 0) (h2 : ¬ pcN σ < 4) : okP σ x = false := by unfold okP; rw [decide_eq_false h2, h]; rfl
/-- what a scan keeps to -/
def scI (A hw n : Nat) (t : Option Nat × Nat × Nat × Nat × Nat × (Nat → Nat)) : Prop := (∀ r, t.1 = some r → r < n) ∧ (t.1 = none → t.2.2.2.2.1 ≤ A ∧ (¬ t.2.1 = 0 → 1 ≤ t.2.2.2.2.1) ∧ t.2.1 ≤ 2 ∧ t.2.2.1 ≤ n ∧ t.2.2.2.1 ≤ hw ∧ ∀ j, j < t.2.2.2.2.1 → t.2.2.2.2.2 j ≤ hw)
theorem scI_s {A hw n r : Nat} {t : Nat × Nat × Nat × Nat × (Nat → Nat)} (h : r < n) : scI A hw n (some r, t) := ⟨fun q e => (by cases e; exact h), fun e => (by cases e)⟩
theorem scI_n {A hw n pl st wd fo : Nat} {gg : Nat → Nat} (h1 : fo ≤ A) (h2 : ¬ pl = 0 → 1 ≤ fo) (h3 : pl ≤ 2) (h4 : st ≤ n) (h5 : wd ≤ hw) (h6 : ∀ j, j < fo → gg j ≤ hw) : scI A hw n (none, pl, st, wd, fo, gg) := ⟨fun q e => (by cases e), fun _ => ⟨h1, h2, h3, h4, h5, h6⟩⟩
theorem scI_step {b : Nat → Nat} {A hw n pl st wd fo : Nat} {gg : Nat → Nat} (i1 : fo ≤ A) (i2 : ¬ pl = 0 → 1 ≤ fo) (i3 : pl ≤ 2) (i4 : st ≤ n) (i5 : wd ≤ hw) (i6 : ∀ j, j < fo → gg j ≤ hw) : scI A hw (n + 1) (scStep b A hw n pl st wd fo gg) := by
  unfold scStep
  split
  · split
    · exact scI_s (by omega)
    · split
      · split
        · exact scI_s (by omega)
        · refine scI_n (by omega) (by omega) (by omega) (by omega) (by omega) fun j hj => ?_
          by_cases e : j = fo + 1 - 1
          · rw [e, up_s]; omega
          · rw [up_ne e]; exact i6 j (by omega)
      · split
        · exact scI_s (by omega)
        · refine scI_n (by omega) (by omega) (by omega) (by omega) (by omega) fun j hj => ?_
          by_cases e : j = fo - 1
          · rw [e, up_s]; omega
          · rw [up_ne e]; exact i6 j (by omega)
  · split
    · exact scI_n (by omega) (by omega) (by omega) (by omega) (by omega) i6
    · split
      · split
        · exact scI_n (by omega) (by omega) (by omega) (by omega) (by omega) i6
        · exact scI_n (by omega) (by omega) (by omega) (by omega) (by omega) i6
      · exact scI_s (by omega)
theorem sc_inv (b : Nat → Nat) (A hw : Nat) (g : Nat → Nat) : ∀ n, scI A hw n (scRun b A hw g n)
  | 0 => scI_n (by omega) (by omega) (by omega) (by omega) (by omega) (fun j hj => absurd hj (Nat.not_lt_zero j))
  | n + 1 => by
    have ih := sc_inv b A hw g n
    rw [scRun]
    cases hr : (scRun b A hw g n).1 with
    | some r =>
      have e : scNext b A hw n (scRun b A hw g n) = scRun b A hw g n := by unfold scNext; rw [hr]
      rw [e]
      refine ⟨fun q hq => Nat.lt_succ_of_lt (ih.1 q hq), fun hq => ?_⟩
      rw [hr] at hq
      cases hq
    | none =>
      obtain ⟨i1, i2, i3, i4, i5, i6⟩ := ih.2 hr
      have e : scNext b A hw n (scRun b A hw g n) = scStep b A hw n (scRun b A hw g n).2.1 (scRun b A hw g n).2.2.1 (scRun b A hw g n).2.2.2.1 (scRun b A hw g n).2.2.2.2.1 (scRun b A hw g n).2.2.2.2.2 := by unfold scNext; rw [hr]
      rw [e]
      exact scI_step i1 i2 i3 i4 i5 i6
theorem sc_ok {b : Nat → Nat} {A hw : Nat} {g : Nat → Nat} {ln : Nat} (hl : ln < 2 ^ 31) (h : scRes b A hw g ln = -1) : (scRun b A hw g ln).2.2.2.2.1 ≤ A ∧ ∀ j, j < (scRun b A hw g ln).2.2.2.2.1 → (scRun b A hw g ln).2.2.2.2.2 j ≤ hw := by
  have hi := sc_inv b A hw g ln
  cases hr : (scRun b A hw g ln).1 with
  | some r =>
    have h1 := hi.1 r hr
    unfold scRes at h
    rw [hr] at h
    exact absurd h (nI_m1 (by omega))
  | none =>
    obtain ⟨h1, -, -, -, -, h6⟩ := hi.2 hr
    exact ⟨h1, h6⟩
theorem ld_lo (σ : Nat → Nat) (g : Nat → Nat) {k : Nat} (h : k < 19) : ∀ n, ldS σ g n k = σ k
  | 0 => rfl
  | n + 1 => by rw [ldS, up_ne (by omega)]; exact ld_lo σ g h n
theorem wf_ld {σ : Nat → Nat} (hw : wf σ) {g : Nat → Nat} : ∀ n, n ≤ nA σ → (∀ j, j < n → g j < 2 ^ σ 1) → wf (ldS σ g n)
  | 0, _, _ => hw
  | n + 1, h, hg => by
    have ih := wf_ld hw n (by omega) (fun j hj => hg j (by omega))
    rw [ldS]
    refine wf_word ih ?_ ?_
    · unfold nA; rw [ld_lo σ g (by omega), ld_lo σ g (by omega)]; exact h
    · rw [ld_lo σ g (by omega)]; exact hg n (by omega)
theorem nA_ld (σ : Nat → Nat) (g : Nat → Nat) (n : Nat) : nA (ldS σ g n) = nA σ := by unfold nA; rw [ld_lo σ g (by omega), ld_lo σ g (by omega)]
