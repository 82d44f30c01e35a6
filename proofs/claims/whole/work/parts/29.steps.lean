/-! ===== what each call leaves, in the words of the state: it keeps what the law's loop keeps ===== -/
theorem st_begin {x y z : Int32} (h : ok3 x y z = true) : wf (bgS (cl x) (cl y) (cl z)) ∧ pcN (bgS (cl x) (cl y) (cl z)) ≤ 4 := by
  unfold ok3 at h
  rw [Bool.and_eq_true, Bool.and_eq_true] at h
  obtain ⟨⟨h1, h2⟩, h3⟩ := h
  obtain ⟨a1, a2, -⟩ := btw_cl (by decide) h1
  obtain ⟨b1, b2, -⟩ := btw_cl (by decide) h2
  obtain ⟨c1, c2, -⟩ := btw_cl (by decide) h3
  exact ⟨wf_bg a1 a2 b1 b2 c1 c2, by rw [pc_bg a2]; omega⟩
theorem st_code {σ : Nat → Nat} {x y : Int32} (hw : wf σ) (h4 : pcN σ ≤ 4) (h : (inB x (σ 0) && inB y 16 && okC σ x y) = true) : wf (va_up σ (3 + cl x) (cl y)) ∧ pcN (va_up σ (3 + cl x) (cl y)) ≤ 4 := by
  rw [Bool.and_eq_true, Bool.and_eq_true] at h
  obtain ⟨⟨h1, h2⟩, h3⟩ := h
  have hR := hw.2.1
  obtain ⟨a1, a2⟩ := inB_cl (by omega) h1
  obtain ⟨b1, b2⟩ := inB_cl (by decide) h2
  rw [a2] at h3
  refine ⟨wf_code hw a1 b1 (okC_free hw a1 h3), ?_⟩
  rw [pc_up (by omega) (by omega)]
  exact h4
theorem st_weave {σ : Nat → Nat} {x y : Int32} (hw : wf σ) (h4 : pcN σ ≤ 4) (h : (inB x (nA σ) && inB y (2 ^ σ 1)) = true) : wf (va_up σ (19 + cl x) (cl y)) ∧ pcN (va_up σ (19 + cl x) (cl y)) ≤ 4 := by
  rw [Bool.and_eq_true] at h
  obtain ⟨h1, h2⟩ := h
  have h48 := hw.a48
  have hB := p2_10 hw.2.2.2.1
  obtain ⟨a1, a2⟩ := inB_cl (by omega) h1
  obtain ⟨b1, b2⟩ := inB_cl (by omega) h2
  refine ⟨wf_word hw a1 b1, ?_⟩
  rw [pc_up (by omega) (by omega)]
  exact h4
theorem st_cross {σ : Nat → Nat} {x : Int32} (hw : wf σ) (h4 : pcN σ ≤ 4) (h : (inB x (nW σ) && !inB x 8) = true) : wf (va_up σ (67 + (cl x - 8)) (1 - crN σ (cl x))) ∧ pcN (va_up σ (67 + (cl x - 8)) (1 - crN σ (cl x))) ≤ 4 := by
  rw [Bool.and_eq_true] at h
  obtain ⟨h1, h2⟩ := h
  have h41 := hw.w41
  have h33 := hw.a33
  obtain ⟨a1, a2⟩ := inB_cl (by omega) h1
  have h8 : 8 ≤ cl x := by
    refine Classical.byContradiction fun q => ?_
    rw [inB_clt a2 (by decide) (by omega)] at h2
    cases h2
  have hk : cl x - 8 < σ 2 * (σ 1 + 1) := by
    unfold nW at a1
    omega
  refine ⟨wf_cr hw hk (by omega), ?_⟩
  rw [pc_up (by omega) (by omega)]
  exact h4
theorem st_ec {σ : Nat → Nat} (hw : wf σ) (h4 : pcN σ ≤ 4) : wf (ecS σ) ∧ pcN (ecS σ) ≤ 4 := ⟨wf_ec hw, by rw [pc_ec hw]; exact h4⟩
theorem st_spoil {σ : Nat → Nat} {x y : Int32} (hw : wf σ) (h4 : pcN σ ≤ 4) (h : (inB x (nW σ) && inB y (σ 0)) = true) : wf (va_up σ (100 + cl x) (σ (100 + cl x) ^^^ 1 <<< cl y)) ∧ pcN (va_up σ (100 + cl x) (σ (100 + cl x) ^^^ 1 <<< cl y)) ≤ 4 := by
  rw [Bool.and_eq_true] at h
  obtain ⟨h1, h2⟩ := h
  have h41 := hw.w41
  have hR := hw.2.1
  obtain ⟨a1, a2⟩ := inB_cl (by omega) h1
  obtain ⟨b1, b2⟩ := inB_cl (by omega) h2
  have hx : σ (100 + cl x) ^^^ 1 <<< cl y < 2 ^ σ 0 := Nat.xor_lt_two_pow (hw.2.2.2.2.2.2.2.2.2.2.1 _ a1) (by rw [Nat.shiftLeft_eq, Nat.one_mul]; exact Nat.pow_lt_pow_right (by decide) b1)
  refine ⟨wf_sp hw a1 hx, ?_⟩
  rw [pc_up (by omega) (by omega)]
  exact h4
theorem st_patch {σ : Nat → Nat} {x y : Int32} (hw : wf σ) (h4 : pcN σ ≤ 4) (h : (inB x (nA σ) && inB y (2 ^ σ 1) && okP σ x) = true) : wf (ptS σ x (cl y + 1)) ∧ pcN (ptS σ x (cl y + 1)) ≤ 4 := by
  rw [Bool.and_eq_true, Bool.and_eq_true] at h
  obtain ⟨⟨h1, h2⟩, h3⟩ := h
  have h48 := hw.a48
  have hB := p2_10 hw.2.2.2.1
  obtain ⟨a1, a2⟩ := inB_cl (by omega) h1
  obtain ⟨b1, b2⟩ := inB_cl (by omega) h2
  exact ⟨wf_pt hw (by omega), pc_patch h4 a1 h3⟩
theorem st_unpatch {σ : Nat → Nat} {x : Int32} (hw : wf σ) (h4 : pcN σ ≤ 4) (h : (inB x (nA σ) && σ (141 + cl x) != 0) = true) : wf (ptS σ x 0) ∧ pcN (ptS σ x 0) ≤ 4 := by
  rw [Bool.and_eq_true] at h
  obtain ⟨h1, h2⟩ := h
  have h48 := hw.a48
  obtain ⟨a1, a2⟩ := inB_cl (by omega) h1
  exact ⟨wf_pt hw (Nat.zero_le _), pc_unpatch h4 a1⟩
theorem st_pa {σ : Nat → Nat} (hw : wf σ) (h4 : pcN σ ≤ 4) : wf (paS σ) ∧ pcN (paS σ) ≤ 4 := ⟨wf_ad (wf_md hw _) _, pc_pa hw h4⟩
theorem LI.opt {o n : Nat} {τ ρ : Nat → Nat → Nat} {b : Nat → Nat} {ln : Nat} (h : LI o n τ ρ b ln) (ok : Bool) {σ' : Nat → Nat} (hs : ok = true → wf σ' ∧ pcN σ' ≤ 4) : cond ok σ' (ρ 0) = (cond ok (recR ρ n σ') ρ) 0 ∧ LI (cond ok (kpO o n) o) (cond ok (kpN n) n) (cond ok (va_up τ (kpS o n) (ρ 0)) τ) (cond ok (recR ρ n σ') ρ) b ln := by
  cases ok with
  | false => exact ⟨rfl, h⟩
  | true => exact ⟨(rec_0 ρ n σ').symm, h.recd (hs rfl).1 (hs rfl).2⟩
theorem LI.rec1 {o n : Nat} {τ ρ : Nat → Nat → Nat} {b : Nat → Nat} {ln : Nat} (h : LI o n τ ρ b ln) {σ' : Nat → Nat} (hs : wf σ' ∧ pcN σ' ≤ 4) : σ' = recR ρ n σ' 0 ∧ LI (kpO o n) (kpN n) (va_up τ (kpS o n) (ρ 0)) (recR ρ n σ') b ln := ⟨(rec_0 ρ n σ').symm, h.recd hs.1 hs.2⟩
theorem LI.und {o n : Nat} {τ ρ : Nat → Nat → Nat} {b : Nat → Nat} {ln : Nat} (h : LI o n τ ρ b ln) : cond (n == 0) (ρ 0) (τ ((o + (n - 1)) % 5)) = (cond (n == 0) ρ (va_up ρ 0 (ρ n))) 0 ∧ LI o (cond (n == 0) n (n - 1)) τ (cond (n == 0) ρ (va_up ρ 0 (ρ n))) b ln := by
  by_cases e : n = 0
  · subst e
    exact ⟨rfl, h⟩
  · rw [beq_eq_false_iff_ne.mpr e]
    obtain ⟨h1, h2⟩ := h.undo (by omega)
    exact ⟨by show τ ((o + (n - 1)) % 5) = va_up ρ 0 (ρ n) 0; rw [h1, up_s], h2⟩
theorem LI.typ {o n : Nat} {τ ρ : Nat → Nat → Nat} {b : Nat → Nat} {ln : Nat} (h : LI o n τ ρ b ln) (x : Int32) : LI o n τ ρ (cond (inB x 256 && !(ln == 100)) (va_up b ln (cl x)) b) (cond (inB x 256 && !(ln == 100)) (ln + 1) ln) := by
  cases e : inB x 256 && !(ln == 100) with
  | false => exact h
  | true =>
    rw [Bool.and_eq_true] at e
    obtain ⟨a1, a2⟩ := inB_cl (by decide) e.1
    have h1 : ¬ ln = 100 := by have := e.2; simpa using this
    have h2 : ln ≤ 100 := h.2.2.2.2.2.1
    exact h.typed a1 (by omega)
theorem up_0r (ρ : Nat → Nat → Nat) (σ' : Nat → Nat) : va_up ρ 0 σ' 0 = σ' := up_s ρ 0 σ'
/-- the two tell the same fault -/
theorem tf_same (b : Nat → Nat) (A B : Nat) (g : Nat → Nat) (ln : Nat) (ρ : Nat → Nat → Nat) : scRes b A (1 <<< B - 1) g ln = rtF b ln A B ρ := by
  have hi := rt_ind b ln A B 0 1 ρ ρ ln
  rw [sh1]
  unfold rtF
  rcases rt_main (b := b) (A := A) (B := B) g (ln := ln) ρ with ⟨h1, h2, h3⟩ | ⟨h1, h2, h3, h4⟩
  · rw [h3, hi.1, h1, hi.2.1]
    rfl
  · rw [h2, hi.1, h1]
    rfl
theorem ld_c {σ : Nat → Nat} (g : Nat → Nat) (n : Nat) {k : Nat} (h : k < 19) : ldS σ g n k = σ k := ld_lo σ g h n
/-- the two load the same -/
theorem ld_same {o n : Nat} {τ ρ : Nat → Nat → Nat} {b : Nat → Nat} {ln : Nat} (h : LI o n τ ρ b ln) (g : Nat → Nat) :
    (cond (scRes b (nA (ρ 0)) (1 <<< ρ 0 1 - 1) g ln == -1) (nI ((scRun b (nA (ρ 0)) (1 <<< ρ 0 1 - 1) g ln).2.2.2.2.1)) (-4) = lmX b ln ρ n) ∧
    (cond (scRes b (nA (ρ 0)) (1 <<< ρ 0 1 - 1) g ln == -1) (ldS (ρ 0) (scRun b (nA (ρ 0)) (1 <<< ρ 0 1 - 1) g ln).2.2.2.2.2 (scRun b (nA (ρ 0)) (1 <<< ρ 0 1 - 1) g ln).2.2.2.2.1) (ρ 0) = lmS b ln ρ n 0) ∧
    (cond (scRes b (nA (ρ 0)) (1 <<< ρ 0 1 - 1) g ln == -1) (kpN n) n = lmV b ln ρ n) ∧
    LI (cond (scRes b (nA (ρ 0)) (1 <<< ρ 0 1 - 1) g ln == -1) (kpO o n) o) (cond (scRes b (nA (ρ 0)) (1 <<< ρ 0 1 - 1) g ln == -1) (kpN n) n) (cond (scRes b (nA (ρ 0)) (1 <<< ρ 0 1 - 1) g ln == -1) (va_up τ (kpS o n) (ρ 0)) τ) (lmS b ln ρ n) b ln := by
  obtain ⟨hw, h4, -, -, -, hln, -⟩ := id h
  have h48 := hw.a48
  have hv0 := sv_0 ρ n
  have hi := rt_ind b ln (nA (ρ 0)) (ρ 0 1) 0 1 ρ (svR ρ n) ln
  have hsh : 1 <<< ρ 0 1 - 1 = 2 ^ ρ 0 1 - 1 := by rw [sh1]
  unfold lmX lmS lmV
  rw [hi.1]
  rcases rt_main (b := b) (A := nA (ρ 0)) (B := ρ 0 1) g (ln := ln) (svR ρ n) with ⟨h1, h2, h3⟩ | ⟨h1, h2, h3, h5⟩
  · have e : (scRes b (nA (ρ 0)) (1 <<< ρ 0 1 - 1) g ln == -1) = false := by
      rw [hsh, h3]
      exact beq_eq_false_iff_ne.mpr (nI_m1 (by omega))
    rw [e, h1]
    exact ⟨rfl, rfl, rfl, h⟩
  · have e : (scRes b (nA (ρ 0)) (1 <<< ρ 0 1 - 1) g ln == -1) = true := by
      rw [hsh, h2]
      rfl
    obtain ⟨k1, k2⟩ := sc_ok (by omega) h2
    have hB := Nat.two_pow_pos (ρ 0 1)
    rw [e, h1, hsh, h3, h5, hv0]
    have hs : wf (ldS (ρ 0) (scRun b (nA (ρ 0)) (2 ^ ρ 0 1 - 1) g ln).2.2.2.2.2 (scRun b (nA (ρ 0)) (2 ^ ρ 0 1 - 1) g ln).2.2.2.2.1) ∧ pcN (ldS (ρ 0) (scRun b (nA (ρ 0)) (2 ^ ρ 0 1 - 1) g ln).2.2.2.2.2 (scRun b (nA (ρ 0)) (2 ^ ρ 0 1 - 1) g ln).2.2.2.2.1) ≤ 4 :=
      ⟨wf_ld hw _ k1 (fun j hj => by have := k2 j hj; omega), by rw [pc_ld (by omega)]; exact h4⟩
    exact ⟨rfl, (up_0r _ _).symm, rfl, h.recd hs.1 hs.2⟩
