/-- the model's row behind a recorded call -/
def recR (ρ : Nat → Nat → Nat) (sv : Nat) (σ' : Nat → Nat) : Nat → Nat → Nat := va_up (svR ρ sv) 0 σ'
theorem rec_0 (ρ : Nat → Nat → Nat) (sv : Nat) (σ' : Nat → Nat) : recR ρ sv σ' 0 = σ' := up_s _ _ _
theorem sv_rec (ρ : Nat → Nat → Nat) (sv : Nat) : svR ρ sv = recR ρ sv (ρ 0) := by
  funext s
  unfold recR
  by_cases h : s = 0
  · subst h
    rw [up_s, sv_0]
  · rw [up_n _ _ h]
theorem rs_rec {ρ : Nat → Nat → Nat} {sv : Nat} {σ' : Nat → Nat} {j x : Nat} : rs (recR ρ sv σ') j x = recR ρ sv (va_up σ' j x) := by
  funext s
  unfold rs recR
  by_cases h : s = 0
  · subst h
    rw [up_s, up_s, up_s]
  · rw [up_n _ _ h, up_n _ _ h, up_n _ _ h]
theorem upd_rec {ρ : Nat → Nat → Nat} {sv : Nat} {σ' : Nat → Nat} {j x : Nat} (hj : j < 141) : upd (rwF (recR ρ sv σ')) j (nI x) = rwF (recR ρ sv (va_up σ' j x)) := by rw [upd_rw hj, rs_rec]
theorem upd_recp {ρ : Nat → Nat → Nat} {sv : Nat} {σ' : Nat → Nat} {a x : Nat} (ha : a < 48) : upd (rwF (recR ρ sv σ')) (141 + a) (nI x) = rwF (recR ρ sv (va_up σ' (141 + a) (x + 1))) := by rw [upd_rwp ha, rs_rec]
theorem upd_recm {ρ : Nat → Nat → Nat} {sv : Nat} {σ' : Nat → Nat} {a : Nat} (ha : a < 48) : upd (rwF (recR ρ sv σ')) (141 + a) (-1) = rwF (recR ρ sv (va_up σ' (141 + a) 0)) := by rw [upd_rwm ha, rs_rec]
theorem okC_dup {σ : Nat → Nat} (hw : wf σ) {x y : Int32} {r : Nat} (hx : x = nI (cl x)) (hk : cl x < σ 0) (hr : r < σ 0) (hne : ¬ r = cl x) (hc : σ (3 + r) = cl y) : okC σ x y = false := by
  have hR := hw.2.1
  refine okC_f (fun q => rcF_m1 hR q r hr hc) (fun q => ?_)
  rw [hx] at q
  have h1 := rcF_nI hw hk q
  exact hne (hw.2.2.2.2.2.2.2.1 r (cl x) hr hk (by rw [hc, h1]))
theorem okC_nod {σ : Nat → Nat} {x y : Int32} (hx : x = nI (cl x)) (h : ∀ r, r < σ 0 → ¬ r = cl x → ¬ σ (3 + r) = cl y) : okC σ x y = true := by
  rcases rcF_cases σ (cl y) with ⟨i, hi, hc, e⟩ | ⟨-, e⟩
  · by_cases h2 : i = cl x
    · exact okC_t (Or.inr (by rw [e, h2]; exact hx.symm))
    · exact absurd hc (h i hi h2)
  · exact okC_t (Or.inl e)
def ctv (σ : Nat → Nat) (k w : Nat) : Nat := if k = 5 then crN σ w else if k = 6 then pop (σ (100 + w)) else if k = 8 then csN σ w else 0
theorem sm_cong {f g : Nat → Nat} : ∀ {n : Nat}, (∀ i, i < n → f i = g i) → sm f n = sm g n
  | 0, _ => rfl
  | n + 1, h => by rw [sm_s, sm_s, sm_cong (n := n) (fun i hi => h i (by omega)), h n (by omega)]
theorem cnt_e {σ : Nat → Nat} {k : Nat} (h : k = 5 ∨ k = 6 ∨ k = 8) : sm (ctv σ k) (nW σ) = nuN σ k := by
  rcases h with rfl | rfl | rfl
  · exact sm_cong fun i _ => rfl
  · exact sm_cong fun i _ => rfl
  · exact sm_cong fun i _ => rfl
theorem cr_lo {σ : Nat → Nat} {w : Nat} (h : w < 8) : crN σ w = 0 := by unfold crN; rw [if_pos h]
theorem nu_lo {σ : Nat → Nat} {k : Nat} (h : k < 3) : σ k = nuN σ k := by
  rcases (show k = 0 ∨ k = 1 ∨ k = 2 by omega) with rfl | rfl | rfl <;> rfl
