theorem pt_lt {σ : Nat → Nat} (a : Nat) : ∀ j, j < 48 → ptF σ j = ptF σ j := fun _ _ => rfl
theorem code_to {D : va_G} {h : Nat} {a : Nat → Nat} {cI : ClassId} {σ : Nat → Nat} (hw : wf σ) {r c : Nat} (hr : r < σ 0) : nTo D (wRp h a cI (σ 0) (σ 1) (σ 2) (nF (pcG (onM σ) r c 8)) (wwF σ) (crF σ) (ptF σ)) (wRp h a cI (va_up σ (3 + r) c 0) (va_up σ (3 + r) c 1) (va_up σ (3 + r) c 2) (onF (va_up σ (3 + r) c)) (wwF (va_up σ (3 + r) c)) (crF (va_up σ (3 + r) c)) (ptF (va_up σ (3 + r) c))) := by
  have hR := hw.2.1
  refine rp_to (up_ne (by omega)).symm (up_ne (by omega)).symm (up_ne (by omega)).symm (fun j _ => congrArg nI (pc_on hw hr j)) (fun j hj => congrArg nI (up_ne (by omega)).symm) (fun j hj => congrArg nI ?_) (fun j hj => ?_)
  · unfold crN
    split
    · rfl
    · exact (up_ne (by omega)).symm
  · unfold ptF
    rw [up_ne (by omega)]
theorem word_to {D : va_G} {h : Nat} {a : Nat → Nat} {cI : ClassId} {σ : Nat → Nat} (hw : wf σ) {ad wd : Nat} (ha : ad < nA σ) : nTo D (wRp h a cI (σ 0) (σ 1) (σ 2) (nF (pwG (σ 2) (σ 1) (onM σ) ad wd (σ 1 + 1))) (wwF σ) (crF σ) (ptF σ)) (wRp h a cI (va_up σ (19 + ad) wd 0) (va_up σ (19 + ad) wd 1) (va_up σ (19 + ad) wd 2) (onF (va_up σ (19 + ad) wd)) (wwF (va_up σ (19 + ad) wd)) (crF (va_up σ (19 + ad) wd)) (ptF (va_up σ (19 + ad) wd))) := by
  have hA := hw.a48
  refine rp_to (up_ne (by omega)).symm (up_ne (by omega)).symm (up_ne (by omega)).symm (fun j _ => congrArg nI (pw_on hw ha j)) (fun j hj => congrArg nI (up_ne (by omega)).symm) (fun j hj => congrArg nI ?_) (fun j hj => ?_)
  · unfold crN
    split
    · rfl
    · exact (up_ne (by omega)).symm
  · unfold ptF
    rw [up_ne (by omega)]
theorem on_eq67 {σ τ : Nat → Nat} (hw : wf σ) (hl : ∀ k, k < 67 → τ k = σ k) (w : Nat) : onM τ w = onM σ w := by
  have hR := hw.2.1
  have hA := hw.a48
  exact onM_congr (hl _ (by omega)) (hl _ (by omega)) (hl _ (by omega)) (fun r hr => hl _ (by omega)) (fun a ha => hl _ (by omega)) w
theorem turn_to {D : va_G} {h : Nat} {a : Nat → Nat} {cI : ClassId} {σ : Nat → Nat} (hw : wf σ) {w x : Nat} (h8 : 8 ≤ w) (h1 : w < nW σ) : nTo D (wRp h a cI (σ 0) (σ 1) (σ 2) (onF σ) (wwF σ) (nF (va_up (crN σ) w x)) (ptF σ)) (wRp h a cI (va_up σ (67 + (w - 8)) x 0) (va_up σ (67 + (w - 8)) x 1) (va_up σ (67 + (w - 8)) x 2) (onF (va_up σ (67 + (w - 8)) x)) (wwF (va_up σ (67 + (w - 8)) x)) (crF (va_up σ (67 + (w - 8)) x)) (ptF (va_up σ (67 + (w - 8)) x))) := by
  have hA := hw.w41
  refine rp_to (up_ne (by omega)).symm (up_ne (by omega)).symm (up_ne (by omega)).symm (fun j _ => congrArg nI (on_eq67 hw (fun k hk => up_ne (by omega)) j).symm) (fun j hj => congrArg nI (up_ne (by omega)).symm) (fun j hj => congrArg nI ?_) (fun j hj => ?_)
  · by_cases e : j = w
    · subst e
      rw [up_s]
      unfold crN
      rw [if_neg (by omega), up_s]
    · rw [up_ne e]
      unfold crN
      split
      · rfl
      · exact (up_ne (by omega)).symm
  · unfold ptF
    rw [up_ne (by omega)]
theorem spoil_to {D : va_G} {h : Nat} {a : Nat → Nat} {cI : ClassId} {σ : Nat → Nat} (hw : wf σ) {w x : Nat} (h1 : w < nW σ) : nTo D (wRp h a cI (σ 0) (σ 1) (σ 2) (onF σ) (nF (va_up (fun w => σ (100 + w)) w x)) (crF σ) (ptF σ)) (wRp h a cI (va_up σ (100 + w) x 0) (va_up σ (100 + w) x 1) (va_up σ (100 + w) x 2) (onF (va_up σ (100 + w) x)) (wwF (va_up σ (100 + w) x)) (crF (va_up σ (100 + w) x)) (ptF (va_up σ (100 + w) x))) := by
  have hA := hw.w41
  refine rp_to (up_ne (by omega)).symm (up_ne (by omega)).symm (up_ne (by omega)).symm (fun j _ => congrArg nI (on_eq67 hw (fun k hk => up_ne (by omega)) j).symm) (fun j hj => congrArg nI ?_) (fun j hj => congrArg nI ?_) (fun j hj => ?_)
  · by_cases e : j = w
    · subst e
      rw [up_s, up_s]
    · rw [up_ne e, up_ne (by omega)]
  · unfold crN
    split
    · rfl
    · exact (up_ne (by omega)).symm
  · unfold ptF
    rw [up_ne (by omega)]
theorem ec_to {D : va_G} {h : Nat} {a : Nat → Nat} {cI : ClassId} {σ : Nat → Nat} (hw : wf σ) : nTo D (wRp h a cI (σ 0) (σ 1) (σ 2) (onF σ) (wwF σ) (nF (mcG σ (nW σ))) (ptF σ)) (wRp h a cI (ecS σ 0) (ecS σ 1) (ecS σ 2) (onF (ecS σ)) (wwF (ecS σ)) (crF (ecS σ)) (ptF (ecS σ))) := by
  have hA := hw.a33
  have lo : ∀ k, k < 67 → ecS σ k = σ k := fun k hk => by unfold ecS; rw [if_neg (by omega)]
  have hi : ∀ k, 100 ≤ k → ecS σ k = σ k := fun k hk => by unfold ecS; rw [if_neg (by omega)]
  refine rp_to (lo _ (by omega)).symm (lo _ (by omega)).symm (lo _ (by omega)).symm (fun j _ => congrArg nI (on_eq67 hw lo j).symm) (fun j hj => congrArg nI (hi _ (by omega)).symm) (fun j hj => congrArg nI (ec_cr j hj)) (fun j hj => ?_)
  unfold ptF
  rw [hi _ (by omega)]
