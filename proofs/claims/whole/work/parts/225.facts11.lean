def ecG (σ : Nat → Nat) (n : Nat) : Nat → Nat := fun k => if 67 ≤ k ∧ k < 67 + (n - 8) then bst σ (k - 67 + 8) else σ k
theorem ecG_8 (σ : Nat → Nat) : ecG σ 8 = σ := by
  funext k
  unfold ecG
  rw [if_neg (by omega)]
theorem ecG_e (σ : Nat → Nat) : ecG σ (nW σ) = ecS σ := by
  funext k
  unfold ecG ecS nW
  rw [show 8 + σ 2 * (σ 1 + 1) - 8 = σ 2 * (σ 1 + 1) by omega]
theorem ecG_lo (σ : Nat → Nat) (n : Nat) {k : Nat} (h : k < 67) : ecG σ n k = σ k := by unfold ecG; rw [if_neg (by omega)]
theorem ecG_at (σ : Nat → Nat) {i : Nat} (h : 8 ≤ i) : ecG σ i (67 + i - 8) = crN σ i := by
  unfold ecG
  rw [if_neg (by omega)]
  exact cr_ix h
theorem ecG_s (σ : Nat → Nat) {i : Nat} (h : 8 ≤ i) : va_up (ecG σ i) (67 + i - 8) (bst σ i) = ecG σ (i + 1) := by
  funext k
  by_cases e : k = 67 + i - 8
  · subst e
    rw [up_s]
    unfold ecG
    rw [if_pos (by omega), show 67 + i - 8 - 67 + 8 = i by omega]
  · rw [up_ne e]
    unfold ecG
    by_cases h2 : 67 ≤ k ∧ k < 67 + (i - 8)
    · rw [if_pos h2, if_pos (by omega)]
    · rw [if_neg h2, if_neg (by omega)]
theorem wf_ecG {σ : Nat → Nat} (hw : wf σ) {n : Nat} (hn : n ≤ nW σ) : wf (ecG σ n) := by
  have hR := hw.2.1
  have hA := hw.a48
  have h33 := hw.a33
  have h41 := hw.w41
  have lo : ∀ k, k < 67 → ecG σ n k = σ k := fun k hk => ecG_lo σ n hk
  have hi : ∀ k, 100 ≤ k → ecG σ n k = σ k := fun k hk => by unfold ecG; rw [if_neg (by omega)]
  obtain ⟨h1, h2, h3, h4, h5, h6, h7, h8, h9, h10, h11, h12⟩ := hw
  have e0 := lo 0 (by omega)
  have e1 := lo 1 (by omega)
  have e2 := lo 2 (by omega)
  have eA : nA (ecG σ n) = nA σ := by unfold nA; rw [e0, e2]
  have eW : nW (ecG σ n) = nW σ := by unfold nW; rw [e1, e2]
  unfold wf
  rw [eA, eW, e0, e1, e2]
  refine ⟨h1, h2, h3, h4, h5, h6, fun q hq => by rw [lo _ (by omega)]; exact h7 q hq, fun q z hq hz e => h8 q z hq hz (by rw [lo _ (by omega), lo _ (by omega)] at e; exact e), fun a ha => by rw [lo _ (by omega)]; exact h9 a ha, fun j hj => ?_, fun j hj => by rw [hi _ (by omega)]; exact h11 j hj, fun a ha => by rw [hi _ (by omega)]; exact h12 a ha⟩
  unfold ecG
  split
  · exact bst_le _ _
  · exact h10 j hj
theorem td_on {σ : Nat → Nat} {w : Nat} (h8 : 8 ≤ w) (h : w < nW σ) : mk (tdB σ w) (σ 0) = onM σ w := by
  unfold onM
  rw [if_pos h]
  exact mk_cong fun i _ => (on_td h8 i).symm
theorem wv_lo {σ τ : Nat → Nat} (hw : wf σ) (hl : ∀ k, k < 141 → τ k = σ k) {w : Nat} (h : w < nW σ) : wvM τ w = wvM σ w := by
  have h41 := hw.w41
  unfold wvM rtM
  rw [hl 0 (by omega), hl (100 + w) (by omega)]
  congr 1
  refine mk_cong fun i hi => ?_
  unfold rtB
  have e1 : crN τ w = crN σ w := by
    unfold crN
    split
    · rfl
    · exact hl _ (by omega)
  rw [e1]
  congr 1
  have hon : onM τ w = onM σ w := on_eq67 hw (fun k hk => hl k (by omega)) w
  have hW : nW τ = nW σ := by unfold nW; rw [hl _ (by omega), hl _ (by omega)]
  have h1 := onM_bit (σ := τ) (w := w) (r := i) (by rw [hW]; exact h) (by rw [hl 0 (by omega)]; exact hi)
  have h2 := onM_bit (σ := σ) (w := w) (r := i) h hi
  rw [← h1, ← h2, hon]
theorem md_up0 {σ : Nat → Nat} {n : Nat} (h : σ (141 + n) = 0) : va_up (mdS σ n) (141 + n) 0 = mdS σ (n + 1) := by
  funext k
  by_cases e : k = 141 + n
  · subst e
    rw [up_s]
    unfold mdS
    rw [if_neg (by omega), h]
  · rw [up_ne e]
    unfold mdS
    by_cases h2 : 141 ≤ k ∧ k < 141 + n ∧ ¬ σ k = 0
    · rw [if_pos h2, if_pos (by omega)]
    · rw [if_neg h2, if_neg (by omega)]
theorem md_up1 {σ : Nat → Nat} {n : Nat} (h : ¬ σ (141 + n) = 0) : va_up (mdS σ n) (141 + n) (σ (19 + n) + 1) = mdS σ (n + 1) := by
  funext k
  by_cases e : k = 141 + n
  · subst e
    rw [up_s]
    unfold mdS
    rw [if_pos (by omega), show 141 + n - 122 = 19 + n by omega]
  · rw [up_ne e]
    unfold mdS
    by_cases h2 : 141 ≤ k ∧ k < 141 + n ∧ ¬ σ k = 0
    · rw [if_pos h2, if_pos (by omega)]
    · rw [if_neg h2, if_neg (by omega)]
theorem md_00 (σ : Nat → Nat) : mdS σ 0 = σ := by
  funext k
  unfold mdS
  rw [if_neg (by omega)]
theorem nA_lo {σ τ : Nat → Nat} (hl : ∀ k, k < 141 → τ k = σ k) : nA τ = nA σ := by unfold nA; rw [hl _ (by omega), hl _ (by omega)]
theorem nW_lo {σ τ : Nat → Nat} (hl : ∀ k, k < 141 → τ k = σ k) : nW τ = nW σ := by unfold nW; rw [hl _ (by omega), hl _ (by omega)]
theorem pa_lo (σ : Nat → Nat) : ∀ k, k < 141 → paS σ k = σ k := fun k hk => by unfold paS; rw [ad_lo _ hk, md_lo σ _ hk]
/-- the model's own words for explains -/
def nwG (σ nw : Nat → Nat) (n : Nat) : Nat → Nat := fun a => if a < n then rwM (wvM σ) σ a else nw a
def rtG (σ g : Nat → Nat) (n : Nat) : Nat → Nat := fun w => if w < n then rtM σ w else g w
theorem nwG_0 (σ nw : Nat → Nat) : nF nw = nF (nwG σ nw 0) := by funext j; unfold nF nwG; rw [if_neg (by omega)]
theorem nwG_s (σ nw : Nat → Nat) (i : Nat) : upd (nF (nwG σ nw i)) i (nI (rwM (wvM σ) σ i)) = nF (nwG σ nw (i + 1)) := by
  rw [upd_nF]
  congr 1
  funext j
  by_cases e : j = i
  · subst e; rw [up_s]; unfold nwG; rw [if_pos (by omega)]
  · rw [up_ne e]
    unfold nwG
    by_cases h : j < i
    · rw [if_pos h, if_pos (by omega)]
    · rw [if_neg h, if_neg (by omega)]
theorem rtG_0 (σ g : Nat → Nat) : nF g = nF (rtG σ g 0) := by funext j; unfold nF rtG; rw [if_neg (by omega)]
theorem rtG_s (σ g : Nat → Nat) (i : Nat) : upd (nF (rtG σ g i)) i (nI (rtM σ i)) = nF (rtG σ g (i + 1)) := by
  rw [upd_nF]
  congr 1
  funext j
  by_cases e : j = i
  · subst e; rw [up_s]; unfold rtG; rw [if_pos (by omega)]
  · rw [up_ne e]
    unfold rtG
    by_cases h : j < i
    · rw [if_pos h, if_pos (by omega)]
    · rw [if_neg h, if_neg (by omega)]
theorem xor_back {g : Nat → Nat} {w x : Nat} : va_up (va_up g w (g w ^^^ x)) w (va_up g w (g w ^^^ x) w ^^^ x) = g := by
  funext j
  by_cases e : j = w
  · subst e
    rw [up_s, up_s, Nat.xor_assoc, Nat.xor_self, Nat.xor_zero]
  · rw [up_ne e, up_ne e]
theorem aCount_nI {σ : Nat → Nat} {i : Nat} (h : i < 9) : aCount σ (nI i) = nI (nuN σ i) := by
  unfold aCount
  rw [inB_nI h (by decide), cl_nI (by omega)]
  rfl
theorem md_z {σ : Nat → Nat} (hw : wf σ) {i : Nat} (hi : i < nA σ) : ptF (mdS σ i) i = -1 ↔ σ (141 + i) = 0 := by
  rw [ptF_m1 (by rw [md_at]; exact hw.pt hi), md_at]
