/-! ===== p30: economizing, crossing and spoiling twice, patching all ===== -/
theorem ec_lo {σ : Nat → Nat} {k : Nat} (h : k < 67 ∨ 67 + σ 2 * (σ 1 + 1) ≤ k) : ecS σ k = σ k := by
  unfold ecS
  rw [if_neg (by omega)]
theorem nW_ec (σ : Nat → Nat) : nW (ecS σ) = nW σ := by
  unfold nW
  rw [ec_lo (Or.inl (by omega)), ec_lo (Or.inl (by omega))]
theorem cr_ec {σ : Nat → Nat} {w : Nat} (h8 : 8 ≤ w) (hl : w < nW σ) : crN (ecS σ) w = bst σ w := by
  unfold nW at hl
  unfold crN
  rw [if_neg (by omega)]
  unfold ecS
  rw [if_pos (by omega), show 67 + (w - 8) - 67 + 8 = w by omega]
theorem on_ec {σ : Nat → Nat} (hw : wf σ) (w : Nat) : onM (ecS σ) w = onM σ w := on_eq67 hw (fun k hk => ec_lo (Or.inl hk)) w
theorem ec_0 (σ : Nat → Nat) : ecS σ 0 = σ 0 := ec_lo (Or.inl (by omega))
theorem bst_or (σ : Nat → Nat) (w : Nat) : (bst σ w = 1 ∧ σ 0 - pop (onM σ w) + 1 < pop (onM σ w)) ∨ (bst σ w = 0 ∧ ¬ σ 0 - pop (onM σ w) + 1 < pop (onM σ w)) := by
  unfold bst
  by_cases c : σ 0 - pop (onM σ w) + 1 < pop (onM σ w)
  · rw [if_pos c]; exact Or.inl ⟨rfl, c⟩
  · rw [if_neg c]; exact Or.inr ⟨rfl, c⟩
theorem ec_cost {σ : Nat → Nat} (hw : wf σ) {w : Nat} (hl : w < nW σ) : csN (ecS σ) w ≤ csN σ w := by
  have hw2 := wf_ec hw
  have hl2 : w < nW (ecS σ) := by rw [nW_ec]; exact hl
  rw [cs_at hw2 hl2, cs_at hw hl, on_ec hw, ec_0]
  by_cases h8 : w < 8
  · have c1 : crN σ w = 0 := by unfold crN; rw [if_pos h8]
    have c2 : crN (ecS σ) w = 0 := by unfold crN; rw [if_pos h8]
    rw [c1, c2]
    exact Nat.le_refl _
  · rw [cr_ec (by omega) hl]
    have hp := pop_on hw w
    rcases bst_or σ w with ⟨hb, c⟩ | ⟨hb, c⟩
    · rw [hb]
      split <;> split <;> omega
    · rw [hb]
      split <;> split <;> omega
theorem ec_sum {σ : Nat → Nat} (hw : wf σ) : sm (csN (ecS σ)) (nW (ecS σ)) ≤ sm (csN σ) (nW σ) := by
  rw [nW_ec]
  exact sm_le fun w hl => ec_cost hw hl
/-- one sense wire crossed, or made straight -/
def flS (σ : Nat → Nat) (w : Nat) : Nat → Nat := va_up σ (67 + (w - 8)) (1 - crN σ w)
theorem cr_up {σ : Nat → Nat} {w x : Nat} (h8 : 8 ≤ w) : crN (va_up σ (67 + (w - 8)) x) w = x := by
  unfold crN
  rw [if_neg (by omega), up_s]
theorem fl_wf {σ : Nat → Nat} (hw : wf σ) {w : Nat} (h8 : 8 ≤ w) (hl : w < nW σ) : wf (flS σ w) := by
  unfold nW at hl
  exact wf_cr hw (by omega) (by omega)
theorem fl_pc {σ : Nat → Nat} (hw : wf σ) {w : Nat} (hl : w < nW σ) : pcN (flS σ w) = pcN σ := by
  have h41 := hw.w41
  exact pc_up (by omega) (by omega)
theorem nW_fl (σ : Nat → Nat) (w : Nat) : nW (flS σ w) = nW σ := by
  unfold nW flS
  rw [up_ne (by omega), up_ne (by omega)]
theorem fl_fl {σ : Nat → Nat} (hw : wf σ) {w : Nat} (h8 : 8 ≤ w) (hl : w < nW σ) : flS (flS σ w) w = σ := by
  have hc := crN_le hw hl
  have e1 : crN (flS σ w) w = 1 - crN σ w := cr_up h8
  have e2 : crN σ w = σ (67 + (w - 8)) := by unfold crN; rw [if_neg (by omega)]
  funext j
  by_cases e : j = 67 + (w - 8)
  · subst e
    show va_up (flS σ w) (67 + (w - 8)) (1 - crN (flS σ w) w) (67 + (w - 8)) = _
    rw [up_s, e1]
    omega
  · show va_up (flS σ w) (67 + (w - 8)) (1 - crN (flS σ w) w) j = _
    rw [up_ne e]
    exact up_ne e
theorem ec_flip {σ : Nat → Nat} (hw : wf σ) {w : Nat} (h8 : 8 ≤ w) (hl : w < nW (ecS σ)) : csN (ecS σ) w ≤ csN (flS (ecS σ) w) w := by
  have hw2 := wf_ec hw
  have hw3 := fl_wf hw2 h8 hl
  have hl3 : w < nW (flS (ecS σ) w) := by rw [nW_fl]; exact hl
  have hls : w < nW σ := by rw [nW_ec] at hl; exact hl
  have eo : onM (flS (ecS σ) w) w = onM σ w := (on_eq67 hw2 (fun k hk => up_ne (by omega)) w).trans (on_ec hw w)
  have e0 : flS (ecS σ) w 0 = σ 0 := (up_ne (by omega)).trans (ec_0 σ)
  have ec : crN (flS (ecS σ) w) w = 1 - crN (ecS σ) w := cr_up h8
  rw [cs_at hw3 hl3, cs_at hw2 hl, on_ec hw, eo, ec_0, e0, ec, cr_ec h8 hls]
  have hp := pop_on hw w
  rcases bst_or σ w with ⟨hb, c⟩ | ⟨hb, c⟩
  · rw [hb]
    split <;> split <;> omega
  · rw [hb]
    split <;> split <;> omega
/-- one wrong weave made, or mended -/
def spS (σ : Nat → Nat) (w r : Nat) : Nat → Nat := va_up σ (100 + w) (σ (100 + w) ^^^ 1 <<< r)
theorem sp_sp (σ : Nat → Nat) (w r : Nat) : spS (spS σ w r) w r = σ := by
  funext j
  by_cases e : j = 100 + w
  · subst e
    show va_up (spS σ w r) (100 + w) (spS σ w r (100 + w) ^^^ 1 <<< r) (100 + w) = _
    rw [up_s]
    show va_up σ (100 + w) (σ (100 + w) ^^^ 1 <<< r) (100 + w) ^^^ 1 <<< r = _
    rw [up_s, Nat.xor_assoc, Nat.xor_self, Nat.xor_zero]
  · show va_up (spS σ w r) (100 + w) _ j = _
    rw [up_ne e]
    exact up_ne e
theorem sp_at (σ : Nat → Nat) (w r : Nat) : spS σ w r (100 + w) = σ (100 + w) ^^^ 1 <<< r := up_s _ _ _
theorem sp_ne {σ : Nat → Nat} {w r k : Nat} (h : ¬ k = 100 + w) : spS σ w r k = σ k := up_ne h
theorem sp_wf {σ : Nat → Nat} (hw : wf σ) {w r : Nat} (hl : w < nW σ) (hr : r < σ 0) : wf (spS σ w r) := wf_sp hw hl (Nat.xor_lt_two_pow (hw.2.2.2.2.2.2.2.2.2.2.1 _ hl) (by rw [sh1]; exact Nat.pow_lt_pow_right (by decide) hr))
theorem sp_pc {σ : Nat → Nat} (hw : wf σ) {w r : Nat} (hl : w < nW σ) : pcN (spS σ w r) = pcN σ := by
  have h41 := hw.w41
  exact pc_up (by omega) (by omega)
theorem nW_sp (σ : Nat → Nat) (w r : Nat) : nW (spS σ w r) = nW σ := by
  unfold nW
  rw [sp_ne (by omega), sp_ne (by omega)]
theorem nA_sp (σ : Nat → Nat) (w r : Nat) : nA (spS σ w r) = nA σ := by
  unfold nA
  rw [sp_ne (by omega), sp_ne (by omega)]
theorem sp_bit (x r : Nat) : (x ^^^ 1 <<< r).testBit r = !x.testBit r := by
  rw [Nat.testBit_xor, bit_1, decide_eq_true rfl, Bool.xor_true]
theorem sp_oth (x : Nat) {r i : Nat} (h : ¬ i = r) : (x ^^^ 1 <<< r).testBit i = x.testBit i := by
  rw [Nat.testBit_xor, bit_1, decide_eq_false (fun z => h z.symm), Bool.xor_false]
/-- the history, behind a recorded call, gives the state back -/
theorem kp_back {o n : Nat} (ho : o < 5) (hn : n ≤ 5) (τ : Nat → Nat → Nat) (σ : Nat → Nat) : va_up τ (kpS o n) σ ((kpO o n + (kpN n - 1)) % 5) = σ := by
  have e : (kpO o n + (kpN n - 1)) % 5 = kpS o n := by
    unfold kpO kpN kpS
    by_cases h : n = 5
    · rw [if_pos h, if_pos h, if_pos h]; omega
    · rw [if_neg h, if_neg h, if_neg h, Nat.add_sub_cancel]
  rw [e]
  exact up_s _ _ _
theorem kpO_lt {o n : Nat} (ho : o < 5) : kpO o n < 5 := by unfold kpO; split <;> omega
theorem kpN_le {n : Nat} (hn : n ≤ 5) : kpN n ≤ 5 := by unfold kpN; split <;> omega
theorem kpN_pos (n : Nat) : 1 ≤ kpN n := by unfold kpN; split <;> omega
/-! states that agree below 141 read alike -/
theorem wv_low {σ τ : Nat → Nat} (hw : wf σ) (h : ∀ k, k < 141 → τ k = σ k) {w : Nat} (hl : w < nW σ) : wvM τ w = wvM σ w := by
  have h41 := hw.w41
  have e0 := h 0 (by omega)
  have eW : nW τ = nW σ := by unfold nW; rw [h 1 (by omega), h 2 (by omega)]
  have eo := on_eq67 hw (τ := τ) (fun k hk => h k (by omega)) w
  have ec : crN τ w = crN σ w := by
    unfold crN
    by_cases h8 : w < 8
    · rw [if_pos h8, if_pos h8]
    · rw [if_neg h8, if_neg h8, h _ (by omega)]
  unfold wvM
  rw [h _ (show 100 + w < 141 by omega)]
  congr 1
  unfold rtM
  rw [e0]
  refine mk_cong fun r hr => ?_
  unfold rtB
  rw [ec, ← onM_bit (σ := τ) (by rw [eW]; exact hl) (by rw [e0]; exact hr), eo, onM_bit hl hr]
theorem rw_low {σ τ : Nat → Nat} (hw : wf σ) (h : ∀ k, k < 141 → τ k = σ k) {a : Nat} (ha : a < nA σ) : rwM (wvM τ) τ a = rwM (wvM σ) σ a := by
  have h41 := hw.w41
  have hR := hw.2.1
  have h8 := nW8 σ
  obtain ⟨h1, h2, h3⟩ := ad_div hw.2.2.2.2.1 ha
  have e0 := h 0 (by omega)
  have e1 := h 1 (by omega)
  have e2 := h 2 (by omega)
  unfold rwM
  rw [e1]
  refine mk_cong fun b hb => ?_
  have hs := sw_lt (σ := σ) h2 hb
  have ep : ∀ c, pkM (wvM τ) τ c = pkM (wvM σ) σ c := fun c => by
    rw [pkM_cong (σ := τ) (c := c) (wv := wvM τ) (wv' := wvM σ) (fun w hw8 => wv_low hw h (by omega))]
    unfold pkM
    rw [e0]
  have ec : crN τ (8 + a % σ 2 * (σ 1 + 1) + b) = crN σ (8 + a % σ 2 * (σ 1 + 1) + b) := by
    unfold crN
    rw [if_neg (by omega), if_neg (by omega), h _ (by omega)]
  unfold rwB
  rw [e1, e2, h _ (show 3 + a / σ 2 < 141 by omega), ep, wv_low hw h hs, ec]
theorem rr_low {σ τ : Nat → Nat} (hw : wf σ) (h : ∀ k, k < 141 → τ k = σ k) {a : Nat} (ha : a < nA σ) : rrN τ a = rrN σ a := by
  unfold rrN
  rw [rw_low hw h ha, h 1 (by omega)]
theorem ad_pt (τ : Nat → Nat) (a : Nat) : ∀ n, (adP τ n).1 (141 + a) = τ (141 + a) ∨ (adP τ n).1 (141 + a) = τ (19 + a) + 1
  | 0 => Or.inl rfl
  | n + 1 => by
    rw [adP]
    split
    · show va_up (adP τ n).1 (141 + n) (τ (19 + n) + 1) (141 + a) = _ ∨ va_up (adP τ n).1 (141 + n) (τ (19 + n) + 1) (141 + a) = _
      by_cases e : a = n
      · subst e
        rw [up_s]
        exact Or.inr rfl
      · rw [up_ne (by omega)]
        exact ad_pt τ a n
    · exact ad_pt τ a n
theorem pa_lo (σ : Nat → Nat) {k : Nat} (h : k < 141) : paS σ k = σ k := (ad_lo _ h _).trans (md_lo σ _ h)
theorem pa_pt {σ : Nat → Nat} (hw : wf σ) {a : Nat} (ha : a < nA σ) : (paS σ (141 + a) = 0 ∧ σ (141 + a) = 0) ∨ paS σ (141 + a) = σ (19 + a) + 1 := by
  have hm : mdS σ (nA σ) (141 + a) = if σ (141 + a) = 0 then 0 else σ (19 + a) + 1 := by
    unfold mdS
    by_cases e : σ (141 + a) = 0
    · rw [if_neg (fun z => z.2.2 e), if_pos e, e]
    · rw [if_pos ⟨by omega, by omega, e⟩, if_neg e, show 141 + a - 122 = 19 + a by omega]
  rcases ad_pt (mdS σ (nA σ)) a (nA (mdS σ (nA σ))) with h | h
  · rw [hm] at h
    by_cases e : σ (141 + a) = 0
    · rw [if_pos e] at h
      exact Or.inl ⟨h, e⟩
    · rw [if_neg e] at h
      exact Or.inr h
  · rw [md_lo σ _ (show 19 + a < 141 by have := hw.a48; omega)] at h
    exact Or.inr h
theorem nA_pa (σ : Nat → Nat) : nA (paS σ) = nA σ := by unfold nA; rw [pa_lo σ (by omega), pa_lo σ (by omega)]
theorem pa_wrong {σ : Nat → Nat} (hw : wf σ) : ct (iwB (paS σ) 0) (nA (paS σ)) ≤ ct (iwB σ 0) (nA σ) := by
  have h48 := hw.a48
  rw [nA_pa]
  refine ct_imp fun a ha h => ?_
  have h1 : msB (paS σ) a = true := h
  show msB σ a = true
  unfold msB rdN at h1 ⊢
  rcases pa_pt hw ha with ⟨e1, e2⟩ | e1
  · rw [if_pos e1, pa_lo σ (show 19 + a < 141 by omega), rr_low hw (fun k hk => pa_lo σ hk) ha] at h1
    rw [if_pos e2]
    exact h1
  · rw [if_neg (by omega), e1, Nat.add_sub_cancel, pa_lo σ (show 19 + a < 141 by omega)] at h1
    simp at h1
