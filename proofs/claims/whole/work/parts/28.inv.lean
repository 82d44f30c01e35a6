/-! ===== what the law's loop keeps ===== -/
theorem ct_flip {f g : Nat → Bool} {k : Nat} (h : ∀ j, ¬ j = k → f j = g j) : ∀ {n : Nat}, k < n → ct f n + (g k).toNat = ct g n + (f k).toNat
  | 0, hk => absurd hk (Nat.not_lt_zero k)
  | n + 1, hk => by
    rw [ct_s, ct_s]
    by_cases e : k = n
    · subst e
      rw [ct_cong (f := f) (g := g) (n := k) (fun j hj => h j (by omega))]
      omega
    · have ih := ct_flip h (n := n) (by omega)
      rw [h n (fun z => e z.symm)]
      omega
theorem pc_up {σ : Nat → Nat} {k v : Nat} (h1 : 3 ≤ k) (h2 : k < 141) : pcN (va_up σ k v) = pcN σ := by
  unfold pcN nA
  rw [up_ne (by omega), up_ne (by omega)]
  exact ct_cong fun a _ => by rw [up_ne (by omega)]
theorem pc_pt {σ : Nat → Nat} {a v : Nat} (ha : a < nA σ) : pcN (va_up σ (141 + a) v) + (σ (141 + a) != 0).toNat = pcN σ + (v != 0).toNat := by
  have e : nA (va_up σ (141 + a) v) = nA σ := by unfold nA; rw [up_ne (by omega), up_ne (by omega)]
  unfold pcN
  rw [e]
  have h := ct_flip (f := fun a2 => va_up σ (141 + a) v (141 + a2) != 0) (g := fun a2 => σ (141 + a2) != 0) (k := a) (fun j hj => by show (va_up σ (141 + a) v (141 + j) != 0) = _; rw [up_ne (by omega)]) ha
  have h2 : (va_up σ (141 + a) v (141 + a) != 0) = (v != 0) := by rw [up_s]
  rw [← h2]
  exact h
theorem pc_bg {R B S : Nat} (hR : R ≤ 16) : pcN (bgS R B S) = 0 := by
  unfold pcN
  have h : ∀ n, ct (fun a => bgS R B S (141 + a) != 0) n = 0 := by
    intro n
    induction n with
    | zero => rfl
    | succ n ih =>
      rw [ct_s, ih, bg_hi hR (by omega)]
      rfl
  exact h _
theorem pc_lo {σ τ : Nat → Nat} (h0 : τ 0 = σ 0) (h2 : τ 2 = σ 2) (h : ∀ k, 141 ≤ k → τ k = σ k) : pcN τ = pcN σ := by
  unfold pcN nA
  rw [h0, h2]
  exact ct_cong fun a _ => by rw [h _ (by omega)]
theorem pc_ec {σ : Nat → Nat} (hw : wf σ) : pcN (ecS σ) = pcN σ := by
  have h33 := hw.a33
  have e : ∀ k, k < 67 ∨ 100 ≤ k → ecS σ k = σ k := fun k hk => by unfold ecS; rw [if_neg (by omega)]
  exact pc_lo (e 0 (by omega)) (e 2 (by omega)) (fun k hk => e k (by omega))
theorem pc_ld {σ g : Nat → Nat} : ∀ {n : Nat}, n ≤ 48 → pcN (ldS σ g n) = pcN σ
  | 0, _ => rfl
  | n + 1, h => by
    rw [ldS, pc_up (by omega) (by omega)]
    exact pc_ld (by omega)
theorem pc_patch {σ : Nat → Nat} {x : Int32} {v : Nat} (h : pcN σ ≤ 4) (ha : cl x < nA σ) (hk : okP σ x = true) : pcN (ptS σ x (v + 1)) ≤ 4 := by
  have h1 := pc_pt (σ := σ) (v := v + 1) ha
  unfold ptS
  unfold okP at hk
  rw [Bool.or_eq_true] at hk
  have h2 := toNat_le (v + 1 != 0)
  rcases hk with z | z
  · rw [z] at h1
    have h3 : true.toNat = 1 := rfl
    omega
  · have z2 := of_decide_eq_true z
    omega
theorem pc_unpatch {σ : Nat → Nat} {x : Int32} (h : pcN σ ≤ 4) (ha : cl x < nA σ) : pcN (ptS σ x 0) ≤ 4 := by
  have h1 := pc_pt (σ := σ) (v := 0) ha
  unfold ptS
  have h2 : (0 != 0).toNat = 0 := rfl
  omega
theorem sh_at (ρ : Nat → Nat → Nat) : ∀ n s, 1 ≤ s → shR ρ n s = if s ≤ n then ρ (s + 1) else ρ s
  | 0, s, h => by
    rw [if_neg (by omega)]
    rfl
  | n + 1, s, h => by
    rw [shR]
    by_cases e : s = n + 1
    · subst e
      rw [up_s, sh_at ρ n (n + 1 + 1) (by omega), if_neg (by omega), if_pos (Nat.le_refl _)]
    · rw [up_n _ _ e, sh_at ρ n s h]
      by_cases h2 : s ≤ n
      · rw [if_pos h2, if_pos (by omega)]
      · rw [if_neg h2, if_neg (by omega)]
theorem sv_at (ρ : Nat → Nat → Nat) {n i : Nat} (hn : n ≤ 5) (hi : i < kpN n) : svR ρ n (i + 1) = if n = 5 then (if i = 4 then ρ 0 else ρ (i + 2)) else (if i = n then ρ 0 else ρ (i + 1)) := by
  unfold svR
  unfold kpN at hi
  by_cases h : n = 5
  · rw [if_pos h, if_pos h]
    rw [if_pos h] at hi
    by_cases e : i = 4
    · subst e
      rw [if_pos rfl, up_s, sh_0]
    · rw [if_neg e, up_n _ _ (by omega), sh_at ρ 4 (i + 1) (by omega), if_pos (by omega)]
  · rw [if_neg h, if_neg h]
    rw [if_neg h] at hi
    by_cases e : i = n
    · subst e
      rw [if_pos rfl, up_s]
    · rw [if_neg e, up_n _ _ (by omega)]
def LI (o n : Nat) (τ ρ : Nat → Nat → Nat) (b : Nat → Nat) (ln : Nat) : Prop := wf (ρ 0) ∧ pcN (ρ 0) ≤ 4 ∧ o < 5 ∧ n ≤ 5 ∧ (∀ i, i < n → τ ((o + i) % 5) = ρ (i + 1) ∧ wf (ρ (i + 1)) ∧ pcN (ρ (i + 1)) ≤ 4) ∧ ln ≤ 100 ∧ ∀ i, i < ln → b i < 256
theorem LI.recd {o n : Nat} {τ ρ : Nat → Nat → Nat} {b : Nat → Nat} {ln : Nat} (h : LI o n τ ρ b ln) {σ' : Nat → Nat} (hw : wf σ') (hp : pcN σ' ≤ 4) : LI (kpO o n) (kpN n) (va_up τ (kpS o n) (ρ 0)) (recR ρ n σ') b ln := by
  obtain ⟨h1, h2, h3, h4, h5, h6, h7⟩ := h
  refine ⟨by rw [rec_0]; exact hw, by rw [rec_0]; exact hp, ?_, ?_, fun i hi => ?_, h6, h7⟩
  · unfold kpO; split <;> omega
  · unfold kpN; split <;> omega
  · have e0 : recR ρ n σ' (i + 1) = svR ρ n (i + 1) := up_n _ _ (by omega)
    rw [e0, sv_at ρ h4 hi]
    unfold kpN at hi
    unfold kpO kpS
    by_cases h : n = 5
    · subst h
      rw [if_pos rfl] at hi
      rw [if_pos rfl, if_pos rfl, if_pos rfl]
      by_cases e : i = 4
      · subst e
        rw [if_pos rfl, show ((o + 1) % 5 + 4) % 5 = o by omega, up_s]
        exact ⟨rfl, h1, h2⟩
      · rw [if_neg e, up_n _ _ (by omega), show ((o + 1) % 5 + i) % 5 = (o + (i + 1)) % 5 by omega]
        exact h5 (i + 1) (by omega)
    · rw [if_neg h] at hi
      rw [if_neg h, if_neg h, if_neg h]
      by_cases e : i = n
      · subst e
        rw [if_pos rfl, up_s]
        exact ⟨rfl, h1, h2⟩
      · rw [if_neg e, up_n _ _ (by omega)]
        exact h5 i (by omega)
theorem LI.undo {o n : Nat} {τ ρ : Nat → Nat → Nat} {b : Nat → Nat} {ln : Nat} (h : LI o n τ ρ b ln) (hn : 1 ≤ n) : τ ((o + (n - 1)) % 5) = ρ n ∧ LI o (n - 1) τ (va_up ρ 0 (ρ n)) b ln := by
  obtain ⟨h1, h2, h3, h4, h5, h6, h7⟩ := h
  have h8 := h5 (n - 1) (by omega)
  rw [show n - 1 + 1 = n by omega] at h8
  refine ⟨h8.1, by rw [up_s]; exact h8.2.1, by rw [up_s]; exact h8.2.2, h3, by omega, fun i hi => ?_, h6, h7⟩
  rw [up_n _ _ (show ¬ i + 1 = 0 by omega)]
  exact h5 i (by omega)
theorem LI.typed {o n : Nat} {τ ρ : Nat → Nat → Nat} {b : Nat → Nat} {ln v : Nat} (h : LI o n τ ρ b ln) (hv : v < 256) (hl9 : ln < 100) : LI o n τ ρ (va_up b ln v) (ln + 1) := by
  obtain ⟨h1, h2, h3, h4, h5, h6, h7⟩ := h
  refine ⟨h1, h2, h3, h4, h5, by omega, fun i hi => ?_⟩
  by_cases e : i = ln
  · subst e
    rw [up_s]
    exact hv
  · rw [up_ne e]
    exact h7 i (by omega)
theorem LI.clear {o n : Nat} {τ ρ : Nat → Nat → Nat} {b : Nat → Nat} {ln : Nat} (h : LI o n τ ρ b ln) : LI o n τ ρ b 0 := by
  obtain ⟨h1, h2, h3, h4, h5, h6, h7⟩ := h
  exact ⟨h1, h2, h3, h4, h5, by omega, fun i hi => absurd hi (Nat.not_lt_zero i)⟩
theorem ad_pc {σ : Nat → Nat} (h48 : nA σ ≤ 48) (hm : ∀ a, a < nA σ → ¬ σ (141 + a) = 0 → σ (141 + a) = σ (19 + a) + 1) : ∀ n, n ≤ nA σ → pcN (adP σ n).1 = (adP σ n).2 ∧ ∀ k, 141 + n ≤ k → (adP σ n).1 k = σ k
  | 0, _ => ⟨rfl, fun _ _ => rfl⟩
  | n + 1, h => by
    obtain ⟨h1, h2⟩ := ad_pc h48 hm n (by omega)
    have hA9 : nA (adP σ n).1 = nA σ := by unfold nA; rw [ad_lo σ (by omega), ad_lo σ (by omega)]
    rw [adP]
    split
    · rename_i q
      have hz : (adP σ n).1 (141 + n) = 0 := by
        refine Classical.byContradiction fun z => ?_
        have z1 := q.2
        unfold msB rdN at z1
        rw [if_neg z, h2 _ (Nat.le_refl _), ad_lo σ (show 19 + n < 141 by omega)] at z1
        rw [h2 _ (Nat.le_refl _)] at z
        rw [hm n (by omega) z, Nat.add_sub_cancel] at z1
        simp at z1
      refine ⟨?_, fun k hk => ?_⟩
      · have h3 := pc_pt (σ := (adP σ n).1) (a := n) (v := σ (19 + n) + 1) (by omega)
        rw [hz] at h3
        have h4 : (0 != 0).toNat = 0 := rfl
        have h5 : (σ (19 + n) + 1 != 0).toNat = 1 := by rw [show (σ (19 + n) + 1 != 0) = true by simp]; rfl
        show pcN (va_up (adP σ n).1 (141 + n) (σ (19 + n) + 1)) = (adP σ n).2 + 1
        omega
      · show va_up (adP σ n).1 (141 + n) (σ (19 + n) + 1) k = σ k
        rw [up_ne (by omega)]
        exact h2 k (by omega)
    · exact ⟨h1, fun k hk => h2 k (by omega)⟩
theorem pc_pa {σ : Nat → Nat} (hw : wf σ) (h4 : pcN σ ≤ 4) : pcN (paS σ) ≤ 4 := by
  have hA9 : nA (mdS σ (nA σ)) = nA σ := by unfold nA; rw [md_lo σ _ (by omega), md_lo σ _ (by omega)]
  have h48 := hw.a48
  have hm : ∀ a, a < nA (mdS σ (nA σ)) → ¬ mdS σ (nA σ) (141 + a) = 0 → mdS σ (nA σ) (141 + a) = mdS σ (nA σ) (19 + a) + 1 := by
    intro a ha hz
    rw [hA9] at ha
    rw [md_lo σ _ (show 19 + a < 141 by omega)]
    unfold mdS at hz ⊢
    by_cases q : 141 ≤ 141 + a ∧ 141 + a < 141 + nA σ ∧ ¬ σ (141 + a) = 0
    · rw [if_pos q, show 141 + a - 122 = 19 + a by omega]
    · rw [if_neg q] at hz
      exact absurd ⟨by omega, by omega, hz⟩ q
  unfold paS
  rw [(ad_pc (by omega) hm _ (Nat.le_refl _)).1]
  refine ad_le ?_ _
  show pcN (mdS σ (nA σ)) ≤ 4
  rw [pcN_md]
  exact h4
