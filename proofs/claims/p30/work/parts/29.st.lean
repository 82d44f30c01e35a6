/-! ===== what each call leaves, in the words of the state (these rows are those of whole) ===== -/
theorem ct_flip {f g : Nat → Bool} {k : Nat} (h : ∀ j, ¬ j = k → f j = g j) : ∀ {n : Nat}, k < n → ct f n + (g k).toNat = ct g n + (f k).toNat
  | 0, hk => absurd hk (Nat.not_lt_zero k)
  | n + 1, hk => by
    rw [ct_s, ct_s]
    by_cases e : k = n
    · subst e
      rw [ct_cong (f := f) (g := g) (n := k) (fun j hj => h j (by omega))]
      omega
    · have ih := ct_flip h (n := n) (by omega)
      rw [h n (fun z => e z.symm)]
      omega
theorem pc_up {σ : Nat → Nat} {k v : Nat} (h1 : 3 ≤ k) (h2 : k < 141) : pcN (va_up σ k v) = pcN σ := by
  unfold pcN nA
  rw [up_ne (by omega), up_ne (by omega)]
  exact ct_cong fun a _ => by rw [up_ne (by omega)]
theorem pc_pt {σ : Nat → Nat} {a v : Nat} (ha : a < nA σ) : pcN (va_up σ (141 + a) v) + (σ (141 + a) != 0).toNat = pcN σ + (v != 0).toNat := by
  have e : nA (va_up σ (141 + a) v) = nA σ := by unfold nA; rw [up_ne (by omega), up_ne (by omega)]
  unfold pcN
  rw [e]
  have h := ct_flip (f := fun a2 => va_up σ (141 + a) v (141 + a2) != 0) (g := fun a2 => σ (141 + a2) != 0) (k := a) (fun j hj => by show (va_up σ (141 + a) v (141 + j) != 0) = _; rw [up_ne (by omega)]) ha
  have h2 : (va_up σ (141 + a) v (141 + a) != 0) = (v != 0) := by rw [up_s]
  rw [← h2]
  exact h
theorem pc_bg {R B S : Nat} (hR : R ≤ 16) : pcN (bgS R B S) = 0 := by
  unfold pcN
  have h : ∀ n, ct (fun a => bgS R B S (141 + a) != 0) n = 0 := by
    intro n
    induction n with
    | zero => rfl
    | succ n ih =>
      rw [ct_s, ih, bg_hi hR (by omega)]
      rfl
  exact h _
theorem pc_lo {σ τ : Nat → Nat} (h0 : τ 0 = σ 0) (h2 : τ 2 = σ 2) (h : ∀ k, 141 ≤ k → τ k = σ k) : pcN τ = pcN σ := by
  unfold pcN nA
  rw [h0, h2]
  exact ct_cong fun a _ => by rw [h _ (by omega)]
theorem pc_ec {σ : Nat → Nat} (hw : wf σ) : pcN (ecS σ) = pcN σ := by
  have h33 := hw.a33
  have e : ∀ k, k < 67 ∨ 100 ≤ k → ecS σ k = σ k := fun k hk => by unfold ecS; rw [if_neg (by omega)]
  exact pc_lo (e 0 (by omega)) (e 2 (by omega)) (fun k hk => e k (by omega))
theorem pc_patch {σ : Nat → Nat} {x : Int32} {v : Nat} (h : pcN σ ≤ 4) (ha : cl x < nA σ) (hk : okP σ x = true) : pcN (ptS σ x (v + 1)) ≤ 4 := by
  have h1 := pc_pt (σ := σ) (v := v + 1) ha
  unfold ptS
  unfold okP at hk
  rw [Bool.or_eq_true] at hk
  have h2 := toNat_le (v + 1 != 0)
  rcases hk with z | z
  · rw [z] at h1
    have h3 : true.toNat = 1 := rfl
    omega
  · have z2 := of_decide_eq_true z
    omega
theorem pc_unpatch {σ : Nat → Nat} {x : Int32} (h : pcN σ ≤ 4) (ha : cl x < nA σ) : pcN (ptS σ x 0) ≤ 4 := by
  have h1 := pc_pt (σ := σ) (v := 0) ha
  unfold ptS
  have h2 : (0 != 0).toNat = 0 := rfl
  omega
theorem ad_pc {σ : Nat → Nat} (h48 : nA σ ≤ 48) (hm : ∀ a, a < nA σ → ¬ σ (141 + a) = 0 → σ (141 + a) = σ (19 + a) + 1) : ∀ n, n ≤ nA σ → pcN (adP σ n).1 = (adP σ n).2 ∧ ∀ k, 141 + n ≤ k → (adP σ n).1 k = σ k
  | 0, _ => ⟨rfl, fun _ _ => rfl⟩
  | n + 1, h => by
    obtain ⟨h1, h2⟩ := ad_pc h48 hm n (by omega)
    have hA9 : nA (adP σ n).1 = nA σ := by unfold nA; rw [ad_lo σ (by omega), ad_lo σ (by omega)]
    rw [adP]
    split
    · rename_i q
      have hz : (adP σ n).1 (141 + n) = 0 := by
        refine Classical.byContradiction fun z => ?_
        have z1 := q.2
        unfold msB rdN at z1
        rw [if_neg z, h2 _ (Nat.le_refl _), ad_lo σ (show 19 + n < 141 by omega)] at z1
        rw [h2 _ (Nat.le_refl _)] at z
        rw [hm n (by omega) z, Nat.add_sub_cancel] at z1
        simp at z1
      refine ⟨?_, fun k hk => ?_⟩
      · have h3 := pc_pt (σ := (adP σ n).1) (a := n) (v := σ (19 + n) + 1) (by omega)
        rw [hz] at h3
        have h4 : (0 != 0).toNat = 0 := rfl
        have h5 : (σ (19 + n) + 1 != 0).toNat = 1 := by rw [show (σ (19 + n) + 1 != 0) = true by simp]; rfl
        show pcN (va_up (adP σ n).1 (141 + n) (σ (19 + n) + 1)) = (adP σ n).2 + 1
        omega
      · show va_up (adP σ n).1 (141 + n) (σ (19 + n) + 1) k = σ k
        rw [up_ne (by omega)]
        exact h2 k (by omega)
    · exact ⟨h1, fun k hk => h2 k (by omega)⟩
theorem pc_pa {σ : Nat → Nat} (hw : wf σ) (h4 : pcN σ ≤ 4) : pcN (paS σ) ≤ 4 := by
  have hA9 : nA (mdS σ (nA σ)) = nA σ := by unfold nA; rw [md_lo σ _ (by omega), md_lo σ _ (by omega)]
  have h48 := hw.a48
  have hm : ∀ a, a < nA (mdS σ (nA σ)) → ¬ mdS σ (nA σ) (141 + a) = 0 → mdS σ (nA σ) (141 + a) = mdS σ (nA σ) (19 + a) + 1 := by
    intro a ha hz
    rw [hA9] at ha
    rw [md_lo σ _ (show 19 + a < 141 by omega)]
    unfold mdS at hz ⊢
    by_cases q : 141 ≤ 141 + a ∧ 141 + a < 141 + nA σ ∧ ¬ σ (141 + a) = 0
    · rw [if_pos q, show 141 + a - 122 = 19 + a by omega]
    · rw [if_neg q] at hz
      exact absurd ⟨by omega, by omega, hz⟩ q
  unfold paS
  rw [(ad_pc (by omega) hm _ (Nat.le_refl _)).1]
  refine ad_le ?_ _
  show pcN (mdS σ (nA σ)) ≤ 4
  rw [pcN_md]
  exact h4
theorem st_begin {x y z : Int32} (h : ok3 x y z = true) : wf (bgS (cl x) (cl y) (cl z)) ∧ pcN (bgS (cl x) (cl y) (cl z)) ≤ 4 := by
  unfold ok3 at h
  rw [Bool.and_eq_true, Bool.and_eq_true] at h
  obtain ⟨⟨h1, h2⟩, h3⟩ := h
  obtain ⟨a1, a2, -⟩ := btw_cl (by decide) h1
  obtain ⟨b1, b2, -⟩ := btw_cl (by decide) h2
  obtain ⟨c1, c2, -⟩ := btw_cl (by decide) h3
  exact ⟨wf_bg a1 a2 b1 b2 c1 c2, by rw [pc_bg a2]; omega⟩
theorem st_code {σ : Nat → Nat} {x y : Int32} (hw : wf σ) (h4 : pcN σ ≤ 4) (h : (inB x (σ 0) && inB y 16 && okC σ x y) = true) : wf (va_up σ (3 + cl x) (cl y)) ∧ pcN (va_up σ (3 + cl x) (cl y)) ≤ 4 := by
  rw [Bool.and_eq_true, Bool.and_eq_true] at h
  obtain ⟨⟨h1, h2⟩, h3⟩ := h
  have hR := hw.2.1
  obtain ⟨a1, a2⟩ := inB_cl (by omega) h1
  obtain ⟨b1, b2⟩ := inB_cl (by decide) h2
  rw [a2] at h3
  refine ⟨wf_code hw a1 b1 (okC_free hw a1 h3), ?_⟩
  rw [pc_up (by omega) (by omega)]
  exact h4
theorem st_weave {σ : Nat → Nat} {x y : Int32} (hw : wf σ) (h4 : pcN σ ≤ 4) (h : (inB x (nA σ) && inB y (2 ^ σ 1)) = true) : wf (va_up σ (19 + cl x) (cl y)) ∧ pcN (va_up σ (19 + cl x) (cl y)) ≤ 4 := by
  rw [Bool.and_eq_true] at h
  obtain ⟨h1, h2⟩ := h
  have h48 := hw.a48
  have hB := p2_10 hw.2.2.2.1
  obtain ⟨a1, a2⟩ := inB_cl (by omega) h1
  obtain ⟨b1, b2⟩ := inB_cl (by omega) h2
  refine ⟨wf_word hw a1 b1, ?_⟩
  rw [pc_up (by omega) (by omega)]
  exact h4
theorem st_cross {σ : Nat → Nat} {x : Int32} (hw : wf σ) (h4 : pcN σ ≤ 4) (h : (inB x (nW σ) && !inB x 8) = true) : wf (va_up σ (67 + (cl x - 8)) (1 - crN σ (cl x))) ∧ pcN (va_up σ (67 + (cl x - 8)) (1 - crN σ (cl x))) ≤ 4 := by
  rw [Bool.and_eq_true] at h
  obtain ⟨h1, h2⟩ := h
  have h41 := hw.w41
  have h33 := hw.a33
  obtain ⟨a1, a2⟩ := inB_cl (by omega) h1
  have h8 : 8 ≤ cl x := by
    refine Classical.byContradiction fun q => ?_
    rw [inB_clt a2 (by decide) (by omega)] at h2
    cases h2
  have hk : cl x - 8 < σ 2 * (σ 1 + 1) := by
    unfold nW at a1
    omega
  refine ⟨wf_cr hw hk (by omega), ?_⟩
  rw [pc_up (by omega) (by omega)]
  exact h4
theorem st_ec {σ : Nat → Nat} (hw : wf σ) (h4 : pcN σ ≤ 4) : wf (ecS σ) ∧ pcN (ecS σ) ≤ 4 := ⟨wf_ec hw, by rw [pc_ec hw]; exact h4⟩
theorem st_spoil {σ : Nat → Nat} {x y : Int32} (hw : wf σ) (h4 : pcN σ ≤ 4) (h : (inB x (nW σ) && inB y (σ 0)) = true) : wf (va_up σ (100 + cl x) (σ (100 + cl x) ^^^ 1 <<< cl y)) ∧ pcN (va_up σ (100 + cl x) (σ (100 + cl x) ^^^ 1 <<< cl y)) ≤ 4 := by
  rw [Bool.and_eq_true] at h
  obtain ⟨h1, h2⟩ := h
  have h41 := hw.w41
  have hR := hw.2.1
  obtain ⟨a1, a2⟩ := inB_cl (by omega) h1
  obtain ⟨b1, b2⟩ := inB_cl (by omega) h2
  have hx : σ (100 + cl x) ^^^ 1 <<< cl y < 2 ^ σ 0 := Nat.xor_lt_two_pow (hw.2.2.2.2.2.2.2.2.2.2.1 _ a1) (by rw [Nat.shiftLeft_eq, Nat.one_mul]; exact Nat.pow_lt_pow_right (by decide) b1)
  refine ⟨wf_sp hw a1 hx, ?_⟩
  rw [pc_up (by omega) (by omega)]
  exact h4
theorem st_patch {σ : Nat → Nat} {x y : Int32} (hw : wf σ) (h4 : pcN σ ≤ 4) (h : (inB x (nA σ) && inB y (2 ^ σ 1) && okP σ x) = true) : wf (ptS σ x (cl y + 1)) ∧ pcN (ptS σ x (cl y + 1)) ≤ 4 := by
  rw [Bool.and_eq_true, Bool.and_eq_true] at h
  obtain ⟨⟨h1, h2⟩, h3⟩ := h
  have h48 := hw.a48
  have hB := p2_10 hw.2.2.2.1
  obtain ⟨a1, a2⟩ := inB_cl (by omega) h1
  obtain ⟨b1, b2⟩ := inB_cl (by omega) h2
  exact ⟨wf_pt hw (by omega), pc_patch h4 a1 h3⟩
theorem st_unpatch {σ : Nat → Nat} {x : Int32} (hw : wf σ) (h4 : pcN σ ≤ 4) (h : (inB x (nA σ) && σ (141 + cl x) != 0) = true) : wf (ptS σ x 0) ∧ pcN (ptS σ x 0) ≤ 4 := by
  rw [Bool.and_eq_true] at h
  obtain ⟨h1, h2⟩ := h
  have h48 := hw.a48
  obtain ⟨a1, a2⟩ := inB_cl (by omega) h1
  exact ⟨wf_pt hw (Nat.zero_le _), pc_unpatch h4 a1⟩
theorem st_pa {σ : Nat → Nat} (hw : wf σ) (h4 : pcN σ ≤ 4) : wf (paS σ) ∧ pcN (paS σ) ≤ 4 := ⟨wf_ad (wf_md hw _) _, pc_pa hw h4⟩
