/-! ===== what writing does to the state ===== -/
theorem onM_congr {σ τ : Nat → Nat} (h0 : τ 0 = σ 0) (h1 : τ 1 = σ 1) (h2 : τ 2 = σ 2) (hc : ∀ r, r < σ 0 → τ (3 + r) = σ (3 + r)) (hd : ∀ a, a < nA σ → τ (19 + a) = σ (19 + a)) (w : Nat) : onM τ w = onM σ w := by
  unfold onM
  have e : nW τ = nW σ := by unfold nW; rw [h1, h2]
  rw [e, h0]
  split
  · rename_i hw
    refine mk_cong fun r hr => ?_
    unfold onB
    split
    · unfold ihb
      rw [hc r hr]
    · rename_i h8
      unfold tdB sbit
      have ha : σ 2 * r + (w - 8) / (σ 1 + 1) < nA σ := sr_lt hr (Nat.div_lt_of_lt_mul (by unfold nW at hw; rw [Nat.mul_comm]; omega))
      rw [h1, h2, hd _ ha]
  · rfl
theorem up_ne {g : Nat → Nat} {k x j : Nat} (h : ¬ j = k) : va_up g k x j = g j := up_n g x h
/-- the rope's rows of a state that differs from σ above 141 alone -/
theorem rpS {D : va_G} {h : Nat} {a : Nat → Nat} {cI : ClassId} {σ τ : Nat → Nat} (hw : wf σ) (hl : ∀ k, k < 141 → τ k = σ k) (f3 : Nat → Int32) (h3 : ∀ j, j < 48 → f3 j = ptF τ j) : nTo D (wRp h a cI (σ 0) (σ 1) (σ 2) (onF σ) (wwF σ) (crF σ) f3) (wRp h a cI (τ 0) (τ 1) (τ 2) (onF τ) (wwF τ) (crF τ) (ptF τ)) := by
  have hR := hw.2.1
  have hA := hw.a48
  refine rp_to (hl 0 (by omega)).symm (hl 1 (by omega)).symm (hl 2 (by omega)).symm (fun j hj => ?_) (fun j hj => ?_) (fun j hj => ?_) h3
  · exact congrArg nI (onM_congr (hl 0 (by omega)) (hl 1 (by omega)) (hl 2 (by omega)) (fun r hr => hl _ (by omega)) (fun a ha => hl _ (by omega)) j).symm
  · exact congrArg nI (hl _ (by omega)).symm
  · refine congrArg nI ?_
    unfold crN
    split
    · rfl
    · exact (hl _ (by omega)).symm
theorem ptF_up {σ : Nat → Nat} {a x j : Nat} : upd (ptF σ) a (nI x) j = ptF (va_up σ (141 + a) (x + 1)) j := by
  unfold upd ptF
  by_cases h : j = a
  · subst h
    rw [if_pos rfl, up_s]
    exact (pk_sub (a := x + 1) (b := 1) (by omega)).symm
  · rw [if_neg h, up_n _ _ (by omega)]
theorem ptF_up0 {σ : Nat → Nat} {a j : Nat} : upd (ptF σ) a (-1) j = ptF (va_up σ (141 + a) 0) j := by
  unfold upd ptF
  by_cases h : j = a
  · subst h
    rw [if_pos rfl, up_s]
    rfl
  · rw [if_neg h, up_n _ _ (by omega)]
theorem pc_on {σ : Nat → Nat} (hw : wf σ) {r c : Nat} (hr : r < σ 0) (w : Nat) : pcG (onM σ) r c 8 w = onM (va_up σ (3 + r) c) w := by
  have hR := hw.2.1
  unfold pcG
  split
  · rename_i h8
    refine mk_ext fun i => ?_
    rw [pbN_bit]
    unfold onM
    have e1 : nW (va_up σ (3 + r) c) = nW σ := by unfold nW; rw [up_ne (by omega), up_ne (by omega)]
    have e0 : va_up σ (3 + r) c 0 = σ 0 := up_ne (by omega)
    have e8 : w < nW σ := by unfold nW; omega
    rw [e1, e0, if_pos e8, if_pos e8, mk_bit, mk_bit]
    unfold onB ihb
    rw [if_pos h8, if_pos h8]
    by_cases e : i = r
    · subst e
      rw [if_pos rfl, up_s]
      simp [hr]
    · rw [if_neg e, up_ne (show ¬ 3 + i = 3 + r by omega)]
  · rename_i h8
    unfold onM
    have e1 : nW (va_up σ (3 + r) c) = nW σ := by unfold nW; rw [up_ne (by omega), up_ne (by omega)]
    have e0 : va_up σ (3 + r) c 0 = σ 0 := up_ne (by omega)
    rw [e1, e0]
    split
    · refine mk_cong fun i _ => ?_
      unfold onB tdB sbit
      have hg : ∀ X, ¬ 19 + X = 3 + r := fun X => by omega
      rw [if_neg h8, if_neg h8, show va_up σ (3 + r) c 1 = σ 1 from up_ne (by omega), show va_up σ (3 + r) c 2 = σ 2 from up_ne (by omega), up_ne (hg _)]
    · rfl
theorem wbt_sbit {σ : Nat → Nat} {a wd b : Nat} : wbt (σ 1) wd b = sbit (va_up σ (19 + a) wd) a b := by
  unfold wbt sbit
  rw [up_s, up_ne (by omega)]
theorem pw_on {σ : Nat → Nat} (hw : wf σ) {ad wd : Nat} (ha : ad < nA σ) (w : Nat) : pwG (σ 2) (σ 1) (onM σ) ad wd (σ 1 + 1) w = onM (va_up σ (19 + ad) wd) w := by
  obtain ⟨hd1, hd2, hd3⟩ := ad_div hw.2.2.2.2.1 ha
  have hA := hw.a48
  have hR := hw.2.1
  have e1 : nW (va_up σ (19 + ad) wd) = nW σ := by unfold nW; rw [up_ne (by omega), up_ne (by omega)]
  have e0 : va_up σ (19 + ad) wd 0 = σ 0 := up_ne (by omega)
  have x1 : va_up σ (19 + ad) wd 1 = σ 1 := up_ne (by omega)
  have x2 : va_up σ (19 + ad) wd 2 = σ 2 := up_ne (by omega)
  unfold pwG
  split
  · rename_i hb
    obtain ⟨b, hb1, rfl⟩ : ∃ b, b < σ 1 + 1 ∧ w = 8 + ad % σ 2 * (σ 1 + 1) + b := ⟨w - (8 + ad % σ 2 * (σ 1 + 1)), by omega, by omega⟩
    have hlt := sw_lt hd2 hb1
    have e2 : ¬ 8 + ad % σ 2 * (σ 1 + 1) + b < 8 := by omega
    have e3 : 8 + ad % σ 2 * (σ 1 + 1) + b - 8 = b + ad % σ 2 * (σ 1 + 1) := by omega
    have e4 : (b + ad % σ 2 * (σ 1 + 1)) / (σ 1 + 1) = ad % σ 2 := by rw [Nat.add_mul_div_right _ _ (by omega), Nat.div_eq_of_lt hb1, Nat.zero_add]
    have e5 : (b + ad % σ 2 * (σ 1 + 1)) % (σ 1 + 1) = b := by rw [Nat.add_mul_mod_self_right, Nat.mod_eq_of_lt hb1]
    refine mk_ext fun i => ?_
    rw [pbN_bit]
    unfold onM
    rw [e1, e0, if_pos hlt, if_pos hlt, mk_bit, mk_bit]
    unfold onB tdB
    rw [if_neg e2, if_neg e2, e3, x1, x2, e4, e5, show 8 + ad % σ 2 * (σ 1 + 1) + b - (8 + ad % σ 2 * (σ 1 + 1)) = b by omega]
    by_cases e : i = ad / σ 2
    · subst e
      rw [if_pos rfl, hd3, ← wbt_sbit]
      simp [hd1]
    · rw [if_neg e]
      by_cases hi : i < σ 0
      · congr 1
        have hne : ¬ 19 + (σ 2 * i + ad % σ 2) = 19 + ad := by
          intro z
          have z2 : σ 2 * i = σ 2 * (ad / σ 2) := by omega
          exact e (Nat.eq_of_mul_eq_mul_left hw.2.2.2.2.1 z2)
        unfold sbit
        rw [x1, up_ne hne]
      · simp [hi]
  · rename_i hb
    unfold onM
    rw [e1, e0]
    split
    · rename_i hlt
      refine mk_cong fun i hi => ?_
      unfold onB
      split
      · unfold ihb
        rw [up_ne (show ¬ 3 + i = 19 + ad by omega)]
      · rename_i h8
        unfold tdB sbit
        rw [x1, x2]
        have hne : ¬ 19 + (σ 2 * i + (w - 8) / (σ 1 + 1)) = 19 + ad := by
          intro z
          have ht : (w - 8) / (σ 1 + 1) < σ 2 := Nat.div_lt_of_lt_mul (by unfold nW at hlt; rw [Nat.mul_comm]; omega)
          have z1 : ad % σ 2 = (w - 8) / (σ 1 + 1) := by
            have : ad = (w - 8) / (σ 1 + 1) + σ 2 * i := by omega
            rw [this, Nat.add_mul_mod_self_left, Nat.mod_eq_of_lt ht]
          have z3 := Nat.div_add_mod (w - 8) (σ 1 + 1)
          have z4 := Nat.mod_lt (w - 8) (show 0 < σ 1 + 1 by omega)
          rw [z1, Nat.mul_comm] at hb
          omega
        rw [up_ne hne]
    · rfl
def bst (σ : Nat → Nat) (w : Nat) : Nat := if σ 0 - pop (onM σ w) + 1 < pop (onM σ w) then 1 else 0
theorem bst_le (σ : Nat → Nat) (w : Nat) : bst σ w ≤ 1 := by unfold bst; split <;> omega
def mcG (σ : Nat → Nat) (n : Nat) : Nat → Nat := fun w => if 8 ≤ w ∧ w < n then bst σ w else crN σ w
def mcC (σ : Nat → Nat) (n : Nat) : Nat := ct (fun w => decide (8 ≤ w) && crN σ w != bst σ w) n
theorem mc_8 (σ : Nat → Nat) : crF σ = nF (mcG σ 8) := by
  funext j
  unfold crF nF mcG
  rw [if_neg (by omega)]
theorem mcC_8 (σ : Nat → Nat) : 0 = mcC σ 8 := by
  unfold mcC
  have h : ∀ n, n ≤ 8 → ct (fun w => decide (8 ≤ w) && crN σ w != bst σ w) n = 0 := by
    intro n
    induction n with
    | zero => intro _; rfl
    | succ n ih =>
      intro hn
      rw [ct_s, ih (by omega)]
      simp [show ¬ 8 ≤ n by omega]
  exact (h 8 (Nat.le_refl 8)).symm
theorem mcC_s {σ : Nat → Nat} {n : Nat} (h : 8 ≤ n) : mcC σ (n + 1) = mcC σ n + (crN σ n != bst σ n).toNat := by
  unfold mcC
  rw [ct_s]
  simp [h]
theorem mcG_at (σ : Nat → Nat) (n : Nat) : mcG σ n n = crN σ n := by unfold mcG; rw [if_neg (by omega)]
theorem mcG_eq {σ : Nat → Nat} {n : Nat} (h : crN σ n = bst σ n) : mcG σ n = mcG σ (n + 1) := by
  funext j
  unfold mcG
  by_cases e : j = n
  · subst e
    rw [if_neg (by omega)]
    split
    · exact h
    · rfl
  · by_cases h2 : 8 ≤ j ∧ j < n
    · rw [if_pos h2, if_pos (by omega)]
    · rw [if_neg h2, if_neg (by omega)]
theorem mcG_ne {σ : Nat → Nat} {n : Nat} (h8 : 8 ≤ n) (hc : crN σ n ≤ 1) (h : ¬ crN σ n = bst σ n) : va_up (mcG σ n) n (1 - mcG σ n n) = mcG σ (n + 1) := by
  have hb := bst_le σ n
  funext j
  by_cases e : j = n
  · subst e
    rw [up_s, mcG_at]
    unfold mcG
    rw [if_pos (by omega)]
    omega
  · rw [up_ne e]
    unfold mcG
    by_cases h2 : 8 ≤ j ∧ j < n
    · rw [if_pos h2, if_pos (by omega)]
    · rw [if_neg h2, if_neg (by omega)]
theorem pop_on {σ : Nat → Nat} (hw : wf σ) (w : Nat) : pop (onM σ w) ≤ σ 0 := by
  unfold onM
  split
  · rw [pop_mk hw.2.1]
    exact ct_le _ _
  · show ct (0 : Nat).testBit 16 ≤ σ 0
    rw [show (0 : Nat).testBit = fun _ => false by funext i; exact Nat.zero_testBit i]
    have : ct (fun _ => false) 16 = 0 := rfl
    omega
/-- economized -/
def ecS (σ : Nat → Nat) : Nat → Nat := fun k => if 67 ≤ k ∧ k < 67 + σ 2 * (σ 1 + 1) then bst σ (k - 67 + 8) else σ k
theorem ec_cr {σ : Nat → Nat} (w : Nat) (h : w < 41) : mcG σ (nW σ) w = crN (ecS σ) w := by
  unfold mcG crN ecS nW
  by_cases h8 : w < 8
  · rw [if_neg (by omega), if_pos h8, if_pos h8]
  · rw [if_neg h8]
    by_cases h2 : 8 ≤ w ∧ w < 8 + σ 2 * (σ 1 + 1)
    · rw [if_pos h2, if_neg h8, if_pos (by omega), show 67 + (w - 8) - 67 + 8 = w by omega]
    · rw [if_neg h2, if_neg h8, if_neg (by omega)]
/-- patches set anew by the words that are to be there, below n -/
def mdS (σ : Nat → Nat) (n : Nat) : Nat → Nat := fun k => if 141 ≤ k ∧ k < 141 + n ∧ ¬ σ k = 0 then σ (k - 122) + 1 else σ k
theorem md_lo (σ : Nat → Nat) (n : Nat) {k : Nat} (h : k < 141) : mdS σ n k = σ k := by unfold mdS; rw [if_neg (by omega)]
theorem md_at (σ : Nat → Nat) (n : Nat) : mdS σ n (141 + n) = σ (141 + n) := by unfold mdS; rw [if_neg (by omega)]
theorem md_0 (σ : Nat → Nat) : ptF σ = ptF (mdS σ 0) := by
  funext j
  unfold ptF mdS
  rw [if_neg (by omega)]
theorem md_skip {σ : Nat → Nat} {n : Nat} (h : σ (141 + n) = 0) : ptF (mdS σ n) = ptF (mdS σ (n + 1)) := by
  funext j
  unfold ptF mdS
  by_cases e : j = n
  · subst e
    rw [if_neg (by omega), if_neg (by omega)]
  · by_cases h2 : 141 ≤ 141 + j ∧ 141 + j < 141 + n ∧ ¬ σ (141 + j) = 0
    · rw [if_pos h2, if_pos (by omega)]
    · rw [if_neg h2, if_neg (by omega)]
theorem md_put {σ : Nat → Nat} {n : Nat} (h : ¬ σ (141 + n) = 0) : upd (ptF (mdS σ n)) n (nI (σ (19 + n))) = ptF (mdS σ (n + 1)) := by
  funext j
  unfold upd ptF mdS
  by_cases e : j = n
  · subst e
    rw [if_pos rfl, if_pos (by omega), show 141 + j - 122 = 19 + j by omega]
    exact (pk_sub (a := σ (19 + j) + 1) (b := 1) (by omega)).symm
  · rw [if_neg e]
    by_cases h2 : 141 ≤ 141 + j ∧ 141 + j < 141 + n ∧ ¬ σ (141 + j) = 0
    · rw [if_pos h2, if_pos (by omega)]
    · rw [if_neg h2, if_neg (by omega)]
theorem wf_hi {σ τ : Nat → Nat} (hw : wf σ) (hl : ∀ k, k < 141 → τ k = σ k) (hp : ∀ a, a < nA σ → τ (141 + a) ≤ 2 ^ σ 1) : wf τ := by
  have h41 := hw.w41
  have h33 := hw.a33
  have h48 := hw.a48
  obtain ⟨h1, h2, h3, h4, h5, h6, h7, h8, h9, h10, h11, h12⟩ := hw
  have e0 := hl 0 (by omega)
  have e1 := hl 1 (by omega)
  have e2 := hl 2 (by omega)
  have eA : nA τ = nA σ := by unfold nA; rw [e0, e2]
  have eW : nW τ = nW σ := by unfold nW; rw [e1, e2]
  unfold wf
  rw [eA, eW, e0, e1, e2]
  refine ⟨h1, h2, h3, h4, h5, h6, fun r hr => by rw [hl _ (by omega)]; exact h7 r hr, fun r q hr hq e => h8 r q hr hq (by rw [hl _ (by omega), hl _ (by omega)] at e; exact e), fun a ha => by rw [hl _ (by omega)]; exact h9 a ha, fun k hk => by rw [hl _ (by omega)]; exact h10 k hk, fun w hw => by rw [hl _ (by omega)]; exact h11 w hw, hp⟩
theorem wf_md {σ : Nat → Nat} (hw : wf σ) (n : Nat) : wf (mdS σ n) := by
  refine wf_hi hw (fun k hk => md_lo σ n hk) fun a ha => ?_
  unfold mdS
  split
  · rw [show 141 + a - 122 = 19 + a by omega]
    exact hw.2.2.2.2.2.2.2.2.1 a ha
  · exact hw.2.2.2.2.2.2.2.2.2.2.2 a ha
/-- as patchAll goes on: the state and the number of patches, with n addresses seen -/
def adP (σ : Nat → Nat) : Nat → (Nat → Nat) × Nat
  | 0 => (σ, ct (fun a => σ (141 + a) != 0) (nA σ))
  | n + 1 => if (adP σ n).2 < 4 ∧ msB (adP σ n).1 n = true then (va_up (adP σ n).1 (141 + n) (σ (19 + n) + 1), (adP σ n).2 + 1) else adP σ n
theorem ad_lo (σ : Nat → Nat) {k : Nat} (h : k < 141) : ∀ n, (adP σ n).1 k = σ k
  | 0 => rfl
  | n + 1 => by
    rw [adP]
    split
    · show va_up (adP σ n).1 (141 + n) (σ (19 + n) + 1) k = σ k
      rw [up_ne (by omega)]
      exact ad_lo σ h n
    · exact ad_lo σ h n
theorem wf_ad {σ : Nat → Nat} (hw : wf σ) : ∀ n, wf (adP σ n).1
  | 0 => hw
  | n + 1 => by
    have ih := wf_ad hw n
    rw [adP]
    split
    · refine wf_hi ih (fun k hk => up_ne (by omega)) fun a ha => ?_
      by_cases e : a = n
      · subst e
        show va_up (adP σ a).1 (141 + a) (σ (19 + a) + 1) (141 + a) ≤ _
        rw [up_s, ad_lo σ (by omega)]
        have hA : nA (adP σ a).1 = nA σ := by unfold nA; rw [ad_lo σ (by omega), ad_lo σ (by omega)]
        exact hw.2.2.2.2.2.2.2.2.1 a (by omega)
      · show va_up (adP σ n).1 (141 + n) (σ (19 + n) + 1) (141 + a) ≤ _
        rw [up_ne (by omega)]
        exact ih.2.2.2.2.2.2.2.2.2.2.2 a ha
    · exact ih
theorem ad_le {σ : Nat → Nat} (h : (adP σ 0).2 ≤ 4) : ∀ n, (adP σ n).2 ≤ 4
  | 0 => h
  | n + 1 => by
    have ih := ad_le h n
    rw [adP]
    split
    · rename_i q
      show (adP σ n).2 + 1 ≤ 4
      omega
    · exact ih
theorem ad_stop {σ : Nat → Nat} {i : Nat} (h : 4 ≤ (adP σ i).2) : ∀ k, adP σ (i + k) = adP σ i
  | 0 => rfl
  | k + 1 => by
    have ih := ad_stop h k
    rw [show i + (k + 1) = (i + k) + 1 from rfl, adP, ih, if_neg (by omega)]
theorem ad_skip {σ : Nat → Nat} {n : Nat} (h : msB (adP σ n).1 n = false) : adP σ (n + 1) = adP σ n := by
  rw [adP, if_neg (by rw [h]; simp)]
theorem ad_put {σ : Nat → Nat} {n : Nat} (h4 : (adP σ n).2 < 4) (h : msB (adP σ n).1 n = true) : adP σ (n + 1) = (va_up (adP σ n).1 (141 + n) (σ (19 + n) + 1), (adP σ n).2 + 1) := by
  rw [adP, if_pos ⟨h4, h⟩]
