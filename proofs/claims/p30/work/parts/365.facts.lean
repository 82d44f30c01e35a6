/-! ===== p30: small facts for the walks of the law's own methods ===== -/
theorem rd_pt {σ : Nat → Nat} {a : Nat} (h : σ (141 + a) ≤ 1024) (hn : ¬ ptF σ a = -1) : nI (rdN σ a) = ptF σ a := by
  have h1 : ¬ σ (141 + a) = 0 := mt (ptF_m1 h).mpr hn
  unfold rdN
  rw [if_neg h1]
  exact (ptF_v h1).symm
theorem pa_pat {σ : Nat → Nat} {a : Nat} (h : σ (141 + a) ≤ 1024) (hn : ¬ ptF σ a = -1) : (paB σ a).toNat = 1 := by
  have h1 : ¬ σ (141 + a) = 0 := mt (ptF_m1 h).mpr hn
  unfold paB
  rw [bne_iff_ne.mpr h1]
  rfl
theorem rd_rr {σ : Nat → Nat} {a : Nat} (h : σ (141 + a) ≤ 1024) (hn : ptF σ a = -1) : rdN σ a = rrN σ a := by
  unfold rdN
  rw [if_pos ((ptF_m1 h).mp hn)]
theorem pt_0 {σ : Nat → Nat} {a : Nat} (h : σ (141 + a) ≤ 1024) (hn : ptF σ a = -1) : 0 = (σ (141 + a) != 0).toNat := by
  rw [(ptF_m1 h).mp hn]
  rfl
theorem pt_1 {σ : Nat → Nat} {a : Nat} (h : σ (141 + a) ≤ 1024) (hn : ¬ ptF σ a = -1) : 1 = (σ (141 + a) != 0).toNat := by
  rw [bne_iff_ne.mpr (mt (ptF_m1 h).mpr hn)]
  rfl
theorem ne_0 {x y : Nat} (h : x = y) : 0 = (x != y).toNat := by rw [h, bne_self_eq_false]; rfl
theorem ne_1 {x y : Nat} (h : ¬ x = y) : 1 = (x != y).toNat := by rw [bne_iff_ne.mpr h]; rfl
theorem ms_0 {σ : Nat → Nat} {a : Nat} (h : rdN σ a = σ (19 + a)) : 0 = (msB σ a).toNat := ne_0 h
theorem ms_1 {σ : Nat → Nat} {a : Nat} (h : ¬ rdN σ a = σ (19 + a)) : 1 = (msB σ a).toNat := ne_1 h
theorem tn_1 {b : Bool} (h : ¬ b.toNat = 0) : 1 = b.toNat := by
  cases b
  · exact absurd rfl h
  · rfl
theorem nt_1 {b : Bool} (h : ¬ b.toNat = 1) : 1 = (!b).toNat := by
  cases b
  · rfl
  · exact absurd rfl h
theorem nt_0 {b : Bool} (h : b.toNat = 1) : 0 = (!b).toNat := by
  cases b
  · cases h
  · rfl
theorem an_0 {a b : Bool} (h : a.toNat = 0) : 0 = (a && b).toNat := by
  cases a
  · rfl
  · cases h
theorem an_1 {a b : Bool} (h : ¬ b.toNat = 1) : 0 = (a && b).toNat := by
  cases b
  · cases a <;> rfl
  · exact absurd rfl h
theorem an_2 {a b : Bool} (h : ¬ a.toNat = 0) (h2 : b.toNat = 1) : 1 = (a && b).toNat := by
  cases a
  · exact absurd rfl h
  · cases b
    · cases h2
    · rfl
theorem sm_bd {f : Nat → Nat} {k : Nat} : ∀ {n : Nat}, (∀ i, i < n → f i ≤ k) → sm f n ≤ k * n
  | 0, _ => Nat.zero_le _
  | n + 1, h => by
    have h1 := sm_bd (n := n) (fun i hi => h i (by omega))
    have h2 := h n (by omega)
    rw [sm_s, Nat.mul_succ]
    omega
theorem cw_le {σ : Nat → Nat} (hw : wf σ) : cwN σ ≤ 656 := by
  have h41 := hw.w41
  have h := sm_bd (f := fun w => pop (σ (100 + w))) (k := 16) (n := nW σ) (fun i _ => pop_le _)
  unfold cwN
  omega
theorem cs_le {σ : Nat → Nat} (hw : wf σ) {w : Nat} (hl : w < nW σ) : csN σ w ≤ 17 := by
  have h1 := pop_le (rtM σ w)
  have h2 := crN_le hw hl
  unfold csN
  omega
theorem sc_le {σ : Nat → Nat} (hw : wf σ) {n : Nat} (hn : n ≤ nW σ) : sm (csN σ) n ≤ 697 := by
  have h41 := hw.w41
  have h := sm_bd (f := csN σ) (k := 17) (n := n) (fun i hi => cs_le hw (by omega))
  omega
theorem cr_le {σ : Nat → Nat} (hw : wf σ) : sm (crN σ) (nW σ) ≤ 41 := by
  have h41 := hw.w41
  have h := sm_bd (f := crN σ) (k := 1) (n := nW σ) (fun i hi => crN_le hw hi)
  omega
theorem ct_le48 {σ : Nat → Nat} (hw : wf σ) (f : Nat → Bool) : ct f (nA σ) ≤ 48 := Nat.le_trans (ct_le f _) hw.a48
theorem sh_16 {σ : Nat → Nat} (hw : wf σ) {r : Nat} (hr : r < σ 0) : 1 <<< r < 65536 := by
  have hR := hw.2.1
  rw [sh1]
  exact (show 2 ^ r < 2 ^ 16 from Nat.pow_lt_pow_right (by decide) (by omega))
theorem sm_flip {f g : Nat → Nat} {k : Nat} (h : ∀ j, ¬ j = k → f j = g j) : ∀ {n : Nat}, k < n → sm f n + g k = sm g n + f k
  | 0, hk => absurd hk (Nat.not_lt_zero k)
  | n + 1, hk => by
    rw [sm_s, sm_s]
    by_cases e : k = n
    · subst e
      have h1 : ∀ m, m ≤ k → sm f m = sm g m := by
        intro m
        induction m with
        | zero => intro _; rfl
        | succ m ih => intro hm; rw [sm_s, sm_s, ih (by omega), h m (by omega)]
      rw [h1 k (Nat.le_refl k)]
      omega
    · have ih := sm_flip h (n := n) (by omega)
      rw [h n (fun z => e z.symm)]
      omega
/-- crossed again, there is one fewer, or one more -/
theorem fl_sum {σ : Nat → Nat} {w : Nat} (h8 : 8 ≤ w) (hl : w < nW σ) : sm (crN (flS σ w)) (nW (flS σ w)) + crN σ w = sm (crN σ) (nW σ) + (1 - crN σ w) := by
  rw [nW_fl]
  have h := sm_flip (f := crN (flS σ w)) (g := crN σ) (k := w) (fun j hj => by
    unfold crN
    by_cases e : j < 8
    · rw [if_pos e, if_pos e]
    · rw [if_neg e, if_neg e]
      exact up_ne (by omega)) hl
  have h2 : crN (flS σ w) w = 1 - crN σ w := cr_up h8
  rw [h2] at h
  exact h
theorem ic_1 {σ : Nat → Nat} (hw : wf σ) {w : Nat} (h8 : 8 ≤ w) (hl : w < nW σ) (h : sm (crN (flS σ w)) (nW (flS σ w)) < sm (crN σ) (nW σ)) : nI 1 = zB (crN σ w == 1) := by
  have h1 := fl_sum h8 hl
  have h2 := crN_le hw hl
  exact zB_1 (beq_iff_eq.mpr (by omega))
theorem ic_0 {σ : Nat → Nat} (hw : wf σ) {w : Nat} (h8 : 8 ≤ w) (hl : w < nW σ) (h : sm (crN σ) (nW σ) ≤ sm (crN (flS σ w)) (nW (flS σ w))) : nI 0 = zB (crN σ w == 1) := by
  have h1 := fl_sum h8 hl
  have h2 := crN_le hw hl
  exact zB_0 (beq_eq_false_iff_ne.mpr (by omega))
