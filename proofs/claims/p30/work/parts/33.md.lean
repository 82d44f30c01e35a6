/-! ===== p30: the ranks of the weaves that explain; what a single wrong weave at a sense wire does ===== -/
theorem ct_ix {p : Nat → Bool} {k : Nat} : ∀ {m : Nat}, k < ct p m → ∃ t, t < m ∧ p t = true ∧ ct p t = k
  | 0, h => absurd h (Nat.not_lt_zero k)
  | m + 1, h => by
    by_cases e : k < ct p m
    · obtain ⟨t, h1, h2⟩ := ct_ix e
      exact ⟨t, by omega, h2⟩
    · rw [ct_s] at h
      cases hp : p m
      · rw [hp, Bool.toNat_false] at h
        omega
      · rw [hp, Bool.toNat_true] at h
        exact ⟨m, by omega, hp, by omega⟩
/-- the rank of the wrong weave that is there -/
def exK (σ : Nat → Nat) (w r : Nat) : Nat := ct (exP σ) (w * σ 0 + r)
theorem ex_at {σ : Nat → Nat} (hw : wf σ) {w r k : Nat} (h : oneW σ w r) (hk : k ≤ exK σ w r) : ∃ t, t ≤ w * σ 0 + r ∧ ct (exP σ) t = k ∧ exF σ k = nI (16 * (t / σ 0) + t % σ 0) := by
  have hT : exP σ (w * σ 0 + r) = true := by rw [exP_at h.2.1]; exact ex_one hw h
  have hN : w * σ 0 + r < nW σ * σ 0 := by
    have h3 : (w + 1) * σ 0 ≤ nW σ * σ 0 := Nat.mul_le_mul_right _ h.1
    rw [Nat.succ_mul] at h3
    have := h.2.1
    omega
  by_cases e : k = exK σ w r
  · exact ⟨_, Nat.le_refl _, e.symm, exV_at hT e.symm hN⟩
  · obtain ⟨t, h1, h2, h3⟩ := ct_ix (p := exP σ) (k := k) (m := w * σ 0 + r) (Nat.lt_of_le_of_ne hk e)
    exact ⟨t, by omega, h3, exV_at h2 h3 (by omega)⟩
theorem ex_hit {σ : Nat → Nat} (hw : wf σ) {w r : Nat} (h : oneW σ w r) : exF σ (exK σ w r) = nI (16 * w + r) := (exF_at h.1 h.2.1 (ex_one hw h) (Nat.le_refl _) (Nat.sub_self _)).symm
theorem ex_sml {σ : Nat → Nat} (hw : wf σ) {w r t : Nat} (h : oneW σ w r) (ht : t ≤ w * σ 0 + r) : 16 * (t / σ 0) + t % σ 0 < 2 ^ 31 := by
  have h41 := hw.w41
  have hR := hw.2.1
  have h1 : w * σ 0 ≤ 41 * 16 := Nat.mul_le_mul (by have := h.1; omega) hR
  have h2 := h.2.1
  have h3 := Nat.div_le_self t (σ 0)
  have h4 := Nat.mod_le t (σ 0)
  omega
theorem ex_m1 {σ : Nat → Nat} (hw : wf σ) {w r k : Nat} (h : oneW σ w r) (hk : k ≤ exK σ w r) : ¬ exF σ k = -1 := by
  obtain ⟨t, h1, h2, h3⟩ := ex_at hw h hk
  rw [h3]
  exact nI_m1 (ex_sml hw h h1)
theorem div_up {R t u : Nat} (hR : 0 < R) (hR2 : R ≤ 16) (h : t < u) : 16 * (t / R) + t % R < 16 * (u / R) + u % R := by
  have h1 : t / R ≤ u / R := Nat.div_le_div_right (by omega)
  have h2 := Nat.mod_lt t hR
  have h3 := Nat.mod_lt u hR
  have h4 := Nat.div_add_mod t R
  have h5 := Nat.div_add_mod u R
  by_cases e : t / R = u / R
  · rw [e] at h4 ⊢
    omega
  · omega
theorem ex_up {σ : Nat → Nat} (hw : wf σ) {w r k : Nat} (h : oneW σ w r) (h1 : 1 ≤ k) (hk : k ≤ exK σ w r) : exF σ (k - 1) < exF σ k := by
  obtain ⟨t, t1, t2, t3⟩ := ex_at hw h hk
  obtain ⟨u, u1, u2, u3⟩ := ex_at hw h (k := k - 1) (by omega)
  have hlt : u < t := by
    refine Classical.byContradiction fun q => ?_
    have := ct_le_of (p := exP σ) (Nat.le_of_not_lt q)
    omega
  rw [t3, u3]
  exact (nI_ltI (ex_sml hw h u1) (ex_sml hw h t1)).mpr (div_up (by have := hw.1; omega) hw.2.1 hlt)
theorem ex_nxt {σ : Nat → Nat} (hw : wf σ) {w r k : Nat} (h : oneW σ w r) (hk : k ≤ exK σ w r) (hn : ¬ exF σ k = nI (16 * w + r)) : k + 1 ≤ exK σ w r := by
  have : ¬ k = exK σ w r := fun z => hn (by rw [z]; exact ex_hit hw h)
  omega
theorem exK_lt {σ : Nat → Nat} (hw : wf σ) {w r : Nat} (h : oneW σ w r) : exK σ w r ≤ 2000 := by
  have h41 := hw.w41
  have hR := hw.2.1
  have h1 : w * σ 0 ≤ 41 * 16 := Nat.mul_le_mul (by have := h.1; omega) hR
  have h2 := h.2.1
  have h3 := ct_le (exP σ) (w * σ 0 + r)
  unfold exK
  omega
/-! at a sense wire: its address and its bit -/
def swA (σ : Nat → Nat) (w r : Nat) : Nat := σ 2 * r + (w - 8) / (σ 1 + 1)
def swB (σ : Nat → Nat) (w : Nat) : Nat := (w - 8) % (σ 1 + 1)
theorem swA_lt {σ : Nat → Nat} (hw : wf σ) {w r : Nat} (h : oneW σ w r) (h8 : 8 ≤ w) : swA σ w r < nA σ := (sw_ix hw h8 h.1 h.2.1).2.2.2.1
theorem swB_lt {σ : Nat → Nat} (w : Nat) : swB σ w < σ 1 + 1 := Nat.mod_lt _ (by omega)
theorem sh_full {k n : Nat} : 1 <<< k &&& (1 <<< n - 1) = if k < n then 1 <<< k else 0 := by
  refine mk_ext fun i => ?_
  rw [Nat.testBit_and, bit_1, mk_full]
  by_cases e : k < n
  · rw [if_pos e, bit_1]
    by_cases e2 : k = i
    · subst e2
      rw [decide_eq_true e, Bool.and_true]
    · rw [decide_eq_false e2]
      rfl
  · rw [if_neg e, Nat.zero_testBit]
    by_cases e2 : k = i
    · subst e2
      rw [decide_eq_false e, Bool.and_false]
    · rw [decide_eq_false e2]
      rfl
theorem and_xor_r (x y z : Nat) : (x ^^^ y) &&& z = (x &&& z) ^^^ (y &&& z) := by
  refine mk_ext fun i => ?_
  simp only [Nat.testBit_and, Nat.testBit_xor]
  cases x.testBit i <;> cases y.testBit i <;> cases z.testBit i <;> rfl
theorem rr_one {σ : Nat → Nat} (hw : wf σ) {w r : Nat} (h : oneW σ w r) (h8 : 8 ≤ w) {a : Nat} (ha : a < nA σ) : rrN σ a = σ (19 + a) ^^^ (if a = swA σ w r ∧ swB σ w < σ 1 then 1 <<< swB σ w else 0) := by
  unfold rrN
  rw [rwM_s2 hw h h8 ha, and_xor_r, sbit_word hw ha]
  congr 1
  by_cases e : a = swA σ w r
  · rw [if_pos (show a = σ 2 * r + (w - 8) / (σ 1 + 1) from e)]
    show 1 <<< swB σ w &&& (1 <<< σ 1 - 1) = _
    rw [sh_full]
    by_cases e2 : swB σ w < σ 1
    · rw [if_pos e2, if_pos ⟨e, e2⟩]
    · rw [if_neg e2, if_neg (fun z => e2 z.2)]
  · rw [if_neg (show ¬ a = σ 2 * r + (w - 8) / (σ 1 + 1) from e), if_neg (fun z => e z.1), Nat.zero_and]
theorem rr_due1 {σ : Nat → Nat} (hw : wf σ) {w r : Nat} (h : oneW σ w r) (h8 : 8 ≤ w) (hb : swB σ w < σ 1) : rrN σ (swA σ w r) = σ (19 + swA σ w r) ^^^ 1 <<< swB σ w := by
  rw [rr_one hw h h8 (swA_lt hw h h8), if_pos ⟨rfl, hb⟩]
theorem rr_due0 {σ : Nat → Nat} (hw : wf σ) {w r : Nat} (h : oneW σ w r) (h8 : 8 ≤ w) (hb : ¬ swB σ w < σ 1) : rrN σ (swA σ w r) = σ (19 + swA σ w r) := by
  rw [rr_one hw h h8 (swA_lt hw h h8), if_neg (fun z => hb z.2), Nat.xor_zero]
theorem iw_3 (σ : Nat → Nat) (a : Nat) : iwB σ 3 a = (rrN σ a != σ (19 + a)) := rfl
theorem wr_one1 {σ : Nat → Nat} (hw : wf σ) {w r : Nat} (h : oneW σ w r) (h8 : 8 ≤ w) (hb : swB σ w < σ 1) : ct (iwB σ 3) (nA σ) = 1 := by
  have hA := swA_lt hw h h8
  have e : ct (iwB σ 3) (nA σ) = ct (fun a => decide (a = swA σ w r)) (nA σ) := ct_cong fun a ha => by
    rw [iw_3, rr_one hw h h8 ha]
    by_cases e : a = swA σ w r
    · rw [if_pos ⟨e, hb⟩, decide_eq_true e]
      exact bne_iff_ne.mpr (xor_ne (sh1_ne _))
    · rw [if_neg (fun z => e z.1), decide_eq_false e, Nat.xor_zero, bne_self_eq_false]
  have h1 := ct_flip (f := fun a => decide (a = swA σ w r)) (g := fun _ => false) (k := swA σ w r) (fun j hj => decide_eq_false hj) hA
  have h2 : ct (fun _ => false) (nA σ) = 0 := ct_none fun _ _ => rfl
  have h3 : (decide (swA σ w r = swA σ w r)).toNat = 1 := by rw [decide_eq_true rfl]; rfl
  have h4 : (false).toNat = 0 := rfl
  rw [e]
  omega
theorem wr_one0 {σ : Nat → Nat} (hw : wf σ) {w r : Nat} (h : oneW σ w r) (h8 : 8 ≤ w) (hb : ¬ swB σ w < σ 1) : ct (iwB σ 3) (nA σ) = 0 := ct_none fun a ha => by
  rw [iw_3, rr_one hw h h8 ha, if_neg (fun z => hb z.2), Nat.xor_zero, bne_self_eq_false]
theorem wr_none {σ : Nat → Nat} (hw : wf σ) (hz : ∀ v, v < nW σ → σ (100 + v) = 0) : ct (iwB σ 3) (nA σ) = 0 := ct_none fun a ha => by
  rw [iw_3, rr_word hw hz ha, bne_self_eq_false]
theorem pa_one {σ : Nat → Nat} (hw : wf σ) {w r : Nat} (h : oneW σ w r) (h8 : 8 ≤ w) (hp : σ (141 + swA σ w r) = 0) : paB σ (swA σ w r) = false := by
  have hB := hw.2.2.2.1
  have hA := swA_lt hw h h8
  unfold paB
  rw [hp, rwM_s hw h h8 hA, if_pos (show swA σ w r = σ 2 * r + (w - 8) / (σ 1 + 1) from rfl), pop_mk (by omega)]
  have h1 := ct_flip (f := fun b => sbit σ (swA σ w r) b ^^ decide ((w - 8) % (σ 1 + 1) = b)) (g := sbit σ (swA σ w r)) (k := swB σ w) (fun j hj => by
    show (sbit σ (swA σ w r) j ^^ decide ((w - 8) % (σ 1 + 1) = j)) = _
    rw [decide_eq_false (fun z => hj z.symm), Bool.xor_false]) (swB_lt w)
  have h2 := ct_sbit hw hA
  have h3 : (sbit σ (swA σ w r) (swB σ w) ^^ decide ((w - 8) % (σ 1 + 1) = swB σ w)).toNat + (sbit σ (swA σ w r) (swB σ w)).toNat = 1 := by
    rw [decide_eq_true (show (w - 8) % (σ 1 + 1) = swB σ w from rfl), Bool.xor_true]
    cases sbit σ (swA σ w r) (swB σ w) <;> rfl
  have h4 : ct (fun b => sbit σ (swA σ w r) b ^^ decide ((w - 8) % (σ 1 + 1) = b)) (σ 1 + 1) % 2 = 0 := by
    have h6 := toNat_le (sbit σ (swA σ w r) (swB σ w))
    omega
  rw [h4]
  rfl
