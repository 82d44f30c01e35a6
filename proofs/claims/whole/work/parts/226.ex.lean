/-! ===== the model's search and the class' own test ===== -/
theorem one_bit (n i : Nat) : (1 <<< n).testBit i = decide (i = n) := by
  have h := b1_bit true n i
  rw [Bool.and_true] at h
  exact h
theorem and_1 (x q : Nat) : (x &&& 1 <<< q != 0) = x.testBit q := by
  cases h : x.testBit q
  · have e : x &&& 1 <<< q = 0 := by
      refine mk_ext fun i => ?_
      rw [Nat.testBit_and, one_bit, Nat.zero_testBit]
      by_cases z : i = q
      · subst z; rw [h]; rfl
      · rw [decide_eq_false z, Bool.and_false]
    rw [e]
    rfl
  · refine bne_iff_ne.mpr fun e => ?_
    have e2 : (x &&& 1 <<< q).testBit q = true := by
      rw [Nat.testBit_and, one_bit, h, decide_eq_true rfl]
      rfl
    rw [e, Nat.zero_testBit] at e2
    cases e2
theorem ih_on {σ : Nat → Nat} {c b i : Nat} : ihb σ (wOn c b) i = !((σ (3 + i)).testBit b == c.testBit b) := by
  unfold ihb wOn
  rw [nw_tb]
  cases c.testBit b
  · rw [show (2 * b + 1 - false.toNat) / 2 = b by show (2 * b + 1 - 0) / 2 = b; omega, show (2 * b + 1 - false.toNat) % 2 = 1 by show (2 * b + 1 - 0) % 2 = 1; omega]
    cases (σ (3 + i)).testBit b <;> rfl
  · rw [show (2 * b + 1 - true.toNat) / 2 = b by show (2 * b + 1 - 1) / 2 = b; omega, show (2 * b + 1 - true.toNat) % 2 = 0 by show (2 * b + 1 - 1) % 2 = 0; omega]
    cases (σ (3 + i)).testBit b <;> rfl
theorem on_w {c b w : Nat} : wOn c b = w ↔ b = w / 2 ∧ c.testBit b = !(w % 2 == 1) := by
  unfold wOn
  rw [nw_tb]
  cases c.testBit b
  · show 2 * b + 1 - 0 = w ↔ _
    constructor
    · intro h
      refine ⟨by omega, ?_⟩
      rw [show w % 2 = 1 by omega]
      rfl
    · rintro ⟨h1, h2⟩
      have h3 : w % 2 = 1 := by simpa using h2.symm
      omega
  · show 2 * b + 1 - 1 = w ↔ _
    constructor
    · intro h
      refine ⟨by omega, ?_⟩
      rw [show w % 2 = 0 by omega]
      rfl
    · rintro ⟨h1, h2⟩
      have h3 : ¬ w % 2 = 1 := by simpa using h2.symm
      omega
theorem rt_lo8 {σ : Nat → Nat} {w i : Nat} (h : w < 8) (hi : i < σ 0) : (rtM σ w).testBit i = ihb σ w i := by
  unfold rtM rtB onB crN
  rw [mk_bit, if_pos h, if_pos h, decide_eq_true hi]
  simp
/-- the wires' weaves with one flipped -/
def flN (σ : Nat → Nat) (w r w' : Nat) : Nat := if w' = w then rtM σ w ^^^ 1 <<< r else rtM σ w'
theorem fl_bit {σ : Nat → Nat} {w r w' i : Nat} : (flN σ w r w').testBit i = ((rtM σ w').testBit i ^^ (decide (w' = w) && decide (i = r))) := by
  unfold flN
  by_cases h : w' = w
  · subst h
    rw [if_pos rfl, Nat.testBit_xor, one_bit]
    simp
  · rw [if_neg h, decide_eq_false h]
    simp
theorem pf_bit {σ : Nat → Nat} {w r c i : Nat} : (pkM (flN σ w r) σ c).testBit i = true ↔ i < σ 0 ∧ ∀ b, b < 4 → (((σ (3 + i)).testBit b == c.testBit b) ^^ (decide (wOn c b = w) && decide (i = r))) = true := by
  unfold pkM
  rw [pkA_bit, Bool.and_eq_true, List.all_eq_true, decide_eq_true_iff]
  refine and_congr_right fun hi => ?_
  constructor
  · intro h b hb4
    have h1 := h b (List.mem_range.mpr hb4)
    rw [fl_bit, rt_lo8 (wOn_lt hb4) hi, ih_on] at h1
    revert h1
    cases ((σ (3 + i)).testBit b == c.testBit b) <;> cases (decide (wOn c b = w) && decide (i = r)) <;> decide
  · intro h b hb4
    have hb5 := List.mem_range.mp hb4
    have h1 := h b hb5
    rw [fl_bit, rt_lo8 (wOn_lt hb5) hi, ih_on]
    revert h1
    cases ((σ (3 + i)).testBit b == c.testBit b) <;> cases (decide (wOn c b = w) && decide (i = r)) <;> decide
theorem cd_ext {x y : Nat} (hx4 : x < 16) (hy4 : y < 16) (h : ∀ b, b < 4 → x.testBit b = y.testBit b) : x = y := by
  refine mk_ext fun i => ?_
  by_cases hi : i < 4
  · exact h i hi
  · rw [tb_lt (n := 4) hx4 (by omega), tb_lt (n := 4) hy4 (by omega)]
theorem cd_eq {σ : Nat → Nat} (hw : wf σ) {i q : Nat} (hi : i < σ 0) (hq : q < σ 0) (h : ∀ b, b < 4 → (σ (3 + i)).testBit b = (σ (3 + q)).testBit b) : i = q :=
  hw.2.2.2.2.2.2.2.1 i q hi hq (cd_ext (hw.cd hi) (hw.cd hq) h)
/-- another ring than the flipped one's -/
theorem pf_other {σ : Nat → Nat} (hw : wf σ) {w r q i : Nat} (hq : q < σ 0) (hne : ¬ i = r) : (pkM (flN σ w r) σ (σ (3 + q))).testBit i = true ↔ i = q := by
  rw [pf_bit]
  constructor
  · rintro ⟨h1, h2⟩
    refine cd_eq hw h1 hq fun b hb4 => ?_
    have h3 := h2 b hb4
    rw [decide_eq_false hne, Bool.and_false, Bool.xor_false] at h3
    exact eq_of_beq h3
  · intro e
    subst e
    refine ⟨hq, fun b _ => ?_⟩
    rw [decide_eq_false hne]
    simp
theorem pf_far {σ : Nat → Nat} (hw : wf σ) {w r q : Nat} (hq : q < σ 0) (hr : r < σ 0) (h8 : ∀ b, b < 4 → ¬ wOn (σ (3 + q)) b = w) : pkM (flN σ w r) σ (σ (3 + q)) = 1 <<< q := by
  refine mk_ext fun i => ?_
  rw [one_bit, Bool.eq_iff_iff, decide_eq_true_iff]
  by_cases hne : i = r
  · subst hne
    rw [pf_bit]
    constructor
    · rintro ⟨h1, h2⟩
      refine cd_eq hw h1 hq fun b hb4 => ?_
      have h3 := h2 b hb4
      rw [decide_eq_false (h8 b hb4), Bool.false_and, Bool.xor_false] at h3
      exact eq_of_beq h3
    · intro e
      subst e
      refine ⟨hq, fun b hb4 => ?_⟩
      rw [decide_eq_false (h8 b hb4)]
      simp
  · exact pf_other hw hq hne
theorem ih_eq {σ : Nat → Nat} {w r : Nat} {v : Bool} (h : ihb σ w r = v) : (σ (3 + r)).testBit (w / 2) = ((w % 2 == 1) == v) := by
  subst h
  unfold ihb
  cases (σ (3 + r)).testBit (w / 2) <;> cases (w % 2 == 1) <;> rfl
/-- the flipped ring is not picked any more -/
theorem pf_off {σ : Nat → Nat} (hw : wf σ) {w r : Nat} (h8 : w < 8) (hr : r < σ 0) (h : ihb σ w r = false) : pkM (flN σ w r) σ (σ (3 + r)) = 0 := by
  refine mk_ext fun i => ?_
  rw [Nat.zero_testBit]
  refine Bool.eq_false_iff.mpr fun z => ?_
  have z1 := ih_eq h
  by_cases hne : i = r
  · subst hne
    have h3 := (pf_bit.mp z).2 (w / 2) (by omega)
    have h4 : wOn (σ (3 + i)) (w / 2) = w := on_w.mpr ⟨rfl, by rw [z1]; cases (w % 2 == 1) <;> rfl⟩
    rw [decide_eq_true h4] at h3
    simp at h3
  · exact hne ((pf_other hw hr hne).mp z)
theorem pf_off2 {σ : Nat → Nat} (hw : wf σ) {w r q : Nat} (h8 : w < 8) (hr : r < σ 0) (hq : q < σ 0) (h : ihb σ w r = false) (hqr : ¬ q = r) : pkM (flN σ w r) σ (σ (3 + q)) = 1 <<< q := by
  refine mk_ext fun i => ?_
  rw [one_bit, Bool.eq_iff_iff, decide_eq_true_iff]
  by_cases hne : i = r
  · subst hne
    refine ⟨fun z => ?_, fun e => absurd e.symm hqr⟩
    have h2 := (pf_bit.mp z).2
    refine cd_eq hw hr hq fun b hb4 => ?_
    have h3 := h2 b hb4
    by_cases h4 : wOn (σ (3 + q)) b = w
    · have h5 := on_w.mp h4
      have z1 := ih_eq h
      rw [← h5.1] at z1
      have h6 : (σ (3 + i)).testBit b = (σ (3 + q)).testBit b := by rw [z1, h5.2]; cases (w % 2 == 1) <;> rfl
      exact h6
    · rw [decide_eq_false h4, Bool.false_and, Bool.xor_false] at h3
      exact eq_of_beq h3
  · exact pf_other hw hq hne
/-- the flipped ring is picked by one code more -/
theorem pf_on {σ : Nat → Nat} (hw : wf σ) {w r q : Nat} (h8 : w < 8) (hr : r < σ 0) (hq : q < σ 0) (h : ihb σ w r = true) (e : σ (3 + q) = σ (3 + r) ^^^ 1 <<< (w / 2)) : pkM (flN σ w r) σ (σ (3 + q)) = 1 <<< r ||| 1 <<< q := by
  have z1 := ih_eq h
  have hqb : ∀ b, (σ (3 + q)).testBit b = ((σ (3 + r)).testBit b ^^ decide (b = w / 2)) := fun b => by rw [e, Nat.testBit_xor, one_bit]
  have hon : wOn (σ (3 + q)) (w / 2) = w := on_w.mpr ⟨rfl, by rw [hqb, z1, decide_eq_true rfl]; cases (w % 2 == 1) <;> rfl⟩
  refine mk_ext fun i => ?_
  rw [Nat.testBit_or, one_bit, one_bit, Bool.eq_iff_iff, Bool.or_eq_true, decide_eq_true_iff, decide_eq_true_iff]
  by_cases hne : i = r
  · subst hne
    refine ⟨fun _ => Or.inl rfl, fun _ => pf_bit.mpr ⟨hr, fun b hb4 => ?_⟩⟩
    rw [hqb]
    by_cases h5 : b = w / 2
    · subst h5
      rw [decide_eq_true hon]
      cases (σ (3 + i)).testBit (w / 2) <;> simp
    · have h6 : ¬ wOn (σ (3 + q)) b = w := fun z => h5 (on_w.mp z).1
      rw [decide_eq_false h6, decide_eq_false h5]
      simp
  · rw [pf_other hw hq hne]
    exact ⟨fun z => Or.inr z, fun z => z.resolve_left hne⟩
theorem pf_on2 {σ : Nat → Nat} (hw : wf σ) {w r q : Nat} (h8 : w < 8) (hr : r < σ 0) (hq : q < σ 0) (h : ihb σ w r = true) (e : ¬ σ (3 + q) = σ (3 + r) ^^^ 1 <<< (w / 2)) : pkM (flN σ w r) σ (σ (3 + q)) = 1 <<< q := by
  have z1 := ih_eq h
  refine mk_ext fun i => ?_
  rw [one_bit, Bool.eq_iff_iff, decide_eq_true_iff]
  by_cases hne : i = r
  · subst hne
    constructor
    · intro z
      have h2 := (pf_bit.mp z).2
      refine cd_eq hw hr hq fun b hb4 => ?_
      have h3 := h2 b hb4
      by_cases h4 : wOn (σ (3 + q)) (w / 2) = w
      · exfalso
        refine e (cd_ext (hw.cd hq) (Nat.xor_lt_two_pow (n := 4) (hw.cd hr) ?_) fun b hb4 => ?_)
        · rw [sh1]
          exact Nat.pow_lt_pow_right (by decide) (by omega)
        · have h6 := h2 b hb4
          rw [Nat.testBit_xor, one_bit]
          by_cases h5 : b = w / 2
          · subst h5
            rw [decide_eq_true h4] at h6
            rw [decide_eq_true rfl]
            revert h6
            cases (σ (3 + i)).testBit (w / 2) <;> cases (σ (3 + q)).testBit (w / 2) <;> simp
          · have h7 : ¬ wOn (σ (3 + q)) b = w := fun z => h5 (on_w.mp z).1
            rw [decide_eq_false h7, Bool.false_and, Bool.xor_false] at h6
            rw [decide_eq_false h5, Bool.xor_false]
            exact (eq_of_beq h6).symm
      · have h7 : ¬ wOn (σ (3 + q)) b = w := fun z => h4 (by rw [← (on_w.mp z).1]; exact z)
        rw [decide_eq_false h7, Bool.false_and, Bool.xor_false] at h3
        exact eq_of_beq h3
    · intro z
      subst z
      refine pf_bit.mpr ⟨hr, fun b _ => ?_⟩
      have h7 : ¬ wOn (σ (3 + i)) b = w := fun z => by
        have z2 := on_w.mp z
        have z3 := z2.2
        rw [z2.1, z1] at z3
        revert z3
        cases (w % 2 == 1) <;> decide
      rw [decide_eq_false h7]
      simp
  · exact pf_other hw hq hne
/-- the rings that have an address which does not read what it holds -/
theorem st_bit {σ : Nat → Nat} {q : Nat} : ∀ n, (stA σ n).testBit q = true ↔ ∃ a, a < n ∧ a / σ 2 = q ∧ ¬ rwM (wvM σ) σ a = rbM σ (a % σ 2) (1 <<< (a / σ 2))
  | 0 => by
    rw [stA, Nat.zero_testBit]
    exact ⟨fun z => absurd z Bool.false_ne_true, fun ⟨a, z, _⟩ => absurd z (Nat.not_lt_zero a)⟩
  | n + 1 => by
    have ih := st_bit (σ := σ) (q := q) n
    rw [stA]
    split
    · rename_i z
      rw [ih]
      constructor
      · rintro ⟨a, h1, h2, h3⟩
        exact ⟨a, by omega, h2, h3⟩
      · rintro ⟨a, h1, h2, h3⟩
        refine ⟨a, ?_, h2, h3⟩
        rcases Nat.lt_or_ge a n with y | y
        · exact y
        · exact absurd (by rw [show a = n by omega]; exact z) h3
    · rename_i z
      rw [Nat.testBit_or, one_bit, Bool.or_eq_true, ih, decide_eq_true_iff]
      constructor
      · rintro (⟨a, h1, h2, h3⟩ | h)
        · exact ⟨a, by omega, h2, h3⟩
        · exact ⟨n, by omega, h.symm, z⟩
      · rintro ⟨a, h1, h2, h3⟩
        rcases Nat.lt_or_ge a n with y | y
        · exact Or.inl ⟨a, y, h2, h3⟩
        · exact Or.inr (by rw [← h2, show a = n by omega])
theorem as_iff {σ wv nw : Nat → Nat} {n : Nat} : asB σ wv nw n = true ↔ ∀ a, a < n → rwM wv σ a = nw a := by
  unfold asB
  rw [List.all_eq_true]
  exact ⟨fun h a ha => eq_of_beq (h a (List.mem_range.mpr ha)), fun h a ha => beq_iff_eq.mpr (h a (List.mem_range.mp ha))⟩
theorem ihT_iff {σ : Nat → Nat} {q pk : Nat} : ihT σ q pk = true ↔ nw_wo (stA σ (nA σ)) (1 <<< q) = 0 ∧ ∀ t, t < σ 2 → rwM (wvM σ) σ (σ 2 * q + t) = rbM σ t pk := by
  unfold ihT
  rw [Bool.and_eq_true, List.all_eq_true, beq_iff_eq]
  exact and_congr_right fun _ => ⟨fun h a ha => eq_of_beq (h a (List.mem_range.mpr ha)), fun h a ha => beq_iff_eq.mpr (h a (List.mem_range.mp ha))⟩
theorem snE_iff {σ : Nat → Nat} {w r : Nat} : snE σ w r = true ↔ stA σ (nA σ) = 1 <<< r ∧ ∀ t, t < σ 2 → rwM (wvM σ) σ (σ 2 * r + t) = rbM σ t (1 <<< r) ^^^ tnN σ w t := by
  unfold snE
  rw [Bool.and_eq_true, List.all_eq_true, beq_iff_eq]
  exact and_congr_right fun _ => ⟨fun h a ha => eq_of_beq (h a (List.mem_range.mpr ha)), fun h a ha => beq_iff_eq.mpr (h a (List.mem_range.mp ha))⟩
/-- one ring's addresses read V, the others what they hold -/
theorem ring_iff {σ : Nat → Nat} (hw : wf σ) {q0 : Nat} {V : Nat → Nat} (hq : q0 < σ 0) : (∀ a, a < nA σ → (if a / σ 2 = q0 then V (a % σ 2) else rbM σ (a % σ 2) (1 <<< (a / σ 2))) = rwM (wvM σ) σ a) ↔ (nw_wo (stA σ (nA σ)) (1 <<< q0) = 0 ∧ ∀ t, t < σ 2 → rwM (wvM σ) σ (σ 2 * q0 + t) = V t) := by
  have hS := hw.2.2.2.2.1
  constructor
  · intro h
    constructor
    · refine mk_ext fun i => ?_
      rw [Nat.zero_testBit, nw_wo_bit, one_bit]
      refine Bool.eq_false_iff.mpr fun z => ?_
      rw [Bool.and_eq_true] at z
      obtain ⟨a, h1, h2, h3⟩ := (st_bit _).mp z.1
      have h4 : ¬ i = q0 := by simpa using z.2
      have h5 := h a h1
      rw [if_neg (by omega)] at h5
      exact h3 h5.symm
    · intro t ht
      have h5 := h _ (sr_lt hq ht)
      rw [Nat.mul_add_div (by omega), Nat.div_eq_of_lt ht, Nat.add_zero, if_pos rfl, Nat.mul_add_mod, Nat.mod_eq_of_lt ht] at h5
      exact h5.symm
  · rintro ⟨h1, h2⟩ a ha
    obtain ⟨d1, d2, d3⟩ := ad_div hS ha
    by_cases e : a / σ 2 = q0
    · rw [if_pos e]
      have h3 := h2 _ d2
      rw [← e, d3] at h3
      exact h3.symm
    · rw [if_neg e]
      refine Classical.byContradiction fun z => ?_
      have h4 := (st_bit (σ := σ) (q := a / σ 2) (nA σ)).mpr ⟨a, ha, rfl, fun y => z y.symm⟩
      have h5 : (nw_wo (stA σ (nA σ)) (1 <<< q0)).testBit (a / σ 2) = true := by
        rw [nw_wo_bit, h4, one_bit, decide_eq_false e]
        rfl
      rw [h1, Nat.zero_testBit] at h5
      cases h5
theorem rw_pk {σ wv : Nat → Nat} {a pk : Nat} (h1 : ∀ w', 8 ≤ w' → wv w' = rtM σ w') (h2 : pkM wv σ (σ (3 + a / σ 2)) = pk) : rwM wv σ a = rbM σ (a % σ 2) pk := by
  refine mk_cong fun b _ => ?_
  unfold rwB rbB
  rw [h2, h1 _ (by omega)]
/-- a flipped sense wire -/
theorem rw_sn {σ : Nat → Nat} (hw : wf σ) {w r a : Nat} (h8 : 8 ≤ w) (h1 : w < nW σ) (hr : r < σ 0) (ha : a < nA σ) : rwM (flN σ w r) σ a = if a / σ 2 = r then rbM σ (a % σ 2) (1 <<< r) ^^^ tnN σ w (a % σ 2) else rbM σ (a % σ 2) (1 <<< (a / σ 2)) := by
  obtain ⟨d1, d2, d3⟩ := ad_div hw.2.2.2.2.1 ha
  have hpk : pkM (flN σ w r) σ (σ (3 + a / σ 2)) = 1 <<< (a / σ 2) := pf_far hw d1 hr fun b hb4 => by have := wOn_lt (c := σ (3 + a / σ 2)) hb4; omega
  refine mk_ext fun b => ?_
  by_cases hb4 : b < σ 1 + 1
  · have e1 : (rwM (flN σ w r) σ a).testBit b = (((rtM σ (8 + a % σ 2 * (σ 1 + 1) + b)).testBit (a / σ 2) ^^ (decide (8 + a % σ 2 * (σ 1 + 1) + b = w) && decide (a / σ 2 = r))) ^^ (crN σ (8 + a % σ 2 * (σ 1 + 1) + b) == 1)) := by
      unfold rwM rwB
      rw [mk_bit, decide_eq_true hb4, hpk, and_1, fl_bit, Bool.true_and]
    have e2 : ∀ q, (rbM σ (a % σ 2) (1 <<< q)).testBit b = ((rtM σ (8 + a % σ 2 * (σ 1 + 1) + b)).testBit q ^^ (crN σ (8 + a % σ 2 * (σ 1 + 1) + b) == 1)) := fun q => by
      unfold rbM rbB
      rw [mk_bit, decide_eq_true hb4, and_1, Bool.true_and]
    rw [e1]
    by_cases e : a / σ 2 = r
    · rw [if_pos e, Nat.testBit_xor, e2, e, decide_eq_true rfl, Bool.and_true]
      have e3 : (tnN σ w (a % σ 2)).testBit b = decide (8 + a % σ 2 * (σ 1 + 1) + b = w) := by
        unfold tnN
        split
        · rw [one_bit]
          exact decide_eq_decide.mpr (by omega)
        · rw [Nat.zero_testBit]
          exact (decide_eq_false (by omega)).symm
      rw [e3]
      cases (rtM σ (8 + a % σ 2 * (σ 1 + 1) + b)).testBit r <;> cases decide (8 + a % σ 2 * (σ 1 + 1) + b = w) <;> cases (crN σ (8 + a % σ 2 * (σ 1 + 1) + b) == 1) <;> rfl
    · rw [if_neg e, e2, decide_eq_false e]
      simp
  · have e1 : (rwM (flN σ w r) σ a).testBit b = false := tb_lt (mk_lt _ _) (by omega)
    have e2 : ∀ q, (rbM σ (a % σ 2) (1 <<< q)).testBit b = false := fun q => tb_lt (mk_lt _ _) (by omega)
    rw [e1]
    by_cases e : a / σ 2 = r
    · rw [if_pos e, Nat.testBit_xor, e2]
      unfold tnN
      split
      · rw [one_bit, decide_eq_false (by omega)]
        rfl
      · rw [Nat.zero_testBit]
        rfl
    · rw [if_neg e, e2]
theorem tn_some {σ : Nat → Nat} {w : Nat} (h8 : 8 ≤ w) (h1 : w < nW σ) : ∃ t, t < σ 2 ∧ ¬ tnN σ w t = 0 := by
  refine ⟨(w - 8) / (σ 1 + 1), Nat.div_lt_of_lt_mul (by unfold nW at h1; rw [Nat.mul_comm]; omega), ?_⟩
  have h2 := Nat.div_add_mod (w - 8) (σ 1 + 1)
  have h3 := Nat.mod_lt (w - 8) (show 0 < σ 1 + 1 by omega)
  unfold tnN
  rw [Nat.mul_comm] at h2
  rw [if_pos (by omega)]
  have := sh1_pos (w - (8 + (w - 8) / (σ 1 + 1) * (σ 1 + 1)))
  omega
/-- THE MODEL'S SEARCH AND THE CLASS' OWN TEST OF A WRONG WEAVE AGREE -/
theorem ex_all {σ g nw : Nat → Nat} (hw : wf σ) {w r : Nat} (h1 : w < nW σ) (h2 : r < σ 0) : asB σ (va_up (rtG σ g (nW σ)) w (rtG σ g (nW σ) w ^^^ 1 <<< r)) (nwG σ nw (nA σ)) (nA σ) = exE σ w r := by
  have hS := hw.2.2.2.2.1
  rw [Bool.eq_iff_iff, as_iff]
  have hA : (∀ a, a < nA σ → rwM (va_up (rtG σ g (nW σ)) w (rtG σ g (nW σ) w ^^^ 1 <<< r)) σ a = nwG σ nw (nA σ) a) ↔ (∀ a, a < nA σ → rwM (flN σ w r) σ a = rwM (wvM σ) σ a) := by
    refine forall_congr' fun a => forall_congr' fun ha => ?_
    rw [show nwG σ nw (nA σ) a = rwM (wvM σ) σ a by unfold nwG; rw [if_pos ha], rwM_congr (wv' := flN σ w r) hw ha fun w' hw' => ?_]
    unfold flN
    by_cases e : w' = w
    · subst e
      rw [up_s, if_pos rfl]
      unfold rtG
      rw [if_pos hw']
    · rw [up_ne e, if_neg e]
      unfold rtG
      rw [if_pos hw']
  rw [hA]
  have hres : ∀ {q0 : Nat} {V : Nat → Nat}, (∀ a, a < nA σ → rwM (flN σ w r) σ a = if a / σ 2 = q0 then V (a % σ 2) else rbM σ (a % σ 2) (1 <<< (a / σ 2))) → ((∀ a, a < nA σ → rwM (flN σ w r) σ a = rwM (wvM σ) σ a) ↔ (∀ a, a < nA σ → (if a / σ 2 = q0 then V (a % σ 2) else rbM σ (a % σ 2) (1 <<< (a / σ 2))) = rwM (wvM σ) σ a)) := fun h => forall_congr' fun a => forall_congr' fun ha => by rw [h a ha]
  by_cases h8 : w < 8
  · rw [exE_i h8]
    have hfl : ∀ w', 8 ≤ w' → flN σ w r w' = rtM σ w' := fun w' z => by unfold flN; rw [if_neg (by omega)]
    cases hi : ihb σ w r with
    | false =>
      rw [ihE_B hi, ihT_iff, ← ring_iff hw h2]
      refine hres (q0 := r) (V := fun t => rbM σ t 0) fun a ha => ?_
      obtain ⟨d1, d2, d3⟩ := ad_div hS ha
      by_cases e : a / σ 2 = r
      · rw [if_pos e]
        exact rw_pk hfl (by rw [e]; exact pf_off hw h8 h2 hi)
      · rw [if_neg e]
        exact rw_pk hfl (pf_off2 hw h8 h2 d1 hi e)
    | true =>
      by_cases hq : ∃ q, q < σ 0 ∧ σ (3 + q) = σ (3 + r) ^^^ 1 <<< (w / 2)
      · obtain ⟨q, hq1, hq2⟩ := hq
        rw [ihE_A hw hi hq1 hq2, ihT_iff, ← ring_iff hw hq1]
        refine hres (q0 := q) (V := fun t => rbM σ t (1 <<< r ||| 1 <<< q)) fun a ha => ?_
        obtain ⟨d1, d2, d3⟩ := ad_div hS ha
        by_cases e : a / σ 2 = q
        · rw [if_pos e]
          exact rw_pk hfl (by rw [e]; exact pf_on hw h8 h2 hq1 hi hq2)
        · rw [if_neg e]
          refine rw_pk hfl (pf_on2 hw h8 h2 d1 hi fun z => e ?_)
          exact hw.2.2.2.2.2.2.2.1 _ _ d1 hq1 (by rw [z, hq2])
      · have hn : ∀ j, j < σ 0 → ¬ σ (3 + j) = σ (3 + r) ^^^ 1 <<< (w / 2) := fun j hj z => hq ⟨j, hj, z⟩
        rw [ihE_N hi hn, beq_iff_eq]
        have hall : ∀ a, a < nA σ → rwM (flN σ w r) σ a = rbM σ (a % σ 2) (1 <<< (a / σ 2)) := fun a ha => rw_pk hfl (pf_on2 hw h8 h2 (ad_div hS ha).1 hi (hn _ (ad_div hS ha).1))
        constructor
        · intro h
          refine mk_ext fun i => ?_
          rw [Nat.zero_testBit]
          refine Bool.eq_false_iff.mpr fun z => ?_
          obtain ⟨a, z1, z2, z3⟩ := (st_bit _).mp z
          exact z3 ((h a z1).symm.trans (hall a z1))
        · intro h a ha
          rw [hall a ha]
          refine Classical.byContradiction fun z => ?_
          have h4 := (st_bit (σ := σ) (q := a / σ 2) (nA σ)).mpr ⟨a, ha, rfl, fun y => z y.symm⟩
          rw [h, Nat.zero_testBit] at h4
          cases h4
  · have h8' : 8 ≤ w := by omega
    rw [exE_s h8', snE_iff, hres (q0 := r) (V := fun t => rbM σ t (1 <<< r) ^^^ tnN σ w t) (fun a ha => rw_sn hw h8' h1 h2 ha), ring_iff (q0 := r) (V := fun t => rbM σ t (1 <<< r) ^^^ tnN σ w t) hw h2]
    constructor
    · rintro ⟨z1, z2⟩
      refine ⟨?_, z2⟩
      refine mk_ext fun i => ?_
      rw [one_bit]
      by_cases e : i = r
      · subst e
        rw [decide_eq_true rfl]
        obtain ⟨t, y1, y2⟩ := tn_some h8' h1
        refine (st_bit _).mpr ⟨σ 2 * i + t, sr_lt h2 y1, ?_, ?_⟩
        · rw [Nat.mul_add_div (by omega), Nat.div_eq_of_lt y1, Nat.add_zero]
        · rw [z2 t y1, Nat.mul_add_div (by omega), Nat.div_eq_of_lt y1, Nat.add_zero, Nat.mul_add_mod, Nat.mod_eq_of_lt y1]
          intro y
          have y3 := congrArg (fun v => rbM σ t (1 <<< i) ^^^ v) y
          rw [← Nat.xor_assoc, Nat.xor_self, Nat.zero_xor] at y3
          exact y2 y3
      · rw [decide_eq_false e]
        refine Bool.eq_false_iff.mpr fun z => ?_
        have h5 : (nw_wo (stA σ (nA σ)) (1 <<< r)).testBit i = true := by
          rw [nw_wo_bit, z, one_bit, decide_eq_false e]
          rfl
        rw [z1, Nat.zero_testBit] at h5
        cases h5
    · rintro ⟨z1, z2⟩
      refine ⟨?_, z2⟩
      rw [z1]
      refine mk_ext fun i => ?_
      rw [nw_wo_bit, Nat.zero_testBit]
      simp
