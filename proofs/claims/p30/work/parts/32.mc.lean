/-! ===== p30: a single wrong weave, what it spoils and what explains it ===== -/
/-- the only wrong weave is at the wire w, the ring r -/
def oneW (σ : Nat → Nat) (w r : Nat) : Prop := w < nW σ ∧ r < σ 0 ∧ ∀ v, v < nW σ → σ (100 + v) = if v = w then 1 <<< r else 0
theorem one_bit {σ : Nat → Nat} {w r : Nat} (h : oneW σ w r) {v : Nat} (hv : v < nW σ) (i : Nat) : (σ (100 + v)).testBit i = (decide (v = w) && decide (r = i)) := by
  rw [h.2.2 v hv]
  by_cases e : v = w
  · rw [if_pos e, bit_1, decide_eq_true e, Bool.true_and]
  · rw [if_neg e, Nat.zero_testBit, decide_eq_false e, Bool.false_and]
theorem one_sp {σ : Nat → Nat} (hz : ∀ v, v < nW σ → σ (100 + v) = 0) {w r : Nat} (hl : w < nW σ) (hr : r < σ 0) : oneW (spS σ w r) w r := by
  refine ⟨by rw [nW_sp]; exact hl, by rw [sp_ne (by omega)]; exact hr, fun v hv => ?_⟩
  rw [nW_sp] at hv
  by_cases e : v = w
  · subst e
    rw [if_pos rfl, sp_at, hz v hv, Nat.zero_xor]
  · rw [if_neg e, sp_ne (by omega)]
    exact hz v hv
/-! the rings at which something is read wrongly -/
def difB (σ : Nat → Nat) (a : Nat) : Prop := ¬ rwM (wvM σ) σ a = rbM σ (a % σ 2) (1 <<< (a / σ 2))
theorem stA_bit {σ : Nat → Nat} {i : Nat} : ∀ n, (stA σ n).testBit i = true ↔ ∃ a, a < n ∧ difB σ a ∧ a / σ 2 = i
  | 0 => by
    constructor
    · intro h
      rw [stA, Nat.zero_testBit] at h
      cases h
    · rintro ⟨a, h, -⟩
      exact absurd h (Nat.not_lt_zero a)
  | n + 1 => by
    have ih := stA_bit (σ := σ) (i := i) n
    rw [stA]
    by_cases c : rwM (wvM σ) σ n = rbM σ (n % σ 2) (1 <<< (n / σ 2))
    · rw [if_pos c, ih]
      constructor
      · rintro ⟨a, h1, h2⟩
        exact ⟨a, by omega, h2⟩
      · rintro ⟨a, h1, h2, h3⟩
        refine ⟨a, ?_, h2, h3⟩
        by_cases e : a = n
        · subst e
          exact absurd c h2
        · omega
    · rw [if_neg c, Nat.testBit_or, Bool.or_eq_true, ih, bit_1]
      constructor
      · rintro (⟨a, h1, h2⟩ | h)
        · exact ⟨a, by omega, h2⟩
        · exact ⟨n, by omega, c, of_decide_eq_true h⟩
      · rintro ⟨a, h1, h2, h3⟩
        by_cases e : a = n
        · subst e
          exact Or.inr (decide_eq_true h3)
        · exact Or.inl ⟨a, by omega, h2, h3⟩
theorem stA_none {σ : Nat → Nat} (h : ∀ a, a < nA σ → ¬ difB σ a) : stA σ (nA σ) = 0 := by
  refine mk_ext fun i => ?_
  rw [Nat.zero_testBit]
  refine Bool.eq_false_iff.mpr fun q => ?_
  obtain ⟨a, h1, h2, -⟩ := (stA_bit _).mp q
  exact h a h1 h2
theorem stA_in {σ : Nat → Nat} {q : Nat} (h : ∀ a, a < nA σ → ¬ a / σ 2 = q → ¬ difB σ a) : nw_wo (stA σ (nA σ)) (1 <<< q) = 0 := by
  refine mk_ext fun i => ?_
  rw [Nat.zero_testBit, nw_wo_bit, bit_1]
  by_cases e : q = i
  · rw [decide_eq_true e]
    simp
  · rw [decide_eq_false e, Bool.not_false, Bool.and_true]
    refine Bool.eq_false_iff.mpr fun z => ?_
    obtain ⟨a, h1, h2, h3⟩ := (stA_bit _).mp z
    exact h a h1 (by omega) h2
/-! at a sense wire -/
theorem sw_ix {σ : Nat → Nat} (hw : wf σ) {w r : Nat} (h8 : 8 ≤ w) (hl : w < nW σ) (hr : r < σ 0) : (w - 8) / (σ 1 + 1) < σ 2 ∧ (w - 8) % (σ 1 + 1) < σ 1 + 1 ∧ w = 8 + (w - 8) / (σ 1 + 1) * (σ 1 + 1) + (w - 8) % (σ 1 + 1) ∧ σ 2 * r + (w - 8) / (σ 1 + 1) < nA σ ∧ (σ 2 * r + (w - 8) / (σ 1 + 1)) / σ 2 = r ∧ (σ 2 * r + (w - 8) / (σ 1 + 1)) % σ 2 = (w - 8) / (σ 1 + 1) := by
  have ht : (w - 8) / (σ 1 + 1) < σ 2 := Nat.div_lt_of_lt_mul (by unfold nW at hl; rw [Nat.mul_comm]; omega)
  have hm := Nat.div_add_mod (w - 8) (σ 1 + 1)
  rw [Nat.mul_comm] at hm
  have hS := hw.2.2.2.2.1
  refine ⟨ht, Nat.mod_lt _ (by omega), by omega, sr_lt hr ht, ?_, ?_⟩
  · rw [Nat.mul_add_div (by omega), Nat.div_eq_of_lt ht, Nat.add_zero]
  · rw [Nat.mul_add_mod, Nat.mod_eq_of_lt ht]
theorem sw_same {σ : Nat → Nat} (hw : wf σ) {w r a b : Nat} (h8 : 8 ≤ w) (hl : w < nW σ) (hr : r < σ 0) (ha : a < nA σ) (hb : b < σ 1 + 1) : (8 + a % σ 2 * (σ 1 + 1) + b = w ∧ r = a / σ 2) ↔ (a = σ 2 * r + (w - 8) / (σ 1 + 1) ∧ b = (w - 8) % (σ 1 + 1)) := by
  obtain ⟨i1, i2, i3, i4, i5, i6⟩ := sw_ix hw h8 hl hr
  obtain ⟨h1, h2, h3⟩ := ad_div hw.2.2.2.2.1 ha
  constructor
  · rintro ⟨e1, e2⟩
    have e3 : w - 8 = b + a % σ 2 * (σ 1 + 1) := by omega
    rw [e3, Nat.add_mul_div_right _ _ (by omega), Nat.add_mul_mod_self_right, Nat.div_eq_of_lt hb, Nat.mod_eq_of_lt hb, Nat.zero_add, e2]
    exact ⟨h3.symm, rfl⟩
  · rintro ⟨e1, e2⟩
    rw [← e1] at i5 i6
    rw [i6, e2]
    exact ⟨i3.symm, i5.symm⟩
theorem mk_flip {f : Nat → Bool} {k n : Nat} (hk : k < n) : mk (fun b => f b ^^ decide (k = b)) n = mk f n ^^^ 1 <<< k := by
  refine mk_ext fun i => ?_
  rw [Nat.testBit_xor, mk_bit, mk_bit, bit_1]
  by_cases hi : i < n
  · rw [decide_eq_true hi, Bool.true_and, Bool.true_and]
  · rw [decide_eq_false hi, Bool.false_and, Bool.false_and, decide_eq_false (show ¬ k = i by omega)]
    rfl
theorem rwM_s {σ : Nat → Nat} (hw : wf σ) {w r : Nat} (h : oneW σ w r) (h8 : 8 ≤ w) {a : Nat} (ha : a < nA σ) : rwM (wvM σ) σ a = if a = σ 2 * r + (w - 8) / (σ 1 + 1) then mk (fun b => sbit σ a b ^^ decide ((w - 8) % (σ 1 + 1) = b)) (σ 1 + 1) else mk (sbit σ a) (σ 1 + 1) := by
  obtain ⟨hl, hr, -⟩ := id h
  have n8 := nW8 σ
  obtain ⟨h1, h2, h3⟩ := ad_div hw.2.2.2.2.1 ha
  have hz : ∀ v, v < 8 → σ (100 + v) = 0 := fun v hv => by rw [h.2.2 v (by omega), if_neg (by omega)]
  have hb : ∀ b, b < σ 1 + 1 → rwB (wvM σ) σ a b = (sbit σ a b ^^ (decide (8 + a % σ 2 * (σ 1 + 1) + b = w) && decide (r = a / σ 2))) := fun b hb => by
    rw [rwB_gen hw hz ha hb, one_bit h (sw_lt h2 hb)]
  by_cases e : a = σ 2 * r + (w - 8) / (σ 1 + 1)
  · rw [if_pos e]
    refine mk_cong fun b hb2 => ?_
    rw [hb b hb2, ← Bool.decide_and]
    congr 1
    refine decide_eq_decide.mpr ?_
    rw [sw_same hw h8 hl hr ha hb2]
    exact ⟨fun z => z.2.symm, fun z => ⟨e, z.symm⟩⟩
  · rw [if_neg e]
    refine mk_cong fun b hb2 => ?_
    rw [hb b hb2, ← Bool.decide_and, decide_eq_false (fun z => e ((sw_same hw h8 hl hr ha hb2).mp z).1), Bool.xor_false]
theorem rwM_s2 {σ : Nat → Nat} (hw : wf σ) {w r : Nat} (h : oneW σ w r) (h8 : 8 ≤ w) {a : Nat} (ha : a < nA σ) : rwM (wvM σ) σ a = mk (sbit σ a) (σ 1 + 1) ^^^ (if a = σ 2 * r + (w - 8) / (σ 1 + 1) then 1 <<< ((w - 8) % (σ 1 + 1)) else 0) := by
  rw [rwM_s hw h h8 ha]
  split
  · exact mk_flip (Nat.mod_lt _ (by omega))
  · rw [Nat.xor_zero]
theorem rb_sbit {σ : Nat → Nat} (hw : wf σ) {a : Nat} (ha : a < nA σ) : rbM σ (a % σ 2) (1 <<< (a / σ 2)) = mk (sbit σ a) (σ 1 + 1) := by
  obtain ⟨h1, h2, h3⟩ := ad_div hw.2.2.2.2.1 ha
  rw [rb_mk h1 h2, h3]
theorem xor_ne {x y : Nat} (h : ¬ y = 0) : ¬ x ^^^ y = x := by
  intro q
  have h1 : x ^^^ (x ^^^ y) = x ^^^ x := by rw [q]
  rw [← Nat.xor_assoc, Nat.xor_self, Nat.zero_xor] at h1
  exact h h1
theorem sh1_ne (k : Nat) : ¬ 1 <<< k = 0 := by
  have := sh1_pos k
  omega
theorem ex_sense {σ : Nat → Nat} (hw : wf σ) {w r : Nat} (h : oneW σ w r) (h8 : 8 ≤ w) : exE σ w r = true := by
  obtain ⟨hl, hr, -⟩ := id h
  obtain ⟨i1, i2, i3, i4, i5, i6⟩ := sw_ix hw h8 hl hr
  rw [exE_s h8]
  refine snE_t ?_ fun t ht => ?_
  · refine mk_ext fun i => ?_
    rw [bit_1]
    by_cases e : r = i
    · rw [decide_eq_true e]
      refine (stA_bit _).mpr ⟨σ 2 * r + (w - 8) / (σ 1 + 1), i4, ?_, by rw [i5]; exact e⟩
      unfold difB
      rw [rb_sbit hw i4, rwM_s2 hw h h8 i4, if_pos rfl]
      exact xor_ne (sh1_ne _)
    · rw [decide_eq_false e]
      refine Bool.eq_false_iff.mpr fun q => ?_
      obtain ⟨a, a1, a2, a3⟩ := (stA_bit _).mp q
      unfold difB at a2
      rw [rb_sbit hw a1, rwM_s2 hw h h8 a1] at a2
      by_cases e2 : a = σ 2 * r + (w - 8) / (σ 1 + 1)
      · rw [e2, i5] at a3
        exact e a3
      · rw [if_neg e2, Nat.xor_zero] at a2
        exact a2 rfl
  · have ha := sr_lt (σ := σ) hr ht
    rw [rwM_s2 hw h h8 ha, rb_mk hr ht]
    congr 1
    unfold tnN
    by_cases e : t = (w - 8) / (σ 1 + 1)
    · subst e
      rw [if_pos rfl, if_pos ⟨by omega, by omega⟩]
      congr 1
      omega
    · have hB : 0 < σ 1 + 1 := by omega
      rw [if_neg (by omega), if_neg]
      rintro ⟨z1, z2⟩
      refine e ?_
      have z3 : w - 8 = (w - (8 + t * (σ 1 + 1))) + t * (σ 1 + 1) := by omega
      rw [z3, Nat.add_mul_div_right _ _ hB, Nat.div_eq_of_lt (by omega), Nat.zero_add]
/-! at an inhibit wire -/
theorem rwM_i {σ : Nat → Nat} (hw : wf σ) {w r : Nat} (h : oneW σ w r) (h8 : w < 8) {a : Nat} (ha : a < nA σ) : rwM (wvM σ) σ a = rbM σ (a % σ 2) (pkM (wvM σ) σ (σ (3 + a / σ 2))) := by
  obtain ⟨h1, h2, h3⟩ := ad_div hw.2.2.2.2.1 ha
  refine mk_cong fun b hb => ?_
  have hs := sw_lt (σ := σ) h2 hb
  have e : wvM σ (8 + a % σ 2 * (σ 1 + 1) + b) = rtM σ (8 + a % σ 2 * (σ 1 + 1) + b) := by
    unfold wvM
    rw [h.2.2 _ hs, if_neg (by omega), Nat.xor_zero]
  unfold rwB rbB
  rw [e]
theorem wOn_same {c b w : Nat} : wOn c b = w ↔ b = w / 2 ∧ c.testBit b = (w % 2 == 0) := by
  rw [wOn_eq]
  have h := Nat.mod_lt w (show 0 < 2 by decide)
  cases hc : c.testBit b
  · show 2 * b + 1 = w ↔ _
    constructor
    · intro e
      refine ⟨by omega, ?_⟩
      rw [show w % 2 = 1 by omega]
      rfl
    · rintro ⟨e1, e2⟩
      have e3 : ¬ w % 2 = 0 := fun z => by rw [z] at e2; cases e2
      omega
  · show 2 * b + 0 = w ↔ _
    constructor
    · intro e
      refine ⟨by omega, ?_⟩
      rw [show w % 2 = 0 by omega]
      rfl
    · rintro ⟨e1, e2⟩
      have e3 : w % 2 = 0 := by
        refine Classical.byContradiction fun z => ?_
        rw [show w % 2 = 1 by omega] at e2
        cases e2
      omega
theorem pk_one {σ : Nat → Nat} {w r : Nat} (h : oneW σ w r) {c i : Nat} (hi : i < σ 0) : (pkM (wvM σ) σ c).testBit i = true ↔ ∀ b, b < 4 → ((σ (3 + i)).testBit b ^^ c.testBit b) = (decide (b = w / 2 ∧ c.testBit b = (w % 2 == 0)) && decide (r = i)) := by
  have n8 := nW8 σ
  rw [pk_iff hi]
  constructor
  · intro q b hb
    rw [q b hb, one_bit h (Nat.lt_of_lt_of_le (wOn_lt hb) n8)]
    congr 1
    exact decide_eq_decide.mpr wOn_same
  · intro q b hb
    rw [q b hb, one_bit h (Nat.lt_of_lt_of_le (wOn_lt hb) n8)]
    congr 1
    exact decide_eq_decide.mpr wOn_same.symm
/-- another ring than the spoilt one is picked by its own code alone -/
theorem pk_oth {σ : Nat → Nat} (hw : wf σ) {w r : Nat} (h : oneW σ w r) {q i : Nat} (hq : q < σ 0) (hi : i < σ 0) (hne : ¬ r = i) : (pkM (wvM σ) σ (σ (3 + q))).testBit i = decide (q = i) := by
  by_cases e : q = i
  · subst e
    rw [decide_eq_true rfl]
    refine (pk_one h hi).mpr fun b hb => ?_
    rw [Bool.xor_self, decide_eq_false hne, Bool.and_false]
  · rw [decide_eq_false e]
    refine Bool.eq_false_iff.mpr fun z => e ?_
    have z2 := (pk_one h hi).mp z
    refine (cd_inj hw hi hq (cd_ext hw hi (hw.cd hq) fun b hb => ?_)).symm
    have z3 := z2 b hb
    rw [decide_eq_false hne, Bool.and_false] at z3
    exact bx_eq z3
theorem ihb_iff {σ : Nat → Nat} {w r : Nat} : ihb σ w r = !((σ (3 + r)).testBit (w / 2) == (w % 2 == 0)) := by
  unfold ihb
  have h := Nat.mod_lt w (show 0 < 2 by decide)
  rcases (show w % 2 = 0 ∨ w % 2 = 1 by omega) with e | e <;> rw [e] <;> cases (σ (3 + r)).testBit (w / 2) <;> rfl
/-- the spoilt ring: by a code that the wire is not on for, it is picked as ever -/
theorem pk_off {σ : Nat → Nat} (hw : wf σ) {w r : Nat} (h : oneW σ w r) {q : Nat} (hq : q < σ 0) (hc : ¬ (σ (3 + q)).testBit (w / 2) = (w % 2 == 0)) : (pkM (wvM σ) σ (σ (3 + q))).testBit r = decide (q = r) := by
  have hd : ∀ b, decide (b = w / 2 ∧ (σ (3 + q)).testBit b = (w % 2 == 0)) = false := fun b => decide_eq_false fun z => hc (by rw [← z.1]; exact z.2)
  by_cases e : q = r
  · subst e
    rw [decide_eq_true rfl]
    refine (pk_one h h.2.1).mpr fun b hb => ?_
    rw [Bool.xor_self, hd, Bool.false_and]
  · rw [decide_eq_false e]
    refine Bool.eq_false_iff.mpr fun z => e ?_
    have z2 := (pk_one h h.2.1).mp z
    refine (cd_inj hw h.2.1 hq (cd_ext hw h.2.1 (hw.cd hq) fun b hb => ?_)).symm
    have z3 := z2 b hb
    rw [hd, Bool.false_and] at z3
    exact bx_eq z3
theorem w2_4 {w : Nat} (h8 : w < 8) : w / 2 < 4 := by omega
/-- by a code that the wire is on for, it is picked where the two codes differ in the wire's bit alone -/
theorem pk_on {σ : Nat → Nat} (hw : wf σ) {w r : Nat} (h : oneW σ w r) (h8 : w < 8) {q : Nat} (hq : q < σ 0) (hc : (σ (3 + q)).testBit (w / 2) = (w % 2 == 0)) : (pkM (wvM σ) σ (σ (3 + q))).testBit r = decide (σ (3 + q) = σ (3 + r) ^^^ 1 <<< (w / 2)) := by
  have hb2 : ∀ b, decide (b = w / 2 ∧ (σ (3 + q)).testBit b = (w % 2 == 0)) = decide (w / 2 = b) := fun b => decide_eq_decide.mpr ⟨fun z => z.1.symm, fun z => ⟨z.symm, by rw [← z]; exact hc⟩⟩
  by_cases e : σ (3 + q) = σ (3 + r) ^^^ 1 <<< (w / 2)
  · rw [decide_eq_true e]
    refine (pk_one h h.2.1).mpr fun b hb => ?_
    rw [hb2, decide_eq_true (show r = r from rfl), Bool.and_true, e, Nat.testBit_xor, bit_1]
    cases (σ (3 + r)).testBit b <;> cases decide (w / 2 = b) <;> rfl
  · rw [decide_eq_false e]
    refine Bool.eq_false_iff.mpr fun z => e ?_
    have z2 := (pk_one h h.2.1).mp z
    have hx : σ (3 + r) ^^^ 1 <<< (w / 2) < 16 := Nat.xor_lt_two_pow (n := 4) (hw.cd h.2.1) (by rw [sh1]; exact Nat.pow_lt_pow_right (by decide) (w2_4 h8))
    refine cd_ext hw hq hx fun b hb => ?_
    have z3 := z2 b hb
    rw [hb2, decide_eq_true (show r = r from rfl), Bool.and_true] at z3
    rw [Nat.testBit_xor, bit_1, ← z3]
    cases (σ (3 + r)).testBit b <;> cases (σ (3 + q)).testBit b <;> rfl
theorem pk_ext {σ : Nat → Nat} (hw : wf σ) {w r : Nat} (h : oneW σ w r) {q : Nat} (hq : q < σ 0) (hr : (pkM (wvM σ) σ (σ (3 + q))).testBit r = decide (q = r)) : pkM (wvM σ) σ (σ (3 + q)) = 1 <<< q := by
  refine mk_ext fun i => ?_
  rw [bit_1]
  by_cases hi : i < σ 0
  · by_cases e : r = i
    · subst e
      exact hr
    · exact pk_oth hw h hq hi e
  · rw [pk_hi hi]
    exact (decide_eq_false (by omega)).symm
theorem dif_own {σ : Nat → Nat} (hw : wf σ) {w r : Nat} (h : oneW σ w r) (h8 : w < 8) {a : Nat} (ha : a < nA σ) (hp : pkM (wvM σ) σ (σ (3 + a / σ 2)) = 1 <<< (a / σ 2)) : ¬ difB σ a := by
  unfold difB
  rw [rwM_i hw h h8 ha, hp]
  exact fun z => z rfl
theorem sr_div {σ : Nat → Nat} {q t : Nat} (ht : t < σ 2) : (σ 2 * q + t) / σ 2 = q ∧ (σ 2 * q + t) % σ 2 = t := by
  refine ⟨?_, ?_⟩
  · rw [Nat.mul_add_div (by omega), Nat.div_eq_of_lt ht, Nat.add_zero]
  · rw [Nat.mul_add_mod, Nat.mod_eq_of_lt ht]
theorem ex_inh {σ : Nat → Nat} (hw : wf σ) {w r : Nat} (h : oneW σ w r) (h8 : w < 8) : exE σ w r = true := by
  obtain ⟨hl, hr, -⟩ := id h
  have hS := hw.2.2.2.2.1
  rw [exE_i h8]
  cases hi : ihb σ w r
  · -- it ought to go round: its own code picks nothing
    rw [ihE_B hi]
    have hcr : (σ (3 + r)).testBit (w / 2) = (w % 2 == 0) := by
      rw [ihb_iff, Bool.not_eq_false', beq_iff_eq] at hi
      exact hi
    have hpk : ∀ q, q < σ 0 → ¬ q = r → pkM (wvM σ) σ (σ (3 + q)) = 1 <<< q := fun q hq hne => by
      refine pk_ext hw h hq ?_
      by_cases hc : (σ (3 + q)).testBit (w / 2) = (w % 2 == 0)
      · rw [pk_on hw h h8 hq hc, decide_eq_false hne]
        refine decide_eq_false fun z => ?_
        rw [z, Nat.testBit_xor, bit_1, decide_eq_true rfl, hcr] at hc
        cases hz : (w % 2 == 0) <;> rw [hz] at hc <;> cases hc
      · exact pk_off hw h hq hc
    have hp0 : pkM (wvM σ) σ (σ (3 + r)) = 0 := by
      refine mk_ext fun i => ?_
      rw [Nat.zero_testBit]
      by_cases hi2 : i < σ 0
      · by_cases e : r = i
        · subst e
          rw [pk_on hw h h8 hr hcr]
          exact decide_eq_false fun z => xor_ne (sh1_ne _) z.symm
        · rw [pk_oth hw h hr hi2 e]
          exact decide_eq_false e
      · exact pk_hi hi2
    refine ihT_t (stA_in fun a ha hne => ?_) fun t ht => ?_
    · obtain ⟨h1, h2, h3⟩ := ad_div hS ha
      exact dif_own hw h h8 ha (hpk _ h1 hne)
    · obtain ⟨d1, d2⟩ := sr_div (σ := σ) (q := r) ht
      rw [rwM_i hw h h8 (sr_lt hr ht), d1, d2, hp0]
  · -- it ought to go through
    have hcr : ¬ (σ (3 + r)).testBit (w / 2) = (w % 2 == 0) := by
      rw [ihb_iff, Bool.not_eq_true', beq_eq_false_iff_ne] at hi
      exact hi
    have hpk : ∀ q, q < σ 0 → ¬ σ (3 + q) = σ (3 + r) ^^^ 1 <<< (w / 2) → pkM (wvM σ) σ (σ (3 + q)) = 1 <<< q := fun q hq hne => by
      refine pk_ext hw h hq ?_
      by_cases hc : (σ (3 + q)).testBit (w / 2) = (w % 2 == 0)
      · rw [pk_on hw h h8 hq hc, decide_eq_false hne]
        refine (decide_eq_false fun z => ?_).symm
        rw [z] at hc
        exact hcr hc
      · exact pk_off hw h hq hc
    by_cases hx : ∃ q, q < σ 0 ∧ σ (3 + q) = σ (3 + r) ^^^ 1 <<< (w / 2)
    · obtain ⟨q, hq, e⟩ := hx
      rw [ihE_A hw hi hq e]
      have hqr : ¬ q = r := fun z => by
        rw [z] at e
        exact xor_ne (sh1_ne _) e.symm
      have hcq : (σ (3 + q)).testBit (w / 2) = (w % 2 == 0) := by
        rw [e, Nat.testBit_xor, bit_1, decide_eq_true rfl, Bool.xor_true]
        cases hz : (σ (3 + r)).testBit (w / 2) <;> cases hy : (w % 2 == 0) <;> first | rfl | (rw [hz, hy] at hcr; exact absurd rfl hcr)
      have hp1 : pkM (wvM σ) σ (σ (3 + q)) = 1 <<< r ||| 1 <<< q := by
        refine mk_ext fun i => ?_
        rw [Nat.testBit_or, bit_1, bit_1]
        by_cases hi2 : i < σ 0
        · by_cases e2 : r = i
          · subst e2
            rw [pk_on hw h h8 hq hcq, decide_eq_true e, decide_eq_true rfl, Bool.true_or]
          · rw [pk_oth hw h hq hi2 e2, decide_eq_false e2, Bool.false_or]
        · rw [pk_hi hi2, decide_eq_false (show ¬ r = i by omega), decide_eq_false (show ¬ q = i by omega), Bool.false_or]
      refine ihT_t (stA_in fun a ha hne => ?_) fun t ht => ?_
      · obtain ⟨h1, h2, h3⟩ := ad_div hS ha
        refine dif_own hw h h8 ha (hpk _ h1 fun z => hne ?_)
        exact cd_inj hw h1 hq (z.trans e.symm)
      · obtain ⟨d1, d2⟩ := sr_div (σ := σ) (q := q) ht
        rw [rwM_i hw h h8 (sr_lt hq ht), d1, d2, hp1]
    · rw [ihE_N hi fun j hj z => hx ⟨j, hj, z⟩]
      refine beq_iff_eq.mpr (stA_none fun a ha => ?_)
      obtain ⟨h1, h2, h3⟩ := ad_div hS ha
      exact dif_own hw h h8 ha (hpk _ h1 fun z => hx ⟨_, h1, z⟩)
theorem ex_one {σ : Nat → Nat} (hw : wf σ) {w r : Nat} (h : oneW σ w r) : exE σ w r = true := by
  by_cases h8 : w < 8
  · exact ex_inh hw h h8
  · exact ex_sense hw h (by omega)
