/-! ===== p30: sums and counts; without wrong weaves all is read as it is to be; costs ===== -/
theorem sm_zero {f : Nat → Nat} : ∀ {n : Nat}, sm f n = 0 → ∀ i, i < n → f i = 0
  | 0, _, i, hi => absurd hi (Nat.not_lt_zero i)
  | n + 1, h, i, hi => by
    rw [sm_s] at h
    by_cases e : i = n
    · subst e; omega
    · exact sm_zero (n := n) (by omega) i (by omega)
theorem sm_none {f : Nat → Nat} : ∀ {n : Nat}, (∀ i, i < n → f i = 0) → sm f n = 0
  | 0, _ => rfl
  | n + 1, h => by rw [sm_s, sm_none (n := n) (fun i hi => h i (by omega)), h n (by omega)]
theorem sm_le {f g : Nat → Nat} : ∀ {n : Nat}, (∀ i, i < n → f i ≤ g i) → sm f n ≤ sm g n
  | 0, _ => Nat.le_refl 0
  | n + 1, h => by
    rw [sm_s, sm_s]
    have h1 := sm_le (n := n) (fun i hi => h i (by omega))
    have h2 := h n (by omega)
    omega
theorem ct_zero {f : Nat → Bool} : ∀ {n : Nat}, ct f n = 0 → ∀ i, i < n → f i = false
  | 0, _, i, hi => absurd hi (Nat.not_lt_zero i)
  | n + 1, h, i, hi => by
    rw [ct_s] at h
    by_cases e : i = n
    · subst e
      cases hf : f i
      · rfl
      · rw [hf, Bool.toNat_true] at h
        omega
    · exact ct_zero (n := n) (by omega) i (by omega)
theorem ct_none {f : Nat → Bool} : ∀ {n : Nat}, (∀ i, i < n → f i = false) → ct f n = 0
  | 0, _ => rfl
  | n + 1, h => by rw [ct_s, ct_none (n := n) (fun i hi => h i (by omega)), h n (by omega)]; rfl
theorem ct_imp {f g : Nat → Bool} : ∀ {n : Nat}, (∀ i, i < n → f i = true → g i = true) → ct f n ≤ ct g n
  | 0, _ => Nat.le_refl 0
  | n + 1, h => by
    rw [ct_s, ct_s]
    have h1 := ct_imp (n := n) (fun i hi => h i (by omega))
    have h2 := h n (by omega)
    cases hf : f n
    · rw [Bool.toNat_false]; omega
    · rw [h2 hf]; omega
theorem ct_not (f : Nat → Bool) : ∀ n, ct f n + ct (fun i => !f i) n = n
  | 0 => rfl
  | n + 1 => by
    have ih := ct_not f n
    have e : (!f n).toNat + (f n).toNat = 1 := by cases f n <;> rfl
    have h2 : ct (fun i => !f i) (n + 1) = ct (fun i => !f i) n + (!f n).toNat := rfl
    have h1 : ct f (n + 1) = ct f n + (f n).toNat := rfl
    omega
theorem pop_zero {x : Nat} (hx : x < 65536) (h : pop x = 0) : x = 0 := by
  refine mk_ext fun i => ?_
  rw [Nat.zero_testBit]
  by_cases hi : i < 16
  · exact ct_zero (show ct x.testBit 16 = 0 from h) i hi
  · exact tb_lt (n := 16) hx (by omega)
theorem pop_0 : pop 0 = 0 := ct_none fun i _ => Nat.zero_testBit i
/-- how many wrong weaves there are -/
def cwN (σ : Nat → Nat) : Nat := sm (fun w => pop (σ (100 + w))) (nW σ)
theorem cw_zero {σ : Nat → Nat} (hw : wf σ) (h : cwN σ = 0) : ∀ w, w < nW σ → σ (100 + w) = 0 := fun w hl => pop_zero (hw.sp hl) (sm_zero (f := fun w => pop (σ (100 + w))) h w hl)
theorem cw_of {σ : Nat → Nat} (h : ∀ w, w < nW σ → σ (100 + w) = 0) : cwN σ = 0 := sm_none fun i hi => by
  show pop (σ (100 + i)) = 0
  rw [h i hi]
  exact pop_0
theorem bx_eq {x y : Bool} (h : (x ^^ y) = false) : x = y := by cases x <;> cases y <;> simp_all
theorem bx3 {x z : Bool} (h : (!(x ^^ z)) = true) : x = z := by cases x <;> cases z <;> simp_all
theorem bx_swap (x y z : Bool) : ((x ^^ y) ^^ z) = ((x ^^ z) ^^ y) := by cases x <;> cases y <;> cases z <;> rfl
theorem nW8 (σ : Nat → Nat) : 8 ≤ nW σ := by unfold nW; omega
theorem wv_bit {σ : Nat → Nat} {w r : Nat} (hr : r < σ 0) : (wvM σ w).testBit r = (rtB σ w r ^^ (σ (100 + w)).testBit r) := by
  unfold wvM rtM
  rw [Nat.testBit_xor, mk_bit]
  simp [hr]
theorem wOn_eq (c b : Nat) : wOn c b = 2 * b + (!c.testBit b).toNat := by
  unfold wOn
  rw [nw_tb]
  cases c.testBit b
  · rfl
  · show 2 * b + 1 - 1 = 2 * b + 0
    omega
theorem ihb_on (σ : Nat → Nat) (c b i : Nat) : ihb σ (wOn c b) i = ((σ (3 + i)).testBit b ^^ c.testBit b) := by
  unfold ihb
  rw [wOn_eq]
  have h := toNat_le (!c.testBit b)
  rw [show (2 * b + (!c.testBit b).toNat) / 2 = b by omega, show (2 * b + (!c.testBit b).toNat) % 2 = (!c.testBit b).toNat by omega]
  cases (σ (3 + i)).testBit b <;> cases c.testBit b <;> rfl
theorem rtB_i {σ : Nat → Nat} {w r : Nat} (h : w < 8) : rtB σ w r = ihb σ w r := by
  unfold rtB onB crN
  rw [if_pos h, if_pos h]
  simp
theorem pk_iff {σ : Nat → Nat} {c i : Nat} (hi : i < σ 0) : (pkM (wvM σ) σ c).testBit i = true ↔ ∀ b, b < 4 → ((σ (3 + i)).testBit b ^^ c.testBit b) = (σ (100 + wOn c b)).testBit i := by
  unfold pkM
  rw [pkA_bit]
  simp only [hi, decide_true, Bool.true_and, List.all_eq_true, List.mem_range]
  constructor
  · intro h b hb
    have h1 := h b hb
    rw [wv_bit hi, rtB_i (wOn_lt hb), ihb_on] at h1
    exact bx3 h1
  · intro h b hb
    rw [wv_bit hi, rtB_i (wOn_lt hb), ihb_on, h b hb, Bool.xor_self]
    rfl
theorem pk_hi {σ : Nat → Nat} {c i : Nat} (hi : ¬ i < σ 0) : (pkM (wvM σ) σ c).testBit i = false := tb_lt (pkM_lt _ _ _) (by omega)
theorem cd_ext {σ : Nat → Nat} (hw : wf σ) {i c : Nat} (hi : i < σ 0) (hc : c < 16) (h : ∀ b, b < 4 → (σ (3 + i)).testBit b = c.testBit b) : σ (3 + i) = c := by
  refine mk_ext fun j => ?_
  by_cases hj : j < 4
  · exact h j hj
  · rw [tb_lt (n := 4) (hw.cd hi) (by omega), tb_lt (n := 4) hc (by omega)]
theorem cd_inj {σ : Nat → Nat} (hw : wf σ) {r q : Nat} (hr : r < σ 0) (hq : q < σ 0) (h : σ (3 + r) = σ (3 + q)) : r = q := hw.2.2.2.2.2.2.2.1 r q hr hq h
theorem bit_1 (r i : Nat) : (1 <<< r).testBit i = decide (r = i) := by rw [sh1, Nat.testBit_two_pow]
theorem pk_own {σ : Nat → Nat} (hw : wf σ) (hz : ∀ w, w < 8 → σ (100 + w) = 0) {r : Nat} (hr : r < σ 0) : pkM (wvM σ) σ (σ (3 + r)) = 1 <<< r := by
  refine mk_ext fun i => ?_
  rw [bit_1]
  by_cases hi : i < σ 0
  · by_cases e : r = i
    · subst e
      rw [decide_eq_true rfl]
      exact (pk_iff hi).mpr fun b hb => by rw [Bool.xor_self, hz _ (wOn_lt hb), Nat.zero_testBit]
    · rw [decide_eq_false e]
      refine Bool.eq_false_iff.mpr fun q => e ?_
      have h := (pk_iff hi).mp q
      refine (cd_inj hw hi hr (cd_ext hw hi (hw.cd hr) fun b hb => ?_)).symm
      have h1 := h b hb
      rw [hz _ (wOn_lt hb), Nat.zero_testBit] at h1
      exact bx_eq h1
  · rw [pk_hi hi]
    exact (decide_eq_false (by omega)).symm
theorem rwB_gen {σ : Nat → Nat} (hw : wf σ) (hz : ∀ w, w < 8 → σ (100 + w) = 0) {a b : Nat} (ha : a < nA σ) (hb : b < σ 1 + 1) : rwB (wvM σ) σ a b = (sbit σ a b ^^ (σ (100 + (8 + a % σ 2 * (σ 1 + 1) + b))).testBit (a / σ 2)) := by
  obtain ⟨h1, h2, h3⟩ := ad_div hw.2.2.2.2.1 ha
  have e := rb_own h1 h2 hb
  unfold rbB at e
  rw [and_sh1] at e
  have e2 : (rtM σ (8 + a % σ 2 * (σ 1 + 1) + b)).testBit (a / σ 2) = rtB σ (8 + a % σ 2 * (σ 1 + 1) + b) (a / σ 2) := by
    unfold rtM
    rw [mk_bit]
    simp [h1]
  rw [e2, h3] at e
  unfold rwB
  rw [pk_own hw hz h1, and_sh1, wv_bit h1, ← e]
  exact bx_swap _ _ _
theorem rw_right {σ : Nat → Nat} (hw : wf σ) (hz : ∀ w, w < nW σ → σ (100 + w) = 0) {a : Nat} (ha : a < nA σ) : rwM (wvM σ) σ a = mk (sbit σ a) (σ 1 + 1) := by
  have h8 := nW8 σ
  obtain ⟨h1, h2, h3⟩ := ad_div hw.2.2.2.2.1 ha
  refine mk_cong fun b hb => ?_
  rw [rwB_gen hw (fun w h => hz w (by omega)) ha hb, hz _ (sw_lt h2 hb), Nat.zero_testBit, Bool.xor_false]
theorem sbit_word {σ : Nat → Nat} (hw : wf σ) {a : Nat} (ha : a < nA σ) : mk (sbit σ a) (σ 1 + 1) &&& (1 <<< σ 1 - 1) = σ (19 + a) := by
  obtain ⟨h1, h2, h3⟩ := ad_div hw.2.2.2.2.1 ha
  have h := wordAt_eq hw ha
  rw [rb_mk h1 h2, h3] at h
  exact h
theorem rr_word {σ : Nat → Nat} (hw : wf σ) (hz : ∀ w, w < nW σ → σ (100 + w) = 0) {a : Nat} (ha : a < nA σ) : rrN σ a = σ (19 + a) := by
  unfold rrN
  rw [rw_right hw hz ha]
  exact sbit_word hw ha
theorem pop_word {σ : Nat → Nat} (hw : wf σ) {a : Nat} (ha : a < nA σ) : pop (σ (19 + a)) = ct (sbit σ a) (σ 1) := by
  have hB := hw.2.2.2.1
  unfold pop
  rw [show 16 = σ 1 + (16 - σ 1) by omega, ct_more _ _ (fun i hi => tb_lt (hw.2.2.2.2.2.2.2.2.1 a ha) hi)]
  exact ct_cong fun i hi => by unfold sbit; rw [if_pos hi]
theorem ct_sbit {σ : Nat → Nat} (hw : wf σ) {a : Nat} (ha : a < nA σ) : ct (sbit σ a) (σ 1 + 1) % 2 = 1 := by
  rw [ct_s, ← pop_word hw ha]
  unfold sbit
  rw [if_neg (Nat.lt_irrefl _)]
  rcases Nat.mod_two_eq_zero_or_one (pop (σ (19 + a))) with h | h
  · rw [h]
    show (pop (σ (19 + a)) + 1) % 2 = 1
    omega
  · rw [h]
    show (pop (σ (19 + a)) + 0) % 2 = 1
    omega
theorem pa_right {σ : Nat → Nat} (hw : wf σ) (hz : ∀ w, w < nW σ → σ (100 + w) = 0) {a : Nat} (ha : a < nA σ) : paB σ a = true := by
  have hB := hw.2.2.2.1
  unfold paB
  rw [rw_right hw hz ha, pop_mk (by omega), ct_sbit hw ha]
  simp
theorem cs_pair {σ : Nat → Nat} (hw : wf σ) {w : Nat} (h8 : w < 8) (h1 : w % 2 = 1) : csN σ w + csN σ (w - 1) = σ 0 := by
  have hR := hw.2.1
  have c1 : crN σ w = 0 := by unfold crN; rw [if_pos h8]
  have c2 : crN σ (w - 1) = 0 := by unfold crN; rw [if_pos (by omega)]
  unfold csN rtM
  rw [c1, c2, pop_mk hR, pop_mk hR]
  have h := ct_not (rtB σ w) (σ 0)
  have e : ct (rtB σ (w - 1)) (σ 0) = ct (fun i => !rtB σ w i) (σ 0) := ct_cong fun i _ => by
    rw [rtB_i h8, rtB_i (by omega)]
    unfold ihb
    rw [h1, show (w - 1) / 2 = w / 2 by omega, show (w - 1) % 2 = 0 by omega]
    cases (σ (3 + i)).testBit (w / 2) <;> rfl
  rw [e]
  omega
theorem cs_at {σ : Nat → Nat} (hw : wf σ) {w : Nat} (hl : w < nW σ) : csN σ w = if crN σ w = 1 then σ 0 - pop (onM σ w) + 1 else pop (onM σ w) := by
  have hR := hw.2.1
  by_cases hc : crN σ w = 1
  · rw [if_pos hc]
    unfold csN rtM onM
    have h := ct_not (onB σ w) (σ 0)
    have e : ct (rtB σ w) (σ 0) = ct (fun i => !onB σ w i) (σ 0) := ct_cong fun i _ => by unfold rtB; rw [hc]; simp
    rw [if_pos hl, pop_mk hR, pop_mk hR, hc, e]
    omega
  · rw [if_neg hc]
    unfold csN rtM onM
    have e : ct (rtB σ w) (σ 0) = ct (onB σ w) (σ 0) := ct_cong fun i _ => by unfold rtB; rw [beq_eq_false_iff_ne.mpr hc]; simp
    have hc2 := crN_le hw hl
    rw [if_pos hl, pop_mk hR, pop_mk hR, e]
    omega
