/-! ===== p30: facts for the walk of the law ===== -/
theorem tn_0 {b : Bool} (h : ¬ b.toNat = 1) : 0 = b.toNat := by
  cases b
  · rfl
  · exact absurd rfl h
theorem bq_nI {lo hi k : Nat} (h : k < 2 ^ 31) : btw lo hi (nI k) = decide (lo ≤ k ∧ k ≤ hi) := by
  unfold btw
  rw [nI_toInt h]
  congr 1
  refine propext ?_
  omega
theorem ok3_nI {x y z : Nat} (h1 : 2 ≤ x) (h2 : x ≤ 16) (h3 : 1 ≤ y) (h4 : y ≤ 10) (h5 : 1 ≤ z) (h6 : z ≤ 3) : ok3 (nI x) (nI y) (nI z) = true := by
  unfold ok3
  rw [bq_nI (by omega), bq_nI (by omega), bq_nI (by omega), decide_eq_true ⟨h1, h2⟩, decide_eq_true ⟨h3, h4⟩, decide_eq_true ⟨h5, h6⟩]
  rfl
/-- an inhibit wire ought to go through -/
theorem ob_i1 {σ : Nat → Nat} {w r : Nat} (h8 : w < 8) (h : ((σ (3 + r)).testBit (w / 2)).toNat = w % 2) : 1 = (onB σ w r).toNat := by
  unfold onB ihb
  rw [if_pos h8, ← h]
  cases (σ (3 + r)).testBit (w / 2) <;> rfl
theorem ob_i0 {σ : Nat → Nat} {w r : Nat} (h8 : w < 8) (h : ¬ ((σ (3 + r)).testBit (w / 2)).toNat = w % 2) : 0 = (onB σ w r).toNat := by
  have h2 := Nat.mod_lt w (show 0 < 2 by decide)
  unfold onB ihb
  rw [if_pos h8]
  cases hb : (σ (3 + r)).testBit (w / 2)
  · rw [hb, Bool.toNat_false] at h
    rw [show w % 2 = 1 by omega]
    rfl
  · rw [hb, Bool.toNat_true] at h
    rw [show w % 2 = 0 by omega]
    rfl
/-- a sense wire ought to go through, were it straight -/
theorem ob_s {σ : Nat → Nat} {w r : Nat} (h8 : 8 ≤ w) : onB σ w r = if swB σ w < σ 1 then (σ (19 + swA σ w r)).testBit (swB σ w) else pop (σ (19 + swA σ w r)) % 2 == 0 := by
  unfold onB tdB
  rw [if_neg (by omega)]
  rfl
theorem ob_b {σ : Nat → Nat} {w r : Nat} (h8 : 8 ≤ w) (hb : swB σ w < σ 1) : ((σ (19 + swA σ w r)).testBit (swB σ w)) = onB σ w r := by rw [ob_s h8, if_pos hb]
theorem ob_b1 {σ : Nat → Nat} {w r : Nat} (h8 : 8 ≤ w) (hb : swB σ w < σ 1) (h : ((σ (19 + swA σ w r)).testBit (swB σ w)).toNat = 1) : 1 = (onB σ w r).toNat := by rw [← ob_b h8 hb]; exact h.symm
theorem ob_b0 {σ : Nat → Nat} {w r : Nat} (h8 : 8 ≤ w) (hb : swB σ w < σ 1) (h : ¬ ((σ (19 + swA σ w r)).testBit (swB σ w)).toNat = 1) : 0 = (onB σ w r).toNat := by rw [← ob_b h8 hb]; exact tn_0 h
theorem ob_p1 {σ : Nat → Nat} {w r : Nat} (h8 : 8 ≤ w) (hb : σ 1 ≤ swB σ w) (h : pop (σ (19 + swA σ w r)) % 2 = 0) : 1 = (onB σ w r).toNat := by
  rw [ob_s h8, if_neg (by omega), h]
  rfl
theorem ob_p0 {σ : Nat → Nat} {w r : Nat} (h8 : 8 ≤ w) (hb : σ 1 ≤ swB σ w) (h : ¬ pop (σ (19 + swA σ w r)) % 2 = 0) : 0 = (onB σ w r).toNat := by
  rw [ob_s h8, if_neg (by omega), show pop (σ (19 + swA σ w r)) % 2 = 1 by omega]
  rfl
theorem rt_i {σ : Nat → Nat} {w r : Nat} (h8 : w < 8) : (onB σ w r).toNat = (rtB σ w r).toNat := by
  unfold rtB crN
  rw [if_pos h8]
  cases onB σ w r <;> rfl
theorem rt_str {σ : Nat → Nat} {w r : Nat} (h : zB (crN σ w == 1) = 0) : (onB σ w r).toNat = (rtB σ w r).toNat := by
  unfold rtB
  rw [zB_eq0 h, Bool.xor_false]
theorem rt_c1 {σ : Nat → Nat} {w r : Nat} (h : ¬ zB (crN σ w == 1) = 0) (h2 : (onB σ w r).toNat = 0) : 1 = (rtB σ w r).toNat := by
  unfold rtB
  rw [zB_ne0 h, Bool.xor_true]
  cases hb : onB σ w r
  · rfl
  · rw [hb] at h2; cases h2
theorem rt_c0 {σ : Nat → Nat} {w r : Nat} (h : ¬ zB (crN σ w == 1) = 0) (h2 : ¬ (onB σ w r).toNat = 0) : 0 = (rtB σ w r).toNat := by
  unfold rtB
  rw [zB_ne0 h, Bool.xor_true]
  cases hb : onB σ w r
  · rw [hb] at h2; exact absurd rfl h2
  · rfl
theorem tn_inj {a b : Bool} (h : a.toNat = b.toNat) : a = b := by cases a <;> cases b <;> first | rfl | cases h
/-- it goes through as it ought to: no wrong weave there -/
theorem wv_ok {σ : Nat → Nat} {w r : Nat} (hr : r < σ 0) (h : ((wvM σ w).testBit r).toNat = (rtB σ w r).toNat) : (σ (100 + w)).testBit r = false := by
  have h1 := tn_inj h
  rw [wv_bit hr] at h1
  cases hb : (σ (100 + w)).testBit r
  · rfl
  · rw [hb] at h1
    cases hc : rtB σ w r <;> rw [hc] at h1 <;> cases h1
theorem wv_bad {σ : Nat → Nat} {w r : Nat} (hr : r < σ 0) (h : ¬ ((wvM σ w).testBit r).toNat = (rtB σ w r).toNat) : (σ (100 + w)).testBit r = true := by
  cases hb : (σ (100 + w)).testBit r
  · refine absurd ?_ h
    rw [wv_bit hr, hb, Bool.xor_false]
  · rfl
theorem sp_two (σ : Nat → Nat) (w r : Nat) : ((spS σ w r (100 + w) ^^^ 1 <<< r).testBit r).toNat = 1 - ((σ (100 + w) ^^^ 1 <<< r).testBit r).toNat := by
  rw [sp_at, sp_bit (σ (100 + w) ^^^ 1 <<< r) r]
  cases (σ (100 + w) ^^^ 1 <<< r).testBit r <;> rfl
/-! states that agree but for wrong weaves -/
def agW (σ τ : Nat → Nat) : Prop := ∀ j, (j < 100 ∨ 141 ≤ j) → σ j = τ j
theorem agW.rf (σ : Nat → Nat) : agW σ σ := fun _ _ => rfl
theorem agW.W {σ τ : Nat → Nat} (h : agW σ τ) : nW σ = nW τ := by unfold nW; rw [h 1 (Or.inl (by omega)), h 2 (Or.inl (by omega))]
theorem agW.R {σ τ : Nat → Nat} (h : agW σ τ) : σ 0 = τ 0 := h 0 (Or.inl (by omega))
theorem agW.sp {σ τ : Nat → Nat} (h : agW σ τ) {w r : Nat} (hw : w < 41) : agW (spS σ w r) τ := fun j hj => by
  rw [sp_ne (by omega)]
  exact h j hj
def clW (σ : Nat → Nat) (k : Nat) : Prop := ∀ v, v < k → σ (100 + v) = 0
theorem clW.sp {σ : Nat → Nat} {k r : Nat} (h : clW σ k) : clW (spS σ k r) k := fun v hv => by
  rw [sp_ne (by omega)]
  exact h v hv
def rwW (σ : Nat → Nat) (k i : Nat) : Prop := ∀ q, q < i → (σ (100 + k)).testBit q = false
theorem rwW.z (σ : Nat → Nat) (k : Nat) : rwW σ k 0 := fun q hq => absurd hq (Nat.not_lt_zero q)
theorem rwW.s {σ : Nat → Nat} {k i : Nat} (h : rwW σ k i) (hb : (σ (100 + k)).testBit i = false) : rwW σ k (i + 1) := fun q hq => by
  by_cases e : q = i
  · subst e; exact hb
  · exact h q (by omega)
theorem rwW.sp {σ : Nat → Nat} {k i : Nat} (h : rwW σ k i) (hb : (σ (100 + k)).testBit i = true) : rwW (spS σ k i) k (i + 1) := fun q hq => by
  rw [sp_at]
  by_cases e : q = i
  · subst e
    rw [sp_bit, hb]
    rfl
  · rw [sp_oth _ e]
    exact h q (by omega)
theorem clW.s {σ : Nat → Nat} (hw : wf σ) {k : Nat} (hk : k < nW σ) (h : clW σ k) (hr : rwW σ k (σ 0)) : clW σ (k + 1) := fun v hv => by
  by_cases e : v = k
  · subst e
    refine mk_ext fun i => ?_
    rw [Nat.zero_testBit]
    by_cases hi : i < σ 0
    · exact hr i hi
    · exact tb_lt (hw.2.2.2.2.2.2.2.2.2.2.1 v hk) (by omega)
  · exact h v (by omega)
/-- without wrong weaves and patches nothing is read wrongly -/
theorem ms_none {σ : Nat → Nat} (hw : wf σ) (hz : ∀ v, v < nW σ → σ (100 + v) = 0) (hp : ∀ a, a < nA σ → σ (141 + a) = 0) : ct (iwB σ 0) (nA σ) = 0 := ct_none fun a ha => by
  show msB σ a = false
  unfold msB rdN
  rw [if_pos (hp a ha), rr_word hw hz ha, bne_self_eq_false]
theorem wf_0 : wf σ0 := wf_bg (by decide) (by decide) (by decide) (by decide) (by decide) (by decide)
theorem pc_new : pcN σ0 = 0 := pc_bg (by decide)
theorem wr_0 : ct (iwB σ0 0) (nA σ0) = 0 := ms_none wf_0 (fun v _ => bg_hi (by decide) (by omega)) (fun a _ => bg_hi (by decide) (by omega))
theorem nW_10 {σ : Nat → Nat} (hw : wf σ) : 10 ≤ nW σ := by
  have h := Nat.mul_le_mul hw.2.2.2.2.1 (show 2 ≤ σ 1 + 1 by have := hw.2.2.1; omega)
  unfold nW
  omega
theorem nA_pos {σ : Nat → Nat} (hw : wf σ) : 0 < nA σ := Nat.mul_pos (by have := hw.1; omega) hw.2.2.2.2.1
/-- economized: no sense wire costs less the other way round -/
def eco (σ : Nat → Nat) : Prop := ∀ w, 8 ≤ w → w < nW σ → csN σ w ≤ csN (flS σ w) w
theorem eco_ec {σ : Nat → Nat} (hw : wf σ) : eco (ecS σ) := fun _ h8 hl => ec_flip hw h8 hl
theorem lwI.ec {σ : Nat → Nat} {o n : Nat} (h : lwI σ o n) : lwI (ecS σ) (kpO o n) (kpN n) := ⟨wf_ec h.1, by rw [pc_ec h.1]; exact h.2.1, kpO_lt h.2.2.1, kpN_le h.2.2.2⟩
theorem lwI.kp {σ : Nat → Nat} {o n : Nat} (h : lwI σ o n) : lwI σ (kpO o n) (kpN n) := ⟨h.1, h.2.1, kpO_lt h.2.2.1, kpN_le h.2.2.2⟩
theorem lwI.back {σ : Nat → Nat} {o n : Nat} (h : lwI σ o n) : lwI σ (kpO o n) (kpN n - 1) := ⟨h.1, h.2.1, kpO_lt h.2.2.1, by have := kpN_le h.2.2.2; omega⟩
theorem lwI.sp {σ : Nat → Nat} {o n w r : Nat} (h : lwI σ o n) (hl : w < nW σ) (hr : r < σ 0) : lwI (spS σ w r) (kpO o n) (kpN n) := ⟨sp_wf h.1 hl hr, by rw [sp_pc h.1 hl]; exact h.2.1, kpO_lt h.2.2.1, kpN_le h.2.2.2⟩
theorem lwI.bg {R B S o n : Nat} (h1 : 2 ≤ R) (h2 : R ≤ 16) (h3 : 1 ≤ B) (h4 : B ≤ 10) (h5 : 1 ≤ S) (h6 : S ≤ 3) (ho : o < 5) (hn : n ≤ 5) : lwI (bgS R B S) (kpO o n) (kpN n) := ⟨wf_bg h1 h2 h3 h4 h5 h6, by rw [pc_bg h2]; omega, kpO_lt ho, kpN_le hn⟩
theorem lwI.un {σ : Nat → Nat} {o n : Nat} (h : lwI σ o n) : lwI σ o (n - 1) := ⟨h.1, h.2.1, h.2.2.1, by have := h.2.2.2; omega⟩
theorem ec_r {σ : Nat → Nat} {r : Nat} (h : r < σ 0) : r < ecS σ 0 := by rw [ec_0]; exact h
theorem ec_w {σ : Nat → Nat} {w : Nat} (h : w < nW σ) : w < nW (ecS σ) := by rw [nW_ec]; exact h
