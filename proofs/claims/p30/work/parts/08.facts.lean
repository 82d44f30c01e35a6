/-! ===== facts of the state, for the walks ===== -/
theorem sh1e (n : Nat) : 1 <<< n - 1 + 1 = 2 ^ n := by
  rw [sh1]
  have := Nat.two_pow_pos n
  omega
theorem crN_le {σ : Nat → Nat} (hw : wf σ) {w : Nat} (h : w < nW σ) : crN σ w ≤ 1 := by
  unfold crN
  split
  · omega
  · rename_i h8
    unfold nW at h
    exact hw.2.2.2.2.2.2.2.2.2.1 (w - 8) (by omega)
theorem mk_lt16 {f : Nat → Bool} {n : Nat} (h : n ≤ 16) : mk f n < 65536 := Nat.lt_of_lt_of_le (mk_lt f n) (p2_16 h)
theorem onM_lt {σ : Nat → Nat} (hw : wf σ) (w : Nat) : onM σ w < 65536 := by
  unfold onM
  split
  · exact mk_lt16 hw.2.1
  · omega
theorem rtM_lt {σ : Nat → Nat} (hw : wf σ) (w : Nat) : rtM σ w < 65536 := mk_lt16 hw.2.1
theorem wvM_lt {σ : Nat → Nat} (hw : wf σ) {w : Nat} (h : w < nW σ) : wvM σ w < 65536 := Nat.xor_lt_two_pow (n := 16) (rtM_lt hw w) (hw.sp h)
theorem mk_lt11 {f : Nat → Bool} {n : Nat} (h : n ≤ 11) : mk f n < 2048 := Nat.lt_of_lt_of_le (mk_lt f n) (show 2 ^ n ≤ 2 ^ 11 from Nat.pow_le_pow_right (by decide) h)
theorem rwM_lt {σ : Nat → Nat} (hw : wf σ) (wv : Nat → Nat) (a : Nat) : rwM wv σ a < 2048 := mk_lt11 (by have := hw.2.2.2.1; omega)
theorem rbM_lt {σ : Nat → Nat} (hw : wf σ) (t pk : Nat) : rbM σ t pk < 2048 := mk_lt11 (by have := hw.2.2.2.1; omega)
theorem rrN_lt {σ : Nat → Nat} (hw : wf σ) (a : Nat) : rrN σ a < 2048 := Nat.lt_of_le_of_lt Nat.and_le_left (rwM_lt hw _ a)
theorem rdN_lt {σ : Nat → Nat} (hw : wf σ) {a : Nat} (ha : a < nA σ) : rdN σ a < 2048 := by
  unfold rdN
  split
  · exact rrN_lt hw a
  · have := hw.pt ha
    omega
theorem onM_bit {σ : Nat → Nat} {w r : Nat} (h : w < nW σ) (hr : r < σ 0) : (onM σ w).testBit r = onB σ w r := by
  unfold onM
  rw [if_pos h, mk_bit]
  simp [hr]
theorem codeOf_mk {σ : Nat → Nat} (hw : wf σ) {k i : Nat} (hk : k < σ 0) (hi : i = 4) : mk (fun b => (onM σ (2 * b + 1)).testBit k) i = σ (3 + k) := by
  subst hi
  rw [← mk_of (x := σ (3 + k)) (n := 4) (hw.cd hk)]
  refine mk_cong fun b hb => ?_
  have h8 : 2 * b + 1 < 8 := by omega
  rw [onM_bit (by unfold nW; omega) hk]
  unfold onB ihb
  rw [if_pos h8, show (2 * b + 1) / 2 = b by omega, show (2 * b + 1) % 2 = 1 by omega]
  simp
theorem rt_1 {σ : Nat → Nat} {w : Nat} (h : w < nW σ) (hc : crN σ w = 1) : onM σ w ^^^ (1 <<< σ 0 - 1) = rtM σ w := by
  unfold onM rtM
  rw [if_pos h, mk_xor_full]
  refine mk_cong fun i _ => ?_
  unfold rtB
  rw [hc]
  simp
theorem rt_0 {σ : Nat → Nat} {w : Nat} (h : w < nW σ) (hc : ¬ crN σ w = 1) : onM σ w = rtM σ w := by
  unfold onM rtM
  rw [if_pos h]
  refine mk_cong fun i _ => ?_
  unfold rtB
  rw [beq_eq_false_iff_ne.mpr hc]
  simp
theorem wv_inh {σ : Nat → Nat} {w : Nat} (h : w < 8) : onM σ w ^^^ σ (100 + w) = wvM σ w := by
  unfold wvM
  rw [rt_0 (by unfold nW; omega) (by unfold crN; rw [if_pos h]; omega)]
theorem x_cr {b : Bool} {c : Nat} (h : c ≤ 1) : b.toNat ^^^ c = (b ^^ (c == 1)).toNat := by
  rcases (show c = 0 ∨ c = 1 by omega) with rfl | rfl <;> cases b <;> rfl
theorem and_sh1 (x r : Nat) : (x &&& 1 <<< r != 0) = x.testBit r := by
  rw [sh1]
  cases h : x.testBit r
  · rw [(show x &&& 2 ^ r = 0 from ?_)]
    · rfl
    · refine mk_ext fun i => ?_
      rw [Nat.testBit_and, Nat.testBit_two_pow, Nat.zero_testBit]
      by_cases e : r = i
      · subst e; rw [h]; rfl
      · simp [e]
  · refine bne_iff_ne.mpr fun q => ?_
    have h1 : (x &&& 2 ^ r).testBit r = true := by rw [Nat.testBit_and, h, Nat.testBit_two_pow]; simp
    rw [q, Nat.zero_testBit] at h1
    exact absurd h1 (by decide)
theorem rb_own {σ : Nat → Nat} {r t b : Nat} (hr : r < σ 0) (ht : t < σ 2) (hb : b < σ 1 + 1) : rbB σ t (1 <<< r) b = sbit σ (σ 2 * r + t) b := by
  unfold rbB
  have hlt := sw_lt ht hb
  rw [and_sh1]
  have e : (rtM σ (8 + t * (σ 1 + 1) + b)).testBit r = rtB σ (8 + t * (σ 1 + 1) + b) r := by
    unfold rtM
    rw [mk_bit]
    simp [hr]
  rw [e]
  unfold rtB onB tdB
  have e2 : ¬ 8 + t * (σ 1 + 1) + b < 8 := by omega
  have e3 : 8 + t * (σ 1 + 1) + b - 8 = b + t * (σ 1 + 1) := by omega
  rw [if_neg e2, e3, Nat.add_mul_div_right _ _ (by omega), Nat.add_mul_mod_self_right, Nat.div_eq_of_lt hb, Nat.mod_eq_of_lt hb, Nat.zero_add, Bool.xor_assoc, Bool.xor_self, Bool.xor_false]
theorem rb_mk {σ : Nat → Nat} {r t : Nat} (hr : r < σ 0) (ht : t < σ 2) : rbM σ t (1 <<< r) = mk (sbit σ (σ 2 * r + t)) (σ 1 + 1) := mk_cong fun b hb => rb_own hr ht hb
theorem ad_div {σ : Nat → Nat} {a : Nat} (hS : 1 ≤ σ 2) (ha : a < nA σ) : a / σ 2 < σ 0 ∧ a % σ 2 < σ 2 ∧ σ 2 * (a / σ 2) + a % σ 2 = a := by
  refine ⟨?_, Nat.mod_lt _ hS, Nat.div_add_mod a (σ 2)⟩
  exact Nat.div_lt_of_lt_mul (by unfold nA at ha; rw [Nat.mul_comm]; exact ha)
theorem wordAt_eq {σ : Nat → Nat} (hw : wf σ) {a : Nat} (ha : a < nA σ) : rbM σ (a % σ 2) (1 <<< (a / σ 2)) &&& (1 <<< σ 1 - 1) = σ (19 + a) := by
  obtain ⟨h1, h2, h3⟩ := ad_div hw.2.2.2.2.1 ha
  rw [rb_mk h1 h2, h3, and_full]
  have hwd := hw.2.2.2.2.2.2.2.2.1 a ha
  refine mk_ext fun i => ?_
  rw [Nat.testBit_mod_two_pow, mk_bit]
  by_cases hi : i < σ 1
  · unfold sbit
    rw [if_pos hi]
    simp [hi, show i < σ 1 + 1 by omega]
  · rw [tb_lt hwd (by omega)]
    simp [hi]
theorem ptF_m1 {σ : Nat → Nat} {a : Nat} (h : σ (141 + a) ≤ 1024) : ptF σ a = -1 ↔ σ (141 + a) = 0 := by
  unfold ptF
  constructor
  · intro q
    have h1 : nI (σ (141 + a)) = nI 0 := by
      have h2 : nI (σ (141 + a)) - 1 + 1 = -1 + 1 := by rw [q]
      rw [Int32.sub_add_cancel] at h2
      exact h2
    exact (nI_eq (by omega) (by decide)).mp h1
  · intro q
    rw [q]
    rfl
theorem ptF_v {σ : Nat → Nat} {a : Nat} (h : ¬ σ (141 + a) = 0) : ptF σ a = nI (σ (141 + a) - 1) := by
  unfold ptF
  exact pk_sub (a := σ (141 + a)) (b := 1) (by omega)
theorem sm_s (f : Nat → Nat) (n : Nat) : sm f (n + 1) = sm f n + f n := rfl
theorem sm_cr8 (σ : Nat → Nat) : sm (crN σ) 8 = 0 := by
  have h : ∀ n, n ≤ 8 → sm (crN σ) n = 0 := by
    intro n
    induction n with
    | zero => intro _; rfl
    | succ n ih =>
      intro hn
      rw [sm_s, ih (by omega)]
      unfold crN
      rw [if_pos (by omega)]
  exact h 8 (Nat.le_refl 8)
theorem nw_ush {x k : Nat} (hx : x < 2 ^ 32) (hk : k < 32) : ((nI x).toUInt32 >>> ((nI k).toUInt32 &&& Int32.toUInt32 31)).toInt32 = nI (x >>> k) := by
  have h : ∀ n, n < 32 → (((nI n).toUInt32 &&& Int32.toUInt32 31).toBitVec % 32).toNat = n := by decide +kernel
  rw [pk_ushrN hx _ k (h k hk), Nat.shiftRight_eq_div_pow]
theorem lv_repl {ls : Array Slot} {n i : Nat} {l : List (Nat × Value)} (l' : List (Nat × Value)) (k : Nat) {v v' : Value} (hk : l[k]? = some (i, v)) (hv : v = v') (hl : l.set k (i, v') = l') (h : lv_has ls n l) : lv_has ls n l' := by
  subst hv
  have hlt : k < l.length := (List.getElem?_eq_some_iff.mp hk).1
  have e : l.set k (i, v) = l := by
    have h1 := (List.getElem?_eq_some_iff.mp hk).2
    rw [← h1]
    exact List.set_getElem_self hlt
  rw [e] at hl
  rw [← hl]
  exact h
