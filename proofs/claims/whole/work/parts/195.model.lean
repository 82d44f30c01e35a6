/-! ===== the model: a row of six states ===== -/
def rwF (ρ : Nat → Nat → Nat) : Nat → Int32 := fun k => if k % 189 < 141 then nI (ρ (k / 189) (k % 189)) else nI (ρ (k / 189) (k % 189)) - 1
theorem rw_lo {ρ : Nat → Nat → Nat} {k : Nat} (h : k < 141) : rwF ρ k = nI (ρ 0 k) := by
  unfold rwF
  rw [if_pos (by omega), Nat.div_eq_of_lt (by omega), Nat.mod_eq_of_lt (by omega)]
theorem rw_pt {ρ : Nat → Nat → Nat} {a : Nat} (h : a < 48) : rwF ρ (141 + a) = ptF (ρ 0) a := by
  unfold rwF ptF
  rw [if_neg (by omega), Nat.div_eq_of_lt (by omega), Nat.mod_eq_of_lt (by omega)]
theorem btw_inB {x : Int32} {n : Nat} (h : 1 ≤ n) : btw 0 (n - 1) x = inB x n := by
  unfold btw inB
  congr 1
  refine propext ?_
  omega
theorem btw_nI {lo hi k : Nat} (h : k < 2 ^ 31) : btw lo hi (nI k) = decide (lo ≤ k ∧ k ≤ hi) := by
  unfold btw
  rw [nI_toInt h]
  congr 1
  refine propext ?_
  omega
theorem td_bit {σ : Nat → Nat} {w r : Nat} : tdB σ w r = sbit σ (σ 2 * r + (w - 8) / (σ 1 + 1)) ((w - 8) % (σ 1 + 1)) := rfl
theorem sb_lo {σ : Nat → Nat} {a b : Nat} (h : b < σ 1) : (σ (19 + a)).testBit b = sbit σ a b := by unfold sbit; rw [if_pos h]
theorem sb_hi {σ : Nat → Nat} {a b : Nat} (h : σ 1 ≤ b) : 1 - pop (σ (19 + a)) % 2 = (sbit σ a b).toNat := by
  unfold sbit
  rw [if_neg (by omega)]
  rcases Nat.mod_two_eq_zero_or_one (pop (σ (19 + a))) with h | h <;> rw [h] <;> rfl
theorem cr_ix {σ : Nat → Nat} {w : Nat} (h : 8 ≤ w) : σ (67 + w - 8) = crN σ w := by
  unfold crN
  rw [if_neg (by omega), show 67 + w - 8 = 67 + (w - 8) by omega]
theorem on_td {σ : Nat → Nat} {w : Nat} (h : 8 ≤ w) (r : Nat) : onB σ w r = tdB σ w r := by unfold onB; rw [if_neg (by omega)]
theorem rtm_1 {σ : Nat → Nat} {w : Nat} (h : 8 ≤ w) (hc : crN σ w = 1) : nw_wo (1 <<< σ 0 - 1) (mk (tdB σ w) (σ 0)) = rtM σ w := by
  rw [mk_wo_full]
  refine mk_cong fun i _ => ?_
  unfold rtB
  rw [on_td h, hc]
  simp
theorem rtm_0 {σ : Nat → Nat} {w : Nat} (h : 8 ≤ w) (hc : ¬ crN σ w = 1) : mk (tdB σ w) (σ 0) = rtM σ w := by
  refine mk_cong fun i _ => ?_
  unfold rtB
  rw [on_td h, beq_eq_false_iff_ne.mpr hc]
  simp
theorem rtm_i {σ : Nat → Nat} {w : Nat} (h : w < 8) : mk (ihb σ w) (σ 0) = rtM σ w := by
  refine mk_cong fun i _ => ?_
  unfold rtB onB crN
  rw [if_pos h, if_pos h]
  simp
theorem ih_1 {σ : Nat → Nat} {w r : Nat} (h : ((σ (3 + r)).testBit (w / 2)).toNat = w % 2) : ihb σ w r = true := by
  unfold ihb
  cases hb : (σ (3 + r)).testBit (w / 2)
  · rw [hb] at h
    rw [← h]; rfl
  · rw [hb] at h
    rw [← h]; rfl
theorem ih_0 {σ : Nat → Nat} {w r : Nat} (h : ¬ ((σ (3 + r)).testBit (w / 2)).toNat = w % 2) : ihb σ w r = false := by
  unfold ihb
  have h2 := Nat.mod_lt w (show 0 < 2 by decide)
  cases hb : (σ (3 + r)).testBit (w / 2)
  · rw [hb] at h
    have h3 : w % 2 = 1 := by simp only [Bool.toNat_false] at h; omega
    rw [h3]; rfl
  · rw [hb] at h
    have h3 : w % 2 = 0 := by simp only [Bool.toNat_true] at h; omega
    rw [h3]; rfl
/-- woven, below n -/
def wvG (σ : Nat → Nat) (g : Nat → Nat) (n : Nat) : Nat → Nat := fun w => if w < n then wvM σ w else g w
theorem wv_0 (σ g : Nat → Nat) : nF g = nF (wvG σ g 0) := by
  funext j
  unfold nF wvG
  rw [if_neg (by omega)]
theorem wv_s (σ g : Nat → Nat) (i : Nat) : upd (nF (wvG σ g i)) i (nI (wvM σ i)) = nF (wvG σ g (i + 1)) := by
  rw [upd_nF]
  congr 1
  funext j
  by_cases e : j = i
  · subst e
    rw [up_s]
    unfold wvG
    rw [if_pos (by omega)]
  · rw [up_ne e]
    unfold wvG
    by_cases h : j < i
    · rw [if_pos h, if_pos (by omega)]
    · rw [if_neg h, if_neg (by omega)]
theorem wvG_in {σ g : Nat → Nat} {n w : Nat} (h : w < n) : wvG σ g n w = wvM σ w := by unfold wvG; rw [if_pos h]
theorem rwM_congr {σ wv wv' : Nat → Nat} (hw : wf σ) {a : Nat} (ha : a < nA σ) (h : ∀ w, w < nW σ → wv w = wv' w) : rwM wv σ a = rwM wv' σ a := by
  obtain ⟨hd1, hd2, hd3⟩ := ad_div hw.2.2.2.2.1 ha
  refine mk_cong fun b hb => ?_
  unfold rwB
  rw [h _ (sw_lt hd2 hb), pkM_cong (wv := wv) (wv' := wv') (fun w h8 => h w (by unfold nW; omega))]
theorem pkA_lt (wv : Nat → Nat) {R : Nat} (hR : R ≤ 16) (c : Nat) : ∀ n, pkA wv R c n < 65536
  | 0 => by
    rw [pkA, sh1]
    have := p2_16 hR
    omega
  | n + 1 => by
    rw [pkA]
    exact Nat.lt_of_le_of_lt (nw_wo_le _ _) (pkA_lt wv hR c n)
