/-! ===== the answers, as functions of the state ===== -/
def cl (x : Int32) : Nat := x.toNatClampNeg
theorem cl_nI {k : Nat} (h : k < 2 ^ 31) : cl (nI k) = k := nI_clamp h
theorem inB_cl {x : Int32} {n : Nat} (hn : n < 2 ^ 31) (h : inB x n = true) : cl x < n ∧ x = nI (cl x) := by
  obtain ⟨k, hk, e⟩ := inB_of hn h
  have h1 : cl x = k := by rw [e]; exact nI_clamp (by omega)
  exact ⟨by omega, by rw [h1]; exact e⟩
theorem inB_lt {x : Int32} {n : Nat} (hn : n < 2 ^ 31) (h0 : ¬ x < 0) (h1 : x < nI n) : inB x n = true := by
  refine inB_in hn h0 fun q => ?_
  have h2 := Int32.lt_iff_toInt_lt.mp h1
  have h3 := Int32.le_iff_toInt_le.mp q
  omega
theorem inB_nlt {x : Int32} {n : Nat} (hn : n < 2 ^ 31) (h1 : ¬ x < nI n) : inB x n = false := by
  refine inB_ge hn (Int32.not_lt.mp h1)
def btw (lo hi : Nat) (x : Int32) : Bool := decide ((lo : Int) ≤ x.toInt ∧ x.toInt ≤ (hi : Int))
theorem btw_lo {lo hi : Nat} {x : Int32} (hl : lo < 2 ^ 31) (h : x < nI lo) : btw lo hi x = false := by
  have h1 := Int32.lt_iff_toInt_lt.mp h
  rw [nI_toInt hl] at h1
  unfold btw
  simp; omega
theorem btw_hi {lo hi : Nat} {x : Int32} (hl : hi < 2 ^ 31) (h : nI hi < x) : btw lo hi x = false := by
  have h1 := Int32.lt_iff_toInt_lt.mp h
  rw [nI_toInt hl] at h1
  unfold btw
  simp; omega
theorem btw_t {lo hi : Nat} {x : Int32} (hl : lo < 2 ^ 31) (hh : hi < 2 ^ 31) (h : ¬ x < nI lo) (h2 : ¬ nI hi < x) : btw lo hi x = true := by
  have h1 : ¬ x.toInt < (lo : Int) := fun q => h (Int32.lt_iff_toInt_lt.mpr (by rw [nI_toInt hl]; exact q))
  have h3 : ¬ (hi : Int) < x.toInt := fun q => h2 (Int32.lt_iff_toInt_lt.mpr (by rw [nI_toInt hh]; exact q))
  unfold btw
  simp; omega
theorem btw_cl {lo hi : Nat} {x : Int32} (hh : hi < 2 ^ 31) (h : btw lo hi x = true) : lo ≤ cl x ∧ cl x ≤ hi ∧ x = nI (cl x) := by
  have h1 := of_decide_eq_true h
  have h2 : inB x (hi + 1) = true := by unfold inB; simp; omega
  by_cases e : hi + 1 < 2 ^ 31
  · obtain ⟨q1, q2⟩ := inB_cl e h2
    have q3 : x.toInt = (cl x : Int) := by
      have := nI_toInt (n := cl x) (by omega)
      rw [← q2] at this
      exact this
    exact ⟨by omega, by omega, q2⟩
  · have q4 : ¬ x < 0 := fun q => by have := i_neg.mp q; omega
    obtain ⟨j, hj, e2⟩ := nI_of q4
    have q5 : cl x = j := by rw [e2]; exact nI_clamp hj
    have q6 : x.toInt = (j : Int) := by rw [e2]; exact nI_toInt hj
    exact ⟨by omega, by omega, by rw [q5]; exact e2⟩
def ok3 (x y z : Int32) : Bool := btw 2 16 x && btw 1 10 y && btw 1 3 z
def pcN (σ : Nat → Nat) : Nat := ct (fun a => σ (141 + a) != 0) (nA σ)
def aCount (σ : Nat → Nat) (x : Int32) : Int32 := cond (inB x 9) (nI (nuN σ (cl x))) (-3)
def aCode (σ : Nat → Nat) (x : Int32) : Int32 := cond (inB x (σ 0)) (nI (σ (3 + cl x))) (-2)
def aWord (σ : Nat → Nat) (x : Int32) : Int32 := cond (inB x (nA σ)) (nI (σ (19 + cl x))) (-2)
def aThrough (σ : Nat → Nat) (x y : Int32) : Int32 := cond (inB x (nW σ) && inB y (σ 0)) (nI ((wvM σ (cl x)).testBit (cl y)).toNat) (-2)
def aCost (σ : Nat → Nat) (x : Int32) : Int32 := cond (inB x (nW σ)) (nI (csN σ (cl x))) (-2)
def aPicked (σ : Nat → Nat) (x : Int32) : Int32 := cond (inB x 16) (nI (pkM (wvM σ) σ (cl x))) (-3)
def aRead (σ : Nat → Nat) (x : Int32) : Int32 := cond (inB x (nA σ)) (nI (rdN σ (cl x))) (-2)
def aRaw (σ : Nat → Nat) (x : Int32) : Int32 := cond (inB x (nA σ)) (nI (rrN σ (cl x))) (-2)
def aParity (σ : Nat → Nat) (x : Int32) : Int32 := cond (inB x (nA σ)) (zB (paB σ (cl x))) (-2)
def aWrong (σ : Nat → Nat) (x : Int32) : Int32 := cond (inB x 4) (nI (ct (iwB σ (cl x)) (nA σ))) (-3)
def aExplains (σ : Nat → Nat) (x : Int32) : Int32 := cond (decide (0 ≤ x.toInt)) (exF σ (cl x)) (-3)
def aPatchOf (σ : Nat → Nat) (x : Int32) : Int32 := cond (inB x (nA σ)) (ptF σ (cl x)) (-2)
def okC (σ : Nat → Nat) (x y : Int32) : Bool := rcF σ (cl y) == -1 || rcF σ (cl y) == x
def aSetCode (σ : Nat → Nat) (x y : Int32) : Int32 := cond (inB x (σ 0)) (cond (inB y 16) (cond (okC σ x y) (nI (σ (3 + cl x))) (-4)) (-3)) (-2)
def aWeave (σ : Nat → Nat) (x y : Int32) : Int32 := cond (inB x (nA σ)) (cond (inB y (2 ^ σ 1)) (nI (σ (19 + cl x))) (-3)) (-2)
def aCross (σ : Nat → Nat) (x : Int32) : Int32 := cond (inB x (nW σ)) (cond (inB x 8) (-4) (nI (1 - crN σ (cl x)))) (-2)
def aSpoil (σ : Nat → Nat) (x y : Int32) : Int32 := cond (inB x (nW σ) && inB y (σ 0)) (nI ((σ (100 + cl x) ^^^ 1 <<< cl y).testBit (cl y)).toNat) (-2)
def okP (σ : Nat → Nat) (x : Int32) : Bool := σ (141 + cl x) != 0 || decide (pcN σ < 4)
def ptS (σ : Nat → Nat) (x : Int32) (v : Nat) : Nat → Nat := va_up σ (141 + cl x) v
def aPatch (σ : Nat → Nat) (x y : Int32) : Int32 := cond (inB x (nA σ)) (cond (inB y (2 ^ σ 1)) (cond (okP σ x) (nI (pcN (ptS σ x (cl y + 1)))) (-5)) (-3)) (-2)
def aUnpatch (σ : Nat → Nat) (x : Int32) : Int32 := cond (inB x (nA σ)) (cond (σ (141 + cl x) != 0) (nI (pcN (ptS σ x 0))) (-4)) (-2)
def paS (σ : Nat → Nat) : Nat → Nat := (adP (mdS σ (nA σ)) (nA (mdS σ (nA σ)))).1
def aPatchAll (σ : Nat → Nat) : Int32 := nI (ct (iwB (paS σ) 0) (nA (paS σ)))
def ldS (σ : Nat → Nat) (g : Nat → Nat) : Nat → Nat → Nat
  | 0 => σ
  | n + 1 => va_up (ldS σ g n) (19 + n) (g n)
theorem wf_code {σ : Nat → Nat} (hw : wf σ) {r c : Nat} (hr : r < σ 0) (hc : c < 16) (hn : ∀ q, q < σ 0 → ¬ q = r → ¬ σ (3 + q) = c) : wf (va_up σ (3 + r) c) := by
  have hR := hw.2.1
  obtain ⟨h1, h2, h3, h4, h5, h6, h7, h8, h9, h10, h11, h12⟩ := hw
  have e0 : va_up σ (3 + r) c 0 = σ 0 := up_ne (by omega)
  have e1 : va_up σ (3 + r) c 1 = σ 1 := up_ne (by omega)
  have e2 : va_up σ (3 + r) c 2 = σ 2 := up_ne (by omega)
  have eA : nA (va_up σ (3 + r) c) = nA σ := by unfold nA; rw [e0, e2]
  have eW : nW (va_up σ (3 + r) c) = nW σ := by unfold nW; rw [e1, e2]
  unfold wf
  rw [eA, eW, e0, e1, e2]
  refine ⟨h1, h2, h3, h4, h5, h6, fun q hq => ?_, fun q z hq hz e => ?_, fun a ha => by rw [up_ne (by omega)]; exact h9 a ha, fun k hk => by rw [up_ne (by omega)]; exact h10 k hk, fun w hw => by rw [up_ne (by omega)]; exact h11 w hw, fun a ha => by rw [up_ne (by omega)]; exact h12 a ha⟩
  · by_cases e : q = r
    · subst e; rw [up_s]; exact hc
    · rw [up_ne (by omega)]; exact h7 q hq
  · by_cases e3 : q = r
    · subst e3
      by_cases e4 : z = q
      · exact e4.symm
      · rw [up_s, up_ne (by omega)] at e
        exact absurd e.symm (hn z hz e4)
    · by_cases e4 : z = r
      · subst e4
        rw [up_s, up_ne (by omega)] at e
        exact absurd e (hn q hq e3)
      · rw [up_ne (by omega), up_ne (by omega)] at e
        exact h8 q z hq hz e
theorem wf_word {σ : Nat → Nat} (hw : wf σ) {ad wd : Nat} (ha : ad < nA σ) (hd : wd < 2 ^ σ 1) : wf (va_up σ (19 + ad) wd) := by
  have hR := hw.2.1
  have hA := hw.a48
  obtain ⟨h1, h2, h3, h4, h5, h6, h7, h8, h9, h10, h11, h12⟩ := hw
  have e0 : va_up σ (19 + ad) wd 0 = σ 0 := up_ne (by omega)
  have e1 : va_up σ (19 + ad) wd 1 = σ 1 := up_ne (by omega)
  have e2 : va_up σ (19 + ad) wd 2 = σ 2 := up_ne (by omega)
  have eA : nA (va_up σ (19 + ad) wd) = nA σ := by unfold nA; rw [e0, e2]
  have eW : nW (va_up σ (19 + ad) wd) = nW σ := by unfold nW; rw [e1, e2]
  unfold wf
  rw [eA, eW, e0, e1, e2]
  refine ⟨h1, h2, h3, h4, h5, h6, fun q hq => by rw [up_ne (by omega)]; exact h7 q hq, fun q z hq hz e => h8 q z hq hz (by rw [up_ne (by omega), up_ne (by omega)] at e; exact e), fun a ha => ?_, fun k hk => by rw [up_ne (by omega)]; exact h10 k hk, fun w hw => by rw [up_ne (by omega)]; exact h11 w hw, fun a ha => by rw [up_ne (by omega)]; exact h12 a ha⟩
  by_cases e : a = ad
  · subst e; rw [up_s]; exact hd
  · rw [up_ne (by omega)]; exact h9 a ha
theorem wf_cr {σ : Nat → Nat} (hw : wf σ) {k x : Nat} (hk : k < σ 2 * (σ 1 + 1)) (hx : x ≤ 1) : wf (va_up σ (67 + k) x) := by
  have hR := hw.2.1
  have hA := hw.a48
  have h33 := hw.a33
  obtain ⟨h1, h2, h3, h4, h5, h6, h7, h8, h9, h10, h11, h12⟩ := hw
  have e0 : va_up σ (67 + k) x 0 = σ 0 := up_ne (by omega)
  have e1 : va_up σ (67 + k) x 1 = σ 1 := up_ne (by omega)
  have e2 : va_up σ (67 + k) x 2 = σ 2 := up_ne (by omega)
  have eA : nA (va_up σ (67 + k) x) = nA σ := by unfold nA; rw [e0, e2]
  have eW : nW (va_up σ (67 + k) x) = nW σ := by unfold nW; rw [e1, e2]
  unfold wf
  rw [eA, eW, e0, e1, e2]
  refine ⟨h1, h2, h3, h4, h5, h6, fun q hq => by rw [up_ne (by omega)]; exact h7 q hq, fun q z hq hz e => h8 q z hq hz (by rw [up_ne (by omega), up_ne (by omega)] at e; exact e), fun a ha => by rw [up_ne (by omega)]; exact h9 a ha, fun j hj => ?_, fun w hw => by rw [up_ne (by omega)]; exact h11 w hw, fun a ha => by rw [up_ne (by omega)]; exact h12 a ha⟩
  by_cases e : j = k
  · subst e; rw [up_s]; exact hx
  · rw [up_ne (by omega)]; exact h10 j hj
theorem wf_sp {σ : Nat → Nat} (hw : wf σ) {w x : Nat} (hk : w < nW σ) (hx : x < 2 ^ σ 0) : wf (va_up σ (100 + w) x) := by
  have hR := hw.2.1
  have hA := hw.a48
  have h41 := hw.w41
  have h33 := hw.a33
  obtain ⟨h1, h2, h3, h4, h5, h6, h7, h8, h9, h10, h11, h12⟩ := hw
  have e0 : va_up σ (100 + w) x 0 = σ 0 := up_ne (by omega)
  have e1 : va_up σ (100 + w) x 1 = σ 1 := up_ne (by omega)
  have e2 : va_up σ (100 + w) x 2 = σ 2 := up_ne (by omega)
  have eA : nA (va_up σ (100 + w) x) = nA σ := by unfold nA; rw [e0, e2]
  have eW : nW (va_up σ (100 + w) x) = nW σ := by unfold nW; rw [e1, e2]
  unfold wf
  rw [eA, eW, e0, e1, e2]
  refine ⟨h1, h2, h3, h4, h5, h6, fun q hq => by rw [up_ne (by omega)]; exact h7 q hq, fun q z hq hz e => h8 q z hq hz (by rw [up_ne (by omega), up_ne (by omega)] at e; exact e), fun a ha => by rw [up_ne (by omega)]; exact h9 a ha, fun j hj => by rw [up_ne (by omega)]; exact h10 j hj, fun j hj => ?_, fun a ha => by rw [up_ne (by omega)]; exact h12 a ha⟩
  by_cases e : j = w
  · subst e; rw [up_s]; exact hx
  · rw [up_ne (by omega)]; exact h11 j hj
theorem wf_pt {σ : Nat → Nat} (hw : wf σ) {a x : Nat} (hx : x ≤ 2 ^ σ 1) : wf (va_up σ (141 + a) x) := by
  refine wf_hi hw (fun k hk => up_ne (by omega)) fun j hj => ?_
  by_cases e : j = a
  · subst e; rw [up_s]; exact hx
  · rw [up_ne (by omega)]; exact hw.2.2.2.2.2.2.2.2.2.2.2 j hj
theorem wf_ec {σ : Nat → Nat} (hw : wf σ) : wf (ecS σ) := by
  have hR := hw.2.1
  have hA := hw.a48
  have h33 := hw.a33
  have lo : ∀ k, k < 67 → ecS σ k = σ k := fun k hk => by unfold ecS; rw [if_neg (by omega)]
  have hi : ∀ k, 100 ≤ k → ecS σ k = σ k := fun k hk => by unfold ecS; rw [if_neg (by omega)]
  obtain ⟨h1, h2, h3, h4, h5, h6, h7, h8, h9, h10, h11, h12⟩ := hw
  have e0 := lo 0 (by omega)
  have e1 := lo 1 (by omega)
  have e2 := lo 2 (by omega)
  have eA : nA (ecS σ) = nA σ := by unfold nA; rw [e0, e2]
  have eW : nW (ecS σ) = nW σ := by unfold nW; rw [e1, e2]
  unfold wf
  rw [eA, eW, e0, e1, e2]
  refine ⟨h1, h2, h3, h4, h5, h6, fun q hq => by rw [lo _ (by omega)]; exact h7 q hq, fun q z hq hz e => h8 q z hq hz (by rw [lo _ (by omega), lo _ (by omega)] at e; exact e), fun a ha => by rw [lo _ (by omega)]; exact h9 a ha, fun j hj => ?_, fun j hj => by rw [hi _ (by omega)]; exact h11 j hj, fun a ha => by rw [hi _ (by omega)]; exact h12 a ha⟩
  unfold ecS
  rw [if_pos (by omega)]
  exact bst_le _ _
theorem pcN_md (σ : Nat → Nat) (n : Nat) : pcN (mdS σ n) = pcN σ := by
  unfold pcN
  have e : nA (mdS σ n) = nA σ := by unfold nA; rw [md_lo σ n (by omega), md_lo σ n (by omega)]
  rw [e]
  refine ct_cong fun a _ => ?_
  unfold mdS
  split
  · rename_i h
    have h1 : σ (141 + a) ≠ 0 := h.2.2
    simp [h1]
  · rfl
