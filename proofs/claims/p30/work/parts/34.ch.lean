/-! ===== p30: what the law's 'changes' does, by its number ===== -/
def loN (v : Int32) (n : Nat) : Nat := v.toBitVec.toNat % 2 ^ 31 % n
theorem loN_lt (v : Int32) {n : Nat} (h : 0 < n) : loN v n < n := Nat.mod_lt _ h
def chr (σ : Nat → Nat) (z : Int32) : Nat := loN (z >>> (nI 4 &&& 31)) (σ 0 + 1)
def cha (σ : Nat → Nat) (z : Int32) : Nat := loN (z >>> (nI 4 &&& 31)) (nA σ + 1)
def chw (σ : Nat → Nat) (z : Int32) : Nat := loN (z >>> (nI 9 &&& 31)) (nW σ + 1)
def chv (σ : Nat → Nat) (z : Int32) : Nat := loN (z >>> (nI 9 &&& 31)) (1 <<< σ 1)
def chc (z : Int32) : Nat := loN (z >>> (nI 9 &&& 31)) 16
def chR (z : Int32) : Nat := 2 + loN (z >>> (nI 6 &&& 31)) 15
def chB (z : Int32) : Nat := 1 + loN (z >>> (nI 10 &&& 31)) 10
def chS (z : Int32) : Nat := 1 + loN (z >>> (nI 14 &&& 31)) 3
abbrev tT : Type := Bool × (Nat → Nat) × Int32
def tSet (σ : Nat → Nat) (x y : Int32) : tT := (inB x (σ 0) && inB y 16 && okC σ x y, va_up σ (3 + cl x) (cl y), aSetCode σ x y)
def tWv (σ : Nat → Nat) (x y : Int32) : tT := (inB x (nA σ) && inB y (2 ^ σ 1), va_up σ (19 + cl x) (cl y), aWeave σ x y)
def tCr (σ : Nat → Nat) (x : Int32) : tT := (inB x (nW σ) && !inB x 8, va_up σ (67 + (cl x - 8)) (1 - crN σ (cl x)), aCross σ x)
def tEc (σ : Nat → Nat) : tT := (true, ecS σ, nI (mcC σ (nW σ)))
def tSp (σ : Nat → Nat) (x y : Int32) : tT := (inB x (nW σ) && inB y (σ 0), va_up σ (100 + cl x) (σ (100 + cl x) ^^^ 1 <<< cl y), aSpoil σ x y)
def tPt (σ : Nat → Nat) (x y : Int32) : tT := (inB x (nA σ) && inB y (2 ^ σ 1) && okP σ x, ptS σ x (cl y + 1), aPatch σ x y)
def tUn (σ : Nat → Nat) (x : Int32) : tT := (inB x (nA σ) && σ (141 + cl x) != 0, ptS σ x 0, aUnpatch σ x)
def tPa (σ : Nat → Nat) : tT := (true, paS σ, aPatchAll σ)
def tBg (σ : Nat → Nat) (x y z : Int32) : tT := (ok3 x y z, bgS (cl x) (cl y) (cl z), cond (ok3 x y z) (nI (nA σ)) (-3))
def chU (σ : Nat → Nat) (z : Int32) (k : Nat) : tT :=
  if k = 0 then tSet σ (nI (chr σ z)) (nI (chc z))
  else if k = 1 then tWv σ (nI (cha σ z)) (nI (chv σ z))
  else if k = 2 then tWv σ (nI (cha σ z)) (nI (chv σ z))
  else if k = 3 then tWv σ (nI (cha σ z)) (nI (chv σ z))
  else if k = 4 then tCr σ (nI (chw σ z))
  else if k = 5 then tEc σ
  else if k = 6 then tSp σ (nI (chw σ z)) (nI (chr σ z))
  else if k = 7 then tSp σ (nI (chw σ z)) (nI (chr σ z))
  else if k = 8 then tSp σ (nI (chw σ z)) (nI (chr σ z))
  else if k = 9 then tPt σ (nI (cha σ z)) (nI (chv σ z))
  else if k = 10 then tUn σ (nI (cha σ z))
  else if k = 11 then tPa σ
  else if k = 12 then (if z >>> (nI 4 &&& 31) &&& nI 3 = 0 then tBg σ (nI (chR z)) (nI (chB z)) (nI (chS z)) else tSp σ (nI (chw σ z)) (nI (chr σ z)))
  else tWv σ (nI (cha σ z)) (nI 0)
def chT (σ : Nat → Nat) (z : Int32) : tT := chU σ z (loN z 14)
theorem chT_at {σ : Nat → Nat} {z : Int32} {k : Nat} {t : tT} (h : k = loN z 14) (e : chU σ z k = t) : chT σ z = t := by
  unfold chT
  rw [← h]
  exact e
/-- what a call leaves and answers: recorded, a sound state and a number; or an error -/
def okT (t : tT) : Prop := (t.1 = true → wf t.2.1 ∧ pcN t.2.1 ≤ 4 ∧ ∃ j, j < 2 ^ 31 ∧ t.2.2 = nI j) ∧ (t.1 = false → t.2.2 < 0)
theorem n2 : (-2 : Int32) < 0 := by decide
theorem n3 : (-3 : Int32) < 0 := by decide
theorem n4 : (-4 : Int32) < 0 := by decide
theorem n5 : (-5 : Int32) < 0 := by decide
theorem c_neg1 {a : Bool} {v : Int32} (h : a = false) : cond a v (-2) < 0 := by rw [h]; exact n2
theorem c_neg2 {a b : Bool} {v : Int32} (h : (a && b) = false) : cond a (cond b v (-3)) (-2) < 0 := by
  cases a
  · exact n2
  · cases b
    · exact n3
    · cases h
theorem c_neg2' {a b : Bool} {v : Int32} (h : (a && b) = false) : cond a (cond b v (-4)) (-2) < 0 := by
  cases a
  · exact n2
  · cases b
    · exact n4
    · cases h
theorem c_neg2n {a b : Bool} {v : Int32} (h : (a && !b) = false) : cond a (cond b (-4) v) (-2) < 0 := by
  cases a
  · exact n2
  · cases b
    · cases h
    · exact n4
theorem c_neg3 {a b c : Bool} {v : Int32} (h : (a && b && c) = false) : cond a (cond b (cond c v (-4)) (-3)) (-2) < 0 := by
  cases a
  · exact n2
  · cases b
    · exact n3
    · cases c
      · exact n4
      · cases h
theorem c_neg3' {a b c : Bool} {v : Int32} (h : (a && b && c) = false) : cond a (cond b (cond c v (-5)) (-3)) (-2) < 0 := by
  cases a
  · exact n2
  · cases b
    · exact n3
    · cases c
      · exact n5
      · cases h
theorem c_p1 {a : Bool} {u v : Int32} (h : a = true) : cond a v u = v := by rw [h]; rfl
theorem c_p2 {a b : Bool} {u u2 v : Int32} (h : (a && b) = true) : cond a (cond b v u) u2 = v := by
  cases a
  · cases h
  · cases b
    · cases h
    · rfl
theorem c_p2n {a b : Bool} {u u2 v : Int32} (h : (a && !b) = true) : cond a (cond b u v) u2 = v := by
  cases a
  · cases h
  · cases b
    · rfl
    · cases h
theorem c_p3 {a b c : Bool} {u u2 u3 v : Int32} (h : (a && b && c) = true) : cond a (cond b (cond c v u) u2) u3 = v := by
  cases a
  · cases h
  · cases b
    · cases h
    · cases c
      · cases h
      · rfl
theorem ok_set {σ : Nat → Nat} (hw : wf σ) (h4 : pcN σ ≤ 4) (x y : Int32) : okT (tSet σ x y) := by
  have hR := hw.2.1
  refine ⟨fun h => ⟨(st_code hw h4 h).1, (st_code hw h4 h).2, _, ?_, c_p3 h⟩, fun h => c_neg3 h⟩
  have h1 : inB x (σ 0) = true := by
    have h2 : (inB x (σ 0) && inB y 16 && okC σ x y) = true := h
    rw [Bool.and_eq_true, Bool.and_eq_true] at h2
    exact h2.1.1
  have := hw.cd (inB_cl (by omega) h1).1
  omega
theorem ok_wv {σ : Nat → Nat} (hw : wf σ) (h4 : pcN σ ≤ 4) (x y : Int32) : okT (tWv σ x y) := by
  have h48 := hw.a48
  refine ⟨fun h => ⟨(st_weave hw h4 h).1, (st_weave hw h4 h).2, _, ?_, c_p2 h⟩, fun h => c_neg2 h⟩
  have h1 : inB x (nA σ) = true := by
    have h2 : (inB x (nA σ) && inB y (2 ^ σ 1)) = true := h
    rw [Bool.and_eq_true] at h2
    exact h2.1
  have := hw.wd (inB_cl (by omega) h1).1
  omega
theorem ok_cr {σ : Nat → Nat} (hw : wf σ) (h4 : pcN σ ≤ 4) (x : Int32) : okT (tCr σ x) := by
  refine ⟨fun h => ⟨(st_cross hw h4 h).1, (st_cross hw h4 h).2, _, ?_, c_p2n h⟩, fun h => c_neg2n h⟩
  omega
theorem ok_ec {σ : Nat → Nat} (hw : wf σ) (h4 : pcN σ ≤ 4) : okT (tEc σ) := by
  have h41 := hw.w41
  refine ⟨fun _ => ⟨(st_ec hw h4).1, (st_ec hw h4).2, _, ?_, rfl⟩, fun h => by cases h⟩
  have := ct_le (fun w => decide (8 ≤ w) && crN σ w != bst σ w) (nW σ)
  unfold mcC
  omega
theorem ok_sp {σ : Nat → Nat} (hw : wf σ) (h4 : pcN σ ≤ 4) (x y : Int32) : okT (tSp σ x y) := by
  refine ⟨fun h => ⟨(st_spoil hw h4 h).1, (st_spoil hw h4 h).2, _, ?_, c_p1 h⟩, fun h => c_neg1 h⟩
  have := toNat_le ((σ (100 + cl x) ^^^ 1 <<< cl y).testBit (cl y))
  omega
theorem ok_pt {σ : Nat → Nat} (hw : wf σ) (h4 : pcN σ ≤ 4) (x y : Int32) : okT (tPt σ x y) := by
  refine ⟨fun h => ⟨(st_patch hw h4 h).1, (st_patch hw h4 h).2, _, ?_, c_p3 h⟩, fun h => c_neg3' h⟩
  have := (st_patch hw h4 h).2
  omega
theorem ok_un {σ : Nat → Nat} (hw : wf σ) (h4 : pcN σ ≤ 4) (x : Int32) : okT (tUn σ x) := by
  refine ⟨fun h => ⟨(st_unpatch hw h4 h).1, (st_unpatch hw h4 h).2, _, ?_, c_p2 h⟩, fun h => c_neg2' h⟩
  have := (st_unpatch hw h4 h).2
  omega
theorem ok_pa {σ : Nat → Nat} (hw : wf σ) (h4 : pcN σ ≤ 4) : okT (tPa σ) := by
  have h48 := hw.a48
  refine ⟨fun _ => ⟨(st_pa hw h4).1, (st_pa hw h4).2, _, ?_, rfl⟩, fun h => by cases h⟩
  have := ct_le (iwB (paS σ) 0) (nA (paS σ))
  rw [nA_pa] at this
  rw [nA_pa]
  omega
theorem ok_bg {σ : Nat → Nat} (hw : wf σ) (x y z : Int32) : okT (tBg σ x y z) := by
  have h48 := hw.a48
  refine ⟨fun h => ⟨(st_begin h).1, (st_begin h).2, _, ?_, c_p1 h⟩, fun h => ?_⟩
  · omega
  · show cond (ok3 x y z) (nI (nA σ)) (-3) < 0
    rw [show ok3 x y z = false from h]
    exact n3
theorem ok_U {σ : Nat → Nat} (hw : wf σ) (h4 : pcN σ ≤ 4) (z : Int32) (k : Nat) : okT (chU σ z k) := by
  unfold chU
  by_cases k0 : k = 0
  · rw [if_pos k0]
    exact ok_set hw h4 _ _
  rw [if_neg k0]
  by_cases k1 : k = 1
  · rw [if_pos k1]
    exact ok_wv hw h4 _ _
  rw [if_neg k1]
  by_cases k2 : k = 2
  · rw [if_pos k2]
    exact ok_wv hw h4 _ _
  rw [if_neg k2]
  by_cases k3 : k = 3
  · rw [if_pos k3]
    exact ok_wv hw h4 _ _
  rw [if_neg k3]
  by_cases k4 : k = 4
  · rw [if_pos k4]
    exact ok_cr hw h4 _
  rw [if_neg k4]
  by_cases k5 : k = 5
  · rw [if_pos k5]
    exact ok_ec hw h4
  rw [if_neg k5]
  by_cases k6 : k = 6
  · rw [if_pos k6]
    exact ok_sp hw h4 _ _
  rw [if_neg k6]
  by_cases k7 : k = 7
  · rw [if_pos k7]
    exact ok_sp hw h4 _ _
  rw [if_neg k7]
  by_cases k8 : k = 8
  · rw [if_pos k8]
    exact ok_sp hw h4 _ _
  rw [if_neg k8]
  by_cases k9 : k = 9
  · rw [if_pos k9]
    exact ok_pt hw h4 _ _
  rw [if_neg k9]
  by_cases k10 : k = 10
  · rw [if_pos k10]
    exact ok_un hw h4 _
  rw [if_neg k10]
  by_cases k11 : k = 11
  · rw [if_pos k11]
    exact ok_pa hw h4
  rw [if_neg k11]
  by_cases k12 : k = 12
  · rw [if_pos k12]
    by_cases q : z >>> (nI 4 &&& 31) &&& nI 3 = 0
    · rw [if_pos q]
      exact ok_bg hw _ _ _
    · rw [if_neg q]
      exact ok_sp hw h4 _ _
  rw [if_neg k12]
  exact ok_wv hw h4 _ _
/-- a rope and its history, as the law keeps them -/
def lwI (σ : Nat → Nat) (o n : Nat) : Prop := wf σ ∧ pcN σ ≤ 4 ∧ o < 5 ∧ n ≤ 5
/-- what the law asks of a call of 'changes' -/
def stepF (z : Int32) (σ : Nat → Nat) (σ1 : Nat → Nat) (o1 n1 : Nat) (τ1 : Nat → Nat → Nat) (g : Int32) : Prop :=
  lwI σ1 o1 n1 ∧ (g < 0 → σ1 = σ) ∧ (¬ g < 0 → 1 ≤ n1 ∧ τ1 ((o1 + (n1 - 1)) % 5) = σ) ∧ (loN z 14 = 5 → sm (csN σ1) (nW σ1) ≤ sm (csN σ) (nW σ)) ∧ (loN z 14 = 11 → g = nI (ct (iwB σ1 0) (nA σ1)) ∧ ct (iwB σ1 0) (nA σ1) ≤ ct (iwB σ 0) (nA σ))
theorem ch_gen {σ : Nat → Nat} {o n : Nat} (hi : lwI σ o n) (τ : Nat → Nat → Nat) (z : Int32) : ∃ (σ1 : Nat → Nat) (o1 n1 : Nat) (τ1 : Nat → Nat → Nat) (g : Int32), cond (chT σ z).1 (chT σ z).2.1 σ = σ1 ∧ cond (chT σ z).1 (kpO o n) o = o1 ∧ cond (chT σ z).1 (kpN n) n = n1 ∧ cond (chT σ z).1 (va_up τ (kpS o n) σ) τ = τ1 ∧ (chT σ z).2.2 = g ∧ stepF z σ σ1 o1 n1 τ1 g := by
  obtain ⟨hw, h4, ho, hn⟩ := hi
  have hok : okT (chT σ z) := ok_U hw h4 z _
  refine ⟨_, _, _, _, _, rfl, rfl, rfl, rfl, rfl, ?_⟩
  have e5 : loN z 14 = 5 → chT σ z = tEc σ := fun h => chT_at h.symm rfl
  have e11 : loN z 14 = 11 → chT σ z = tPa σ := fun h => chT_at h.symm rfl
  cases hb : (chT σ z).1
  · have hneg := hok.2 hb
    refine ⟨⟨hw, h4, ho, hn⟩, fun _ => rfl, fun h => absurd hneg h, fun h => ?_, fun h => ?_⟩
    · exact Nat.le_refl _
    · rw [e11 h] at hb
      cases hb
  · obtain ⟨k1, k2, j, hj, ej⟩ := hok.1 hb
    refine ⟨⟨k1, k2, kpO_lt ho, kpN_le hn⟩, fun h => ?_, fun _ => ⟨kpN_pos n, kp_back ho hn τ σ⟩, fun h => ?_, fun h => ?_⟩
    · rw [ej] at h
      exact absurd h (nI_pos hj)
    · show sm (csN (chT σ z).2.1) (nW (chT σ z).2.1) ≤ _
      rw [e5 h]
      exact ec_sum hw
    · show (chT σ z).2.2 = nI (ct (iwB (chT σ z).2.1 0) (nA (chT σ z).2.1)) ∧ ct (iwB (chT σ z).2.1 0) (nA (chT σ z).2.1) ≤ _
      rw [e11 h]
      exact ⟨rfl, pa_wrong hw⟩
