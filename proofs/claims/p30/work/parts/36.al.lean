theorem c_X3_codeN (l : Launch) (D : va_G) (cI cR : ClassId) (h : Nat) (ad : Nat → Nat) (aa : Nat → Nat → Nat) (σ : Nat → Nat) (o : Nat) (n : Nat) (τ : Nat → Nat → Nat) (x : Nat) (hw : wf σ) (h1 : x < σ 0) : MetR l yX3_code cX3_code 2 (some .int) (rmK 1 23) (nPre D (nTy cI cR) [.ref h, .int (nI x)] (wS h ad aa cI cR σ o n τ)) (nI (σ (3 + x))) := by
  have e : aCode σ (nI x) = nI (σ (3 + x)) := by unfold aCode; rw [inB_nI h1 (Nat.lt_of_le_of_lt hw.2.1 (by decide)), cl_nI (Nat.lt_trans h1 (Nat.lt_of_le_of_lt hw.2.1 (by decide)))]; first | rfl | exact zB_nI _
  have q := c_X3_code l D cI cR h ad aa σ o n τ (fun _ => 0) 0 (fun _ => 0) 0 (nI (x)) hw
  rw [e] at q
  exact q
theorem c_X3_wordN (l : Launch) (D : va_G) (cI cR : ClassId) (h : Nat) (ad : Nat → Nat) (aa : Nat → Nat → Nat) (σ : Nat → Nat) (o : Nat) (n : Nat) (τ : Nat → Nat → Nat) (x : Nat) (hw : wf σ) (h1 : x < nA σ) : MetR l yX3_word cX3_word 2 (some .int) (rmK 3 70) (nPre D (nTy cI cR) [.ref h, .int (nI x)] (wS h ad aa cI cR σ o n τ)) (nI (σ (19 + x))) := by
  have e : aWord σ (nI x) = nI (σ (19 + x)) := by unfold aWord; rw [inB_nI h1 (Nat.lt_of_le_of_lt hw.a48 (by decide)), cl_nI (Nat.lt_trans h1 (Nat.lt_of_le_of_lt hw.a48 (by decide)))]; first | rfl | exact zB_nI _
  have q := c_X3_word l D cI cR h ad aa σ o n τ (fun _ => 0) 0 (fun _ => 0) 0 (nI (x)) hw
  rw [e] at q
  exact q
theorem c_X3_costN (l : Launch) (D : va_G) (cI cR : ClassId) (h : Nat) (ad : Nat → Nat) (aa : Nat → Nat → Nat) (σ : Nat → Nat) (o : Nat) (n : Nat) (τ : Nat → Nat → Nat) (x : Nat) (hw : wf σ) (h1 : x < nW σ) : MetR l yX3_cost cX3_cost 2 (some .int) (rmK 2 42) (nPre D (nTy cI cR) [.ref h, .int (nI x)] (wS h ad aa cI cR σ o n τ)) (nI (csN σ x)) := by
  have e : aCost σ (nI x) = nI (csN σ x) := by unfold aCost; rw [inB_nI h1 (Nat.lt_of_le_of_lt hw.w41 (by decide)), cl_nI (Nat.lt_trans h1 (Nat.lt_of_le_of_lt hw.w41 (by decide)))]; first | rfl | exact zB_nI _
  have q := c_X3_cost l D cI cR h ad aa σ o n τ (fun _ => 0) 0 (fun _ => 0) 0 (nI (x)) hw
  rw [e] at q
  exact q
theorem c_X3_readN (l : Launch) (D : va_G) (cI cR : ClassId) (h : Nat) (ad : Nat → Nat) (aa : Nat → Nat → Nat) (σ : Nat → Nat) (o : Nat) (n : Nat) (τ : Nat → Nat → Nat) (x : Nat) (hw : wf σ) (h1 : x < nA σ) : MetR l yX3_read cX3_read 2 (some .int) (rmK 3 71) (nPre D (nTy cI cR) [.ref h, .int (nI x)] (wS h ad aa cI cR σ o n τ)) (nI (rdN σ x)) := by
  have e : aRead σ (nI x) = nI (rdN σ x) := by unfold aRead; rw [inB_nI h1 (Nat.lt_of_le_of_lt hw.a48 (by decide)), cl_nI (Nat.lt_trans h1 (Nat.lt_of_le_of_lt hw.a48 (by decide)))]; first | rfl | exact zB_nI _
  have q := c_X3_read l D cI cR h ad aa σ o n τ (fun _ => 0) 0 (fun _ => 0) 0 (nI (x)) hw
  rw [e] at q
  exact q
theorem c_X3_readRawN (l : Launch) (D : va_G) (cI cR : ClassId) (h : Nat) (ad : Nat → Nat) (aa : Nat → Nat → Nat) (σ : Nat → Nat) (o : Nat) (n : Nat) (τ : Nat → Nat → Nat) (x : Nat) (hw : wf σ) (h1 : x < nA σ) : MetR l yX3_readRaw cX3_readRaw 2 (some .int) (rmK 3 71) (nPre D (nTy cI cR) [.ref h, .int (nI x)] (wS h ad aa cI cR σ o n τ)) (nI (rrN σ x)) := by
  have e : aRaw σ (nI x) = nI (rrN σ x) := by unfold aRaw; rw [inB_nI h1 (Nat.lt_of_le_of_lt hw.a48 (by decide)), cl_nI (Nat.lt_trans h1 (Nat.lt_of_le_of_lt hw.a48 (by decide)))]; first | rfl | exact zB_nI _
  have q := c_X3_readRaw l D cI cR h ad aa σ o n τ (fun _ => 0) 0 (fun _ => 0) 0 (nI (x)) hw
  rw [e] at q
  exact q
theorem c_X3_patchOfN (l : Launch) (D : va_G) (cI cR : ClassId) (h : Nat) (ad : Nat → Nat) (aa : Nat → Nat → Nat) (σ : Nat → Nat) (o : Nat) (n : Nat) (τ : Nat → Nat → Nat) (x : Nat) (hw : wf σ) (h1 : x < nA σ) : MetR l yX3_patchOf cX3_patchOf 2 (some .int) (rmK 2 41) (nPre D (nTy cI cR) [.ref h, .int (nI x)] (wS h ad aa cI cR σ o n τ)) (ptF σ x) := by
  have e : aPatchOf σ (nI x) = ptF σ x := by unfold aPatchOf; rw [inB_nI h1 (Nat.lt_of_le_of_lt hw.a48 (by decide)), cl_nI (Nat.lt_trans h1 (Nat.lt_of_le_of_lt hw.a48 (by decide)))]; first | rfl | exact zB_nI _
  have q := c_X3_patchOf l D cI cR h ad aa σ o n τ (fun _ => 0) 0 (fun _ => 0) 0 (nI (x)) hw
  rw [e] at q
  exact q
theorem c_X3_parityN (l : Launch) (D : va_G) (cI cR : ClassId) (h : Nat) (ad : Nat → Nat) (aa : Nat → Nat → Nat) (σ : Nat → Nat) (o : Nat) (n : Nat) (τ : Nat → Nat → Nat) (x : Nat) (hw : wf σ) (h1 : x < nA σ) : MetR l yX3_parity cX3_parity 2 (some .int) (rmK 3 71) (nPre D (nTy cI cR) [.ref h, .int (nI x)] (wS h ad aa cI cR σ o n τ)) (nI ((paB σ x).toNat)) := by
  have e : aParity σ (nI x) = nI ((paB σ x).toNat) := by unfold aParity; rw [inB_nI h1 (Nat.lt_of_le_of_lt hw.a48 (by decide)), cl_nI (Nat.lt_trans h1 (Nat.lt_of_le_of_lt hw.a48 (by decide)))]; first | rfl | exact zB_nI _
  have q := c_X3_parity l D cI cR h ad aa σ o n τ (fun _ => 0) 0 (fun _ => 0) 0 (nI (x)) hw
  rw [e] at q
  exact q
theorem c_X3_pickedN (l : Launch) (D : va_G) (cI cR : ClassId) (h : Nat) (ad : Nat → Nat) (aa : Nat → Nat → Nat) (σ : Nat → Nat) (o : Nat) (n : Nat) (τ : Nat → Nat → Nat) (x : Nat) (hw : wf σ) (h1 : x < 16) : MetR l yX3_picked cX3_picked 2 (some .int) (rmK 1 24) (nPre D (nTy cI cR) [.ref h, .int (nI x)] (wS h ad aa cI cR σ o n τ)) (nI (pkM (wvM σ) σ x)) := by
  have e : aPicked σ (nI x) = nI (pkM (wvM σ) σ x) := by unfold aPicked; rw [inB_nI h1 (by decide), cl_nI (Nat.lt_trans h1 (by decide))]; first | rfl | exact zB_nI _
  have q := c_X3_picked l D cI cR h ad aa σ o n τ (fun _ => 0) 0 (fun _ => 0) 0 (nI (x)) hw
  rw [e] at q
  exact q
theorem c_X3_wrongN (l : Launch) (D : va_G) (cI cR : ClassId) (h : Nat) (ad : Nat → Nat) (aa : Nat → Nat → Nat) (σ : Nat → Nat) (o : Nat) (n : Nat) (τ : Nat → Nat → Nat) (x : Nat) (hw : wf σ) (h1 : x < 4) : MetR l yX3_wrong cX3_wrong 2 (some .int) (rmK 6 137) (nPre D (nTy cI cR) [.ref h, .int (nI x)] (wS h ad aa cI cR σ o n τ)) (nI (ct (iwB σ x) (nA σ))) := by
  have e : aWrong σ (nI x) = nI (ct (iwB σ x) (nA σ)) := by unfold aWrong; rw [inB_nI h1 (by decide), cl_nI (Nat.lt_trans h1 (by decide))]; first | rfl | exact zB_nI _
  have q := c_X3_wrong l D cI cR h ad aa σ o n τ (fun _ => 0) 0 (fun _ => 0) 0 (nI (x)) hw
  rw [e] at q
  exact q
theorem cnt_nI {σ : Nat → Nat} {x : Nat} (h1 : x < 9) : aCount σ (nI x) = nI (nuN σ x) := by unfold aCount; rw [inB_nI h1 (by decide), cl_nI (Nat.lt_trans h1 (by decide))]; rfl
theorem c_X3_count0 (l : Launch) (D : va_G) (cI cR : ClassId) (h : Nat) (ad : Nat → Nat) (aa : Nat → Nat → Nat) (σ : Nat → Nat) (o : Nat) (n : Nat) (τ : Nat → Nat → Nat) (x : Nat) (hw : wf σ) (h1 : x = 0) : MetR l yX3_count cX3_count 2 (some .int) (rmK 4 85) (nPre D (nTy cI cR) [.ref h, .int (nI x)] (wS h ad aa cI cR σ o n τ)) (nI (σ 0)) := by
  have e : aCount σ (nI x) = nI (σ 0) := by subst h1; exact cnt_nI (by decide)
  have q := c_X3_count l D cI cR h ad aa σ o n τ (fun _ => 0) 0 (fun _ => 0) 0 (nI (x)) hw
  rw [e] at q
  exact q
theorem c_X3_count1 (l : Launch) (D : va_G) (cI cR : ClassId) (h : Nat) (ad : Nat → Nat) (aa : Nat → Nat → Nat) (σ : Nat → Nat) (o : Nat) (n : Nat) (τ : Nat → Nat → Nat) (x : Nat) (hw : wf σ) (h1 : x = 1) : MetR l yX3_count cX3_count 2 (some .int) (rmK 4 85) (nPre D (nTy cI cR) [.ref h, .int (nI x)] (wS h ad aa cI cR σ o n τ)) (nI (σ 1)) := by
  have e : aCount σ (nI x) = nI (σ 1) := by subst h1; exact cnt_nI (by decide)
  have q := c_X3_count l D cI cR h ad aa σ o n τ (fun _ => 0) 0 (fun _ => 0) 0 (nI (x)) hw
  rw [e] at q
  exact q
theorem c_X3_count2 (l : Launch) (D : va_G) (cI cR : ClassId) (h : Nat) (ad : Nat → Nat) (aa : Nat → Nat → Nat) (σ : Nat → Nat) (o : Nat) (n : Nat) (τ : Nat → Nat → Nat) (x : Nat) (hw : wf σ) (h1 : x = 2) : MetR l yX3_count cX3_count 2 (some .int) (rmK 4 85) (nPre D (nTy cI cR) [.ref h, .int (nI x)] (wS h ad aa cI cR σ o n τ)) (nI (σ 2)) := by
  have e : aCount σ (nI x) = nI (σ 2) := by subst h1; exact cnt_nI (by decide)
  have q := c_X3_count l D cI cR h ad aa σ o n τ (fun _ => 0) 0 (fun _ => 0) 0 (nI (x)) hw
  rw [e] at q
  exact q
theorem c_X3_count3 (l : Launch) (D : va_G) (cI cR : ClassId) (h : Nat) (ad : Nat → Nat) (aa : Nat → Nat → Nat) (σ : Nat → Nat) (o : Nat) (n : Nat) (τ : Nat → Nat → Nat) (x : Nat) (hw : wf σ) (h1 : x = 3) : MetR l yX3_count cX3_count 2 (some .int) (rmK 4 85) (nPre D (nTy cI cR) [.ref h, .int (nI x)] (wS h ad aa cI cR σ o n τ)) (nI (nA σ)) := by
  have e : aCount σ (nI x) = nI (nA σ) := by subst h1; exact cnt_nI (by decide)
  have q := c_X3_count l D cI cR h ad aa σ o n τ (fun _ => 0) 0 (fun _ => 0) 0 (nI (x)) hw
  rw [e] at q
  exact q
theorem c_X3_count4 (l : Launch) (D : va_G) (cI cR : ClassId) (h : Nat) (ad : Nat → Nat) (aa : Nat → Nat → Nat) (σ : Nat → Nat) (o : Nat) (n : Nat) (τ : Nat → Nat → Nat) (x : Nat) (hw : wf σ) (h1 : x = 4) : MetR l yX3_count cX3_count 2 (some .int) (rmK 4 85) (nPre D (nTy cI cR) [.ref h, .int (nI x)] (wS h ad aa cI cR σ o n τ)) (nI (nW σ)) := by
  have e : aCount σ (nI x) = nI (nW σ) := by subst h1; exact cnt_nI (by decide)
  have q := c_X3_count l D cI cR h ad aa σ o n τ (fun _ => 0) 0 (fun _ => 0) 0 (nI (x)) hw
  rw [e] at q
  exact q
theorem c_X3_count5 (l : Launch) (D : va_G) (cI cR : ClassId) (h : Nat) (ad : Nat → Nat) (aa : Nat → Nat → Nat) (σ : Nat → Nat) (o : Nat) (n : Nat) (τ : Nat → Nat → Nat) (x : Nat) (hw : wf σ) (h1 : x = 5) : MetR l yX3_count cX3_count 2 (some .int) (rmK 4 85) (nPre D (nTy cI cR) [.ref h, .int (nI x)] (wS h ad aa cI cR σ o n τ)) (nI (sm (crN σ) (nW σ))) := by
  have e : aCount σ (nI x) = nI (sm (crN σ) (nW σ)) := by subst h1; exact cnt_nI (by decide)
  have q := c_X3_count l D cI cR h ad aa σ o n τ (fun _ => 0) 0 (fun _ => 0) 0 (nI (x)) hw
  rw [e] at q
  exact q
theorem c_X3_count6 (l : Launch) (D : va_G) (cI cR : ClassId) (h : Nat) (ad : Nat → Nat) (aa : Nat → Nat → Nat) (σ : Nat → Nat) (o : Nat) (n : Nat) (τ : Nat → Nat → Nat) (x : Nat) (hw : wf σ) (h1 : x = 6) : MetR l yX3_count cX3_count 2 (some .int) (rmK 4 85) (nPre D (nTy cI cR) [.ref h, .int (nI x)] (wS h ad aa cI cR σ o n τ)) (nI (cwN σ)) := by
  have e : aCount σ (nI x) = nI (cwN σ) := by subst h1; exact cnt_nI (by decide)
  have q := c_X3_count l D cI cR h ad aa σ o n τ (fun _ => 0) 0 (fun _ => 0) 0 (nI (x)) hw
  rw [e] at q
  exact q
theorem c_X3_count7 (l : Launch) (D : va_G) (cI cR : ClassId) (h : Nat) (ad : Nat → Nat) (aa : Nat → Nat → Nat) (σ : Nat → Nat) (o : Nat) (n : Nat) (τ : Nat → Nat → Nat) (x : Nat) (hw : wf σ) (h1 : x = 7) : MetR l yX3_count cX3_count 2 (some .int) (rmK 4 85) (nPre D (nTy cI cR) [.ref h, .int (nI x)] (wS h ad aa cI cR σ o n τ)) (nI (pcN σ)) := by
  have e : aCount σ (nI x) = nI (pcN σ) := by subst h1; exact cnt_nI (by decide)
  have q := c_X3_count l D cI cR h ad aa σ o n τ (fun _ => 0) 0 (fun _ => 0) 0 (nI (x)) hw
  rw [e] at q
  exact q
theorem c_X3_count8 (l : Launch) (D : va_G) (cI cR : ClassId) (h : Nat) (ad : Nat → Nat) (aa : Nat → Nat → Nat) (σ : Nat → Nat) (o : Nat) (n : Nat) (τ : Nat → Nat → Nat) (x : Nat) (hw : wf σ) (h1 : x = 8) : MetR l yX3_count cX3_count 2 (some .int) (rmK 4 85) (nPre D (nTy cI cR) [.ref h, .int (nI x)] (wS h ad aa cI cR σ o n τ)) (nI (sm (csN σ) (nW σ))) := by
  have e : aCount σ (nI x) = nI (sm (csN σ) (nW σ)) := by subst h1; exact cnt_nI (by decide)
  have q := c_X3_count l D cI cR h ad aa σ o n τ (fun _ => 0) 0 (fun _ => 0) 0 (nI (x)) hw
  rw [e] at q
  exact q
theorem c_X3_count9 (l : Launch) (D : va_G) (cI cR : ClassId) (h : Nat) (ad : Nat → Nat) (aa : Nat → Nat → Nat) (σ : Nat → Nat) (o : Nat) (n : Nat) (τ : Nat → Nat → Nat) (x : Nat) (hw : wf σ) (h1 : x = 9) : MetR l yX3_count cX3_count 2 (some .int) (rmK 4 85) (nPre D (nTy cI cR) [.ref h, .int (nI x)] (wS h ad aa cI cR σ o n τ)) (-3) := by
  have e : aCount σ (nI x) = -3 := by subst h1; rfl
  have q := c_X3_count l D cI cR h ad aa σ o n τ (fun _ => 0) 0 (fun _ => 0) 0 (nI (x)) hw
  rw [e] at q
  exact q
theorem c_X3_pickedE (l : Launch) (D : va_G) (cI cR : ClassId) (h : Nat) (ad : Nat → Nat) (aa : Nat → Nat → Nat) (σ : Nat → Nat) (o : Nat) (n : Nat) (τ : Nat → Nat → Nat) (x : Nat) (hw : wf σ) (h1 : x = 16) : MetR l yX3_picked cX3_picked 2 (some .int) (rmK 1 24) (nPre D (nTy cI cR) [.ref h, .int (nI x)] (wS h ad aa cI cR σ o n τ)) (-3) := by
  have e : aPicked σ (nI x) = -3 := by subst h1; rfl
  have q := c_X3_picked l D cI cR h ad aa σ o n τ (fun _ => 0) 0 (fun _ => 0) 0 (nI (x)) hw
  rw [e] at q
  exact q
theorem c_X3_wrongE (l : Launch) (D : va_G) (cI cR : ClassId) (h : Nat) (ad : Nat → Nat) (aa : Nat → Nat → Nat) (σ : Nat → Nat) (o : Nat) (n : Nat) (τ : Nat → Nat → Nat) (x : Nat) (hw : wf σ) (h1 : x = 4) : MetR l yX3_wrong cX3_wrong 2 (some .int) (rmK 6 137) (nPre D (nTy cI cR) [.ref h, .int (nI x)] (wS h ad aa cI cR σ o n τ)) (-3) := by
  have e : aWrong σ (nI x) = -3 := by subst h1; rfl
  have q := c_X3_wrong l D cI cR h ad aa σ o n τ (fun _ => 0) 0 (fun _ => 0) 0 (nI (x)) hw
  rw [e] at q
  exact q
theorem c_X3_explainsN (l : Launch) (D : va_G) (cI cR : ClassId) (h : Nat) (ad : Nat → Nat) (aa : Nat → Nat → Nat) (σ : Nat → Nat) (o : Nat) (n : Nat) (τ : Nat → Nat → Nat) (x : Nat) (hw : wf σ) (h1 : x < 2 ^ 31) : MetR l yX3_explains cX3_explains 2 (some .int) (rmK 5 125) (nPre D (nTy cI cR) [.ref h, .int (nI x)] (wS h ad aa cI cR σ o n τ)) (exF σ x) := by
  have e : aExplains σ (nI x) = exF σ x := by unfold aExplains; rw [nI_toInt h1, decide_eq_true (Int.natCast_nonneg x), cl_nI h1]; rfl
  have q := c_X3_explains l D cI cR h ad aa σ o n τ (fun _ => 0) 0 (fun _ => 0) 0 (nI (x)) hw
  rw [e] at q
  exact q
theorem c_X3_explainsE (l : Launch) (D : va_G) (cI cR : ClassId) (h : Nat) (ad : Nat → Nat) (aa : Nat → Nat → Nat) (σ : Nat → Nat) (o : Nat) (n : Nat) (τ : Nat → Nat → Nat) (x : Int32) (hw : wf σ) (h1 : x = -1) : MetR l yX3_explains cX3_explains 2 (some .int) (rmK 5 125) (nPre D (nTy cI cR) [.ref h, .int x] (wS h ad aa cI cR σ o n τ)) (-3) := by
  have e : aExplains σ x = -3 := by subst h1; rfl
  have q := c_X3_explains l D cI cR h ad aa σ o n τ (fun _ => 0) 0 (fun _ => 0) 0 x hw
  rw [e] at q
  exact q
theorem c_X3_throughN (l : Launch) (D : va_G) (cI cR : ClassId) (h : Nat) (ad : Nat → Nat) (aa : Nat → Nat → Nat) (σ : Nat → Nat) (o : Nat) (n : Nat) (τ : Nat → Nat → Nat) (x : Nat) (y : Nat) (hw : wf σ) (h1 : x < nW σ) (h2 : y < σ 0) : MetR l yX3_through cX3_through 3 (some .int) (rmK 2 43) (nPre D (nTy cI cR) [.ref h, .int (nI x), .int (nI y)] (wS h ad aa cI cR σ o n τ)) (nI (((wvM σ x).testBit y).toNat)) := by
  have e : aThrough σ (nI x) (nI y) = nI (((wvM σ x).testBit y).toNat) := by unfold aThrough; rw [inB_nI h1 (Nat.lt_of_le_of_lt hw.w41 (by decide)), inB_nI h2 (Nat.lt_of_le_of_lt hw.2.1 (by decide)), cl_nI (Nat.lt_trans h1 (Nat.lt_of_le_of_lt hw.w41 (by decide))), cl_nI (Nat.lt_trans h2 (Nat.lt_of_le_of_lt hw.2.1 (by decide)))]; rfl
  have q := c_X3_through l D cI cR h ad aa σ o n τ (fun _ => 0) 0 (fun _ => 0) 0 (nI (x)) (nI (y)) hw
  rw [e] at q
  exact q
theorem c_X3_digestW (l : Launch) (D : va_G) (cI cR : ClassId) (h : Nat) (ad : Nat → Nat) (aa : Nat → Nat → Nat) (σ : Nat → Nat) (o : Nat) (n : Nat) (τ : Nat → Nat → Nat)  (hw : wf σ) : MetL l yX3_digest cX3_digest 1 (some .long) (rmK 5 109) (nPre D (nTy cI cR) [.ref h] (wS h ad aa cI cR σ o n τ)) (hsF σ) := by
  exact c_X3_digest l D cI cR h ad aa σ o n τ (fun _ => 0) 0 (fun _ => 0) 0  hw
theorem c_X3_setCodeT (l : Launch) (D : va_G) (cI cR : ClassId) (h : Nat) (ad : Nat → Nat) (aa : Nat → Nat → Nat) (σ : Nat → Nat) (o : Nat) (n : Nat) (τ : Nat → Nat → Nat) (x : Int32) (y : Int32)  (hw : wf σ) (ho : o < 5) (hn : n ≤ 5) (sz : Nat) : Met l yX3_setCode (wsC yX3_setCode cX3_setCode 5 (some .int)) (rmK 3 82) (nPreM D (nTy cI cR) [.ref h, .int x, .int y] (wS h ad aa cI cR σ o n τ) sz) (QcM D (some (.int ((tSet σ x y).2.2))) (wS h ad aa cI cR (cond (tSet σ x y).1 (tSet σ x y).2.1 σ) (cond (tSet σ x y).1 (kpO o n) o) (cond (tSet σ x y).1 (kpN n) n) (cond (tSet σ x y).1 (va_up τ (kpS o n) σ) τ)) (va_A (wS h ad aa cI cR σ o n τ) sz)) 0 0 (va_A (wS h ad aa cI cR σ o n τ) sz) := by
  exact c_X3_setCode l D cI cR h ad aa σ o n τ (fun _ => 0) 0 (fun _ => 0) 0 x y hw ho hn sz
theorem c_X3_weaveT (l : Launch) (D : va_G) (cI cR : ClassId) (h : Nat) (ad : Nat → Nat) (aa : Nat → Nat → Nat) (σ : Nat → Nat) (o : Nat) (n : Nat) (τ : Nat → Nat → Nat) (x : Int32) (y : Int32)  (hw : wf σ) (ho : o < 5) (hn : n ≤ 5) (sz : Nat) : Met l yX3_weave (wsC yX3_weave cX3_weave 4 (some .int)) (rmK 3 82) (nPreM D (nTy cI cR) [.ref h, .int x, .int y] (wS h ad aa cI cR σ o n τ) sz) (QcM D (some (.int ((tWv σ x y).2.2))) (wS h ad aa cI cR (cond (tWv σ x y).1 (tWv σ x y).2.1 σ) (cond (tWv σ x y).1 (kpO o n) o) (cond (tWv σ x y).1 (kpN n) n) (cond (tWv σ x y).1 (va_up τ (kpS o n) σ) τ)) (va_A (wS h ad aa cI cR σ o n τ) sz)) 0 0 (va_A (wS h ad aa cI cR σ o n τ) sz) := by
  exact c_X3_weave l D cI cR h ad aa σ o n τ (fun _ => 0) 0 (fun _ => 0) 0 x y hw ho hn sz
theorem c_X3_crossT (l : Launch) (D : va_G) (cI cR : ClassId) (h : Nat) (ad : Nat → Nat) (aa : Nat → Nat → Nat) (σ : Nat → Nat) (o : Nat) (n : Nat) (τ : Nat → Nat → Nat) (x : Int32)  (hw : wf σ) (ho : o < 5) (hn : n ≤ 5) (sz : Nat) : Met l yX3_cross (wsC yX3_cross cX3_cross 2 (some .int)) (rmK 3 82) (nPreM D (nTy cI cR) [.ref h, .int x] (wS h ad aa cI cR σ o n τ) sz) (QcM D (some (.int ((tCr σ x).2.2))) (wS h ad aa cI cR (cond (tCr σ x).1 (tCr σ x).2.1 σ) (cond (tCr σ x).1 (kpO o n) o) (cond (tCr σ x).1 (kpN n) n) (cond (tCr σ x).1 (va_up τ (kpS o n) σ) τ)) (va_A (wS h ad aa cI cR σ o n τ) sz)) 0 0 (va_A (wS h ad aa cI cR σ o n τ) sz) := by
  exact c_X3_cross l D cI cR h ad aa σ o n τ (fun _ => 0) 0 (fun _ => 0) 0 x hw ho hn sz
theorem c_X3_spoilT (l : Launch) (D : va_G) (cI cR : ClassId) (h : Nat) (ad : Nat → Nat) (aa : Nat → Nat → Nat) (σ : Nat → Nat) (o : Nat) (n : Nat) (τ : Nat → Nat → Nat) (x : Int32) (y : Int32)  (hw : wf σ) (ho : o < 5) (hn : n ≤ 5) (sz : Nat) : Met l yX3_spoil (wsC yX3_spoil cX3_spoil 3 (some .int)) (rmK 3 82) (nPreM D (nTy cI cR) [.ref h, .int x, .int y] (wS h ad aa cI cR σ o n τ) sz) (QcM D (some (.int ((tSp σ x y).2.2))) (wS h ad aa cI cR (cond (tSp σ x y).1 (tSp σ x y).2.1 σ) (cond (tSp σ x y).1 (kpO o n) o) (cond (tSp σ x y).1 (kpN n) n) (cond (tSp σ x y).1 (va_up τ (kpS o n) σ) τ)) (va_A (wS h ad aa cI cR σ o n τ) sz)) 0 0 (va_A (wS h ad aa cI cR σ o n τ) sz) := by
  exact c_X3_spoil l D cI cR h ad aa σ o n τ (fun _ => 0) 0 (fun _ => 0) 0 x y hw ho hn sz
theorem c_X3_economizeT (l : Launch) (D : va_G) (cI cR : ClassId) (h : Nat) (ad : Nat → Nat) (aa : Nat → Nat → Nat) (σ : Nat → Nat) (o : Nat) (n : Nat) (τ : Nat → Nat → Nat)   (hw : wf σ) (ho : o < 5) (hn : n ≤ 5) (sz : Nat) : Met l yX3_economize (wsC yX3_economize cX3_economize 1 (some .int)) (rmK 3 82) (nPreM D (nTy cI cR) [.ref h] (wS h ad aa cI cR σ o n τ) sz) (QcM D (some (.int ((tEc σ).2.2))) (wS h ad aa cI cR (cond (tEc σ).1 (tEc σ).2.1 σ) (cond (tEc σ).1 (kpO o n) o) (cond (tEc σ).1 (kpN n) n) (cond (tEc σ).1 (va_up τ (kpS o n) σ) τ)) (va_A (wS h ad aa cI cR σ o n τ) sz)) 0 0 (va_A (wS h ad aa cI cR σ o n τ) sz) := by
  exact c_X3_economize l D cI cR h ad aa σ o n τ (fun _ => 0) 0 (fun _ => 0) 0  hw ho hn sz
theorem c_X3_patchT (l : Launch) (D : va_G) (cI cR : ClassId) (h : Nat) (ad : Nat → Nat) (aa : Nat → Nat → Nat) (σ : Nat → Nat) (o : Nat) (n : Nat) (τ : Nat → Nat → Nat) (x : Int32) (y : Int32)  (hw : wf σ) (ho : o < 5) (hn : n ≤ 5) (h4 : pcN σ ≤ 4) (sz : Nat) : Met l yX3_patch (wsC yX3_patch cX3_patch 3 (some .int)) (rmK 3 82) (nPreM D (nTy cI cR) [.ref h, .int x, .int y] (wS h ad aa cI cR σ o n τ) sz) (QcM D (some (.int ((tPt σ x y).2.2))) (wS h ad aa cI cR (cond (tPt σ x y).1 (tPt σ x y).2.1 σ) (cond (tPt σ x y).1 (kpO o n) o) (cond (tPt σ x y).1 (kpN n) n) (cond (tPt σ x y).1 (va_up τ (kpS o n) σ) τ)) (va_A (wS h ad aa cI cR σ o n τ) sz)) 0 0 (va_A (wS h ad aa cI cR σ o n τ) sz) := by
  exact c_X3_patch l D cI cR h ad aa σ o n τ (fun _ => 0) 0 (fun _ => 0) 0 x y hw ho hn h4 sz
theorem c_X3_unpatchT (l : Launch) (D : va_G) (cI cR : ClassId) (h : Nat) (ad : Nat → Nat) (aa : Nat → Nat → Nat) (σ : Nat → Nat) (o : Nat) (n : Nat) (τ : Nat → Nat → Nat) (x : Int32)  (hw : wf σ) (ho : o < 5) (hn : n ≤ 5) (sz : Nat) : Met l yX3_unpatch (wsC yX3_unpatch cX3_unpatch 2 (some .int)) (rmK 3 82) (nPreM D (nTy cI cR) [.ref h, .int x] (wS h ad aa cI cR σ o n τ) sz) (QcM D (some (.int ((tUn σ x).2.2))) (wS h ad aa cI cR (cond (tUn σ x).1 (tUn σ x).2.1 σ) (cond (tUn σ x).1 (kpO o n) o) (cond (tUn σ x).1 (kpN n) n) (cond (tUn σ x).1 (va_up τ (kpS o n) σ) τ)) (va_A (wS h ad aa cI cR σ o n τ) sz)) 0 0 (va_A (wS h ad aa cI cR σ o n τ) sz) := by
  exact c_X3_unpatch l D cI cR h ad aa σ o n τ (fun _ => 0) 0 (fun _ => 0) 0 x hw ho hn sz
theorem c_X3_patchAllT (l : Launch) (D : va_G) (cI cR : ClassId) (h : Nat) (ad : Nat → Nat) (aa : Nat → Nat → Nat) (σ : Nat → Nat) (o : Nat) (n : Nat) (τ : Nat → Nat → Nat)   (hw : wf σ) (ho : o < 5) (hn : n ≤ 5) (h4 : pcN σ ≤ 4) (sz : Nat) : Met l yX3_patchAll (wsC yX3_patchAll cX3_patchAll 1 (some .int)) (rmK 6 137) (nPreM D (nTy cI cR) [.ref h] (wS h ad aa cI cR σ o n τ) sz) (QcM D (some (.int ((tPa σ).2.2))) (wS h ad aa cI cR (cond (tPa σ).1 (tPa σ).2.1 σ) (cond (tPa σ).1 (kpO o n) o) (cond (tPa σ).1 (kpN n) n) (cond (tPa σ).1 (va_up τ (kpS o n) σ) τ)) (va_A (wS h ad aa cI cR σ o n τ) sz)) 0 0 (va_A (wS h ad aa cI cR σ o n τ) sz) := by
  exact c_X3_patchAll l D cI cR h ad aa σ o n τ (fun _ => 0) 0 (fun _ => 0) 0  hw ho hn h4 sz
theorem c_X3_beginT (l : Launch) (D : va_G) (cI cR : ClassId) (h : Nat) (ad : Nat → Nat) (aa : Nat → Nat → Nat) (σ : Nat → Nat) (o : Nat) (n : Nat) (τ : Nat → Nat → Nat) (x : Int32) (y : Int32) (z : Int32)  (hw : wf σ) (ho : o < 5) (hn : n ≤ 5) (sz : Nat) : Met l yX3_begin (wsC yX3_begin cX3_begin 5 (some .int)) (rmK 3 82) (nPreM D (nTy cI cR) [.ref h, .int x, .int y, .int z] (wS h ad aa cI cR σ o n τ) sz) (QcM D (some (.int ((tBg σ x y z).2.2))) (wS h ad aa cI cR (cond (tBg σ x y z).1 (tBg σ x y z).2.1 σ) (cond (tBg σ x y z).1 (kpO o n) o) (cond (tBg σ x y z).1 (kpN n) n) (cond (tBg σ x y z).1 (va_up τ (kpS o n) σ) τ)) (va_A (wS h ad aa cI cR σ o n τ) sz)) 0 0 (va_A (wS h ad aa cI cR σ o n τ) sz) := by
  exact c_X3_begin l D cI cR h ad aa σ o n τ (fun _ => 0) 0 (fun _ => 0) 0 x y z hw ho hn sz
theorem c_X3_economizeW (l : Launch) (D : va_G) (cI cR : ClassId) (h : Nat) (ad : Nat → Nat) (aa : Nat → Nat → Nat) (σ : Nat → Nat) (o : Nat) (n : Nat) (τ : Nat → Nat → Nat)   (hw : wf σ) (ho : o < 5) (hn : n ≤ 5) (sz : Nat) : Met l yX3_economize (wsC yX3_economize cX3_economize 1 (some .int)) (rmK 3 82) (nPreM D (nTy cI cR) [.ref h] (wS h ad aa cI cR σ o n τ) sz) (QcM D (some (.int (nI (mcC σ (nW σ))))) (wS h ad aa cI cR (ecS σ) (kpO o n) (kpN n) (va_up τ (kpS o n) σ)) (va_A (wS h ad aa cI cR σ o n τ) sz)) 0 0 (va_A (wS h ad aa cI cR σ o n τ) sz) := by
  exact c_X3_economize l D cI cR h ad aa σ o n τ (fun _ => 0) 0 (fun _ => 0) 0  hw ho hn sz
theorem c_X3_crossN (l : Launch) (D : va_G) (cI cR : ClassId) (h : Nat) (ad : Nat → Nat) (aa : Nat → Nat → Nat) (σ : Nat → Nat) (o : Nat) (n : Nat) (τ : Nat → Nat → Nat) (w : Nat)  (hw : wf σ) (ho : o < 5) (hn : n ≤ 5) (h8 : 8 ≤ w) (h1 : w < nW σ) (sz : Nat) : Met l yX3_cross (wsC yX3_cross cX3_cross 2 (some .int)) (rmK 3 82) (nPreM D (nTy cI cR) [.ref h, .int (nI w)] (wS h ad aa cI cR σ o n τ) sz) (QcM D (some (.int (nI (1 - crN σ w)))) (wS h ad aa cI cR (flS σ w) (kpO o n) (kpN n) (va_up τ (kpS o n) σ)) (va_A (wS h ad aa cI cR σ o n τ) sz)) 0 0 (va_A (wS h ad aa cI cR σ o n τ) sz) := by
  have q := c_X3_cross l D cI cR h ad aa σ o n τ (fun _ => 0) 0 (fun _ => 0) 0 (nI (w)) hw ho hn sz
  unfold aCross at q
  rw [show inB (nI w) (nW σ) = true from inB_nI h1 (Nat.lt_of_le_of_lt hw.w41 (by decide))] at q
  rw [show inB (nI w) 8 = false from inB_ge (by decide) (nI_le h8 (Nat.lt_trans h1 (Nat.lt_of_le_of_lt hw.w41 (by decide))))] at q
  rw [show cl (nI w) = w from cl_nI (Nat.lt_trans h1 (Nat.lt_of_le_of_lt hw.w41 (by decide)))] at q
  exact q
theorem c_X3_spoilN (l : Launch) (D : va_G) (cI cR : ClassId) (h : Nat) (ad : Nat → Nat) (aa : Nat → Nat → Nat) (σ : Nat → Nat) (o : Nat) (n : Nat) (τ : Nat → Nat → Nat) (w : Nat) (r : Nat)  (hw : wf σ) (ho : o < 5) (hn : n ≤ 5) (h1 : w < nW σ) (h2 : r < σ 0) (sz : Nat) : Met l yX3_spoil (wsC yX3_spoil cX3_spoil 3 (some .int)) (rmK 3 82) (nPreM D (nTy cI cR) [.ref h, .int (nI w), .int (nI r)] (wS h ad aa cI cR σ o n τ) sz) (QcM D (some (.int (nI (((σ (100 + w) ^^^ 1 <<< r).testBit r).toNat)))) (wS h ad aa cI cR (spS σ w r) (kpO o n) (kpN n) (va_up τ (kpS o n) σ)) (va_A (wS h ad aa cI cR σ o n τ) sz)) 0 0 (va_A (wS h ad aa cI cR σ o n τ) sz) := by
  have q := c_X3_spoil l D cI cR h ad aa σ o n τ (fun _ => 0) 0 (fun _ => 0) 0 (nI (w)) (nI (r)) hw ho hn sz
  unfold aSpoil at q
  rw [show inB (nI w) (nW σ) = true from inB_nI h1 (Nat.lt_of_le_of_lt hw.w41 (by decide))] at q
  rw [show inB (nI r) (σ 0) = true from inB_nI h2 (Nat.lt_of_le_of_lt hw.2.1 (by decide))] at q
  rw [show cl (nI w) = w from cl_nI (Nat.lt_trans h1 (Nat.lt_of_le_of_lt hw.w41 (by decide)))] at q
  rw [show cl (nI r) = r from cl_nI (Nat.lt_trans h2 (Nat.lt_of_le_of_lt hw.2.1 (by decide)))] at q
  exact q
theorem c_X3_undoN (l : Launch) (D : va_G) (cI cR : ClassId) (h : Nat) (ad : Nat → Nat) (aa : Nat → Nat → Nat) (σ : Nat → Nat) (o : Nat) (n : Nat) (τ : Nat → Nat → Nat)   (hw : wf σ) (ho : o < 5) (hn : n ≤ 5) (hn1 : 1 ≤ n) (sz : Nat) : Met l yX3_undo (wsC yX3_undo cX3_undo 1 (some .int)) (rmK 3 82) (nPreM D (nTy cI cR) [.ref h] (wS h ad aa cI cR σ o n τ) sz) (QcM D (some (.int (nI (n - 1)))) (wS h ad aa cI cR (τ ((o + (n - 1)) % 5)) o (n - 1) τ) (va_A (wS h ad aa cI cR σ o n τ) sz)) 0 0 (va_A (wS h ad aa cI cR σ o n τ) sz) := by
  have q := c_X3_undo l D cI cR h ad aa σ o n τ (fun _ => 0) 0 (fun _ => 0) 0  hw ho hn sz
  rw [show (n == 0) = false from beq_eq_false_iff_ne.mpr (by omega)] at q
  exact q
theorem c_X3_undo0 (l : Launch) (D : va_G) (cI cR : ClassId) (h : Nat) (ad : Nat → Nat) (aa : Nat → Nat → Nat) (σ : Nat → Nat) (o : Nat) (τ : Nat → Nat → Nat)   (hw : wf σ) (ho : o < 5) (sz : Nat) : Met l yX3_undo (wsC yX3_undo cX3_undo 1 (some .int)) (rmK 3 82) (nPreM D (nTy cI cR) [.ref h] (wS h ad aa cI cR σ o 0 τ) sz) (QcM D (some (.int (-4))) (wS h ad aa cI cR σ o 0 τ) (va_A (wS h ad aa cI cR σ o 0 τ) sz)) 0 0 (va_A (wS h ad aa cI cR σ o 0 τ) sz) := by
  exact c_X3_undo l D cI cR h ad aa σ o 0 τ (fun _ => 0) 0 (fun _ => 0) 0  hw ho (Nat.zero_le 5) sz
theorem c_X3_undoK (l : Launch) (D : va_G) (cI cR : ClassId) (h : Nat) (ad : Nat → Nat) (aa : Nat → Nat → Nat) (σ2 : Nat → Nat) (o : Nat) (n : Nat) (τ : Nat → Nat → Nat) (σ : Nat → Nat)   (hw : wf σ2) (ho : o < 5) (hn : n ≤ 5) (sz : Nat) : Met l yX3_undo (wsC yX3_undo cX3_undo 1 (some .int)) (rmK 3 82) (nPreM D (nTy cI cR) [.ref h] (wS h ad aa cI cR σ2 (kpO o n) (kpN n) (va_up τ (kpS o n) σ)) sz) (QcM D (some (.int (nI (kpN n - 1)))) (wS h ad aa cI cR σ (kpO o n) (kpN n - 1) (va_up τ (kpS o n) σ)) (va_A (wS h ad aa cI cR σ2 (kpO o n) (kpN n) (va_up τ (kpS o n) σ)) sz)) 0 0 (va_A (wS h ad aa cI cR σ2 (kpO o n) (kpN n) (va_up τ (kpS o n) σ)) sz) := by
  have q := c_X3_undo l D cI cR h ad aa σ2 (kpO o n) (kpN n) (va_up τ (kpS o n) σ) (fun _ => 0) 0 (fun _ => 0) 0  hw (kpO_lt ho) (kpN_le hn) sz
  rw [show (kpN n == 0) = false from beq_eq_false_iff_ne.mpr (by have := kpN_pos n; omega)] at q
  rw [show va_up τ (kpS o n) σ ((kpO o n + (kpN n - 1)) % 5) = σ from kp_back ho hn τ σ] at q
  exact q
theorem c_X3_load0 (l : Launch) (D : va_G) (cI cR : ClassId) (h : Nat) (ad : Nat → Nat) (aa : Nat → Nat → Nat) (σ : Nat → Nat) (o : Nat) (n : Nat) (τ : Nat → Nat → Nat)   (hw : wf σ) (ho : o < 5) (hn : n ≤ 5) (sz : Nat) : Met l yX3_load (wsC yX3_load cX3_load 3 (some .int)) (rmK 3 82) (nPreM D (nTy cI cR) [.ref h] (wS h ad aa cI cR σ o n τ) sz) (QcM D (some (.int (-4))) (wS h ad aa cI cR σ o n τ) (va_A (wS h ad aa cI cR σ o n τ) sz)) 0 0 (va_A (wS h ad aa cI cR σ o n τ) sz) := by
  have q := c_X3_load l D cI cR h ad aa σ o n τ (fun _ => 0) 0 (fun _ => 0) 0  hw ho hn (fun i hi => absurd hi (Nat.not_lt_zero i)) (by decide) sz
  rw [show (scRes (fun _ => 0) (nA σ) (1 <<< σ 1 - 1) (fun _ => 0) 0 == -1) = false from rfl] at q
  exact q
theorem c_X3_beginE (l : Launch) (D : va_G) (cI cR : ClassId) (h : Nat) (ad : Nat → Nat) (aa : Nat → Nat → Nat) (σ : Nat → Nat) (o : Nat) (n : Nat) (τ : Nat → Nat → Nat) (x : Nat) (y : Nat) (z : Nat)  (hw : wf σ) (ho : o < 5) (hn : n ≤ 5) (h1 : x = 1) (sz : Nat) : Met l yX3_begin (wsC yX3_begin cX3_begin 5 (some .int)) (rmK 3 82) (nPreM D (nTy cI cR) [.ref h, .int (nI x), .int (nI y), .int (nI z)] (wS h ad aa cI cR σ o n τ) sz) (QcM D (some (.int (-3))) (wS h ad aa cI cR σ o n τ) (va_A (wS h ad aa cI cR σ o n τ) sz)) 0 0 (va_A (wS h ad aa cI cR σ o n τ) sz) := by
  have q := c_X3_begin l D cI cR h ad aa σ o n τ (fun _ => 0) 0 (fun _ => 0) 0 (nI (x)) (nI (y)) (nI (z)) hw ho hn sz
  rw [show ok3 (nI x) (nI y) (nI z) = false from by subst h1; rfl] at q
  exact q
theorem c_X3_setCodeE1 (l : Launch) (D : va_G) (cI cR : ClassId) (h : Nat) (ad : Nat → Nat) (aa : Nat → Nat → Nat) (σ : Nat → Nat) (o : Nat) (n : Nat) (τ : Nat → Nat → Nat) (x : Nat) (y : Nat)  (hw : wf σ) (ho : o < 5) (hn : n ≤ 5) (h1 : x = σ 0) (sz : Nat) : Met l yX3_setCode (wsC yX3_setCode cX3_setCode 5 (some .int)) (rmK 3 82) (nPreM D (nTy cI cR) [.ref h, .int (nI x), .int (nI y)] (wS h ad aa cI cR σ o n τ) sz) (QcM D (some (.int (-2))) (wS h ad aa cI cR σ o n τ) (va_A (wS h ad aa cI cR σ o n τ) sz)) 0 0 (va_A (wS h ad aa cI cR σ o n τ) sz) := by
  have q := c_X3_setCode l D cI cR h ad aa σ o n τ (fun _ => 0) 0 (fun _ => 0) 0 (nI (x)) (nI (y)) hw ho hn sz
  unfold aSetCode at q
  rw [show inB (nI x) (σ 0) = false from by subst h1; exact inB_ge (Nat.lt_of_le_of_lt hw.2.1 (by decide)) (Int32.le_refl _)] at q
  exact q
theorem c_X3_setCodeE2 (l : Launch) (D : va_G) (cI cR : ClassId) (h : Nat) (ad : Nat → Nat) (aa : Nat → Nat → Nat) (σ : Nat → Nat) (o : Nat) (n : Nat) (τ : Nat → Nat → Nat) (x : Nat) (y : Nat)  (hw : wf σ) (ho : o < 5) (hn : n ≤ 5) (h1 : x = 0) (h2 : y = 16) (sz : Nat) : Met l yX3_setCode (wsC yX3_setCode cX3_setCode 5 (some .int)) (rmK 3 82) (nPreM D (nTy cI cR) [.ref h, .int (nI x), .int (nI y)] (wS h ad aa cI cR σ o n τ) sz) (QcM D (some (.int (-3))) (wS h ad aa cI cR σ o n τ) (va_A (wS h ad aa cI cR σ o n τ) sz)) 0 0 (va_A (wS h ad aa cI cR σ o n τ) sz) := by
  have q := c_X3_setCode l D cI cR h ad aa σ o n τ (fun _ => 0) 0 (fun _ => 0) 0 (nI (x)) (nI (y)) hw ho hn sz
  unfold aSetCode at q
  rw [show inB (nI x) (σ 0) = true from by subst h1; exact inB_nI (by have := hw.1; omega) (Nat.lt_of_le_of_lt hw.2.1 (by decide))] at q
  rw [show inB (nI y) 16 = false from by subst h2; rfl] at q
  exact q
theorem c_X3_weaveE1 (l : Launch) (D : va_G) (cI cR : ClassId) (h : Nat) (ad : Nat → Nat) (aa : Nat → Nat → Nat) (σ : Nat → Nat) (o : Nat) (n : Nat) (τ : Nat → Nat → Nat) (x : Nat) (y : Nat)  (hw : wf σ) (ho : o < 5) (hn : n ≤ 5) (h1 : x = nA σ) (sz : Nat) : Met l yX3_weave (wsC yX3_weave cX3_weave 4 (some .int)) (rmK 3 82) (nPreM D (nTy cI cR) [.ref h, .int (nI x), .int (nI y)] (wS h ad aa cI cR σ o n τ) sz) (QcM D (some (.int (-2))) (wS h ad aa cI cR σ o n τ) (va_A (wS h ad aa cI cR σ o n τ) sz)) 0 0 (va_A (wS h ad aa cI cR σ o n τ) sz) := by
  have q := c_X3_weave l D cI cR h ad aa σ o n τ (fun _ => 0) 0 (fun _ => 0) 0 (nI (x)) (nI (y)) hw ho hn sz
  unfold aWeave at q
  rw [show inB (nI x) (nA σ) = false from by subst h1; exact inB_ge (Nat.lt_of_le_of_lt hw.a48 (by decide)) (Int32.le_refl _)] at q
  exact q
theorem c_X3_weaveE2 (l : Launch) (D : va_G) (cI cR : ClassId) (h : Nat) (ad : Nat → Nat) (aa : Nat → Nat → Nat) (σ : Nat → Nat) (o : Nat) (n : Nat) (τ : Nat → Nat → Nat) (x : Nat) (y : Nat)  (hw : wf σ) (ho : o < 5) (hn : n ≤ 5) (h1 : x < nA σ) (h2 : y = 1 <<< σ 1) (sz : Nat) : Met l yX3_weave (wsC yX3_weave cX3_weave 4 (some .int)) (rmK 3 82) (nPreM D (nTy cI cR) [.ref h, .int (nI x), .int (nI y)] (wS h ad aa cI cR σ o n τ) sz) (QcM D (some (.int (-3))) (wS h ad aa cI cR σ o n τ) (va_A (wS h ad aa cI cR σ o n τ) sz)) 0 0 (va_A (wS h ad aa cI cR σ o n τ) sz) := by
  have q := c_X3_weave l D cI cR h ad aa σ o n τ (fun _ => 0) 0 (fun _ => 0) 0 (nI (x)) (nI (y)) hw ho hn sz
  unfold aWeave at q
  rw [show inB (nI x) (nA σ) = true from inB_nI h1 (Nat.lt_of_le_of_lt hw.a48 (by decide))] at q
  rw [show inB (nI y) (2 ^ σ 1) = false from by subst h2; rw [sh1]; exact inB_ge (Nat.lt_of_le_of_lt (p2_10 hw.2.2.2.1) (by decide)) (Int32.le_refl _)] at q
  exact q
theorem c_X3_crossE1 (l : Launch) (D : va_G) (cI cR : ClassId) (h : Nat) (ad : Nat → Nat) (aa : Nat → Nat → Nat) (σ : Nat → Nat) (o : Nat) (n : Nat) (τ : Nat → Nat → Nat) (x : Nat)  (hw : wf σ) (ho : o < 5) (hn : n ≤ 5) (h1 : x = nW σ) (sz : Nat) : Met l yX3_cross (wsC yX3_cross cX3_cross 2 (some .int)) (rmK 3 82) (nPreM D (nTy cI cR) [.ref h, .int (nI x)] (wS h ad aa cI cR σ o n τ) sz) (QcM D (some (.int (-2))) (wS h ad aa cI cR σ o n τ) (va_A (wS h ad aa cI cR σ o n τ) sz)) 0 0 (va_A (wS h ad aa cI cR σ o n τ) sz) := by
  have q := c_X3_cross l D cI cR h ad aa σ o n τ (fun _ => 0) 0 (fun _ => 0) 0 (nI (x)) hw ho hn sz
  unfold aCross at q
  rw [show inB (nI x) (nW σ) = false from by subst h1; exact inB_ge (Nat.lt_of_le_of_lt hw.w41 (by decide)) (Int32.le_refl _)] at q
  exact q
theorem c_X3_crossE2 (l : Launch) (D : va_G) (cI cR : ClassId) (h : Nat) (ad : Nat → Nat) (aa : Nat → Nat → Nat) (σ : Nat → Nat) (o : Nat) (n : Nat) (τ : Nat → Nat → Nat) (x : Nat)  (hw : wf σ) (ho : o < 5) (hn : n ≤ 5) (h1 : x < 8) (sz : Nat) : Met l yX3_cross (wsC yX3_cross cX3_cross 2 (some .int)) (rmK 3 82) (nPreM D (nTy cI cR) [.ref h, .int (nI x)] (wS h ad aa cI cR σ o n τ) sz) (QcM D (some (.int (-4))) (wS h ad aa cI cR σ o n τ) (va_A (wS h ad aa cI cR σ o n τ) sz)) 0 0 (va_A (wS h ad aa cI cR σ o n τ) sz) := by
  have q := c_X3_cross l D cI cR h ad aa σ o n τ (fun _ => 0) 0 (fun _ => 0) 0 (nI (x)) hw ho hn sz
  unfold aCross at q
  rw [show inB (nI x) (nW σ) = true from inB_nI (Nat.lt_of_lt_of_le h1 (nW8 σ)) (Nat.lt_of_le_of_lt hw.w41 (by decide))] at q
  rw [show inB (nI x) 8 = true from inB_nI h1 (by decide)] at q
  exact q
theorem c_X3_patchE (l : Launch) (D : va_G) (cI cR : ClassId) (h : Nat) (ad : Nat → Nat) (aa : Nat → Nat → Nat) (σ : Nat → Nat) (o : Nat) (n : Nat) (τ : Nat → Nat → Nat) (x : Nat) (y : Int32)  (hw : wf σ) (ho : o < 5) (hn : n ≤ 5) (h4 : pcN σ ≤ 4) (h1 : x < nA σ) (h2 : y = -1) (sz : Nat) : Met l yX3_patch (wsC yX3_patch cX3_patch 3 (some .int)) (rmK 3 82) (nPreM D (nTy cI cR) [.ref h, .int (nI x), .int y] (wS h ad aa cI cR σ o n τ) sz) (QcM D (some (.int (-3))) (wS h ad aa cI cR σ o n τ) (va_A (wS h ad aa cI cR σ o n τ) sz)) 0 0 (va_A (wS h ad aa cI cR σ o n τ) sz) := by
  have q := c_X3_patch l D cI cR h ad aa σ o n τ (fun _ => 0) 0 (fun _ => 0) 0 (nI (x)) y hw ho hn h4 sz
  unfold aPatch at q
  rw [show inB (nI x) (nA σ) = true from inB_nI h1 (Nat.lt_of_le_of_lt hw.a48 (by decide))] at q
  rw [show inB y (2 ^ σ 1) = false from by subst h2; exact inB_neg (by decide)] at q
  exact q
theorem c_X3_unpatchE (l : Launch) (D : va_G) (cI cR : ClassId) (h : Nat) (ad : Nat → Nat) (aa : Nat → Nat → Nat) (σ : Nat → Nat) (o : Nat) (n : Nat) (τ : Nat → Nat → Nat) (x : Nat)  (hw : wf σ) (ho : o < 5) (hn : n ≤ 5) (h1 : x < nA σ) (h2 : σ (141 + x) = 0) (sz : Nat) : Met l yX3_unpatch (wsC yX3_unpatch cX3_unpatch 2 (some .int)) (rmK 3 82) (nPreM D (nTy cI cR) [.ref h, .int (nI x)] (wS h ad aa cI cR σ o n τ) sz) (QcM D (some (.int (-4))) (wS h ad aa cI cR σ o n τ) (va_A (wS h ad aa cI cR σ o n τ) sz)) 0 0 (va_A (wS h ad aa cI cR σ o n τ) sz) := by
  have q := c_X3_unpatch l D cI cR h ad aa σ o n τ (fun _ => 0) 0 (fun _ => 0) 0 (nI (x)) hw ho hn sz
  unfold aUnpatch at q
  rw [show inB (nI x) (nA σ) = true from inB_nI h1 (Nat.lt_of_le_of_lt hw.a48 (by decide))] at q
  rw [show cl (nI x) = x from cl_nI (Nat.lt_trans h1 (Nat.lt_of_le_of_lt hw.a48 (by decide)))] at q
  rw [show σ (141 + x) = 0 from h2] at q
  exact q
