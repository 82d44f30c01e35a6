set_option maxHeartbeats 4000000 in
set_option maxRecDepth 100000 in
theorem c_X3_code (l : Launch) (D : va_G) (cI cR : ClassId) (h : Nat) (ad : Nat → Nat) (aa : Nat → Nat → Nat) (σ : Nat → Nat) (o : Nat) (n : Nat) (τ : Nat → Nat → Nat) (b : Nat → Nat) (ln : Nat) (g : Nat → Nat) (fo0 : Nat) (x : Int32)  (hw : wf σ) : MetR l yX3_code cX3_code 2 (some .int) (rmK 1 23) (nPre D (nTy cI cR) [.ref h, .int x] (wCR h ad aa cI cR σ o n τ b ln g fo0)) (aCode σ x) := by
  refine met_read rfl (Nat.le_of_ble_eq_true rfl) ?_
  intro p e s m args below meth c ls hx hb hml hr hlocks hown hts hP hK hl
  have hl : lv_has ls 2 [(0, .ref h), (1, .int x)] := hl
  have hA41 := hw.w41
  have hA33 := hw.a33
  have hA48 := hw.a48
  obtain ⟨hR2, hR, hB1, hB, hSa, hSb, -⟩ := id hw
  have h1024 := p2_10 hB
  refine lv_aload_n hx hb dX3_code_0 rfl (lv_at hl 0 rfl) ?_
  refine va_get (D := D) (ci := 3) (v := .ref (ad 0)) (C := RX3) (T := TX3) (N := 3) hx hb hts inX3 hown hK hP 0 rfl rfl 0 (by decide) (hts _ fl_RX3_12) (fun _ h9 => h9) rfl dX3_code_1 ?_
  refine lv_iload_n hx hb dX3_code_4 rfl (lv_at hl 1 rfl) ?_
  refine nv_callV [.int x] [] hx hb hml hown hts k_RX3_46 (c_X1_hasRingS l D cI cR (ad 0) ((aa 0)) σ x hw) ⟨rfl, rfl, Nat.le_of_ble_eq_true rfl, Nat.le_of_ble_eq_true rfl⟩ (hP.sub [1, 2, 3, 4, 5] rfl) hK 1 rfl rfl rfl rfl hl rfl (Nat.le_of_ble_eq_true rfl) dX3_code_5 ⟨Nat.zero_le _, Nat.zero_le _⟩ ?_
  refine lv_if_eq (tgt := 22) hx hb dX3_code_8 (by decide) (fun q_8 => ?_) (fun q_8 => ?_)
  · refine lv_bipush (v := -2) hx hb dX3_code_22 (by decide) ?_
    exact nv_ret hx hb hr hlocks (by unfold aCode; rw [show inB x (σ 0) = false from zB_eq0 q_8] <;> rfl) dX3_code_24
  · obtain ⟨hk1, hx1⟩ := inB_cl (by omega) (zB_ne0 q_8)
    have hl := lv_repl [(0, .ref h), (1, .int (nI (cl x)))] 1 rfl (congrArg (fun z : Int32 => Value.int z) (show x = nI (cl x) from hx1)) rfl hl
    refine lv_aload_n hx hb dX3_code_11 rfl (lv_at hl 0 rfl) ?_
    refine va_get (D := D) (ci := 3) (v := .ref (ad 0)) (C := RX3) (T := TX3) (N := 3) hx hb hts inX3 hown hK hP 0 rfl rfl 0 (by decide) (hts _ fl_RX3_12) (fun _ h9 => h9) rfl dX3_code_12 ?_
    refine lv_iload_n hx hb dX3_code_15 rfl (lv_at hl 1 rfl) ?_
    refine nv_callV [.int (nI (cl x))] [] hx hb hml hown hts k_RX3_53 (c_X1_codeOf l D cI cR (ad 0) ((aa 0)) σ (cl x) hw hk1) ⟨rfl, rfl, Nat.le_of_ble_eq_true rfl, Nat.le_of_ble_eq_true rfl⟩ (hP.sub [1, 2, 3, 4, 5] rfl) hK 1 rfl rfl rfl rfl hl rfl (Nat.le_of_ble_eq_true rfl) dX3_code_16 ⟨Nat.zero_le _, Nat.zero_le _⟩ ?_
    refine lv_goto (tgt := 24) hx hb dX3_code_19 (by decide) ?_
    exact nv_ret hx hb hr hlocks (by unfold aCode; rw [show inB x (σ 0) = true from zB_ne0 q_8] <;> rfl) dX3_code_24
set_option maxHeartbeats 4000000 in
set_option maxRecDepth 100000 in
theorem c_X3_word (l : Launch) (D : va_G) (cI cR : ClassId) (h : Nat) (ad : Nat → Nat) (aa : Nat → Nat → Nat) (σ : Nat → Nat) (o : Nat) (n : Nat) (τ : Nat → Nat → Nat) (b : Nat → Nat) (ln : Nat) (g : Nat → Nat) (fo0 : Nat) (x : Int32)  (hw : wf σ) : MetR l yX3_word cX3_word 2 (some .int) (rmK 3 70) (nPre D (nTy cI cR) [.ref h, .int x] (wCR h ad aa cI cR σ o n τ b ln g fo0)) (aWord σ x) := by
  refine met_read rfl (Nat.le_of_ble_eq_true rfl) ?_
  intro p e s m args below meth c ls hx hb hml hr hlocks hown hts hP hK hl
  have hl : lv_has ls 2 [(0, .ref h), (1, .int x)] := hl
  have hA41 := hw.w41
  have hA33 := hw.a33
  have hA48 := hw.a48
  obtain ⟨hR2, hR, hB1, hB, hSa, hSb, -⟩ := id hw
  have h1024 := p2_10 hB
  refine lv_aload_n hx hb dX3_word_0 rfl (lv_at hl 0 rfl) ?_
  refine va_get (D := D) (ci := 3) (v := .ref (ad 0)) (C := RX3) (T := TX3) (N := 3) hx hb hts inX3 hown hK hP 0 rfl rfl 0 (by decide) (hts _ fl_RX3_12) (fun _ h9 => h9) rfl dX3_word_1 ?_
  refine lv_iload_n hx hb dX3_word_4 rfl (lv_at hl 1 rfl) ?_
  refine nv_callV [.int x] [] hx hb hml hown hts k_RX3_60 (c_X1_hasAddressS l D cI cR (ad 0) ((aa 0)) σ x hw) ⟨rfl, rfl, Nat.le_of_ble_eq_true rfl, Nat.le_of_ble_eq_true rfl⟩ (hP.sub [1, 2, 3, 4, 5] rfl) hK 1 rfl rfl rfl rfl hl rfl (Nat.le_of_ble_eq_true rfl) dX3_word_5 ⟨Nat.zero_le _, Nat.zero_le _⟩ ?_
  refine lv_if_eq (tgt := 22) hx hb dX3_word_8 (by decide) (fun q_8 => ?_) (fun q_8 => ?_)
  · refine lv_bipush (v := -2) hx hb dX3_word_22 (by decide) ?_
    exact nv_ret hx hb hr hlocks (by unfold aWord; rw [show inB x (nA σ) = false from zB_eq0 q_8] <;> rfl) dX3_word_24
  · obtain ⟨hk1, hx1⟩ := inB_cl (by omega) (zB_ne0 q_8)
    have hl := lv_repl [(0, .ref h), (1, .int (nI (cl x)))] 1 rfl (congrArg (fun z : Int32 => Value.int z) (show x = nI (cl x) from hx1)) rfl hl
    refine lv_aload_n hx hb dX3_word_11 rfl (lv_at hl 0 rfl) ?_
    refine va_get (D := D) (ci := 3) (v := .ref (ad 0)) (C := RX3) (T := TX3) (N := 3) hx hb hts inX3 hown hK hP 0 rfl rfl 0 (by decide) (hts _ fl_RX3_12) (fun _ h9 => h9) rfl dX3_word_12 ?_
    refine lv_iload_n hx hb dX3_word_15 rfl (lv_at hl 1 rfl) ?_
    refine nv_callV [.int (nI (cl x))] [] hx hb hml hown hts k_RX3_66 (c_X1_wordAt l D cI cR (ad 0) ((aa 0)) σ (cl x) hw hk1) ⟨rfl, rfl, Nat.le_of_ble_eq_true rfl, Nat.le_of_ble_eq_true rfl⟩ (hP.sub [1, 2, 3, 4, 5] rfl) hK 1 rfl rfl rfl rfl hl rfl (Nat.le_of_ble_eq_true rfl) dX3_word_16 ⟨Nat.zero_le _, Nat.zero_le _⟩ ?_
    refine lv_goto (tgt := 24) hx hb dX3_word_19 (by decide) ?_
    exact nv_ret hx hb hr hlocks (by unfold aWord; rw [show inB x (nA σ) = true from zB_ne0 q_8] <;> rfl) dX3_word_24
set_option maxHeartbeats 4000000 in
set_option maxRecDepth 100000 in
theorem c_X3_cost (l : Launch) (D : va_G) (cI cR : ClassId) (h : Nat) (ad : Nat → Nat) (aa : Nat → Nat → Nat) (σ : Nat → Nat) (o : Nat) (n : Nat) (τ : Nat → Nat → Nat) (b : Nat → Nat) (ln : Nat) (g : Nat → Nat) (fo0 : Nat) (x : Int32)  (hw : wf σ) : MetR l yX3_cost cX3_cost 2 (some .int) (rmK 2 42) (nPre D (nTy cI cR) [.ref h, .int x] (wCR h ad aa cI cR σ o n τ b ln g fo0)) (aCost σ x) := by
  refine met_read rfl (Nat.le_of_ble_eq_true rfl) ?_
  intro p e s m args below meth c ls hx hb hml hr hlocks hown hts hP hK hl
  have hl : lv_has ls 2 [(0, .ref h), (1, .int x)] := hl
  have hA41 := hw.w41
  have hA33 := hw.a33
  have hA48 := hw.a48
  obtain ⟨hR2, hR, hB1, hB, hSa, hSb, -⟩ := id hw
  have h1024 := p2_10 hB
  refine lv_aload_n hx hb dX3_cost_0 rfl (lv_at hl 0 rfl) ?_
  refine va_get (D := D) (ci := 3) (v := .ref (ad 0)) (C := RX3) (T := TX3) (N := 3) hx hb hts inX3 hown hK hP 0 rfl rfl 0 (by decide) (hts _ fl_RX3_12) (fun _ h9 => h9) rfl dX3_cost_1 ?_
  refine lv_iload_n hx hb dX3_cost_4 rfl (lv_at hl 1 rfl) ?_
  refine nv_callV [.int x] [] hx hb hml hown hts k_RX3_72 (c_X1_hasWireS l D cI cR (ad 0) ((aa 0)) σ x hw) ⟨rfl, rfl, Nat.le_of_ble_eq_true rfl, Nat.le_of_ble_eq_true rfl⟩ (hP.sub [1, 2, 3, 4, 5] rfl) hK 1 rfl rfl rfl rfl hl rfl (Nat.le_of_ble_eq_true rfl) dX3_cost_5 ⟨Nat.zero_le _, Nat.zero_le _⟩ ?_
  refine lv_if_eq (tgt := 22) hx hb dX3_cost_8 (by decide) (fun q_8 => ?_) (fun q_8 => ?_)
  · refine lv_bipush (v := -2) hx hb dX3_cost_22 (by decide) ?_
    exact nv_ret hx hb hr hlocks (by unfold aCost; rw [show inB x (nW σ) = false from zB_eq0 q_8] <;> rfl) dX3_cost_24
  · obtain ⟨hk1, hx1⟩ := inB_cl (by omega) (zB_ne0 q_8)
    have hl := lv_repl [(0, .ref h), (1, .int (nI (cl x)))] 1 rfl (congrArg (fun z : Int32 => Value.int z) (show x = nI (cl x) from hx1)) rfl hl
    refine lv_aload_n hx hb dX3_cost_11 rfl (lv_at hl 0 rfl) ?_
    refine va_get (D := D) (ci := 3) (v := .ref (ad 0)) (C := RX3) (T := TX3) (N := 3) hx hb hts inX3 hown hK hP 0 rfl rfl 0 (by decide) (hts _ fl_RX3_12) (fun _ h9 => h9) rfl dX3_cost_12 ?_
    refine lv_iload_n hx hb dX3_cost_15 rfl (lv_at hl 1 rfl) ?_
    refine nv_callV [.int (nI (cl x))] [] hx hb hml hown hts k_RX3_82 (c_X1_costOf l D cI cR (ad 0) ((aa 0)) σ (cl x) hw hk1) ⟨rfl, rfl, Nat.le_of_ble_eq_true rfl, Nat.le_of_ble_eq_true rfl⟩ (hP.sub [1, 2, 3, 4, 5] rfl) hK 1 rfl rfl rfl rfl hl rfl (Nat.le_of_ble_eq_true rfl) dX3_cost_16 ⟨Nat.zero_le _, Nat.zero_le _⟩ ?_
    refine lv_goto (tgt := 24) hx hb dX3_cost_19 (by decide) ?_
    exact nv_ret hx hb hr hlocks (by unfold aCost; rw [show inB x (nW σ) = true from zB_ne0 q_8] <;> rfl) dX3_cost_24
set_option maxHeartbeats 4000000 in
set_option maxRecDepth 100000 in
theorem c_X3_read (l : Launch) (D : va_G) (cI cR : ClassId) (h : Nat) (ad : Nat → Nat) (aa : Nat → Nat → Nat) (σ : Nat → Nat) (o : Nat) (n : Nat) (τ : Nat → Nat → Nat) (b : Nat → Nat) (ln : Nat) (g : Nat → Nat) (fo0 : Nat) (x : Int32)  (hw : wf σ) : MetR l yX3_read cX3_read 2 (some .int) (rmK 3 71) (nPre D (nTy cI cR) [.ref h, .int x] (wCR h ad aa cI cR σ o n τ b ln g fo0)) (aRead σ x) := by
  refine met_read rfl (Nat.le_of_ble_eq_true rfl) ?_
  intro p e s m args below meth c ls hx hb hml hr hlocks hown hts hP hK hl
  have hl : lv_has ls 2 [(0, .ref h), (1, .int x)] := hl
  have hA41 := hw.w41
  have hA33 := hw.a33
  have hA48 := hw.a48
  obtain ⟨hR2, hR, hB1, hB, hSa, hSb, -⟩ := id hw
  have h1024 := p2_10 hB
  refine lv_aload_n hx hb dX3_read_0 rfl (lv_at hl 0 rfl) ?_
  refine va_get (D := D) (ci := 3) (v := .ref (ad 0)) (C := RX3) (T := TX3) (N := 3) hx hb hts inX3 hown hK hP 0 rfl rfl 0 (by decide) (hts _ fl_RX3_12) (fun _ h9 => h9) rfl dX3_read_1 ?_
  refine lv_iload_n hx hb dX3_read_4 rfl (lv_at hl 1 rfl) ?_
  refine nv_callV [.int x] [] hx hb hml hown hts k_RX3_60 (c_X1_hasAddressS l D cI cR (ad 0) ((aa 0)) σ x hw) ⟨rfl, rfl, Nat.le_of_ble_eq_true rfl, Nat.le_of_ble_eq_true rfl⟩ (hP.sub [1, 2, 3, 4, 5] rfl) hK 1 rfl rfl rfl rfl hl rfl (Nat.le_of_ble_eq_true rfl) dX3_read_5 ⟨Nat.zero_le _, Nat.zero_le _⟩ ?_
  refine lv_if_eq (tgt := 22) hx hb dX3_read_8 (by decide) (fun q_8 => ?_) (fun q_8 => ?_)
  · refine lv_bipush (v := -2) hx hb dX3_read_22 (by decide) ?_
    exact nv_ret hx hb hr hlocks (by unfold aRead; rw [show inB x (nA σ) = false from zB_eq0 q_8] <;> rfl) dX3_read_24
  · obtain ⟨hk1, hx1⟩ := inB_cl (by omega) (zB_ne0 q_8)
    have hl := lv_repl [(0, .ref h), (1, .int (nI (cl x)))] 1 rfl (congrArg (fun z : Int32 => Value.int z) (show x = nI (cl x) from hx1)) rfl hl
    refine lv_aload_n hx hb dX3_read_11 rfl (lv_at hl 0 rfl) ?_
    refine va_get (D := D) (ci := 3) (v := .ref (ad 0)) (C := RX3) (T := TX3) (N := 3) hx hb hts inX3 hown hK hP 0 rfl rfl 0 (by decide) (hts _ fl_RX3_12) (fun _ h9 => h9) rfl dX3_read_12 ?_
    refine lv_iload_n hx hb dX3_read_15 rfl (lv_at hl 1 rfl) ?_
    refine nv_callV [.int (nI (cl x))] [] hx hb hml hown hts k_RX3_91 (c_X1_wordRead l D cI cR (ad 0) ((aa 0)) σ (cl x) hw hk1) ⟨rfl, rfl, Nat.le_of_ble_eq_true rfl, Nat.le_of_ble_eq_true rfl⟩ (hP.sub [1, 2, 3, 4, 5] rfl) hK 1 rfl rfl rfl rfl hl rfl (Nat.le_of_ble_eq_true rfl) dX3_read_16 ⟨Nat.zero_le _, Nat.zero_le _⟩ ?_
    refine lv_goto (tgt := 24) hx hb dX3_read_19 (by decide) ?_
    exact nv_ret hx hb hr hlocks (by unfold aRead; rw [show inB x (nA σ) = true from zB_ne0 q_8] <;> rfl) dX3_read_24
set_option maxHeartbeats 4000000 in
set_option maxRecDepth 100000 in
theorem c_X3_readRaw (l : Launch) (D : va_G) (cI cR : ClassId) (h : Nat) (ad : Nat → Nat) (aa : Nat → Nat → Nat) (σ : Nat → Nat) (o : Nat) (n : Nat) (τ : Nat → Nat → Nat) (b : Nat → Nat) (ln : Nat) (g : Nat → Nat) (fo0 : Nat) (x : Int32)  (hw : wf σ) : MetR l yX3_readRaw cX3_readRaw 2 (some .int) (rmK 3 71) (nPre D (nTy cI cR) [.ref h, .int x] (wCR h ad aa cI cR σ o n τ b ln g fo0)) (aRaw σ x) := by
  refine met_read rfl (Nat.le_of_ble_eq_true rfl) ?_
  intro p e s m args below meth c ls hx hb hml hr hlocks hown hts hP hK hl
  have hl : lv_has ls 2 [(0, .ref h), (1, .int x)] := hl
  have hA41 := hw.w41
  have hA33 := hw.a33
  have hA48 := hw.a48
  obtain ⟨hR2, hR, hB1, hB, hSa, hSb, -⟩ := id hw
  have h1024 := p2_10 hB
  refine lv_aload_n hx hb dX3_readRaw_0 rfl (lv_at hl 0 rfl) ?_
  refine va_get (D := D) (ci := 3) (v := .ref (ad 0)) (C := RX3) (T := TX3) (N := 3) hx hb hts inX3 hown hK hP 0 rfl rfl 0 (by decide) (hts _ fl_RX3_12) (fun _ h9 => h9) rfl dX3_readRaw_1 ?_
  refine lv_iload_n hx hb dX3_readRaw_4 rfl (lv_at hl 1 rfl) ?_
  refine nv_callV [.int x] [] hx hb hml hown hts k_RX3_60 (c_X1_hasAddressS l D cI cR (ad 0) ((aa 0)) σ x hw) ⟨rfl, rfl, Nat.le_of_ble_eq_true rfl, Nat.le_of_ble_eq_true rfl⟩ (hP.sub [1, 2, 3, 4, 5] rfl) hK 1 rfl rfl rfl rfl hl rfl (Nat.le_of_ble_eq_true rfl) dX3_readRaw_5 ⟨Nat.zero_le _, Nat.zero_le _⟩ ?_
  refine lv_if_eq (tgt := 22) hx hb dX3_readRaw_8 (by decide) (fun q_8 => ?_) (fun q_8 => ?_)
  · refine lv_bipush (v := -2) hx hb dX3_readRaw_22 (by decide) ?_
    exact nv_ret hx hb hr hlocks (by unfold aRaw; rw [show inB x (nA σ) = false from zB_eq0 q_8] <;> rfl) dX3_readRaw_24
  · obtain ⟨hk1, hx1⟩ := inB_cl (by omega) (zB_ne0 q_8)
    have hl := lv_repl [(0, .ref h), (1, .int (nI (cl x)))] 1 rfl (congrArg (fun z : Int32 => Value.int z) (show x = nI (cl x) from hx1)) rfl hl
    refine lv_aload_n hx hb dX3_readRaw_11 rfl (lv_at hl 0 rfl) ?_
    refine va_get (D := D) (ci := 3) (v := .ref (ad 0)) (C := RX3) (T := TX3) (N := 3) hx hb hts inX3 hown hK hP 0 rfl rfl 0 (by decide) (hts _ fl_RX3_12) (fun _ h9 => h9) rfl dX3_readRaw_12 ?_
    refine lv_iload_n hx hb dX3_readRaw_15 rfl (lv_at hl 1 rfl) ?_
    refine nv_callV [.int (nI (cl x))] [] hx hb hml hown hts k_RX3_94 (c_X1_rawWord l D cI cR (ad 0) ((aa 0)) σ (cl x) hw hk1) ⟨rfl, rfl, Nat.le_of_ble_eq_true rfl, Nat.le_of_ble_eq_true rfl⟩ (hP.sub [1, 2, 3, 4, 5] rfl) hK 1 rfl rfl rfl rfl hl rfl (Nat.le_of_ble_eq_true rfl) dX3_readRaw_16 ⟨Nat.zero_le _, Nat.zero_le _⟩ ?_
    refine lv_goto (tgt := 24) hx hb dX3_readRaw_19 (by decide) ?_
    exact nv_ret hx hb hr hlocks (by unfold aRaw; rw [show inB x (nA σ) = true from zB_ne0 q_8] <;> rfl) dX3_readRaw_24
set_option maxHeartbeats 4000000 in
set_option maxRecDepth 100000 in
theorem c_X3_patchOf (l : Launch) (D : va_G) (cI cR : ClassId) (h : Nat) (ad : Nat → Nat) (aa : Nat → Nat → Nat) (σ : Nat → Nat) (o : Nat) (n : Nat) (τ : Nat → Nat → Nat) (b : Nat → Nat) (ln : Nat) (g : Nat → Nat) (fo0 : Nat) (x : Int32)  (hw : wf σ) : MetR l yX3_patchOf cX3_patchOf 2 (some .int) (rmK 2 41) (nPre D (nTy cI cR) [.ref h, .int x] (wCR h ad aa cI cR σ o n τ b ln g fo0)) (aPatchOf σ x) := by
  refine met_read rfl (Nat.le_of_ble_eq_true rfl) ?_
  intro p e s m args below meth c ls hx hb hml hr hlocks hown hts hP hK hl
  have hl : lv_has ls 2 [(0, .ref h), (1, .int x)] := hl
  have hA41 := hw.w41
  have hA33 := hw.a33
  have hA48 := hw.a48
  obtain ⟨hR2, hR, hB1, hB, hSa, hSb, -⟩ := id hw
  have h1024 := p2_10 hB
  refine lv_aload_n hx hb dX3_patchOf_0 rfl (lv_at hl 0 rfl) ?_
  refine va_get (D := D) (ci := 3) (v := .ref (ad 0)) (C := RX3) (T := TX3) (N := 3) hx hb hts inX3 hown hK hP 0 rfl rfl 0 (by decide) (hts _ fl_RX3_12) (fun _ h9 => h9) rfl dX3_patchOf_1 ?_
  refine lv_iload_n hx hb dX3_patchOf_4 rfl (lv_at hl 1 rfl) ?_
  refine nv_callV [.int x] [] hx hb hml hown hts k_RX3_60 (c_X1_hasAddressS l D cI cR (ad 0) ((aa 0)) σ x hw) ⟨rfl, rfl, Nat.le_of_ble_eq_true rfl, Nat.le_of_ble_eq_true rfl⟩ (hP.sub [1, 2, 3, 4, 5] rfl) hK 1 rfl rfl rfl rfl hl rfl (Nat.le_of_ble_eq_true rfl) dX3_patchOf_5 ⟨Nat.zero_le _, Nat.zero_le _⟩ ?_
  refine lv_if_eq (tgt := 22) hx hb dX3_patchOf_8 (by decide) (fun q_8 => ?_) (fun q_8 => ?_)
  · refine lv_bipush (v := -2) hx hb dX3_patchOf_22 (by decide) ?_
    exact nv_ret hx hb hr hlocks (by unfold aPatchOf; rw [show inB x (nA σ) = false from zB_eq0 q_8] <;> rfl) dX3_patchOf_24
  · obtain ⟨hk1, hx1⟩ := inB_cl (by omega) (zB_ne0 q_8)
    have hl := lv_repl [(0, .ref h), (1, .int (nI (cl x)))] 1 rfl (congrArg (fun z : Int32 => Value.int z) (show x = nI (cl x) from hx1)) rfl hl
    refine lv_aload_n hx hb dX3_patchOf_11 rfl (lv_at hl 0 rfl) ?_
    refine va_get (D := D) (ci := 3) (v := .ref (ad 0)) (C := RX3) (T := TX3) (N := 3) hx hb hts inX3 hown hK hP 0 rfl rfl 0 (by decide) (hts _ fl_RX3_12) (fun _ h9 => h9) rfl dX3_patchOf_12 ?_
    refine lv_iload_n hx hb dX3_patchOf_15 rfl (lv_at hl 1 rfl) ?_
    refine nv_callV [.int (nI (cl x))] [] hx hb hml hown hts k_RX3_109 (c_X1_patchAt l D cI cR (ad 0) ((aa 0)) σ (cl x) hw hk1) ⟨rfl, rfl, Nat.le_of_ble_eq_true rfl, Nat.le_of_ble_eq_true rfl⟩ (hP.sub [1, 2, 3, 4, 5] rfl) hK 1 rfl rfl rfl rfl hl rfl (Nat.le_of_ble_eq_true rfl) dX3_patchOf_16 ⟨Nat.zero_le _, Nat.zero_le _⟩ ?_
    refine lv_goto (tgt := 24) hx hb dX3_patchOf_19 (by decide) ?_
    exact nv_ret hx hb hr hlocks (by unfold aPatchOf; rw [show inB x (nA σ) = true from zB_ne0 q_8] <;> rfl) dX3_patchOf_24
set_option maxHeartbeats 4000000 in
set_option maxRecDepth 100000 in
theorem c_X3_parity (l : Launch) (D : va_G) (cI cR : ClassId) (h : Nat) (ad : Nat → Nat) (aa : Nat → Nat → Nat) (σ : Nat → Nat) (o : Nat) (n : Nat) (τ : Nat → Nat → Nat) (b : Nat → Nat) (ln : Nat) (g : Nat → Nat) (fo0 : Nat) (x : Int32)  (hw : wf σ) : MetR l yX3_parity cX3_parity 2 (some .int) (rmK 3 71) (nPre D (nTy cI cR) [.ref h, .int x] (wCR h ad aa cI cR σ o n τ b ln g fo0)) (aParity σ x) := by
  refine met_read rfl (Nat.le_of_ble_eq_true rfl) ?_
  intro p e s m args below meth c ls hx hb hml hr hlocks hown hts hP hK hl
  have hl : lv_has ls 2 [(0, .ref h), (1, .int x)] := hl
  have hA41 := hw.w41
  have hA33 := hw.a33
  have hA48 := hw.a48
  obtain ⟨hR2, hR, hB1, hB, hSa, hSb, -⟩ := id hw
  have h1024 := p2_10 hB
  refine lv_aload_n hx hb dX3_parity_0 rfl (lv_at hl 0 rfl) ?_
  refine va_get (D := D) (ci := 3) (v := .ref (ad 0)) (C := RX3) (T := TX3) (N := 3) hx hb hts inX3 hown hK hP 0 rfl rfl 0 (by decide) (hts _ fl_RX3_12) (fun _ h9 => h9) rfl dX3_parity_1 ?_
  refine lv_iload_n hx hb dX3_parity_4 rfl (lv_at hl 1 rfl) ?_
  refine nv_callV [.int x] [] hx hb hml hown hts k_RX3_60 (c_X1_hasAddressS l D cI cR (ad 0) ((aa 0)) σ x hw) ⟨rfl, rfl, Nat.le_of_ble_eq_true rfl, Nat.le_of_ble_eq_true rfl⟩ (hP.sub [1, 2, 3, 4, 5] rfl) hK 1 rfl rfl rfl rfl hl rfl (Nat.le_of_ble_eq_true rfl) dX3_parity_5 ⟨Nat.zero_le _, Nat.zero_le _⟩ ?_
  refine lv_if_ne (tgt := 14) hx hb dX3_parity_8 (by decide) (fun q_8 => ?_) (fun q_8 => ?_)
  · obtain ⟨hk1, hx1⟩ := inB_cl (by omega) (zB_ne0 q_8)
    have hl := lv_repl [(0, .ref h), (1, .int (nI (cl x)))] 1 rfl (congrArg (fun z : Int32 => Value.int z) (show x = nI (cl x) from hx1)) rfl hl
    refine lv_aload_n hx hb dX3_parity_14 rfl (lv_at hl 0 rfl) ?_
    refine va_get (D := D) (ci := 3) (v := .ref (ad 0)) (C := RX3) (T := TX3) (N := 3) hx hb hts inX3 hown hK hP 0 rfl rfl 0 (by decide) (hts _ fl_RX3_12) (fun _ h9 => h9) rfl dX3_parity_15 ?_
    refine lv_iload_n hx hb dX3_parity_18 rfl (lv_at hl 1 rfl) ?_
    refine nv_callV [.int (nI (cl x))] [] hx hb hml hown hts k_RX3_97 (c_X1_parityIsRight l D cI cR (ad 0) ((aa 0)) σ (cl x) hw hk1) ⟨rfl, rfl, Nat.le_of_ble_eq_true rfl, Nat.le_of_ble_eq_true rfl⟩ (hP.sub [1, 2, 3, 4, 5] rfl) hK 1 rfl rfl rfl rfl hl rfl (Nat.le_of_ble_eq_true rfl) dX3_parity_19 ⟨Nat.zero_le _, Nat.zero_le _⟩ ?_
    refine lv_if_eq (tgt := 29) hx hb dX3_parity_22 (by decide) (fun q_22 => ?_) (fun q_22 => ?_)
    · refine lv_iconst (v := nI 0) hx hb dX3_parity_29 (by decide) ?_
      exact nv_ret hx hb hr hlocks (by unfold aParity; rw [show inB x (nA σ) = true from zB_ne0 q_8]; first | exact zB_1 (zB_ne0 q_22) | exact zB_0 (zB_eq0 q_22)) dX3_parity_30
    · refine lv_iconst (v := nI 1) hx hb dX3_parity_25 (by decide) ?_
      refine lv_goto (tgt := 30) hx hb dX3_parity_26 (by decide) ?_
      exact nv_ret hx hb hr hlocks (by unfold aParity; rw [show inB x (nA σ) = true from zB_ne0 q_8]; first | exact zB_1 (zB_ne0 q_22) | exact zB_0 (zB_eq0 q_22)) dX3_parity_30
  · refine lv_bipush (v := -2) hx hb dX3_parity_11 (by decide) ?_
    exact nv_ret hx hb hr hlocks (by unfold aParity; rw [show inB x (nA σ) = false from zB_eq0 q_8] <;> rfl) dX3_parity_13
set_option maxHeartbeats 4000000 in
set_option maxRecDepth 100000 in
theorem c_X3_count (l : Launch) (D : va_G) (cI cR : ClassId) (h : Nat) (ad : Nat → Nat) (aa : Nat → Nat → Nat) (σ : Nat → Nat) (o : Nat) (n : Nat) (τ : Nat → Nat → Nat) (b : Nat → Nat) (ln : Nat) (g : Nat → Nat) (fo0 : Nat) (x : Int32)  (hw : wf σ) : MetR l yX3_count cX3_count 2 (some .int) (rmK 4 85) (nPre D (nTy cI cR) [.ref h, .int x] (wCR h ad aa cI cR σ o n τ b ln g fo0)) (aCount σ x) := by
  refine met_read rfl (Nat.le_of_ble_eq_true rfl) ?_
  intro p e s m args below meth c ls hx hb hml hr hlocks hown hts hP hK hl
  have hl : lv_has ls 2 [(0, .ref h), (1, .int x)] := hl
  have hA41 := hw.w41
  have hA33 := hw.a33
  have hA48 := hw.a48
  obtain ⟨hR2, hR, hB1, hB, hSa, hSb, -⟩ := id hw
  have h1024 := p2_10 hB
  refine lv_iload_n hx hb dX3_count_0 rfl (lv_at hl 1 rfl) ?_
  refine lv_if_lt (tgt := 10) hx hb dX3_count_1 (by decide) (fun q_1 => ?_) (fun q_1 => ?_)
  · refine lv_bipush (v := -3) hx hb dX3_count_10 (by decide) ?_
    refine lv_goto (tgt := 23) hx hb dX3_count_12 (by decide) ?_
    exact nv_ret hx hb hr hlocks (by unfold aCount; rw [show inB x 9 = false from inB_neg q_1] <;> rfl) dX3_count_23
  · refine lv_iload_n hx hb dX3_count_4 rfl (lv_at hl 1 rfl) ?_
    refine lv_bipush (v := nI 9) hx hb dX3_count_5 (by decide) ?_
    refine lv_icmp_lt (tgt := 15) hx hb dX3_count_7 (by decide) (fun q_7 => ?_) (fun q_7 => ?_)
    · obtain ⟨hk1, hx1⟩ := inB_cl (by decide) (inB_lt (by decide) q_1 q_7)
      have hl := lv_repl [(0, .ref h), (1, .int (nI (cl x)))] 1 rfl (congrArg (fun z : Int32 => Value.int z) (show x = nI (cl x) from hx1)) rfl hl
      refine lv_aload_n hx hb dX3_count_15 rfl (lv_at hl 0 rfl) ?_
      refine va_get (D := D) (ci := 3) (v := .ref (ad 0)) (C := RX3) (T := TX3) (N := 3) hx hb hts inX3 hown hK hP 0 rfl rfl 0 (by decide) (hts _ fl_RX3_12) (fun _ h9 => h9) rfl dX3_count_16 ?_
      refine lv_iload_n hx hb dX3_count_19 rfl (lv_at hl 1 rfl) ?_
      refine nv_callV [.int (nI (cl x))] [] hx hb hml hown hts k_RX3_42 (c_X1_number l D cI cR (ad 0) ((aa 0)) σ (cl x) hw hk1) ⟨rfl, rfl, Nat.le_of_ble_eq_true rfl, Nat.le_of_ble_eq_true rfl⟩ (hP.sub [1, 2, 3, 4, 5] rfl) hK 1 rfl rfl rfl rfl hl rfl (Nat.le_of_ble_eq_true rfl) dX3_count_20 ⟨Nat.zero_le _, Nat.zero_le _⟩ ?_
      exact nv_ret hx hb hr hlocks (by unfold aCount; rw [show inB x 9 = true from inB_lt (by decide) q_1 q_7] <;> rfl) dX3_count_23
    · refine lv_bipush (v := -3) hx hb dX3_count_10 (by decide) ?_
      refine lv_goto (tgt := 23) hx hb dX3_count_12 (by decide) ?_
      exact nv_ret hx hb hr hlocks (by unfold aCount; rw [show inB x 9 = false from inB_nlt (by decide) q_7] <;> rfl) dX3_count_23
set_option maxHeartbeats 4000000 in
set_option maxRecDepth 100000 in
theorem c_X3_picked (l : Launch) (D : va_G) (cI cR : ClassId) (h : Nat) (ad : Nat → Nat) (aa : Nat → Nat → Nat) (σ : Nat → Nat) (o : Nat) (n : Nat) (τ : Nat → Nat → Nat) (b : Nat → Nat) (ln : Nat) (g : Nat → Nat) (fo0 : Nat) (x : Int32)  (hw : wf σ) : MetR l yX3_picked cX3_picked 2 (some .int) (rmK 1 24) (nPre D (nTy cI cR) [.ref h, .int x] (wCR h ad aa cI cR σ o n τ b ln g fo0)) (aPicked σ x) := by
  refine met_read rfl (Nat.le_of_ble_eq_true rfl) ?_
  intro p e s m args below meth c ls hx hb hml hr hlocks hown hts hP hK hl
  have hl : lv_has ls 2 [(0, .ref h), (1, .int x)] := hl
  have hA41 := hw.w41
  have hA33 := hw.a33
  have hA48 := hw.a48
  obtain ⟨hR2, hR, hB1, hB, hSa, hSb, -⟩ := id hw
  have h1024 := p2_10 hB
  refine lv_iload_n hx hb dX3_picked_0 rfl (lv_at hl 1 rfl) ?_
  refine lv_if_lt (tgt := 10) hx hb dX3_picked_1 (by decide) (fun q_1 => ?_) (fun q_1 => ?_)
  · refine lv_bipush (v := -3) hx hb dX3_picked_10 (by decide) ?_
    refine lv_goto (tgt := 23) hx hb dX3_picked_12 (by decide) ?_
    exact nv_ret hx hb hr hlocks (by unfold aPicked; rw [show inB x 16 = false from inB_neg q_1] <;> rfl) dX3_picked_23
  · refine lv_iload_n hx hb dX3_picked_4 rfl (lv_at hl 1 rfl) ?_
    refine lv_bipush (v := nI 16) hx hb dX3_picked_5 (by decide) ?_
    refine lv_icmp_lt (tgt := 15) hx hb dX3_picked_7 (by decide) (fun q_7 => ?_) (fun q_7 => ?_)
    · obtain ⟨hk1, hx1⟩ := inB_cl (by decide) (inB_lt (by decide) q_1 q_7)
      have hl := lv_repl [(0, .ref h), (1, .int (nI (cl x)))] 1 rfl (congrArg (fun z : Int32 => Value.int z) (show x = nI (cl x) from hx1)) rfl hl
      refine lv_aload_n hx hb dX3_picked_15 rfl (lv_at hl 0 rfl) ?_
      refine va_get (D := D) (ci := 3) (v := .ref (ad 0)) (C := RX3) (T := TX3) (N := 3) hx hb hts inX3 hown hK hP 0 rfl rfl 0 (by decide) (hts _ fl_RX3_12) (fun _ h9 => h9) rfl dX3_picked_16 ?_
      refine lv_iload_n hx hb dX3_picked_19 rfl (lv_at hl 1 rfl) ?_
      refine nv_callV [.int (nI (cl x))] [] hx hb hml hown hts k_RX3_88 (c_X1_pickedBy l D cI cR (ad 0) ((aa 0)) σ (cl x) hw (by omega)) ⟨rfl, rfl, Nat.le_of_ble_eq_true rfl, Nat.le_of_ble_eq_true rfl⟩ (hP.sub [1, 2, 3, 4, 5] rfl) hK 1 rfl rfl rfl rfl hl rfl (Nat.le_of_ble_eq_true rfl) dX3_picked_20 ⟨Nat.zero_le _, Nat.zero_le _⟩ ?_
      exact nv_ret hx hb hr hlocks (by unfold aPicked; rw [show inB x 16 = true from inB_lt (by decide) q_1 q_7] <;> rfl) dX3_picked_23
    · refine lv_bipush (v := -3) hx hb dX3_picked_10 (by decide) ?_
      refine lv_goto (tgt := 23) hx hb dX3_picked_12 (by decide) ?_
      exact nv_ret hx hb hr hlocks (by unfold aPicked; rw [show inB x 16 = false from inB_nlt (by decide) q_7] <;> rfl) dX3_picked_23
set_option maxHeartbeats 4000000 in
set_option maxRecDepth 100000 in
theorem c_X3_wrong (l : Launch) (D : va_G) (cI cR : ClassId) (h : Nat) (ad : Nat → Nat) (aa : Nat → Nat → Nat) (σ : Nat → Nat) (o : Nat) (n : Nat) (τ : Nat → Nat → Nat) (b : Nat → Nat) (ln : Nat) (g : Nat → Nat) (fo0 : Nat) (x : Int32)  (hw : wf σ) : MetR l yX3_wrong cX3_wrong 2 (some .int) (rmK 6 137) (nPre D (nTy cI cR) [.ref h, .int x] (wCR h ad aa cI cR σ o n τ b ln g fo0)) (aWrong σ x) := by
  refine met_read rfl (Nat.le_of_ble_eq_true rfl) ?_
  intro p e s m args below meth c ls hx hb hml hr hlocks hown hts hP hK hl
  have hl : lv_has ls 2 [(0, .ref h), (1, .int x)] := hl
  have hA41 := hw.w41
  have hA33 := hw.a33
  have hA48 := hw.a48
  obtain ⟨hR2, hR, hB1, hB, hSa, hSb, -⟩ := id hw
  have h1024 := p2_10 hB
  refine lv_iload_n hx hb dX3_wrong_0 rfl (lv_at hl 1 rfl) ?_
  refine lv_if_lt (tgt := 9) hx hb dX3_wrong_1 (by decide) (fun q_1 => ?_) (fun q_1 => ?_)
  · refine lv_bipush (v := -3) hx hb dX3_wrong_9 (by decide) ?_
    refine lv_goto (tgt := 22) hx hb dX3_wrong_11 (by decide) ?_
    exact nv_ret hx hb hr hlocks (by unfold aWrong; rw [show inB x 4 = false from inB_neg q_1] <;> rfl) dX3_wrong_22
  · refine lv_iload_n hx hb dX3_wrong_4 rfl (lv_at hl 1 rfl) ?_
    refine lv_iconst (v := nI 4) hx hb dX3_wrong_5 (by decide) ?_
    refine lv_icmp_lt (tgt := 14) hx hb dX3_wrong_6 (by decide) (fun q_6 => ?_) (fun q_6 => ?_)
    · obtain ⟨hk1, hx1⟩ := inB_cl (by decide) (inB_lt (by decide) q_1 q_6)
      have hl := lv_repl [(0, .ref h), (1, .int (nI (cl x)))] 1 rfl (congrArg (fun z : Int32 => Value.int z) (show x = nI (cl x) from hx1)) rfl hl
      refine lv_aload_n hx hb dX3_wrong_14 rfl (lv_at hl 0 rfl) ?_
      refine va_get (D := D) (ci := 3) (v := .ref (ad 0)) (C := RX3) (T := TX3) (N := 3) hx hb hts inX3 hown hK hP 0 rfl rfl 0 (by decide) (hts _ fl_RX3_12) (fun _ h9 => h9) rfl dX3_wrong_15 ?_
      refine lv_iload_n hx hb dX3_wrong_18 rfl (lv_at hl 1 rfl) ?_
      refine nv_callV [.int (nI (cl x))] [] hx hb hml hown hts k_RX3_100 (c_X1_wrongAddresses l D cI cR (ad 0) ((aa 0)) σ (cl x) hw hk1) ⟨rfl, rfl, Nat.le_of_ble_eq_true rfl, Nat.le_of_ble_eq_true rfl⟩ (hP.sub [1, 2, 3, 4, 5] rfl) hK 1 rfl rfl rfl rfl hl rfl (Nat.le_of_ble_eq_true rfl) dX3_wrong_19 ⟨Nat.zero_le _, Nat.zero_le _⟩ ?_
      exact nv_ret hx hb hr hlocks (by unfold aWrong; rw [show inB x 4 = true from inB_lt (by decide) q_1 q_6] <;> rfl) dX3_wrong_22
    · refine lv_bipush (v := -3) hx hb dX3_wrong_9 (by decide) ?_
      refine lv_goto (tgt := 22) hx hb dX3_wrong_11 (by decide) ?_
      exact nv_ret hx hb hr hlocks (by unfold aWrong; rw [show inB x 4 = false from inB_nlt (by decide) q_6] <;> rfl) dX3_wrong_22
set_option maxHeartbeats 4000000 in
set_option maxRecDepth 100000 in
theorem c_X3_explains (l : Launch) (D : va_G) (cI cR : ClassId) (h : Nat) (ad : Nat → Nat) (aa : Nat → Nat → Nat) (σ : Nat → Nat) (o : Nat) (n : Nat) (τ : Nat → Nat → Nat) (b : Nat → Nat) (ln : Nat) (g : Nat → Nat) (fo0 : Nat) (x : Int32)  (hw : wf σ) : MetR l yX3_explains cX3_explains 2 (some .int) (rmK 5 125) (nPre D (nTy cI cR) [.ref h, .int x] (wCR h ad aa cI cR σ o n τ b ln g fo0)) (aExplains σ x) := by
  refine met_read rfl (Nat.le_of_ble_eq_true rfl) ?_
  intro p e s m args below meth c ls hx hb hml hr hlocks hown hts hP hK hl
  have hl : lv_has ls 2 [(0, .ref h), (1, .int x)] := hl
  have hA41 := hw.w41
  have hA33 := hw.a33
  have hA48 := hw.a48
  obtain ⟨hR2, hR, hB1, hB, hSa, hSb, -⟩ := id hw
  have h1024 := p2_10 hB
  refine lv_iload_n hx hb dX3_explains_0 rfl (lv_at hl 1 rfl) ?_
  refine lv_if_ge (tgt := 9) hx hb dX3_explains_1 (by decide) (fun q_1 => ?_) (fun q_1 => ?_)
  · obtain ⟨k9, hk9, hx9⟩ := nI_of (x := x) (fun z => by have h1 := i_neg.mp z; have h2 := Int32.le_iff_toInt_le.mp q_1; have h3 : (0 : Int32).toInt = 0 := rfl; omega)
    have hx1 : x = nI (cl x) := by rw [show cl x = k9 by rw [hx9]; exact cl_nI hk9]; exact hx9
    have hk1 : cl x < 2 ^ 31 := by rw [show cl x = k9 by rw [hx9]; exact cl_nI hk9]; exact hk9
    have hl := lv_repl [(0, .ref h), (1, .int (nI (cl x)))] 1 rfl (congrArg (fun z : Int32 => Value.int z) (show x = nI (cl x) from hx1)) rfl hl
    refine lv_aload_n hx hb dX3_explains_9 rfl (lv_at hl 0 rfl) ?_
    refine va_get (D := D) (ci := 3) (v := .ref (ad 0)) (C := RX3) (T := TX3) (N := 3) hx hb hts inX3 hown hK hP 0 rfl rfl 0 (by decide) (hts _ fl_RX3_12) (fun _ h9 => h9) rfl dX3_explains_10 ?_
    refine lv_iload_n hx hb dX3_explains_13 rfl (lv_at hl 1 rfl) ?_
    refine nv_callV [.int (nI (cl x))] [] hx hb hml hown hts k_RX3_106 (c_X1_explanation l D cI cR (ad 0) ((aa 0)) σ (cl x) hw hk1) ⟨rfl, rfl, Nat.le_of_ble_eq_true rfl, Nat.le_of_ble_eq_true rfl⟩ (hP.sub [1, 2, 3, 4, 5] rfl) hK 1 rfl rfl rfl rfl hl rfl (Nat.le_of_ble_eq_true rfl) dX3_explains_14 ⟨Nat.zero_le _, Nat.zero_le _⟩ ?_
    exact nv_ret hx hb hr hlocks (by unfold aExplains; rw [show decide (0 ≤ x.toInt) = true from decide_eq_true (Int32.le_iff_toInt_le.mp q_1)] <;> rfl) dX3_explains_17
  · refine lv_bipush (v := -3) hx hb dX3_explains_4 (by decide) ?_
    refine lv_goto (tgt := 17) hx hb dX3_explains_6 (by decide) ?_
    exact nv_ret hx hb hr hlocks (by unfold aExplains; rw [show decide (0 ≤ x.toInt) = false from decide_eq_false (fun z => q_1 (Int32.le_iff_toInt_le.mpr z))] <;> rfl) dX3_explains_17
set_option maxHeartbeats 4000000 in
set_option maxRecDepth 100000 in
theorem c_X3_through (l : Launch) (D : va_G) (cI cR : ClassId) (h : Nat) (ad : Nat → Nat) (aa : Nat → Nat → Nat) (σ : Nat → Nat) (o : Nat) (n : Nat) (τ : Nat → Nat → Nat) (b : Nat → Nat) (ln : Nat) (g : Nat → Nat) (fo0 : Nat) (x : Int32) (y : Int32)  (hw : wf σ) : MetR l yX3_through cX3_through 3 (some .int) (rmK 2 43) (nPre D (nTy cI cR) [.ref h, .int x, .int y] (wCR h ad aa cI cR σ o n τ b ln g fo0)) (aThrough σ x y) := by
  refine met_read rfl (Nat.le_of_ble_eq_true rfl) ?_
  intro p e s m args below meth c ls hx hb hml hr hlocks hown hts hP hK hl
  have hl : lv_has ls 3 [(0, .ref h), (1, .int x), (2, .int y)] := hl
  have hA41 := hw.w41
  have hA33 := hw.a33
  have hA48 := hw.a48
  obtain ⟨hR2, hR, hB1, hB, hSa, hSb, -⟩ := id hw
  have h1024 := p2_10 hB
  refine lv_aload_n hx hb dX3_through_0 rfl (lv_at hl 0 rfl) ?_
  refine va_get (D := D) (ci := 3) (v := .ref (ad 0)) (C := RX3) (T := TX3) (N := 3) hx hb hts inX3 hown hK hP 0 rfl rfl 0 (by decide) (hts _ fl_RX3_12) (fun _ h9 => h9) rfl dX3_through_1 ?_
  refine lv_iload_n hx hb dX3_through_4 rfl (lv_at hl 1 rfl) ?_
  refine nv_callV [.int x] [] hx hb hml hown hts k_RX3_72 (c_X1_hasWireS l D cI cR (ad 0) ((aa 0)) σ x hw) ⟨rfl, rfl, Nat.le_of_ble_eq_true rfl, Nat.le_of_ble_eq_true rfl⟩ (hP.sub [1, 2, 3, 4, 5] rfl) hK 1 rfl rfl rfl rfl hl rfl (Nat.le_of_ble_eq_true rfl) dX3_through_5 ⟨Nat.zero_le _, Nat.zero_le _⟩ ?_
  refine lv_if_eq (tgt := 22) hx hb dX3_through_8 (by decide) (fun q_8 => ?_) (fun q_8 => ?_)
  · refine lv_bipush (v := -2) hx hb dX3_through_22 (by decide) ?_
    exact nv_ret hx hb hr hlocks (by unfold aThrough; rw [show inB x (nW σ) = false from zB_eq0 q_8] <;> rfl) dX3_through_24
  · obtain ⟨hk1, hx1⟩ := inB_cl (by omega) (zB_ne0 q_8)
    have hl := lv_repl [(0, .ref h), (1, .int (nI (cl x))), (2, .int y)] 1 rfl (congrArg (fun z : Int32 => Value.int z) (show x = nI (cl x) from hx1)) rfl hl
    refine lv_aload_n hx hb dX3_through_11 rfl (lv_at hl 0 rfl) ?_
    refine va_get (D := D) (ci := 3) (v := .ref (ad 0)) (C := RX3) (T := TX3) (N := 3) hx hb hts inX3 hown hK hP 0 rfl rfl 0 (by decide) (hts _ fl_RX3_12) (fun _ h9 => h9) rfl dX3_through_12 ?_
    refine lv_iload_n hx hb dX3_through_15 rfl (lv_at hl 2 rfl) ?_
    refine nv_callV [.int y] [] hx hb hml hown hts k_RX3_46 (c_X1_hasRingS l D cI cR (ad 0) ((aa 0)) σ y hw) ⟨rfl, rfl, Nat.le_of_ble_eq_true rfl, Nat.le_of_ble_eq_true rfl⟩ (hP.sub [1, 2, 3, 4, 5] rfl) hK 1 rfl rfl rfl rfl hl rfl (Nat.le_of_ble_eq_true rfl) dX3_through_16 ⟨Nat.zero_le _, Nat.zero_le _⟩ ?_
    refine lv_if_ne (tgt := 25) hx hb dX3_through_19 (by decide) (fun q_19 => ?_) (fun q_19 => ?_)
    · obtain ⟨hk2, hx2⟩ := inB_cl (by omega) (zB_ne0 q_19)
      have hl := lv_repl [(0, .ref h), (1, .int (nI (cl x))), (2, .int (nI (cl y)))] 2 rfl (congrArg (fun z : Int32 => Value.int z) (show y = nI (cl y) from hx2)) rfl hl
      refine lv_aload_n hx hb dX3_through_25 rfl (lv_at hl 0 rfl) ?_
      refine va_get (D := D) (ci := 3) (v := .ref (ad 0)) (C := RX3) (T := TX3) (N := 3) hx hb hts inX3 hown hK hP 0 rfl rfl 0 (by decide) (hts _ fl_RX3_12) (fun _ h9 => h9) rfl dX3_through_26 ?_
      refine lv_iload_n hx hb dX3_through_29 rfl (lv_at hl 1 rfl) ?_
      refine lv_iload_n hx hb dX3_through_30 rfl (lv_at hl 2 rfl) ?_
      refine nv_callV [.int (nI (cl x)), .int (nI (cl y))] [] hx hb hml hown hts k_RX3_78 (c_X1_goesThrough l D cI cR (ad 0) ((aa 0)) σ (cl x) (cl y) hw hk1 hk2) ⟨rfl, rfl, Nat.le_of_ble_eq_true rfl, Nat.le_of_ble_eq_true rfl⟩ (hP.sub [1, 2, 3, 4, 5] rfl) hK 1 rfl rfl rfl rfl hl rfl (Nat.le_of_ble_eq_true rfl) dX3_through_31 ⟨Nat.zero_le _, Nat.zero_le _⟩ ?_
      exact nv_ret hx hb hr hlocks (by unfold aThrough; rw [show inB x (nW σ) = true from zB_ne0 q_8, show inB y (σ 0) = true from zB_ne0 q_19] <;> rfl) dX3_through_34
    · refine lv_bipush (v := -2) hx hb dX3_through_22 (by decide) ?_
      exact nv_ret hx hb hr hlocks (by unfold aThrough; rw [show inB x (nW σ) = true from zB_ne0 q_8, show inB y (σ 0) = false from zB_eq0 q_19] <;> rfl) dX3_through_24
set_option maxHeartbeats 4000000 in
set_option maxRecDepth 100000 in
theorem c_X3_digest (l : Launch) (D : va_G) (cI cR : ClassId) (h : Nat) (ad : Nat → Nat) (aa : Nat → Nat → Nat) (σ : Nat → Nat) (o : Nat) (n : Nat) (τ : Nat → Nat → Nat) (b : Nat → Nat) (ln : Nat) (g : Nat → Nat) (fo0 : Nat)   (hw : wf σ) : MetL l yX3_digest cX3_digest 1 (some .long) (rmK 5 109) (nPre D (nTy cI cR) [.ref h] (wCR h ad aa cI cR σ o n τ b ln g fo0)) (hsF σ) := by
  refine met_read rfl (Nat.le_of_ble_eq_true rfl) ?_
  intro p e s m args below meth c ls hx hb hml hr hlocks hown hts hP hK hl
  have hl : lv_has ls 1 [(0, .ref h)] := hl
  have hA41 := hw.w41
  have hA33 := hw.a33
  have hA48 := hw.a48
  obtain ⟨hR2, hR, hB1, hB, hSa, hSb, -⟩ := id hw
  have h1024 := p2_10 hB
  refine lv_aload_n hx hb dX3_digest_0 rfl (lv_at hl 0 rfl) ?_
  refine va_get (D := D) (ci := 3) (v := .ref (ad 0)) (C := RX3) (T := TX3) (N := 3) hx hb hts inX3 hown hK hP 0 rfl rfl 0 (by decide) (hts _ fl_RX3_12) (fun _ h9 => h9) rfl dX3_digest_1 ?_
  refine nv_callVL [] [] hx hb hml hown hts k_RX3_153 (c_X1_hash l D cI cR (ad 0) ((aa 0)) σ hw) ⟨rfl, rfl, Nat.le_of_ble_eq_true rfl, Nat.le_of_ble_eq_true rfl⟩ (hP.sub [1, 2, 3, 4, 5] rfl) hK 1 rfl rfl rfl rfl hl rfl (Nat.le_of_ble_eq_true rfl) dX3_digest_4 ⟨Nat.zero_le _, Nat.zero_le _⟩ ?_
  exact nv_retl hx hb hr hlocks (rfl) dX3_digest_7
