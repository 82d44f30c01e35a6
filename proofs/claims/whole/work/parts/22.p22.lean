set_option maxHeartbeats 4000000 in
set_option maxRecDepth 100000 in
theorem c_X4_code (l : Launch) (D : va_G) (cI cR : ClassId) (h : Nat) (a : Nat → Nat) (ρ : Nat → Nat → Nat) (sv : Nat) (wv : Nat → Nat) (nw : Nat → Nat) (b : Nat → Nat) (ln : Nat) (at0 : Nat) (wd : Nat) (hh : Int64) (x : Int32)  (hw : wf (ρ 0)) : MetR l yX4_code cX4_code 2 (some .int) (rmK 2 43) (nPre D (nTy cI cR) [.ref h, .int x] (wMd h a cI (rwF ρ) sv (nF wv) (nF nw) (nF b) ln at0 wd hh)) (aCode (ρ 0) x) := by
  refine met_read rfl (Nat.le_of_ble_eq_true rfl) ?_
  intro p e s m args below meth c ls hx hb hml hr hlocks hown hts hP hK hl
  have hl : lv_has ls 2 [(0, .ref h), (1, .int x)] := hl
  have hA41 := hw.w41
  have hA33 := hw.a33
  have hA48 := hw.a48
  obtain ⟨hR2, hR, hB1, hB, hS1, hS, -⟩ := id hw
  have h1024 := p2_10 hB
  refine lv_aload_n hx hb dX4_code_0 rfl (lv_at hl 0 rfl) ?_
  refine lv_iload_n hx hb dX4_code_1 rfl (lv_at hl 1 rfl) ?_
  refine nv_callV [.int x] [] hx hb hml hown hts k_RX4_71 (c_X4_isRing l D cI cR h a ρ sv wv nw b ln at0 wd hh x hw) ⟨rfl, rfl, Nat.le_of_ble_eq_true rfl, Nat.le_of_ble_eq_true rfl⟩ hP hK 4 rfl rfl rfl rfl hl rfl (Nat.le_of_ble_eq_true rfl) dX4_code_2 ⟨Nat.zero_le _, Nat.zero_le _⟩ ?_
  refine lv_if_eq (tgt := 19) hx hb dX4_code_5 (by decide) (fun q_5 => ?_) (fun q_5 => ?_)
  · refine lv_bipush (v := -2) hx hb dX4_code_19 (by decide) ?_
    exact nv_ret hx hb hr hlocks (by unfold aCode; rw [show inB x (ρ 0 0) = false from zB_eq0 q_5] <;> rfl) dX4_code_21
  · obtain ⟨hk1, hx1⟩ := inB_cl (by omega) (zB_ne0 q_5)
    have hl := lv_repl [(0, .ref h), (1, .int (nI (cl x)))] 1 rfl (congrArg (fun z : Int32 => Value.int z) (show x = nI (cl x) from hx1)) rfl hl
    refine lv_aload_n hx hb dX4_code_8 rfl (lv_at hl 0 rfl) ?_
    refine va_get (D := D) (ci := 4) (v := .ref (a 0)) (C := RX4) (T := TX4) (N := 9) hx hb hts inX4 hown hK hP 0 rfl rfl 0 (by decide) (hts _ fl_RX4_7) (fun _ h9 => h9) rfl dX4_code_9 ?_
    refine lv_iconst (v := nI 3) hx hb dX4_code_12 (by decide) ?_
    refine lv_iload_n hx hb dX4_code_13 rfl (lv_at hl 1 rfl) ?_
    refine nv_iadd hx hb dX4_code_14 ?_
    refine nv_iald (D := D) (v := nI (ρ 0 (3 + (cl x)))) hx hb hK hP 1 0 rfl rfl (k := 3 + (cl x)) (by omega) (by decide) (rw_lo (by omega)) dX4_code_15 ?_
    refine lv_goto (tgt := 21) hx hb dX4_code_16 (by decide) ?_
    exact nv_ret hx hb hr hlocks (by unfold aCode; rw [show inB x (ρ 0 0) = true from zB_ne0 q_5] <;> rfl) dX4_code_21
set_option maxHeartbeats 4000000 in
set_option maxRecDepth 100000 in
theorem c_X4_word (l : Launch) (D : va_G) (cI cR : ClassId) (h : Nat) (a : Nat → Nat) (ρ : Nat → Nat → Nat) (sv : Nat) (wv : Nat → Nat) (nw : Nat → Nat) (b : Nat → Nat) (ln : Nat) (at0 : Nat) (wd : Nat) (hh : Int64) (x : Int32)  (hw : wf (ρ 0)) : MetR l yX4_word cX4_word 2 (some .int) (rmK 2 43) (nPre D (nTy cI cR) [.ref h, .int x] (wMd h a cI (rwF ρ) sv (nF wv) (nF nw) (nF b) ln at0 wd hh)) (aWord (ρ 0) x) := by
  refine met_read rfl (Nat.le_of_ble_eq_true rfl) ?_
  intro p e s m args below meth c ls hx hb hml hr hlocks hown hts hP hK hl
  have hl : lv_has ls 2 [(0, .ref h), (1, .int x)] := hl
  have hA41 := hw.w41
  have hA33 := hw.a33
  have hA48 := hw.a48
  obtain ⟨hR2, hR, hB1, hB, hS1, hS, -⟩ := id hw
  have h1024 := p2_10 hB
  refine lv_aload_n hx hb dX4_word_0 rfl (lv_at hl 0 rfl) ?_
  refine lv_iload_n hx hb dX4_word_1 rfl (lv_at hl 1 rfl) ?_
  refine nv_callV [.int x] [] hx hb hml hown hts k_RX4_75 (c_X4_isAddress l D cI cR h a ρ sv wv nw b ln at0 wd hh x hw) ⟨rfl, rfl, Nat.le_of_ble_eq_true rfl, Nat.le_of_ble_eq_true rfl⟩ hP hK 4 rfl rfl rfl rfl hl rfl (Nat.le_of_ble_eq_true rfl) dX4_word_2 ⟨Nat.zero_le _, Nat.zero_le _⟩ ?_
  refine lv_if_eq (tgt := 20) hx hb dX4_word_5 (by decide) (fun q_5 => ?_) (fun q_5 => ?_)
  · refine lv_bipush (v := -2) hx hb dX4_word_20 (by decide) ?_
    exact nv_ret hx hb hr hlocks (by unfold aWord; rw [show inB x (nA (ρ 0)) = false from zB_eq0 q_5] <;> rfl) dX4_word_22
  · obtain ⟨hk1, hx1⟩ := inB_cl (by omega) (zB_ne0 q_5)
    have hl := lv_repl [(0, .ref h), (1, .int (nI (cl x)))] 1 rfl (congrArg (fun z : Int32 => Value.int z) (show x = nI (cl x) from hx1)) rfl hl
    refine lv_aload_n hx hb dX4_word_8 rfl (lv_at hl 0 rfl) ?_
    refine va_get (D := D) (ci := 4) (v := .ref (a 0)) (C := RX4) (T := TX4) (N := 9) hx hb hts inX4 hown hK hP 0 rfl rfl 0 (by decide) (hts _ fl_RX4_7) (fun _ h9 => h9) rfl dX4_word_9 ?_
    refine lv_bipush (v := nI 19) hx hb dX4_word_12 (by decide) ?_
    refine lv_iload_n hx hb dX4_word_14 rfl (lv_at hl 1 rfl) ?_
    refine nv_iadd hx hb dX4_word_15 ?_
    refine nv_iald (D := D) (v := nI (ρ 0 (19 + (cl x)))) hx hb hK hP 1 0 rfl rfl (k := 19 + (cl x)) (by omega) (by decide) (rw_lo (by omega)) dX4_word_16 ?_
    refine lv_goto (tgt := 22) hx hb dX4_word_17 (by decide) ?_
    exact nv_ret hx hb hr hlocks (by unfold aWord; rw [show inB x (nA (ρ 0)) = true from zB_ne0 q_5] <;> rfl) dX4_word_22
set_option maxHeartbeats 4000000 in
set_option maxRecDepth 100000 in
theorem c_X4_cost (l : Launch) (D : va_G) (cI cR : ClassId) (h : Nat) (a : Nat → Nat) (ρ : Nat → Nat → Nat) (sv : Nat) (wv : Nat → Nat) (nw : Nat → Nat) (b : Nat → Nat) (ln : Nat) (at0 : Nat) (wd : Nat) (hh : Int64) (x : Int32)  (hw : wf (ρ 0)) : MetR l yX4_cost cX4_cost 2 (some .int) (rmK 5 114) (nPre D (nTy cI cR) [.ref h, .int x] (wMd h a cI (rwF ρ) sv (nF wv) (nF nw) (nF b) ln at0 wd hh)) (aCost (ρ 0) x) := by
  refine met_read rfl (Nat.le_of_ble_eq_true rfl) ?_
  intro p e s m args below meth c ls hx hb hml hr hlocks hown hts hP hK hl
  have hl : lv_has ls 2 [(0, .ref h), (1, .int x)] := hl
  have hA41 := hw.w41
  have hA33 := hw.a33
  have hA48 := hw.a48
  obtain ⟨hR2, hR, hB1, hB, hS1, hS, -⟩ := id hw
  have h1024 := p2_10 hB
  refine lv_aload_n hx hb dX4_cost_0 rfl (lv_at hl 0 rfl) ?_
  refine lv_iload_n hx hb dX4_cost_1 rfl (lv_at hl 1 rfl) ?_
  refine nv_callV [.int x] [] hx hb hml hown hts k_RX4_81 (c_X4_isWire l D cI cR h a ρ sv wv nw b ln at0 wd hh x hw) ⟨rfl, rfl, Nat.le_of_ble_eq_true rfl, Nat.le_of_ble_eq_true rfl⟩ hP hK 4 rfl rfl rfl rfl hl rfl (Nat.le_of_ble_eq_true rfl) dX4_cost_2 ⟨Nat.zero_le _, Nat.zero_le _⟩ ?_
  refine lv_if_eq (tgt := 16) hx hb dX4_cost_5 (by decide) (fun q_5 => ?_) (fun q_5 => ?_)
  · refine lv_bipush (v := -2) hx hb dX4_cost_16 (by decide) ?_
    exact nv_ret hx hb hr hlocks (by unfold aCost; rw [show inB x (nW (ρ 0)) = false from zB_eq0 q_5] <;> rfl) dX4_cost_18
  · obtain ⟨hk1, hx1⟩ := inB_cl (by omega) (zB_ne0 q_5)
    have hl := lv_repl [(0, .ref h), (1, .int (nI (cl x)))] 1 rfl (congrArg (fun z : Int32 => Value.int z) (show x = nI (cl x) from hx1)) rfl hl
    refine lv_aload_n hx hb dX4_cost_8 rfl (lv_at hl 0 rfl) ?_
    refine lv_iload_n hx hb dX4_cost_9 rfl (lv_at hl 1 rfl) ?_
    refine nv_callV [.int (nI (cl x))] [] hx hb hml hown hts k_RX4_65 (c_X4_costOf l D cI cR h a ρ sv wv nw b ln at0 wd hh (cl x) hw hk1) ⟨rfl, rfl, Nat.le_of_ble_eq_true rfl, Nat.le_of_ble_eq_true rfl⟩ hP hK 4 rfl rfl rfl rfl hl rfl (Nat.le_of_ble_eq_true rfl) dX4_cost_10 ⟨Nat.zero_le _, Nat.zero_le _⟩ ?_
    refine lv_goto (tgt := 18) hx hb dX4_cost_13 (by decide) ?_
    exact nv_ret hx hb hr hlocks (by unfold aCost; rw [show inB x (nW (ρ 0)) = true from zB_ne0 q_5] <;> rfl) dX4_cost_18
set_option maxHeartbeats 4000000 in
set_option maxRecDepth 100000 in
theorem c_X4_patchOf (l : Launch) (D : va_G) (cI cR : ClassId) (h : Nat) (a : Nat → Nat) (ρ : Nat → Nat → Nat) (sv : Nat) (wv : Nat → Nat) (nw : Nat → Nat) (b : Nat → Nat) (ln : Nat) (at0 : Nat) (wd : Nat) (hh : Int64) (x : Int32)  (hw : wf (ρ 0)) : MetR l yX4_patchOf cX4_patchOf 2 (some .int) (rmK 2 43) (nPre D (nTy cI cR) [.ref h, .int x] (wMd h a cI (rwF ρ) sv (nF wv) (nF nw) (nF b) ln at0 wd hh)) (aPatchOf (ρ 0) x) := by
  refine met_read rfl (Nat.le_of_ble_eq_true rfl) ?_
  intro p e s m args below meth c ls hx hb hml hr hlocks hown hts hP hK hl
  have hl : lv_has ls 2 [(0, .ref h), (1, .int x)] := hl
  have hA41 := hw.w41
  have hA33 := hw.a33
  have hA48 := hw.a48
  obtain ⟨hR2, hR, hB1, hB, hS1, hS, -⟩ := id hw
  have h1024 := p2_10 hB
  refine lv_aload_n hx hb dX4_patchOf_0 rfl (lv_at hl 0 rfl) ?_
  refine lv_iload_n hx hb dX4_patchOf_1 rfl (lv_at hl 1 rfl) ?_
  refine nv_callV [.int x] [] hx hb hml hown hts k_RX4_75 (c_X4_isAddress l D cI cR h a ρ sv wv nw b ln at0 wd hh x hw) ⟨rfl, rfl, Nat.le_of_ble_eq_true rfl, Nat.le_of_ble_eq_true rfl⟩ hP hK 4 rfl rfl rfl rfl hl rfl (Nat.le_of_ble_eq_true rfl) dX4_patchOf_2 ⟨Nat.zero_le _, Nat.zero_le _⟩ ?_
  refine lv_if_eq (tgt := 21) hx hb dX4_patchOf_5 (by decide) (fun q_5 => ?_) (fun q_5 => ?_)
  · refine lv_bipush (v := -2) hx hb dX4_patchOf_21 (by decide) ?_
    exact nv_ret hx hb hr hlocks (by unfold aPatchOf; rw [show inB x (nA (ρ 0)) = false from zB_eq0 q_5] <;> rfl) dX4_patchOf_23
  · obtain ⟨hk1, hx1⟩ := inB_cl (by omega) (zB_ne0 q_5)
    have hl := lv_repl [(0, .ref h), (1, .int (nI (cl x)))] 1 rfl (congrArg (fun z : Int32 => Value.int z) (show x = nI (cl x) from hx1)) rfl hl
    refine lv_aload_n hx hb dX4_patchOf_8 rfl (lv_at hl 0 rfl) ?_
    refine va_get (D := D) (ci := 4) (v := .ref (a 0)) (C := RX4) (T := TX4) (N := 9) hx hb hts inX4 hown hK hP 0 rfl rfl 0 (by decide) (hts _ fl_RX4_7) (fun _ h9 => h9) rfl dX4_patchOf_9 ?_
    refine lv_sipush (v := nI 141) hx hb dX4_patchOf_12 (by decide) ?_
    refine lv_iload_n hx hb dX4_patchOf_15 rfl (lv_at hl 1 rfl) ?_
    refine nv_iadd hx hb dX4_patchOf_16 ?_
    refine nv_iald (D := D) (v := ptF (ρ 0) ((cl x))) hx hb hK hP 1 0 rfl rfl (k := 141 + (cl x)) (by omega) (by decide) (rw_pt (by omega)) dX4_patchOf_17 ?_
    refine lv_goto (tgt := 23) hx hb dX4_patchOf_18 (by decide) ?_
    exact nv_ret hx hb hr hlocks (by unfold aPatchOf; rw [show inB x (nA (ρ 0)) = true from zB_ne0 q_5] <;> rfl) dX4_patchOf_23
set_option maxHeartbeats 4000000 in
set_option maxRecDepth 100000 in
theorem c_X4_through (l : Launch) (D : va_G) (cI cR : ClassId) (h : Nat) (a : Nat → Nat) (ρ : Nat → Nat → Nat) (sv : Nat) (wv : Nat → Nat) (nw : Nat → Nat) (b : Nat → Nat) (ln : Nat) (at0 : Nat) (wd : Nat) (hh : Int64) (x : Int32) (y : Int32)  (hw : wf (ρ 0)) : MetR l yX4_through cX4_through 3 (some .int) (rmK 4 93) (nPre D (nTy cI cR) [.ref h, .int x, .int y] (wMd h a cI (rwF ρ) sv (nF wv) (nF nw) (nF b) ln at0 wd hh)) (aThrough (ρ 0) x y) := by
  refine met_read rfl (Nat.le_of_ble_eq_true rfl) ?_
  intro p e s m args below meth c ls hx hb hml hr hlocks hown hts hP hK hl
  have hl : lv_has ls 3 [(0, .ref h), (1, .int x), (2, .int y)] := hl
  have hA41 := hw.w41
  have hA33 := hw.a33
  have hA48 := hw.a48
  obtain ⟨hR2, hR, hB1, hB, hS1, hS, -⟩ := id hw
  have h1024 := p2_10 hB
  refine lv_aload_n hx hb dX4_through_0 rfl (lv_at hl 0 rfl) ?_
  refine lv_iload_n hx hb dX4_through_1 rfl (lv_at hl 1 rfl) ?_
  refine nv_callV [.int x] [] hx hb hml hown hts k_RX4_81 (c_X4_isWire l D cI cR h a ρ sv wv nw b ln at0 wd hh x hw) ⟨rfl, rfl, Nat.le_of_ble_eq_true rfl, Nat.le_of_ble_eq_true rfl⟩ hP hK 4 rfl rfl rfl rfl hl rfl (Nat.le_of_ble_eq_true rfl) dX4_through_2 ⟨Nat.zero_le _, Nat.zero_le _⟩ ?_
  refine lv_if_eq (tgt := 38) hx hb dX4_through_5 (by decide) (fun q_5 => ?_) (fun q_5 => ?_)
  · refine lv_bipush (v := -2) hx hb dX4_through_38 (by decide) ?_
    exact nv_ret hx hb hr hlocks (by unfold aThrough; rw [show inB x (nW (ρ 0)) = false from zB_eq0 q_5] <;> rfl) dX4_through_40
  · obtain ⟨hk1, hx1⟩ := inB_cl (by omega) (zB_ne0 q_5)
    have hl := lv_repl [(0, .ref h), (1, .int (nI (cl x))), (2, .int y)] 1 rfl (congrArg (fun z : Int32 => Value.int z) (show x = nI (cl x) from hx1)) rfl hl
    refine lv_aload_n hx hb dX4_through_8 rfl (lv_at hl 0 rfl) ?_
    refine lv_iload_n hx hb dX4_through_9 rfl (lv_at hl 2 rfl) ?_
    refine nv_callV [.int y] [] hx hb hml hown hts k_RX4_71 (c_X4_isRing l D cI cR h a ρ sv wv nw b ln at0 wd hh y hw) ⟨rfl, rfl, Nat.le_of_ble_eq_true rfl, Nat.le_of_ble_eq_true rfl⟩ hP hK 4 rfl rfl rfl rfl hl rfl (Nat.le_of_ble_eq_true rfl) dX4_through_10 ⟨Nat.zero_le _, Nat.zero_le _⟩ ?_
    refine lv_if_eq (tgt := 38) hx hb dX4_through_13 (by decide) (fun q_13 => ?_) (fun q_13 => ?_)
    · refine lv_bipush (v := -2) hx hb dX4_through_38 (by decide) ?_
      exact nv_ret hx hb hr hlocks (by unfold aThrough; rw [show inB x (nW (ρ 0)) = true from zB_ne0 q_5, show inB y (ρ 0 0) = false from zB_eq0 q_13] <;> rfl) dX4_through_40
    · obtain ⟨hk2, hx2⟩ := inB_cl (by omega) (zB_ne0 q_13)
      have hl := lv_repl [(0, .ref h), (1, .int (nI (cl x))), (2, .int (nI (cl y)))] 2 rfl (congrArg (fun z : Int32 => Value.int z) (show y = nI (cl y) from hx2)) rfl hl
      refine lv_aload_n hx hb dX4_through_16 rfl (lv_at hl 0 rfl) ?_
      refine lv_iload_n hx hb dX4_through_17 rfl (lv_at hl 1 rfl) ?_
      refine nv_callV [.int (nI (cl x))] [] hx hb hml hown hts k_RX4_59 (c_X4_right l D cI cR h a ρ sv wv nw b ln at0 wd hh (cl x) hw hk1) ⟨rfl, rfl, Nat.le_of_ble_eq_true rfl, Nat.le_of_ble_eq_true rfl⟩ hP hK 4 rfl rfl rfl rfl hl rfl (Nat.le_of_ble_eq_true rfl) dX4_through_18 ⟨Nat.zero_le _, Nat.zero_le _⟩ ?_
      refine lv_aload_n hx hb dX4_through_21 rfl (lv_at hl 0 rfl) ?_
      refine va_get (D := D) (ci := 4) (v := .ref (a 0)) (C := RX4) (T := TX4) (N := 9) hx hb hts inX4 hown hK hP 0 rfl rfl 0 (by decide) (hts _ fl_RX4_7) (fun _ h9 => h9) rfl dX4_through_22 ?_
      refine lv_bipush (v := nI 100) hx hb dX4_through_25 (by decide) ?_
      refine lv_iload_n hx hb dX4_through_27 rfl (lv_at hl 1 rfl) ?_
      refine nv_iadd hx hb dX4_through_28 ?_
      refine nv_iald (D := D) (v := nI (ρ 0 (100 + (cl x)))) hx hb hK hP 1 0 rfl rfl (k := 100 + (cl x)) (by omega) (by decide) (rw_lo (by omega)) dX4_through_29 ?_
      refine nv_ixor hx hb dX4_through_30 ?_
      refine nv_top (wvM (ρ 0) (cl x)) (rfl) ?_
      refine lv_iload_n hx hb dX4_through_31 rfl (lv_at hl 2 rfl) ?_
      refine nv_ishr hx hb dX4_through_32 (Nat.lt_trans (wvM_lt hw hk1) (by decide)) (by omega) ?_
      refine lv_iconst (v := nI 1) hx hb dX4_through_33 (by decide) ?_
      refine nv_iand hx hb dX4_through_34 ?_
      refine nv_top (((wvM (ρ 0) (cl x)).testBit (cl y)).toNat) (nw_tb _ _) ?_
      refine lv_goto (tgt := 40) hx hb dX4_through_35 (by decide) ?_
      exact nv_ret hx hb hr hlocks (by unfold aThrough; rw [show inB x (nW (ρ 0)) = true from zB_ne0 q_5, show inB y (ρ 0 0) = true from zB_ne0 q_13] <;> rfl) dX4_through_40
set_option maxHeartbeats 4000000 in
set_option maxRecDepth 100000 in
theorem c_X4_read (l : Launch) (D : va_G) (cI cR : ClassId) (h : Nat) (a : Nat → Nat) (ρ : Nat → Nat → Nat) (sv : Nat) (wv : Nat → Nat) (nw : Nat → Nat) (b : Nat → Nat) (ln : Nat) (at0 : Nat) (wd : Nat) (hh : Int64) (x : Int32)  (hw : wf (ρ 0)) (sz : Nat) : Met l yX4_read (wsC yX4_read cX4_read 2 (some .int)) (rmK 5 114) (nPreM D (nTy cI cR) [.ref h, .int x] (wMd h a cI (rwF ρ) sv (nF wv) (nF nw) (nF b) ln at0 wd hh) sz) (QcM D (some (.int (aRead (ρ 0) x))) (wMd h a cI (rwF ρ) sv (nF (cond (inB x (nA (ρ 0))) (wvG (ρ 0) wv (nW (ρ 0))) wv)) (nF nw) (nF b) ln at0 wd hh) (va_A (wMd h a cI (rwF ρ) sv (nF wv) (nF nw) (nF b) ln at0 wd hh) sz)) 0 0 (va_A (wMd h a cI (rwF ρ) sv (nF wv) (nF nw) (nF b) ln at0 wd hh) sz) := by
  refine met_mut (Qc := fun A => QcM D (some (.int (aRead (ρ 0) x))) (wMd h a cI (rwF ρ) sv (nF (cond (inB x (nA (ρ 0))) (wvG (ρ 0) wv (nW (ρ 0))) wv)) (nF nw) (nF b) ln at0 wd hh) A) rfl (Nat.le_of_ble_eq_true rfl) ?_
  intro p e s m args below meth c ls A H locs hx hb hml hr hlocks hown hts hP hK hD hA hS hl
  have hl : lv_has ls 2 [(0, .ref h), (1, .int x)] := hl
  have hA41 := hw.w41
  have hA33 := hw.a33
  have hA48 := hw.a48
  obtain ⟨hR2, hR, hB1, hB, hSa, hSb, -⟩ := id hw
  have h1024 := p2_10 hB
  refine lv_aload_n hx hb dX4_read_0 rfl (lv_at hl 0 rfl) ?_
  refine lv_iload_n hx hb dX4_read_1 rfl (lv_at hl 1 rfl) ?_
  refine nv_callV [.int x] [] hx hb hml hown hts k_RX4_75 (c_X4_isAddress l D cI cR h a ρ sv wv nw b ln at0 wd hh x hw) ⟨rfl, rfl, Nat.le_of_ble_eq_true rfl, Nat.le_of_ble_eq_true rfl⟩ hP hK 4 rfl rfl rfl rfl hl rfl (Nat.le_of_ble_eq_true rfl) dX4_read_2 ⟨Nat.zero_le _, Nat.zero_le _⟩ ?_
  refine lv_if_ne (tgt := 11) hx hb dX4_read_5 (by decide) (fun q_5 => ?_) (fun q_5 => ?_)
  · obtain ⟨hk1, hx1⟩ := inB_cl (by omega) (zB_ne0 q_5)
    have hl := lv_repl [(0, .ref h), (1, .int (nI (cl x)))] 1 rfl (congrArg (fun z : Int32 => Value.int z) (show x = nI (cl x) from hx1)) rfl hl
    refine lv_aload_n hx hb dX4_read_11 rfl (lv_at hl 0 rfl) ?_
    refine mu_call (ws' := (wMd h a cI (rwF ρ) sv (nF (wvG (ρ 0) wv (nW (ρ 0)))) (nF nw) (nF b) ln at0 wd hh)) [0, 1, 2, 3, 4] [] [0, 1, 2, 3, 4] [] [] hx hb hml hown hts k_RX4_84 (fun sz => c_X4_weaves l D cI cR h a ρ sv wv nw b ln at0 wd hh hw sz) ⟨rfl, rfl, Nat.le_of_ble_eq_true rfl, Nat.le_of_ble_eq_true rfl⟩ hP hD hS hA hK 4 rfl rfl rfl rfl rfl rfl rfl (by decide) rfl rfl rfl hl rfl (Nat.le_of_ble_eq_true rfl) dX4_read_12 ⟨Nat.zero_le _, Nat.zero_le _⟩ (fun H locs hP hD hS => ?_)
    refine W.eq (g2 := F0 m 15 ls []) rfl ?_
    refine lv_aload_n hx hb dX4_read_15 rfl (lv_at hl 0 rfl) ?_
    refine lv_iload_n hx hb dX4_read_16 rfl (lv_at hl 1 rfl) ?_
    refine nv_callV [.int (nI (cl x))] [] hx hb hml hown hts k_RX4_96 (c_X4_reads l D cI cR h a ρ sv ((wvG (ρ 0) wv (nW (ρ 0)))) nw b ln at0 wd hh (cl x) hw hk1 (fun w hw9 => wvG_in hw9)) ⟨rfl, rfl, Nat.le_of_ble_eq_true rfl, Nat.le_of_ble_eq_true rfl⟩ hP hK 4 rfl rfl rfl rfl hl rfl (Nat.le_of_ble_eq_true rfl) dX4_read_17 ⟨Nat.zero_le _, Nat.zero_le _⟩ ?_
    have E0 : inB x (nA (ρ 0)) = true := zB_ne0 q_5
    have hP : va_P D vwCl (wMd h a cI (rwF ρ) sv (nF (cond (inB x (nA (ρ 0))) (wvG (ρ 0) wv (nW (ρ 0))) wv)) (nF nw) (nF b) ln at0 wd hh) H := by rw [E0]; exact hP
    have hD : va_D A (wMd h a cI (rwF ρ) sv (nF (cond (inB x (nA (ρ 0))) (wvG (ρ 0) wv (nW (ρ 0))) wv)) (nF nw) (nF b) ln at0 wd hh) := by rw [E0]; exact hD
    exact mu_reti hx hb hr hlocks (by unfold aRead; rw [E0] <;> rfl) hP hD hS dX4_read_20
  · refine lv_bipush (v := -2) hx hb dX4_read_8 (by decide) ?_
    have E0 : inB x (nA (ρ 0)) = false := zB_eq0 q_5
    have hP : va_P D vwCl (wMd h a cI (rwF ρ) sv (nF (cond (inB x (nA (ρ 0))) (wvG (ρ 0) wv (nW (ρ 0))) wv)) (nF nw) (nF b) ln at0 wd hh) H := by rw [E0]; exact hP
    have hD : va_D A (wMd h a cI (rwF ρ) sv (nF (cond (inB x (nA (ρ 0))) (wvG (ρ 0) wv (nW (ρ 0))) wv)) (nF nw) (nF b) ln at0 wd hh) := by rw [E0]; exact hD
    exact mu_reti hx hb hr hlocks (by unfold aRead; rw [E0] <;> rfl) hP hD hS dX4_read_10
set_option maxHeartbeats 4000000 in
set_option maxRecDepth 100000 in
theorem c_X4_readRaw (l : Launch) (D : va_G) (cI cR : ClassId) (h : Nat) (a : Nat → Nat) (ρ : Nat → Nat → Nat) (sv : Nat) (wv : Nat → Nat) (nw : Nat → Nat) (b : Nat → Nat) (ln : Nat) (at0 : Nat) (wd : Nat) (hh : Int64) (x : Int32)  (hw : wf (ρ 0)) (sz : Nat) : Met l yX4_readRaw (wsC yX4_readRaw cX4_readRaw 2 (some .int)) (rmK 5 114) (nPreM D (nTy cI cR) [.ref h, .int x] (wMd h a cI (rwF ρ) sv (nF wv) (nF nw) (nF b) ln at0 wd hh) sz) (QcM D (some (.int (aRaw (ρ 0) x))) (wMd h a cI (rwF ρ) sv (nF (cond (inB x (nA (ρ 0))) (wvG (ρ 0) wv (nW (ρ 0))) wv)) (nF nw) (nF b) ln at0 wd hh) (va_A (wMd h a cI (rwF ρ) sv (nF wv) (nF nw) (nF b) ln at0 wd hh) sz)) 0 0 (va_A (wMd h a cI (rwF ρ) sv (nF wv) (nF nw) (nF b) ln at0 wd hh) sz) := by
  refine met_mut (Qc := fun A => QcM D (some (.int (aRaw (ρ 0) x))) (wMd h a cI (rwF ρ) sv (nF (cond (inB x (nA (ρ 0))) (wvG (ρ 0) wv (nW (ρ 0))) wv)) (nF nw) (nF b) ln at0 wd hh) A) rfl (Nat.le_of_ble_eq_true rfl) ?_
  intro p e s m args below meth c ls A H locs hx hb hml hr hlocks hown hts hP hK hD hA hS hl
  have hl : lv_has ls 2 [(0, .ref h), (1, .int x)] := hl
  have hA41 := hw.w41
  have hA33 := hw.a33
  have hA48 := hw.a48
  obtain ⟨hR2, hR, hB1, hB, hSa, hSb, -⟩ := id hw
  have h1024 := p2_10 hB
  refine lv_aload_n hx hb dX4_readRaw_0 rfl (lv_at hl 0 rfl) ?_
  refine lv_iload_n hx hb dX4_readRaw_1 rfl (lv_at hl 1 rfl) ?_
  refine nv_callV [.int x] [] hx hb hml hown hts k_RX4_75 (c_X4_isAddress l D cI cR h a ρ sv wv nw b ln at0 wd hh x hw) ⟨rfl, rfl, Nat.le_of_ble_eq_true rfl, Nat.le_of_ble_eq_true rfl⟩ hP hK 4 rfl rfl rfl rfl hl rfl (Nat.le_of_ble_eq_true rfl) dX4_readRaw_2 ⟨Nat.zero_le _, Nat.zero_le _⟩ ?_
  refine lv_if_ne (tgt := 11) hx hb dX4_readRaw_5 (by decide) (fun q_5 => ?_) (fun q_5 => ?_)
  · obtain ⟨hk1, hx1⟩ := inB_cl (by omega) (zB_ne0 q_5)
    have hl := lv_repl [(0, .ref h), (1, .int (nI (cl x)))] 1 rfl (congrArg (fun z : Int32 => Value.int z) (show x = nI (cl x) from hx1)) rfl hl
    refine lv_aload_n hx hb dX4_readRaw_11 rfl (lv_at hl 0 rfl) ?_
    refine mu_call (ws' := (wMd h a cI (rwF ρ) sv (nF (wvG (ρ 0) wv (nW (ρ 0)))) (nF nw) (nF b) ln at0 wd hh)) [0, 1, 2, 3, 4] [] [0, 1, 2, 3, 4] [] [] hx hb hml hown hts k_RX4_84 (fun sz => c_X4_weaves l D cI cR h a ρ sv wv nw b ln at0 wd hh hw sz) ⟨rfl, rfl, Nat.le_of_ble_eq_true rfl, Nat.le_of_ble_eq_true rfl⟩ hP hD hS hA hK 4 rfl rfl rfl rfl rfl rfl rfl (by decide) rfl rfl rfl hl rfl (Nat.le_of_ble_eq_true rfl) dX4_readRaw_12 ⟨Nat.zero_le _, Nat.zero_le _⟩ (fun H locs hP hD hS => ?_)
    refine W.eq (g2 := F0 m 15 ls []) rfl ?_
    refine lv_aload_n hx hb dX4_readRaw_15 rfl (lv_at hl 0 rfl) ?_
    refine lv_iload_n hx hb dX4_readRaw_16 rfl (lv_at hl 1 rfl) ?_
    refine nv_callV [.int (nI (cl x))] [] hx hb hml hown hts k_RX4_93 (c_X4_rawWord l D cI cR h a ρ sv ((wvG (ρ 0) wv (nW (ρ 0)))) nw b ln at0 wd hh (cl x) hw hk1 (fun w hw9 => wvG_in hw9)) ⟨rfl, rfl, Nat.le_of_ble_eq_true rfl, Nat.le_of_ble_eq_true rfl⟩ hP hK 4 rfl rfl rfl rfl hl rfl (Nat.le_of_ble_eq_true rfl) dX4_readRaw_17 ⟨Nat.zero_le _, Nat.zero_le _⟩ ?_
    have E0 : inB x (nA (ρ 0)) = true := zB_ne0 q_5
    have hP : va_P D vwCl (wMd h a cI (rwF ρ) sv (nF (cond (inB x (nA (ρ 0))) (wvG (ρ 0) wv (nW (ρ 0))) wv)) (nF nw) (nF b) ln at0 wd hh) H := by rw [E0]; exact hP
    have hD : va_D A (wMd h a cI (rwF ρ) sv (nF (cond (inB x (nA (ρ 0))) (wvG (ρ 0) wv (nW (ρ 0))) wv)) (nF nw) (nF b) ln at0 wd hh) := by rw [E0]; exact hD
    exact mu_reti hx hb hr hlocks (by unfold aRaw; rw [E0] <;> rfl) hP hD hS dX4_readRaw_20
  · refine lv_bipush (v := -2) hx hb dX4_readRaw_8 (by decide) ?_
    have E0 : inB x (nA (ρ 0)) = false := zB_eq0 q_5
    have hP : va_P D vwCl (wMd h a cI (rwF ρ) sv (nF (cond (inB x (nA (ρ 0))) (wvG (ρ 0) wv (nW (ρ 0))) wv)) (nF nw) (nF b) ln at0 wd hh) H := by rw [E0]; exact hP
    have hD : va_D A (wMd h a cI (rwF ρ) sv (nF (cond (inB x (nA (ρ 0))) (wvG (ρ 0) wv (nW (ρ 0))) wv)) (nF nw) (nF b) ln at0 wd hh) := by rw [E0]; exact hD
    exact mu_reti hx hb hr hlocks (by unfold aRaw; rw [E0] <;> rfl) hP hD hS dX4_readRaw_10
set_option maxHeartbeats 4000000 in
set_option maxRecDepth 100000 in
theorem c_X4_parity (l : Launch) (D : va_G) (cI cR : ClassId) (h : Nat) (a : Nat → Nat) (ρ : Nat → Nat → Nat) (sv : Nat) (wv : Nat → Nat) (nw : Nat → Nat) (b : Nat → Nat) (ln : Nat) (at0 : Nat) (wd : Nat) (hh : Int64) (x : Int32)  (hw : wf (ρ 0)) (sz : Nat) : Met l yX4_parity (wsC yX4_parity cX4_parity 2 (some .int)) (rmK 5 114) (nPreM D (nTy cI cR) [.ref h, .int x] (wMd h a cI (rwF ρ) sv (nF wv) (nF nw) (nF b) ln at0 wd hh) sz) (QcM D (some (.int (aParity (ρ 0) x))) (wMd h a cI (rwF ρ) sv (nF (cond (inB x (nA (ρ 0))) (wvG (ρ 0) wv (nW (ρ 0))) wv)) (nF nw) (nF b) ln at0 wd hh) (va_A (wMd h a cI (rwF ρ) sv (nF wv) (nF nw) (nF b) ln at0 wd hh) sz)) 0 0 (va_A (wMd h a cI (rwF ρ) sv (nF wv) (nF nw) (nF b) ln at0 wd hh) sz) := by
  refine met_mut (Qc := fun A => QcM D (some (.int (aParity (ρ 0) x))) (wMd h a cI (rwF ρ) sv (nF (cond (inB x (nA (ρ 0))) (wvG (ρ 0) wv (nW (ρ 0))) wv)) (nF nw) (nF b) ln at0 wd hh) A) rfl (Nat.le_of_ble_eq_true rfl) ?_
  intro p e s m args below meth c ls A H locs hx hb hml hr hlocks hown hts hP hK hD hA hS hl
  have hl : lv_has ls 2 [(0, .ref h), (1, .int x)] := hl
  have hA41 := hw.w41
  have hA33 := hw.a33
  have hA48 := hw.a48
  obtain ⟨hR2, hR, hB1, hB, hSa, hSb, -⟩ := id hw
  have h1024 := p2_10 hB
  refine lv_aload_n hx hb dX4_parity_0 rfl (lv_at hl 0 rfl) ?_
  refine lv_iload_n hx hb dX4_parity_1 rfl (lv_at hl 1 rfl) ?_
  refine nv_callV [.int x] [] hx hb hml hown hts k_RX4_75 (c_X4_isAddress l D cI cR h a ρ sv wv nw b ln at0 wd hh x hw) ⟨rfl, rfl, Nat.le_of_ble_eq_true rfl, Nat.le_of_ble_eq_true rfl⟩ hP hK 4 rfl rfl rfl rfl hl rfl (Nat.le_of_ble_eq_true rfl) dX4_parity_2 ⟨Nat.zero_le _, Nat.zero_le _⟩ ?_
  refine lv_if_ne (tgt := 11) hx hb dX4_parity_5 (by decide) (fun q_5 => ?_) (fun q_5 => ?_)
  · obtain ⟨hk1, hx1⟩ := inB_cl (by omega) (zB_ne0 q_5)
    have hl := lv_repl [(0, .ref h), (1, .int (nI (cl x)))] 1 rfl (congrArg (fun z : Int32 => Value.int z) (show x = nI (cl x) from hx1)) rfl hl
    refine lv_aload_n hx hb dX4_parity_11 rfl (lv_at hl 0 rfl) ?_
    refine mu_call (ws' := (wMd h a cI (rwF ρ) sv (nF (wvG (ρ 0) wv (nW (ρ 0)))) (nF nw) (nF b) ln at0 wd hh)) [0, 1, 2, 3, 4] [] [0, 1, 2, 3, 4] [] [] hx hb hml hown hts k_RX4_84 (fun sz => c_X4_weaves l D cI cR h a ρ sv wv nw b ln at0 wd hh hw sz) ⟨rfl, rfl, Nat.le_of_ble_eq_true rfl, Nat.le_of_ble_eq_true rfl⟩ hP hD hS hA hK 4 rfl rfl rfl rfl rfl rfl rfl (by decide) rfl rfl rfl hl rfl (Nat.le_of_ble_eq_true rfl) dX4_parity_12 ⟨Nat.zero_le _, Nat.zero_le _⟩ (fun H locs hP hD hS => ?_)
    refine W.eq (g2 := F0 m 15 ls []) rfl ?_
    refine lv_aload_n hx hb dX4_parity_15 rfl (lv_at hl 0 rfl) ?_
    refine lv_iload_n hx hb dX4_parity_16 rfl (lv_at hl 1 rfl) ?_
    refine nv_callV [.int (nI (cl x))] [] hx hb hml hown hts k_RX4_99 (c_X4_isEven l D cI cR h a ρ sv ((wvG (ρ 0) wv (nW (ρ 0)))) nw b ln at0 wd hh (cl x) hw hk1 (fun w hw9 => wvG_in hw9)) ⟨rfl, rfl, Nat.le_of_ble_eq_true rfl, Nat.le_of_ble_eq_true rfl⟩ hP hK 4 rfl rfl rfl rfl hl rfl (Nat.le_of_ble_eq_true rfl) dX4_parity_17 ⟨Nat.zero_le _, Nat.zero_le _⟩ ?_
    refine lv_if_eq (tgt := 27) hx hb dX4_parity_20 (by decide) (fun q_20 => ?_) (fun q_20 => ?_)
    · refine lv_iconst (v := nI 1) hx hb dX4_parity_27 (by decide) ?_
      have E0 : inB x (nA (ρ 0)) = true := zB_ne0 q_5
      have hP : va_P D vwCl (wMd h a cI (rwF ρ) sv (nF (cond (inB x (nA (ρ 0))) (wvG (ρ 0) wv (nW (ρ 0))) wv)) (nF nw) (nF b) ln at0 wd hh) H := by rw [E0]; exact hP
      have hD : va_D A (wMd h a cI (rwF ρ) sv (nF (cond (inB x (nA (ρ 0))) (wvG (ρ 0) wv (nW (ρ 0))) wv)) (nF nw) (nF b) ln at0 wd hh) := by rw [E0]; exact hD
      exact mu_reti hx hb hr hlocks (by unfold aParity; rw [E0]; first | exact zB_0 (by have := zB_ne0 q_20; simpa using this) | exact zB_1 (by have := zB_eq0 q_20; simpa using this)) hP hD hS dX4_parity_28
    · refine lv_iconst (v := nI 0) hx hb dX4_parity_23 (by decide) ?_
      refine lv_goto (tgt := 28) hx hb dX4_parity_24 (by decide) ?_
      have E0 : inB x (nA (ρ 0)) = true := zB_ne0 q_5
      have hP : va_P D vwCl (wMd h a cI (rwF ρ) sv (nF (cond (inB x (nA (ρ 0))) (wvG (ρ 0) wv (nW (ρ 0))) wv)) (nF nw) (nF b) ln at0 wd hh) H := by rw [E0]; exact hP
      have hD : va_D A (wMd h a cI (rwF ρ) sv (nF (cond (inB x (nA (ρ 0))) (wvG (ρ 0) wv (nW (ρ 0))) wv)) (nF nw) (nF b) ln at0 wd hh) := by rw [E0]; exact hD
      exact mu_reti hx hb hr hlocks (by unfold aParity; rw [E0]; first | exact zB_0 (by have := zB_ne0 q_20; simpa using this) | exact zB_1 (by have := zB_eq0 q_20; simpa using this)) hP hD hS dX4_parity_28
  · refine lv_bipush (v := -2) hx hb dX4_parity_8 (by decide) ?_
    have E0 : inB x (nA (ρ 0)) = false := zB_eq0 q_5
    have hP : va_P D vwCl (wMd h a cI (rwF ρ) sv (nF (cond (inB x (nA (ρ 0))) (wvG (ρ 0) wv (nW (ρ 0))) wv)) (nF nw) (nF b) ln at0 wd hh) H := by rw [E0]; exact hP
    have hD : va_D A (wMd h a cI (rwF ρ) sv (nF (cond (inB x (nA (ρ 0))) (wvG (ρ 0) wv (nW (ρ 0))) wv)) (nF nw) (nF b) ln at0 wd hh) := by rw [E0]; exact hD
    exact mu_reti hx hb hr hlocks (by unfold aParity; rw [E0] <;> rfl) hP hD hS dX4_parity_10
set_option maxHeartbeats 4000000 in
set_option maxRecDepth 100000 in
theorem c_X4_picked (l : Launch) (D : va_G) (cI cR : ClassId) (h : Nat) (a : Nat → Nat) (ρ : Nat → Nat → Nat) (sv : Nat) (wv : Nat → Nat) (nw : Nat → Nat) (b : Nat → Nat) (ln : Nat) (at0 : Nat) (wd : Nat) (hh : Int64) (x : Int32)  (hw : wf (ρ 0)) (sz : Nat) : Met l yX4_picked (wsC yX4_picked cX4_picked 2 (some .int)) (rmK 5 114) (nPreM D (nTy cI cR) [.ref h, .int x] (wMd h a cI (rwF ρ) sv (nF wv) (nF nw) (nF b) ln at0 wd hh) sz) (QcM D (some (.int (aPicked (ρ 0) x))) (wMd h a cI (rwF ρ) sv (nF (cond (inB x 16) (wvG (ρ 0) wv (nW (ρ 0))) wv)) (nF nw) (nF b) ln at0 wd hh) (va_A (wMd h a cI (rwF ρ) sv (nF wv) (nF nw) (nF b) ln at0 wd hh) sz)) 0 0 (va_A (wMd h a cI (rwF ρ) sv (nF wv) (nF nw) (nF b) ln at0 wd hh) sz) := by
  refine met_mut (Qc := fun A => QcM D (some (.int (aPicked (ρ 0) x))) (wMd h a cI (rwF ρ) sv (nF (cond (inB x 16) (wvG (ρ 0) wv (nW (ρ 0))) wv)) (nF nw) (nF b) ln at0 wd hh) A) rfl (Nat.le_of_ble_eq_true rfl) ?_
  intro p e s m args below meth c ls A H locs hx hb hml hr hlocks hown hts hP hK hD hA hS hl
  have hl : lv_has ls 2 [(0, .ref h), (1, .int x)] := hl
  have hA41 := hw.w41
  have hA33 := hw.a33
  have hA48 := hw.a48
  obtain ⟨hR2, hR, hB1, hB, hSa, hSb, -⟩ := id hw
  have h1024 := p2_10 hB
  refine lv_iload_n hx hb dX4_picked_0 rfl (lv_at hl 1 rfl) ?_
  refine lv_iconst (v := nI 0) hx hb dX4_picked_1 (by decide) ?_
  refine lv_bipush (v := nI 15) hx hb dX4_picked_2 (by decide) ?_
  refine nv_callS [.int x, .int (nI 0), .int (nI 15)] [] hx hb hml hown hts k_RX4_34 (c_X4_in l D cI cR x 0 15 (by omega) (by omega)) ⟨rfl, rfl, Nat.le_of_ble_eq_true rfl, Nat.le_of_ble_eq_true rfl⟩ (va_P_nil) hK rfl hl rfl (Nat.le_of_ble_eq_true rfl) dX4_picked_4 ⟨Nat.zero_le _, Nat.zero_le _⟩ ?_
  refine lv_if_ne (tgt := 13) hx hb dX4_picked_7 (by decide) (fun q_7 => ?_) (fun q_7 => ?_)
  · obtain ⟨hk1, hx1⟩ := inB_cl (by decide) ((btw_inB (n := 16) (by decide)).symm.trans (zB_ne0 q_7))
    have hl := lv_repl [(0, .ref h), (1, .int (nI (cl x)))] 1 rfl (congrArg (fun z : Int32 => Value.int z) (show x = nI (cl x) from hx1)) rfl hl
    refine lv_aload_n hx hb dX4_picked_13 rfl (lv_at hl 0 rfl) ?_
    refine mu_call (ws' := (wMd h a cI (rwF ρ) sv (nF (wvG (ρ 0) wv (nW (ρ 0)))) (nF nw) (nF b) ln at0 wd hh)) [0, 1, 2, 3, 4] [] [0, 1, 2, 3, 4] [] [] hx hb hml hown hts k_RX4_84 (fun sz => c_X4_weaves l D cI cR h a ρ sv wv nw b ln at0 wd hh hw sz) ⟨rfl, rfl, Nat.le_of_ble_eq_true rfl, Nat.le_of_ble_eq_true rfl⟩ hP hD hS hA hK 4 rfl rfl rfl rfl rfl rfl rfl (by decide) rfl rfl rfl hl rfl (Nat.le_of_ble_eq_true rfl) dX4_picked_14 ⟨Nat.zero_le _, Nat.zero_le _⟩ (fun H locs hP hD hS => ?_)
    refine W.eq (g2 := F0 m 17 ls []) rfl ?_
    refine lv_aload_n hx hb dX4_picked_17 rfl (lv_at hl 0 rfl) ?_
    refine lv_iload_n hx hb dX4_picked_18 rfl (lv_at hl 1 rfl) ?_
    refine nv_callV [.int (nI (cl x))] [] hx hb hml hown hts k_RX4_87 (c_X4_picks l D cI cR h a ρ sv ((wvG (ρ 0) wv (nW (ρ 0)))) nw b ln at0 wd hh (cl x) hw (by omega)) ⟨rfl, rfl, Nat.le_of_ble_eq_true rfl, Nat.le_of_ble_eq_true rfl⟩ hP hK 4 rfl rfl rfl rfl hl rfl (Nat.le_of_ble_eq_true rfl) dX4_picked_19 ⟨Nat.zero_le _, Nat.zero_le _⟩ ?_
    have E0 : inB x 16 = true := (btw_inB (n := 16) (by decide)).symm.trans (zB_ne0 q_7)
    have hP : va_P D vwCl (wMd h a cI (rwF ρ) sv (nF (cond (inB x 16) (wvG (ρ 0) wv (nW (ρ 0))) wv)) (nF nw) (nF b) ln at0 wd hh) H := by rw [E0]; exact hP
    have hD : va_D A (wMd h a cI (rwF ρ) sv (nF (cond (inB x 16) (wvG (ρ 0) wv (nW (ρ 0))) wv)) (nF nw) (nF b) ln at0 wd hh) := by rw [E0]; exact hD
    exact mu_reti hx hb hr hlocks (by unfold aPicked; rw [E0, pkM_cong (wv := wvG (ρ 0) wv (nW (ρ 0))) (wv' := wvM (ρ 0)) (fun w h8 => wvG_in (by unfold nW; omega))]; rfl) hP hD hS dX4_picked_22
  · refine lv_bipush (v := -3) hx hb dX4_picked_10 (by decide) ?_
    have E0 : inB x 16 = false := (btw_inB (n := 16) (by decide)).symm.trans (zB_eq0 q_7)
    have hP : va_P D vwCl (wMd h a cI (rwF ρ) sv (nF (cond (inB x 16) (wvG (ρ 0) wv (nW (ρ 0))) wv)) (nF nw) (nF b) ln at0 wd hh) H := by rw [E0]; exact hP
    have hD : va_D A (wMd h a cI (rwF ρ) sv (nF (cond (inB x 16) (wvG (ρ 0) wv (nW (ρ 0))) wv)) (nF nw) (nF b) ln at0 wd hh) := by rw [E0]; exact hD
    exact mu_reti hx hb hr hlocks (by unfold aPicked; rw [E0] <;> rfl) hP hD hS dX4_picked_12
set_option maxHeartbeats 4000000 in
set_option maxRecDepth 100000 in
theorem c_X4_wrong (l : Launch) (D : va_G) (cI cR : ClassId) (h : Nat) (a : Nat → Nat) (ρ : Nat → Nat → Nat) (sv : Nat) (wv : Nat → Nat) (nw : Nat → Nat) (b : Nat → Nat) (ln : Nat) (at0 : Nat) (wd : Nat) (hh : Int64) (x : Int32)  (hw : wf (ρ 0)) (sz : Nat) : Met l yX4_wrong (wsC yX4_wrong cX4_wrong 2 (some .int)) (rmK 6 139) (nPreM D (nTy cI cR) [.ref h, .int x] (wMd h a cI (rwF ρ) sv (nF wv) (nF nw) (nF b) ln at0 wd hh) sz) (QcM D (some (.int (aWrong (ρ 0) x))) (wMd h a cI (rwF ρ) sv (nF (cond (inB x 4) (wvG (ρ 0) wv (nW (ρ 0))) wv)) (nF nw) (nF b) ln at0 wd hh) (va_A (wMd h a cI (rwF ρ) sv (nF wv) (nF nw) (nF b) ln at0 wd hh) sz)) 0 0 (va_A (wMd h a cI (rwF ρ) sv (nF wv) (nF nw) (nF b) ln at0 wd hh) sz) := by
  refine met_mut (Qc := fun A => QcM D (some (.int (aWrong (ρ 0) x))) (wMd h a cI (rwF ρ) sv (nF (cond (inB x 4) (wvG (ρ 0) wv (nW (ρ 0))) wv)) (nF nw) (nF b) ln at0 wd hh) A) rfl (Nat.le_of_ble_eq_true rfl) ?_
  intro p e s m args below meth c ls A H locs hx hb hml hr hlocks hown hts hP hK hD hA hS hl
  have hl : lv_has ls 2 [(0, .ref h), (1, .int x)] := hl
  have hA41 := hw.w41
  have hA33 := hw.a33
  have hA48 := hw.a48
  obtain ⟨hR2, hR, hB1, hB, hSa, hSb, -⟩ := id hw
  have h1024 := p2_10 hB
  refine lv_iload_n hx hb dX4_wrong_0 rfl (lv_at hl 1 rfl) ?_
  refine lv_iconst (v := nI 0) hx hb dX4_wrong_1 (by decide) ?_
  refine lv_iconst (v := nI 3) hx hb dX4_wrong_2 (by decide) ?_
  refine nv_callS [.int x, .int (nI 0), .int (nI 3)] [] hx hb hml hown hts k_RX4_34 (c_X4_in l D cI cR x 0 3 (by omega) (by omega)) ⟨rfl, rfl, Nat.le_of_ble_eq_true rfl, Nat.le_of_ble_eq_true rfl⟩ (va_P_nil) hK rfl hl rfl (Nat.le_of_ble_eq_true rfl) dX4_wrong_3 ⟨Nat.zero_le _, Nat.zero_le _⟩ ?_
  refine lv_if_eq (tgt := 17) hx hb dX4_wrong_6 (by decide) (fun q_6 => ?_) (fun q_6 => ?_)
  · refine lv_bipush (v := -3) hx hb dX4_wrong_17 (by decide) ?_
    have E0 : inB x 4 = false := (btw_inB (n := 4) (by decide)).symm.trans (zB_eq0 q_6)
    have hP : va_P D vwCl (wMd h a cI (rwF ρ) sv (nF (cond (inB x 4) (wvG (ρ 0) wv (nW (ρ 0))) wv)) (nF nw) (nF b) ln at0 wd hh) H := by rw [E0]; exact hP
    have hD : va_D A (wMd h a cI (rwF ρ) sv (nF (cond (inB x 4) (wvG (ρ 0) wv (nW (ρ 0))) wv)) (nF nw) (nF b) ln at0 wd hh) := by rw [E0]; exact hD
    exact mu_reti hx hb hr hlocks (by unfold aWrong; rw [E0] <;> rfl) hP hD hS dX4_wrong_19
  · obtain ⟨hk1, hx1⟩ := inB_cl (by decide) ((btw_inB (n := 4) (by decide)).symm.trans (zB_ne0 q_6))
    have hl := lv_repl [(0, .ref h), (1, .int (nI (cl x)))] 1 rfl (congrArg (fun z : Int32 => Value.int z) (show x = nI (cl x) from hx1)) rfl hl
    refine lv_aload_n hx hb dX4_wrong_9 rfl (lv_at hl 0 rfl) ?_
    refine lv_iload_n hx hb dX4_wrong_10 rfl (lv_at hl 1 rfl) ?_
    refine mu_call (ws' := (wMd h a cI (rwF ρ) sv (nF (wvG (ρ 0) wv (nW (ρ 0)))) (nF nw) (nF b) ln at0 wd hh)) [0, 1, 2, 3, 4] [] [0, 1, 2, 3, 4] [.int (nI (cl x))] [] hx hb hml hown hts k_RX4_102 (fun sz => c_X4_wrongs l D cI cR h a ρ sv wv nw b ln at0 wd hh (cl x) hw hk1 sz) ⟨rfl, rfl, Nat.le_of_ble_eq_true rfl, Nat.le_of_ble_eq_true rfl⟩ hP hD hS hA hK 4 rfl rfl rfl rfl rfl rfl rfl (by decide) rfl rfl rfl hl rfl (Nat.le_of_ble_eq_true rfl) dX4_wrong_11 ⟨Nat.zero_le _, Nat.zero_le _⟩ (fun H locs hP hD hS => ?_)
    refine W.eq (g2 := F0 m 14 ls [.int (nI (ct (iwB (ρ 0) (cl x)) (nA (ρ 0))))]) rfl ?_
    refine lv_goto (tgt := 19) hx hb dX4_wrong_14 (by decide) ?_
    have E0 : inB x 4 = true := (btw_inB (n := 4) (by decide)).symm.trans (zB_ne0 q_6)
    have hP : va_P D vwCl (wMd h a cI (rwF ρ) sv (nF (cond (inB x 4) (wvG (ρ 0) wv (nW (ρ 0))) wv)) (nF nw) (nF b) ln at0 wd hh) H := by rw [E0]; exact hP
    have hD : va_D A (wMd h a cI (rwF ρ) sv (nF (cond (inB x 4) (wvG (ρ 0) wv (nW (ρ 0))) wv)) (nF nw) (nF b) ln at0 wd hh) := by rw [E0]; exact hD
    exact mu_reti hx hb hr hlocks (by unfold aWrong; rw [E0] <;> rfl) hP hD hS dX4_wrong_19
set_option maxHeartbeats 4000000 in
set_option maxRecDepth 100000 in
theorem c_X4_count (l : Launch) (D : va_G) (cI cR : ClassId) (h : Nat) (a : Nat → Nat) (ρ : Nat → Nat → Nat) (sv : Nat) (wv : Nat → Nat) (nw : Nat → Nat) (b : Nat → Nat) (ln : Nat) (at0 : Nat) (wd : Nat) (hh : Int64) (x : Int32)  (hw : wf (ρ 0)) : MetR l yX4_count cX4_count 4 (some .int) (rmK 5 114) (nPre D (nTy cI cR) [.ref h, .int x] (wMd h a cI (rwF ρ) sv (nF wv) (nF nw) (nF b) ln at0 wd hh)) (aCount (ρ 0) x) := by
  refine met_read rfl (Nat.le_of_ble_eq_true rfl) ?_
  intro p e s m args below meth c ls hx hb hml hr hlocks hown hts hP hK hl
  have hl : lv_has ls 4 [(0, .ref h), (1, .int x)] := hl
  have hA41 := hw.w41
  have hA33 := hw.a33
  have hA48 := hw.a48
  obtain ⟨hR2, hR, hB1, hB, hS1, hS, -⟩ := id hw
  have h1024 := p2_10 hB
  refine lv_iload_n hx hb dX4_count_0 rfl (lv_at hl 1 rfl) ?_
  refine lv_iconst (v := nI 0) hx hb dX4_count_1 (by decide) ?_
  refine lv_bipush (v := nI 8) hx hb dX4_count_2 (by decide) ?_
  refine nv_callS [.int x, .int (nI 0), .int (nI 8)] [] hx hb hml hown hts k_RX4_34 (c_X4_in l D cI cR x 0 8 (by omega) (by omega)) ⟨rfl, rfl, Nat.le_of_ble_eq_true rfl, Nat.le_of_ble_eq_true rfl⟩ (va_P_nil) hK rfl hl rfl (Nat.le_of_ble_eq_true rfl) dX4_count_4 ⟨Nat.zero_le _, Nat.zero_le _⟩ ?_
  refine lv_if_ne (tgt := 13) hx hb dX4_count_7 (by decide) (fun q_7 => ?_) (fun q_7 => ?_)
  · obtain ⟨hk1, hx1⟩ := inB_cl (by decide) ((btw_inB (n := 9) (by decide)).symm.trans (zB_ne0 q_7))
    have hl := lv_repl [(0, .ref h), (1, .int (nI (cl x)))] 1 rfl (congrArg (fun z : Int32 => Value.int z) (show x = nI (cl x) from hx1)) rfl hl
    refine lv_iload_n hx hb dX4_count_13 rfl (lv_at hl 1 rfl) ?_
    refine lv_iconst (v := nI 3) hx hb dX4_count_14 (by decide) ?_
    refine nv_icmp_ge (tgt := 25) hx hb dX4_count_15 (by decide) (by omega) (by omega) (fun q_15 => ?_) (fun q_15 => ?_)
    · refine lv_iconst (v := nI 0) hx hb dX4_count_25 (by decide) ?_
      refine lv_istore_n (lv' := [(2, .int (nI 0)), (0, .ref h), (1, .int (nI (cl x)))]) hx hb dX4_count_26 rfl hl (by decide) rfl (fun ls hl => ?_)
      refine lv_iconst (v := nI 0) hx hb dX4_count_27 (by decide) ?_
      refine lv_istore_n (lv' := [(3, .int (nI 0)), (2, .int (nI 0)), (0, .ref h), (1, .int (nI (cl x)))]) hx hb dX4_count_28 rfl hl (by decide) rfl (fun ls hl => ?_)
      have L29 : ∀ (n29 i : Nat), nW (ρ 0) + 1 ≤ i + n29 → i ≤ nW (ρ 0) → ∀ (ls : Array Slot), lv_has ls 4 [(3, .int (nI i)), (2, .int (nI (sm (ctv (ρ 0) (cl x)) i))), (0, .ref h), (1, .int (nI (cl x)))] → W p l e (rmK 5 114) s m args below meth c s.heap [] 0 0 (MQ below (QcRead (aCount (ρ 0) x)) args s 0 0 (fun _ => False)) (F0 m 29 ls []) := by
        intro n29
        induction n29 with
        | zero =>
          intro i h1_29 h2_29
          exact False.elim (by omega)
        | succ n29 ih29 =>
          intro i h1_29 h2_29  ls hl
          refine lv_iload_n hx hb dX4_count_29 rfl (lv_at hl 0 rfl) ?_
          refine lv_aload_n hx hb dX4_count_30 rfl (lv_at hl 2 rfl) ?_
          refine nv_callV [] [.int (nI i)] hx hb hml hown hts k_RX4_38 (c_X4_wires l D cI cR h a ρ sv wv nw b ln at0 wd hh ) ⟨rfl, rfl, Nat.le_of_ble_eq_true rfl, Nat.le_of_ble_eq_true rfl⟩ hP hK 4 rfl rfl rfl rfl hl rfl (Nat.le_of_ble_eq_true rfl) dX4_count_31 ⟨Nat.zero_le _, Nat.zero_le _⟩ ?_
          refine nv_icmp_ge (tgt := 108) hx hb dX4_count_34 (by decide) (by omega) (by omega) (fun q_34 => ?_) (fun q_34 => ?_)
          · refine lv_iload_n hx hb dX4_count_108 rfl (lv_at hl 3 rfl) ?_
            refine lv_iconst (v := nI 3) hx hb dX4_count_109 (by decide) ?_
            refine nv_icmp_ne (tgt := 120) hx hb dX4_count_110 (by decide) (by omega) (by omega) (fun q_110 => ?_) (fun q_110 => ?_)
            · refine lv_iload_n hx hb dX4_count_120 rfl (lv_at hl 3 rfl) ?_
              refine lv_iconst (v := nI 4) hx hb dX4_count_121 (by decide) ?_
              refine nv_icmp_ne (tgt := 132) hx hb dX4_count_122 (by decide) (by omega) (by omega) (fun q_122 => ?_) (fun q_122 => ?_)
              · refine lv_iload_n hx hb dX4_count_132 rfl (lv_at hl 3 rfl) ?_
                refine lv_bipush (v := nI 7) hx hb dX4_count_133 (by decide) ?_
                refine nv_icmp_ne (tgt := 145) hx hb dX4_count_135 (by decide) (by omega) (by omega) (fun q_135 => ?_) (fun q_135 => ?_)
                · refine lv_iload_n hx hb dX4_count_145 rfl (lv_at hl 1 rfl) ?_
                  exact nv_ret hx hb hr hlocks (by unfold aCount; rw [show inB x 9 = true from (btw_inB (n := 9) (by decide)).symm.trans (zB_ne0 q_7)]; show _ = nI (nuN (ρ 0) (cl x)); rw [← cnt_e (by omega), show i = nW (ρ 0) by omega]) dX4_count_146
                · refine lv_aload_n hx hb dX4_count_138 rfl (lv_at hl 2 rfl) ?_
                  refine nv_callV [] [] hx hb hml hown hts k_RX4_68 (c_X4_patches l D cI cR h a ρ sv wv nw b ln at0 wd hh hw) ⟨rfl, rfl, Nat.le_of_ble_eq_true rfl, Nat.le_of_ble_eq_true rfl⟩ hP hK 4 rfl rfl rfl rfl hl rfl (Nat.le_of_ble_eq_true rfl) dX4_count_139 ⟨Nat.zero_le _, Nat.zero_le _⟩ ?_
                  refine lv_goto (tgt := 146) hx hb dX4_count_142 (by decide) ?_
                  exact nv_ret hx hb hr hlocks (by unfold aCount; rw [show inB x 9 = true from (btw_inB (n := 9) (by decide)).symm.trans (zB_ne0 q_7)]; show _ = nI (nuN (ρ 0) (cl x)); rw [q_135]; rfl) dX4_count_146
              · refine lv_aload_n hx hb dX4_count_125 rfl (lv_at hl 2 rfl) ?_
                refine nv_callV [] [] hx hb hml hown hts k_RX4_38 (c_X4_wires l D cI cR h a ρ sv wv nw b ln at0 wd hh ) ⟨rfl, rfl, Nat.le_of_ble_eq_true rfl, Nat.le_of_ble_eq_true rfl⟩ hP hK 4 rfl rfl rfl rfl hl rfl (Nat.le_of_ble_eq_true rfl) dX4_count_126 ⟨Nat.zero_le _, Nat.zero_le _⟩ ?_
                refine lv_goto (tgt := 146) hx hb dX4_count_129 (by decide) ?_
                exact nv_ret hx hb hr hlocks (by unfold aCount; rw [show inB x 9 = true from (btw_inB (n := 9) (by decide)).symm.trans (zB_ne0 q_7)]; show _ = nI (nuN (ρ 0) (cl x)); rw [q_122]; rfl) dX4_count_146
            · refine lv_aload_n hx hb dX4_count_113 rfl (lv_at hl 2 rfl) ?_
              refine nv_callV [] [] hx hb hml hown hts k_RX4_42 (c_X4_addresses l D cI cR h a ρ sv wv nw b ln at0 wd hh ) ⟨rfl, rfl, Nat.le_of_ble_eq_true rfl, Nat.le_of_ble_eq_true rfl⟩ hP hK 4 rfl rfl rfl rfl hl rfl (Nat.le_of_ble_eq_true rfl) dX4_count_114 ⟨Nat.zero_le _, Nat.zero_le _⟩ ?_
              refine lv_goto (tgt := 146) hx hb dX4_count_117 (by decide) ?_
              exact nv_ret hx hb hr hlocks (by unfold aCount; rw [show inB x 9 = true from (btw_inB (n := 9) (by decide)).symm.trans (zB_ne0 q_7)]; show _ = nI (nuN (ρ 0) (cl x)); rw [q_110]; rfl) dX4_count_146
          · refine lv_iload_n hx hb dX4_count_37 rfl (lv_at hl 1 rfl) ?_
            refine lv_iload_n hx hb dX4_count_38 rfl (lv_at hl 3 rfl) ?_
            refine lv_iconst (v := nI 5) hx hb dX4_count_39 (by decide) ?_
            have J40 : ∀ (ls : Array Slot), lv_has ls 4 [(3, .int (nI i)), (2, .int (nI (sm (ctv (ρ 0) (cl x)) i))), (0, .ref h), (1, .int (nI (cl x)))] → W p l e (rmK 5 114) s m args below meth c s.heap [] 0 0 (MQ below (QcRead (aCount (ρ 0) x)) args s 0 0 (fun _ => False)) (F0 m 100 ls [.int (nI (ctv (ρ 0) (cl x) i)), .int (nI (sm (ctv (ρ 0) (cl x)) i))]) := by
              intro ls hl
              refine nv_iadd hx hb dX4_count_100 ?_
              refine lv_istore_n (lv' := [(2, .int (nI ((sm (ctv (ρ 0) (cl x)) i) + (ctv (ρ 0) (cl x) i)))), (3, .int (nI i)), (0, .ref h), (1, .int (nI (cl x)))]) hx hb dX4_count_101 rfl hl (by decide) rfl (fun ls hl => ?_)
              refine nv_inc (k := 1) (lv' := [(3, .int (nI (i + 1))), (2, .int (nI ((sm (ctv (ρ 0) (cl x)) i) + (ctv (ρ 0) (cl x) i)))), (0, .ref h), (1, .int (nI (cl x)))]) hx hb dX4_count_102 hl rfl (by decide) rfl (fun ls hl => ?_)
              refine lv_goto (tgt := 29) hx hb dX4_count_105 (by decide) ?_
              exact ih29 (i + 1) (by omega) (by omega)  ls (lv_sub hl [0, 1, 2, 3] rfl)
            refine nv_icmp_ne (tgt := 64) hx hb dX4_count_40 (by decide) (by omega) (by omega) (fun q_40 => ?_) (fun q_40 => ?_)
            · refine lv_iload_n hx hb dX4_count_64 rfl (lv_at hl 3 rfl) ?_
              refine lv_bipush (v := nI 6) hx hb dX4_count_65 (by decide) ?_
              refine nv_icmp_ne (tgt := 85) hx hb dX4_count_67 (by decide) (by omega) (by omega) (fun q_67 => ?_) (fun q_67 => ?_)
              · refine lv_iload_n hx hb dX4_count_85 rfl (lv_at hl 3 rfl) ?_
                refine lv_bipush (v := nI 8) hx hb dX4_count_86 (by decide) ?_
                refine nv_icmp_ne (tgt := 99) hx hb dX4_count_88 (by decide) (by omega) (by omega) (fun q_88 => ?_) (fun q_88 => ?_)
                · refine lv_iconst (v := nI 0) hx hb dX4_count_99 (by decide) ?_
                  refine nv_top (ctv (ρ 0) (cl x) i) (by unfold ctv; rw [if_neg q_40, if_neg q_67, if_neg q_88]) ?_
                  exact J40 ls (lv_sub hl [0, 1, 2, 3] rfl)
                · refine lv_aload_n hx hb dX4_count_91 rfl (lv_at hl 2 rfl) ?_
                  refine lv_iload_n hx hb dX4_count_92 rfl (lv_at hl 0 rfl) ?_
                  refine nv_callV [.int (nI i)] [.int (nI (sm (ctv (ρ 0) (cl x)) i))] hx hb hml hown hts k_RX4_65 (c_X4_costOf l D cI cR h a ρ sv wv nw b ln at0 wd hh i hw (by omega)) ⟨rfl, rfl, Nat.le_of_ble_eq_true rfl, Nat.le_of_ble_eq_true rfl⟩ hP hK 4 rfl rfl rfl rfl hl rfl (Nat.le_of_ble_eq_true rfl) dX4_count_93 ⟨Nat.zero_le _, Nat.zero_le _⟩ ?_
                  refine lv_goto (tgt := 100) hx hb dX4_count_96 (by decide) ?_
                  refine nv_top (ctv (ρ 0) (cl x) i) (by unfold ctv; rw [if_neg (by omega), if_neg q_67, if_pos q_88]) ?_
                  exact J40 ls (lv_sub hl [0, 1, 2, 3] rfl)
              · refine lv_aload_n hx hb dX4_count_70 rfl (lv_at hl 2 rfl) ?_
                refine va_get (D := D) (ci := 4) (v := .ref (a 0)) (C := RX4) (T := TX4) (N := 9) hx hb hts inX4 hown hK hP 0 rfl rfl 0 (by decide) (hts _ fl_RX4_7) (fun _ h9 => h9) rfl dX4_count_71 ?_
                refine lv_bipush (v := nI 100) hx hb dX4_count_74 (by decide) ?_
                refine lv_iload_n hx hb dX4_count_76 rfl (lv_at hl 0 rfl) ?_
                refine nv_iadd hx hb dX4_count_77 ?_
                refine nv_iald (D := D) (v := nI (ρ 0 (100 + i))) hx hb hK hP 1 0 rfl rfl (k := 100 + i) (by omega) (by decide) (rw_lo (by omega)) dX4_count_78 ?_
                refine nv_callS [.int (nI (ρ 0 (100 + i)))] [.int (nI (sm (ctv (ρ 0) (cl x)) i))] hx hb hml hown hts k_RX4_45 (c_X4_ones l D cI cR (ρ 0 (100 + i)) (hw.sp (by omega))) ⟨rfl, rfl, Nat.le_of_ble_eq_true rfl, Nat.le_of_ble_eq_true rfl⟩ (va_P_nil) hK rfl hl rfl (Nat.le_of_ble_eq_true rfl) dX4_count_79 ⟨Nat.zero_le _, Nat.zero_le _⟩ ?_
                refine lv_goto (tgt := 100) hx hb dX4_count_82 (by decide) ?_
                refine nv_top (ctv (ρ 0) (cl x) i) (by unfold ctv; rw [if_neg (by omega), if_pos q_67]) ?_
                exact J40 ls (lv_sub hl [0, 1, 2, 3] rfl)
            · refine lv_iload_n hx hb dX4_count_43 rfl (lv_at hl 0 rfl) ?_
              refine lv_bipush (v := nI 8) hx hb dX4_count_44 (by decide) ?_
              refine nv_icmp_lt (tgt := 64) hx hb dX4_count_46 (by decide) (by omega) (by omega) (fun q_46 => ?_) (fun q_46 => ?_)
              · refine lv_iload_n hx hb dX4_count_64 rfl (lv_at hl 3 rfl) ?_
                refine lv_bipush (v := nI 6) hx hb dX4_count_65 (by decide) ?_
                refine nv_icmp_ne (tgt := 85) hx hb dX4_count_67 (by decide) (by omega) (by omega) (fun q_67 => ?_) (fun q_67 => False.elim (by omega))
                refine lv_iload_n hx hb dX4_count_85 rfl (lv_at hl 3 rfl) ?_
                refine lv_bipush (v := nI 8) hx hb dX4_count_86 (by decide) ?_
                refine nv_icmp_ne (tgt := 99) hx hb dX4_count_88 (by decide) (by omega) (by omega) (fun q_88 => ?_) (fun q_88 => False.elim (by omega))
                refine lv_iconst (v := nI 0) hx hb dX4_count_99 (by decide) ?_
                refine nv_top (ctv (ρ 0) (cl x) i) (by unfold ctv; rw [if_pos q_40, cr_lo q_46]) ?_
                exact J40 ls (lv_sub hl [0, 1, 2, 3] rfl)
              · refine lv_aload_n hx hb dX4_count_49 rfl (lv_at hl 2 rfl) ?_
                refine va_get (D := D) (ci := 4) (v := .ref (a 0)) (C := RX4) (T := TX4) (N := 9) hx hb hts inX4 hown hK hP 0 rfl rfl 0 (by decide) (hts _ fl_RX4_7) (fun _ h9 => h9) rfl dX4_count_50 ?_
                refine lv_bipush (v := nI 67) hx hb dX4_count_53 (by decide) ?_
                refine lv_iload_n hx hb dX4_count_55 rfl (lv_at hl 0 rfl) ?_
                refine nv_iadd hx hb dX4_count_56 ?_
                refine lv_bipush (v := nI 8) hx hb dX4_count_57 (by decide) ?_
                refine nv_isub hx hb dX4_count_59 (by omega) ?_
                refine nv_iald (D := D) (v := nI (ρ 0 ((67 + i) - 8))) hx hb hK hP 1 0 rfl rfl (k := (67 + i) - 8) (by omega) (by decide) (rw_lo (by omega)) dX4_count_60 ?_
                refine lv_goto (tgt := 100) hx hb dX4_count_61 (by decide) ?_
                refine nv_top (ctv (ρ 0) (cl x) i) (by unfold ctv; rw [if_pos q_40]; exact cr_ix q_46) ?_
                exact J40 ls (lv_sub hl [0, 1, 2, 3] rfl)
      exact L29 (nW (ρ 0) + 1) 0 (by omega) (by omega)  ls (lv_sub hl [0, 1, 2, 3] rfl)
    · refine lv_aload_n hx hb dX4_count_18 rfl (lv_at hl 0 rfl) ?_
      refine va_get (D := D) (ci := 4) (v := .ref (a 0)) (C := RX4) (T := TX4) (N := 9) hx hb hts inX4 hown hK hP 0 rfl rfl 0 (by decide) (hts _ fl_RX4_7) (fun _ h9 => h9) rfl dX4_count_19 ?_
      refine lv_iload_n hx hb dX4_count_22 rfl (lv_at hl 1 rfl) ?_
      refine nv_iald (D := D) (v := nI (ρ 0 (cl x))) hx hb hK hP 1 0 rfl rfl (k := cl x) (by omega) (by decide) (rw_lo (by omega)) dX4_count_23 ?_
      exact nv_ret hx hb hr hlocks (by unfold aCount; rw [show inB x 9 = true from (btw_inB (n := 9) (by decide)).symm.trans (zB_ne0 q_7)]; exact congrArg nI (nu_lo q_15)) dX4_count_24
  · refine lv_bipush (v := -3) hx hb dX4_count_10 (by decide) ?_
    exact nv_ret hx hb hr hlocks (by unfold aCount; rw [show inB x 9 = false from (btw_inB (n := 9) (by decide)).symm.trans (zB_eq0 q_7)] <;> rfl) dX4_count_12
set_option maxHeartbeats 4000000 in
set_option maxRecDepth 100000 in
theorem c_X4_begin (l : Launch) (D : va_G) (cI cR : ClassId) (h : Nat) (a : Nat → Nat) (ρ : Nat → Nat → Nat) (sv : Nat) (wv : Nat → Nat) (nw : Nat → Nat) (b : Nat → Nat) (ln : Nat) (at0 : Nat) (wd : Nat) (hh : Int64) (x : Int32) (y : Int32) (z : Int32)  (hw : wf (ρ 0)) (hs : sv ≤ 5) (sz : Nat) : Met l yX4_begin (wsC yX4_begin cX4_begin 5 (some .int)) (rmK 2 44) (nPreM D (nTy cI cR) [.ref h, .int x, .int y, .int z] (wMd h a cI (rwF ρ) sv (nF wv) (nF nw) (nF b) ln at0 wd hh) sz) (QcM D (some (.int (cond (ok3 x y z) (nI (nA (ρ 0))) (-3)))) (wMd h a cI (rwF (cond (ok3 x y z) (recR ρ sv (bgS (cl x) (cl y) (cl z))) ρ)) (cond (ok3 x y z) (kpN sv) sv) (nF wv) (nF nw) (nF b) ln at0 wd hh) (va_A (wMd h a cI (rwF ρ) sv (nF wv) (nF nw) (nF b) ln at0 wd hh) sz)) 0 0 (va_A (wMd h a cI (rwF ρ) sv (nF wv) (nF nw) (nF b) ln at0 wd hh) sz) := by
  refine met_mut (Qc := fun A => QcM D (some (.int (cond (ok3 x y z) (nI (nA (ρ 0))) (-3)))) (wMd h a cI (rwF (cond (ok3 x y z) (recR ρ sv (bgS (cl x) (cl y) (cl z))) ρ)) (cond (ok3 x y z) (kpN sv) sv) (nF wv) (nF nw) (nF b) ln at0 wd hh) A) rfl (Nat.le_of_ble_eq_true rfl) ?_
  intro p e s m args below meth c ls A H locs hx hb hml hr hlocks hown hts hP hK hD hA hS hl
  have hl : lv_has ls 5 [(0, .ref h), (1, .int x), (2, .int y), (3, .int z)] := hl
  have hA41 := hw.w41
  have hA33 := hw.a33
  have hA48 := hw.a48
  obtain ⟨hR2, hR, hB1, hB, hSa, hSb, -⟩ := id hw
  have h1024 := p2_10 hB
  refine lv_iload_n hx hb dX4_begin_0 rfl (lv_at hl 1 rfl) ?_
  refine lv_iconst (v := nI 2) hx hb dX4_begin_1 (by decide) ?_
  refine lv_bipush (v := nI 16) hx hb dX4_begin_2 (by decide) ?_
  refine nv_callS [.int x, .int (nI 2), .int (nI 16)] [] hx hb hml hown hts k_RX4_34 (c_X4_in l D cI cR x 2 16 (by omega) (by omega)) ⟨rfl, rfl, Nat.le_of_ble_eq_true rfl, Nat.le_of_ble_eq_true rfl⟩ (va_P_nil) hK rfl hl rfl (Nat.le_of_ble_eq_true rfl) dX4_begin_4 ⟨Nat.zero_le _, Nat.zero_le _⟩ ?_
  refine lv_if_eq (tgt := 29) hx hb dX4_begin_7 (by decide) (fun q_7 => ?_) (fun q_7 => ?_)
  · refine lv_bipush (v := -3) hx hb dX4_begin_29 (by decide) ?_
    have E0 : ok3 x y z = false := (by unfold ok3; rw [show btw 2 16 x = false from zB_eq0 q_7]; simp)
    have hP : va_P D vwCl (wMd h a cI (rwF (cond (ok3 x y z) (recR ρ sv (bgS (cl x) (cl y) (cl z))) ρ)) (cond (ok3 x y z) (kpN sv) sv) (nF wv) (nF nw) (nF b) ln at0 wd hh) H := by rw [E0]; exact hP
    have hD : va_D A (wMd h a cI (rwF (cond (ok3 x y z) (recR ρ sv (bgS (cl x) (cl y) (cl z))) ρ)) (cond (ok3 x y z) (kpN sv) sv) (nF wv) (nF nw) (nF b) ln at0 wd hh) := by rw [E0]; exact hD
    exact mu_reti hx hb hr hlocks ((cond_f E0).symm) hP hD hS dX4_begin_31
  · refine lv_iload_n hx hb dX4_begin_10 rfl (lv_at hl 2 rfl) ?_
    refine lv_iconst (v := nI 1) hx hb dX4_begin_11 (by decide) ?_
    refine lv_bipush (v := nI 10) hx hb dX4_begin_12 (by decide) ?_
    refine nv_callS [.int y, .int (nI 1), .int (nI 10)] [] hx hb hml hown hts k_RX4_34 (c_X4_in l D cI cR y 1 10 (by omega) (by omega)) ⟨rfl, rfl, Nat.le_of_ble_eq_true rfl, Nat.le_of_ble_eq_true rfl⟩ (va_P_nil) hK rfl hl rfl (Nat.le_of_ble_eq_true rfl) dX4_begin_14 ⟨Nat.zero_le _, Nat.zero_le _⟩ ?_
    refine lv_if_eq (tgt := 29) hx hb dX4_begin_17 (by decide) (fun q_17 => ?_) (fun q_17 => ?_)
    · refine lv_bipush (v := -3) hx hb dX4_begin_29 (by decide) ?_
      have E0 : ok3 x y z = false := (by unfold ok3; rw [show btw 1 10 y = false from zB_eq0 q_17]; simp)
      have hP : va_P D vwCl (wMd h a cI (rwF (cond (ok3 x y z) (recR ρ sv (bgS (cl x) (cl y) (cl z))) ρ)) (cond (ok3 x y z) (kpN sv) sv) (nF wv) (nF nw) (nF b) ln at0 wd hh) H := by rw [E0]; exact hP
      have hD : va_D A (wMd h a cI (rwF (cond (ok3 x y z) (recR ρ sv (bgS (cl x) (cl y) (cl z))) ρ)) (cond (ok3 x y z) (kpN sv) sv) (nF wv) (nF nw) (nF b) ln at0 wd hh) := by rw [E0]; exact hD
      exact mu_reti hx hb hr hlocks ((cond_f E0).symm) hP hD hS dX4_begin_31
    · refine lv_iload_n hx hb dX4_begin_20 rfl (lv_at hl 3 rfl) ?_
      refine lv_iconst (v := nI 1) hx hb dX4_begin_21 (by decide) ?_
      refine lv_iconst (v := nI 3) hx hb dX4_begin_22 (by decide) ?_
      refine nv_callS [.int z, .int (nI 1), .int (nI 3)] [] hx hb hml hown hts k_RX4_34 (c_X4_in l D cI cR z 1 3 (by omega) (by omega)) ⟨rfl, rfl, Nat.le_of_ble_eq_true rfl, Nat.le_of_ble_eq_true rfl⟩ (va_P_nil) hK rfl hl rfl (Nat.le_of_ble_eq_true rfl) dX4_begin_23 ⟨Nat.zero_le _, Nat.zero_le _⟩ ?_
      refine lv_if_ne (tgt := 32) hx hb dX4_begin_26 (by decide) (fun q_26 => ?_) (fun q_26 => ?_)
      · obtain ⟨x1, x2, hx1⟩ := btw_cl (by decide) (zB_ne0 q_7)
        obtain ⟨y1, y2, hx2⟩ := btw_cl (by decide) (zB_ne0 q_17)
        obtain ⟨z1, z2, hx3⟩ := btw_cl (by decide) (zB_ne0 q_26)
        have hl := lv_repl [(0, .ref h), (1, .int (nI (cl x))), (2, .int y), (3, .int z)] 1 rfl (congrArg (fun z : Int32 => Value.int z) (show x = nI (cl x) from hx1)) rfl hl
        have hl := lv_repl [(0, .ref h), (1, .int (nI (cl x))), (2, .int (nI (cl y))), (3, .int z)] 2 rfl (congrArg (fun z : Int32 => Value.int z) (show y = nI (cl y) from hx2)) rfl hl
        have hl := lv_repl [(0, .ref h), (1, .int (nI (cl x))), (2, .int (nI (cl y))), (3, .int (nI (cl z)))] 3 rfl (congrArg (fun z : Int32 => Value.int z) (show z = nI (cl z) from hx3)) rfl hl
        refine lv_aload_n hx hb dX4_begin_32 rfl (lv_at hl 0 rfl) ?_
        refine mu_call (ws' := (wMd h a cI (rwF (svR ρ sv)) (kpN sv) (nF wv) (nF nw) (nF b) ln at0 wd hh)) [0, 1, 2, 3, 4] [] [0, 1, 2, 3, 4] [] [] hx hb hml hown hts k_RX4_62 (fun sz => c_X4_saves l D cI cR h a ρ sv wv nw b ln at0 wd hh hs sz) ⟨rfl, rfl, Nat.le_of_ble_eq_true rfl, Nat.le_of_ble_eq_true rfl⟩ hP hD hS hA hK 4 rfl rfl rfl rfl rfl rfl rfl (by decide) rfl rfl rfl hl rfl (Nat.le_of_ble_eq_true rfl) dX4_begin_33 ⟨Nat.zero_le _, Nat.zero_le _⟩ (fun H locs hP hD hS => ?_)
        refine W.eq (g2 := F0 m 36 ls []) rfl ?_
        refine lv_aload_n hx hb dX4_begin_36 rfl (lv_at hl 0 rfl) ?_
        refine nv_callV [] [] hx hb hml hown hts k_RX4_42 (c_X4_addresses l D cI cR h a ((svR ρ sv)) (kpN sv) wv nw b ln at0 wd hh ) ⟨rfl, rfl, Nat.le_of_ble_eq_true rfl, Nat.le_of_ble_eq_true rfl⟩ hP hK 4 rfl rfl rfl rfl hl rfl (Nat.le_of_ble_eq_true rfl) dX4_begin_37 ⟨Nat.zero_le _, Nat.zero_le _⟩ ?_
        refine nv_top (nA (ρ 0)) (by rw [sv_0]) ?_
        refine lv_istore (lv' := [(4, .int (nI (nA (ρ 0)))), (0, .ref h), (1, .int (nI (cl x))), (2, .int (nI (cl y))), (3, .int (nI (cl z)))]) hx hb dX4_begin_40 hl (by decide) rfl (fun ls hl => ?_)
        refine lv_aload_n hx hb dX4_begin_42 rfl (lv_at hl 1 rfl) ?_
        refine lv_iload_n hx hb dX4_begin_43 rfl (lv_at hl 2 rfl) ?_
        refine lv_iload_n hx hb dX4_begin_44 rfl (lv_at hl 3 rfl) ?_
        refine lv_iload_n hx hb dX4_begin_45 rfl (lv_at hl 4 rfl) ?_
        refine mu_call (ws' := (wMd h a cI (rwF (va_up ((svR ρ sv)) 0 (bgS (cl x) (cl y) (cl z)))) (kpN sv) (nF wv) (nF nw) (nF b) ln at0 wd hh)) [0, 1, 2, 3, 4] [] [0, 1, 2, 3, 4] [.int (nI (cl x)), .int (nI (cl y)), .int (nI (cl z))] [] hx hb hml hown hts k_RX4_22 (fun sz => c_X4_begins l D cI cR h a ((svR ρ sv)) (kpN sv) wv nw b ln at0 wd hh (cl x) (cl y) (cl z) (by omega) sz) ⟨rfl, rfl, Nat.le_of_ble_eq_true rfl, Nat.le_of_ble_eq_true rfl⟩ hP hD hS hA hK 4 rfl rfl rfl rfl rfl rfl rfl (by decide) rfl rfl rfl hl rfl (Nat.le_of_ble_eq_true rfl) dX4_begin_46 ⟨Nat.zero_le _, Nat.zero_le _⟩ (fun H locs hP hD hS => ?_)
        refine W.eq (g2 := F0 m 49 ls []) rfl ?_
        refine lv_iload hx hb dX4_begin_49 (lv_at hl 0 rfl) ?_
        have E0 : ok3 x y z = true := (by unfold ok3; rw [show btw 2 16 x = true from zB_ne0 q_7, show btw 1 10 y = true from zB_ne0 q_17, show btw 1 3 z = true from zB_ne0 q_26]; rfl)
        have hP : va_P D vwCl (wMd h a cI (rwF (cond (ok3 x y z) (recR ρ sv (bgS (cl x) (cl y) (cl z))) ρ)) (cond (ok3 x y z) (kpN sv) sv) (nF wv) (nF nw) (nF b) ln at0 wd hh) H := by rw [E0]; exact hP
        have hD : va_D A (wMd h a cI (rwF (cond (ok3 x y z) (recR ρ sv (bgS (cl x) (cl y) (cl z))) ρ)) (cond (ok3 x y z) (kpN sv) sv) (nF wv) (nF nw) (nF b) ln at0 wd hh) := by rw [E0]; exact hD
        exact mu_reti hx hb hr hlocks ((cond_t E0).symm) hP hD hS dX4_begin_51
      · refine lv_bipush (v := -3) hx hb dX4_begin_29 (by decide) ?_
        have E0 : ok3 x y z = false := (by unfold ok3; rw [show btw 1 3 z = false from zB_eq0 q_26]; simp)
        have hP : va_P D vwCl (wMd h a cI (rwF (cond (ok3 x y z) (recR ρ sv (bgS (cl x) (cl y) (cl z))) ρ)) (cond (ok3 x y z) (kpN sv) sv) (nF wv) (nF nw) (nF b) ln at0 wd hh) H := by rw [E0]; exact hP
        have hD : va_D A (wMd h a cI (rwF (cond (ok3 x y z) (recR ρ sv (bgS (cl x) (cl y) (cl z))) ρ)) (cond (ok3 x y z) (kpN sv) sv) (nF wv) (nF nw) (nF b) ln at0 wd hh) := by rw [E0]; exact hD
        exact mu_reti hx hb hr hlocks ((cond_f E0).symm) hP hD hS dX4_begin_31
set_option maxHeartbeats 4000000 in
set_option maxRecDepth 100000 in
theorem c_X4_setCode (l : Launch) (D : va_G) (cI cR : ClassId) (h : Nat) (a : Nat → Nat) (ρ : Nat → Nat → Nat) (sv : Nat) (wv : Nat → Nat) (nw : Nat → Nat) (b : Nat → Nat) (ln : Nat) (at0 : Nat) (wd : Nat) (hh : Int64) (x : Int32) (y : Int32)  (hw : wf (ρ 0)) (hs : sv ≤ 5) (sz : Nat) : Met l yX4_setCode (wsC yX4_setCode cX4_setCode 4 (some .int)) (rmK 2 44) (nPreM D (nTy cI cR) [.ref h, .int x, .int y] (wMd h a cI (rwF ρ) sv (nF wv) (nF nw) (nF b) ln at0 wd hh) sz) (QcM D (some (.int (aSetCode (ρ 0) x y))) (wMd h a cI (rwF (cond (inB x (ρ 0 0) && inB y 16 && okC (ρ 0) x y) (recR ρ sv (va_up (ρ 0) (3 + cl x) (cl y))) ρ)) (cond (inB x (ρ 0 0) && inB y 16 && okC (ρ 0) x y) (kpN sv) sv) (nF wv) (nF nw) (nF b) ln at0 wd hh) (va_A (wMd h a cI (rwF ρ) sv (nF wv) (nF nw) (nF b) ln at0 wd hh) sz)) 0 0 (va_A (wMd h a cI (rwF ρ) sv (nF wv) (nF nw) (nF b) ln at0 wd hh) sz) := by
  refine met_mut (Qc := fun A => QcM D (some (.int (aSetCode (ρ 0) x y))) (wMd h a cI (rwF (cond (inB x (ρ 0 0) && inB y 16 && okC (ρ 0) x y) (recR ρ sv (va_up (ρ 0) (3 + cl x) (cl y))) ρ)) (cond (inB x (ρ 0 0) && inB y 16 && okC (ρ 0) x y) (kpN sv) sv) (nF wv) (nF nw) (nF b) ln at0 wd hh) A) rfl (Nat.le_of_ble_eq_true rfl) ?_
  intro p e s m args below meth c ls A H locs hx hb hml hr hlocks hown hts hP hK hD hA hS hl
  have hl : lv_has ls 4 [(0, .ref h), (1, .int x), (2, .int y)] := hl
  have hA41 := hw.w41
  have hA33 := hw.a33
  have hA48 := hw.a48
  obtain ⟨hR2, hR, hB1, hB, hSa, hSb, -⟩ := id hw
  have h1024 := p2_10 hB
  refine lv_aload_n hx hb dX4_setCode_0 rfl (lv_at hl 0 rfl) ?_
  refine lv_iload_n hx hb dX4_setCode_1 rfl (lv_at hl 1 rfl) ?_
  refine nv_callV [.int x] [] hx hb hml hown hts k_RX4_71 (c_X4_isRing l D cI cR h a ρ sv wv nw b ln at0 wd hh x hw) ⟨rfl, rfl, Nat.le_of_ble_eq_true rfl, Nat.le_of_ble_eq_true rfl⟩ hP hK 4 rfl rfl rfl rfl hl rfl (Nat.le_of_ble_eq_true rfl) dX4_setCode_2 ⟨Nat.zero_le _, Nat.zero_le _⟩ ?_
  refine lv_if_ne (tgt := 11) hx hb dX4_setCode_5 (by decide) (fun q_5 => ?_) (fun q_5 => ?_)
  · obtain ⟨hk1, hx1⟩ := inB_cl (by omega) (zB_ne0 q_5)
    have hl := lv_repl [(0, .ref h), (1, .int (nI (cl x))), (2, .int y)] 1 rfl (congrArg (fun z : Int32 => Value.int z) (show x = nI (cl x) from hx1)) rfl hl
    refine lv_iload_n hx hb dX4_setCode_11 rfl (lv_at hl 2 rfl) ?_
    refine lv_iconst (v := nI 0) hx hb dX4_setCode_12 (by decide) ?_
    refine lv_bipush (v := nI 15) hx hb dX4_setCode_13 (by decide) ?_
    refine nv_callS [.int y, .int (nI 0), .int (nI 15)] [] hx hb hml hown hts k_RX4_34 (c_X4_in l D cI cR y 0 15 (by omega) (by omega)) ⟨rfl, rfl, Nat.le_of_ble_eq_true rfl, Nat.le_of_ble_eq_true rfl⟩ (va_P_nil) hK rfl hl rfl (Nat.le_of_ble_eq_true rfl) dX4_setCode_15 ⟨Nat.zero_le _, Nat.zero_le _⟩ ?_
    refine lv_if_ne (tgt := 24) hx hb dX4_setCode_18 (by decide) (fun q_18 => ?_) (fun q_18 => ?_)
    · obtain ⟨hk2, hx2⟩ := inB_cl (by decide) ((btw_inB (n := 16) (by decide)).symm.trans (zB_ne0 q_18))
      have hl := lv_repl [(0, .ref h), (1, .int (nI (cl x))), (2, .int (nI (cl y)))] 2 rfl (congrArg (fun z : Int32 => Value.int z) (show y = nI (cl y) from hx2)) rfl hl
      refine lv_iconst (v := nI 0) hx hb dX4_setCode_24 (by decide) ?_
      refine lv_istore_n (lv' := [(3, .int (nI 0)), (0, .ref h), (1, .int (nI (cl x))), (2, .int (nI (cl y)))]) hx hb dX4_setCode_25 rfl hl (by decide) rfl (fun ls hl => ?_)
      have L26 : ∀ (n26 i : Nat), ρ 0 0 + 1 ≤ i + n26 → i ≤ ρ 0 0 → (∀ j, j < i → ¬ j = cl x → ¬ ρ 0 (3 + j) = cl y) → ∀ (H : Heap) (locs : List Loc), va_P D vwCl (wMd h a cI (rwF ρ) sv (nF wv) (nF nw) (nF b) ln at0 wd hh) H → va_D A (wMd h a cI (rwF ρ) sv (nF wv) (nF nw) (nF b) ln at0 wd hh) → va_S A s.heap H locs → ∀ (ls : Array Slot), lv_has ls 4 [(3, .int (nI i)), (0, .ref h), (1, .int (nI (cl x))), (2, .int (nI (cl y)))] → W p l e (rmK 2 44) s m args below meth c H locs 0 0 (MQ below (QcM D (some (.int (aSetCode (ρ 0) x y))) (wMd h a cI (rwF (cond (inB x (ρ 0 0) && inB y 16 && okC (ρ 0) x y) (recR ρ sv (va_up (ρ 0) (3 + cl x) (cl y))) ρ)) (cond (inB x (ρ 0 0) && inB y 16 && okC (ρ 0) x y) (kpN sv) sv) (nF wv) (nF nw) (nF b) ln at0 wd hh) A) args s 0 0 A) (F0 m 26 ls []) := by
        intro n26
        induction n26 with
        | zero =>
          intro i h1_26 h2_26
          exact False.elim (by omega)
        | succ n26 ih26 =>
          intro i h1_26 h2_26 hno H locs hP hD hS ls hl
          refine lv_iload_n hx hb dX4_setCode_26 rfl (lv_at hl 0 rfl) ?_
          refine lv_aload_n hx hb dX4_setCode_27 rfl (lv_at hl 1 rfl) ?_
          refine va_get (D := D) (ci := 4) (v := .ref (a 0)) (C := RX4) (T := TX4) (N := 9) hx hb hts inX4 hown hK hP 0 rfl rfl 0 (by decide) (hts _ fl_RX4_7) (fun _ h9 => h9) rfl dX4_setCode_28 ?_
          refine lv_iconst (v := nI 0) hx hb dX4_setCode_31 (by decide) ?_
          refine nv_iald (D := D) (v := nI (ρ 0 0)) hx hb hK hP 1 0 rfl rfl (k := 0) (by omega) (by decide) (rw_lo (by omega)) dX4_setCode_32 ?_
          refine nv_icmp_ge (tgt := 62) hx hb dX4_setCode_33 (by decide) (by omega) (by omega) (fun q_33 => ?_) (fun q_33 => ?_)
          · refine lv_aload_n hx hb dX4_setCode_62 rfl (lv_at hl 1 rfl) ?_
            refine mu_call (ws' := (wMd h a cI (rwF (svR ρ sv)) (kpN sv) (nF wv) (nF nw) (nF b) ln at0 wd hh)) [0, 1, 2, 3, 4] [] [0, 1, 2, 3, 4] [] [] hx hb hml hown hts k_RX4_62 (fun sz => c_X4_saves l D cI cR h a ρ sv wv nw b ln at0 wd hh hs sz) ⟨rfl, rfl, Nat.le_of_ble_eq_true rfl, Nat.le_of_ble_eq_true rfl⟩ hP hD hS hA hK 4 rfl rfl rfl rfl rfl rfl rfl (by decide) rfl rfl rfl hl rfl (Nat.le_of_ble_eq_true rfl) dX4_setCode_63 ⟨Nat.zero_le _, Nat.zero_le _⟩ (fun H locs hP hD hS => ?_)
            refine W.eq (g2 := F0 m 66 ls []) rfl ?_
            have eR : (rwF (svR ρ sv)) = (rwF (recR ρ sv (ρ 0))) := by rw [sv_rec]
            rw [eR] at hP hD
            have hP : va_P D vwCl (wMd h a cI (rwF (recR ρ sv (ρ 0))) (kpN sv) (nF wv) (nF nw) (nF b) ln at0 wd hh) H := hP
            have hD : va_D A (wMd h a cI (rwF (recR ρ sv (ρ 0))) (kpN sv) (nF wv) (nF nw) (nF b) ln at0 wd hh) := hD
            refine lv_aload_n hx hb dX4_setCode_66 rfl (lv_at hl 1 rfl) ?_
            refine va_get (D := D) (ci := 4) (v := .ref (a 0)) (C := RX4) (T := TX4) (N := 9) hx hb hts inX4 hown hK hP 0 rfl rfl 0 (by decide) (hts _ fl_RX4_7) (fun _ h9 => h9) rfl dX4_setCode_67 ?_
            refine lv_iconst (v := nI 3) hx hb dX4_setCode_70 (by decide) ?_
            refine lv_iload_n hx hb dX4_setCode_71 rfl (lv_at hl 2 rfl) ?_
            refine nv_iadd hx hb dX4_setCode_72 ?_
            refine nv_iald (D := D) (v := nI ((recR ρ sv (ρ 0)) 0 (3 + (cl x)))) hx hb hK hP 1 0 rfl rfl (k := 3 + (cl x)) (by omega) (by decide) (rw_lo (by omega)) dX4_setCode_73 ?_
            refine nv_top (ρ 0 (3 + cl x)) (by rw [rec_0]) ?_
            refine lv_istore_n (lv' := [(3, .int (nI (ρ 0 (3 + cl x)))), (0, .ref h), (1, .int (nI (cl x))), (2, .int (nI (cl y)))]) hx hb dX4_setCode_74 rfl hl (by decide) rfl (fun ls hl => ?_)
            refine lv_aload_n hx hb dX4_setCode_75 rfl (lv_at hl 1 rfl) ?_
            refine va_get (D := D) (ci := 4) (v := .ref (a 0)) (C := RX4) (T := TX4) (N := 9) hx hb hts inX4 hown hK hP 0 rfl rfl 0 (by decide) (hts _ fl_RX4_7) (fun _ h9 => h9) rfl dX4_setCode_76 ?_
            refine lv_iconst (v := nI 3) hx hb dX4_setCode_79 (by decide) ?_
            refine lv_iload_n hx hb dX4_setCode_80 rfl (lv_at hl 2 rfl) ?_
            refine nv_iadd hx hb dX4_setCode_81 ?_
            refine lv_iload_n hx hb dX4_setCode_82 rfl (lv_at hl 3 rfl) ?_
            refine nv_iast (D := D) (ws' := (wMd h a cI (upd (rwF (recR ρ sv (ρ 0))) (3 + (cl x)) (nI (cl y))) (kpN sv) (nF wv) (nF nw) (nF b) ln at0 wd hh)) hx hb hK hP hD hS 1 0 rfl rfl (k := 3 + (cl x)) (by omega) (by decide) rfl dX4_setCode_83 (fun H locs hP hD hS => ?_)
            have eR : (upd (rwF (recR ρ sv (ρ 0))) (3 + (cl x)) (nI (cl y))) = (rwF (recR ρ sv (va_up (ρ 0) (3 + cl x) (cl y)))) := upd_rec (by omega)
            rw [eR] at hP hD
            have hP : va_P D vwCl (wMd h a cI (rwF (recR ρ sv (va_up (ρ 0) (3 + cl x) (cl y)))) (kpN sv) (nF wv) (nF nw) (nF b) ln at0 wd hh) H := hP
            have hD : va_D A (wMd h a cI (rwF (recR ρ sv (va_up (ρ 0) (3 + cl x) (cl y)))) (kpN sv) (nF wv) (nF nw) (nF b) ln at0 wd hh) := hD
            refine lv_iload_n hx hb dX4_setCode_84 rfl (lv_at hl 0 rfl) ?_
            have E0 : inB x (ρ 0 0) = true := zB_ne0 q_5
            have E1 : inB y 16 = true := (btw_inB (n := 16) (by decide)).symm.trans (zB_ne0 q_18)
            have E2 : okC (ρ 0) x y = true := okC_nod hx1 (fun r hr hne => hno r (by omega) hne)
            have hP : va_P D vwCl (wMd h a cI (rwF (cond (inB x (ρ 0 0) && inB y 16 && okC (ρ 0) x y) (recR ρ sv (va_up (ρ 0) (3 + cl x) (cl y))) ρ)) (cond (inB x (ρ 0 0) && inB y 16 && okC (ρ 0) x y) (kpN sv) sv) (nF wv) (nF nw) (nF b) ln at0 wd hh) H := by rw [E0, E1, E2]; exact hP
            have hD : va_D A (wMd h a cI (rwF (cond (inB x (ρ 0 0) && inB y 16 && okC (ρ 0) x y) (recR ρ sv (va_up (ρ 0) (3 + cl x) (cl y))) ρ)) (cond (inB x (ρ 0 0) && inB y 16 && okC (ρ 0) x y) (kpN sv) sv) (nF wv) (nF nw) (nF b) ln at0 wd hh) := by rw [E0, E1, E2]; exact hD
            exact mu_reti hx hb hr hlocks (by unfold aSetCode; rw [E0, E1, E2] <;> rfl) hP hD hS dX4_setCode_85
          · refine lv_iload_n hx hb dX4_setCode_36 rfl (lv_at hl 0 rfl) ?_
            refine lv_iload_n hx hb dX4_setCode_37 rfl (lv_at hl 2 rfl) ?_
            refine nv_icmp_eq (tgt := 56) hx hb dX4_setCode_38 (by decide) (by omega) (by omega) (fun q_38 => ?_) (fun q_38 => ?_)
            · refine nv_inc (k := 0) (lv' := [(3, .int (nI (i + 1))), (0, .ref h), (1, .int (nI (cl x))), (2, .int (nI (cl y)))]) hx hb dX4_setCode_56 hl rfl (by decide) rfl (fun ls hl => ?_)
              refine lv_goto (tgt := 26) hx hb dX4_setCode_59 (by decide) ?_
              exact ih26 (i + 1) (by omega) (by omega) (fun j hj hne => by rcases Nat.lt_succ_iff_lt_or_eq.mp hj with z | z; exact hno j z hne; exact absurd (z.trans q_38) hne) _ _ hP hD hS ls (lv_sub hl [0, 1, 2, 3] rfl)
            · refine lv_aload_n hx hb dX4_setCode_41 rfl (lv_at hl 1 rfl) ?_
              refine va_get (D := D) (ci := 4) (v := .ref (a 0)) (C := RX4) (T := TX4) (N := 9) hx hb hts inX4 hown hK hP 0 rfl rfl 0 (by decide) (hts _ fl_RX4_7) (fun _ h9 => h9) rfl dX4_setCode_42 ?_
              refine lv_iconst (v := nI 3) hx hb dX4_setCode_45 (by decide) ?_
              refine lv_iload_n hx hb dX4_setCode_46 rfl (lv_at hl 0 rfl) ?_
              refine nv_iadd hx hb dX4_setCode_47 ?_
              refine nv_iald (D := D) (v := nI (ρ 0 (3 + i))) hx hb hK hP 1 0 rfl rfl (k := 3 + i) (by omega) (by decide) (rw_lo (by omega)) dX4_setCode_48 ?_
              refine lv_iload_n hx hb dX4_setCode_49 rfl (lv_at hl 3 rfl) ?_
              refine nv_icmp_ne (tgt := 56) hx hb dX4_setCode_50 (by decide) (by have := hw.cd (r := i) (by omega); omega) (by omega) (fun q_50 => ?_) (fun q_50 => ?_)
              · refine nv_inc (k := 0) (lv' := [(3, .int (nI (i + 1))), (0, .ref h), (1, .int (nI (cl x))), (2, .int (nI (cl y)))]) hx hb dX4_setCode_56 hl rfl (by decide) rfl (fun ls hl => ?_)
                refine lv_goto (tgt := 26) hx hb dX4_setCode_59 (by decide) ?_
                exact ih26 (i + 1) (by omega) (by omega) (fun j hj hne => by rcases Nat.lt_succ_iff_lt_or_eq.mp hj with z | z; exact hno j z hne; exact z ▸ q_50) _ _ hP hD hS ls (lv_sub hl [0, 1, 2, 3] rfl)
              · refine lv_bipush (v := -4) hx hb dX4_setCode_53 (by decide) ?_
                have E0 : inB x (ρ 0 0) = true := zB_ne0 q_5
                have E1 : inB y 16 = true := (btw_inB (n := 16) (by decide)).symm.trans (zB_ne0 q_18)
                have E2 : okC (ρ 0) x y = false := okC_dup hw hx1 hk1 (show i < ρ 0 0 by omega) q_38 q_50
                have hP : va_P D vwCl (wMd h a cI (rwF (cond (inB x (ρ 0 0) && inB y 16 && okC (ρ 0) x y) (recR ρ sv (va_up (ρ 0) (3 + cl x) (cl y))) ρ)) (cond (inB x (ρ 0 0) && inB y 16 && okC (ρ 0) x y) (kpN sv) sv) (nF wv) (nF nw) (nF b) ln at0 wd hh) H := by rw [E0, E1, E2]; exact hP
                have hD : va_D A (wMd h a cI (rwF (cond (inB x (ρ 0 0) && inB y 16 && okC (ρ 0) x y) (recR ρ sv (va_up (ρ 0) (3 + cl x) (cl y))) ρ)) (cond (inB x (ρ 0 0) && inB y 16 && okC (ρ 0) x y) (kpN sv) sv) (nF wv) (nF nw) (nF b) ln at0 wd hh) := by rw [E0, E1, E2]; exact hD
                exact mu_reti hx hb hr hlocks (by unfold aSetCode; rw [E0, E1, E2] <;> rfl) hP hD hS dX4_setCode_55
      exact L26 (ρ 0 0 + 1) 0 (by omega) (by omega) (fun j hj => absurd hj (Nat.not_lt_zero j)) _ _ hP hD hS ls (lv_sub hl [0, 1, 2, 3] rfl)
    · refine lv_bipush (v := -3) hx hb dX4_setCode_21 (by decide) ?_
      have E0 : inB x (ρ 0 0) = true := zB_ne0 q_5
      have E1 : inB y 16 = false := (btw_inB (n := 16) (by decide)).symm.trans (zB_eq0 q_18)
      have hP : va_P D vwCl (wMd h a cI (rwF (cond (inB x (ρ 0 0) && inB y 16 && okC (ρ 0) x y) (recR ρ sv (va_up (ρ 0) (3 + cl x) (cl y))) ρ)) (cond (inB x (ρ 0 0) && inB y 16 && okC (ρ 0) x y) (kpN sv) sv) (nF wv) (nF nw) (nF b) ln at0 wd hh) H := by rw [E0, E1]; exact hP
      have hD : va_D A (wMd h a cI (rwF (cond (inB x (ρ 0 0) && inB y 16 && okC (ρ 0) x y) (recR ρ sv (va_up (ρ 0) (3 + cl x) (cl y))) ρ)) (cond (inB x (ρ 0 0) && inB y 16 && okC (ρ 0) x y) (kpN sv) sv) (nF wv) (nF nw) (nF b) ln at0 wd hh) := by rw [E0, E1]; exact hD
      exact mu_reti hx hb hr hlocks (by unfold aSetCode; rw [E0, E1] <;> rfl) hP hD hS dX4_setCode_23
  · refine lv_bipush (v := -2) hx hb dX4_setCode_8 (by decide) ?_
    have E0 : inB x (ρ 0 0) = false := zB_eq0 q_5
    have hP : va_P D vwCl (wMd h a cI (rwF (cond (inB x (ρ 0 0) && inB y 16 && okC (ρ 0) x y) (recR ρ sv (va_up (ρ 0) (3 + cl x) (cl y))) ρ)) (cond (inB x (ρ 0 0) && inB y 16 && okC (ρ 0) x y) (kpN sv) sv) (nF wv) (nF nw) (nF b) ln at0 wd hh) H := by rw [E0]; exact hP
    have hD : va_D A (wMd h a cI (rwF (cond (inB x (ρ 0 0) && inB y 16 && okC (ρ 0) x y) (recR ρ sv (va_up (ρ 0) (3 + cl x) (cl y))) ρ)) (cond (inB x (ρ 0 0) && inB y 16 && okC (ρ 0) x y) (kpN sv) sv) (nF wv) (nF nw) (nF b) ln at0 wd hh) := by rw [E0]; exact hD
    exact mu_reti hx hb hr hlocks (by unfold aSetCode; rw [E0] <;> rfl) hP hD hS dX4_setCode_10
set_option maxHeartbeats 4000000 in
set_option maxRecDepth 100000 in
theorem c_X4_weave (l : Launch) (D : va_G) (cI cR : ClassId) (h : Nat) (a : Nat → Nat) (ρ : Nat → Nat → Nat) (sv : Nat) (wv : Nat → Nat) (nw : Nat → Nat) (b : Nat → Nat) (ln : Nat) (at0 : Nat) (wd : Nat) (hh : Int64) (x : Int32) (y : Int32)  (hw : wf (ρ 0)) (hs : sv ≤ 5) (sz : Nat) : Met l yX4_weave (wsC yX4_weave cX4_weave 4 (some .int)) (rmK 2 44) (nPreM D (nTy cI cR) [.ref h, .int x, .int y] (wMd h a cI (rwF ρ) sv (nF wv) (nF nw) (nF b) ln at0 wd hh) sz) (QcM D (some (.int (aWeave (ρ 0) x y))) (wMd h a cI (rwF (cond (inB x (nA (ρ 0)) && inB y (2 ^ ρ 0 1)) (recR ρ sv (va_up (ρ 0) (19 + cl x) (cl y))) ρ)) (cond (inB x (nA (ρ 0)) && inB y (2 ^ ρ 0 1)) (kpN sv) sv) (nF wv) (nF nw) (nF b) ln at0 wd hh) (va_A (wMd h a cI (rwF ρ) sv (nF wv) (nF nw) (nF b) ln at0 wd hh) sz)) 0 0 (va_A (wMd h a cI (rwF ρ) sv (nF wv) (nF nw) (nF b) ln at0 wd hh) sz) := by
  refine met_mut (Qc := fun A => QcM D (some (.int (aWeave (ρ 0) x y))) (wMd h a cI (rwF (cond (inB x (nA (ρ 0)) && inB y (2 ^ ρ 0 1)) (recR ρ sv (va_up (ρ 0) (19 + cl x) (cl y))) ρ)) (cond (inB x (nA (ρ 0)) && inB y (2 ^ ρ 0 1)) (kpN sv) sv) (nF wv) (nF nw) (nF b) ln at0 wd hh) A) rfl (Nat.le_of_ble_eq_true rfl) ?_
  intro p e s m args below meth c ls A H locs hx hb hml hr hlocks hown hts hP hK hD hA hS hl
  have hl : lv_has ls 4 [(0, .ref h), (1, .int x), (2, .int y)] := hl
  have hA41 := hw.w41
  have hA33 := hw.a33
  have hA48 := hw.a48
  obtain ⟨hR2, hR, hB1, hB, hSa, hSb, -⟩ := id hw
  have h1024 := p2_10 hB
  refine lv_aload_n hx hb dX4_weave_0 rfl (lv_at hl 0 rfl) ?_
  refine lv_iload_n hx hb dX4_weave_1 rfl (lv_at hl 1 rfl) ?_
  refine nv_callV [.int x] [] hx hb hml hown hts k_RX4_75 (c_X4_isAddress l D cI cR h a ρ sv wv nw b ln at0 wd hh x hw) ⟨rfl, rfl, Nat.le_of_ble_eq_true rfl, Nat.le_of_ble_eq_true rfl⟩ hP hK 4 rfl rfl rfl rfl hl rfl (Nat.le_of_ble_eq_true rfl) dX4_weave_2 ⟨Nat.zero_le _, Nat.zero_le _⟩ ?_
  refine lv_if_ne (tgt := 11) hx hb dX4_weave_5 (by decide) (fun q_5 => ?_) (fun q_5 => ?_)
  · obtain ⟨hk1, hx1⟩ := inB_cl (by omega) (zB_ne0 q_5)
    have hl := lv_repl [(0, .ref h), (1, .int (nI (cl x))), (2, .int y)] 1 rfl (congrArg (fun z : Int32 => Value.int z) (show x = nI (cl x) from hx1)) rfl hl
    refine lv_aload_n hx hb dX4_weave_11 rfl (lv_at hl 0 rfl) ?_
    refine lv_iload_n hx hb dX4_weave_12 rfl (lv_at hl 2 rfl) ?_
    refine nv_callV [.int y] [] hx hb hml hown hts k_RX4_78 (c_X4_isWord l D cI cR h a ρ sv wv nw b ln at0 wd hh y hw) ⟨rfl, rfl, Nat.le_of_ble_eq_true rfl, Nat.le_of_ble_eq_true rfl⟩ hP hK 4 rfl rfl rfl rfl hl rfl (Nat.le_of_ble_eq_true rfl) dX4_weave_13 ⟨Nat.zero_le _, Nat.zero_le _⟩ ?_
    refine lv_if_ne (tgt := 22) hx hb dX4_weave_16 (by decide) (fun q_16 => ?_) (fun q_16 => ?_)
    · obtain ⟨hk2, hx2⟩ := inB_cl (by omega) (zB_ne0 q_16)
      have hl := lv_repl [(0, .ref h), (1, .int (nI (cl x))), (2, .int (nI (cl y)))] 2 rfl (congrArg (fun z : Int32 => Value.int z) (show y = nI (cl y) from hx2)) rfl hl
      refine lv_aload_n hx hb dX4_weave_22 rfl (lv_at hl 0 rfl) ?_
      refine mu_call (ws' := (wMd h a cI (rwF (svR ρ sv)) (kpN sv) (nF wv) (nF nw) (nF b) ln at0 wd hh)) [0, 1, 2, 3, 4] [] [0, 1, 2, 3, 4] [] [] hx hb hml hown hts k_RX4_62 (fun sz => c_X4_saves l D cI cR h a ρ sv wv nw b ln at0 wd hh hs sz) ⟨rfl, rfl, Nat.le_of_ble_eq_true rfl, Nat.le_of_ble_eq_true rfl⟩ hP hD hS hA hK 4 rfl rfl rfl rfl rfl rfl rfl (by decide) rfl rfl rfl hl rfl (Nat.le_of_ble_eq_true rfl) dX4_weave_23 ⟨Nat.zero_le _, Nat.zero_le _⟩ (fun H locs hP hD hS => ?_)
      refine W.eq (g2 := F0 m 26 ls []) rfl ?_
      have eR : (rwF (svR ρ sv)) = (rwF (recR ρ sv (ρ 0))) := by rw [sv_rec]
      rw [eR] at hP hD
      have hP : va_P D vwCl (wMd h a cI (rwF (recR ρ sv (ρ 0))) (kpN sv) (nF wv) (nF nw) (nF b) ln at0 wd hh) H := hP
      have hD : va_D A (wMd h a cI (rwF (recR ρ sv (ρ 0))) (kpN sv) (nF wv) (nF nw) (nF b) ln at0 wd hh) := hD
      refine lv_aload_n hx hb dX4_weave_26 rfl (lv_at hl 0 rfl) ?_
      refine va_get (D := D) (ci := 4) (v := .ref (a 0)) (C := RX4) (T := TX4) (N := 9) hx hb hts inX4 hown hK hP 0 rfl rfl 0 (by decide) (hts _ fl_RX4_7) (fun _ h9 => h9) rfl dX4_weave_27 ?_
      refine lv_bipush (v := nI 19) hx hb dX4_weave_30 (by decide) ?_
      refine lv_iload_n hx hb dX4_weave_32 rfl (lv_at hl 1 rfl) ?_
      refine nv_iadd hx hb dX4_weave_33 ?_
      refine nv_iald (D := D) (v := nI ((recR ρ sv (ρ 0)) 0 (19 + (cl x)))) hx hb hK hP 1 0 rfl rfl (k := 19 + (cl x)) (by omega) (by decide) (rw_lo (by omega)) dX4_weave_34 ?_
      refine nv_top (ρ 0 (19 + cl x)) (by rw [rec_0]) ?_
      refine lv_istore_n (lv' := [(3, .int (nI (ρ 0 (19 + cl x)))), (0, .ref h), (1, .int (nI (cl x))), (2, .int (nI (cl y)))]) hx hb dX4_weave_35 rfl hl (by decide) rfl (fun ls hl => ?_)
      refine lv_aload_n hx hb dX4_weave_36 rfl (lv_at hl 1 rfl) ?_
      refine va_get (D := D) (ci := 4) (v := .ref (a 0)) (C := RX4) (T := TX4) (N := 9) hx hb hts inX4 hown hK hP 0 rfl rfl 0 (by decide) (hts _ fl_RX4_7) (fun _ h9 => h9) rfl dX4_weave_37 ?_
      refine lv_bipush (v := nI 19) hx hb dX4_weave_40 (by decide) ?_
      refine lv_iload_n hx hb dX4_weave_42 rfl (lv_at hl 2 rfl) ?_
      refine nv_iadd hx hb dX4_weave_43 ?_
      refine lv_iload_n hx hb dX4_weave_44 rfl (lv_at hl 3 rfl) ?_
      refine nv_iast (D := D) (ws' := (wMd h a cI (upd (rwF (recR ρ sv (ρ 0))) (19 + (cl x)) (nI (cl y))) (kpN sv) (nF wv) (nF nw) (nF b) ln at0 wd hh)) hx hb hK hP hD hS 1 0 rfl rfl (k := 19 + (cl x)) (by omega) (by decide) rfl dX4_weave_45 (fun H locs hP hD hS => ?_)
      have eR : (upd (rwF (recR ρ sv (ρ 0))) (19 + (cl x)) (nI (cl y))) = (rwF (recR ρ sv (va_up (ρ 0) (19 + cl x) (cl y)))) := upd_rec (by omega)
      rw [eR] at hP hD
      have hP : va_P D vwCl (wMd h a cI (rwF (recR ρ sv (va_up (ρ 0) (19 + cl x) (cl y)))) (kpN sv) (nF wv) (nF nw) (nF b) ln at0 wd hh) H := hP
      have hD : va_D A (wMd h a cI (rwF (recR ρ sv (va_up (ρ 0) (19 + cl x) (cl y)))) (kpN sv) (nF wv) (nF nw) (nF b) ln at0 wd hh) := hD
      refine lv_iload_n hx hb dX4_weave_46 rfl (lv_at hl 0 rfl) ?_
      have E0 : inB x (nA (ρ 0)) = true := zB_ne0 q_5
      have E1 : inB y (2 ^ ρ 0 1) = true := zB_ne0 q_16
      have hP : va_P D vwCl (wMd h a cI (rwF (cond (inB x (nA (ρ 0)) && inB y (2 ^ ρ 0 1)) (recR ρ sv (va_up (ρ 0) (19 + cl x) (cl y))) ρ)) (cond (inB x (nA (ρ 0)) && inB y (2 ^ ρ 0 1)) (kpN sv) sv) (nF wv) (nF nw) (nF b) ln at0 wd hh) H := by rw [E0, E1]; exact hP
      have hD : va_D A (wMd h a cI (rwF (cond (inB x (nA (ρ 0)) && inB y (2 ^ ρ 0 1)) (recR ρ sv (va_up (ρ 0) (19 + cl x) (cl y))) ρ)) (cond (inB x (nA (ρ 0)) && inB y (2 ^ ρ 0 1)) (kpN sv) sv) (nF wv) (nF nw) (nF b) ln at0 wd hh) := by rw [E0, E1]; exact hD
      exact mu_reti hx hb hr hlocks (by unfold aWeave; rw [E0, E1] <;> rfl) hP hD hS dX4_weave_47
    · refine lv_bipush (v := -3) hx hb dX4_weave_19 (by decide) ?_
      have E0 : inB x (nA (ρ 0)) = true := zB_ne0 q_5
      have E1 : inB y (2 ^ ρ 0 1) = false := zB_eq0 q_16
      have hP : va_P D vwCl (wMd h a cI (rwF (cond (inB x (nA (ρ 0)) && inB y (2 ^ ρ 0 1)) (recR ρ sv (va_up (ρ 0) (19 + cl x) (cl y))) ρ)) (cond (inB x (nA (ρ 0)) && inB y (2 ^ ρ 0 1)) (kpN sv) sv) (nF wv) (nF nw) (nF b) ln at0 wd hh) H := by rw [E0, E1]; exact hP
      have hD : va_D A (wMd h a cI (rwF (cond (inB x (nA (ρ 0)) && inB y (2 ^ ρ 0 1)) (recR ρ sv (va_up (ρ 0) (19 + cl x) (cl y))) ρ)) (cond (inB x (nA (ρ 0)) && inB y (2 ^ ρ 0 1)) (kpN sv) sv) (nF wv) (nF nw) (nF b) ln at0 wd hh) := by rw [E0, E1]; exact hD
      exact mu_reti hx hb hr hlocks (by unfold aWeave; rw [E0, E1] <;> rfl) hP hD hS dX4_weave_21
  · refine lv_bipush (v := -2) hx hb dX4_weave_8 (by decide) ?_
    have E0 : inB x (nA (ρ 0)) = false := zB_eq0 q_5
    have hP : va_P D vwCl (wMd h a cI (rwF (cond (inB x (nA (ρ 0)) && inB y (2 ^ ρ 0 1)) (recR ρ sv (va_up (ρ 0) (19 + cl x) (cl y))) ρ)) (cond (inB x (nA (ρ 0)) && inB y (2 ^ ρ 0 1)) (kpN sv) sv) (nF wv) (nF nw) (nF b) ln at0 wd hh) H := by rw [E0]; exact hP
    have hD : va_D A (wMd h a cI (rwF (cond (inB x (nA (ρ 0)) && inB y (2 ^ ρ 0 1)) (recR ρ sv (va_up (ρ 0) (19 + cl x) (cl y))) ρ)) (cond (inB x (nA (ρ 0)) && inB y (2 ^ ρ 0 1)) (kpN sv) sv) (nF wv) (nF nw) (nF b) ln at0 wd hh) := by rw [E0]; exact hD
    exact mu_reti hx hb hr hlocks (by unfold aWeave; rw [E0] <;> rfl) hP hD hS dX4_weave_10
set_option maxHeartbeats 4000000 in
set_option maxRecDepth 100000 in
theorem c_X4_cross (l : Launch) (D : va_G) (cI cR : ClassId) (h : Nat) (a : Nat → Nat) (ρ : Nat → Nat → Nat) (sv : Nat) (wv : Nat → Nat) (nw : Nat → Nat) (b : Nat → Nat) (ln : Nat) (at0 : Nat) (wd : Nat) (hh : Int64) (x : Int32)  (hw : wf (ρ 0)) (hs : sv ≤ 5) (sz : Nat) : Met l yX4_cross (wsC yX4_cross cX4_cross 3 (some .int)) (rmK 2 44) (nPreM D (nTy cI cR) [.ref h, .int x] (wMd h a cI (rwF ρ) sv (nF wv) (nF nw) (nF b) ln at0 wd hh) sz) (QcM D (some (.int (aCross (ρ 0) x))) (wMd h a cI (rwF (cond (inB x (nW (ρ 0)) && !inB x 8) (recR ρ sv (va_up (ρ 0) (67 + (cl x - 8)) (1 - crN (ρ 0) (cl x)))) ρ)) (cond (inB x (nW (ρ 0)) && !inB x 8) (kpN sv) sv) (nF wv) (nF nw) (nF b) ln at0 wd hh) (va_A (wMd h a cI (rwF ρ) sv (nF wv) (nF nw) (nF b) ln at0 wd hh) sz)) 0 0 (va_A (wMd h a cI (rwF ρ) sv (nF wv) (nF nw) (nF b) ln at0 wd hh) sz) := by
  refine met_mut (Qc := fun A => QcM D (some (.int (aCross (ρ 0) x))) (wMd h a cI (rwF (cond (inB x (nW (ρ 0)) && !inB x 8) (recR ρ sv (va_up (ρ 0) (67 + (cl x - 8)) (1 - crN (ρ 0) (cl x)))) ρ)) (cond (inB x (nW (ρ 0)) && !inB x 8) (kpN sv) sv) (nF wv) (nF nw) (nF b) ln at0 wd hh) A) rfl (Nat.le_of_ble_eq_true rfl) ?_
  intro p e s m args below meth c ls A H locs hx hb hml hr hlocks hown hts hP hK hD hA hS hl
  have hl : lv_has ls 3 [(0, .ref h), (1, .int x)] := hl
  have hA41 := hw.w41
  have hA33 := hw.a33
  have hA48 := hw.a48
  obtain ⟨hR2, hR, hB1, hB, hSa, hSb, -⟩ := id hw
  have h1024 := p2_10 hB
  refine lv_aload_n hx hb dX4_cross_0 rfl (lv_at hl 0 rfl) ?_
  refine lv_iload_n hx hb dX4_cross_1 rfl (lv_at hl 1 rfl) ?_
  refine nv_callV [.int x] [] hx hb hml hown hts k_RX4_81 (c_X4_isWire l D cI cR h a ρ sv wv nw b ln at0 wd hh x hw) ⟨rfl, rfl, Nat.le_of_ble_eq_true rfl, Nat.le_of_ble_eq_true rfl⟩ hP hK 4 rfl rfl rfl rfl hl rfl (Nat.le_of_ble_eq_true rfl) dX4_cross_2 ⟨Nat.zero_le _, Nat.zero_le _⟩ ?_
  refine lv_if_ne (tgt := 11) hx hb dX4_cross_5 (by decide) (fun q_5 => ?_) (fun q_5 => ?_)
  · obtain ⟨hk1, hx1⟩ := inB_cl (by omega) (zB_ne0 q_5)
    have hl := lv_repl [(0, .ref h), (1, .int (nI (cl x)))] 1 rfl (congrArg (fun z : Int32 => Value.int z) (show x = nI (cl x) from hx1)) rfl hl
    refine lv_iload_n hx hb dX4_cross_11 rfl (lv_at hl 1 rfl) ?_
    refine lv_bipush (v := nI 8) hx hb dX4_cross_12 (by decide) ?_
    refine nv_icmp_ge (tgt := 20) hx hb dX4_cross_14 (by decide) (by omega) (by omega) (fun q_14 => ?_) (fun q_14 => ?_)
    · refine lv_aload_n hx hb dX4_cross_20 rfl (lv_at hl 0 rfl) ?_
      refine mu_call (ws' := (wMd h a cI (rwF (svR ρ sv)) (kpN sv) (nF wv) (nF nw) (nF b) ln at0 wd hh)) [0, 1, 2, 3, 4] [] [0, 1, 2, 3, 4] [] [] hx hb hml hown hts k_RX4_62 (fun sz => c_X4_saves l D cI cR h a ρ sv wv nw b ln at0 wd hh hs sz) ⟨rfl, rfl, Nat.le_of_ble_eq_true rfl, Nat.le_of_ble_eq_true rfl⟩ hP hD hS hA hK 4 rfl rfl rfl rfl rfl rfl rfl (by decide) rfl rfl rfl hl rfl (Nat.le_of_ble_eq_true rfl) dX4_cross_21 ⟨Nat.zero_le _, Nat.zero_le _⟩ (fun H locs hP hD hS => ?_)
      refine W.eq (g2 := F0 m 24 ls []) rfl ?_
      have eR : (rwF (svR ρ sv)) = (rwF (recR ρ sv (ρ 0))) := by rw [sv_rec]
      rw [eR] at hP hD
      have hP : va_P D vwCl (wMd h a cI (rwF (recR ρ sv (ρ 0))) (kpN sv) (nF wv) (nF nw) (nF b) ln at0 wd hh) H := hP
      have hD : va_D A (wMd h a cI (rwF (recR ρ sv (ρ 0))) (kpN sv) (nF wv) (nF nw) (nF b) ln at0 wd hh) := hD
      refine lv_bipush (v := nI 67) hx hb dX4_cross_24 (by decide) ?_
      refine lv_iload_n hx hb dX4_cross_26 rfl (lv_at hl 1 rfl) ?_
      refine nv_iadd hx hb dX4_cross_27 ?_
      refine lv_bipush (v := nI 8) hx hb dX4_cross_28 (by decide) ?_
      refine nv_isub hx hb dX4_cross_30 (by omega) ?_
      refine nv_top (67 + (cl x - 8)) (by omega) ?_
      refine lv_istore_n (lv' := [(2, .int (nI (67 + (cl x - 8)))), (0, .ref h), (1, .int (nI (cl x)))]) hx hb dX4_cross_31 rfl hl (by decide) rfl (fun ls hl => ?_)
      refine lv_aload_n hx hb dX4_cross_32 rfl (lv_at hl 1 rfl) ?_
      refine va_get (D := D) (ci := 4) (v := .ref (a 0)) (C := RX4) (T := TX4) (N := 9) hx hb hts inX4 hown hK hP 0 rfl rfl 0 (by decide) (hts _ fl_RX4_7) (fun _ h9 => h9) rfl dX4_cross_33 ?_
      refine lv_iload_n hx hb dX4_cross_36 rfl (lv_at hl 0 rfl) ?_
      refine lv_iconst (v := nI 1) hx hb dX4_cross_37 (by decide) ?_
      refine lv_aload_n hx hb dX4_cross_38 rfl (lv_at hl 1 rfl) ?_
      refine va_get (D := D) (ci := 4) (v := .ref (a 0)) (C := RX4) (T := TX4) (N := 9) hx hb hts inX4 hown hK hP 0 rfl rfl 0 (by decide) (hts _ fl_RX4_7) (fun _ h9 => h9) rfl dX4_cross_39 ?_
      refine lv_iload_n hx hb dX4_cross_42 rfl (lv_at hl 0 rfl) ?_
      refine nv_iald (D := D) (v := nI ((recR ρ sv (ρ 0)) 0 (67 + (cl x - 8)))) hx hb hK hP 1 0 rfl rfl (k := 67 + (cl x - 8)) (by omega) (by decide) (rw_lo (by omega)) dX4_cross_43 ?_
      refine nv_top (crN (ρ 0) (cl x)) (by rw [rec_0]; unfold crN; rw [if_neg (by omega)]) ?_
      have hc1 := crN_le hw hk1
      refine nv_isub hx hb dX4_cross_44 (by omega) ?_
      refine nv_iast (D := D) (ws' := (wMd h a cI (upd (rwF (recR ρ sv (ρ 0))) (67 + (cl x - 8)) (nI (1 - (crN (ρ 0) (cl x))))) (kpN sv) (nF wv) (nF nw) (nF b) ln at0 wd hh)) hx hb hK hP hD hS 1 0 rfl rfl (k := 67 + (cl x - 8)) (by omega) (by decide) rfl dX4_cross_45 (fun H locs hP hD hS => ?_)
      have eR : (upd (rwF (recR ρ sv (ρ 0))) (67 + (cl x - 8)) (nI (1 - (crN (ρ 0) (cl x))))) = (rwF (recR ρ sv (va_up (ρ 0) (67 + (cl x - 8)) (1 - crN (ρ 0) (cl x))))) := upd_rec (by omega)
      rw [eR] at hP hD
      have hP : va_P D vwCl (wMd h a cI (rwF (recR ρ sv (va_up (ρ 0) (67 + (cl x - 8)) (1 - crN (ρ 0) (cl x))))) (kpN sv) (nF wv) (nF nw) (nF b) ln at0 wd hh) H := hP
      have hD : va_D A (wMd h a cI (rwF (recR ρ sv (va_up (ρ 0) (67 + (cl x - 8)) (1 - crN (ρ 0) (cl x))))) (kpN sv) (nF wv) (nF nw) (nF b) ln at0 wd hh) := hD
      refine lv_aload_n hx hb dX4_cross_46 rfl (lv_at hl 1 rfl) ?_
      refine va_get (D := D) (ci := 4) (v := .ref (a 0)) (C := RX4) (T := TX4) (N := 9) hx hb hts inX4 hown hK hP 0 rfl rfl 0 (by decide) (hts _ fl_RX4_7) (fun _ h9 => h9) rfl dX4_cross_47 ?_
      refine lv_iload_n hx hb dX4_cross_50 rfl (lv_at hl 0 rfl) ?_
      refine nv_iald (D := D) (v := nI ((recR ρ sv (va_up (ρ 0) (67 + (cl x - 8)) (1 - crN (ρ 0) (cl x)))) 0 (67 + (cl x - 8)))) hx hb hK hP 1 0 rfl rfl (k := 67 + (cl x - 8)) (by omega) (by decide) (rw_lo (by omega)) dX4_cross_51 ?_
      refine nv_top (1 - crN (ρ 0) (cl x)) (by rw [rec_0, up_s]) ?_
      have E0 : inB x (nW (ρ 0)) = true := zB_ne0 q_5
      have E1 : inB x 8 = false := inB_clf hx1 (by omega) q_14
      have hP : va_P D vwCl (wMd h a cI (rwF (cond (inB x (nW (ρ 0)) && !inB x 8) (recR ρ sv (va_up (ρ 0) (67 + (cl x - 8)) (1 - crN (ρ 0) (cl x)))) ρ)) (cond (inB x (nW (ρ 0)) && !inB x 8) (kpN sv) sv) (nF wv) (nF nw) (nF b) ln at0 wd hh) H := by rw [E0, E1]; exact hP
      have hD : va_D A (wMd h a cI (rwF (cond (inB x (nW (ρ 0)) && !inB x 8) (recR ρ sv (va_up (ρ 0) (67 + (cl x - 8)) (1 - crN (ρ 0) (cl x)))) ρ)) (cond (inB x (nW (ρ 0)) && !inB x 8) (kpN sv) sv) (nF wv) (nF nw) (nF b) ln at0 wd hh) := by rw [E0, E1]; exact hD
      exact mu_reti hx hb hr hlocks (by unfold aCross; rw [E0, E1] <;> rfl) hP hD hS dX4_cross_52
    · refine lv_bipush (v := -4) hx hb dX4_cross_17 (by decide) ?_
      have E0 : inB x (nW (ρ 0)) = true := zB_ne0 q_5
      have E1 : inB x 8 = true := inB_clt hx1 (by decide) q_14
      have hP : va_P D vwCl (wMd h a cI (rwF (cond (inB x (nW (ρ 0)) && !inB x 8) (recR ρ sv (va_up (ρ 0) (67 + (cl x - 8)) (1 - crN (ρ 0) (cl x)))) ρ)) (cond (inB x (nW (ρ 0)) && !inB x 8) (kpN sv) sv) (nF wv) (nF nw) (nF b) ln at0 wd hh) H := by rw [E0, E1]; exact hP
      have hD : va_D A (wMd h a cI (rwF (cond (inB x (nW (ρ 0)) && !inB x 8) (recR ρ sv (va_up (ρ 0) (67 + (cl x - 8)) (1 - crN (ρ 0) (cl x)))) ρ)) (cond (inB x (nW (ρ 0)) && !inB x 8) (kpN sv) sv) (nF wv) (nF nw) (nF b) ln at0 wd hh) := by rw [E0, E1]; exact hD
      exact mu_reti hx hb hr hlocks (by unfold aCross; rw [E0, E1] <;> rfl) hP hD hS dX4_cross_19
  · refine lv_bipush (v := -2) hx hb dX4_cross_8 (by decide) ?_
    have E0 : inB x (nW (ρ 0)) = false := zB_eq0 q_5
    have hP : va_P D vwCl (wMd h a cI (rwF (cond (inB x (nW (ρ 0)) && !inB x 8) (recR ρ sv (va_up (ρ 0) (67 + (cl x - 8)) (1 - crN (ρ 0) (cl x)))) ρ)) (cond (inB x (nW (ρ 0)) && !inB x 8) (kpN sv) sv) (nF wv) (nF nw) (nF b) ln at0 wd hh) H := by rw [E0]; exact hP
    have hD : va_D A (wMd h a cI (rwF (cond (inB x (nW (ρ 0)) && !inB x 8) (recR ρ sv (va_up (ρ 0) (67 + (cl x - 8)) (1 - crN (ρ 0) (cl x)))) ρ)) (cond (inB x (nW (ρ 0)) && !inB x 8) (kpN sv) sv) (nF wv) (nF nw) (nF b) ln at0 wd hh) := by rw [E0]; exact hD
    exact mu_reti hx hb hr hlocks (by unfold aCross; rw [E0] <;> rfl) hP hD hS dX4_cross_10
set_option maxHeartbeats 4000000 in
set_option maxRecDepth 100000 in
theorem c_X4_spoil (l : Launch) (D : va_G) (cI cR : ClassId) (h : Nat) (a : Nat → Nat) (ρ : Nat → Nat → Nat) (sv : Nat) (wv : Nat → Nat) (nw : Nat → Nat) (b : Nat → Nat) (ln : Nat) (at0 : Nat) (wd : Nat) (hh : Int64) (x : Int32) (y : Int32)  (hw : wf (ρ 0)) (hs : sv ≤ 5) (sz : Nat) : Met l yX4_spoil (wsC yX4_spoil cX4_spoil 3 (some .int)) (rmK 2 44) (nPreM D (nTy cI cR) [.ref h, .int x, .int y] (wMd h a cI (rwF ρ) sv (nF wv) (nF nw) (nF b) ln at0 wd hh) sz) (QcM D (some (.int (aSpoil (ρ 0) x y))) (wMd h a cI (rwF (cond (inB x (nW (ρ 0)) && inB y (ρ 0 0)) (recR ρ sv (va_up (ρ 0) (100 + cl x) (ρ 0 (100 + cl x) ^^^ 1 <<< cl y))) ρ)) (cond (inB x (nW (ρ 0)) && inB y (ρ 0 0)) (kpN sv) sv) (nF wv) (nF nw) (nF b) ln at0 wd hh) (va_A (wMd h a cI (rwF ρ) sv (nF wv) (nF nw) (nF b) ln at0 wd hh) sz)) 0 0 (va_A (wMd h a cI (rwF ρ) sv (nF wv) (nF nw) (nF b) ln at0 wd hh) sz) := by
  refine met_mut (Qc := fun A => QcM D (some (.int (aSpoil (ρ 0) x y))) (wMd h a cI (rwF (cond (inB x (nW (ρ 0)) && inB y (ρ 0 0)) (recR ρ sv (va_up (ρ 0) (100 + cl x) (ρ 0 (100 + cl x) ^^^ 1 <<< cl y))) ρ)) (cond (inB x (nW (ρ 0)) && inB y (ρ 0 0)) (kpN sv) sv) (nF wv) (nF nw) (nF b) ln at0 wd hh) A) rfl (Nat.le_of_ble_eq_true rfl) ?_
  intro p e s m args below meth c ls A H locs hx hb hml hr hlocks hown hts hP hK hD hA hS hl
  have hl : lv_has ls 3 [(0, .ref h), (1, .int x), (2, .int y)] := hl
  have hA41 := hw.w41
  have hA33 := hw.a33
  have hA48 := hw.a48
  obtain ⟨hR2, hR, hB1, hB, hSa, hSb, -⟩ := id hw
  have h1024 := p2_10 hB
  refine lv_aload_n hx hb dX4_spoil_0 rfl (lv_at hl 0 rfl) ?_
  refine lv_iload_n hx hb dX4_spoil_1 rfl (lv_at hl 1 rfl) ?_
  refine nv_callV [.int x] [] hx hb hml hown hts k_RX4_81 (c_X4_isWire l D cI cR h a ρ sv wv nw b ln at0 wd hh x hw) ⟨rfl, rfl, Nat.le_of_ble_eq_true rfl, Nat.le_of_ble_eq_true rfl⟩ hP hK 4 rfl rfl rfl rfl hl rfl (Nat.le_of_ble_eq_true rfl) dX4_spoil_2 ⟨Nat.zero_le _, Nat.zero_le _⟩ ?_
  refine lv_if_eq (tgt := 16) hx hb dX4_spoil_5 (by decide) (fun q_5 => ?_) (fun q_5 => ?_)
  · refine lv_bipush (v := -2) hx hb dX4_spoil_16 (by decide) ?_
    have E0 : inB x (nW (ρ 0)) = false := zB_eq0 q_5
    have hP : va_P D vwCl (wMd h a cI (rwF (cond (inB x (nW (ρ 0)) && inB y (ρ 0 0)) (recR ρ sv (va_up (ρ 0) (100 + cl x) (ρ 0 (100 + cl x) ^^^ 1 <<< cl y))) ρ)) (cond (inB x (nW (ρ 0)) && inB y (ρ 0 0)) (kpN sv) sv) (nF wv) (nF nw) (nF b) ln at0 wd hh) H := by rw [E0]; exact hP
    have hD : va_D A (wMd h a cI (rwF (cond (inB x (nW (ρ 0)) && inB y (ρ 0 0)) (recR ρ sv (va_up (ρ 0) (100 + cl x) (ρ 0 (100 + cl x) ^^^ 1 <<< cl y))) ρ)) (cond (inB x (nW (ρ 0)) && inB y (ρ 0 0)) (kpN sv) sv) (nF wv) (nF nw) (nF b) ln at0 wd hh) := by rw [E0]; exact hD
    exact mu_reti hx hb hr hlocks (by unfold aSpoil; rw [E0] <;> rfl) hP hD hS dX4_spoil_18
  · obtain ⟨hk1, hx1⟩ := inB_cl (by omega) (zB_ne0 q_5)
    have hl := lv_repl [(0, .ref h), (1, .int (nI (cl x))), (2, .int y)] 1 rfl (congrArg (fun z : Int32 => Value.int z) (show x = nI (cl x) from hx1)) rfl hl
    refine lv_aload_n hx hb dX4_spoil_8 rfl (lv_at hl 0 rfl) ?_
    refine lv_iload_n hx hb dX4_spoil_9 rfl (lv_at hl 2 rfl) ?_
    refine nv_callV [.int y] [] hx hb hml hown hts k_RX4_71 (c_X4_isRing l D cI cR h a ρ sv wv nw b ln at0 wd hh y hw) ⟨rfl, rfl, Nat.le_of_ble_eq_true rfl, Nat.le_of_ble_eq_true rfl⟩ hP hK 4 rfl rfl rfl rfl hl rfl (Nat.le_of_ble_eq_true rfl) dX4_spoil_10 ⟨Nat.zero_le _, Nat.zero_le _⟩ ?_
    refine lv_if_ne (tgt := 19) hx hb dX4_spoil_13 (by decide) (fun q_13 => ?_) (fun q_13 => ?_)
    · obtain ⟨hk2, hx2⟩ := inB_cl (by omega) (zB_ne0 q_13)
      have hl := lv_repl [(0, .ref h), (1, .int (nI (cl x))), (2, .int (nI (cl y)))] 2 rfl (congrArg (fun z : Int32 => Value.int z) (show y = nI (cl y) from hx2)) rfl hl
      refine lv_aload_n hx hb dX4_spoil_19 rfl (lv_at hl 0 rfl) ?_
      refine mu_call (ws' := (wMd h a cI (rwF (svR ρ sv)) (kpN sv) (nF wv) (nF nw) (nF b) ln at0 wd hh)) [0, 1, 2, 3, 4] [] [0, 1, 2, 3, 4] [] [] hx hb hml hown hts k_RX4_62 (fun sz => c_X4_saves l D cI cR h a ρ sv wv nw b ln at0 wd hh hs sz) ⟨rfl, rfl, Nat.le_of_ble_eq_true rfl, Nat.le_of_ble_eq_true rfl⟩ hP hD hS hA hK 4 rfl rfl rfl rfl rfl rfl rfl (by decide) rfl rfl rfl hl rfl (Nat.le_of_ble_eq_true rfl) dX4_spoil_20 ⟨Nat.zero_le _, Nat.zero_le _⟩ (fun H locs hP hD hS => ?_)
      refine W.eq (g2 := F0 m 23 ls []) rfl ?_
      have eR : (rwF (svR ρ sv)) = (rwF (recR ρ sv (ρ 0))) := by rw [sv_rec]
      rw [eR] at hP hD
      have hP : va_P D vwCl (wMd h a cI (rwF (recR ρ sv (ρ 0))) (kpN sv) (nF wv) (nF nw) (nF b) ln at0 wd hh) H := hP
      have hD : va_D A (wMd h a cI (rwF (recR ρ sv (ρ 0))) (kpN sv) (nF wv) (nF nw) (nF b) ln at0 wd hh) := hD
      refine lv_aload_n hx hb dX4_spoil_23 rfl (lv_at hl 0 rfl) ?_
      refine va_get (D := D) (ci := 4) (v := .ref (a 0)) (C := RX4) (T := TX4) (N := 9) hx hb hts inX4 hown hK hP 0 rfl rfl 0 (by decide) (hts _ fl_RX4_7) (fun _ h9 => h9) rfl dX4_spoil_24 ?_
      refine lv_bipush (v := nI 100) hx hb dX4_spoil_27 (by decide) ?_
      refine lv_iload_n hx hb dX4_spoil_29 rfl (lv_at hl 1 rfl) ?_
      refine nv_iadd hx hb dX4_spoil_30 ?_
      refine lv_dup2_11 hx hb dX4_spoil_31 rfl rfl ?_
      refine nv_iald (D := D) (v := nI ((recR ρ sv (ρ 0)) 0 (100 + (cl x)))) hx hb hK hP 1 0 rfl rfl (k := 100 + (cl x)) (by omega) (by decide) (rw_lo (by omega)) dX4_spoil_32 ?_
      refine nv_top (ρ 0 (100 + cl x)) (by rw [rec_0]) ?_
      have hx2 : ρ 0 (100 + cl x) ^^^ 1 <<< cl y < 65536 := Nat.xor_lt_two_pow (n := 16) (hw.sp hk1) (by rw [sh1]; exact (show 2 ^ cl y < 2 ^ 16 from Nat.pow_lt_pow_right (by decide) (by omega)))
      refine lv_iconst (v := nI 1) hx hb dX4_spoil_33 (by decide) ?_
      refine lv_iload_n hx hb dX4_spoil_34 rfl (lv_at hl 2 rfl) ?_
      refine nv_ishl hx hb dX4_spoil_35 (by omega) ?_
      refine nv_ixor hx hb dX4_spoil_36 ?_
      refine nv_iast (D := D) (ws' := (wMd h a cI (upd (rwF (recR ρ sv (ρ 0))) (100 + (cl x)) (nI ((ρ 0 (100 + cl x)) ^^^ (1 <<< (cl y))))) (kpN sv) (nF wv) (nF nw) (nF b) ln at0 wd hh)) hx hb hK hP hD hS 1 0 rfl rfl (k := 100 + (cl x)) (by omega) (by decide) rfl dX4_spoil_37 (fun H locs hP hD hS => ?_)
      have eR : (upd (rwF (recR ρ sv (ρ 0))) (100 + (cl x)) (nI ((ρ 0 (100 + cl x)) ^^^ (1 <<< (cl y))))) = (rwF (recR ρ sv (va_up (ρ 0) (100 + cl x) (ρ 0 (100 + cl x) ^^^ 1 <<< cl y)))) := upd_rec (by omega)
      rw [eR] at hP hD
      have hP : va_P D vwCl (wMd h a cI (rwF (recR ρ sv (va_up (ρ 0) (100 + cl x) (ρ 0 (100 + cl x) ^^^ 1 <<< cl y)))) (kpN sv) (nF wv) (nF nw) (nF b) ln at0 wd hh) H := hP
      have hD : va_D A (wMd h a cI (rwF (recR ρ sv (va_up (ρ 0) (100 + cl x) (ρ 0 (100 + cl x) ^^^ 1 <<< cl y)))) (kpN sv) (nF wv) (nF nw) (nF b) ln at0 wd hh) := hD
      refine lv_aload_n hx hb dX4_spoil_38 rfl (lv_at hl 0 rfl) ?_
      refine va_get (D := D) (ci := 4) (v := .ref (a 0)) (C := RX4) (T := TX4) (N := 9) hx hb hts inX4 hown hK hP 0 rfl rfl 0 (by decide) (hts _ fl_RX4_7) (fun _ h9 => h9) rfl dX4_spoil_39 ?_
      refine lv_bipush (v := nI 100) hx hb dX4_spoil_42 (by decide) ?_
      refine lv_iload_n hx hb dX4_spoil_44 rfl (lv_at hl 1 rfl) ?_
      refine nv_iadd hx hb dX4_spoil_45 ?_
      refine nv_iald (D := D) (v := nI ((recR ρ sv (va_up (ρ 0) (100 + cl x) (ρ 0 (100 + cl x) ^^^ 1 <<< cl y))) 0 (100 + (cl x)))) hx hb hK hP 1 0 rfl rfl (k := 100 + (cl x)) (by omega) (by decide) (rw_lo (by omega)) dX4_spoil_46 ?_
      refine nv_top (ρ 0 (100 + cl x) ^^^ 1 <<< cl y) (by rw [rec_0, up_s]) ?_
      refine lv_iload_n hx hb dX4_spoil_47 rfl (lv_at hl 2 rfl) ?_
      refine nv_ishr hx hb dX4_spoil_48 (by omega) (by omega) ?_
      refine lv_iconst (v := nI 1) hx hb dX4_spoil_49 (by decide) ?_
      refine nv_iand hx hb dX4_spoil_50 ?_
      refine nv_top (((ρ 0 (100 + cl x) ^^^ 1 <<< cl y).testBit (cl y)).toNat) (nw_tb _ _) ?_
      have E0 : inB x (nW (ρ 0)) = true := zB_ne0 q_5
      have E1 : inB y (ρ 0 0) = true := zB_ne0 q_13
      have hP : va_P D vwCl (wMd h a cI (rwF (cond (inB x (nW (ρ 0)) && inB y (ρ 0 0)) (recR ρ sv (va_up (ρ 0) (100 + cl x) (ρ 0 (100 + cl x) ^^^ 1 <<< cl y))) ρ)) (cond (inB x (nW (ρ 0)) && inB y (ρ 0 0)) (kpN sv) sv) (nF wv) (nF nw) (nF b) ln at0 wd hh) H := by rw [E0, E1]; exact hP
      have hD : va_D A (wMd h a cI (rwF (cond (inB x (nW (ρ 0)) && inB y (ρ 0 0)) (recR ρ sv (va_up (ρ 0) (100 + cl x) (ρ 0 (100 + cl x) ^^^ 1 <<< cl y))) ρ)) (cond (inB x (nW (ρ 0)) && inB y (ρ 0 0)) (kpN sv) sv) (nF wv) (nF nw) (nF b) ln at0 wd hh) := by rw [E0, E1]; exact hD
      exact mu_reti hx hb hr hlocks (by unfold aSpoil; rw [E0, E1] <;> rfl) hP hD hS dX4_spoil_51
    · refine lv_bipush (v := -2) hx hb dX4_spoil_16 (by decide) ?_
      have E0 : inB x (nW (ρ 0)) = true := zB_ne0 q_5
      have E1 : inB y (ρ 0 0) = false := zB_eq0 q_13
      have hP : va_P D vwCl (wMd h a cI (rwF (cond (inB x (nW (ρ 0)) && inB y (ρ 0 0)) (recR ρ sv (va_up (ρ 0) (100 + cl x) (ρ 0 (100 + cl x) ^^^ 1 <<< cl y))) ρ)) (cond (inB x (nW (ρ 0)) && inB y (ρ 0 0)) (kpN sv) sv) (nF wv) (nF nw) (nF b) ln at0 wd hh) H := by rw [E0, E1]; exact hP
      have hD : va_D A (wMd h a cI (rwF (cond (inB x (nW (ρ 0)) && inB y (ρ 0 0)) (recR ρ sv (va_up (ρ 0) (100 + cl x) (ρ 0 (100 + cl x) ^^^ 1 <<< cl y))) ρ)) (cond (inB x (nW (ρ 0)) && inB y (ρ 0 0)) (kpN sv) sv) (nF wv) (nF nw) (nF b) ln at0 wd hh) := by rw [E0, E1]; exact hD
      exact mu_reti hx hb hr hlocks (by unfold aSpoil; rw [E0, E1] <;> rfl) hP hD hS dX4_spoil_18
set_option maxHeartbeats 4000000 in
set_option maxRecDepth 100000 in
theorem c_X4_patch (l : Launch) (D : va_G) (cI cR : ClassId) (h : Nat) (a : Nat → Nat) (ρ : Nat → Nat → Nat) (sv : Nat) (wv : Nat → Nat) (nw : Nat → Nat) (b : Nat → Nat) (ln : Nat) (at0 : Nat) (wd : Nat) (hh : Int64) (x : Int32) (y : Int32)  (hw : wf (ρ 0)) (hs : sv ≤ 5) (h4 : pcN (ρ 0) ≤ 4) (sz : Nat) : Met l yX4_patch (wsC yX4_patch cX4_patch 3 (some .int)) (rmK 2 44) (nPreM D (nTy cI cR) [.ref h, .int x, .int y] (wMd h a cI (rwF ρ) sv (nF wv) (nF nw) (nF b) ln at0 wd hh) sz) (QcM D (some (.int (aPatch (ρ 0) x y))) (wMd h a cI (rwF (cond (inB x (nA (ρ 0)) && inB y (2 ^ ρ 0 1) && okP (ρ 0) x) (recR ρ sv (ptS (ρ 0) x (cl y + 1))) ρ)) (cond (inB x (nA (ρ 0)) && inB y (2 ^ ρ 0 1) && okP (ρ 0) x) (kpN sv) sv) (nF wv) (nF nw) (nF b) ln at0 wd hh) (va_A (wMd h a cI (rwF ρ) sv (nF wv) (nF nw) (nF b) ln at0 wd hh) sz)) 0 0 (va_A (wMd h a cI (rwF ρ) sv (nF wv) (nF nw) (nF b) ln at0 wd hh) sz) := by
  refine met_mut (Qc := fun A => QcM D (some (.int (aPatch (ρ 0) x y))) (wMd h a cI (rwF (cond (inB x (nA (ρ 0)) && inB y (2 ^ ρ 0 1) && okP (ρ 0) x) (recR ρ sv (ptS (ρ 0) x (cl y + 1))) ρ)) (cond (inB x (nA (ρ 0)) && inB y (2 ^ ρ 0 1) && okP (ρ 0) x) (kpN sv) sv) (nF wv) (nF nw) (nF b) ln at0 wd hh) A) rfl (Nat.le_of_ble_eq_true rfl) ?_
  intro p e s m args below meth c ls A H locs hx hb hml hr hlocks hown hts hP hK hD hA hS hl
  have hl : lv_has ls 3 [(0, .ref h), (1, .int x), (2, .int y)] := hl
  have hA41 := hw.w41
  have hA33 := hw.a33
  have hA48 := hw.a48
  obtain ⟨hR2, hR, hB1, hB, hSa, hSb, -⟩ := id hw
  have h1024 := p2_10 hB
  refine lv_aload_n hx hb dX4_patch_0 rfl (lv_at hl 0 rfl) ?_
  refine lv_iload_n hx hb dX4_patch_1 rfl (lv_at hl 1 rfl) ?_
  refine nv_callV [.int x] [] hx hb hml hown hts k_RX4_75 (c_X4_isAddress l D cI cR h a ρ sv wv nw b ln at0 wd hh x hw) ⟨rfl, rfl, Nat.le_of_ble_eq_true rfl, Nat.le_of_ble_eq_true rfl⟩ hP hK 4 rfl rfl rfl rfl hl rfl (Nat.le_of_ble_eq_true rfl) dX4_patch_2 ⟨Nat.zero_le _, Nat.zero_le _⟩ ?_
  refine lv_if_ne (tgt := 11) hx hb dX4_patch_5 (by decide) (fun q_5 => ?_) (fun q_5 => ?_)
  · obtain ⟨hk1, hx1⟩ := inB_cl (by omega) (zB_ne0 q_5)
    have hl := lv_repl [(0, .ref h), (1, .int (nI (cl x))), (2, .int y)] 1 rfl (congrArg (fun z : Int32 => Value.int z) (show x = nI (cl x) from hx1)) rfl hl
    refine lv_aload_n hx hb dX4_patch_11 rfl (lv_at hl 0 rfl) ?_
    refine lv_iload_n hx hb dX4_patch_12 rfl (lv_at hl 2 rfl) ?_
    refine nv_callV [.int y] [] hx hb hml hown hts k_RX4_78 (c_X4_isWord l D cI cR h a ρ sv wv nw b ln at0 wd hh y hw) ⟨rfl, rfl, Nat.le_of_ble_eq_true rfl, Nat.le_of_ble_eq_true rfl⟩ hP hK 4 rfl rfl rfl rfl hl rfl (Nat.le_of_ble_eq_true rfl) dX4_patch_13 ⟨Nat.zero_le _, Nat.zero_le _⟩ ?_
    refine lv_if_ne (tgt := 22) hx hb dX4_patch_16 (by decide) (fun q_16 => ?_) (fun q_16 => ?_)
    · obtain ⟨hk2, hx2⟩ := inB_cl (by omega) (zB_ne0 q_16)
      have hl := lv_repl [(0, .ref h), (1, .int (nI (cl x))), (2, .int (nI (cl y)))] 2 rfl (congrArg (fun z : Int32 => Value.int z) (show y = nI (cl y) from hx2)) rfl hl
      refine lv_aload_n hx hb dX4_patch_22 rfl (lv_at hl 0 rfl) ?_
      refine va_get (D := D) (ci := 4) (v := .ref (a 0)) (C := RX4) (T := TX4) (N := 9) hx hb hts inX4 hown hK hP 0 rfl rfl 0 (by decide) (hts _ fl_RX4_7) (fun _ h9 => h9) rfl dX4_patch_23 ?_
      refine lv_sipush (v := nI 141) hx hb dX4_patch_26 (by decide) ?_
      refine lv_iload_n hx hb dX4_patch_29 rfl (lv_at hl 1 rfl) ?_
      refine nv_iadd hx hb dX4_patch_30 ?_
      refine nv_iald (D := D) (v := ptF (ρ 0) ((cl x))) hx hb hK hP 1 0 rfl rfl (k := 141 + (cl x)) (by omega) (by decide) (rw_pt (by omega)) dX4_patch_31 ?_
      refine lv_iconst (v := -1) hx hb dX4_patch_32 (by decide) ?_
      refine lv_icmp_ne (tgt := 47) hx hb dX4_patch_33 (by decide) (fun q_33 => ?_) (fun q_33 => ?_)
      · refine lv_aload_n hx hb dX4_patch_47 rfl (lv_at hl 0 rfl) ?_
        refine mu_call (ws' := (wMd h a cI (rwF (svR ρ sv)) (kpN sv) (nF wv) (nF nw) (nF b) ln at0 wd hh)) [0, 1, 2, 3, 4] [] [0, 1, 2, 3, 4] [] [] hx hb hml hown hts k_RX4_62 (fun sz => c_X4_saves l D cI cR h a ρ sv wv nw b ln at0 wd hh hs sz) ⟨rfl, rfl, Nat.le_of_ble_eq_true rfl, Nat.le_of_ble_eq_true rfl⟩ hP hD hS hA hK 4 rfl rfl rfl rfl rfl rfl rfl (by decide) rfl rfl rfl hl rfl (Nat.le_of_ble_eq_true rfl) dX4_patch_48 ⟨Nat.zero_le _, Nat.zero_le _⟩ (fun H locs hP hD hS => ?_)
        refine W.eq (g2 := F0 m 51 ls []) rfl ?_
        have eR : (rwF (svR ρ sv)) = (rwF (recR ρ sv (ρ 0))) := by rw [sv_rec]
        rw [eR] at hP hD
        have hP : va_P D vwCl (wMd h a cI (rwF (recR ρ sv (ρ 0))) (kpN sv) (nF wv) (nF nw) (nF b) ln at0 wd hh) H := hP
        have hD : va_D A (wMd h a cI (rwF (recR ρ sv (ρ 0))) (kpN sv) (nF wv) (nF nw) (nF b) ln at0 wd hh) := hD
        refine lv_aload_n hx hb dX4_patch_51 rfl (lv_at hl 0 rfl) ?_
        refine va_get (D := D) (ci := 4) (v := .ref (a 0)) (C := RX4) (T := TX4) (N := 9) hx hb hts inX4 hown hK hP 0 rfl rfl 0 (by decide) (hts _ fl_RX4_7) (fun _ h9 => h9) rfl dX4_patch_52 ?_
        refine lv_sipush (v := nI 141) hx hb dX4_patch_55 (by decide) ?_
        refine lv_iload_n hx hb dX4_patch_58 rfl (lv_at hl 1 rfl) ?_
        refine nv_iadd hx hb dX4_patch_59 ?_
        refine lv_iload_n hx hb dX4_patch_60 rfl (lv_at hl 2 rfl) ?_
        refine nv_iast (D := D) (ws' := (wMd h a cI (upd (rwF (recR ρ sv (ρ 0))) (141 + (cl x)) (nI (cl y))) (kpN sv) (nF wv) (nF nw) (nF b) ln at0 wd hh)) hx hb hK hP hD hS 1 0 rfl rfl (k := 141 + (cl x)) (by omega) (by decide) rfl dX4_patch_61 (fun H locs hP hD hS => ?_)
        have eR : (upd (rwF (recR ρ sv (ρ 0))) (141 + (cl x)) (nI (cl y))) = (rwF (recR ρ sv (ptS (ρ 0) x (cl y + 1)))) := upd_recp (by omega)
        rw [eR] at hP hD
        have hP : va_P D vwCl (wMd h a cI (rwF (recR ρ sv (ptS (ρ 0) x (cl y + 1)))) (kpN sv) (nF wv) (nF nw) (nF b) ln at0 wd hh) H := hP
        have hD : va_D A (wMd h a cI (rwF (recR ρ sv (ptS (ρ 0) x (cl y + 1)))) (kpN sv) (nF wv) (nF nw) (nF b) ln at0 wd hh) := hD
        refine lv_aload_n hx hb dX4_patch_62 rfl (lv_at hl 0 rfl) ?_
        refine nv_callV [] [] hx hb hml hown hts k_RX4_68 (c_X4_patches l D cI cR h a ((recR ρ sv (ptS (ρ 0) x (cl y + 1)))) (kpN sv) wv nw b ln at0 wd hh (by rw [rec_0]; exact wf_pt hw hk2)) ⟨rfl, rfl, Nat.le_of_ble_eq_true rfl, Nat.le_of_ble_eq_true rfl⟩ hP hK 4 rfl rfl rfl rfl hl rfl (Nat.le_of_ble_eq_true rfl) dX4_patch_63 ⟨Nat.zero_le _, Nat.zero_le _⟩ ?_
        refine nv_top (pcN (ptS (ρ 0) x (cl y + 1))) (by rw [rec_0]) ?_
        have E0 : inB x (nA (ρ 0)) = true := zB_ne0 q_5
        have E1 : inB y (2 ^ ρ 0 1) = true := zB_ne0 q_16
        have E2 : okP (ρ 0) x = true := okP_1 (mt (ptF_m1 (hw.pt hk1)).mpr q_33)
        have hP : va_P D vwCl (wMd h a cI (rwF (cond (inB x (nA (ρ 0)) && inB y (2 ^ ρ 0 1) && okP (ρ 0) x) (recR ρ sv (ptS (ρ 0) x (cl y + 1))) ρ)) (cond (inB x (nA (ρ 0)) && inB y (2 ^ ρ 0 1) && okP (ρ 0) x) (kpN sv) sv) (nF wv) (nF nw) (nF b) ln at0 wd hh) H := by rw [E0, E1, E2]; exact hP
        have hD : va_D A (wMd h a cI (rwF (cond (inB x (nA (ρ 0)) && inB y (2 ^ ρ 0 1) && okP (ρ 0) x) (recR ρ sv (ptS (ρ 0) x (cl y + 1))) ρ)) (cond (inB x (nA (ρ 0)) && inB y (2 ^ ρ 0 1) && okP (ρ 0) x) (kpN sv) sv) (nF wv) (nF nw) (nF b) ln at0 wd hh) := by rw [E0, E1, E2]; exact hD
        exact mu_reti hx hb hr hlocks (by unfold aPatch; rw [E0, E1, E2] <;> rfl) hP hD hS dX4_patch_66
      · refine lv_aload_n hx hb dX4_patch_36 rfl (lv_at hl 0 rfl) ?_
        refine nv_callV [] [] hx hb hml hown hts k_RX4_68 (c_X4_patches l D cI cR h a ρ sv wv nw b ln at0 wd hh hw) ⟨rfl, rfl, Nat.le_of_ble_eq_true rfl, Nat.le_of_ble_eq_true rfl⟩ hP hK 4 rfl rfl rfl rfl hl rfl (Nat.le_of_ble_eq_true rfl) dX4_patch_37 ⟨Nat.zero_le _, Nat.zero_le _⟩ ?_
        refine lv_iconst (v := nI 4) hx hb dX4_patch_40 (by decide) ?_
        refine nv_icmp_ne (tgt := 47) hx hb dX4_patch_41 (by decide) (by omega) (by omega) (fun q_41 => ?_) (fun q_41 => ?_)
        · refine lv_aload_n hx hb dX4_patch_47 rfl (lv_at hl 0 rfl) ?_
          refine mu_call (ws' := (wMd h a cI (rwF (svR ρ sv)) (kpN sv) (nF wv) (nF nw) (nF b) ln at0 wd hh)) [0, 1, 2, 3, 4] [] [0, 1, 2, 3, 4] [] [] hx hb hml hown hts k_RX4_62 (fun sz => c_X4_saves l D cI cR h a ρ sv wv nw b ln at0 wd hh hs sz) ⟨rfl, rfl, Nat.le_of_ble_eq_true rfl, Nat.le_of_ble_eq_true rfl⟩ hP hD hS hA hK 4 rfl rfl rfl rfl rfl rfl rfl (by decide) rfl rfl rfl hl rfl (Nat.le_of_ble_eq_true rfl) dX4_patch_48 ⟨Nat.zero_le _, Nat.zero_le _⟩ (fun H locs hP hD hS => ?_)
          refine W.eq (g2 := F0 m 51 ls []) rfl ?_
          have eR : (rwF (svR ρ sv)) = (rwF (recR ρ sv (ρ 0))) := by rw [sv_rec]
          rw [eR] at hP hD
          have hP : va_P D vwCl (wMd h a cI (rwF (recR ρ sv (ρ 0))) (kpN sv) (nF wv) (nF nw) (nF b) ln at0 wd hh) H := hP
          have hD : va_D A (wMd h a cI (rwF (recR ρ sv (ρ 0))) (kpN sv) (nF wv) (nF nw) (nF b) ln at0 wd hh) := hD
          refine lv_aload_n hx hb dX4_patch_51 rfl (lv_at hl 0 rfl) ?_
          refine va_get (D := D) (ci := 4) (v := .ref (a 0)) (C := RX4) (T := TX4) (N := 9) hx hb hts inX4 hown hK hP 0 rfl rfl 0 (by decide) (hts _ fl_RX4_7) (fun _ h9 => h9) rfl dX4_patch_52 ?_
          refine lv_sipush (v := nI 141) hx hb dX4_patch_55 (by decide) ?_
          refine lv_iload_n hx hb dX4_patch_58 rfl (lv_at hl 1 rfl) ?_
          refine nv_iadd hx hb dX4_patch_59 ?_
          refine lv_iload_n hx hb dX4_patch_60 rfl (lv_at hl 2 rfl) ?_
          refine nv_iast (D := D) (ws' := (wMd h a cI (upd (rwF (recR ρ sv (ρ 0))) (141 + (cl x)) (nI (cl y))) (kpN sv) (nF wv) (nF nw) (nF b) ln at0 wd hh)) hx hb hK hP hD hS 1 0 rfl rfl (k := 141 + (cl x)) (by omega) (by decide) rfl dX4_patch_61 (fun H locs hP hD hS => ?_)
          have eR : (upd (rwF (recR ρ sv (ρ 0))) (141 + (cl x)) (nI (cl y))) = (rwF (recR ρ sv (ptS (ρ 0) x (cl y + 1)))) := upd_recp (by omega)
          rw [eR] at hP hD
          have hP : va_P D vwCl (wMd h a cI (rwF (recR ρ sv (ptS (ρ 0) x (cl y + 1)))) (kpN sv) (nF wv) (nF nw) (nF b) ln at0 wd hh) H := hP
          have hD : va_D A (wMd h a cI (rwF (recR ρ sv (ptS (ρ 0) x (cl y + 1)))) (kpN sv) (nF wv) (nF nw) (nF b) ln at0 wd hh) := hD
          refine lv_aload_n hx hb dX4_patch_62 rfl (lv_at hl 0 rfl) ?_
          refine nv_callV [] [] hx hb hml hown hts k_RX4_68 (c_X4_patches l D cI cR h a ((recR ρ sv (ptS (ρ 0) x (cl y + 1)))) (kpN sv) wv nw b ln at0 wd hh (by rw [rec_0]; exact wf_pt hw hk2)) ⟨rfl, rfl, Nat.le_of_ble_eq_true rfl, Nat.le_of_ble_eq_true rfl⟩ hP hK 4 rfl rfl rfl rfl hl rfl (Nat.le_of_ble_eq_true rfl) dX4_patch_63 ⟨Nat.zero_le _, Nat.zero_le _⟩ ?_
          refine nv_top (pcN (ptS (ρ 0) x (cl y + 1))) (by rw [rec_0]) ?_
          have E0 : inB x (nA (ρ 0)) = true := zB_ne0 q_5
          have E1 : inB y (2 ^ ρ 0 1) = true := zB_ne0 q_16
          have E2 : okP (ρ 0) x = true := okP_2 (by omega)
          have hP : va_P D vwCl (wMd h a cI (rwF (cond (inB x (nA (ρ 0)) && inB y (2 ^ ρ 0 1) && okP (ρ 0) x) (recR ρ sv (ptS (ρ 0) x (cl y + 1))) ρ)) (cond (inB x (nA (ρ 0)) && inB y (2 ^ ρ 0 1) && okP (ρ 0) x) (kpN sv) sv) (nF wv) (nF nw) (nF b) ln at0 wd hh) H := by rw [E0, E1, E2]; exact hP
          have hD : va_D A (wMd h a cI (rwF (cond (inB x (nA (ρ 0)) && inB y (2 ^ ρ 0 1) && okP (ρ 0) x) (recR ρ sv (ptS (ρ 0) x (cl y + 1))) ρ)) (cond (inB x (nA (ρ 0)) && inB y (2 ^ ρ 0 1) && okP (ρ 0) x) (kpN sv) sv) (nF wv) (nF nw) (nF b) ln at0 wd hh) := by rw [E0, E1, E2]; exact hD
          exact mu_reti hx hb hr hlocks (by unfold aPatch; rw [E0, E1, E2] <;> rfl) hP hD hS dX4_patch_66
        · refine lv_bipush (v := -5) hx hb dX4_patch_44 (by decide) ?_
          have E0 : inB x (nA (ρ 0)) = true := zB_ne0 q_5
          have E1 : inB y (2 ^ ρ 0 1) = true := zB_ne0 q_16
          have E2 : okP (ρ 0) x = false := okP_f ((ptF_m1 (hw.pt hk1)).mp q_33) (by omega)
          have hP : va_P D vwCl (wMd h a cI (rwF (cond (inB x (nA (ρ 0)) && inB y (2 ^ ρ 0 1) && okP (ρ 0) x) (recR ρ sv (ptS (ρ 0) x (cl y + 1))) ρ)) (cond (inB x (nA (ρ 0)) && inB y (2 ^ ρ 0 1) && okP (ρ 0) x) (kpN sv) sv) (nF wv) (nF nw) (nF b) ln at0 wd hh) H := by rw [E0, E1, E2]; exact hP
          have hD : va_D A (wMd h a cI (rwF (cond (inB x (nA (ρ 0)) && inB y (2 ^ ρ 0 1) && okP (ρ 0) x) (recR ρ sv (ptS (ρ 0) x (cl y + 1))) ρ)) (cond (inB x (nA (ρ 0)) && inB y (2 ^ ρ 0 1) && okP (ρ 0) x) (kpN sv) sv) (nF wv) (nF nw) (nF b) ln at0 wd hh) := by rw [E0, E1, E2]; exact hD
          exact mu_reti hx hb hr hlocks (by unfold aPatch; rw [E0, E1, E2] <;> rfl) hP hD hS dX4_patch_46
    · refine lv_bipush (v := -3) hx hb dX4_patch_19 (by decide) ?_
      have E0 : inB x (nA (ρ 0)) = true := zB_ne0 q_5
      have E1 : inB y (2 ^ ρ 0 1) = false := zB_eq0 q_16
      have hP : va_P D vwCl (wMd h a cI (rwF (cond (inB x (nA (ρ 0)) && inB y (2 ^ ρ 0 1) && okP (ρ 0) x) (recR ρ sv (ptS (ρ 0) x (cl y + 1))) ρ)) (cond (inB x (nA (ρ 0)) && inB y (2 ^ ρ 0 1) && okP (ρ 0) x) (kpN sv) sv) (nF wv) (nF nw) (nF b) ln at0 wd hh) H := by rw [E0, E1]; exact hP
      have hD : va_D A (wMd h a cI (rwF (cond (inB x (nA (ρ 0)) && inB y (2 ^ ρ 0 1) && okP (ρ 0) x) (recR ρ sv (ptS (ρ 0) x (cl y + 1))) ρ)) (cond (inB x (nA (ρ 0)) && inB y (2 ^ ρ 0 1) && okP (ρ 0) x) (kpN sv) sv) (nF wv) (nF nw) (nF b) ln at0 wd hh) := by rw [E0, E1]; exact hD
      exact mu_reti hx hb hr hlocks (by unfold aPatch; rw [E0, E1] <;> rfl) hP hD hS dX4_patch_21
  · refine lv_bipush (v := -2) hx hb dX4_patch_8 (by decide) ?_
    have E0 : inB x (nA (ρ 0)) = false := zB_eq0 q_5
    have hP : va_P D vwCl (wMd h a cI (rwF (cond (inB x (nA (ρ 0)) && inB y (2 ^ ρ 0 1) && okP (ρ 0) x) (recR ρ sv (ptS (ρ 0) x (cl y + 1))) ρ)) (cond (inB x (nA (ρ 0)) && inB y (2 ^ ρ 0 1) && okP (ρ 0) x) (kpN sv) sv) (nF wv) (nF nw) (nF b) ln at0 wd hh) H := by rw [E0]; exact hP
    have hD : va_D A (wMd h a cI (rwF (cond (inB x (nA (ρ 0)) && inB y (2 ^ ρ 0 1) && okP (ρ 0) x) (recR ρ sv (ptS (ρ 0) x (cl y + 1))) ρ)) (cond (inB x (nA (ρ 0)) && inB y (2 ^ ρ 0 1) && okP (ρ 0) x) (kpN sv) sv) (nF wv) (nF nw) (nF b) ln at0 wd hh) := by rw [E0]; exact hD
    exact mu_reti hx hb hr hlocks (by unfold aPatch; rw [E0] <;> rfl) hP hD hS dX4_patch_10
set_option maxHeartbeats 4000000 in
set_option maxRecDepth 100000 in
theorem c_X4_unpatch (l : Launch) (D : va_G) (cI cR : ClassId) (h : Nat) (a : Nat → Nat) (ρ : Nat → Nat → Nat) (sv : Nat) (wv : Nat → Nat) (nw : Nat → Nat) (b : Nat → Nat) (ln : Nat) (at0 : Nat) (wd : Nat) (hh : Int64) (x : Int32)  (hw : wf (ρ 0)) (hs : sv ≤ 5) (sz : Nat) : Met l yX4_unpatch (wsC yX4_unpatch cX4_unpatch 2 (some .int)) (rmK 2 44) (nPreM D (nTy cI cR) [.ref h, .int x] (wMd h a cI (rwF ρ) sv (nF wv) (nF nw) (nF b) ln at0 wd hh) sz) (QcM D (some (.int (aUnpatch (ρ 0) x))) (wMd h a cI (rwF (cond (inB x (nA (ρ 0)) && ρ 0 (141 + cl x) != 0) (recR ρ sv (ptS (ρ 0) x 0)) ρ)) (cond (inB x (nA (ρ 0)) && ρ 0 (141 + cl x) != 0) (kpN sv) sv) (nF wv) (nF nw) (nF b) ln at0 wd hh) (va_A (wMd h a cI (rwF ρ) sv (nF wv) (nF nw) (nF b) ln at0 wd hh) sz)) 0 0 (va_A (wMd h a cI (rwF ρ) sv (nF wv) (nF nw) (nF b) ln at0 wd hh) sz) := by
  refine met_mut (Qc := fun A => QcM D (some (.int (aUnpatch (ρ 0) x))) (wMd h a cI (rwF (cond (inB x (nA (ρ 0)) && ρ 0 (141 + cl x) != 0) (recR ρ sv (ptS (ρ 0) x 0)) ρ)) (cond (inB x (nA (ρ 0)) && ρ 0 (141 + cl x) != 0) (kpN sv) sv) (nF wv) (nF nw) (nF b) ln at0 wd hh) A) rfl (Nat.le_of_ble_eq_true rfl) ?_
  intro p e s m args below meth c ls A H locs hx hb hml hr hlocks hown hts hP hK hD hA hS hl
  have hl : lv_has ls 2 [(0, .ref h), (1, .int x)] := hl
  have hA41 := hw.w41
  have hA33 := hw.a33
  have hA48 := hw.a48
  obtain ⟨hR2, hR, hB1, hB, hSa, hSb, -⟩ := id hw
  have h1024 := p2_10 hB
  refine lv_aload_n hx hb dX4_unpatch_0 rfl (lv_at hl 0 rfl) ?_
  refine lv_iload_n hx hb dX4_unpatch_1 rfl (lv_at hl 1 rfl) ?_
  refine nv_callV [.int x] [] hx hb hml hown hts k_RX4_75 (c_X4_isAddress l D cI cR h a ρ sv wv nw b ln at0 wd hh x hw) ⟨rfl, rfl, Nat.le_of_ble_eq_true rfl, Nat.le_of_ble_eq_true rfl⟩ hP hK 4 rfl rfl rfl rfl hl rfl (Nat.le_of_ble_eq_true rfl) dX4_unpatch_2 ⟨Nat.zero_le _, Nat.zero_le _⟩ ?_
  refine lv_if_ne (tgt := 11) hx hb dX4_unpatch_5 (by decide) (fun q_5 => ?_) (fun q_5 => ?_)
  · obtain ⟨hk1, hx1⟩ := inB_cl (by omega) (zB_ne0 q_5)
    have hl := lv_repl [(0, .ref h), (1, .int (nI (cl x)))] 1 rfl (congrArg (fun z : Int32 => Value.int z) (show x = nI (cl x) from hx1)) rfl hl
    refine lv_aload_n hx hb dX4_unpatch_11 rfl (lv_at hl 0 rfl) ?_
    refine va_get (D := D) (ci := 4) (v := .ref (a 0)) (C := RX4) (T := TX4) (N := 9) hx hb hts inX4 hown hK hP 0 rfl rfl 0 (by decide) (hts _ fl_RX4_7) (fun _ h9 => h9) rfl dX4_unpatch_12 ?_
    refine lv_sipush (v := nI 141) hx hb dX4_unpatch_15 (by decide) ?_
    refine lv_iload_n hx hb dX4_unpatch_18 rfl (lv_at hl 1 rfl) ?_
    refine nv_iadd hx hb dX4_unpatch_19 ?_
    refine nv_iald (D := D) (v := ptF (ρ 0) ((cl x))) hx hb hK hP 1 0 rfl rfl (k := 141 + (cl x)) (by omega) (by decide) (rw_pt (by omega)) dX4_unpatch_20 ?_
    refine lv_iconst (v := -1) hx hb dX4_unpatch_21 (by decide) ?_
    refine lv_icmp_ne (tgt := 28) hx hb dX4_unpatch_22 (by decide) (fun q_22 => ?_) (fun q_22 => ?_)
    · refine lv_aload_n hx hb dX4_unpatch_28 rfl (lv_at hl 0 rfl) ?_
      refine mu_call (ws' := (wMd h a cI (rwF (svR ρ sv)) (kpN sv) (nF wv) (nF nw) (nF b) ln at0 wd hh)) [0, 1, 2, 3, 4] [] [0, 1, 2, 3, 4] [] [] hx hb hml hown hts k_RX4_62 (fun sz => c_X4_saves l D cI cR h a ρ sv wv nw b ln at0 wd hh hs sz) ⟨rfl, rfl, Nat.le_of_ble_eq_true rfl, Nat.le_of_ble_eq_true rfl⟩ hP hD hS hA hK 4 rfl rfl rfl rfl rfl rfl rfl (by decide) rfl rfl rfl hl rfl (Nat.le_of_ble_eq_true rfl) dX4_unpatch_29 ⟨Nat.zero_le _, Nat.zero_le _⟩ (fun H locs hP hD hS => ?_)
      refine W.eq (g2 := F0 m 32 ls []) rfl ?_
      have eR : (rwF (svR ρ sv)) = (rwF (recR ρ sv (ρ 0))) := by rw [sv_rec]
      rw [eR] at hP hD
      have hP : va_P D vwCl (wMd h a cI (rwF (recR ρ sv (ρ 0))) (kpN sv) (nF wv) (nF nw) (nF b) ln at0 wd hh) H := hP
      have hD : va_D A (wMd h a cI (rwF (recR ρ sv (ρ 0))) (kpN sv) (nF wv) (nF nw) (nF b) ln at0 wd hh) := hD
      refine lv_aload_n hx hb dX4_unpatch_32 rfl (lv_at hl 0 rfl) ?_
      refine va_get (D := D) (ci := 4) (v := .ref (a 0)) (C := RX4) (T := TX4) (N := 9) hx hb hts inX4 hown hK hP 0 rfl rfl 0 (by decide) (hts _ fl_RX4_7) (fun _ h9 => h9) rfl dX4_unpatch_33 ?_
      refine lv_sipush (v := nI 141) hx hb dX4_unpatch_36 (by decide) ?_
      refine lv_iload_n hx hb dX4_unpatch_39 rfl (lv_at hl 1 rfl) ?_
      refine nv_iadd hx hb dX4_unpatch_40 ?_
      refine lv_iconst (v := -1) hx hb dX4_unpatch_41 (by decide) ?_
      refine nv_iast (D := D) (ws' := (wMd h a cI (upd (rwF (recR ρ sv (ρ 0))) (141 + (cl x)) (-1)) (kpN sv) (nF wv) (nF nw) (nF b) ln at0 wd hh)) hx hb hK hP hD hS 1 0 rfl rfl (k := 141 + (cl x)) (by omega) (by decide) rfl dX4_unpatch_42 (fun H locs hP hD hS => ?_)
      have eR : (upd (rwF (recR ρ sv (ρ 0))) (141 + (cl x)) (-1)) = (rwF (recR ρ sv (ptS (ρ 0) x 0))) := upd_recm (by omega)
      rw [eR] at hP hD
      have hP : va_P D vwCl (wMd h a cI (rwF (recR ρ sv (ptS (ρ 0) x 0))) (kpN sv) (nF wv) (nF nw) (nF b) ln at0 wd hh) H := hP
      have hD : va_D A (wMd h a cI (rwF (recR ρ sv (ptS (ρ 0) x 0))) (kpN sv) (nF wv) (nF nw) (nF b) ln at0 wd hh) := hD
      refine lv_aload_n hx hb dX4_unpatch_43 rfl (lv_at hl 0 rfl) ?_
      refine nv_callV [] [] hx hb hml hown hts k_RX4_68 (c_X4_patches l D cI cR h a ((recR ρ sv (ptS (ρ 0) x 0))) (kpN sv) wv nw b ln at0 wd hh (by rw [rec_0]; exact wf_pt hw (Nat.zero_le _))) ⟨rfl, rfl, Nat.le_of_ble_eq_true rfl, Nat.le_of_ble_eq_true rfl⟩ hP hK 4 rfl rfl rfl rfl hl rfl (Nat.le_of_ble_eq_true rfl) dX4_unpatch_44 ⟨Nat.zero_le _, Nat.zero_le _⟩ ?_
      refine nv_top (pcN (ptS (ρ 0) x 0)) (by rw [rec_0]) ?_
      have E0 : inB x (nA (ρ 0)) = true := zB_ne0 q_5
      have E1 : (ρ 0 (141 + cl x) != 0) = true := bne_iff_ne.mpr (mt (ptF_m1 (hw.pt hk1)).mpr q_22)
      have hP : va_P D vwCl (wMd h a cI (rwF (cond (inB x (nA (ρ 0)) && ρ 0 (141 + cl x) != 0) (recR ρ sv (ptS (ρ 0) x 0)) ρ)) (cond (inB x (nA (ρ 0)) && ρ 0 (141 + cl x) != 0) (kpN sv) sv) (nF wv) (nF nw) (nF b) ln at0 wd hh) H := by rw [E0, E1]; exact hP
      have hD : va_D A (wMd h a cI (rwF (cond (inB x (nA (ρ 0)) && ρ 0 (141 + cl x) != 0) (recR ρ sv (ptS (ρ 0) x 0)) ρ)) (cond (inB x (nA (ρ 0)) && ρ 0 (141 + cl x) != 0) (kpN sv) sv) (nF wv) (nF nw) (nF b) ln at0 wd hh) := by rw [E0, E1]; exact hD
      exact mu_reti hx hb hr hlocks (by unfold aUnpatch; rw [E0, E1] <;> rfl) hP hD hS dX4_unpatch_47
    · refine lv_bipush (v := -4) hx hb dX4_unpatch_25 (by decide) ?_
      have E0 : inB x (nA (ρ 0)) = true := zB_ne0 q_5
      have E1 : (ρ 0 (141 + cl x) != 0) = false := by rw [(ptF_m1 (hw.pt hk1)).mp q_22]; rfl
      have hP : va_P D vwCl (wMd h a cI (rwF (cond (inB x (nA (ρ 0)) && ρ 0 (141 + cl x) != 0) (recR ρ sv (ptS (ρ 0) x 0)) ρ)) (cond (inB x (nA (ρ 0)) && ρ 0 (141 + cl x) != 0) (kpN sv) sv) (nF wv) (nF nw) (nF b) ln at0 wd hh) H := by rw [E0, E1]; exact hP
      have hD : va_D A (wMd h a cI (rwF (cond (inB x (nA (ρ 0)) && ρ 0 (141 + cl x) != 0) (recR ρ sv (ptS (ρ 0) x 0)) ρ)) (cond (inB x (nA (ρ 0)) && ρ 0 (141 + cl x) != 0) (kpN sv) sv) (nF wv) (nF nw) (nF b) ln at0 wd hh) := by rw [E0, E1]; exact hD
      exact mu_reti hx hb hr hlocks (by unfold aUnpatch; rw [E0, E1] <;> rfl) hP hD hS dX4_unpatch_27
  · refine lv_bipush (v := -2) hx hb dX4_unpatch_8 (by decide) ?_
    have E0 : inB x (nA (ρ 0)) = false := zB_eq0 q_5
    have hP : va_P D vwCl (wMd h a cI (rwF (cond (inB x (nA (ρ 0)) && ρ 0 (141 + cl x) != 0) (recR ρ sv (ptS (ρ 0) x 0)) ρ)) (cond (inB x (nA (ρ 0)) && ρ 0 (141 + cl x) != 0) (kpN sv) sv) (nF wv) (nF nw) (nF b) ln at0 wd hh) H := by rw [E0]; exact hP
    have hD : va_D A (wMd h a cI (rwF (cond (inB x (nA (ρ 0)) && ρ 0 (141 + cl x) != 0) (recR ρ sv (ptS (ρ 0) x 0)) ρ)) (cond (inB x (nA (ρ 0)) && ρ 0 (141 + cl x) != 0) (kpN sv) sv) (nF wv) (nF nw) (nF b) ln at0 wd hh) := by rw [E0]; exact hD
    exact mu_reti hx hb hr hlocks (by unfold aUnpatch; rw [E0] <;> rfl) hP hD hS dX4_unpatch_10
set_option maxHeartbeats 4000000 in
set_option maxRecDepth 100000 in
theorem c_X4_undo (l : Launch) (D : va_G) (cI cR : ClassId) (h : Nat) (a : Nat → Nat) (ρ : Nat → Nat → Nat) (sv : Nat) (wv : Nat → Nat) (nw : Nat → Nat) (b : Nat → Nat) (ln : Nat) (at0 : Nat) (wd : Nat) (hh : Int64)   (hw : wf (ρ 0)) (hs : sv ≤ 5) (sz : Nat) : Met l yX4_undo (wsC yX4_undo cX4_undo 1 (some .int)) (rmK 1 23) (nPreM D (nTy cI cR) [.ref h] (wMd h a cI (rwF ρ) sv (nF wv) (nF nw) (nF b) ln at0 wd hh) sz) (QcM D (some (.int (cond (sv == 0) (-4) (nI (sv - 1))))) (wMd h a cI (rwF (cond (sv == 0) ρ (va_up ρ 0 (ρ sv)))) (cond (sv == 0) sv (sv - 1)) (nF wv) (nF nw) (nF b) ln at0 wd hh) (va_A (wMd h a cI (rwF ρ) sv (nF wv) (nF nw) (nF b) ln at0 wd hh) sz)) 0 0 (va_A (wMd h a cI (rwF ρ) sv (nF wv) (nF nw) (nF b) ln at0 wd hh) sz) := by
  refine met_mut (Qc := fun A => QcM D (some (.int (cond (sv == 0) (-4) (nI (sv - 1))))) (wMd h a cI (rwF (cond (sv == 0) ρ (va_up ρ 0 (ρ sv)))) (cond (sv == 0) sv (sv - 1)) (nF wv) (nF nw) (nF b) ln at0 wd hh) A) rfl (Nat.le_of_ble_eq_true rfl) ?_
  intro p e s m args below meth c ls A H locs hx hb hml hr hlocks hown hts hP hK hD hA hS hl
  have hl : lv_has ls 1 [(0, .ref h)] := hl
  have hA41 := hw.w41
  have hA33 := hw.a33
  have hA48 := hw.a48
  obtain ⟨hR2, hR, hB1, hB, hSa, hSb, -⟩ := id hw
  have h1024 := p2_10 hB
  refine lv_aload_n hx hb dX4_undo_0 rfl (lv_at hl 0 rfl) ?_
  refine va_get (D := D) (ci := 4) (v := .int (nI sv)) (C := RX4) (T := TX4) (N := 9) hx hb hts inX4 hown hK hP 0 rfl rfl 1 (by decide) (hts _ fl_RX4_26) (fun _ h9 => h9) rfl dX4_undo_1 ?_
  refine nv_if_ne (tgt := 10) hx hb dX4_undo_4 (by decide) (by omega) (fun q_4 => ?_) (fun q_4 => ?_)
  · refine lv_aload_n hx hb dX4_undo_10 rfl (lv_at hl 0 rfl) ?_
    refine lv_aload_n hx hb dX4_undo_11 rfl (lv_at hl 0 rfl) ?_
    refine va_get (D := D) (ci := 4) (v := .int (nI sv)) (C := RX4) (T := TX4) (N := 9) hx hb hts inX4 hown hK hP 0 rfl rfl 1 (by decide) (hts _ fl_RX4_26) (fun _ h9 => h9) rfl dX4_undo_12 ?_
    refine lv_iconst (v := nI 0) hx hb dX4_undo_15 (by decide) ?_
    refine mu_call (ws' := (wMd h a cI (rwF (va_up ρ 0 (ρ sv))) sv (nF wv) (nF nw) (nF b) ln at0 wd hh)) [0, 1, 2, 3, 4] [] [0, 1, 2, 3, 4] [.int (nI sv), .int (nI 0)] [] hx hb hml hown hts k_RX4_30 (fun sz => c_X4_copies l D cI cR h a ρ sv wv nw b ln at0 wd hh sv 0 (by omega) (by omega) sz) ⟨rfl, rfl, Nat.le_of_ble_eq_true rfl, Nat.le_of_ble_eq_true rfl⟩ hP hD hS hA hK 4 rfl rfl rfl rfl rfl rfl rfl (by decide) rfl rfl rfl hl rfl (Nat.le_of_ble_eq_true rfl) dX4_undo_16 ⟨Nat.zero_le _, Nat.zero_le _⟩ (fun H locs hP hD hS => ?_)
    refine W.eq (g2 := F0 m 19 ls []) rfl ?_
    refine lv_aload_n hx hb dX4_undo_19 rfl (lv_at hl 0 rfl) ?_
    refine lv_dup hx hb dX4_undo_20 rfl ?_
    refine va_get (D := D) (ci := 4) (v := .int (nI sv)) (C := RX4) (T := TX4) (N := 9) hx hb hts inX4 hown hK hP 0 rfl rfl 1 (by decide) (hts _ fl_RX4_26) (fun _ h9 => h9) rfl dX4_undo_21 ?_
    refine lv_iconst (v := nI 1) hx hb dX4_undo_24 (by decide) ?_
    refine nv_isub hx hb dX4_undo_25 (by omega) ?_
    refine va_put (D := D) (ci := 4) (v := .int (nI (sv - 1))) (ty := .int) (C := RX4) (T := TX4) (N := 9) hx hb hts inX4 tyX4 tyX4_ok nmX4 hown hK hP hD hS 0 rfl rfl 1 (by decide) (hts _ fl_RX4_26) (fun _ h9 => h9) rfl (by decide +kernel) rfl rfl (Nat.le_of_ble_eq_true rfl) dX4_undo_26 (fun H locs hP hD hS => ?_)
    have hP : va_P D vwCl (wMd h a cI (rwF (va_up ρ 0 (ρ sv))) (sv - 1) (nF wv) (nF nw) (nF b) ln at0 wd hh) H := hP
    have hD : va_D A (wMd h a cI (rwF (va_up ρ 0 (ρ sv))) (sv - 1) (nF wv) (nF nw) (nF b) ln at0 wd hh) := hD
    refine lv_aload_n hx hb dX4_undo_29 rfl (lv_at hl 0 rfl) ?_
    refine va_get (D := D) (ci := 4) (v := .int (nI (sv - 1))) (C := RX4) (T := TX4) (N := 9) hx hb hts inX4 hown hK hP 0 rfl rfl 1 (by decide) (hts _ fl_RX4_26) (fun _ h9 => h9) rfl dX4_undo_30 ?_
    have E0 : (sv == 0) = false := beq_eq_false_iff_ne.mpr q_4
    have hP : va_P D vwCl (wMd h a cI (rwF (cond (sv == 0) ρ (va_up ρ 0 (ρ sv)))) (cond (sv == 0) sv (sv - 1)) (nF wv) (nF nw) (nF b) ln at0 wd hh) H := by rw [E0]; exact hP
    have hD : va_D A (wMd h a cI (rwF (cond (sv == 0) ρ (va_up ρ 0 (ρ sv)))) (cond (sv == 0) sv (sv - 1)) (nF wv) (nF nw) (nF b) ln at0 wd hh) := by rw [E0]; exact hD
    exact mu_reti hx hb hr hlocks (by rw [E0]; rfl) hP hD hS dX4_undo_33
  · refine lv_bipush (v := -4) hx hb dX4_undo_7 (by decide) ?_
    have E0 : (sv == 0) = true := by rw [q_4]; rfl
    have hP : va_P D vwCl (wMd h a cI (rwF (cond (sv == 0) ρ (va_up ρ 0 (ρ sv)))) (cond (sv == 0) sv (sv - 1)) (nF wv) (nF nw) (nF b) ln at0 wd hh) H := by rw [E0]; exact hP
    have hD : va_D A (wMd h a cI (rwF (cond (sv == 0) ρ (va_up ρ 0 (ρ sv)))) (cond (sv == 0) sv (sv - 1)) (nF wv) (nF nw) (nF b) ln at0 wd hh) := by rw [E0]; exact hD
    exact mu_reti hx hb hr hlocks (by rw [E0]; rfl) hP hD hS dX4_undo_9
set_option maxHeartbeats 4000000 in
set_option maxRecDepth 100000 in
theorem c_X4_type (l : Launch) (D : va_G) (cI cR : ClassId) (h : Nat) (a : Nat → Nat) (ρ : Nat → Nat → Nat) (sv : Nat) (wv : Nat → Nat) (nw : Nat → Nat) (b : Nat → Nat) (ln : Nat) (at0 : Nat) (wd : Nat) (hh : Int64) (x : Int32)  (hw : wf (ρ 0)) (hln : ln ≤ 100) (sz : Nat) : Met l yX4_type (wsC yX4_type cX4_type 2 (some .int)) (rmK 1 22) (nPreM D (nTy cI cR) [.ref h, .int x] (wMd h a cI (rwF ρ) sv (nF wv) (nF nw) (nF b) ln at0 wd hh) sz) (QcM D (some (.int (cond (inB x 256) (cond (ln == 100) (-5) (nI (ln + 1))) (-3)))) (wMd h a cI (rwF ρ) sv (nF wv) (nF nw) (nF (cond (inB x 256 && !(ln == 100)) (va_up b ln (cl x)) b)) (cond (inB x 256 && !(ln == 100)) (ln + 1) ln) at0 wd hh) (va_A (wMd h a cI (rwF ρ) sv (nF wv) (nF nw) (nF b) ln at0 wd hh) sz)) 0 0 (va_A (wMd h a cI (rwF ρ) sv (nF wv) (nF nw) (nF b) ln at0 wd hh) sz) := by
  refine met_mut (Qc := fun A => QcM D (some (.int (cond (inB x 256) (cond (ln == 100) (-5) (nI (ln + 1))) (-3)))) (wMd h a cI (rwF ρ) sv (nF wv) (nF nw) (nF (cond (inB x 256 && !(ln == 100)) (va_up b ln (cl x)) b)) (cond (inB x 256 && !(ln == 100)) (ln + 1) ln) at0 wd hh) A) rfl (Nat.le_of_ble_eq_true rfl) ?_
  intro p e s m args below meth c ls A H locs hx hb hml hr hlocks hown hts hP hK hD hA hS hl
  have hl : lv_has ls 2 [(0, .ref h), (1, .int x)] := hl
  have hA41 := hw.w41
  have hA33 := hw.a33
  have hA48 := hw.a48
  obtain ⟨hR2, hR, hB1, hB, hSa, hSb, -⟩ := id hw
  have h1024 := p2_10 hB
  refine lv_iload_n hx hb dX4_type_0 rfl (lv_at hl 1 rfl) ?_
  refine lv_iconst (v := nI 0) hx hb dX4_type_1 (by decide) ?_
  refine lv_sipush (v := nI 255) hx hb dX4_type_2 (by decide) ?_
  refine nv_callS [.int x, .int (nI 0), .int (nI 255)] [] hx hb hml hown hts k_RX4_34 (c_X4_in l D cI cR x 0 255 (by omega) (by omega)) ⟨rfl, rfl, Nat.le_of_ble_eq_true rfl, Nat.le_of_ble_eq_true rfl⟩ (va_P_nil) hK rfl hl rfl (Nat.le_of_ble_eq_true rfl) dX4_type_5 ⟨Nat.zero_le _, Nat.zero_le _⟩ ?_
  refine lv_if_ne (tgt := 14) hx hb dX4_type_8 (by decide) (fun q_8 => ?_) (fun q_8 => ?_)
  · obtain ⟨hk1, hx1⟩ := inB_cl (by decide) ((btw_inB (n := 256) (by decide)).symm.trans (zB_ne0 q_8))
    have hl := lv_repl [(0, .ref h), (1, .int (nI (cl x)))] 1 rfl (congrArg (fun z : Int32 => Value.int z) (show x = nI (cl x) from hx1)) rfl hl
    refine lv_aload_n hx hb dX4_type_14 rfl (lv_at hl 0 rfl) ?_
    refine va_get (D := D) (ci := 4) (v := .int (nI ln)) (C := RX4) (T := TX4) (N := 9) hx hb hts inX4 hown hK hP 0 rfl rfl 5 (by decide) (hts _ fl_RX4_109) (fun _ h9 => h9) rfl dX4_type_15 ?_
    refine lv_bipush (v := nI 100) hx hb dX4_type_18 (by decide) ?_
    refine nv_icmp_ne (tgt := 26) hx hb dX4_type_20 (by decide) (by omega) (by omega) (fun q_20 => ?_) (fun q_20 => ?_)
    · refine lv_aload_n hx hb dX4_type_26 rfl (lv_at hl 0 rfl) ?_
      refine va_get (D := D) (ci := 4) (v := .ref (a 3)) (C := RX4) (T := TX4) (N := 9) hx hb hts inX4 hown hK hP 0 rfl rfl 4 (by decide) (hts _ fl_RX4_19) (fun _ h9 => h9) rfl dX4_type_27 ?_
      refine lv_aload_n hx hb dX4_type_30 rfl (lv_at hl 0 rfl) ?_
      refine va_get (D := D) (ci := 4) (v := .int (nI ln)) (C := RX4) (T := TX4) (N := 9) hx hb hts inX4 hown hK hP 0 rfl rfl 5 (by decide) (hts _ fl_RX4_109) (fun _ h9 => h9) rfl dX4_type_31 ?_
      refine lv_iload_n hx hb dX4_type_34 rfl (lv_at hl 1 rfl) ?_
      refine nv_iast (D := D) (ws' := (wMd h a cI (rwF ρ) sv (nF wv) (nF nw) (upd (nF b) ln (nI (cl x))) ln at0 wd hh)) hx hb hK hP hD hS 4 0 rfl rfl (k := ln) (by omega) (by decide) rfl dX4_type_35 (fun H locs hP hD hS => ?_)
      have eR : (upd (nF b) ln (nI (cl x))) = (nF (va_up b ln (cl x))) := upd_nF _ _ _
      rw [eR] at hP hD
      have hP : va_P D vwCl (wMd h a cI (rwF ρ) sv (nF wv) (nF nw) (nF (va_up b ln (cl x))) ln at0 wd hh) H := hP
      have hD : va_D A (wMd h a cI (rwF ρ) sv (nF wv) (nF nw) (nF (va_up b ln (cl x))) ln at0 wd hh) := hD
      refine lv_aload_n hx hb dX4_type_36 rfl (lv_at hl 0 rfl) ?_
      refine lv_dup hx hb dX4_type_37 rfl ?_
      refine va_get (D := D) (ci := 4) (v := .int (nI ln)) (C := RX4) (T := TX4) (N := 9) hx hb hts inX4 hown hK hP 0 rfl rfl 5 (by decide) (hts _ fl_RX4_109) (fun _ h9 => h9) rfl dX4_type_38 ?_
      refine lv_iconst (v := nI 1) hx hb dX4_type_41 (by decide) ?_
      refine nv_iadd hx hb dX4_type_42 ?_
      refine va_put (D := D) (ci := 4) (v := .int (nI (ln + 1))) (ty := .int) (C := RX4) (T := TX4) (N := 9) hx hb hts inX4 tyX4 tyX4_ok nmX4 hown hK hP hD hS 0 rfl rfl 5 (by decide) (hts _ fl_RX4_109) (fun _ h9 => h9) rfl (by decide +kernel) rfl rfl (Nat.le_of_ble_eq_true rfl) dX4_type_43 (fun H locs hP hD hS => ?_)
      have hP : va_P D vwCl (wMd h a cI (rwF ρ) sv (nF wv) (nF nw) (nF (va_up b ln (cl x))) (ln + 1) at0 wd hh) H := hP
      have hD : va_D A (wMd h a cI (rwF ρ) sv (nF wv) (nF nw) (nF (va_up b ln (cl x))) (ln + 1) at0 wd hh) := hD
      refine lv_aload_n hx hb dX4_type_46 rfl (lv_at hl 0 rfl) ?_
      refine va_get (D := D) (ci := 4) (v := .int (nI (ln + 1))) (C := RX4) (T := TX4) (N := 9) hx hb hts inX4 hown hK hP 0 rfl rfl 5 (by decide) (hts _ fl_RX4_109) (fun _ h9 => h9) rfl dX4_type_47 ?_
      have E0 : inB x 256 = true := (btw_inB (n := 256) (by decide)).symm.trans (zB_ne0 q_8)
      have E1 : (ln == 100) = false := beq_eq_false_iff_ne.mpr q_20
      have hP : va_P D vwCl (wMd h a cI (rwF ρ) sv (nF wv) (nF nw) (nF (cond (inB x 256 && !(ln == 100)) (va_up b ln (cl x)) b)) (cond (inB x 256 && !(ln == 100)) (ln + 1) ln) at0 wd hh) H := by rw [E0, E1]; exact hP
      have hD : va_D A (wMd h a cI (rwF ρ) sv (nF wv) (nF nw) (nF (cond (inB x 256 && !(ln == 100)) (va_up b ln (cl x)) b)) (cond (inB x 256 && !(ln == 100)) (ln + 1) ln) at0 wd hh) := by rw [E0, E1]; exact hD
      exact mu_reti hx hb hr hlocks (by rw [E0, E1]; rfl) hP hD hS dX4_type_50
    · refine lv_bipush (v := -5) hx hb dX4_type_23 (by decide) ?_
      have E0 : inB x 256 = true := (btw_inB (n := 256) (by decide)).symm.trans (zB_ne0 q_8)
      have E1 : (ln == 100) = true := by rw [q_20]; rfl
      have hP : va_P D vwCl (wMd h a cI (rwF ρ) sv (nF wv) (nF nw) (nF (cond (inB x 256 && !(ln == 100)) (va_up b ln (cl x)) b)) (cond (inB x 256 && !(ln == 100)) (ln + 1) ln) at0 wd hh) H := by rw [E0, E1]; exact hP
      have hD : va_D A (wMd h a cI (rwF ρ) sv (nF wv) (nF nw) (nF (cond (inB x 256 && !(ln == 100)) (va_up b ln (cl x)) b)) (cond (inB x 256 && !(ln == 100)) (ln + 1) ln) at0 wd hh) := by rw [E0, E1]; exact hD
      exact mu_reti hx hb hr hlocks (by rw [E0, E1]; rfl) hP hD hS dX4_type_25
  · refine lv_bipush (v := -3) hx hb dX4_type_11 (by decide) ?_
    have E0 : inB x 256 = false := (btw_inB (n := 256) (by decide)).symm.trans (zB_eq0 q_8)
    have hP : va_P D vwCl (wMd h a cI (rwF ρ) sv (nF wv) (nF nw) (nF (cond (inB x 256 && !(ln == 100)) (va_up b ln (cl x)) b)) (cond (inB x 256 && !(ln == 100)) (ln + 1) ln) at0 wd hh) H := by rw [E0]; exact hP
    have hD : va_D A (wMd h a cI (rwF ρ) sv (nF wv) (nF nw) (nF (cond (inB x 256 && !(ln == 100)) (va_up b ln (cl x)) b)) (cond (inB x 256 && !(ln == 100)) (ln + 1) ln) at0 wd hh) := by rw [E0]; exact hD
    exact mu_reti hx hb hr hlocks (by rw [E0]; rfl) hP hD hS dX4_type_13
set_option maxHeartbeats 4000000 in
set_option maxRecDepth 100000 in
theorem c_X4_clearText (l : Launch) (D : va_G) (cI cR : ClassId) (h : Nat) (a : Nat → Nat) (ρ : Nat → Nat → Nat) (sv : Nat) (wv : Nat → Nat) (nw : Nat → Nat) (b : Nat → Nat) (ln : Nat) (at0 : Nat) (wd : Nat) (hh : Int64)   (hw : wf (ρ 0)) (sz : Nat) : Met l yX4_clearText (wsC yX4_clearText cX4_clearText 2 (some .int)) (rmK 0 0) (nPreM D (nTy cI cR) [.ref h] (wMd h a cI (rwF ρ) sv (nF wv) (nF nw) (nF b) ln at0 wd hh) sz) (QcM D (some (.int (nI (ln)))) (wMd h a cI (rwF ρ) sv (nF wv) (nF nw) (nF b) 0 at0 wd hh) (va_A (wMd h a cI (rwF ρ) sv (nF wv) (nF nw) (nF b) ln at0 wd hh) sz)) 0 0 (va_A (wMd h a cI (rwF ρ) sv (nF wv) (nF nw) (nF b) ln at0 wd hh) sz) := by
  refine met_mut (Qc := fun A => QcM D (some (.int (nI (ln)))) (wMd h a cI (rwF ρ) sv (nF wv) (nF nw) (nF b) 0 at0 wd hh) A) rfl (Nat.le_of_ble_eq_true rfl) ?_
  intro p e s m args below meth c ls A H locs hx hb hml hr hlocks hown hts hP hK hD hA hS hl
  have hl : lv_has ls 2 [(0, .ref h)] := hl
  have hA41 := hw.w41
  have hA33 := hw.a33
  have hA48 := hw.a48
  obtain ⟨hR2, hR, hB1, hB, hSa, hSb, -⟩ := id hw
  have h1024 := p2_10 hB
  refine lv_aload_n hx hb dX4_clearText_0 rfl (lv_at hl 0 rfl) ?_
  refine va_get (D := D) (ci := 4) (v := .int (nI ln)) (C := RX4) (T := TX4) (N := 9) hx hb hts inX4 hown hK hP 0 rfl rfl 5 (by decide) (hts _ fl_RX4_109) (fun _ h9 => h9) rfl dX4_clearText_1 ?_
  refine lv_istore_n (lv' := [(1, .int (nI ln)), (0, .ref h)]) hx hb dX4_clearText_4 rfl hl (by decide) rfl (fun ls hl => ?_)
  refine lv_aload_n hx hb dX4_clearText_5 rfl (lv_at hl 1 rfl) ?_
  refine lv_iconst (v := nI 0) hx hb dX4_clearText_6 (by decide) ?_
  refine va_put (D := D) (ci := 4) (v := .int (nI 0)) (ty := .int) (C := RX4) (T := TX4) (N := 9) hx hb hts inX4 tyX4 tyX4_ok nmX4 hown hK hP hD hS 0 rfl rfl 5 (by decide) (hts _ fl_RX4_109) (fun _ h9 => h9) rfl (by decide +kernel) rfl rfl (Nat.le_of_ble_eq_true rfl) dX4_clearText_7 (fun H locs hP hD hS => ?_)
  have hP : va_P D vwCl (wMd h a cI (rwF ρ) sv (nF wv) (nF nw) (nF b) 0 at0 wd hh) H := hP
  have hD : va_D A (wMd h a cI (rwF ρ) sv (nF wv) (nF nw) (nF b) 0 at0 wd hh) := hD
  refine lv_iload_n hx hb dX4_clearText_10 rfl (lv_at hl 0 rfl) ?_
  exact mu_reti hx hb hr hlocks (rfl) hP hD hS dX4_clearText_11
