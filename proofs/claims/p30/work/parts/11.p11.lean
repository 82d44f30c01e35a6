set_option maxHeartbeats 4000000 in
set_option maxRecDepth 100000 in
theorem c_J6_bitCount_0f7a4 (l : Launch) (D : va_G) (cI cR : ClassId)  (x : Nat)  (h1 : x < 65536) : MetR l yJ6_bitCount_0f7a4 cJ6_bitCount_0f7a4 1 (some .int) (rmK 0 0) (nPre D (nTy cI cR) [.int (nI x)] []) (nI (pop x)) := by
  refine met_read rfl (Nat.le_of_ble_eq_true rfl) ?_
  intro p e s m args below meth c ls hx hb hml hr hlocks hown hts hP hK hl
  have hl : lv_has ls 1 [(0, .int (nI x))] := hl
  have k1 : x >>> 1 ≤ x := by rw [Nat.shiftRight_eq_div_pow]; exact Nat.div_le_self _ _
  have k2 : (x >>> 1 &&& 1431655765) ≤ x := Nat.le_trans Nat.and_le_left k1
  have t1 : bc1 x ≤ 65536 := by unfold bc1; omega
  have t2 : bc2 (bc1 x) ≤ 2 * 65536 := by unfold bc2; have := @Nat.and_le_left (bc1 x) 858993459; have := @Nat.and_le_left (bc1 x >>> 2) 858993459; have : bc1 x >>> 2 ≤ bc1 x := by rw [Nat.shiftRight_eq_div_pow]; exact Nat.div_le_self _ _
                                          omega
  have t3 : bc3 (bc2 (bc1 x)) ≤ 4 * 65536 := by unfold bc3; have := @Nat.and_le_left (bc2 (bc1 x) + bc2 (bc1 x) >>> 4) 252645135; have : bc2 (bc1 x) >>> 4 ≤ bc2 (bc1 x) := by rw [Nat.shiftRight_eq_div_pow]; exact Nat.div_le_self _ _
                                                omega
  have t4 : bc4 (bc3 (bc2 (bc1 x))) ≤ 8 * 65536 := by unfold bc4; have : bc3 (bc2 (bc1 x)) >>> 8 ≤ bc3 (bc2 (bc1 x)) := by rw [Nat.shiftRight_eq_div_pow]; exact Nat.div_le_self _ _
                                                      omega
  refine lv_iload_n hx hb dJ6_bitCount_0f7a4_0 rfl (lv_at hl 0 rfl) ?_
  refine lv_iload_n hx hb dJ6_bitCount_0f7a4_1 rfl (lv_at hl 0 rfl) ?_
  refine lv_iconst (v := nI 1) hx hb dJ6_bitCount_0f7a4_2 (by decide) ?_
  refine lv_iushr (v := nI (x >>> 1)) hx hb dJ6_bitCount_0f7a4_3 (nw_ush (by omega) (by decide)) ?_
  refine lv_ldcw (v := 1431655765) hx hb hown (hts _ ct_RJ6_265) dJ6_bitCount_0f7a4_4 ?_
  refine nv_tope (nI (1431655765)) (by decide) ?_
  refine nv_iand hx hb dJ6_bitCount_0f7a4_7 ?_
  refine nv_isub hx hb dJ6_bitCount_0f7a4_8 (by omega) ?_
  refine nv_top (bc1 x) (rfl) ?_
  refine lv_istore_n (lv' := [(0, .int (nI (bc1 x)))]) hx hb dJ6_bitCount_0f7a4_9 rfl hl (by decide) rfl (fun ls hl => ?_)
  refine lv_iload_n hx hb dJ6_bitCount_0f7a4_10 rfl (lv_at hl 0 rfl) ?_
  refine lv_ldcw (v := 858993459) hx hb hown (hts _ ct_RJ6_266) dJ6_bitCount_0f7a4_11 ?_
  refine nv_tope (nI (858993459)) (by decide) ?_
  refine nv_iand hx hb dJ6_bitCount_0f7a4_14 ?_
  refine lv_iload_n hx hb dJ6_bitCount_0f7a4_15 rfl (lv_at hl 0 rfl) ?_
  refine lv_iconst (v := nI 2) hx hb dJ6_bitCount_0f7a4_16 (by decide) ?_
  refine lv_iushr (v := nI (bc1 x >>> 2)) hx hb dJ6_bitCount_0f7a4_17 (nw_ush (by omega) (by decide)) ?_
  refine lv_ldcw (v := 858993459) hx hb hown (hts _ ct_RJ6_266) dJ6_bitCount_0f7a4_18 ?_
  refine nv_tope (nI (858993459)) (by decide) ?_
  refine nv_iand hx hb dJ6_bitCount_0f7a4_21 ?_
  refine nv_iadd hx hb dJ6_bitCount_0f7a4_22 ?_
  refine nv_top (bc2 (bc1 x)) (rfl) ?_
  refine lv_istore_n (lv' := [(0, .int (nI (bc2 (bc1 x))))]) hx hb dJ6_bitCount_0f7a4_23 rfl hl (by decide) rfl (fun ls hl => ?_)
  refine lv_iload_n hx hb dJ6_bitCount_0f7a4_24 rfl (lv_at hl 0 rfl) ?_
  refine lv_iload_n hx hb dJ6_bitCount_0f7a4_25 rfl (lv_at hl 0 rfl) ?_
  refine lv_iconst (v := nI 4) hx hb dJ6_bitCount_0f7a4_26 (by decide) ?_
  refine lv_iushr (v := nI (bc2 (bc1 x) >>> 4)) hx hb dJ6_bitCount_0f7a4_27 (nw_ush (by omega) (by decide)) ?_
  refine nv_iadd hx hb dJ6_bitCount_0f7a4_28 ?_
  refine lv_ldcw (v := 252645135) hx hb hown (hts _ ct_RJ6_267) dJ6_bitCount_0f7a4_29 ?_
  refine nv_tope (nI (252645135)) (by decide) ?_
  refine nv_iand hx hb dJ6_bitCount_0f7a4_32 ?_
  refine nv_top (bc3 (bc2 (bc1 x))) (rfl) ?_
  refine lv_istore_n (lv' := [(0, .int (nI (bc3 (bc2 (bc1 x)))))]) hx hb dJ6_bitCount_0f7a4_33 rfl hl (by decide) rfl (fun ls hl => ?_)
  refine lv_iload_n hx hb dJ6_bitCount_0f7a4_34 rfl (lv_at hl 0 rfl) ?_
  refine lv_iload_n hx hb dJ6_bitCount_0f7a4_35 rfl (lv_at hl 0 rfl) ?_
  refine lv_bipush (v := nI 8) hx hb dJ6_bitCount_0f7a4_36 (by decide) ?_
  refine lv_iushr (v := nI (bc3 (bc2 (bc1 x)) >>> 8)) hx hb dJ6_bitCount_0f7a4_38 (nw_ush (by omega) (by decide)) ?_
  refine nv_iadd hx hb dJ6_bitCount_0f7a4_39 ?_
  refine nv_top (bc4 (bc3 (bc2 (bc1 x)))) (rfl) ?_
  refine lv_istore_n (lv' := [(0, .int (nI (bc4 (bc3 (bc2 (bc1 x))))))]) hx hb dJ6_bitCount_0f7a4_40 rfl hl (by decide) rfl (fun ls hl => ?_)
  refine lv_iload_n hx hb dJ6_bitCount_0f7a4_41 rfl (lv_at hl 0 rfl) ?_
  refine lv_iload_n hx hb dJ6_bitCount_0f7a4_42 rfl (lv_at hl 0 rfl) ?_
  refine lv_bipush (v := nI 16) hx hb dJ6_bitCount_0f7a4_43 (by decide) ?_
  refine lv_iushr (v := nI (bc4 (bc3 (bc2 (bc1 x))) >>> 16)) hx hb dJ6_bitCount_0f7a4_45 (nw_ush (by omega) (by decide)) ?_
  refine nv_iadd hx hb dJ6_bitCount_0f7a4_46 ?_
  refine nv_top (bc5 (bc4 (bc3 (bc2 (bc1 x))))) (rfl) ?_
  refine lv_istore_n (lv' := [(0, .int (nI (bc5 (bc4 (bc3 (bc2 (bc1 x)))))))]) hx hb dJ6_bitCount_0f7a4_47 rfl hl (by decide) rfl (fun ls hl => ?_)
  refine lv_iload_n hx hb dJ6_bitCount_0f7a4_48 rfl (lv_at hl 0 rfl) ?_
  refine lv_bipush (v := nI 63) hx hb dJ6_bitCount_0f7a4_49 (by decide) ?_
  refine nv_iand hx hb dJ6_bitCount_0f7a4_51 ?_
  exact nv_ret hx hb hr hlocks (congrArg nI (show bcN x = pop x from bc_pop h1)) dJ6_bitCount_0f7a4_52
set_option maxHeartbeats 4000000 in
set_option maxRecDepth 100000 in
theorem c_X1_codeOf (l : Launch) (D : va_G) (cI cR : ClassId) (h : Nat) (a : Nat → Nat) (σ : Nat → Nat) (k : Nat)  (hw : wf σ) (hk : k < σ 0) : MetR l yX1_codeOf cX1_codeOf 4 (some .int) (rmK 0 0) (nPre D (nTy cI cR) [.ref h, .int (nI k)] (wRp h a cI (σ 0) (σ 1) (σ 2) (onF σ) (wwF σ) (crF σ) (ptF σ))) (nI (σ (3 + k))) := by
  refine met_read rfl (Nat.le_of_ble_eq_true rfl) ?_
  intro p e s m args below meth c ls hx hb hml hr hlocks hown hts hP hK hl
  have hl : lv_has ls 4 [(0, .ref h), (1, .int (nI k))] := hl
  have hA41 := hw.w41
  have hA33 := hw.a33
  have hA48 := hw.a48
  obtain ⟨hR2, hR, hB1, hB, hS1, hS, -⟩ := id hw
  refine lv_iconst (v := nI 0) hx hb dX1_codeOf_0 (by decide) ?_
  refine lv_istore_n (lv' := [(2, .int (nI 0)), (0, .ref h), (1, .int (nI k))]) hx hb dX1_codeOf_1 rfl hl (by decide) rfl (fun ls hl => ?_)
  refine lv_iconst (v := nI 0) hx hb dX1_codeOf_2 (by decide) ?_
  refine lv_istore_n (lv' := [(3, .int (nI 0)), (2, .int (nI 0)), (0, .ref h), (1, .int (nI k))]) hx hb dX1_codeOf_3 rfl hl (by decide) rfl (fun ls hl => ?_)
  have L4 : ∀ (n4 i : Nat), 4 + 1 ≤ i + n4 → i ≤ 4 → ∀ (ls : Array Slot), lv_has ls 4 [(0, .ref h), (1, .int (nI k)), (2, .int (nI (mk (fun b => (onM σ (2 * b + 1)).testBit k) i))), (3, .int (nI i))] → W p l e (rmK 0 0) s m args below meth c s.heap [] 0 0 (MQ below (QcRead (nI (σ (3 + k)))) args s 0 0 (fun _ => False)) (F0 m 4 ls []) := by
    intro n4
    induction n4 with
    | zero =>
      intro i h1_4 h2_4
      exact False.elim (by omega)
    | succ n4 ih4 =>
      intro i h1_4 h2_4  ls hl
      refine lv_iload_n hx hb dX1_codeOf_4 rfl (lv_at hl 3 rfl) ?_
      refine lv_iconst (v := nI 4) hx hb dX1_codeOf_5 (by decide) ?_
      refine nv_icmp_ge (tgt := 34) hx hb dX1_codeOf_6 (by decide) (by omega) (by omega) (fun q_6 => ?_) (fun q_6 => ?_)
      · refine lv_iload_n hx hb dX1_codeOf_34 rfl (lv_at hl 2 rfl) ?_
        exact nv_ret hx hb hr hlocks (congrArg nI (codeOf_mk hw hk (by omega))) dX1_codeOf_35
      · refine lv_iload_n hx hb dX1_codeOf_9 rfl (lv_at hl 2 rfl) ?_
        refine lv_aload_n hx hb dX1_codeOf_10 rfl (lv_at hl 0 rfl) ?_
        refine va_get (D := D) (ci := 1) (v := .ref (a 0)) (C := RX1) (T := TX1) (N := 7) hx hb hts inX1 hown hK hP 0 rfl rfl 3 (by decide) (hts _ fl_RX1_9) (fun _ h9 => h9) rfl dX1_codeOf_11 ?_
        refine lv_iconst (v := nI 2) hx hb dX1_codeOf_14 (by decide) ?_
        refine lv_iload_n hx hb dX1_codeOf_15 rfl (lv_at hl 3 rfl) ?_
        refine nv_imul hx hb dX1_codeOf_16 ?_
        refine lv_iconst (v := nI 1) hx hb dX1_codeOf_17 (by decide) ?_
        refine nv_iadd hx hb dX1_codeOf_18 ?_
        refine nv_iald (D := D) (v := nI (onM σ ((2 * i) + 1))) hx hb hK hP 1 0 rfl rfl (k := (2 * i) + 1) (by omega) (by decide) (rfl) dX1_codeOf_19 ?_
        refine lv_iload_n hx hb dX1_codeOf_20 rfl (lv_at hl 1 rfl) ?_
        refine nv_ishr hx hb dX1_codeOf_21 (Nat.lt_trans (onM_lt hw _) (by decide)) (by omega) ?_
        refine lv_iconst (v := nI 1) hx hb dX1_codeOf_22 (by decide) ?_
        refine nv_iand hx hb dX1_codeOf_23 ?_
        refine nv_top (((onM σ (2 * i + 1)).testBit k).toNat) (nw_tb _ _) ?_
        refine lv_iload_n hx hb dX1_codeOf_24 rfl (lv_at hl 3 rfl) ?_
        refine nv_ishl hx hb dX1_codeOf_25 (by omega) ?_
        refine nv_ior hx hb dX1_codeOf_26 ?_
        refine lv_istore_n (lv' := [(2, .int (nI ((mk (fun b => (onM σ (2 * b + 1)).testBit k) i) ||| ((((onM σ (2 * i + 1)).testBit k).toNat) <<< i)))), (0, .ref h), (1, .int (nI k)), (3, .int (nI i))]) hx hb dX1_codeOf_27 rfl hl (by decide) rfl (fun ls hl => ?_)
        refine nv_inc (k := 3) (lv' := [(3, .int (nI (i + 1))), (2, .int (nI ((mk (fun b => (onM σ (2 * b + 1)).testBit k) i) ||| ((((onM σ (2 * i + 1)).testBit k).toNat) <<< i)))), (0, .ref h), (1, .int (nI k))]) hx hb dX1_codeOf_28 hl rfl (by decide) rfl (fun ls hl => ?_)
        refine lv_goto (tgt := 4) hx hb dX1_codeOf_31 (by decide) ?_
        exact ih4 (i + 1) (by omega) (by omega)  ls (lv_sub hl [2, 3, 1, 0] rfl)
  exact L4 (4 + 1) 0 (by omega) (by omega)  ls (lv_sub hl [2, 3, 1, 0] rfl)
set_option maxHeartbeats 4000000 in
set_option maxRecDepth 100000 in
theorem c_X1_ringWithCode (l : Launch) (D : va_G) (cI cR : ClassId) (h : Nat) (a : Nat → Nat) (σ : Nat → Nat) (k : Nat)  (hw : wf σ) (hk : k < 2 ^ 31) : MetR l yX1_ringWithCode cX1_ringWithCode 3 (some .int) (rmK 1 23) (nPre D (nTy cI cR) [.ref h, .int (nI k)] (wRp h a cI (σ 0) (σ 1) (σ 2) (onF σ) (wwF σ) (crF σ) (ptF σ))) (rcF σ k) := by
  refine met_read rfl (Nat.le_of_ble_eq_true rfl) ?_
  intro p e s m args below meth c ls hx hb hml hr hlocks hown hts hP hK hl
  have hl : lv_has ls 3 [(0, .ref h), (1, .int (nI k))] := hl
  have hA41 := hw.w41
  have hA33 := hw.a33
  have hA48 := hw.a48
  obtain ⟨hR2, hR, hB1, hB, hS1, hS, -⟩ := id hw
  refine lv_iconst (v := nI 0) hx hb dX1_ringWithCode_0 (by decide) ?_
  refine lv_istore_n (lv' := [(2, .int (nI 0)), (0, .ref h), (1, .int (nI k))]) hx hb dX1_ringWithCode_1 rfl hl (by decide) rfl (fun ls hl => ?_)
  have L2 : ∀ (n2 i : Nat), σ 0 + 1 ≤ i + n2 → i ≤ σ 0 → (∀ j, j < i → ¬ σ (3 + j) = k) → ∀ (ls : Array Slot), lv_has ls 3 [(0, .ref h), (1, .int (nI k)), (2, .int (nI i))] → W p l e (rmK 1 23) s m args below meth c s.heap [] 0 0 (MQ below (QcRead (rcF σ k)) args s 0 0 (fun _ => False)) (F0 m 2 ls []) := by
    intro n2
    induction n2 with
    | zero =>
      intro i h1_2 h2_2
      exact False.elim (by omega)
    | succ n2 ih2 =>
      intro i h1_2 h2_2 hno ls hl
      refine lv_iload_n hx hb dX1_ringWithCode_2 rfl (lv_at hl 2 rfl) ?_
      refine lv_aload_n hx hb dX1_ringWithCode_3 rfl (lv_at hl 0 rfl) ?_
      refine va_get (D := D) (ci := 1) (v := .int (nI (σ 0))) (C := RX1) (T := TX1) (N := 7) hx hb hts inX1 hown hK hP 0 rfl rfl 0 (by decide) (hts _ fl_RX1_28) (fun _ h9 => h9) rfl dX1_ringWithCode_4 ?_
      refine nv_icmp_ge (tgt := 27) hx hb dX1_ringWithCode_7 (by decide) (by omega) (by omega) (fun q_7 => ?_) (fun q_7 => ?_)
      · refine lv_iconst (v := -1) hx hb dX1_ringWithCode_27 (by decide) ?_
        exact nv_ret hx hb hr hlocks (rcF_no (fun j hj => hno j (by omega))) dX1_ringWithCode_28
      · refine lv_aload_n hx hb dX1_ringWithCode_10 rfl (lv_at hl 0 rfl) ?_
        refine lv_iload_n hx hb dX1_ringWithCode_11 rfl (lv_at hl 2 rfl) ?_
        refine nv_callV [.int (nI i)] [] hx hb hml hown hts k_RX1_85 (c_X1_codeOf l D cI cR h a σ i hw (by omega)) ⟨rfl, rfl, Nat.le_of_ble_eq_true rfl, Nat.le_of_ble_eq_true rfl⟩ hP hK 1 rfl rfl rfl rfl hl rfl (Nat.le_of_ble_eq_true rfl) dX1_ringWithCode_12 ⟨Nat.zero_le _, Nat.zero_le _⟩ ?_
        refine lv_iload_n hx hb dX1_ringWithCode_15 rfl (lv_at hl 1 rfl) ?_
        refine nv_icmp_ne (tgt := 21) hx hb dX1_ringWithCode_16 (by decide) (by have := hw.cd (r := i) (by omega); omega) (by omega) (fun q_16 => ?_) (fun q_16 => ?_)
        · refine nv_inc (k := 2) (lv' := [(2, .int (nI (i + 1))), (0, .ref h), (1, .int (nI k))]) hx hb dX1_ringWithCode_21 hl rfl (by decide) rfl (fun ls hl => ?_)
          refine lv_goto (tgt := 2) hx hb dX1_ringWithCode_24 (by decide) ?_
          exact ih2 (i + 1) (by omega) (by omega) (fun j hj => by rcases Nat.lt_succ_iff_lt_or_eq.mp hj with q | q; exact hno j q; exact q ▸ q_16) ls (lv_sub hl [1, 2, 0] rfl)
        · refine lv_iload_n hx hb dX1_ringWithCode_19 rfl (lv_at hl 2 rfl) ?_
          exact nv_ret hx hb hr hlocks (rcF_yes hno q_16 (by omega)) dX1_ringWithCode_20
  exact L2 (σ 0 + 1) 0 (by omega) (by omega) (fun j hj => absurd hj (Nat.not_lt_zero j)) ls (lv_sub hl [1, 2, 0] rfl)
set_option maxHeartbeats 4000000 in
set_option maxRecDepth 100000 in
theorem c_X1_rightWeave (l : Launch) (D : va_G) (cI cR : ClassId) (h : Nat) (a : Nat → Nat) (σ : Nat → Nat) (w : Nat)  (hw : wf σ) (h1 : w < nW σ) : MetR l yX1_rightWeave cX1_rightWeave 2 (some .int) (rmK 0 0) (nPre D (nTy cI cR) [.ref h, .int (nI w)] (wRp h a cI (σ 0) (σ 1) (σ 2) (onF σ) (wwF σ) (crF σ) (ptF σ))) (nI (rtM σ w)) := by
  refine met_read rfl (Nat.le_of_ble_eq_true rfl) ?_
  intro p e s m args below meth c ls hx hb hml hr hlocks hown hts hP hK hl
  have hl : lv_has ls 2 [(0, .ref h), (1, .int (nI w))] := hl
  have hA41 := hw.w41
  have hA33 := hw.a33
  have hA48 := hw.a48
  obtain ⟨hR2, hR, hB1, hB, hS1, hS, -⟩ := id hw
  have hc1 := crN_le hw h1
  refine lv_aload_n hx hb dX1_rightWeave_0 rfl (lv_at hl 0 rfl) ?_
  refine va_get (D := D) (ci := 1) (v := .ref (a 2)) (C := RX1) (T := TX1) (N := 7) hx hb hts inX1 hown hK hP 0 rfl rfl 5 (by decide) (hts _ fl_RX1_18) (fun _ h9 => h9) rfl dX1_rightWeave_1 ?_
  refine lv_iload_n hx hb dX1_rightWeave_4 rfl (lv_at hl 1 rfl) ?_
  refine nv_iald (D := D) (v := nI (crN σ w)) hx hb hK hP 3 0 rfl rfl (k := w) (by omega) (by decide) (rfl) dX1_rightWeave_5 ?_
  refine lv_iconst (v := nI 1) hx hb dX1_rightWeave_6 (by decide) ?_
  refine nv_icmp_ne (tgt := 28) hx hb dX1_rightWeave_7 (by decide) (by omega) (by omega) (fun q_7 => ?_) (fun q_7 => ?_)
  · refine lv_aload_n hx hb dX1_rightWeave_28 rfl (lv_at hl 0 rfl) ?_
    refine va_get (D := D) (ci := 1) (v := .ref (a 0)) (C := RX1) (T := TX1) (N := 7) hx hb hts inX1 hown hK hP 0 rfl rfl 3 (by decide) (hts _ fl_RX1_9) (fun _ h9 => h9) rfl dX1_rightWeave_29 ?_
    refine lv_iload_n hx hb dX1_rightWeave_32 rfl (lv_at hl 1 rfl) ?_
    refine nv_iald (D := D) (v := nI (onM σ w)) hx hb hK hP 1 0 rfl rfl (k := w) (by omega) (by decide) (rfl) dX1_rightWeave_33 ?_
    exact nv_ret hx hb hr hlocks (by first | exact congrArg nI (rt_1 h1 q_7) | exact congrArg nI (rt_0 h1 q_7)) dX1_rightWeave_34
  · refine lv_aload_n hx hb dX1_rightWeave_10 rfl (lv_at hl 0 rfl) ?_
    refine va_get (D := D) (ci := 1) (v := .ref (a 0)) (C := RX1) (T := TX1) (N := 7) hx hb hts inX1 hown hK hP 0 rfl rfl 3 (by decide) (hts _ fl_RX1_9) (fun _ h9 => h9) rfl dX1_rightWeave_11 ?_
    refine lv_iload_n hx hb dX1_rightWeave_14 rfl (lv_at hl 1 rfl) ?_
    refine nv_iald (D := D) (v := nI (onM σ w)) hx hb hK hP 1 0 rfl rfl (k := w) (by omega) (by decide) (rfl) dX1_rightWeave_15 ?_
    refine lv_iconst (v := nI 1) hx hb dX1_rightWeave_16 (by decide) ?_
    refine lv_aload_n hx hb dX1_rightWeave_17 rfl (lv_at hl 0 rfl) ?_
    refine va_get (D := D) (ci := 1) (v := .int (nI (σ 0))) (C := RX1) (T := TX1) (N := 7) hx hb hts inX1 hown hK hP 0 rfl rfl 0 (by decide) (hts _ fl_RX1_28) (fun _ h9 => h9) rfl dX1_rightWeave_18 ?_
    refine nv_ishl hx hb dX1_rightWeave_21 (by omega) ?_
    refine lv_iconst (v := nI 1) hx hb dX1_rightWeave_22 (by decide) ?_
    refine nv_isub hx hb dX1_rightWeave_23 (sh1_pos _) ?_
    refine nv_ixor hx hb dX1_rightWeave_24 ?_
    refine lv_goto (tgt := 34) hx hb dX1_rightWeave_25 (by decide) ?_
    exact nv_ret hx hb hr hlocks (by first | exact congrArg nI (rt_1 h1 q_7) | exact congrArg nI (rt_0 h1 q_7)) dX1_rightWeave_34
set_option maxHeartbeats 4000000 in
set_option maxRecDepth 100000 in
theorem c_X1_costOf (l : Launch) (D : va_G) (cI cR : ClassId) (h : Nat) (a : Nat → Nat) (σ : Nat → Nat) (w : Nat)  (hw : wf σ) (h1 : w < nW σ) : MetR l yX1_costOf cX1_costOf 2 (some .int) (rmK 1 21) (nPre D (nTy cI cR) [.ref h, .int (nI w)] (wRp h a cI (σ 0) (σ 1) (σ 2) (onF σ) (wwF σ) (crF σ) (ptF σ))) (nI (csN σ w)) := by
  refine met_read rfl (Nat.le_of_ble_eq_true rfl) ?_
  intro p e s m args below meth c ls hx hb hml hr hlocks hown hts hP hK hl
  have hl : lv_has ls 2 [(0, .ref h), (1, .int (nI w))] := hl
  have hA41 := hw.w41
  have hA33 := hw.a33
  have hA48 := hw.a48
  obtain ⟨hR2, hR, hB1, hB, hS1, hS, -⟩ := id hw
  refine lv_aload_n hx hb dX1_costOf_0 rfl (lv_at hl 0 rfl) ?_
  refine lv_iload_n hx hb dX1_costOf_1 rfl (lv_at hl 1 rfl) ?_
  refine nv_callV [.int (nI w)] [] hx hb hml hown hts k_RX1_101 (c_X1_rightWeave l D cI cR h a σ w hw (by omega)) ⟨rfl, rfl, Nat.le_of_ble_eq_true rfl, Nat.le_of_ble_eq_true rfl⟩ hP hK 1 rfl rfl rfl rfl hl rfl (Nat.le_of_ble_eq_true rfl) dX1_costOf_2 ⟨Nat.zero_le _, Nat.zero_le _⟩ ?_
  refine nv_callS [.int (nI (rtM σ w))] [] hx hb hml hown hts k_RX1_73 (c_J6_bitCount_0f7a4 l D cI cR (rtM σ w) (rtM_lt hw w)) ⟨rfl, rfl, Nat.le_of_ble_eq_true rfl, Nat.le_of_ble_eq_true rfl⟩ (va_P_nil) hK rfl hl rfl (Nat.le_of_ble_eq_true rfl) dX1_costOf_5 ⟨Nat.zero_le _, Nat.zero_le _⟩ ?_
  refine lv_aload_n hx hb dX1_costOf_8 rfl (lv_at hl 0 rfl) ?_
  refine va_get (D := D) (ci := 1) (v := .ref (a 2)) (C := RX1) (T := TX1) (N := 7) hx hb hts inX1 hown hK hP 0 rfl rfl 5 (by decide) (hts _ fl_RX1_18) (fun _ h9 => h9) rfl dX1_costOf_9 ?_
  refine lv_iload_n hx hb dX1_costOf_12 rfl (lv_at hl 1 rfl) ?_
  refine nv_iald (D := D) (v := nI (crN σ w)) hx hb hK hP 3 0 rfl rfl (k := w) (by omega) (by decide) (rfl) dX1_costOf_13 ?_
  refine nv_iadd hx hb dX1_costOf_14 ?_
  exact nv_ret hx hb hr hlocks (rfl) dX1_costOf_15
set_option maxHeartbeats 4000000 in
set_option maxRecDepth 100000 in
theorem c_X1_goesThrough (l : Launch) (D : va_G) (cI cR : ClassId) (h : Nat) (a : Nat → Nat) (σ : Nat → Nat) (w : Nat) (r : Nat)  (hw : wf σ) (h1 : w < nW σ) (h2 : r < σ 0) : MetR l yX1_goesThrough cX1_goesThrough 3 (some .int) (rmK 1 21) (nPre D (nTy cI cR) [.ref h, .int (nI w), .int (nI r)] (wRp h a cI (σ 0) (σ 1) (σ 2) (onF σ) (wwF σ) (crF σ) (ptF σ))) (nI (((wvM σ w).testBit r).toNat)) := by
  refine met_read rfl (Nat.le_of_ble_eq_true rfl) ?_
  intro p e s m args below meth c ls hx hb hml hr hlocks hown hts hP hK hl
  have hl : lv_has ls 3 [(0, .ref h), (1, .int (nI w)), (2, .int (nI r))] := hl
  have hA41 := hw.w41
  have hA33 := hw.a33
  have hA48 := hw.a48
  obtain ⟨hR2, hR, hB1, hB, hS1, hS, -⟩ := id hw
  refine lv_aload_n hx hb dX1_goesThrough_0 rfl (lv_at hl 0 rfl) ?_
  refine lv_iload_n hx hb dX1_goesThrough_1 rfl (lv_at hl 1 rfl) ?_
  refine nv_callV [.int (nI w)] [] hx hb hml hown hts k_RX1_101 (c_X1_rightWeave l D cI cR h a σ w hw (by omega)) ⟨rfl, rfl, Nat.le_of_ble_eq_true rfl, Nat.le_of_ble_eq_true rfl⟩ hP hK 1 rfl rfl rfl rfl hl rfl (Nat.le_of_ble_eq_true rfl) dX1_goesThrough_2 ⟨Nat.zero_le _, Nat.zero_le _⟩ ?_
  refine lv_aload_n hx hb dX1_goesThrough_5 rfl (lv_at hl 0 rfl) ?_
  refine va_get (D := D) (ci := 1) (v := .ref (a 1)) (C := RX1) (T := TX1) (N := 7) hx hb hts inX1 hown hK hP 0 rfl rfl 4 (by decide) (hts _ fl_RX1_15) (fun _ h9 => h9) rfl dX1_goesThrough_6 ?_
  refine lv_iload_n hx hb dX1_goesThrough_9 rfl (lv_at hl 1 rfl) ?_
  refine nv_iald (D := D) (v := nI (σ (100 + w))) hx hb hK hP 2 0 rfl rfl (k := w) (by omega) (by decide) (rfl) dX1_goesThrough_10 ?_
  refine nv_ixor hx hb dX1_goesThrough_11 ?_
  refine nv_top (wvM σ w) (rfl) ?_
  refine lv_iload_n hx hb dX1_goesThrough_12 rfl (lv_at hl 2 rfl) ?_
  refine nv_ishr hx hb dX1_goesThrough_13 (Nat.lt_trans (wvM_lt hw h1) (by decide)) (by omega) ?_
  refine lv_iconst (v := nI 1) hx hb dX1_goesThrough_14 (by decide) ?_
  refine nv_iand hx hb dX1_goesThrough_15 ?_
  refine nv_top (((wvM σ w).testBit r).toNat) (nw_tb _ _) ?_
  exact nv_ret hx hb hr hlocks (rfl) dX1_goesThrough_16
set_option maxHeartbeats 4000000 in
set_option maxRecDepth 100000 in
theorem c_X1_bitFrom (l : Launch) (D : va_G) (cI cR : ClassId) (h : Nat) (a : Nat → Nat) (σ : Nat → Nat) (w : Nat) (v : Nat) (k : Nat)  (hw : wf σ) (h1 : w < nW σ) (h2 : v < 65536) : MetR l yX1_bitFrom cX1_bitFrom 5 (some .int) (rmK 0 0) (nPre D (nTy cI cR) [.ref h, .int (nI w), .int (nI v), .int (nI k)] (wRp h a cI (σ 0) (σ 1) (σ 2) (onF σ) (wwF σ) (crF σ) (ptF σ))) (nI (((v &&& k != 0) ^^ (crN σ w == 1)).toNat)) := by
  refine met_read rfl (Nat.le_of_ble_eq_true rfl) ?_
  intro p e s m args below meth c ls hx hb hml hr hlocks hown hts hP hK hl
  have hl : lv_has ls 5 [(0, .ref h), (1, .int (nI w)), (2, .int (nI v)), (3, .int (nI k))] := hl
  have hA41 := hw.w41
  have hA33 := hw.a33
  have hA48 := hw.a48
  obtain ⟨hR2, hR, hB1, hB, hS1, hS, -⟩ := id hw
  have hc1 := crN_le hw h1
  have hv := Nat.lt_of_le_of_lt (@Nat.and_le_left v k) h2
  refine lv_iload_n hx hb dX1_bitFrom_0 rfl (lv_at hl 2 rfl) ?_
  refine lv_iload_n hx hb dX1_bitFrom_1 rfl (lv_at hl 3 rfl) ?_
  refine nv_iand hx hb dX1_bitFrom_2 ?_
  have J3 : ∀ (ls : Array Slot), lv_has ls 5 [(0, .ref h), (1, .int (nI w)), (2, .int (nI v)), (3, .int (nI k))] → W p l e (rmK 0 0) s m args below meth c s.heap [] 0 0 (MQ below (QcRead (nI (((v &&& k != 0) ^^ (crN σ w == 1)).toNat))) args s 0 0 (fun _ => False)) (F0 m 11 ls [.int (nI ((v &&& k != 0).toNat))]) := by
    intro ls hl
    refine lv_istore (lv' := [(4, .int (nI ((v &&& k != 0).toNat))), (0, .ref h), (1, .int (nI w)), (2, .int (nI v)), (3, .int (nI k))]) hx hb dX1_bitFrom_11 hl (by decide) rfl (fun ls hl => ?_)
    refine lv_iload hx hb dX1_bitFrom_13 (lv_at hl 0 rfl) ?_
    refine lv_aload_n hx hb dX1_bitFrom_15 rfl (lv_at hl 1 rfl) ?_
    refine va_get (D := D) (ci := 1) (v := .ref (a 2)) (C := RX1) (T := TX1) (N := 7) hx hb hts inX1 hown hK hP 0 rfl rfl 5 (by decide) (hts _ fl_RX1_18) (fun _ h9 => h9) rfl dX1_bitFrom_16 ?_
    refine lv_iload_n hx hb dX1_bitFrom_19 rfl (lv_at hl 2 rfl) ?_
    refine nv_iald (D := D) (v := nI (crN σ w)) hx hb hK hP 3 0 rfl rfl (k := w) (by omega) (by decide) (rfl) dX1_bitFrom_20 ?_
    refine nv_ixor hx hb dX1_bitFrom_21 ?_
    exact nv_ret hx hb hr hlocks (congrArg nI (x_cr hc1)) dX1_bitFrom_22
  refine nv_if_ne (tgt := 10) hx hb dX1_bitFrom_3 (by decide) (by omega) (fun q_3 => ?_) (fun q_3 => ?_)
  · refine lv_iconst (v := nI 1) hx hb dX1_bitFrom_10 (by decide) ?_
    refine nv_top ((v &&& k != 0).toNat) (by first | (rw [q_3]; rfl) | (rw [bne_iff_ne.mpr q_3]; rfl)) ?_
    exact J3 ls (lv_sub hl [0, 1, 2, 3] rfl)
  · refine lv_iconst (v := nI 0) hx hb dX1_bitFrom_6 (by decide) ?_
    refine lv_goto (tgt := 11) hx hb dX1_bitFrom_7 (by decide) ?_
    refine nv_top ((v &&& k != 0).toNat) (by first | (rw [q_3]; rfl) | (rw [bne_iff_ne.mpr q_3]; rfl)) ?_
    exact J3 ls (lv_sub hl [0, 1, 2, 3] rfl)
set_option maxHeartbeats 4000000 in
set_option maxRecDepth 100000 in
theorem c_X1_pickedBy (l : Launch) (D : va_G) (cI cR : ClassId) (h : Nat) (a : Nat → Nat) (σ : Nat → Nat) (k : Nat)  (hw : wf σ) (hk : k < 2 ^ 31) : MetR l yX1_pickedBy cX1_pickedBy 5 (some .int) (rmK 0 0) (nPre D (nTy cI cR) [.ref h, .int (nI k)] (wRp h a cI (σ 0) (σ 1) (σ 2) (onF σ) (wwF σ) (crF σ) (ptF σ))) (nI (pkM (wvM σ) σ k)) := by
  refine met_read rfl (Nat.le_of_ble_eq_true rfl) ?_
  intro p e s m args below meth c ls hx hb hml hr hlocks hown hts hP hK hl
  have hl : lv_has ls 5 [(0, .ref h), (1, .int (nI k))] := hl
  have hA41 := hw.w41
  have hA33 := hw.a33
  have hA48 := hw.a48
  obtain ⟨hR2, hR, hB1, hB, hS1, hS, -⟩ := id hw
  refine lv_iconst (v := nI 0) hx hb dX1_pickedBy_0 (by decide) ?_
  refine lv_istore_n (lv' := [(2, .int (nI 0)), (0, .ref h), (1, .int (nI k))]) hx hb dX1_pickedBy_1 rfl hl (by decide) rfl (fun ls hl => ?_)
  refine lv_iconst (v := nI 0) hx hb dX1_pickedBy_2 (by decide) ?_
  refine lv_istore_n (lv' := [(3, .int (nI 0)), (2, .int (nI 0)), (0, .ref h), (1, .int (nI k))]) hx hb dX1_pickedBy_3 rfl hl (by decide) rfl (fun ls hl => ?_)
  have L4 : ∀ (n4 i : Nat), 4 + 1 ≤ i + n4 → i ≤ 4 → ∀ (ls : Array Slot), lv_has ls 5 [(0, .ref h), (1, .int (nI k)), (2, .int (nI (ihA (wvM σ) k i))), (3, .int (nI i))] → W p l e (rmK 0 0) s m args below meth c s.heap [] 0 0 (MQ below (QcRead (nI (pkM (wvM σ) σ k))) args s 0 0 (fun _ => False)) (F0 m 4 ls []) := by
    intro n4
    induction n4 with
    | zero =>
      intro i h1_4 h2_4
      exact False.elim (by omega)
    | succ n4 ih4 =>
      intro i h1_4 h2_4  ls hl
      refine lv_iload_n hx hb dX1_pickedBy_4 rfl (lv_at hl 3 rfl) ?_
      refine lv_iconst (v := nI 4) hx hb dX1_pickedBy_5 (by decide) ?_
      refine nv_icmp_ge (tgt := 46) hx hb dX1_pickedBy_6 (by decide) (by omega) (by omega) (fun q_6 => ?_) (fun q_6 => ?_)
      · refine lv_iload_n hx hb dX1_pickedBy_46 rfl (lv_at hl 2 rfl) ?_
        refine lv_iconst (v := -1) hx hb dX1_pickedBy_47 (by decide) ?_
        refine lv_ixor hx hb dX1_pickedBy_48 ?_
        refine lv_iconst (v := nI 1) hx hb dX1_pickedBy_49 (by decide) ?_
        refine lv_aload_n hx hb dX1_pickedBy_50 rfl (lv_at hl 0 rfl) ?_
        refine va_get (D := D) (ci := 1) (v := .int (nI (σ 0))) (C := RX1) (T := TX1) (N := 7) hx hb hts inX1 hown hK hP 0 rfl rfl 0 (by decide) (hts _ fl_RX1_28) (fun _ h9 => h9) rfl dX1_pickedBy_51 ?_
        refine nv_ishl hx hb dX1_pickedBy_54 (by omega) ?_
        refine lv_iconst (v := nI 1) hx hb dX1_pickedBy_55 (by decide) ?_
        refine nv_isub hx hb dX1_pickedBy_56 (sh1_pos _) ?_
        refine nv_iandm hx hb dX1_pickedBy_57 ?_
        exact nv_ret hx hb hr hlocks (congrArg nI (by rw [show i = 4 by omega]; exact ihA_pkA _ _ _ _)) dX1_pickedBy_58
      · refine lv_iconst (v := nI 2) hx hb dX1_pickedBy_9 (by decide) ?_
        refine lv_iload_n hx hb dX1_pickedBy_10 rfl (lv_at hl 3 rfl) ?_
        refine nv_imul hx hb dX1_pickedBy_11 ?_
        refine lv_iconst (v := nI 1) hx hb dX1_pickedBy_12 (by decide) ?_
        refine nv_iadd hx hb dX1_pickedBy_13 ?_
        refine lv_iload_n hx hb dX1_pickedBy_14 rfl (lv_at hl 1 rfl) ?_
        refine lv_iload_n hx hb dX1_pickedBy_15 rfl (lv_at hl 3 rfl) ?_
        refine nv_ishr hx hb dX1_pickedBy_16 (by omega) (by omega) ?_
        refine lv_iconst (v := nI 1) hx hb dX1_pickedBy_17 (by decide) ?_
        refine nv_iand hx hb dX1_pickedBy_18 ?_
        refine nv_isub hx hb dX1_pickedBy_19 (by have := @Nat.and_le_right (k >>> i) 1; omega) ?_
        refine nv_top (wOn k i) (rfl) ?_
        refine lv_istore (lv' := [(4, .int (nI (wOn k i))), (0, .ref h), (1, .int (nI k)), (2, .int (nI (ihA (wvM σ) k i))), (3, .int (nI i))]) hx hb dX1_pickedBy_20 hl (by decide) rfl (fun ls hl => ?_)
        refine lv_iload_n hx hb dX1_pickedBy_22 rfl (lv_at hl 3 rfl) ?_
        refine lv_aload_n hx hb dX1_pickedBy_23 rfl (lv_at hl 1 rfl) ?_
        refine va_get (D := D) (ci := 1) (v := .ref (a 0)) (C := RX1) (T := TX1) (N := 7) hx hb hts inX1 hown hK hP 0 rfl rfl 3 (by decide) (hts _ fl_RX1_9) (fun _ h9 => h9) rfl dX1_pickedBy_24 ?_
        refine lv_iload hx hb dX1_pickedBy_27 (lv_at hl 0 rfl) ?_
        refine nv_iald (D := D) (v := nI (onM σ (wOn k i))) hx hb hK hP 1 0 rfl rfl (k := wOn k i) (Nat.lt_trans (wOn_lt (by omega)) (by decide)) (by decide) (rfl) dX1_pickedBy_29 ?_
        refine lv_aload_n hx hb dX1_pickedBy_30 rfl (lv_at hl 1 rfl) ?_
        refine va_get (D := D) (ci := 1) (v := .ref (a 1)) (C := RX1) (T := TX1) (N := 7) hx hb hts inX1 hown hK hP 0 rfl rfl 4 (by decide) (hts _ fl_RX1_15) (fun _ h9 => h9) rfl dX1_pickedBy_31 ?_
        refine lv_iload hx hb dX1_pickedBy_34 (lv_at hl 0 rfl) ?_
        refine nv_iald (D := D) (v := nI (σ (100 + (wOn k i)))) hx hb hK hP 2 0 rfl rfl (k := wOn k i) (Nat.lt_trans (wOn_lt (by omega)) (by decide)) (by decide) (rfl) dX1_pickedBy_36 ?_
        refine nv_ixor hx hb dX1_pickedBy_37 ?_
        refine nv_top (wvM σ (wOn k i)) (wv_inh (wOn_lt (by omega))) ?_
        refine nv_ior hx hb dX1_pickedBy_38 ?_
        refine lv_istore_n (lv' := [(2, .int (nI ((ihA (wvM σ) k i) ||| (wvM σ (wOn k i))))), (4, .int (nI (wOn k i))), (0, .ref h), (1, .int (nI k)), (3, .int (nI i))]) hx hb dX1_pickedBy_39 rfl hl (by decide) rfl (fun ls hl => ?_)
        refine nv_inc (k := 4) (lv' := [(3, .int (nI (i + 1))), (2, .int (nI ((ihA (wvM σ) k i) ||| (wvM σ (wOn k i))))), (4, .int (nI (wOn k i))), (0, .ref h), (1, .int (nI k))]) hx hb dX1_pickedBy_40 hl rfl (by decide) rfl (fun ls hl => ?_)
        refine lv_goto (tgt := 4) hx hb dX1_pickedBy_43 (by decide) ?_
        exact ih4 (i + 1) (by omega) (by omega)  ls (lv_sub hl [3, 4, 1, 0] rfl)
  exact L4 (4 + 1) 0 (by omega) (by omega)  ls (lv_sub hl [2, 3, 1, 0] rfl)
set_option maxHeartbeats 4000000 in
set_option maxRecDepth 100000 in
theorem c_X1_rightBits (l : Launch) (D : va_G) (cI cR : ClassId) (h : Nat) (a : Nat → Nat) (σ : Nat → Nat) (t : Nat) (k : Nat)  (hw : wf σ) (h1 : t < σ 2) : MetR l yX1_rightBits cX1_rightBits 6 (some .int) (rmK 1 24) (nPre D (nTy cI cR) [.ref h, .int (nI t), .int (nI k)] (wRp h a cI (σ 0) (σ 1) (σ 2) (onF σ) (wwF σ) (crF σ) (ptF σ))) (nI (rbM σ t k)) := by
  refine met_read rfl (Nat.le_of_ble_eq_true rfl) ?_
  intro p e s m args below meth c ls hx hb hml hr hlocks hown hts hP hK hl
  have hl : lv_has ls 6 [(0, .ref h), (1, .int (nI t)), (2, .int (nI k))] := hl
  have hA41 := hw.w41
  have hA33 := hw.a33
  have hA48 := hw.a48
  obtain ⟨hR2, hR, hB1, hB, hS1, hS, -⟩ := id hw
  refine lv_iconst (v := nI 0) hx hb dX1_rightBits_0 (by decide) ?_
  refine lv_istore_n (lv' := [(3, .int (nI 0)), (0, .ref h), (1, .int (nI t)), (2, .int (nI k))]) hx hb dX1_rightBits_1 rfl hl (by decide) rfl (fun ls hl => ?_)
  refine lv_iconst (v := nI 0) hx hb dX1_rightBits_2 (by decide) ?_
  refine lv_istore (lv' := [(4, .int (nI 0)), (3, .int (nI 0)), (0, .ref h), (1, .int (nI t)), (2, .int (nI k))]) hx hb dX1_rightBits_3 hl (by decide) rfl (fun ls hl => ?_)
  have L5 : ∀ (n5 i : Nat), σ 1 + 1 + 1 ≤ i + n5 → i ≤ σ 1 + 1 → ∀ (ls : Array Slot), lv_has ls 6 [(0, .ref h), (1, .int (nI t)), (2, .int (nI k)), (3, .int (nI (mk (rbB σ t k) i))), (4, .int (nI i))] → W p l e (rmK 1 24) s m args below meth c s.heap [] 0 0 (MQ below (QcRead (nI (rbM σ t k))) args s 0 0 (fun _ => False)) (F0 m 5 ls []) := by
    intro n5
    induction n5 with
    | zero =>
      intro i h1_5 h2_5
      exact False.elim (by omega)
    | succ n5 ih5 =>
      intro i h1_5 h2_5  ls hl
      refine lv_iload hx hb dX1_rightBits_5 (lv_at hl 4 rfl) ?_
      refine lv_aload_n hx hb dX1_rightBits_7 rfl (lv_at hl 0 rfl) ?_
      refine va_get (D := D) (ci := 1) (v := .int (nI (σ 1))) (C := RX1) (T := TX1) (N := 7) hx hb hts inX1 hown hK hP 0 rfl rfl 1 (by decide) (hts _ fl_RX1_32) (fun _ h9 => h9) rfl dX1_rightBits_8 ?_
      refine nv_icmp_gt (tgt := 48) hx hb dX1_rightBits_11 (by decide) (by omega) (by omega) (fun q_11 => ?_) (fun q_11 => ?_)
      · refine lv_iload_n hx hb dX1_rightBits_48 rfl (lv_at hl 3 rfl) ?_
        exact nv_ret hx hb hr hlocks (congrArg nI (by rw [show i = σ 1 + 1 by omega]; rfl)) dX1_rightBits_49
      · refine lv_aload_n hx hb dX1_rightBits_14 rfl (lv_at hl 0 rfl) ?_
        refine lv_iload_n hx hb dX1_rightBits_15 rfl (lv_at hl 1 rfl) ?_
        refine lv_iload hx hb dX1_rightBits_16 (lv_at hl 4 rfl) ?_
        refine nv_callV [.int (nI t), .int (nI i)] [] hx hb hml hown hts k_RX1_98 (c_X1_senseWire l D cI cR h a (σ 0) (σ 1) (σ 2) (onF σ) (wwF σ) (crF σ) (ptF σ) t i ) ⟨rfl, rfl, Nat.le_of_ble_eq_true rfl, Nat.le_of_ble_eq_true rfl⟩ hP hK 1 rfl rfl rfl rfl hl rfl (Nat.le_of_ble_eq_true rfl) dX1_rightBits_18 ⟨Nat.zero_le _, Nat.zero_le _⟩ ?_
        refine lv_istore (lv' := [(5, .int (nI (8 + t * ((σ 1) + 1) + i))), (0, .ref h), (1, .int (nI t)), (2, .int (nI k)), (3, .int (nI (mk (rbB σ t k) i))), (4, .int (nI i))]) hx hb dX1_rightBits_21 hl (by decide) rfl (fun ls hl => ?_)
        refine lv_iload_n hx hb dX1_rightBits_23 rfl (lv_at hl 4 rfl) ?_
        refine lv_aload_n hx hb dX1_rightBits_24 rfl (lv_at hl 1 rfl) ?_
        refine lv_iload hx hb dX1_rightBits_25 (lv_at hl 0 rfl) ?_
        refine lv_aload_n hx hb dX1_rightBits_27 rfl (lv_at hl 1 rfl) ?_
        refine lv_iload hx hb dX1_rightBits_28 (lv_at hl 0 rfl) ?_
        refine nv_callV [.int (nI (8 + t * ((σ 1) + 1) + i))] [.int (nI (8 + t * ((σ 1) + 1) + i)), .ref h, .int (nI (mk (rbB σ t k) i))] hx hb hml hown hts k_RX1_101 (c_X1_rightWeave l D cI cR h a σ (8 + t * ((σ 1) + 1) + i) hw (sw_lt h1 (by omega))) ⟨rfl, rfl, Nat.le_of_ble_eq_true rfl, Nat.le_of_ble_eq_true rfl⟩ hP hK 1 rfl rfl rfl rfl hl rfl (Nat.le_of_ble_eq_true rfl) dX1_rightBits_30 ⟨Nat.zero_le _, Nat.zero_le _⟩ ?_
        refine lv_iload_n hx hb dX1_rightBits_33 rfl (lv_at hl 3 rfl) ?_
        refine nv_callV [.int (nI (8 + t * ((σ 1) + 1) + i)), .int (nI (rtM σ (8 + t * ((σ 1) + 1) + i))), .int (nI k)] [.int (nI (mk (rbB σ t k) i))] hx hb hml hown hts k_RX1_110 (c_X1_bitFrom l D cI cR h a σ (8 + t * ((σ 1) + 1) + i) (rtM σ (8 + t * ((σ 1) + 1) + i)) k hw (sw_lt h1 (by omega)) (rtM_lt hw _)) ⟨rfl, rfl, Nat.le_of_ble_eq_true rfl, Nat.le_of_ble_eq_true rfl⟩ hP hK 1 rfl rfl rfl rfl hl rfl (Nat.le_of_ble_eq_true rfl) dX1_rightBits_34 ⟨Nat.zero_le _, Nat.zero_le _⟩ ?_
        refine lv_iload hx hb dX1_rightBits_37 (lv_at hl 5 rfl) ?_
        refine nv_ishl hx hb dX1_rightBits_39 (by omega) ?_
        refine nv_ior hx hb dX1_rightBits_40 ?_
        refine lv_istore_n (lv' := [(3, .int (nI ((mk (rbB σ t k) i) ||| (((((rtM σ (8 + t * ((σ 1) + 1) + i)) &&& k != 0) ^^ (crN σ (8 + t * ((σ 1) + 1) + i) == 1)).toNat) <<< i)))), (5, .int (nI (8 + t * ((σ 1) + 1) + i))), (0, .ref h), (1, .int (nI t)), (2, .int (nI k)), (4, .int (nI i))]) hx hb dX1_rightBits_41 rfl hl (by decide) rfl (fun ls hl => ?_)
        refine nv_inc (k := 5) (lv' := [(4, .int (nI (i + 1))), (3, .int (nI ((mk (rbB σ t k) i) ||| (((((rtM σ (8 + t * ((σ 1) + 1) + i)) &&& k != 0) ^^ (crN σ (8 + t * ((σ 1) + 1) + i) == 1)).toNat) <<< i)))), (5, .int (nI (8 + t * ((σ 1) + 1) + i))), (0, .ref h), (1, .int (nI t)), (2, .int (nI k))]) hx hb dX1_rightBits_42 hl rfl (by decide) rfl (fun ls hl => ?_)
        refine lv_goto (tgt := 5) hx hb dX1_rightBits_45 (by decide) ?_
        exact ih5 (i + 1) (by omega) (by omega)  ls (lv_sub hl [3, 4, 5, 1, 0] rfl)
  exact L5 (σ 1 + 1 + 1) 0 (by omega) (by omega)  ls (lv_sub hl [2, 3, 4, 1, 0] rfl)
set_option maxHeartbeats 4000000 in
set_option maxRecDepth 100000 in
theorem c_X1_rawBits (l : Launch) (D : va_G) (cI cR : ClassId) (h : Nat) (a : Nat → Nat) (σ : Nat → Nat) (ad : Nat)  (hw : wf σ) (h1 : ad < nA σ) : MetR l yX1_rawBits cX1_rawBits 7 (some .int) (rmK 1 24) (nPre D (nTy cI cR) [.ref h, .int (nI ad)] (wRp h a cI (σ 0) (σ 1) (σ 2) (onF σ) (wwF σ) (crF σ) (ptF σ))) (nI (rwM (wvM σ) σ ad)) := by
  refine met_read rfl (Nat.le_of_ble_eq_true rfl) ?_
  intro p e s m args below meth c ls hx hb hml hr hlocks hown hts hP hK hl
  have hl : lv_has ls 7 [(0, .ref h), (1, .int (nI ad))] := hl
  have hA41 := hw.w41
  have hA33 := hw.a33
  have hA48 := hw.a48
  obtain ⟨hR2, hR, hB1, hB, hS1, hS, -⟩ := id hw
  obtain ⟨hd1, hd2, hd3⟩ := ad_div hS1 h1
  refine lv_aload_n hx hb dX1_rawBits_0 rfl (lv_at hl 0 rfl) ?_
  refine lv_aload_n hx hb dX1_rawBits_1 rfl (lv_at hl 0 rfl) ?_
  refine lv_aload_n hx hb dX1_rawBits_2 rfl (lv_at hl 0 rfl) ?_
  refine lv_iload_n hx hb dX1_rawBits_3 rfl (lv_at hl 1 rfl) ?_
  refine nv_callV [.int (nI ad)] [.ref h, .ref h] hx hb hml hown hts k_RX1_91 (c_X1_ringOf l D cI cR h a (σ 0) (σ 1) (σ 2) (onF σ) (wwF σ) (crF σ) (ptF σ) ad (by omega) (by omega) (by omega)) ⟨rfl, rfl, Nat.le_of_ble_eq_true rfl, Nat.le_of_ble_eq_true rfl⟩ hP hK 1 rfl rfl rfl rfl hl rfl (Nat.le_of_ble_eq_true rfl) dX1_rawBits_4 ⟨Nat.zero_le _, Nat.zero_le _⟩ ?_
  refine nv_callV [.int (nI (ad / (σ 2)))] [.ref h] hx hb hml hown hts k_RX1_85 (c_X1_codeOf l D cI cR h a σ (ad / (σ 2)) hw hd1) ⟨rfl, rfl, Nat.le_of_ble_eq_true rfl, Nat.le_of_ble_eq_true rfl⟩ hP hK 1 rfl rfl rfl rfl hl rfl (Nat.le_of_ble_eq_true rfl) dX1_rawBits_7 ⟨Nat.zero_le _, Nat.zero_le _⟩ ?_
  refine nv_callV [.int (nI (σ (3 + (ad / (σ 2)))))] [] hx hb hml hown hts k_RX1_107 (c_X1_pickedBy l D cI cR h a σ (σ (3 + (ad / (σ 2)))) hw (by have := hw.cd hd1; omega)) ⟨rfl, rfl, Nat.le_of_ble_eq_true rfl, Nat.le_of_ble_eq_true rfl⟩ hP hK 1 rfl rfl rfl rfl hl rfl (Nat.le_of_ble_eq_true rfl) dX1_rawBits_10 ⟨Nat.zero_le _, Nat.zero_le _⟩ ?_
  refine lv_istore_n (lv' := [(2, .int (nI (pkM (wvM σ) σ (σ (3 + (ad / (σ 2))))))), (0, .ref h), (1, .int (nI ad))]) hx hb dX1_rawBits_13 rfl hl (by decide) rfl (fun ls hl => ?_)
  refine lv_aload_n hx hb dX1_rawBits_14 rfl (lv_at hl 1 rfl) ?_
  refine lv_iload_n hx hb dX1_rawBits_15 rfl (lv_at hl 2 rfl) ?_
  refine nv_callV [.int (nI ad)] [] hx hb hml hown hts k_RX1_88 (c_X1_setOf l D cI cR h a (σ 0) (σ 1) (σ 2) (onF σ) (wwF σ) (crF σ) (ptF σ) ad (by omega) (by omega) (by omega)) ⟨rfl, rfl, Nat.le_of_ble_eq_true rfl, Nat.le_of_ble_eq_true rfl⟩ hP hK 1 rfl rfl rfl rfl hl rfl (Nat.le_of_ble_eq_true rfl) dX1_rawBits_16 ⟨Nat.zero_le _, Nat.zero_le _⟩ ?_
  refine lv_istore_n (lv' := [(3, .int (nI (ad % (σ 2)))), (2, .int (nI (pkM (wvM σ) σ (σ (3 + (ad / (σ 2))))))), (0, .ref h), (1, .int (nI ad))]) hx hb dX1_rawBits_19 rfl hl (by decide) rfl (fun ls hl => ?_)
  refine lv_iconst (v := nI 0) hx hb dX1_rawBits_20 (by decide) ?_
  refine lv_istore (lv' := [(4, .int (nI 0)), (3, .int (nI (ad % (σ 2)))), (2, .int (nI (pkM (wvM σ) σ (σ (3 + (ad / (σ 2))))))), (0, .ref h), (1, .int (nI ad))]) hx hb dX1_rawBits_21 hl (by decide) rfl (fun ls hl => ?_)
  refine lv_iconst (v := nI 0) hx hb dX1_rawBits_23 (by decide) ?_
  refine lv_istore (lv' := [(5, .int (nI 0)), (4, .int (nI 0)), (3, .int (nI (ad % (σ 2)))), (2, .int (nI (pkM (wvM σ) σ (σ (3 + (ad / (σ 2))))))), (0, .ref h), (1, .int (nI ad))]) hx hb dX1_rawBits_24 hl (by decide) rfl (fun ls hl => ?_)
  have L26 : ∀ (n26 i : Nat), σ 1 + 1 + 1 ≤ i + n26 → i ≤ σ 1 + 1 → ∀ (ls : Array Slot), lv_has ls 7 [(0, .ref h), (1, .int (nI ad)), (2, .int (nI (pkM (wvM σ) σ (σ (3 + ad / σ 2))))), (3, .int (nI (ad % σ 2))), (4, .int (nI (mk (rwB (wvM σ) σ ad) i))), (5, .int (nI i))] → W p l e (rmK 1 24) s m args below meth c s.heap [] 0 0 (MQ below (QcRead (nI (rwM (wvM σ) σ ad))) args s 0 0 (fun _ => False)) (F0 m 26 ls []) := by
    intro n26
    induction n26 with
    | zero =>
      intro i h1_26 h2_26
      exact False.elim (by omega)
    | succ n26 ih26 =>
      intro i h1_26 h2_26  ls hl
      refine lv_iload hx hb dX1_rawBits_26 (lv_at hl 5 rfl) ?_
      refine lv_aload_n hx hb dX1_rawBits_28 rfl (lv_at hl 0 rfl) ?_
      refine va_get (D := D) (ci := 1) (v := .int (nI (σ 1))) (C := RX1) (T := TX1) (N := 7) hx hb hts inX1 hown hK hP 0 rfl rfl 1 (by decide) (hts _ fl_RX1_32) (fun _ h9 => h9) rfl dX1_rawBits_29 ?_
      refine nv_icmp_gt (tgt := 79) hx hb dX1_rawBits_32 (by decide) (by omega) (by omega) (fun q_32 => ?_) (fun q_32 => ?_)
      · refine lv_iload hx hb dX1_rawBits_79 (lv_at hl 4 rfl) ?_
        exact nv_ret hx hb hr hlocks (congrArg nI (by rw [show i = σ 1 + 1 by omega]; rfl)) dX1_rawBits_81
      · refine lv_aload_n hx hb dX1_rawBits_35 rfl (lv_at hl 0 rfl) ?_
        refine lv_iload_n hx hb dX1_rawBits_36 rfl (lv_at hl 3 rfl) ?_
        refine lv_iload hx hb dX1_rawBits_37 (lv_at hl 5 rfl) ?_
        refine nv_callV [.int (nI (ad % σ 2)), .int (nI i)] [] hx hb hml hown hts k_RX1_98 (c_X1_senseWire l D cI cR h a (σ 0) (σ 1) (σ 2) (onF σ) (wwF σ) (crF σ) (ptF σ) (ad % σ 2) i ) ⟨rfl, rfl, Nat.le_of_ble_eq_true rfl, Nat.le_of_ble_eq_true rfl⟩ hP hK 1 rfl rfl rfl rfl hl rfl (Nat.le_of_ble_eq_true rfl) dX1_rawBits_39 ⟨Nat.zero_le _, Nat.zero_le _⟩ ?_
        refine lv_istore (lv' := [(6, .int (nI (8 + (ad % σ 2) * ((σ 1) + 1) + i))), (0, .ref h), (1, .int (nI ad)), (2, .int (nI (pkM (wvM σ) σ (σ (3 + ad / σ 2))))), (3, .int (nI (ad % σ 2))), (4, .int (nI (mk (rwB (wvM σ) σ ad) i))), (5, .int (nI i))]) hx hb dX1_rawBits_42 hl (by decide) rfl (fun ls hl => ?_)
        refine lv_iload hx hb dX1_rawBits_44 (lv_at hl 5 rfl) ?_
        refine lv_aload_n hx hb dX1_rawBits_46 rfl (lv_at hl 1 rfl) ?_
        refine lv_iload hx hb dX1_rawBits_47 (lv_at hl 0 rfl) ?_
        refine lv_aload_n hx hb dX1_rawBits_49 rfl (lv_at hl 1 rfl) ?_
        refine lv_iload hx hb dX1_rawBits_50 (lv_at hl 0 rfl) ?_
        refine nv_callV [.int (nI (8 + (ad % σ 2) * ((σ 1) + 1) + i))] [.int (nI (8 + (ad % σ 2) * ((σ 1) + 1) + i)), .ref h, .int (nI (mk (rwB (wvM σ) σ ad) i))] hx hb hml hown hts k_RX1_101 (c_X1_rightWeave l D cI cR h a σ (8 + (ad % σ 2) * ((σ 1) + 1) + i) hw (sw_lt hd2 (by omega))) ⟨rfl, rfl, Nat.le_of_ble_eq_true rfl, Nat.le_of_ble_eq_true rfl⟩ hP hK 1 rfl rfl rfl rfl hl rfl (Nat.le_of_ble_eq_true rfl) dX1_rawBits_52 ⟨Nat.zero_le _, Nat.zero_le _⟩ ?_
        refine lv_aload_n hx hb dX1_rawBits_55 rfl (lv_at hl 1 rfl) ?_
        refine va_get (D := D) (ci := 1) (v := .ref (a 1)) (C := RX1) (T := TX1) (N := 7) hx hb hts inX1 hown hK hP 0 rfl rfl 4 (by decide) (hts _ fl_RX1_15) (fun _ h9 => h9) rfl dX1_rawBits_56 ?_
        refine lv_iload hx hb dX1_rawBits_59 (lv_at hl 0 rfl) ?_
        refine nv_iald (D := D) (v := nI (σ (100 + (8 + (ad % σ 2) * ((σ 1) + 1) + i)))) hx hb hK hP 2 0 rfl rfl (k := 8 + (ad % σ 2) * ((σ 1) + 1) + i) (by have := sw_lt (σ := σ) (b := i) hd2 (by omega); omega) (by decide) (rfl) dX1_rawBits_61 ?_
        refine nv_ixor hx hb dX1_rawBits_62 ?_
        refine nv_top (wvM σ (8 + ad % σ 2 * (σ 1 + 1) + i)) (rfl) ?_
        refine lv_iload_n hx hb dX1_rawBits_63 rfl (lv_at hl 3 rfl) ?_
        refine nv_callV [.int (nI (8 + (ad % σ 2) * ((σ 1) + 1) + i)), .int (nI (wvM σ (8 + ad % σ 2 * (σ 1 + 1) + i))), .int (nI (pkM (wvM σ) σ (σ (3 + ad / σ 2))))] [.int (nI (mk (rwB (wvM σ) σ ad) i))] hx hb hml hown hts k_RX1_110 (c_X1_bitFrom l D cI cR h a σ (8 + (ad % σ 2) * ((σ 1) + 1) + i) (wvM σ (8 + ad % σ 2 * (σ 1 + 1) + i)) (pkM (wvM σ) σ (σ (3 + ad / σ 2))) hw (sw_lt hd2 (by omega)) (wvM_lt hw (sw_lt hd2 (by omega)))) ⟨rfl, rfl, Nat.le_of_ble_eq_true rfl, Nat.le_of_ble_eq_true rfl⟩ hP hK 1 rfl rfl rfl rfl hl rfl (Nat.le_of_ble_eq_true rfl) dX1_rawBits_64 ⟨Nat.zero_le _, Nat.zero_le _⟩ ?_
        refine lv_iload hx hb dX1_rawBits_67 (lv_at hl 6 rfl) ?_
        refine nv_ishl hx hb dX1_rawBits_69 (by omega) ?_
        refine nv_ior hx hb dX1_rawBits_70 ?_
        refine lv_istore (lv' := [(4, .int (nI ((mk (rwB (wvM σ) σ ad) i) ||| (((((wvM σ (8 + ad % σ 2 * (σ 1 + 1) + i)) &&& (pkM (wvM σ) σ (σ (3 + ad / σ 2))) != 0) ^^ (crN σ (8 + (ad % σ 2) * ((σ 1) + 1) + i) == 1)).toNat) <<< i)))), (6, .int (nI (8 + (ad % σ 2) * ((σ 1) + 1) + i))), (0, .ref h), (1, .int (nI ad)), (2, .int (nI (pkM (wvM σ) σ (σ (3 + ad / σ 2))))), (3, .int (nI (ad % σ 2))), (5, .int (nI i))]) hx hb dX1_rawBits_71 hl (by decide) rfl (fun ls hl => ?_)
        refine nv_inc (k := 6) (lv' := [(5, .int (nI (i + 1))), (4, .int (nI ((mk (rwB (wvM σ) σ ad) i) ||| (((((wvM σ (8 + ad % σ 2 * (σ 1 + 1) + i)) &&& (pkM (wvM σ) σ (σ (3 + ad / σ 2))) != 0) ^^ (crN σ (8 + (ad % σ 2) * ((σ 1) + 1) + i) == 1)).toNat) <<< i)))), (6, .int (nI (8 + (ad % σ 2) * ((σ 1) + 1) + i))), (0, .ref h), (1, .int (nI ad)), (2, .int (nI (pkM (wvM σ) σ (σ (3 + ad / σ 2))))), (3, .int (nI (ad % σ 2)))]) hx hb dX1_rawBits_73 hl rfl (by decide) rfl (fun ls hl => ?_)
        refine lv_goto (tgt := 26) hx hb dX1_rawBits_76 (by decide) ?_
        exact ih26 (i + 1) (by omega) (by omega)  ls (lv_sub hl [3, 4, 5, 6, 1, 0] rfl)
  exact L26 (σ 1 + 1 + 1) 0 (by omega) (by omega)  ls (lv_sub hl [4, 5, 3, 2, 1, 0] rfl)
set_option maxHeartbeats 4000000 in
set_option maxRecDepth 100000 in
theorem c_X1_wordAt (l : Launch) (D : va_G) (cI cR : ClassId) (h : Nat) (a : Nat → Nat) (σ : Nat → Nat) (ad : Nat)  (hw : wf σ) (h1 : ad < nA σ) : MetR l yX1_wordAt cX1_wordAt 2 (some .int) (rmK 2 49) (nPre D (nTy cI cR) [.ref h, .int (nI ad)] (wRp h a cI (σ 0) (σ 1) (σ 2) (onF σ) (wwF σ) (crF σ) (ptF σ))) (nI (σ (19 + ad))) := by
  refine met_read rfl (Nat.le_of_ble_eq_true rfl) ?_
  intro p e s m args below meth c ls hx hb hml hr hlocks hown hts hP hK hl
  have hl : lv_has ls 2 [(0, .ref h), (1, .int (nI ad))] := hl
  have hA41 := hw.w41
  have hA33 := hw.a33
  have hA48 := hw.a48
  obtain ⟨hR2, hR, hB1, hB, hS1, hS, -⟩ := id hw
  obtain ⟨hd1, hd2, hd3⟩ := ad_div hS1 h1
  refine lv_aload_n hx hb dX1_wordAt_0 rfl (lv_at hl 0 rfl) ?_
  refine lv_aload_n hx hb dX1_wordAt_1 rfl (lv_at hl 0 rfl) ?_
  refine lv_iload_n hx hb dX1_wordAt_2 rfl (lv_at hl 1 rfl) ?_
  refine nv_callV [.int (nI ad)] [.ref h] hx hb hml hown hts k_RX1_88 (c_X1_setOf l D cI cR h a (σ 0) (σ 1) (σ 2) (onF σ) (wwF σ) (crF σ) (ptF σ) ad (by omega) (by omega) (by omega)) ⟨rfl, rfl, Nat.le_of_ble_eq_true rfl, Nat.le_of_ble_eq_true rfl⟩ hP hK 1 rfl rfl rfl rfl hl rfl (Nat.le_of_ble_eq_true rfl) dX1_wordAt_3 ⟨Nat.zero_le _, Nat.zero_le _⟩ ?_
  refine lv_iconst (v := nI 1) hx hb dX1_wordAt_6 (by decide) ?_
  refine lv_aload_n hx hb dX1_wordAt_7 rfl (lv_at hl 0 rfl) ?_
  refine lv_iload_n hx hb dX1_wordAt_8 rfl (lv_at hl 1 rfl) ?_
  refine nv_callV [.int (nI ad)] [.int (nI 1), .int (nI (ad % (σ 2))), .ref h] hx hb hml hown hts k_RX1_91 (c_X1_ringOf l D cI cR h a (σ 0) (σ 1) (σ 2) (onF σ) (wwF σ) (crF σ) (ptF σ) ad (by omega) (by omega) (by omega)) ⟨rfl, rfl, Nat.le_of_ble_eq_true rfl, Nat.le_of_ble_eq_true rfl⟩ hP hK 1 rfl rfl rfl rfl hl rfl (Nat.le_of_ble_eq_true rfl) dX1_wordAt_9 ⟨Nat.zero_le _, Nat.zero_le _⟩ ?_
  refine nv_ishl hx hb dX1_wordAt_12 (by omega) ?_
  refine nv_callV [.int (nI (ad % (σ 2))), .int (nI (1 <<< (ad / (σ 2))))] [] hx hb hml hown hts k_RX1_94 (c_X1_rightBits l D cI cR h a σ (ad % (σ 2)) (1 <<< (ad / (σ 2))) hw hd2) ⟨rfl, rfl, Nat.le_of_ble_eq_true rfl, Nat.le_of_ble_eq_true rfl⟩ hP hK 1 rfl rfl rfl rfl hl rfl (Nat.le_of_ble_eq_true rfl) dX1_wordAt_13 ⟨Nat.zero_le _, Nat.zero_le _⟩ ?_
  refine lv_aload_n hx hb dX1_wordAt_16 rfl (lv_at hl 0 rfl) ?_
  refine nv_callV [] [.int (nI (rbM σ (ad % (σ 2)) (1 <<< (ad / (σ 2)))))] hx hb hml hown hts k_RX1_58 (c_X1_highestWord l D cI cR h a (σ 0) (σ 1) (σ 2) (onF σ) (wwF σ) (crF σ) (ptF σ) (by omega)) ⟨rfl, rfl, Nat.le_of_ble_eq_true rfl, Nat.le_of_ble_eq_true rfl⟩ hP hK 1 rfl rfl rfl rfl hl rfl (Nat.le_of_ble_eq_true rfl) dX1_wordAt_17 ⟨Nat.zero_le _, Nat.zero_le _⟩ ?_
  refine nv_iand hx hb dX1_wordAt_20 ?_
  exact nv_ret hx hb hr hlocks (congrArg nI (wordAt_eq hw h1)) dX1_wordAt_21
set_option maxHeartbeats 4000000 in
set_option maxRecDepth 100000 in
theorem c_X1_rawWord (l : Launch) (D : va_G) (cI cR : ClassId) (h : Nat) (a : Nat → Nat) (σ : Nat → Nat) (ad : Nat)  (hw : wf σ) (h1 : ad < nA σ) : MetR l yX1_rawWord cX1_rawWord 2 (some .int) (rmK 2 50) (nPre D (nTy cI cR) [.ref h, .int (nI ad)] (wRp h a cI (σ 0) (σ 1) (σ 2) (onF σ) (wwF σ) (crF σ) (ptF σ))) (nI (rrN σ ad)) := by
  refine met_read rfl (Nat.le_of_ble_eq_true rfl) ?_
  intro p e s m args below meth c ls hx hb hml hr hlocks hown hts hP hK hl
  have hl : lv_has ls 2 [(0, .ref h), (1, .int (nI ad))] := hl
  have hA41 := hw.w41
  have hA33 := hw.a33
  have hA48 := hw.a48
  obtain ⟨hR2, hR, hB1, hB, hS1, hS, -⟩ := id hw
  refine lv_aload_n hx hb dX1_rawWord_0 rfl (lv_at hl 0 rfl) ?_
  refine lv_iload_n hx hb dX1_rawWord_1 rfl (lv_at hl 1 rfl) ?_
  refine nv_callV [.int (nI ad)] [] hx hb hml hown hts k_RX1_114 (c_X1_rawBits l D cI cR h a σ ad hw h1) ⟨rfl, rfl, Nat.le_of_ble_eq_true rfl, Nat.le_of_ble_eq_true rfl⟩ hP hK 1 rfl rfl rfl rfl hl rfl (Nat.le_of_ble_eq_true rfl) dX1_rawWord_2 ⟨Nat.zero_le _, Nat.zero_le _⟩ ?_
  refine lv_aload_n hx hb dX1_rawWord_5 rfl (lv_at hl 0 rfl) ?_
  refine nv_callV [] [.int (nI (rwM (wvM σ) σ ad))] hx hb hml hown hts k_RX1_58 (c_X1_highestWord l D cI cR h a (σ 0) (σ 1) (σ 2) (onF σ) (wwF σ) (crF σ) (ptF σ) (by omega)) ⟨rfl, rfl, Nat.le_of_ble_eq_true rfl, Nat.le_of_ble_eq_true rfl⟩ hP hK 1 rfl rfl rfl rfl hl rfl (Nat.le_of_ble_eq_true rfl) dX1_rawWord_6 ⟨Nat.zero_le _, Nat.zero_le _⟩ ?_
  refine nv_iand hx hb dX1_rawWord_9 ?_
  exact nv_ret hx hb hr hlocks (rfl) dX1_rawWord_10
set_option maxHeartbeats 4000000 in
set_option maxRecDepth 100000 in
theorem c_X1_wordRead (l : Launch) (D : va_G) (cI cR : ClassId) (h : Nat) (a : Nat → Nat) (σ : Nat → Nat) (ad : Nat)  (hw : wf σ) (h1 : ad < nA σ) : MetR l yX1_wordRead cX1_wordRead 2 (some .int) (rmK 2 50) (nPre D (nTy cI cR) [.ref h, .int (nI ad)] (wRp h a cI (σ 0) (σ 1) (σ 2) (onF σ) (wwF σ) (crF σ) (ptF σ))) (nI (rdN σ ad)) := by
  refine met_read rfl (Nat.le_of_ble_eq_true rfl) ?_
  intro p e s m args below meth c ls hx hb hml hr hlocks hown hts hP hK hl
  have hl : lv_has ls 2 [(0, .ref h), (1, .int (nI ad))] := hl
  have hA41 := hw.w41
  have hA33 := hw.a33
  have hA48 := hw.a48
  obtain ⟨hR2, hR, hB1, hB, hS1, hS, -⟩ := id hw
  have hp := hw.pt h1
  refine lv_aload_n hx hb dX1_wordRead_0 rfl (lv_at hl 0 rfl) ?_
  refine va_get (D := D) (ci := 1) (v := .ref (a 3)) (C := RX1) (T := TX1) (N := 7) hx hb hts inX1 hown hK hP 0 rfl rfl 6 (by decide) (hts _ fl_RX1_21) (fun _ h9 => h9) rfl dX1_wordRead_1 ?_
  refine lv_iload_n hx hb dX1_wordRead_4 rfl (lv_at hl 1 rfl) ?_
  refine nv_iald (D := D) (v := (ptF σ) ad) hx hb hK hP 4 0 rfl rfl (k := ad) (by omega) (by decide) (rfl) dX1_wordRead_5 ?_
  refine lv_iconst (v := -1) hx hb dX1_wordRead_6 (by decide) ?_
  refine lv_icmp_ne (tgt := 23) hx hb dX1_wordRead_7 (by decide) (fun q_7 => ?_) (fun q_7 => ?_)
  · refine lv_aload_n hx hb dX1_wordRead_23 rfl (lv_at hl 0 rfl) ?_
    refine va_get (D := D) (ci := 1) (v := .ref (a 3)) (C := RX1) (T := TX1) (N := 7) hx hb hts inX1 hown hK hP 0 rfl rfl 6 (by decide) (hts _ fl_RX1_21) (fun _ h9 => h9) rfl dX1_wordRead_24 ?_
    refine lv_iload_n hx hb dX1_wordRead_27 rfl (lv_at hl 1 rfl) ?_
    refine nv_iald (D := D) (v := (ptF σ) ad) hx hb hK hP 4 0 rfl rfl (k := ad) (by omega) (by decide) (rfl) dX1_wordRead_28 ?_
    exact nv_ret hx hb hr hlocks (by first | (have q := (ptF_m1 hp).mp q_7; unfold rdN; rw [if_pos q]; rfl) | (have q := mt (ptF_m1 hp).mpr q_7; unfold rdN; rw [if_neg q]; exact ptF_v q)) dX1_wordRead_29
  · refine lv_aload_n hx hb dX1_wordRead_10 rfl (lv_at hl 0 rfl) ?_
    refine lv_iload_n hx hb dX1_wordRead_11 rfl (lv_at hl 1 rfl) ?_
    refine nv_callV [.int (nI ad)] [] hx hb hml hown hts k_RX1_114 (c_X1_rawBits l D cI cR h a σ ad hw h1) ⟨rfl, rfl, Nat.le_of_ble_eq_true rfl, Nat.le_of_ble_eq_true rfl⟩ hP hK 1 rfl rfl rfl rfl hl rfl (Nat.le_of_ble_eq_true rfl) dX1_wordRead_12 ⟨Nat.zero_le _, Nat.zero_le _⟩ ?_
    refine lv_aload_n hx hb dX1_wordRead_15 rfl (lv_at hl 0 rfl) ?_
    refine nv_callV [] [.int (nI (rwM (wvM σ) σ ad))] hx hb hml hown hts k_RX1_58 (c_X1_highestWord l D cI cR h a (σ 0) (σ 1) (σ 2) (onF σ) (wwF σ) (crF σ) (ptF σ) (by omega)) ⟨rfl, rfl, Nat.le_of_ble_eq_true rfl, Nat.le_of_ble_eq_true rfl⟩ hP hK 1 rfl rfl rfl rfl hl rfl (Nat.le_of_ble_eq_true rfl) dX1_wordRead_16 ⟨Nat.zero_le _, Nat.zero_le _⟩ ?_
    refine nv_iand hx hb dX1_wordRead_19 ?_
    refine lv_goto (tgt := 29) hx hb dX1_wordRead_20 (by decide) ?_
    exact nv_ret hx hb hr hlocks (by first | (have q := (ptF_m1 hp).mp q_7; unfold rdN; rw [if_pos q]; rfl) | (have q := mt (ptF_m1 hp).mpr q_7; unfold rdN; rw [if_neg q]; exact ptF_v q)) dX1_wordRead_29
set_option maxHeartbeats 4000000 in
set_option maxRecDepth 100000 in
theorem c_X1_parityIsRight (l : Launch) (D : va_G) (cI cR : ClassId) (h : Nat) (a : Nat → Nat) (σ : Nat → Nat) (ad : Nat)  (hw : wf σ) (h1 : ad < nA σ) : MetR l yX1_parityIsRight cX1_parityIsRight 2 (some .boolean) (rmK 2 50) (nPre D (nTy cI cR) [.ref h, .int (nI ad)] (wRp h a cI (σ 0) (σ 1) (σ 2) (onF σ) (wwF σ) (crF σ) (ptF σ))) (zB (paB σ ad)) := by
  refine met_read rfl (Nat.le_of_ble_eq_true rfl) ?_
  intro p e s m args below meth c ls hx hb hml hr hlocks hown hts hP hK hl
  have hl : lv_has ls 2 [(0, .ref h), (1, .int (nI ad))] := hl
  have hA41 := hw.w41
  have hA33 := hw.a33
  have hA48 := hw.a48
  obtain ⟨hR2, hR, hB1, hB, hS1, hS, -⟩ := id hw
  have hp := hw.pt h1
  have hm2 := Nat.mod_lt (pop (rwM (wvM σ) σ ad)) (show 0 < 2 by decide)
  refine lv_aload_n hx hb dX1_parityIsRight_0 rfl (lv_at hl 0 rfl) ?_
  refine va_get (D := D) (ci := 1) (v := .ref (a 3)) (C := RX1) (T := TX1) (N := 7) hx hb hts inX1 hown hK hP 0 rfl rfl 6 (by decide) (hts _ fl_RX1_21) (fun _ h9 => h9) rfl dX1_parityIsRight_1 ?_
  refine lv_iload_n hx hb dX1_parityIsRight_4 rfl (lv_at hl 1 rfl) ?_
  refine nv_iald (D := D) (v := (ptF σ) ad) hx hb hK hP 4 0 rfl rfl (k := ad) (by omega) (by decide) (rfl) dX1_parityIsRight_5 ?_
  refine lv_iconst (v := -1) hx hb dX1_parityIsRight_6 (by decide) ?_
  refine lv_icmp_eq (tgt := 12) hx hb dX1_parityIsRight_7 (by decide) (fun q_7 => ?_) (fun q_7 => ?_)
  · refine lv_aload_n hx hb dX1_parityIsRight_12 rfl (lv_at hl 0 rfl) ?_
    refine lv_iload_n hx hb dX1_parityIsRight_13 rfl (lv_at hl 1 rfl) ?_
    refine nv_callV [.int (nI ad)] [] hx hb hml hown hts k_RX1_114 (c_X1_rawBits l D cI cR h a σ ad hw h1) ⟨rfl, rfl, Nat.le_of_ble_eq_true rfl, Nat.le_of_ble_eq_true rfl⟩ hP hK 1 rfl rfl rfl rfl hl rfl (Nat.le_of_ble_eq_true rfl) dX1_parityIsRight_14 ⟨Nat.zero_le _, Nat.zero_le _⟩ ?_
    refine nv_callS [.int (nI (rwM (wvM σ) σ ad))] [] hx hb hml hown hts k_RX1_73 (c_J6_bitCount_0f7a4 l D cI cR (rwM (wvM σ) σ ad) (Nat.lt_trans (rwM_lt hw _ _) (by decide))) ⟨rfl, rfl, Nat.le_of_ble_eq_true rfl, Nat.le_of_ble_eq_true rfl⟩ (va_P_nil) hK rfl hl rfl (Nat.le_of_ble_eq_true rfl) dX1_parityIsRight_17 ⟨Nat.zero_le _, Nat.zero_le _⟩ ?_
    refine lv_iconst (v := nI 1) hx hb dX1_parityIsRight_20 (by decide) ?_
    refine nv_iand hx hb dX1_parityIsRight_21 ?_
    refine nv_top (pop (rwM (wvM σ) σ ad) % 2) (Nat.and_one_is_mod _) ?_
    refine lv_iconst (v := nI 1) hx hb dX1_parityIsRight_22 (by decide) ?_
    refine nv_icmp_ne (tgt := 30) hx hb dX1_parityIsRight_23 (by decide) (by omega) (by omega) (fun q_23 => ?_) (fun q_23 => ?_)
    · refine lv_iconst (v := nI 0) hx hb dX1_parityIsRight_30 (by decide) ?_
      exact nv_retz hx hb hr hlocks (by decide) (by have q := (ptF_m1 hp).mp q_7; first | exact zB_1 (by unfold paB; simp [q, q_23]) | exact zB_0 (by unfold paB; simp [q]; omega)) dX1_parityIsRight_31
    · refine lv_iconst (v := nI 1) hx hb dX1_parityIsRight_26 (by decide) ?_
      refine lv_goto (tgt := 31) hx hb dX1_parityIsRight_27 (by decide) ?_
      exact nv_retz hx hb hr hlocks (by decide) (by have q := (ptF_m1 hp).mp q_7; first | exact zB_1 (by unfold paB; simp [q, q_23]) | exact zB_0 (by unfold paB; simp [q]; omega)) dX1_parityIsRight_31
  · refine lv_iconst (v := nI 1) hx hb dX1_parityIsRight_10 (by decide) ?_
    exact nv_retz hx hb hr hlocks (by decide) (zB_1 (by unfold paB; simp [mt (ptF_m1 hp).mpr q_7])) dX1_parityIsRight_11
set_option maxHeartbeats 4000000 in
set_option maxRecDepth 100000 in
theorem c_X1_isMisread (l : Launch) (D : va_G) (cI cR : ClassId) (h : Nat) (a : Nat → Nat) (σ : Nat → Nat) (ad : Nat)  (hw : wf σ) (h1 : ad < nA σ) : MetR l yX1_isMisread cX1_isMisread 2 (some .boolean) (rmK 3 71) (nPre D (nTy cI cR) [.ref h, .int (nI ad)] (wRp h a cI (σ 0) (σ 1) (σ 2) (onF σ) (wwF σ) (crF σ) (ptF σ))) (zB (msB σ ad)) := by
  refine met_read rfl (Nat.le_of_ble_eq_true rfl) ?_
  intro p e s m args below meth c ls hx hb hml hr hlocks hown hts hP hK hl
  have hl : lv_has ls 2 [(0, .ref h), (1, .int (nI ad))] := hl
  have hA41 := hw.w41
  have hA33 := hw.a33
  have hA48 := hw.a48
  obtain ⟨hR2, hR, hB1, hB, hS1, hS, -⟩ := id hw
  have hr1 := rdN_lt hw h1
  have hw1 := hw.wd h1
  refine lv_aload_n hx hb dX1_isMisread_0 rfl (lv_at hl 0 rfl) ?_
  refine lv_iload_n hx hb dX1_isMisread_1 rfl (lv_at hl 1 rfl) ?_
  refine nv_callV [.int (nI ad)] [] hx hb hml hown hts k_RX1_134 (c_X1_wordRead l D cI cR h a σ ad hw h1) ⟨rfl, rfl, Nat.le_of_ble_eq_true rfl, Nat.le_of_ble_eq_true rfl⟩ hP hK 1 rfl rfl rfl rfl hl rfl (Nat.le_of_ble_eq_true rfl) dX1_isMisread_2 ⟨Nat.zero_le _, Nat.zero_le _⟩ ?_
  refine lv_aload_n hx hb dX1_isMisread_5 rfl (lv_at hl 0 rfl) ?_
  refine lv_iload_n hx hb dX1_isMisread_6 rfl (lv_at hl 1 rfl) ?_
  refine nv_callV [.int (nI ad)] [.int (nI (rdN σ ad))] hx hb hml hown hts k_RX1_131 (c_X1_wordAt l D cI cR h a σ ad hw h1) ⟨rfl, rfl, Nat.le_of_ble_eq_true rfl, Nat.le_of_ble_eq_true rfl⟩ hP hK 1 rfl rfl rfl rfl hl rfl (Nat.le_of_ble_eq_true rfl) dX1_isMisread_7 ⟨Nat.zero_le _, Nat.zero_le _⟩ ?_
  refine nv_icmp_eq (tgt := 17) hx hb dX1_isMisread_10 (by decide) (by omega) (by omega) (fun q_10 => ?_) (fun q_10 => ?_)
  · refine lv_iconst (v := nI 0) hx hb dX1_isMisread_17 (by decide) ?_
    exact nv_retz hx hb hr hlocks (by decide) (by unfold msB; first | exact zB_1 (by simp [q_10]) | exact zB_0 (by simp [q_10])) dX1_isMisread_18
  · refine lv_iconst (v := nI 1) hx hb dX1_isMisread_13 (by decide) ?_
    refine lv_goto (tgt := 18) hx hb dX1_isMisread_14 (by decide) ?_
    exact nv_retz hx hb hr hlocks (by decide) (by unfold msB; first | exact zB_1 (by simp [q_10]) | exact zB_0 (by simp [q_10])) dX1_isMisread_18
