set_option maxHeartbeats 4000000 in
set_option maxRecDepth 100000 in
theorem c_L_low (l : Launch) (D : va_G) (cI cR : ClassId)  (v : Int32) (k : Nat)  (h1 : 0 < k) (h2 : k < 2 ^ 31) : MetR l yL_low cL_low 2 (some .int) (rmK 0 0) (nPre D (nTy cI cR) [.int v, .int (nI k)] []) (nI (loN v k)) := by
  refine met_read rfl (Nat.le_of_ble_eq_true rfl) ?_
  intro p e s m args below meth c ls hx hb hml hr hlocks hown hts hP hK hl
  have hl : lv_has ls 2 [(0, .int v), (1, .int (nI k))] := hl
  refine lv_iload_n hx hb dL_low_0 rfl (lv_at hl 0 rfl) ?_
  refine lv_ldc (v := 2147483647) hx hb hown (hts _ ct_RL_7) dL_low_1 ?_
  refine lv_iand hx hb dL_low_3 ?_
  refine nv_tope (nI (v.toBitVec.toNat % 2 ^ 31)) (pk_and v 31 (by decide)) ?_
  refine lv_iload_n hx hb dL_low_4 rfl (lv_at hl 1 rfl) ?_
  refine nv_irem hx hb dL_low_5 (Nat.mod_lt _ (by decide)) h1 h2 ?_
  refine nv_top (loN v k) (rfl) ?_
  exact nv_ret hx hb hr hlocks (rfl) dL_low_6
set_option maxHeartbeats 4000000 in
set_option maxRecDepth 100000 in
theorem c_L_ones (l : Launch) (D : va_G) (cI cR : ClassId)  (x : Nat)  (h1 : x < 65536) : MetR l yL_ones cL_ones 3 (some .int) (rmK 0 0) (nPre D (nTy cI cR) [.int (nI x)] []) (nI (pop x)) := by
  refine met_read rfl (Nat.le_of_ble_eq_true rfl) ?_
  intro p e s m args below meth c ls hx hb hml hr hlocks hown hts hP hK hl
  have hl : lv_has ls 3 [(0, .int (nI x))] := hl
  refine lv_iconst (v := nI 0) hx hb dL_ones_0 (by decide) ?_
  refine lv_istore_n (lv' := [(1, .int (nI 0)), (0, .int (nI x))]) hx hb dL_ones_1 rfl hl (by decide) rfl (fun ls hl => ?_)
  refine lv_iconst (v := nI 0) hx hb dL_ones_2 (by decide) ?_
  refine lv_istore_n (lv' := [(2, .int (nI 0)), (1, .int (nI 0)), (0, .int (nI x))]) hx hb dL_ones_3 rfl hl (by decide) rfl (fun ls hl => ?_)
  have L4 : ∀ (n4 i : Nat), 16 + 1 ≤ i + n4 → i ≤ 16 → ∀ (ls : Array Slot), lv_has ls 3 [(0, .int (nI x)), (1, .int (nI (ct x.testBit i))), (2, .int (nI i))] → W p l e (rmK 0 0) s m args below meth c s.heap [] 0 0 (MQ below (QcRead (nI (pop x))) args s 0 0 (fun _ => False)) (F0 m 4 ls []) := by
    intro n4
    induction n4 with
    | zero =>
      intro i h1_4 h2_4
      exact False.elim (by omega)
    | succ n4 ih4 =>
      intro i h1_4 h2_4  ls hl
      refine lv_iload_n hx hb dL_ones_4 rfl (lv_at hl 2 rfl) ?_
      refine lv_bipush (v := nI 16) hx hb dL_ones_5 (by decide) ?_
      refine nv_icmp_ge (tgt := 24) hx hb dL_ones_7 (by decide) (by omega) (by omega) (fun q_7 => ?_) (fun q_7 => ?_)
      · refine lv_iload_n hx hb dL_ones_24 rfl (lv_at hl 1 rfl) ?_
        exact nv_ret hx hb hr hlocks (congrArg nI (by rw [show i = 16 by omega]; rfl)) dL_ones_25
      · refine lv_iload_n hx hb dL_ones_10 rfl (lv_at hl 1 rfl) ?_
        refine lv_iload_n hx hb dL_ones_11 rfl (lv_at hl 0 rfl) ?_
        refine lv_iload_n hx hb dL_ones_12 rfl (lv_at hl 2 rfl) ?_
        refine nv_ishr hx hb dL_ones_13 (by omega) (by omega) ?_
        refine lv_iconst (v := nI 1) hx hb dL_ones_14 (by decide) ?_
        refine nv_iand hx hb dL_ones_15 ?_
        refine nv_top ((x.testBit i).toNat) (nw_tb _ _) ?_
        refine nv_iadd hx hb dL_ones_16 ?_
        refine nv_top (ct x.testBit (i + 1)) (rfl) ?_
        refine lv_istore_n (lv' := [(1, .int (nI (ct x.testBit (i + 1)))), (0, .int (nI x)), (2, .int (nI i))]) hx hb dL_ones_17 rfl hl (by decide) rfl (fun ls hl => ?_)
        refine nv_inc (k := 2) (lv' := [(2, .int (nI (i + 1))), (1, .int (nI (ct x.testBit (i + 1)))), (0, .int (nI x))]) hx hb dL_ones_18 hl rfl (by decide) rfl (fun ls hl => ?_)
        refine lv_goto (tgt := 4) hx hb dL_ones_21 (by decide) ?_
        exact ih4 (i + 1) (by omega) (by omega)  ls (lv_sub hl [2, 1, 0] rfl)
  exact L4 17 0 (by omega) (by omega)  ls (lv_sub hl [2, 1, 0] rfl)
set_option maxHeartbeats 4000000 in
set_option maxRecDepth 100000 in
theorem c_L_isSound (l : Launch) (D : va_G) (cI cR : ClassId) (h : Nat) (ad : Nat → Nat) (aa : Nat → Nat → Nat) (σ : Nat → Nat) (o : Nat) (n : Nat) (τ : Nat → Nat → Nat)   (hw : wf σ) (h4 : pcN σ ≤ 4) : MetR l yL_isSound cL_isSound 9 (some .boolean) (rmK 7 158) (nPre D (nTy cI cR) [.ref h] (wS h ad aa cI cR σ o n τ)) (nI (1)) := by
  refine met_read rfl (Nat.le_of_ble_eq_true rfl) ?_
  intro p e s m args below meth c ls hx hb hml hr hlocks hown hts hP hK hl
  have hl : lv_has ls 9 [(0, .ref h)] := hl
  have hA41 := hw.w41
  have hA33 := hw.a33
  have hA48 := hw.a48
  obtain ⟨hR2, hR, hB1, hB, hS1, hS, -⟩ := id hw
  have hcw := cw_le hw
  have hc0 := ct_le48 hw (iwB σ 0)
  have hc1 := ct_le48 hw (iwB σ 1)
  have hc2 := ct_le48 hw (iwB σ 2)
  have hc3 := ct_le48 hw (iwB σ 3)
  have hc5 := ct_le48 hw (fun a => σ (141 + a) != 0)
  have hsc := sc_le hw (Nat.le_refl (nW σ))
  refine lv_iconst (v := nI 0) hx hb dL_isSound_0 (by decide) ?_
  refine lv_istore_n (lv' := [(1, .int (nI 0)), (0, .ref h)]) hx hb dL_isSound_1 rfl hl (by decide) rfl (fun ls hl => ?_)
  refine lv_iconst (v := nI 0) hx hb dL_isSound_2 (by decide) ?_
  refine lv_istore_n (lv' := [(2, .int (nI 0)), (1, .int (nI 0)), (0, .ref h)]) hx hb dL_isSound_3 rfl hl (by decide) rfl (fun ls hl => ?_)
  refine lv_iconst (v := nI 0) hx hb dL_isSound_4 (by decide) ?_
  refine lv_istore_n (lv' := [(3, .int (nI 0)), (2, .int (nI 0)), (1, .int (nI 0)), (0, .ref h)]) hx hb dL_isSound_5 rfl hl (by decide) rfl (fun ls hl => ?_)
  refine lv_iconst (v := nI 0) hx hb dL_isSound_6 (by decide) ?_
  refine lv_istore (lv' := [(4, .int (nI 0)), (3, .int (nI 0)), (2, .int (nI 0)), (1, .int (nI 0)), (0, .ref h)]) hx hb dL_isSound_7 hl (by decide) rfl (fun ls hl => ?_)
  refine lv_iconst (v := nI 0) hx hb dL_isSound_9 (by decide) ?_
  refine lv_istore (lv' := [(5, .int (nI 0)), (4, .int (nI 0)), (3, .int (nI 0)), (2, .int (nI 0)), (1, .int (nI 0)), (0, .ref h)]) hx hb dL_isSound_10 hl (by decide) rfl (fun ls hl => ?_)
  refine lv_iconst (v := nI 0) hx hb dL_isSound_12 (by decide) ?_
  refine lv_istore (lv' := [(6, .int (nI 0)), (5, .int (nI 0)), (4, .int (nI 0)), (3, .int (nI 0)), (2, .int (nI 0)), (1, .int (nI 0)), (0, .ref h)]) hx hb dL_isSound_13 hl (by decide) rfl (fun ls hl => ?_)
  have L15 : ∀ (n15 i : Nat), nA σ + 1 ≤ i + n15 → i ≤ nA σ → ∀ (ls : Array Slot), lv_has ls 9 [(0, .ref h), (1, .int (nI (ct (iwB σ 0) i))), (2, .int (nI (ct (iwB σ 1) i))), (3, .int (nI (ct (iwB σ 2) i))), (4, .int (nI (ct (iwB σ 3) i))), (5, .int (nI (ct (fun a => σ (141 + a) != 0) i))), (6, .int (nI i))] → W p l e (rmK 7 158) s m args below meth c s.heap [] 0 0 (MQ below (QcRead (nI (1))) args s 0 0 (fun _ => False)) (F0 m 15 ls []) := by
    intro n15
    induction n15 with
    | zero =>
      intro i h1_15 h2_15
      exact False.elim (by omega)
    | succ n15 ih15 =>
      intro i h1_15 h2_15  ls hl
      refine lv_iload hx hb dL_isSound_15 (lv_at hl 6 rfl) ?_
      refine lv_aload_n hx hb dL_isSound_17 rfl (lv_at hl 0 rfl) ?_
      refine lv_iconst (v := nI 3) hx hb dL_isSound_18 (by decide) ?_
      refine nv_callV [.int (nI 3)] [.int (nI i)] hx hb hml hown hts k_RL_8 (c_X3_count3 l D cI cR h ad aa σ o n τ 3 hw rfl) ⟨rfl, rfl, Nat.le_of_ble_eq_true rfl, Nat.le_of_ble_eq_true rfl⟩ hP hK 3 rfl rfl rfl rfl hl rfl (Nat.le_of_ble_eq_true rfl) dL_isSound_19 ⟨Nat.zero_le _, Nat.zero_le _⟩ ?_
      refine nv_icmp_ge (tgt := 271) hx hb dL_isSound_22 (by decide) (by omega) (by omega) (fun q_22 => ?_) (fun q_22 => ?_)
      · have ei : i = nA σ := by omega
        have hl := lv_repl [(0, .ref h), (1, .int (nI (ct (iwB σ 0) (nA σ)))), (2, .int (nI (ct (iwB σ 1) i))), (3, .int (nI (ct (iwB σ 2) i))), (4, .int (nI (ct (iwB σ 3) i))), (5, .int (nI (ct (fun a => σ (141 + a) != 0) i))), (6, .int (nI i))] 1 rfl (congrArg (fun z : Nat => Value.int (nI z)) (show (ct (iwB σ 0) i) = (ct (iwB σ 0) (nA σ)) from by rw [ei])) rfl hl
        have hl := lv_repl [(0, .ref h), (1, .int (nI (ct (iwB σ 0) (nA σ)))), (2, .int (nI (ct (iwB σ 1) (nA σ)))), (3, .int (nI (ct (iwB σ 2) i))), (4, .int (nI (ct (iwB σ 3) i))), (5, .int (nI (ct (fun a => σ (141 + a) != 0) i))), (6, .int (nI i))] 2 rfl (congrArg (fun z : Nat => Value.int (nI z)) (show (ct (iwB σ 1) i) = (ct (iwB σ 1) (nA σ)) from by rw [ei])) rfl hl
        have hl := lv_repl [(0, .ref h), (1, .int (nI (ct (iwB σ 0) (nA σ)))), (2, .int (nI (ct (iwB σ 1) (nA σ)))), (3, .int (nI (ct (iwB σ 2) (nA σ)))), (4, .int (nI (ct (iwB σ 3) i))), (5, .int (nI (ct (fun a => σ (141 + a) != 0) i))), (6, .int (nI i))] 3 rfl (congrArg (fun z : Nat => Value.int (nI z)) (show (ct (iwB σ 2) i) = (ct (iwB σ 2) (nA σ)) from by rw [ei])) rfl hl
        have hl := lv_repl [(0, .ref h), (1, .int (nI (ct (iwB σ 0) (nA σ)))), (2, .int (nI (ct (iwB σ 1) (nA σ)))), (3, .int (nI (ct (iwB σ 2) (nA σ)))), (4, .int (nI (ct (iwB σ 3) (nA σ)))), (5, .int (nI (ct (fun a => σ (141 + a) != 0) i))), (6, .int (nI i))] 4 rfl (congrArg (fun z : Nat => Value.int (nI z)) (show (ct (iwB σ 3) i) = (ct (iwB σ 3) (nA σ)) from by rw [ei])) rfl hl
        have hl := lv_repl [(0, .ref h), (1, .int (nI (ct (iwB σ 0) (nA σ)))), (2, .int (nI (ct (iwB σ 1) (nA σ)))), (3, .int (nI (ct (iwB σ 2) (nA σ)))), (4, .int (nI (ct (iwB σ 3) (nA σ)))), (5, .int (nI (ct (fun a => σ (141 + a) != 0) (nA σ)))), (6, .int (nI i))] 5 rfl (congrArg (fun z : Nat => Value.int (nI z)) (show (ct (fun a => σ (141 + a) != 0) i) = (ct (fun a => σ (141 + a) != 0) (nA σ)) from by rw [ei])) rfl hl
        refine lv_iconst (v := nI 0) hx hb dL_isSound_271 (by decide) ?_
        refine lv_istore (lv' := [(6, .int (nI 0)), (0, .ref h), (1, .int (nI (ct (iwB σ 0) (nA σ)))), (2, .int (nI (ct (iwB σ 1) (nA σ)))), (3, .int (nI (ct (iwB σ 2) (nA σ)))), (4, .int (nI (ct (iwB σ 3) (nA σ)))), (5, .int (nI (ct (fun a => σ (141 + a) != 0) (nA σ))))]) hx hb dL_isSound_272 hl (by decide) rfl (fun ls hl => ?_)
        refine lv_iconst (v := nI 0) hx hb dL_isSound_274 (by decide) ?_
        refine lv_istore (lv' := [(7, .int (nI 0)), (6, .int (nI 0)), (0, .ref h), (1, .int (nI (ct (iwB σ 0) (nA σ)))), (2, .int (nI (ct (iwB σ 1) (nA σ)))), (3, .int (nI (ct (iwB σ 2) (nA σ)))), (4, .int (nI (ct (iwB σ 3) (nA σ)))), (5, .int (nI (ct (fun a => σ (141 + a) != 0) (nA σ))))]) hx hb dL_isSound_275 hl (by decide) rfl (fun ls hl => ?_)
        have L277 : ∀ (n277 j : Nat), nW σ + 1 ≤ j + n277 → j ≤ nW σ → ∀ (ls : Array Slot), lv_has ls 9 [(7, .int (nI j)), (6, .int (nI (sm (csN σ) j))), (0, .ref h), (1, .int (nI (ct (iwB σ 0) (nA σ)))), (2, .int (nI (ct (iwB σ 1) (nA σ)))), (3, .int (nI (ct (iwB σ 2) (nA σ)))), (4, .int (nI (ct (iwB σ 3) (nA σ)))), (5, .int (nI (ct (fun a => σ (141 + a) != 0) (nA σ))))] → W p l e (rmK 7 158) s m args below meth c s.heap [] 0 0 (MQ below (QcRead (nI (1))) args s 0 0 (fun _ => False)) (F0 m 277 ls []) := by
          intro n277
          induction n277 with
          | zero =>
            intro j h1_277 h2_277
            exact False.elim (by omega)
          | succ n277 ih277 =>
            intro j h1_277 h2_277  ls hl
            refine lv_iload hx hb dL_isSound_277 (lv_at hl 0 rfl) ?_
            refine lv_aload_n hx hb dL_isSound_279 rfl (lv_at hl 2 rfl) ?_
            refine lv_iconst (v := nI 4) hx hb dL_isSound_280 (by decide) ?_
            refine nv_callV [.int (nI 4)] [.int (nI j)] hx hb hml hown hts k_RL_8 (c_X3_count4 l D cI cR h ad aa σ o n τ 4 hw rfl) ⟨rfl, rfl, Nat.le_of_ble_eq_true rfl, Nat.le_of_ble_eq_true rfl⟩ hP hK 3 rfl rfl rfl rfl hl rfl (Nat.le_of_ble_eq_true rfl) dL_isSound_281 ⟨Nat.zero_le _, Nat.zero_le _⟩ ?_
            refine nv_icmp_ge (tgt := 344) hx hb dL_isSound_284 (by decide) (by omega) (by omega) (fun q_284 => ?_) (fun q_284 => ?_)
            · have ej : j = nW σ := by omega
              have hl := lv_repl [(7, .int (nI j)), (6, .int (nI (sm (csN σ) (nW σ)))), (0, .ref h), (1, .int (nI (ct (iwB σ 0) (nA σ)))), (2, .int (nI (ct (iwB σ 1) (nA σ)))), (3, .int (nI (ct (iwB σ 2) (nA σ)))), (4, .int (nI (ct (iwB σ 3) (nA σ)))), (5, .int (nI (ct (fun a => σ (141 + a) != 0) (nA σ))))] 1 rfl (congrArg (fun z : Nat => Value.int (nI z)) (show (sm (csN σ) j) = (sm (csN σ) (nW σ)) from by rw [ej])) rfl hl
              refine lv_aload_n hx hb dL_isSound_344 rfl (lv_at hl 2 rfl) ?_
              refine lv_iconst (v := nI 0) hx hb dL_isSound_345 (by decide) ?_
              refine nv_callV [.int (nI 0)] [] hx hb hml hown hts k_RL_38 (c_X3_wrongN l D cI cR h ad aa σ o n τ 0 hw (by omega)) ⟨rfl, rfl, Nat.le_of_ble_eq_true rfl, Nat.le_of_ble_eq_true rfl⟩ hP hK 3 rfl rfl rfl rfl hl rfl (Nat.le_of_ble_eq_true rfl) dL_isSound_346 ⟨Nat.zero_le _, Nat.zero_le _⟩ ?_
              refine lv_iload_n hx hb dL_isSound_349 rfl (lv_at hl 3 rfl) ?_
              refine nv_icmp_ne (tgt := 456) hx hb dL_isSound_350 (by decide) (by omega) (by omega) (fun q_350 => False.elim (q_350 rfl)) (fun q_350 => ?_)
              refine lv_aload_n hx hb dL_isSound_353 rfl (lv_at hl 2 rfl) ?_
              refine lv_iconst (v := nI 1) hx hb dL_isSound_354 (by decide) ?_
              refine nv_callV [.int (nI 1)] [] hx hb hml hown hts k_RL_38 (c_X3_wrongN l D cI cR h ad aa σ o n τ 1 hw (by omega)) ⟨rfl, rfl, Nat.le_of_ble_eq_true rfl, Nat.le_of_ble_eq_true rfl⟩ hP hK 3 rfl rfl rfl rfl hl rfl (Nat.le_of_ble_eq_true rfl) dL_isSound_355 ⟨Nat.zero_le _, Nat.zero_le _⟩ ?_
              refine lv_iload_n hx hb dL_isSound_358 rfl (lv_at hl 4 rfl) ?_
              refine nv_icmp_ne (tgt := 456) hx hb dL_isSound_359 (by decide) (by omega) (by omega) (fun q_359 => False.elim (q_359 rfl)) (fun q_359 => ?_)
              refine lv_aload_n hx hb dL_isSound_362 rfl (lv_at hl 2 rfl) ?_
              refine lv_iconst (v := nI 2) hx hb dL_isSound_363 (by decide) ?_
              refine nv_callV [.int (nI 2)] [] hx hb hml hown hts k_RL_38 (c_X3_wrongN l D cI cR h ad aa σ o n τ 2 hw (by omega)) ⟨rfl, rfl, Nat.le_of_ble_eq_true rfl, Nat.le_of_ble_eq_true rfl⟩ hP hK 3 rfl rfl rfl rfl hl rfl (Nat.le_of_ble_eq_true rfl) dL_isSound_364 ⟨Nat.zero_le _, Nat.zero_le _⟩ ?_
              refine lv_iload_n hx hb dL_isSound_367 rfl (lv_at hl 5 rfl) ?_
              refine nv_icmp_ne (tgt := 456) hx hb dL_isSound_368 (by decide) (by omega) (by omega) (fun q_368 => False.elim (q_368 rfl)) (fun q_368 => ?_)
              refine lv_aload_n hx hb dL_isSound_371 rfl (lv_at hl 2 rfl) ?_
              refine lv_iconst (v := nI 3) hx hb dL_isSound_372 (by decide) ?_
              refine nv_callV [.int (nI 3)] [] hx hb hml hown hts k_RL_38 (c_X3_wrongN l D cI cR h ad aa σ o n τ 3 hw (by omega)) ⟨rfl, rfl, Nat.le_of_ble_eq_true rfl, Nat.le_of_ble_eq_true rfl⟩ hP hK 3 rfl rfl rfl rfl hl rfl (Nat.le_of_ble_eq_true rfl) dL_isSound_373 ⟨Nat.zero_le _, Nat.zero_le _⟩ ?_
              refine lv_iload hx hb dL_isSound_376 (lv_at hl 6 rfl) ?_
              refine nv_icmp_ne (tgt := 456) hx hb dL_isSound_378 (by decide) (by omega) (by omega) (fun q_378 => False.elim (q_378 rfl)) (fun q_378 => ?_)
              refine lv_aload_n hx hb dL_isSound_381 rfl (lv_at hl 2 rfl) ?_
              refine lv_bipush (v := nI 7) hx hb dL_isSound_382 (by decide) ?_
              refine nv_callV [.int (nI 7)] [] hx hb hml hown hts k_RL_8 (c_X3_count7 l D cI cR h ad aa σ o n τ 7 hw rfl) ⟨rfl, rfl, Nat.le_of_ble_eq_true rfl, Nat.le_of_ble_eq_true rfl⟩ hP hK 3 rfl rfl rfl rfl hl rfl (Nat.le_of_ble_eq_true rfl) dL_isSound_384 ⟨Nat.zero_le _, Nat.zero_le _⟩ ?_
              refine lv_iload hx hb dL_isSound_387 (lv_at hl 7 rfl) ?_
              refine nv_icmp_ne (tgt := 456) hx hb dL_isSound_389 (by decide) (by omega) (by omega) (fun q_389 => False.elim (q_389 rfl)) (fun q_389 => ?_)
              refine lv_iload hx hb dL_isSound_392 (lv_at hl 7 rfl) ?_
              refine lv_iconst (v := nI 4) hx hb dL_isSound_394 (by decide) ?_
              refine nv_icmp_gt (tgt := 456) hx hb dL_isSound_395 (by decide) (by omega) (by omega) (fun q_395 => False.elim (by have hc6 : ct (fun a => σ (141 + a) != 0) (nA σ) ≤ 4 := h4; omega)) (fun q_395 => ?_)
              have hc6 : ct (fun a => σ (141 + a) != 0) (nA σ) ≤ 4 := h4
              refine lv_aload_n hx hb dL_isSound_398 rfl (lv_at hl 2 rfl) ?_
              refine lv_bipush (v := nI 8) hx hb dL_isSound_399 (by decide) ?_
              refine nv_callV [.int (nI 8)] [] hx hb hml hown hts k_RL_8 (c_X3_count8 l D cI cR h ad aa σ o n τ 8 hw rfl) ⟨rfl, rfl, Nat.le_of_ble_eq_true rfl, Nat.le_of_ble_eq_true rfl⟩ hP hK 3 rfl rfl rfl rfl hl rfl (Nat.le_of_ble_eq_true rfl) dL_isSound_401 ⟨Nat.zero_le _, Nat.zero_le _⟩ ?_
              refine lv_iload hx hb dL_isSound_404 (lv_at hl 1 rfl) ?_
              refine nv_icmp_ne (tgt := 456) hx hb dL_isSound_406 (by decide) (by omega) (by omega) (fun q_406 => False.elim (q_406 rfl)) (fun q_406 => ?_)
              refine lv_aload_n hx hb dL_isSound_409 rfl (lv_at hl 2 rfl) ?_
              refine lv_iconst (v := nI 3) hx hb dL_isSound_410 (by decide) ?_
              refine nv_callV [.int (nI 3)] [] hx hb hml hown hts k_RL_8 (c_X3_count3 l D cI cR h ad aa σ o n τ 3 hw rfl) ⟨rfl, rfl, Nat.le_of_ble_eq_true rfl, Nat.le_of_ble_eq_true rfl⟩ hP hK 3 rfl rfl rfl rfl hl rfl (Nat.le_of_ble_eq_true rfl) dL_isSound_411 ⟨Nat.zero_le _, Nat.zero_le _⟩ ?_
              refine lv_aload_n hx hb dL_isSound_414 rfl (lv_at hl 2 rfl) ?_
              refine lv_iconst (v := nI 0) hx hb dL_isSound_415 (by decide) ?_
              refine nv_callV [.int (nI 0)] [.int (nI (nA σ))] hx hb hml hown hts k_RL_8 (c_X3_count0 l D cI cR h ad aa σ o n τ 0 hw rfl) ⟨rfl, rfl, Nat.le_of_ble_eq_true rfl, Nat.le_of_ble_eq_true rfl⟩ hP hK 3 rfl rfl rfl rfl hl rfl (Nat.le_of_ble_eq_true rfl) dL_isSound_416 ⟨Nat.zero_le _, Nat.zero_le _⟩ ?_
              refine lv_aload_n hx hb dL_isSound_419 rfl (lv_at hl 2 rfl) ?_
              refine lv_iconst (v := nI 2) hx hb dL_isSound_420 (by decide) ?_
              refine nv_callV [.int (nI 2)] [.int (nI (σ 0)), .int (nI (nA σ))] hx hb hml hown hts k_RL_8 (c_X3_count2 l D cI cR h ad aa σ o n τ 2 hw rfl) ⟨rfl, rfl, Nat.le_of_ble_eq_true rfl, Nat.le_of_ble_eq_true rfl⟩ hP hK 3 rfl rfl rfl rfl hl rfl (Nat.le_of_ble_eq_true rfl) dL_isSound_421 ⟨Nat.zero_le _, Nat.zero_le _⟩ ?_
              refine nv_imul hx hb dL_isSound_424 ?_
              refine nv_icmp_ne (tgt := 456) hx hb dL_isSound_425 (by decide) (by omega) (by unfold nA at hA48; omega) (fun q_425 => False.elim (q_425 rfl)) (fun q_425 => ?_)
              refine lv_aload_n hx hb dL_isSound_428 rfl (lv_at hl 2 rfl) ?_
              refine lv_iconst (v := nI 4) hx hb dL_isSound_429 (by decide) ?_
              refine nv_callV [.int (nI 4)] [] hx hb hml hown hts k_RL_8 (c_X3_count4 l D cI cR h ad aa σ o n τ 4 hw rfl) ⟨rfl, rfl, Nat.le_of_ble_eq_true rfl, Nat.le_of_ble_eq_true rfl⟩ hP hK 3 rfl rfl rfl rfl hl rfl (Nat.le_of_ble_eq_true rfl) dL_isSound_430 ⟨Nat.zero_le _, Nat.zero_le _⟩ ?_
              refine lv_bipush (v := nI 8) hx hb dL_isSound_433 (by decide) ?_
              refine lv_aload_n hx hb dL_isSound_435 rfl (lv_at hl 2 rfl) ?_
              refine lv_iconst (v := nI 2) hx hb dL_isSound_436 (by decide) ?_
              refine nv_callV [.int (nI 2)] [.int (nI 8), .int (nI (nW σ))] hx hb hml hown hts k_RL_8 (c_X3_count2 l D cI cR h ad aa σ o n τ 2 hw rfl) ⟨rfl, rfl, Nat.le_of_ble_eq_true rfl, Nat.le_of_ble_eq_true rfl⟩ hP hK 3 rfl rfl rfl rfl hl rfl (Nat.le_of_ble_eq_true rfl) dL_isSound_437 ⟨Nat.zero_le _, Nat.zero_le _⟩ ?_
              refine lv_aload_n hx hb dL_isSound_440 rfl (lv_at hl 2 rfl) ?_
              refine lv_iconst (v := nI 1) hx hb dL_isSound_441 (by decide) ?_
              refine nv_callV [.int (nI 1)] [.int (nI (σ 2)), .int (nI 8), .int (nI (nW σ))] hx hb hml hown hts k_RL_8 (c_X3_count1 l D cI cR h ad aa σ o n τ 1 hw rfl) ⟨rfl, rfl, Nat.le_of_ble_eq_true rfl, Nat.le_of_ble_eq_true rfl⟩ hP hK 3 rfl rfl rfl rfl hl rfl (Nat.le_of_ble_eq_true rfl) dL_isSound_442 ⟨Nat.zero_le _, Nat.zero_le _⟩ ?_
              refine lv_iconst (v := nI 1) hx hb dL_isSound_445 (by decide) ?_
              refine nv_iadd hx hb dL_isSound_446 ?_
              refine nv_imul hx hb dL_isSound_447 ?_
              refine nv_iadd hx hb dL_isSound_448 ?_
              refine nv_icmp_ne (tgt := 456) hx hb dL_isSound_449 (by decide) (by omega) (by unfold nW at hA41; omega) (fun q_449 => False.elim (q_449 rfl)) (fun q_449 => ?_)
              refine lv_iconst (v := nI 1) hx hb dL_isSound_452 (by decide) ?_
              refine lv_goto (tgt := 457) hx hb dL_isSound_453 (by decide) ?_
              exact nv_retz hx hb hr hlocks (by decide) (rfl) dL_isSound_457
            · have hs1 := sc_le hw (n := j) (by omega)
              have hs2 := sc_le hw (n := j + 1) (by omega)
              have hs3 := cs_le hw (w := j) (by omega)
              refine lv_iload hx hb dL_isSound_287 (lv_at hl 1 rfl) ?_
              refine lv_aload_n hx hb dL_isSound_289 rfl (lv_at hl 2 rfl) ?_
              refine lv_iload hx hb dL_isSound_290 (lv_at hl 0 rfl) ?_
              refine nv_callV [.int (nI j)] [.int (nI (sm (csN σ) j))] hx hb hml hown hts k_RL_35 (c_X3_costN l D cI cR h ad aa σ o n τ j hw (by omega)) ⟨rfl, rfl, Nat.le_of_ble_eq_true rfl, Nat.le_of_ble_eq_true rfl⟩ hP hK 3 rfl rfl rfl rfl hl rfl (Nat.le_of_ble_eq_true rfl) dL_isSound_292 ⟨Nat.zero_le _, Nat.zero_le _⟩ ?_
              refine nv_iadd hx hb dL_isSound_295 ?_
              refine nv_top (sm (csN σ) (j + 1)) (rfl) ?_
              refine lv_istore (lv' := [(6, .int (nI (sm (csN σ) (j + 1)))), (7, .int (nI j)), (0, .ref h), (1, .int (nI (ct (iwB σ 0) (nA σ)))), (2, .int (nI (ct (iwB σ 1) (nA σ)))), (3, .int (nI (ct (iwB σ 2) (nA σ)))), (4, .int (nI (ct (iwB σ 3) (nA σ)))), (5, .int (nI (ct (fun a => σ (141 + a) != 0) (nA σ))))]) hx hb dL_isSound_296 hl (by decide) rfl (fun ls hl => ?_)
              refine lv_iload hx hb dL_isSound_298 (lv_at hl 1 rfl) ?_
              refine lv_bipush (v := nI 8) hx hb dL_isSound_300 (by decide) ?_
              have J302 : ∀ (ls : Array Slot), lv_has ls 9 [(6, .int (nI (sm (csN σ) (j + 1)))), (7, .int (nI j)), (0, .ref h), (1, .int (nI (ct (iwB σ 0) (nA σ)))), (2, .int (nI (ct (iwB σ 1) (nA σ)))), (3, .int (nI (ct (iwB σ 2) (nA σ)))), (4, .int (nI (ct (iwB σ 3) (nA σ)))), (5, .int (nI (ct (fun a => σ (141 + a) != 0) (nA σ))))] → W p l e (rmK 7 158) s m args below meth c s.heap [] 0 0 (MQ below (QcRead (nI (1))) args s 0 0 (fun _ => False)) (F0 m 338 ls []) := by
                intro ls hl
                refine nv_inc (k := 1) (lv' := [(7, .int (nI (j + 1))), (6, .int (nI (sm (csN σ) (j + 1)))), (0, .ref h), (1, .int (nI (ct (iwB σ 0) (nA σ)))), (2, .int (nI (ct (iwB σ 1) (nA σ)))), (3, .int (nI (ct (iwB σ 2) (nA σ)))), (4, .int (nI (ct (iwB σ 3) (nA σ)))), (5, .int (nI (ct (fun a => σ (141 + a) != 0) (nA σ))))]) hx hb dL_isSound_338 hl rfl (by decide) rfl (fun ls hl => ?_)
                refine lv_goto (tgt := 277) hx hb dL_isSound_341 (by decide) ?_
                exact ih277 (j + 1) (by omega) (by omega)  ls (lv_sub hl [0, 1, 2, 3, 4, 5, 6, 7] rfl)
              refine nv_icmp_ge (tgt := 338) hx hb dL_isSound_302 (by decide) (by omega) (by omega) (fun q_302 => ?_) (fun q_302 => ?_)
              · exact J302 ls (lv_sub hl [0, 1, 2, 3, 4, 5, 6, 7] rfl)
              · refine lv_iload hx hb dL_isSound_305 (lv_at hl 1 rfl) ?_
                refine lv_iconst (v := nI 2) hx hb dL_isSound_307 (by decide) ?_
                refine nv_irem hx hb dL_isSound_308 (by omega) (by omega) (by omega) ?_
                refine lv_iconst (v := nI 1) hx hb dL_isSound_309 (by decide) ?_
                refine nv_icmp_ne (tgt := 338) hx hb dL_isSound_310 (by decide) (by omega) (by omega) (fun q_310 => ?_) (fun q_310 => ?_)
                · exact J302 ls (lv_sub hl [0, 1, 2, 3, 4, 5, 6, 7] rfl)
                · refine lv_aload_n hx hb dL_isSound_313 rfl (lv_at hl 2 rfl) ?_
                  refine lv_iload hx hb dL_isSound_314 (lv_at hl 1 rfl) ?_
                  refine nv_callV [.int (nI j)] [] hx hb hml hown hts k_RL_35 (c_X3_costN l D cI cR h ad aa σ o n τ j hw (by omega)) ⟨rfl, rfl, Nat.le_of_ble_eq_true rfl, Nat.le_of_ble_eq_true rfl⟩ hP hK 3 rfl rfl rfl rfl hl rfl (Nat.le_of_ble_eq_true rfl) dL_isSound_316 ⟨Nat.zero_le _, Nat.zero_le _⟩ ?_
                  refine lv_aload_n hx hb dL_isSound_319 rfl (lv_at hl 2 rfl) ?_
                  refine lv_iload hx hb dL_isSound_320 (lv_at hl 1 rfl) ?_
                  refine lv_iconst (v := nI 1) hx hb dL_isSound_322 (by decide) ?_
                  refine nv_isub hx hb dL_isSound_323 (by omega) ?_
                  refine nv_callV [.int (nI (j - 1))] [.int (nI (csN σ j))] hx hb hml hown hts k_RL_35 (c_X3_costN l D cI cR h ad aa σ o n τ (j - 1) hw (by omega)) ⟨rfl, rfl, Nat.le_of_ble_eq_true rfl, Nat.le_of_ble_eq_true rfl⟩ hP hK 3 rfl rfl rfl rfl hl rfl (Nat.le_of_ble_eq_true rfl) dL_isSound_324 ⟨Nat.zero_le _, Nat.zero_le _⟩ ?_
                  refine nv_iadd hx hb dL_isSound_327 ?_
                  refine nv_top (σ 0) (cs_pair hw q_302 q_310) ?_
                  refine lv_aload_n hx hb dL_isSound_328 rfl (lv_at hl 2 rfl) ?_
                  refine lv_iconst (v := nI 0) hx hb dL_isSound_329 (by decide) ?_
                  refine nv_callV [.int (nI 0)] [.int (nI (σ 0))] hx hb hml hown hts k_RL_8 (c_X3_count0 l D cI cR h ad aa σ o n τ 0 hw rfl) ⟨rfl, rfl, Nat.le_of_ble_eq_true rfl, Nat.le_of_ble_eq_true rfl⟩ hP hK 3 rfl rfl rfl rfl hl rfl (Nat.le_of_ble_eq_true rfl) dL_isSound_330 ⟨Nat.zero_le _, Nat.zero_le _⟩ ?_
                  refine nv_icmp_eq (tgt := 338) hx hb dL_isSound_333 (by decide) (by omega) (by omega) (fun q_333 => ?_) (fun q_333 => False.elim (q_333 rfl))
                  exact J302 ls (lv_sub hl [0, 1, 2, 3, 4, 5, 6, 7] rfl)
        exact L277 (nW σ + 1) 0 (by omega) (by omega)  ls (lv_sub hl [0, 1, 2, 3, 4, 5, 6, 7] rfl)
      · have hp := hw.pt q_22
        have hr1 := rdN_lt hw q_22
        have hr2 := rrN_lt hw i
        have hwd := hw.wd q_22
        have hb1 := toNat_le (paB σ i)
        have hb2 := toNat_le (msB σ i)
        refine lv_aload_n hx hb dL_isSound_25 rfl (lv_at hl 0 rfl) ?_
        refine lv_iload hx hb dL_isSound_26 (lv_at hl 6 rfl) ?_
        refine nv_callV [.int (nI i)] [] hx hb hml hown hts k_RL_14 (c_X3_patchOfN l D cI cR h ad aa σ o n τ i hw q_22) ⟨rfl, rfl, Nat.le_of_ble_eq_true rfl, Nat.le_of_ble_eq_true rfl⟩ hP hK 3 rfl rfl rfl rfl hl rfl (Nat.le_of_ble_eq_true rfl) dL_isSound_28 ⟨Nat.zero_le _, Nat.zero_le _⟩ ?_
        refine lv_istore (lv' := [(7, .int (ptF σ i)), (0, .ref h), (1, .int (nI (ct (iwB σ 0) i))), (2, .int (nI (ct (iwB σ 1) i))), (3, .int (nI (ct (iwB σ 2) i))), (4, .int (nI (ct (iwB σ 3) i))), (5, .int (nI (ct (fun a => σ (141 + a) != 0) i))), (6, .int (nI i))]) hx hb dL_isSound_31 hl (by decide) rfl (fun ls hl => ?_)
        refine lv_iload hx hb dL_isSound_33 (lv_at hl 0 rfl) ?_
        refine lv_iconst (v := -1) hx hb dL_isSound_35 (by decide) ?_
        have J36 : ∀ (ls : Array Slot), lv_has ls 9 [(7, .int (ptF σ i)), (0, .ref h), (1, .int (nI (ct (iwB σ 0) i))), (2, .int (nI (ct (iwB σ 1) i))), (3, .int (nI (ct (iwB σ 2) i))), (4, .int (nI (ct (iwB σ 3) i))), (5, .int (nI (ct (fun a => σ (141 + a) != 0) i))), (6, .int (nI i))] → W p l e (rmK 7 158) s m args below meth c s.heap [] 0 0 (MQ below (QcRead (nI (1))) args s 0 0 (fun _ => False)) (F0 m 83 ls []) := by
          intro ls hl
          refine lv_iload hx hb dL_isSound_83 (lv_at hl 6 rfl) ?_
          refine lv_iload hx hb dL_isSound_85 (lv_at hl 0 rfl) ?_
          refine lv_iconst (v := -1) hx hb dL_isSound_87 (by decide) ?_
          have J88 : ∀ (ls : Array Slot), lv_has ls 9 [(7, .int (ptF σ i)), (0, .ref h), (1, .int (nI (ct (iwB σ 0) i))), (2, .int (nI (ct (iwB σ 1) i))), (3, .int (nI (ct (iwB σ 2) i))), (4, .int (nI (ct (iwB σ 3) i))), (5, .int (nI (ct (fun a => σ (141 + a) != 0) i))), (6, .int (nI i))] → W p l e (rmK 7 158) s m args below meth c s.heap [] 0 0 (MQ below (QcRead (nI (1))) args s 0 0 (fun _ => False)) (F0 m 96 ls [.int (nI ((σ (141 + i) != 0).toNat)), .int (nI (ct (fun a => σ (141 + a) != 0) i))]) := by
            intro ls hl
            refine nv_iadd hx hb dL_isSound_96 ?_
            refine nv_top (ct (fun a => σ (141 + a) != 0) (i + 1)) (rfl) ?_
            refine lv_istore (lv' := [(5, .int (nI (ct (fun a => σ (141 + a) != 0) (i + 1)))), (7, .int (ptF σ i)), (0, .ref h), (1, .int (nI (ct (iwB σ 0) i))), (2, .int (nI (ct (iwB σ 1) i))), (3, .int (nI (ct (iwB σ 2) i))), (4, .int (nI (ct (iwB σ 3) i))), (6, .int (nI i))]) hx hb dL_isSound_97 hl (by decide) rfl (fun ls hl => ?_)
            refine lv_aload_n hx hb dL_isSound_99 rfl (lv_at hl 2 rfl) ?_
            refine lv_iload hx hb dL_isSound_100 (lv_at hl 7 rfl) ?_
            refine nv_callV [.int (nI i)] [] hx hb hml hown hts k_RL_17 (c_X3_readN l D cI cR h ad aa σ o n τ i hw q_22) ⟨rfl, rfl, Nat.le_of_ble_eq_true rfl, Nat.le_of_ble_eq_true rfl⟩ hP hK 3 rfl rfl rfl rfl hl rfl (Nat.le_of_ble_eq_true rfl) dL_isSound_102 ⟨Nat.zero_le _, Nat.zero_le _⟩ ?_
            refine lv_aload_n hx hb dL_isSound_105 rfl (lv_at hl 2 rfl) ?_
            refine lv_iload hx hb dL_isSound_106 (lv_at hl 7 rfl) ?_
            refine nv_callV [.int (nI i)] [.int (nI (rdN σ i))] hx hb hml hown hts k_RL_26 (c_X3_wordN l D cI cR h ad aa σ o n τ i hw q_22) ⟨rfl, rfl, Nat.le_of_ble_eq_true rfl, Nat.le_of_ble_eq_true rfl⟩ hP hK 3 rfl rfl rfl rfl hl rfl (Nat.le_of_ble_eq_true rfl) dL_isSound_108 ⟨Nat.zero_le _, Nat.zero_le _⟩ ?_
            have J111 : ∀ (ls : Array Slot), lv_has ls 9 [(5, .int (nI (ct (fun a => σ (141 + a) != 0) (i + 1)))), (7, .int (ptF σ i)), (0, .ref h), (1, .int (nI (ct (iwB σ 0) i))), (2, .int (nI (ct (iwB σ 1) i))), (3, .int (nI (ct (iwB σ 2) i))), (4, .int (nI (ct (iwB σ 3) i))), (6, .int (nI i))] → W p l e (rmK 7 158) s m args below meth c s.heap [] 0 0 (MQ below (QcRead (nI (1))) args s 0 0 (fun _ => False)) (F0 m 119 ls [.int (nI ((msB σ i).toNat))]) := by
              intro ls hl
              refine lv_istore (lv' := [(8, .int (nI ((msB σ i).toNat))), (5, .int (nI (ct (fun a => σ (141 + a) != 0) (i + 1)))), (7, .int (ptF σ i)), (0, .ref h), (1, .int (nI (ct (iwB σ 0) i))), (2, .int (nI (ct (iwB σ 1) i))), (3, .int (nI (ct (iwB σ 2) i))), (4, .int (nI (ct (iwB σ 3) i))), (6, .int (nI i))]) hx hb dL_isSound_119 hl (by decide) rfl (fun ls hl => ?_)
              refine lv_iload_n hx hb dL_isSound_121 rfl (lv_at hl 4 rfl) ?_
              refine lv_iload hx hb dL_isSound_122 (lv_at hl 0 rfl) ?_
              have J124 : ∀ (ls : Array Slot), lv_has ls 9 [(8, .int (nI ((msB σ i).toNat))), (5, .int (nI (ct (fun a => σ (141 + a) != 0) (i + 1)))), (7, .int (ptF σ i)), (0, .ref h), (1, .int (nI (ct (iwB σ 0) i))), (2, .int (nI (ct (iwB σ 1) i))), (3, .int (nI (ct (iwB σ 2) i))), (4, .int (nI (ct (iwB σ 3) i))), (6, .int (nI i))] → W p l e (rmK 7 158) s m args below meth c s.heap [] 0 0 (MQ below (QcRead (nI (1))) args s 0 0 (fun _ => False)) (F0 m 132 ls [.int (nI ((msB σ i).toNat)), .int (nI (ct (iwB σ 0) i))]) := by
                intro ls hl
                refine nv_iadd hx hb dL_isSound_132 ?_
                refine nv_top (ct (iwB σ 0) (i + 1)) (rfl) ?_
                refine lv_istore_n (lv' := [(1, .int (nI (ct (iwB σ 0) (i + 1)))), (8, .int (nI ((msB σ i).toNat))), (5, .int (nI (ct (fun a => σ (141 + a) != 0) (i + 1)))), (7, .int (ptF σ i)), (0, .ref h), (2, .int (nI (ct (iwB σ 1) i))), (3, .int (nI (ct (iwB σ 2) i))), (4, .int (nI (ct (iwB σ 3) i))), (6, .int (nI i))]) hx hb dL_isSound_133 rfl hl (by decide) rfl (fun ls hl => ?_)
                refine lv_iload_n hx hb dL_isSound_134 rfl (lv_at hl 5 rfl) ?_
                refine lv_aload_n hx hb dL_isSound_135 rfl (lv_at hl 4 rfl) ?_
                refine lv_iload hx hb dL_isSound_136 (lv_at hl 8 rfl) ?_
                refine nv_callV [.int (nI i)] [.int (nI (ct (iwB σ 1) i))] hx hb hml hown hts k_RL_20 (c_X3_parityN l D cI cR h ad aa σ o n τ i hw q_22) ⟨rfl, rfl, Nat.le_of_ble_eq_true rfl, Nat.le_of_ble_eq_true rfl⟩ hP hK 3 rfl rfl rfl rfl hl rfl (Nat.le_of_ble_eq_true rfl) dL_isSound_138 ⟨Nat.zero_le _, Nat.zero_le _⟩ ?_
                refine lv_iconst (v := nI 1) hx hb dL_isSound_141 (by decide) ?_
                have J142 : ∀ (ls : Array Slot), lv_has ls 9 [(1, .int (nI (ct (iwB σ 0) (i + 1)))), (8, .int (nI ((msB σ i).toNat))), (5, .int (nI (ct (fun a => σ (141 + a) != 0) (i + 1)))), (7, .int (ptF σ i)), (0, .ref h), (2, .int (nI (ct (iwB σ 1) i))), (3, .int (nI (ct (iwB σ 2) i))), (4, .int (nI (ct (iwB σ 3) i))), (6, .int (nI i))] → W p l e (rmK 7 158) s m args below meth c s.heap [] 0 0 (MQ below (QcRead (nI (1))) args s 0 0 (fun _ => False)) (F0 m 150 ls [.int (nI ((!paB σ i).toNat)), .int (nI (ct (iwB σ 1) i))]) := by
                  intro ls hl
                  refine nv_iadd hx hb dL_isSound_150 ?_
                  refine nv_top (ct (iwB σ 1) (i + 1)) (rfl) ?_
                  refine lv_istore_n (lv' := [(2, .int (nI (ct (iwB σ 1) (i + 1)))), (1, .int (nI (ct (iwB σ 0) (i + 1)))), (8, .int (nI ((msB σ i).toNat))), (5, .int (nI (ct (fun a => σ (141 + a) != 0) (i + 1)))), (7, .int (ptF σ i)), (0, .ref h), (3, .int (nI (ct (iwB σ 2) i))), (4, .int (nI (ct (iwB σ 3) i))), (6, .int (nI i))]) hx hb dL_isSound_151 rfl hl (by decide) rfl (fun ls hl => ?_)
                  refine lv_iload_n hx hb dL_isSound_152 rfl (lv_at hl 6 rfl) ?_
                  refine lv_iload hx hb dL_isSound_153 (lv_at hl 2 rfl) ?_
                  have J155 : ∀ (ls : Array Slot), lv_has ls 9 [(2, .int (nI (ct (iwB σ 1) (i + 1)))), (1, .int (nI (ct (iwB σ 0) (i + 1)))), (8, .int (nI ((msB σ i).toNat))), (5, .int (nI (ct (fun a => σ (141 + a) != 0) (i + 1)))), (7, .int (ptF σ i)), (0, .ref h), (3, .int (nI (ct (iwB σ 2) i))), (4, .int (nI (ct (iwB σ 3) i))), (6, .int (nI i))] → W p l e (rmK 7 158) s m args below meth c s.heap [] 0 0 (MQ below (QcRead (nI (1))) args s 0 0 (fun _ => False)) (F0 m 173 ls [.int (nI ((msB σ i && paB σ i).toNat)), .int (nI (ct (iwB σ 2) i))]) := by
                    intro ls hl
                    refine nv_iadd hx hb dL_isSound_173 ?_
                    refine nv_top (ct (iwB σ 2) (i + 1)) (rfl) ?_
                    refine lv_istore_n (lv' := [(3, .int (nI (ct (iwB σ 2) (i + 1)))), (2, .int (nI (ct (iwB σ 1) (i + 1)))), (1, .int (nI (ct (iwB σ 0) (i + 1)))), (8, .int (nI ((msB σ i).toNat))), (5, .int (nI (ct (fun a => σ (141 + a) != 0) (i + 1)))), (7, .int (ptF σ i)), (0, .ref h), (4, .int (nI (ct (iwB σ 3) i))), (6, .int (nI i))]) hx hb dL_isSound_174 rfl hl (by decide) rfl (fun ls hl => ?_)
                    refine lv_iload hx hb dL_isSound_175 (lv_at hl 7 rfl) ?_
                    refine lv_aload_n hx hb dL_isSound_177 rfl (lv_at hl 6 rfl) ?_
                    refine lv_iload hx hb dL_isSound_178 (lv_at hl 8 rfl) ?_
                    refine nv_callV [.int (nI i)] [.int (nI (ct (iwB σ 3) i))] hx hb hml hown hts k_RL_23 (c_X3_readRawN l D cI cR h ad aa σ o n τ i hw q_22) ⟨rfl, rfl, Nat.le_of_ble_eq_true rfl, Nat.le_of_ble_eq_true rfl⟩ hP hK 3 rfl rfl rfl rfl hl rfl (Nat.le_of_ble_eq_true rfl) dL_isSound_180 ⟨Nat.zero_le _, Nat.zero_le _⟩ ?_
                    refine lv_aload_n hx hb dL_isSound_183 rfl (lv_at hl 6 rfl) ?_
                    refine lv_iload hx hb dL_isSound_184 (lv_at hl 8 rfl) ?_
                    refine nv_callV [.int (nI i)] [.int (nI (rrN σ i)), .int (nI (ct (iwB σ 3) i))] hx hb hml hown hts k_RL_26 (c_X3_wordN l D cI cR h ad aa σ o n τ i hw q_22) ⟨rfl, rfl, Nat.le_of_ble_eq_true rfl, Nat.le_of_ble_eq_true rfl⟩ hP hK 3 rfl rfl rfl rfl hl rfl (Nat.le_of_ble_eq_true rfl) dL_isSound_186 ⟨Nat.zero_le _, Nat.zero_le _⟩ ?_
                    have J189 : ∀ (ls : Array Slot), lv_has ls 9 [(3, .int (nI (ct (iwB σ 2) (i + 1)))), (2, .int (nI (ct (iwB σ 1) (i + 1)))), (1, .int (nI (ct (iwB σ 0) (i + 1)))), (8, .int (nI ((msB σ i).toNat))), (5, .int (nI (ct (fun a => σ (141 + a) != 0) (i + 1)))), (7, .int (ptF σ i)), (0, .ref h), (4, .int (nI (ct (iwB σ 3) i))), (6, .int (nI i))] → W p l e (rmK 7 158) s m args below meth c s.heap [] 0 0 (MQ below (QcRead (nI (1))) args s 0 0 (fun _ => False)) (F0 m 197 ls [.int (nI ((rrN σ i != σ (19 + i)).toNat)), .int (nI (ct (iwB σ 3) i))]) := by
                      intro ls hl
                      refine nv_iadd hx hb dL_isSound_197 ?_
                      refine nv_top (ct (iwB σ 3) (i + 1)) (rfl) ?_
                      refine lv_istore (lv' := [(4, .int (nI (ct (iwB σ 3) (i + 1)))), (3, .int (nI (ct (iwB σ 2) (i + 1)))), (2, .int (nI (ct (iwB σ 1) (i + 1)))), (1, .int (nI (ct (iwB σ 0) (i + 1)))), (8, .int (nI ((msB σ i).toNat))), (5, .int (nI (ct (fun a => σ (141 + a) != 0) (i + 1)))), (7, .int (ptF σ i)), (0, .ref h), (6, .int (nI i))]) hx hb dL_isSound_198 hl (by decide) rfl (fun ls hl => ?_)
                      refine lv_aload_n hx hb dL_isSound_200 rfl (lv_at hl 7 rfl) ?_
                      refine lv_bipush (v := nI 6) hx hb dL_isSound_201 (by decide) ?_
                      refine nv_callV [.int (nI 6)] [] hx hb hml hown hts k_RL_8 (c_X3_count6 l D cI cR h ad aa σ o n τ 6 hw rfl) ⟨rfl, rfl, Nat.le_of_ble_eq_true rfl, Nat.le_of_ble_eq_true rfl⟩ hP hK 3 rfl rfl rfl rfl hl rfl (Nat.le_of_ble_eq_true rfl) dL_isSound_203 ⟨Nat.zero_le _, Nat.zero_le _⟩ ?_
                      have J206 : ∀ (ls : Array Slot), lv_has ls 9 [(4, .int (nI (ct (iwB σ 3) (i + 1)))), (3, .int (nI (ct (iwB σ 2) (i + 1)))), (2, .int (nI (ct (iwB σ 1) (i + 1)))), (1, .int (nI (ct (iwB σ 0) (i + 1)))), (8, .int (nI ((msB σ i).toNat))), (5, .int (nI (ct (fun a => σ (141 + a) != 0) (i + 1)))), (7, .int (ptF σ i)), (0, .ref h), (6, .int (nI i))] → W p l e (rmK 7 158) s m args below meth c s.heap [] 0 0 (MQ below (QcRead (nI (1))) args s 0 0 (fun _ => False)) (F0 m 265 ls []) := by
                        intro ls hl
                        refine nv_inc (k := 8) (lv' := [(6, .int (nI (i + 1))), (4, .int (nI (ct (iwB σ 3) (i + 1)))), (3, .int (nI (ct (iwB σ 2) (i + 1)))), (2, .int (nI (ct (iwB σ 1) (i + 1)))), (1, .int (nI (ct (iwB σ 0) (i + 1)))), (8, .int (nI ((msB σ i).toNat))), (5, .int (nI (ct (fun a => σ (141 + a) != 0) (i + 1)))), (7, .int (ptF σ i)), (0, .ref h)]) hx hb dL_isSound_265 hl rfl (by decide) rfl (fun ls hl => ?_)
                        refine lv_goto (tgt := 15) hx hb dL_isSound_268 (by decide) ?_
                        exact ih15 (i + 1) (by omega) (by omega)  ls (lv_sub hl [8, 4, 3, 2, 1, 6, 0] rfl)
                      refine nv_if_ne (tgt := 265) hx hb dL_isSound_206 (by decide) (by omega) (fun q_206 => ?_) (fun q_206 => ?_)
                      · exact J206 ls (lv_sub hl [0, 1, 2, 3, 4, 5, 6, 7, 8] rfl)
                      · have hz := cw_zero hw q_206
                        have h8 := nW8 σ
                        obtain ⟨hd1, hd2, hd3⟩ := ad_div hS1 q_22
                        have hp16 := sh_16 hw hd1
                        refine lv_aload_n hx hb dL_isSound_209 rfl (lv_at hl 7 rfl) ?_
                        refine lv_iload hx hb dL_isSound_210 (lv_at hl 8 rfl) ?_
                        refine nv_callV [.int (nI i)] [] hx hb hml hown hts k_RL_23 (c_X3_readRawN l D cI cR h ad aa σ o n τ i hw q_22) ⟨rfl, rfl, Nat.le_of_ble_eq_true rfl, Nat.le_of_ble_eq_true rfl⟩ hP hK 3 rfl rfl rfl rfl hl rfl (Nat.le_of_ble_eq_true rfl) dL_isSound_212 ⟨Nat.zero_le _, Nat.zero_le _⟩ ?_
                        refine lv_aload_n hx hb dL_isSound_215 rfl (lv_at hl 7 rfl) ?_
                        refine lv_iload hx hb dL_isSound_216 (lv_at hl 8 rfl) ?_
                        refine nv_callV [.int (nI i)] [.int (nI (rrN σ i))] hx hb hml hown hts k_RL_26 (c_X3_wordN l D cI cR h ad aa σ o n τ i hw q_22) ⟨rfl, rfl, Nat.le_of_ble_eq_true rfl, Nat.le_of_ble_eq_true rfl⟩ hP hK 3 rfl rfl rfl rfl hl rfl (Nat.le_of_ble_eq_true rfl) dL_isSound_218 ⟨Nat.zero_le _, Nat.zero_le _⟩ ?_
                        refine nv_icmp_ne (tgt := 263) hx hb dL_isSound_221 (by decide) (by omega) (by omega) (fun q_221 => False.elim (q_221 (rr_word hw hz q_22))) (fun q_221 => ?_)
                        refine lv_aload_n hx hb dL_isSound_224 rfl (lv_at hl 7 rfl) ?_
                        refine lv_iload hx hb dL_isSound_225 (lv_at hl 8 rfl) ?_
                        refine nv_callV [.int (nI i)] [] hx hb hml hown hts k_RL_20 (c_X3_parityN l D cI cR h ad aa σ o n τ i hw q_22) ⟨rfl, rfl, Nat.le_of_ble_eq_true rfl, Nat.le_of_ble_eq_true rfl⟩ hP hK 3 rfl rfl rfl rfl hl rfl (Nat.le_of_ble_eq_true rfl) dL_isSound_227 ⟨Nat.zero_le _, Nat.zero_le _⟩ ?_
                        refine lv_iconst (v := nI 1) hx hb dL_isSound_230 (by decide) ?_
                        refine nv_icmp_ne (tgt := 263) hx hb dL_isSound_231 (by decide) (by omega) (by omega) (fun q_231 => False.elim (q_231 (by rw [pa_right hw hz q_22]; rfl))) (fun q_231 => ?_)
                        refine lv_aload_n hx hb dL_isSound_234 rfl (lv_at hl 7 rfl) ?_
                        refine lv_aload_n hx hb dL_isSound_235 rfl (lv_at hl 7 rfl) ?_
                        refine lv_iload hx hb dL_isSound_236 (lv_at hl 8 rfl) ?_
                        refine lv_aload_n hx hb dL_isSound_238 rfl (lv_at hl 7 rfl) ?_
                        refine lv_iconst (v := nI 2) hx hb dL_isSound_239 (by decide) ?_
                        refine nv_callV [.int (nI 2)] [.int (nI i), .ref h, .ref h] hx hb hml hown hts k_RL_8 (c_X3_count2 l D cI cR h ad aa σ o n τ 2 hw rfl) ⟨rfl, rfl, Nat.le_of_ble_eq_true rfl, Nat.le_of_ble_eq_true rfl⟩ hP hK 3 rfl rfl rfl rfl hl rfl (Nat.le_of_ble_eq_true rfl) dL_isSound_240 ⟨Nat.zero_le _, Nat.zero_le _⟩ ?_
                        refine nv_idiv hx hb dL_isSound_243 (by omega) (by omega) (by omega) ?_
                        refine nv_callV [.int (nI (i / (σ 2)))] [.ref h] hx hb hml hown hts k_RL_29 (c_X3_codeN l D cI cR h ad aa σ o n τ (i / (σ 2)) hw hd1) ⟨rfl, rfl, Nat.le_of_ble_eq_true rfl, Nat.le_of_ble_eq_true rfl⟩ hP hK 3 rfl rfl rfl rfl hl rfl (Nat.le_of_ble_eq_true rfl) dL_isSound_244 ⟨Nat.zero_le _, Nat.zero_le _⟩ ?_
                        refine nv_callV [.int (nI (σ (3 + (i / (σ 2)))))] [] hx hb hml hown hts k_RL_32 (c_X3_pickedN l D cI cR h ad aa σ o n τ (σ (3 + (i / (σ 2)))) hw (hw.cd hd1)) ⟨rfl, rfl, Nat.le_of_ble_eq_true rfl, Nat.le_of_ble_eq_true rfl⟩ hP hK 3 rfl rfl rfl rfl hl rfl (Nat.le_of_ble_eq_true rfl) dL_isSound_247 ⟨Nat.zero_le _, Nat.zero_le _⟩ ?_
                        refine nv_top (1 <<< (i / σ 2)) (pk_own hw (fun w q => hz w (by omega)) hd1) ?_
                        refine lv_iconst (v := nI 1) hx hb dL_isSound_250 (by decide) ?_
                        refine lv_iload hx hb dL_isSound_251 (lv_at hl 8 rfl) ?_
                        refine lv_aload_n hx hb dL_isSound_253 rfl (lv_at hl 7 rfl) ?_
                        refine lv_iconst (v := nI 2) hx hb dL_isSound_254 (by decide) ?_
                        refine nv_callV [.int (nI 2)] [.int (nI i), .int (nI 1), .int (nI (1 <<< (i / σ 2)))] hx hb hml hown hts k_RL_8 (c_X3_count2 l D cI cR h ad aa σ o n τ 2 hw rfl) ⟨rfl, rfl, Nat.le_of_ble_eq_true rfl, Nat.le_of_ble_eq_true rfl⟩ hP hK 3 rfl rfl rfl rfl hl rfl (Nat.le_of_ble_eq_true rfl) dL_isSound_255 ⟨Nat.zero_le _, Nat.zero_le _⟩ ?_
                        refine nv_idiv hx hb dL_isSound_258 (by omega) (by omega) (by omega) ?_
                        refine nv_ishl hx hb dL_isSound_259 (by omega) ?_
                        refine nv_icmp_eq (tgt := 265) hx hb dL_isSound_260 (by decide) (by omega) (by omega) (fun q_260 => ?_) (fun q_260 => False.elim (q_260 rfl))
                        exact J206 ls (lv_sub hl [0, 1, 2, 3, 4, 5, 6, 7, 8] rfl)
                    refine nv_icmp_eq (tgt := 196) hx hb dL_isSound_189 (by decide) (by omega) (by omega) (fun q_189 => ?_) (fun q_189 => ?_)
                    · refine lv_iconst (v := nI 0) hx hb dL_isSound_196 (by decide) ?_
                      refine nv_top ((rrN σ i != σ (19 + i)).toNat) (ne_0 q_189) ?_
                      exact J189 ls (lv_sub hl [0, 1, 2, 3, 4, 5, 6, 7, 8] rfl)
                    · refine lv_iconst (v := nI 1) hx hb dL_isSound_192 (by decide) ?_
                      refine lv_goto (tgt := 197) hx hb dL_isSound_193 (by decide) ?_
                      refine nv_top ((rrN σ i != σ (19 + i)).toNat) (ne_1 q_189) ?_
                      exact J189 ls (lv_sub hl [0, 1, 2, 3, 4, 5, 6, 7, 8] rfl)
                  refine nv_if_eq (tgt := 172) hx hb dL_isSound_155 (by decide) (by omega) (fun q_155 => ?_) (fun q_155 => ?_)
                  · refine lv_iconst (v := nI 0) hx hb dL_isSound_172 (by decide) ?_
                    refine nv_top ((msB σ i && paB σ i).toNat) (an_0 q_155) ?_
                    exact J155 ls (lv_sub hl [0, 1, 2, 3, 4, 5, 6, 7, 8] rfl)
                  · refine lv_aload_n hx hb dL_isSound_158 rfl (lv_at hl 5 rfl) ?_
                    refine lv_iload hx hb dL_isSound_159 (lv_at hl 8 rfl) ?_
                    refine nv_callV [.int (nI i)] [.int (nI (ct (iwB σ 2) i))] hx hb hml hown hts k_RL_20 (c_X3_parityN l D cI cR h ad aa σ o n τ i hw q_22) ⟨rfl, rfl, Nat.le_of_ble_eq_true rfl, Nat.le_of_ble_eq_true rfl⟩ hP hK 3 rfl rfl rfl rfl hl rfl (Nat.le_of_ble_eq_true rfl) dL_isSound_161 ⟨Nat.zero_le _, Nat.zero_le _⟩ ?_
                    refine lv_iconst (v := nI 1) hx hb dL_isSound_164 (by decide) ?_
                    refine nv_icmp_ne (tgt := 172) hx hb dL_isSound_165 (by decide) (by omega) (by omega) (fun q_165 => ?_) (fun q_165 => ?_)
                    · refine lv_iconst (v := nI 0) hx hb dL_isSound_172 (by decide) ?_
                      refine nv_top ((msB σ i && paB σ i).toNat) (an_1 q_165) ?_
                      exact J155 ls (lv_sub hl [0, 1, 2, 3, 4, 5, 6, 7, 8] rfl)
                    · refine lv_iconst (v := nI 1) hx hb dL_isSound_168 (by decide) ?_
                      refine lv_goto (tgt := 173) hx hb dL_isSound_169 (by decide) ?_
                      refine nv_top ((msB σ i && paB σ i).toNat) (an_2 q_155 q_165) ?_
                      exact J155 ls (lv_sub hl [0, 1, 2, 3, 4, 5, 6, 7, 8] rfl)
                refine nv_icmp_ne (tgt := 149) hx hb dL_isSound_142 (by decide) (by omega) (by omega) (fun q_142 => ?_) (fun q_142 => ?_)
                · refine lv_iconst (v := nI 1) hx hb dL_isSound_149 (by decide) ?_
                  refine nv_top ((!paB σ i).toNat) (nt_1 q_142) ?_
                  exact J142 ls (lv_sub hl [0, 1, 2, 3, 4, 5, 6, 7, 8] rfl)
                · refine lv_iconst (v := nI 0) hx hb dL_isSound_145 (by decide) ?_
                  refine lv_goto (tgt := 150) hx hb dL_isSound_146 (by decide) ?_
                  refine nv_top ((!paB σ i).toNat) (nt_0 q_142) ?_
                  exact J142 ls (lv_sub hl [0, 1, 2, 3, 4, 5, 6, 7, 8] rfl)
              refine nv_if_eq (tgt := 131) hx hb dL_isSound_124 (by decide) (by omega) (fun q_124 => ?_) (fun q_124 => ?_)
              · refine lv_iconst (v := nI 0) hx hb dL_isSound_131 (by decide) ?_
                refine nv_top ((msB σ i).toNat) (q_124.symm) ?_
                exact J124 ls (lv_sub hl [0, 1, 2, 3, 4, 5, 6, 7, 8] rfl)
              · refine lv_iconst (v := nI 1) hx hb dL_isSound_127 (by decide) ?_
                refine lv_goto (tgt := 132) hx hb dL_isSound_128 (by decide) ?_
                refine nv_top ((msB σ i).toNat) (tn_1 q_124) ?_
                exact J124 ls (lv_sub hl [0, 1, 2, 3, 4, 5, 6, 7, 8] rfl)
            refine nv_icmp_eq (tgt := 118) hx hb dL_isSound_111 (by decide) (by omega) (by omega) (fun q_111 => ?_) (fun q_111 => ?_)
            · refine lv_iconst (v := nI 0) hx hb dL_isSound_118 (by decide) ?_
              refine nv_top ((msB σ i).toNat) (ms_0 q_111) ?_
              exact J111 ls (lv_sub hl [0, 1, 2, 3, 4, 5, 6, 7] rfl)
            · refine lv_iconst (v := nI 1) hx hb dL_isSound_114 (by decide) ?_
              refine lv_goto (tgt := 119) hx hb dL_isSound_115 (by decide) ?_
              refine nv_top ((msB σ i).toNat) (ms_1 q_111) ?_
              exact J111 ls (lv_sub hl [0, 1, 2, 3, 4, 5, 6, 7] rfl)
          refine lv_icmp_ne (tgt := 95) hx hb dL_isSound_88 (by decide) (fun q_88 => ?_) (fun q_88 => ?_)
          · refine lv_iconst (v := nI 1) hx hb dL_isSound_95 (by decide) ?_
            refine nv_top ((σ (141 + i) != 0).toNat) (pt_1 hp q_88) ?_
            exact J88 ls (lv_sub hl [0, 1, 2, 3, 4, 5, 6, 7] rfl)
          · refine lv_iconst (v := nI 0) hx hb dL_isSound_91 (by decide) ?_
            refine lv_goto (tgt := 96) hx hb dL_isSound_92 (by decide) ?_
            refine nv_top ((σ (141 + i) != 0).toNat) (pt_0 hp q_88) ?_
            exact J88 ls (lv_sub hl [0, 1, 2, 3, 4, 5, 6, 7] rfl)
        refine lv_icmp_eq (tgt := 60) hx hb dL_isSound_36 (by decide) (fun q_36 => ?_) (fun q_36 => ?_)
        · refine lv_iload hx hb dL_isSound_60 (lv_at hl 0 rfl) ?_
          refine lv_iconst (v := -1) hx hb dL_isSound_62 (by decide) ?_
          refine lv_icmp_ne (tgt := 83) hx hb dL_isSound_63 (by decide) (fun q_63 => False.elim (q_63 q_36)) (fun q_63 => ?_)
          refine lv_aload_n hx hb dL_isSound_66 rfl (lv_at hl 1 rfl) ?_
          refine lv_iload hx hb dL_isSound_67 (lv_at hl 7 rfl) ?_
          refine nv_callV [.int (nI i)] [] hx hb hml hown hts k_RL_17 (c_X3_readN l D cI cR h ad aa σ o n τ i hw q_22) ⟨rfl, rfl, Nat.le_of_ble_eq_true rfl, Nat.le_of_ble_eq_true rfl⟩ hP hK 3 rfl rfl rfl rfl hl rfl (Nat.le_of_ble_eq_true rfl) dL_isSound_69 ⟨Nat.zero_le _, Nat.zero_le _⟩ ?_
          refine lv_aload_n hx hb dL_isSound_72 rfl (lv_at hl 1 rfl) ?_
          refine lv_iload hx hb dL_isSound_73 (lv_at hl 7 rfl) ?_
          refine nv_callV [.int (nI i)] [.int (nI (rdN σ i))] hx hb hml hown hts k_RL_23 (c_X3_readRawN l D cI cR h ad aa σ o n τ i hw q_22) ⟨rfl, rfl, Nat.le_of_ble_eq_true rfl, Nat.le_of_ble_eq_true rfl⟩ hP hK 3 rfl rfl rfl rfl hl rfl (Nat.le_of_ble_eq_true rfl) dL_isSound_75 ⟨Nat.zero_le _, Nat.zero_le _⟩ ?_
          refine nv_icmp_eq (tgt := 83) hx hb dL_isSound_78 (by decide) (by omega) (by omega) (fun q_78 => ?_) (fun q_78 => False.elim (q_78 (rd_rr hp q_36)))
          exact J36 ls (lv_sub hl [0, 1, 2, 3, 4, 5, 6, 7] rfl)
        · refine lv_aload_n hx hb dL_isSound_39 rfl (lv_at hl 1 rfl) ?_
          refine lv_iload hx hb dL_isSound_40 (lv_at hl 7 rfl) ?_
          refine nv_callV [.int (nI i)] [] hx hb hml hown hts k_RL_17 (c_X3_readN l D cI cR h ad aa σ o n τ i hw q_22) ⟨rfl, rfl, Nat.le_of_ble_eq_true rfl, Nat.le_of_ble_eq_true rfl⟩ hP hK 3 rfl rfl rfl rfl hl rfl (Nat.le_of_ble_eq_true rfl) dL_isSound_42 ⟨Nat.zero_le _, Nat.zero_le _⟩ ?_
          refine lv_iload hx hb dL_isSound_45 (lv_at hl 0 rfl) ?_
          refine lv_icmp_ne (tgt := 81) hx hb dL_isSound_47 (by decide) (fun q_47 => False.elim (q_47 (rd_pt hp q_36))) (fun q_47 => ?_)
          refine lv_aload_n hx hb dL_isSound_50 rfl (lv_at hl 1 rfl) ?_
          refine lv_iload hx hb dL_isSound_51 (lv_at hl 7 rfl) ?_
          refine nv_callV [.int (nI i)] [] hx hb hml hown hts k_RL_20 (c_X3_parityN l D cI cR h ad aa σ o n τ i hw q_22) ⟨rfl, rfl, Nat.le_of_ble_eq_true rfl, Nat.le_of_ble_eq_true rfl⟩ hP hK 3 rfl rfl rfl rfl hl rfl (Nat.le_of_ble_eq_true rfl) dL_isSound_53 ⟨Nat.zero_le _, Nat.zero_le _⟩ ?_
          refine lv_iconst (v := nI 1) hx hb dL_isSound_56 (by decide) ?_
          refine nv_icmp_ne (tgt := 81) hx hb dL_isSound_57 (by decide) (by omega) (by omega) (fun q_57 => False.elim (q_57 (pa_pat hp q_36))) (fun q_57 => ?_)
          refine lv_iload hx hb dL_isSound_60 (lv_at hl 0 rfl) ?_
          refine lv_iconst (v := -1) hx hb dL_isSound_62 (by decide) ?_
          refine lv_icmp_ne (tgt := 83) hx hb dL_isSound_63 (by decide) (fun q_63 => ?_) (fun q_63 => False.elim (q_36 q_63))
          exact J36 ls (lv_sub hl [0, 1, 2, 3, 4, 5, 6, 7] rfl)
  exact L15 (nA σ + 1) 0 (by omega) (by omega)  ls (lv_sub hl [6, 5, 4, 3, 2, 1, 0] rfl)
set_option maxHeartbeats 4000000 in
set_option maxRecDepth 100000 in
theorem c_L_isCrossed (l : Launch) (D : va_G) (cI cR : ClassId) (h : Nat) (ad : Nat → Nat) (aa : Nat → Nat → Nat) (σ : Nat → Nat) (o : Nat) (n : Nat) (τ : Nat → Nat → Nat) (w : Nat)  (hw : wf σ) (ho : o < 5) (hn : n ≤ 5) (h8 : 8 ≤ w) (h1 : w < nW σ) (sz : Nat) : Met l yL_isCrossed (wsC yL_isCrossed cL_isCrossed 4 (some .boolean)) (rmK 5 106) (nPreM D (nTy cI cR) [.ref h, .int (nI w)] (wS h ad aa cI cR σ o n τ) sz) (QcM D (some (.int (zB (crN σ w == 1)))) (wS h ad aa cI cR σ (kpO o n) (kpN n - 1) (va_up τ (kpS o n) σ)) (va_A (wS h ad aa cI cR σ o n τ) sz)) 0 0 (va_A (wS h ad aa cI cR σ o n τ) sz) := by
  refine met_mut (Qc := fun A => QcM D (some (.int (zB (crN σ w == 1)))) (wS h ad aa cI cR σ (kpO o n) (kpN n - 1) (va_up τ (kpS o n) σ)) A) rfl (Nat.le_of_ble_eq_true rfl) ?_
  intro p e s m args below meth c ls A H locs hx hb hml hr hlocks hown hts hP hK hD hA hS hl
  have hl : lv_has ls 4 [(0, .ref h), (1, .int (nI w))] := hl
  have hcl := cr_le hw
  have hcl2 := cr_le (fl_wf hw h8 h1)
  have hwb : w < 2 ^ 31 := Nat.lt_of_lt_of_le h1 (Nat.le_trans hw.w41 (by decide))
  refine lv_aload_n hx hb dL_isCrossed_0 rfl (lv_at hl 0 rfl) ?_
  refine lv_iconst (v := nI 5) hx hb dL_isCrossed_1 (by decide) ?_
  refine nv_callV [.int (nI 5)] [] hx hb hml hown hts k_RL_8 (c_X3_count5 l D cI cR h ad aa σ o n τ 5 hw rfl) ⟨rfl, rfl, Nat.le_of_ble_eq_true rfl, Nat.le_of_ble_eq_true rfl⟩ hP hK 3 rfl rfl rfl rfl hl rfl (Nat.le_of_ble_eq_true rfl) dL_isCrossed_2 ⟨Nat.zero_le _, Nat.zero_le _⟩ ?_
  refine lv_istore_n (lv' := [(2, .int (nI (sm (crN σ) (nW σ)))), (0, .ref h), (1, .int (nI w))]) hx hb dL_isCrossed_5 rfl hl (by decide) rfl (fun ls hl => ?_)
  refine lv_aload_n hx hb dL_isCrossed_6 rfl (lv_at hl 1 rfl) ?_
  refine lv_iload_n hx hb dL_isCrossed_7 rfl (lv_at hl 2 rfl) ?_
  refine mu_allV (ws2 := (wS h ad aa cI cR (flS σ w) (kpO o n) (kpN n) (va_up τ (kpS o n) σ))) [.int (nI w)] [] hx hb hml hown hts k_RL_53 (fun sz => c_X3_crossN l D cI cR h ad aa σ o n τ w hw ho hn h8 h1 sz) ⟨rfl, rfl, Nat.le_of_ble_eq_true rfl, Nat.le_of_ble_eq_true rfl⟩ hP hD hS hA hK 3 rfl rfl rfl rfl hl rfl (Nat.le_of_ble_eq_true rfl) dL_isCrossed_8 ⟨Nat.zero_le _, Nat.zero_le _⟩ (fun H locs hP hD hS => ?_)
  refine W.eq (g2 := F0 m 11 ls [.int (nI (1 - crN σ w))]) rfl ?_
  refine lv_pop hx hb dL_isCrossed_11 rfl ?_
  refine lv_aload_n hx hb dL_isCrossed_12 rfl (lv_at hl 1 rfl) ?_
  refine lv_iconst (v := nI 5) hx hb dL_isCrossed_13 (by decide) ?_
  refine nv_callV [.int (nI 5)] [] hx hb hml hown hts k_RL_8 (c_X3_count5 l D cI cR h ad aa (flS σ w) (kpO o n) (kpN n) (va_up τ (kpS o n) σ) 5 (fl_wf hw h8 h1) rfl) ⟨rfl, rfl, Nat.le_of_ble_eq_true rfl, Nat.le_of_ble_eq_true rfl⟩ hP hK 3 rfl rfl rfl rfl hl rfl (Nat.le_of_ble_eq_true rfl) dL_isCrossed_14 ⟨Nat.zero_le _, Nat.zero_le _⟩ ?_
  refine lv_iload_n hx hb dL_isCrossed_17 rfl (lv_at hl 0 rfl) ?_
  have J18 : ∀ (H : Heap) (locs : List Loc), va_P D vwCl (wS h ad aa cI cR (flS σ w) (kpO o n) (kpN n) (va_up τ (kpS o n) σ)) H → va_D A (wS h ad aa cI cR (flS σ w) (kpO o n) (kpN n) (va_up τ (kpS o n) σ)) → va_S A s.heap H locs → ∀ (ls : Array Slot), lv_has ls 4 [(2, .int (nI (sm (crN σ) (nW σ)))), (0, .ref h), (1, .int (nI w))] → W p l e (rmK 5 106) s m args below meth c H locs 0 0 (MQ below (QcM D (some (.int (zB (crN σ w == 1)))) (wS h ad aa cI cR σ (kpO o n) (kpN n - 1) (va_up τ (kpS o n) σ)) A) args s 0 0 A) (F0 m 26 ls [.int (zB (crN σ w == 1))]) := by
    intro H locs hP hD hS ls hl
    refine lv_istore_n (lv' := [(3, .int (zB (crN σ w == 1))), (2, .int (nI (sm (crN σ) (nW σ)))), (0, .ref h), (1, .int (nI w))]) hx hb dL_isCrossed_26 rfl hl (by decide) rfl (fun ls hl => ?_)
    refine lv_iload_n hx hb dL_isCrossed_27 rfl (lv_at hl 0 rfl) ?_
    refine lv_if_eq (tgt := 38) hx hb dL_isCrossed_28 (by decide) (fun q_28 => ?_) (fun q_28 => ?_)
    · refine lv_iload_n hx hb dL_isCrossed_38 rfl (lv_at hl 0 rfl) ?_
      refine lv_if_ne (tgt := 53) hx hb dL_isCrossed_39 (by decide) (fun q_39 => False.elim (q_39 q_28)) (fun q_39 => ?_)
      refine lv_aload_n hx hb dL_isCrossed_42 rfl (lv_at hl 2 rfl) ?_
      refine mu_allV (ws2 := (wS h ad aa cI cR σ (kpO o n) (kpN n - 1) (va_up τ (kpS o n) σ))) [] [] hx hb hml hown hts k_RL_81 (fun sz => c_X3_undoK l D cI cR h ad aa (flS σ w) o n τ σ (fl_wf hw h8 h1) ho hn sz) ⟨rfl, rfl, Nat.le_of_ble_eq_true rfl, Nat.le_of_ble_eq_true rfl⟩ hP hD hS hA hK 3 rfl rfl rfl rfl hl rfl (Nat.le_of_ble_eq_true rfl) dL_isCrossed_43 ⟨Nat.zero_le _, Nat.zero_le _⟩ (fun H locs hP hD hS => ?_)
      refine W.eq (g2 := F0 m 46 ls [.int (nI (kpN n - 1))]) rfl ?_
      refine nv_if_ge (tgt := 53) hx hb dL_isCrossed_46 (by decide) (by have := kpN_le hn; omega) ?_
      refine lv_iconst (v := nI 0) hx hb dL_isCrossed_53 (by decide) ?_
      exact mu_retz hx hb hr hlocks (by decide) (zB_0 (zB_eq0 q_28)) hP hD hS dL_isCrossed_54
    · refine lv_aload_n hx hb dL_isCrossed_31 rfl (lv_at hl 2 rfl) ?_
      refine mu_allV (ws2 := (wS h ad aa cI cR σ (kpO o n) (kpN n - 1) (va_up τ (kpS o n) σ))) [] [] hx hb hml hown hts k_RL_81 (fun sz => c_X3_undoK l D cI cR h ad aa (flS σ w) o n τ σ (fl_wf hw h8 h1) ho hn sz) ⟨rfl, rfl, Nat.le_of_ble_eq_true rfl, Nat.le_of_ble_eq_true rfl⟩ hP hD hS hA hK 3 rfl rfl rfl rfl hl rfl (Nat.le_of_ble_eq_true rfl) dL_isCrossed_32 ⟨Nat.zero_le _, Nat.zero_le _⟩ (fun H locs hP hD hS => ?_)
      refine W.eq (g2 := F0 m 35 ls [.int (nI (kpN n - 1))]) rfl ?_
      refine nv_if_ge (tgt := 49) hx hb dL_isCrossed_35 (by decide) (by have := kpN_le hn; omega) ?_
      refine lv_iconst (v := nI 1) hx hb dL_isCrossed_49 (by decide) ?_
      refine lv_goto (tgt := 54) hx hb dL_isCrossed_50 (by decide) ?_
      exact mu_retz hx hb hr hlocks (by decide) (zB_1 (zB_ne0 q_28)) hP hD hS dL_isCrossed_54
  refine nv_icmp_ge (tgt := 25) hx hb dL_isCrossed_18 (by decide) (by omega) (by omega) (fun q_18 => ?_) (fun q_18 => ?_)
  · refine lv_iconst (v := nI 0) hx hb dL_isCrossed_25 (by decide) ?_
    refine nv_tope (zB (crN σ w == 1)) (ic_0 hw h8 h1 q_18) ?_
    exact J18 _ _ hP hD hS ls (lv_sub hl [0, 1, 2] rfl)
  · refine lv_iconst (v := nI 1) hx hb dL_isCrossed_21 (by decide) ?_
    refine lv_goto (tgt := 26) hx hb dL_isCrossed_22 (by decide) ?_
    refine nv_tope (zB (crN σ w == 1)) (ic_1 hw h8 h1 q_18) ?_
    exact J18 _ _ hP hD hS ls (lv_sub hl [0, 1, 2] rfl)
set_option maxHeartbeats 4000000 in
set_option maxRecDepth 100000 in
theorem c_L_changes (l : Launch) (D : va_G) (cI cR : ClassId) (h : Nat) (ad : Nat → Nat) (aa : Nat → Nat → Nat) (σ : Nat → Nat) (o : Nat) (n : Nat) (τ : Nat → Nat → Nat) (z : Int32)  (hw : wf σ) (ho : o < 5) (hn : n ≤ 5) (h4 : pcN σ ≤ 4) (sz : Nat) : Met l yL_changes (wsC yL_changes cL_changes 5 (some .int)) (rmK 7 157) (nPreM D (nTy cI cR) [.ref h, .int z] (wS h ad aa cI cR σ o n τ) sz) (QcM D (some (.int ((chT σ z).2.2))) (wS h ad aa cI cR (cond (chT σ z).1 (chT σ z).2.1 σ) (cond (chT σ z).1 (kpO o n) o) (cond (chT σ z).1 (kpN n) n) (cond (chT σ z).1 (va_up τ (kpS o n) σ) τ)) (va_A (wS h ad aa cI cR σ o n τ) sz)) 0 0 (va_A (wS h ad aa cI cR σ o n τ) sz) := by
  refine met_mut (Qc := fun A => QcM D (some (.int ((chT σ z).2.2))) (wS h ad aa cI cR (cond (chT σ z).1 (chT σ z).2.1 σ) (cond (chT σ z).1 (kpO o n) o) (cond (chT σ z).1 (kpN n) n) (cond (chT σ z).1 (va_up τ (kpS o n) σ) τ)) A) rfl (Nat.le_of_ble_eq_true rfl) ?_
  intro p e s m args below meth c ls A H locs hx hb hml hr hlocks hown hts hP hK hD hA hS hl
  have hl : lv_has ls 5 [(0, .ref h), (1, .int z)] := hl
  have hA41 := hw.w41
  have hA33 := hw.a33
  have hA48 := hw.a48
  obtain ⟨hR2, hR, hB1, hB, hSa, hSb, -⟩ := id hw
  have hsh : 1 <<< σ 1 ≤ 1024 := by rw [sh1]; exact p2_10 hB
  have hsh1 := sh1_pos (σ 1)
  refine lv_iload_n hx hb dL_changes_0 rfl (lv_at hl 1 rfl) ?_
  refine lv_iconst (v := nI 4) hx hb dL_changes_1 (by decide) ?_
  refine lv_ishr hx hb dL_changes_2 ?_
  refine lv_aload_n hx hb dL_changes_3 rfl (lv_at hl 0 rfl) ?_
  refine lv_iconst (v := nI 0) hx hb dL_changes_4 (by decide) ?_
  refine nv_callV [.int (nI 0)] [.int (z >>> ((nI (4)) &&& 31))] hx hb hml hown hts k_RL_8 (c_X3_count0 l D cI cR h ad aa σ o n τ 0 hw rfl) ⟨rfl, rfl, Nat.le_of_ble_eq_true rfl, Nat.le_of_ble_eq_true rfl⟩ hP hK 3 rfl rfl rfl rfl hl rfl (Nat.le_of_ble_eq_true rfl) dL_changes_5 ⟨Nat.zero_le _, Nat.zero_le _⟩ ?_
  refine lv_iconst (v := nI 1) hx hb dL_changes_8 (by decide) ?_
  refine nv_iadd hx hb dL_changes_9 ?_
  refine nv_callS [.int (z >>> ((nI (4)) &&& 31)), .int (nI ((σ 0) + 1))] [] hx hb hml hown hts k_RL_41 (c_L_low l D cI cR (z >>> ((nI (4)) &&& 31)) ((σ 0) + 1) (by omega) (by omega)) ⟨rfl, rfl, Nat.le_of_ble_eq_true rfl, Nat.le_of_ble_eq_true rfl⟩ (va_P_nil) hK rfl hl rfl (Nat.le_of_ble_eq_true rfl) dL_changes_10 ⟨Nat.zero_le _, Nat.zero_le _⟩ ?_
  refine nv_top (chr σ z) (rfl) ?_
  refine lv_istore_n (lv' := [(2, .int (nI (chr σ z))), (0, .ref h), (1, .int z)]) hx hb dL_changes_13 rfl hl (by decide) rfl (fun ls hl => ?_)
  refine lv_iload_n hx hb dL_changes_14 rfl (lv_at hl 2 rfl) ?_
  refine lv_iconst (v := nI 4) hx hb dL_changes_15 (by decide) ?_
  refine lv_ishr hx hb dL_changes_16 ?_
  refine lv_aload_n hx hb dL_changes_17 rfl (lv_at hl 1 rfl) ?_
  refine lv_iconst (v := nI 3) hx hb dL_changes_18 (by decide) ?_
  refine nv_callV [.int (nI 3)] [.int (z >>> ((nI (4)) &&& 31))] hx hb hml hown hts k_RL_8 (c_X3_count3 l D cI cR h ad aa σ o n τ 3 hw rfl) ⟨rfl, rfl, Nat.le_of_ble_eq_true rfl, Nat.le_of_ble_eq_true rfl⟩ hP hK 3 rfl rfl rfl rfl hl rfl (Nat.le_of_ble_eq_true rfl) dL_changes_19 ⟨Nat.zero_le _, Nat.zero_le _⟩ ?_
  refine lv_iconst (v := nI 1) hx hb dL_changes_22 (by decide) ?_
  refine nv_iadd hx hb dL_changes_23 ?_
  refine nv_callS [.int (z >>> ((nI (4)) &&& 31)), .int (nI ((nA σ) + 1))] [] hx hb hml hown hts k_RL_41 (c_L_low l D cI cR (z >>> ((nI (4)) &&& 31)) ((nA σ) + 1) (by omega) (by omega)) ⟨rfl, rfl, Nat.le_of_ble_eq_true rfl, Nat.le_of_ble_eq_true rfl⟩ (va_P_nil) hK rfl hl rfl (Nat.le_of_ble_eq_true rfl) dL_changes_24 ⟨Nat.zero_le _, Nat.zero_le _⟩ ?_
  refine nv_top (cha σ z) (rfl) ?_
  refine lv_istore_n (lv' := [(3, .int (nI (cha σ z))), (2, .int (nI (chr σ z))), (0, .ref h), (1, .int z)]) hx hb dL_changes_27 rfl hl (by decide) rfl (fun ls hl => ?_)
  refine lv_iload_n hx hb dL_changes_28 rfl (lv_at hl 3 rfl) ?_
  refine lv_bipush (v := nI 9) hx hb dL_changes_29 (by decide) ?_
  refine lv_ishr hx hb dL_changes_31 ?_
  refine lv_aload_n hx hb dL_changes_32 rfl (lv_at hl 2 rfl) ?_
  refine lv_iconst (v := nI 4) hx hb dL_changes_33 (by decide) ?_
  refine nv_callV [.int (nI 4)] [.int (z >>> ((nI (9)) &&& 31))] hx hb hml hown hts k_RL_8 (c_X3_count4 l D cI cR h ad aa σ o n τ 4 hw rfl) ⟨rfl, rfl, Nat.le_of_ble_eq_true rfl, Nat.le_of_ble_eq_true rfl⟩ hP hK 3 rfl rfl rfl rfl hl rfl (Nat.le_of_ble_eq_true rfl) dL_changes_34 ⟨Nat.zero_le _, Nat.zero_le _⟩ ?_
  refine lv_iconst (v := nI 1) hx hb dL_changes_37 (by decide) ?_
  refine nv_iadd hx hb dL_changes_38 ?_
  refine nv_callS [.int (z >>> ((nI (9)) &&& 31)), .int (nI ((nW σ) + 1))] [] hx hb hml hown hts k_RL_41 (c_L_low l D cI cR (z >>> ((nI (9)) &&& 31)) ((nW σ) + 1) (by omega) (by omega)) ⟨rfl, rfl, Nat.le_of_ble_eq_true rfl, Nat.le_of_ble_eq_true rfl⟩ (va_P_nil) hK rfl hl rfl (Nat.le_of_ble_eq_true rfl) dL_changes_39 ⟨Nat.zero_le _, Nat.zero_le _⟩ ?_
  refine nv_top (chw σ z) (rfl) ?_
  refine lv_istore (lv' := [(4, .int (nI (chw σ z))), (3, .int (nI (cha σ z))), (2, .int (nI (chr σ z))), (0, .ref h), (1, .int z)]) hx hb dL_changes_42 hl (by decide) rfl (fun ls hl => ?_)
  refine lv_iload_n hx hb dL_changes_44 rfl (lv_at hl 4 rfl) ?_
  refine lv_bipush (v := nI 14) hx hb dL_changes_45 (by decide) ?_
  refine nv_callS [.int z, .int (nI 14)] [] hx hb hml hown hts k_RL_41 (c_L_low l D cI cR z 14 (by omega) (by omega)) ⟨rfl, rfl, Nat.le_of_ble_eq_true rfl, Nat.le_of_ble_eq_true rfl⟩ (va_P_nil) hK rfl hl rfl (Nat.le_of_ble_eq_true rfl) dL_changes_47 ⟨Nat.zero_le _, Nat.zero_le _⟩ ?_
  obtain ⟨k, ek⟩ : ∃ k, k = loN z 14 := ⟨_, rfl⟩
  have hk14 : k < 14 := by rw [ek]; exact loN_lt z (by decide)
  refine nv_top (k) (ek.symm) ?_
  rcases (show k = 0 ∨ k = 1 ∨ k = 2 ∨ k = 3 ∨ k = 4 ∨ k = 5 ∨ k = 6 ∨ k = 7 ∨ k = 8 ∨ k = 9 ∨ k = 10 ∨ k = 11 ∨ k = 12 ∨ k = 13 by omega) with rfl | rfl | rfl | rfl | rfl | rfl | rfl | rfl | rfl | rfl | rfl | rfl | rfl | rfl
  · refine lv_tableIn (off := 66) (tgt := 116) hx hb dL_changes_50 (by decide) (by decide) rfl (by decide) ?_
    refine lv_aload_n hx hb dL_changes_116 rfl (lv_at hl 3 rfl) ?_
    refine lv_iload_n hx hb dL_changes_117 rfl (lv_at hl 2 rfl) ?_
    refine lv_iload_n hx hb dL_changes_118 rfl (lv_at hl 4 rfl) ?_
    refine lv_bipush (v := nI 9) hx hb dL_changes_119 (by decide) ?_
    refine lv_ishr hx hb dL_changes_121 ?_
    refine lv_bipush (v := nI 16) hx hb dL_changes_122 (by decide) ?_
    refine nv_callS [.int (z >>> ((nI (9)) &&& 31)), .int (nI 16)] [.int (nI (chr σ z)), .ref h] hx hb hml hown hts k_RL_41 (c_L_low l D cI cR (z >>> ((nI (9)) &&& 31)) 16 (by omega) (by omega)) ⟨rfl, rfl, Nat.le_of_ble_eq_true rfl, Nat.le_of_ble_eq_true rfl⟩ (va_P_nil) hK rfl hl rfl (Nat.le_of_ble_eq_true rfl) dL_changes_124 ⟨Nat.zero_le _, Nat.zero_le _⟩ ?_
    refine nv_top (chc z) (rfl) ?_
    refine mu_allV (ws2 := (wS h ad aa cI cR (cond (tSet σ (nI (chr σ z)) (nI (chc z))).1 (tSet σ (nI (chr σ z)) (nI (chc z))).2.1 σ) (cond (tSet σ (nI (chr σ z)) (nI (chc z))).1 (kpO o n) o) (cond (tSet σ (nI (chr σ z)) (nI (chc z))).1 (kpN n) n) (cond (tSet σ (nI (chr σ z)) (nI (chc z))).1 (va_up τ (kpS o n) σ) τ))) [.int (nI (chr σ z)), .int (nI (chc z))] [] hx hb hml hown hts k_RL_47 (fun sz => c_X3_setCodeT l D cI cR h ad aa σ o n τ (nI (chr σ z)) (nI (chc z)) hw ho hn sz) ⟨rfl, rfl, Nat.le_of_ble_eq_true rfl, Nat.le_of_ble_eq_true rfl⟩ hP hD hS hA hK 3 rfl rfl rfl rfl hl rfl (Nat.le_of_ble_eq_true rfl) dL_changes_127 ⟨Nat.zero_le _, Nat.zero_le _⟩ (fun H locs hP hD hS => ?_)
    refine W.eq (g2 := F0 m 130 ls [.int ((tSet σ (nI (chr σ z)) (nI (chc z))).2.2)]) rfl ?_
    have E0 : chT σ z = tSet σ (nI (chr σ z)) (nI (chc z)) := chT_at ek (rfl)
    have hP : va_P D vwCl (wS h ad aa cI cR (cond (chT σ z).1 (chT σ z).2.1 σ) (cond (chT σ z).1 (kpO o n) o) (cond (chT σ z).1 (kpN n) n) (cond (chT σ z).1 (va_up τ (kpS o n) σ) τ)) H := by rw [E0]; exact hP
    have hD : va_D A (wS h ad aa cI cR (cond (chT σ z).1 (chT σ z).2.1 σ) (cond (chT σ z).1 (kpO o n) o) (cond (chT σ z).1 (kpN n) n) (cond (chT σ z).1 (va_up τ (kpS o n) σ) τ)) := by rw [E0]; exact hD
    exact mu_reti hx hb hr hlocks (by rw [E0]) hP hD hS dL_changes_130
  · refine lv_tableIn (off := 81) (tgt := 131) hx hb dL_changes_50 (by decide) (by decide) rfl (by decide) ?_
    refine lv_aload_n hx hb dL_changes_131 rfl (lv_at hl 3 rfl) ?_
    refine lv_iload_n hx hb dL_changes_132 rfl (lv_at hl 1 rfl) ?_
    refine lv_iload_n hx hb dL_changes_133 rfl (lv_at hl 4 rfl) ?_
    refine lv_bipush (v := nI 9) hx hb dL_changes_134 (by decide) ?_
    refine lv_ishr hx hb dL_changes_136 ?_
    refine lv_iconst (v := nI 1) hx hb dL_changes_137 (by decide) ?_
    refine lv_aload_n hx hb dL_changes_138 rfl (lv_at hl 3 rfl) ?_
    refine lv_iconst (v := nI 1) hx hb dL_changes_139 (by decide) ?_
    refine nv_callV [.int (nI 1)] [.int (nI 1), .int (z >>> ((nI (9)) &&& 31)), .int (nI (cha σ z)), .ref h] hx hb hml hown hts k_RL_8 (c_X3_count1 l D cI cR h ad aa σ o n τ 1 hw rfl) ⟨rfl, rfl, Nat.le_of_ble_eq_true rfl, Nat.le_of_ble_eq_true rfl⟩ hP hK 3 rfl rfl rfl rfl hl rfl (Nat.le_of_ble_eq_true rfl) dL_changes_140 ⟨Nat.zero_le _, Nat.zero_le _⟩ ?_
    refine nv_ishl hx hb dL_changes_143 (by omega) ?_
    refine nv_callS [.int (z >>> ((nI (9)) &&& 31)), .int (nI (1 <<< (σ 1)))] [.int (nI (cha σ z)), .ref h] hx hb hml hown hts k_RL_41 (c_L_low l D cI cR (z >>> ((nI (9)) &&& 31)) (1 <<< (σ 1)) (by omega) (by omega)) ⟨rfl, rfl, Nat.le_of_ble_eq_true rfl, Nat.le_of_ble_eq_true rfl⟩ (va_P_nil) hK rfl hl rfl (Nat.le_of_ble_eq_true rfl) dL_changes_144 ⟨Nat.zero_le _, Nat.zero_le _⟩ ?_
    refine nv_top (chv σ z) (rfl) ?_
    refine mu_allV (ws2 := (wS h ad aa cI cR (cond (tWv σ (nI (cha σ z)) (nI (chv σ z))).1 (tWv σ (nI (cha σ z)) (nI (chv σ z))).2.1 σ) (cond (tWv σ (nI (cha σ z)) (nI (chv σ z))).1 (kpO o n) o) (cond (tWv σ (nI (cha σ z)) (nI (chv σ z))).1 (kpN n) n) (cond (tWv σ (nI (cha σ z)) (nI (chv σ z))).1 (va_up τ (kpS o n) σ) τ))) [.int (nI (cha σ z)), .int (nI (chv σ z))] [] hx hb hml hown hts k_RL_50 (fun sz => c_X3_weaveT l D cI cR h ad aa σ o n τ (nI (cha σ z)) (nI (chv σ z)) hw ho hn sz) ⟨rfl, rfl, Nat.le_of_ble_eq_true rfl, Nat.le_of_ble_eq_true rfl⟩ hP hD hS hA hK 3 rfl rfl rfl rfl hl rfl (Nat.le_of_ble_eq_true rfl) dL_changes_147 ⟨Nat.zero_le _, Nat.zero_le _⟩ (fun H locs hP hD hS => ?_)
    refine W.eq (g2 := F0 m 150 ls [.int ((tWv σ (nI (cha σ z)) (nI (chv σ z))).2.2)]) rfl ?_
    have E0 : chT σ z = tWv σ (nI (cha σ z)) (nI (chv σ z)) := chT_at ek (rfl)
    have hP : va_P D vwCl (wS h ad aa cI cR (cond (chT σ z).1 (chT σ z).2.1 σ) (cond (chT σ z).1 (kpO o n) o) (cond (chT σ z).1 (kpN n) n) (cond (chT σ z).1 (va_up τ (kpS o n) σ) τ)) H := by rw [E0]; exact hP
    have hD : va_D A (wS h ad aa cI cR (cond (chT σ z).1 (chT σ z).2.1 σ) (cond (chT σ z).1 (kpO o n) o) (cond (chT σ z).1 (kpN n) n) (cond (chT σ z).1 (va_up τ (kpS o n) σ) τ)) := by rw [E0]; exact hD
    exact mu_reti hx hb hr hlocks (by rw [E0]) hP hD hS dL_changes_150
  · refine lv_tableIn (off := 81) (tgt := 131) hx hb dL_changes_50 (by decide) (by decide) rfl (by decide) ?_
    refine lv_aload_n hx hb dL_changes_131 rfl (lv_at hl 3 rfl) ?_
    refine lv_iload_n hx hb dL_changes_132 rfl (lv_at hl 1 rfl) ?_
    refine lv_iload_n hx hb dL_changes_133 rfl (lv_at hl 4 rfl) ?_
    refine lv_bipush (v := nI 9) hx hb dL_changes_134 (by decide) ?_
    refine lv_ishr hx hb dL_changes_136 ?_
    refine lv_iconst (v := nI 1) hx hb dL_changes_137 (by decide) ?_
    refine lv_aload_n hx hb dL_changes_138 rfl (lv_at hl 3 rfl) ?_
    refine lv_iconst (v := nI 1) hx hb dL_changes_139 (by decide) ?_
    refine nv_callV [.int (nI 1)] [.int (nI 1), .int (z >>> ((nI (9)) &&& 31)), .int (nI (cha σ z)), .ref h] hx hb hml hown hts k_RL_8 (c_X3_count1 l D cI cR h ad aa σ o n τ 1 hw rfl) ⟨rfl, rfl, Nat.le_of_ble_eq_true rfl, Nat.le_of_ble_eq_true rfl⟩ hP hK 3 rfl rfl rfl rfl hl rfl (Nat.le_of_ble_eq_true rfl) dL_changes_140 ⟨Nat.zero_le _, Nat.zero_le _⟩ ?_
    refine nv_ishl hx hb dL_changes_143 (by omega) ?_
    refine nv_callS [.int (z >>> ((nI (9)) &&& 31)), .int (nI (1 <<< (σ 1)))] [.int (nI (cha σ z)), .ref h] hx hb hml hown hts k_RL_41 (c_L_low l D cI cR (z >>> ((nI (9)) &&& 31)) (1 <<< (σ 1)) (by omega) (by omega)) ⟨rfl, rfl, Nat.le_of_ble_eq_true rfl, Nat.le_of_ble_eq_true rfl⟩ (va_P_nil) hK rfl hl rfl (Nat.le_of_ble_eq_true rfl) dL_changes_144 ⟨Nat.zero_le _, Nat.zero_le _⟩ ?_
    refine nv_top (chv σ z) (rfl) ?_
    refine mu_allV (ws2 := (wS h ad aa cI cR (cond (tWv σ (nI (cha σ z)) (nI (chv σ z))).1 (tWv σ (nI (cha σ z)) (nI (chv σ z))).2.1 σ) (cond (tWv σ (nI (cha σ z)) (nI (chv σ z))).1 (kpO o n) o) (cond (tWv σ (nI (cha σ z)) (nI (chv σ z))).1 (kpN n) n) (cond (tWv σ (nI (cha σ z)) (nI (chv σ z))).1 (va_up τ (kpS o n) σ) τ))) [.int (nI (cha σ z)), .int (nI (chv σ z))] [] hx hb hml hown hts k_RL_50 (fun sz => c_X3_weaveT l D cI cR h ad aa σ o n τ (nI (cha σ z)) (nI (chv σ z)) hw ho hn sz) ⟨rfl, rfl, Nat.le_of_ble_eq_true rfl, Nat.le_of_ble_eq_true rfl⟩ hP hD hS hA hK 3 rfl rfl rfl rfl hl rfl (Nat.le_of_ble_eq_true rfl) dL_changes_147 ⟨Nat.zero_le _, Nat.zero_le _⟩ (fun H locs hP hD hS => ?_)
    refine W.eq (g2 := F0 m 150 ls [.int ((tWv σ (nI (cha σ z)) (nI (chv σ z))).2.2)]) rfl ?_
    have E0 : chT σ z = tWv σ (nI (cha σ z)) (nI (chv σ z)) := chT_at ek (rfl)
    have hP : va_P D vwCl (wS h ad aa cI cR (cond (chT σ z).1 (chT σ z).2.1 σ) (cond (chT σ z).1 (kpO o n) o) (cond (chT σ z).1 (kpN n) n) (cond (chT σ z).1 (va_up τ (kpS o n) σ) τ)) H := by rw [E0]; exact hP
    have hD : va_D A (wS h ad aa cI cR (cond (chT σ z).1 (chT σ z).2.1 σ) (cond (chT σ z).1 (kpO o n) o) (cond (chT σ z).1 (kpN n) n) (cond (chT σ z).1 (va_up τ (kpS o n) σ) τ)) := by rw [E0]; exact hD
    exact mu_reti hx hb hr hlocks (by rw [E0]) hP hD hS dL_changes_150
  · refine lv_tableIn (off := 81) (tgt := 131) hx hb dL_changes_50 (by decide) (by decide) rfl (by decide) ?_
    refine lv_aload_n hx hb dL_changes_131 rfl (lv_at hl 3 rfl) ?_
    refine lv_iload_n hx hb dL_changes_132 rfl (lv_at hl 1 rfl) ?_
    refine lv_iload_n hx hb dL_changes_133 rfl (lv_at hl 4 rfl) ?_
    refine lv_bipush (v := nI 9) hx hb dL_changes_134 (by decide) ?_
    refine lv_ishr hx hb dL_changes_136 ?_
    refine lv_iconst (v := nI 1) hx hb dL_changes_137 (by decide) ?_
    refine lv_aload_n hx hb dL_changes_138 rfl (lv_at hl 3 rfl) ?_
    refine lv_iconst (v := nI 1) hx hb dL_changes_139 (by decide) ?_
    refine nv_callV [.int (nI 1)] [.int (nI 1), .int (z >>> ((nI (9)) &&& 31)), .int (nI (cha σ z)), .ref h] hx hb hml hown hts k_RL_8 (c_X3_count1 l D cI cR h ad aa σ o n τ 1 hw rfl) ⟨rfl, rfl, Nat.le_of_ble_eq_true rfl, Nat.le_of_ble_eq_true rfl⟩ hP hK 3 rfl rfl rfl rfl hl rfl (Nat.le_of_ble_eq_true rfl) dL_changes_140 ⟨Nat.zero_le _, Nat.zero_le _⟩ ?_
    refine nv_ishl hx hb dL_changes_143 (by omega) ?_
    refine nv_callS [.int (z >>> ((nI (9)) &&& 31)), .int (nI (1 <<< (σ 1)))] [.int (nI (cha σ z)), .ref h] hx hb hml hown hts k_RL_41 (c_L_low l D cI cR (z >>> ((nI (9)) &&& 31)) (1 <<< (σ 1)) (by omega) (by omega)) ⟨rfl, rfl, Nat.le_of_ble_eq_true rfl, Nat.le_of_ble_eq_true rfl⟩ (va_P_nil) hK rfl hl rfl (Nat.le_of_ble_eq_true rfl) dL_changes_144 ⟨Nat.zero_le _, Nat.zero_le _⟩ ?_
    refine nv_top (chv σ z) (rfl) ?_
    refine mu_allV (ws2 := (wS h ad aa cI cR (cond (tWv σ (nI (cha σ z)) (nI (chv σ z))).1 (tWv σ (nI (cha σ z)) (nI (chv σ z))).2.1 σ) (cond (tWv σ (nI (cha σ z)) (nI (chv σ z))).1 (kpO o n) o) (cond (tWv σ (nI (cha σ z)) (nI (chv σ z))).1 (kpN n) n) (cond (tWv σ (nI (cha σ z)) (nI (chv σ z))).1 (va_up τ (kpS o n) σ) τ))) [.int (nI (cha σ z)), .int (nI (chv σ z))] [] hx hb hml hown hts k_RL_50 (fun sz => c_X3_weaveT l D cI cR h ad aa σ o n τ (nI (cha σ z)) (nI (chv σ z)) hw ho hn sz) ⟨rfl, rfl, Nat.le_of_ble_eq_true rfl, Nat.le_of_ble_eq_true rfl⟩ hP hD hS hA hK 3 rfl rfl rfl rfl hl rfl (Nat.le_of_ble_eq_true rfl) dL_changes_147 ⟨Nat.zero_le _, Nat.zero_le _⟩ (fun H locs hP hD hS => ?_)
    refine W.eq (g2 := F0 m 150 ls [.int ((tWv σ (nI (cha σ z)) (nI (chv σ z))).2.2)]) rfl ?_
    have E0 : chT σ z = tWv σ (nI (cha σ z)) (nI (chv σ z)) := chT_at ek (rfl)
    have hP : va_P D vwCl (wS h ad aa cI cR (cond (chT σ z).1 (chT σ z).2.1 σ) (cond (chT σ z).1 (kpO o n) o) (cond (chT σ z).1 (kpN n) n) (cond (chT σ z).1 (va_up τ (kpS o n) σ) τ)) H := by rw [E0]; exact hP
    have hD : va_D A (wS h ad aa cI cR (cond (chT σ z).1 (chT σ z).2.1 σ) (cond (chT σ z).1 (kpO o n) o) (cond (chT σ z).1 (kpN n) n) (cond (chT σ z).1 (va_up τ (kpS o n) σ) τ)) := by rw [E0]; exact hD
    exact mu_reti hx hb hr hlocks (by rw [E0]) hP hD hS dL_changes_150
  · refine lv_tableIn (off := 101) (tgt := 151) hx hb dL_changes_50 (by decide) (by decide) rfl (by decide) ?_
    refine lv_aload_n hx hb dL_changes_151 rfl (lv_at hl 3 rfl) ?_
    refine lv_iload hx hb dL_changes_152 (lv_at hl 0 rfl) ?_
    refine mu_allV (ws2 := (wS h ad aa cI cR (cond (tCr σ (nI (chw σ z))).1 (tCr σ (nI (chw σ z))).2.1 σ) (cond (tCr σ (nI (chw σ z))).1 (kpO o n) o) (cond (tCr σ (nI (chw σ z))).1 (kpN n) n) (cond (tCr σ (nI (chw σ z))).1 (va_up τ (kpS o n) σ) τ))) [.int (nI (chw σ z))] [] hx hb hml hown hts k_RL_53 (fun sz => c_X3_crossT l D cI cR h ad aa σ o n τ (nI (chw σ z)) hw ho hn sz) ⟨rfl, rfl, Nat.le_of_ble_eq_true rfl, Nat.le_of_ble_eq_true rfl⟩ hP hD hS hA hK 3 rfl rfl rfl rfl hl rfl (Nat.le_of_ble_eq_true rfl) dL_changes_154 ⟨Nat.zero_le _, Nat.zero_le _⟩ (fun H locs hP hD hS => ?_)
    refine W.eq (g2 := F0 m 157 ls [.int ((tCr σ (nI (chw σ z))).2.2)]) rfl ?_
    have E0 : chT σ z = tCr σ (nI (chw σ z)) := chT_at ek (rfl)
    have hP : va_P D vwCl (wS h ad aa cI cR (cond (chT σ z).1 (chT σ z).2.1 σ) (cond (chT σ z).1 (kpO o n) o) (cond (chT σ z).1 (kpN n) n) (cond (chT σ z).1 (va_up τ (kpS o n) σ) τ)) H := by rw [E0]; exact hP
    have hD : va_D A (wS h ad aa cI cR (cond (chT σ z).1 (chT σ z).2.1 σ) (cond (chT σ z).1 (kpO o n) o) (cond (chT σ z).1 (kpN n) n) (cond (chT σ z).1 (va_up τ (kpS o n) σ) τ)) := by rw [E0]; exact hD
    exact mu_reti hx hb hr hlocks (by rw [E0]) hP hD hS dL_changes_157
  · refine lv_tableIn (off := 108) (tgt := 158) hx hb dL_changes_50 (by decide) (by decide) rfl (by decide) ?_
    refine lv_aload_n hx hb dL_changes_158 rfl (lv_at hl 3 rfl) ?_
    refine mu_allV (ws2 := (wS h ad aa cI cR (cond (tEc σ).1 (tEc σ).2.1 σ) (cond (tEc σ).1 (kpO o n) o) (cond (tEc σ).1 (kpN n) n) (cond (tEc σ).1 (va_up τ (kpS o n) σ) τ))) [] [] hx hb hml hown hts k_RL_56 (fun sz => c_X3_economizeT l D cI cR h ad aa σ o n τ hw ho hn sz) ⟨rfl, rfl, Nat.le_of_ble_eq_true rfl, Nat.le_of_ble_eq_true rfl⟩ hP hD hS hA hK 3 rfl rfl rfl rfl hl rfl (Nat.le_of_ble_eq_true rfl) dL_changes_159 ⟨Nat.zero_le _, Nat.zero_le _⟩ (fun H locs hP hD hS => ?_)
    refine W.eq (g2 := F0 m 162 ls [.int ((tEc σ).2.2)]) rfl ?_
    have E0 : chT σ z = tEc σ := chT_at ek (rfl)
    have hP : va_P D vwCl (wS h ad aa cI cR (cond (chT σ z).1 (chT σ z).2.1 σ) (cond (chT σ z).1 (kpO o n) o) (cond (chT σ z).1 (kpN n) n) (cond (chT σ z).1 (va_up τ (kpS o n) σ) τ)) H := by rw [E0]; exact hP
    have hD : va_D A (wS h ad aa cI cR (cond (chT σ z).1 (chT σ z).2.1 σ) (cond (chT σ z).1 (kpO o n) o) (cond (chT σ z).1 (kpN n) n) (cond (chT σ z).1 (va_up τ (kpS o n) σ) τ)) := by rw [E0]; exact hD
    exact mu_reti hx hb hr hlocks (by rw [E0]) hP hD hS dL_changes_162
  · refine lv_tableIn (off := 113) (tgt := 163) hx hb dL_changes_50 (by decide) (by decide) rfl (by decide) ?_
    refine lv_aload_n hx hb dL_changes_163 rfl (lv_at hl 3 rfl) ?_
    refine lv_iload hx hb dL_changes_164 (lv_at hl 0 rfl) ?_
    refine lv_iload_n hx hb dL_changes_166 rfl (lv_at hl 2 rfl) ?_
    refine mu_allV (ws2 := (wS h ad aa cI cR (cond (tSp σ (nI (chw σ z)) (nI (chr σ z))).1 (tSp σ (nI (chw σ z)) (nI (chr σ z))).2.1 σ) (cond (tSp σ (nI (chw σ z)) (nI (chr σ z))).1 (kpO o n) o) (cond (tSp σ (nI (chw σ z)) (nI (chr σ z))).1 (kpN n) n) (cond (tSp σ (nI (chw σ z)) (nI (chr σ z))).1 (va_up τ (kpS o n) σ) τ))) [.int (nI (chw σ z)), .int (nI (chr σ z))] [] hx hb hml hown hts k_RL_60 (fun sz => c_X3_spoilT l D cI cR h ad aa σ o n τ (nI (chw σ z)) (nI (chr σ z)) hw ho hn sz) ⟨rfl, rfl, Nat.le_of_ble_eq_true rfl, Nat.le_of_ble_eq_true rfl⟩ hP hD hS hA hK 3 rfl rfl rfl rfl hl rfl (Nat.le_of_ble_eq_true rfl) dL_changes_167 ⟨Nat.zero_le _, Nat.zero_le _⟩ (fun H locs hP hD hS => ?_)
    refine W.eq (g2 := F0 m 170 ls [.int ((tSp σ (nI (chw σ z)) (nI (chr σ z))).2.2)]) rfl ?_
    have E0 : chT σ z = tSp σ (nI (chw σ z)) (nI (chr σ z)) := chT_at ek (rfl)
    have hP : va_P D vwCl (wS h ad aa cI cR (cond (chT σ z).1 (chT σ z).2.1 σ) (cond (chT σ z).1 (kpO o n) o) (cond (chT σ z).1 (kpN n) n) (cond (chT σ z).1 (va_up τ (kpS o n) σ) τ)) H := by rw [E0]; exact hP
    have hD : va_D A (wS h ad aa cI cR (cond (chT σ z).1 (chT σ z).2.1 σ) (cond (chT σ z).1 (kpO o n) o) (cond (chT σ z).1 (kpN n) n) (cond (chT σ z).1 (va_up τ (kpS o n) σ) τ)) := by rw [E0]; exact hD
    exact mu_reti hx hb hr hlocks (by rw [E0]) hP hD hS dL_changes_170
  · refine lv_tableIn (off := 113) (tgt := 163) hx hb dL_changes_50 (by decide) (by decide) rfl (by decide) ?_
    refine lv_aload_n hx hb dL_changes_163 rfl (lv_at hl 3 rfl) ?_
    refine lv_iload hx hb dL_changes_164 (lv_at hl 0 rfl) ?_
    refine lv_iload_n hx hb dL_changes_166 rfl (lv_at hl 2 rfl) ?_
    refine mu_allV (ws2 := (wS h ad aa cI cR (cond (tSp σ (nI (chw σ z)) (nI (chr σ z))).1 (tSp σ (nI (chw σ z)) (nI (chr σ z))).2.1 σ) (cond (tSp σ (nI (chw σ z)) (nI (chr σ z))).1 (kpO o n) o) (cond (tSp σ (nI (chw σ z)) (nI (chr σ z))).1 (kpN n) n) (cond (tSp σ (nI (chw σ z)) (nI (chr σ z))).1 (va_up τ (kpS o n) σ) τ))) [.int (nI (chw σ z)), .int (nI (chr σ z))] [] hx hb hml hown hts k_RL_60 (fun sz => c_X3_spoilT l D cI cR h ad aa σ o n τ (nI (chw σ z)) (nI (chr σ z)) hw ho hn sz) ⟨rfl, rfl, Nat.le_of_ble_eq_true rfl, Nat.le_of_ble_eq_true rfl⟩ hP hD hS hA hK 3 rfl rfl rfl rfl hl rfl (Nat.le_of_ble_eq_true rfl) dL_changes_167 ⟨Nat.zero_le _, Nat.zero_le _⟩ (fun H locs hP hD hS => ?_)
    refine W.eq (g2 := F0 m 170 ls [.int ((tSp σ (nI (chw σ z)) (nI (chr σ z))).2.2)]) rfl ?_
    have E0 : chT σ z = tSp σ (nI (chw σ z)) (nI (chr σ z)) := chT_at ek (rfl)
    have hP : va_P D vwCl (wS h ad aa cI cR (cond (chT σ z).1 (chT σ z).2.1 σ) (cond (chT σ z).1 (kpO o n) o) (cond (chT σ z).1 (kpN n) n) (cond (chT σ z).1 (va_up τ (kpS o n) σ) τ)) H := by rw [E0]; exact hP
    have hD : va_D A (wS h ad aa cI cR (cond (chT σ z).1 (chT σ z).2.1 σ) (cond (chT σ z).1 (kpO o n) o) (cond (chT σ z).1 (kpN n) n) (cond (chT σ z).1 (va_up τ (kpS o n) σ) τ)) := by rw [E0]; exact hD
    exact mu_reti hx hb hr hlocks (by rw [E0]) hP hD hS dL_changes_170
  · refine lv_tableIn (off := 113) (tgt := 163) hx hb dL_changes_50 (by decide) (by decide) rfl (by decide) ?_
    refine lv_aload_n hx hb dL_changes_163 rfl (lv_at hl 3 rfl) ?_
    refine lv_iload hx hb dL_changes_164 (lv_at hl 0 rfl) ?_
    refine lv_iload_n hx hb dL_changes_166 rfl (lv_at hl 2 rfl) ?_
    refine mu_allV (ws2 := (wS h ad aa cI cR (cond (tSp σ (nI (chw σ z)) (nI (chr σ z))).1 (tSp σ (nI (chw σ z)) (nI (chr σ z))).2.1 σ) (cond (tSp σ (nI (chw σ z)) (nI (chr σ z))).1 (kpO o n) o) (cond (tSp σ (nI (chw σ z)) (nI (chr σ z))).1 (kpN n) n) (cond (tSp σ (nI (chw σ z)) (nI (chr σ z))).1 (va_up τ (kpS o n) σ) τ))) [.int (nI (chw σ z)), .int (nI (chr σ z))] [] hx hb hml hown hts k_RL_60 (fun sz => c_X3_spoilT l D cI cR h ad aa σ o n τ (nI (chw σ z)) (nI (chr σ z)) hw ho hn sz) ⟨rfl, rfl, Nat.le_of_ble_eq_true rfl, Nat.le_of_ble_eq_true rfl⟩ hP hD hS hA hK 3 rfl rfl rfl rfl hl rfl (Nat.le_of_ble_eq_true rfl) dL_changes_167 ⟨Nat.zero_le _, Nat.zero_le _⟩ (fun H locs hP hD hS => ?_)
    refine W.eq (g2 := F0 m 170 ls [.int ((tSp σ (nI (chw σ z)) (nI (chr σ z))).2.2)]) rfl ?_
    have E0 : chT σ z = tSp σ (nI (chw σ z)) (nI (chr σ z)) := chT_at ek (rfl)
    have hP : va_P D vwCl (wS h ad aa cI cR (cond (chT σ z).1 (chT σ z).2.1 σ) (cond (chT σ z).1 (kpO o n) o) (cond (chT σ z).1 (kpN n) n) (cond (chT σ z).1 (va_up τ (kpS o n) σ) τ)) H := by rw [E0]; exact hP
    have hD : va_D A (wS h ad aa cI cR (cond (chT σ z).1 (chT σ z).2.1 σ) (cond (chT σ z).1 (kpO o n) o) (cond (chT σ z).1 (kpN n) n) (cond (chT σ z).1 (va_up τ (kpS o n) σ) τ)) := by rw [E0]; exact hD
    exact mu_reti hx hb hr hlocks (by rw [E0]) hP hD hS dL_changes_170
  · refine lv_tableIn (off := 121) (tgt := 171) hx hb dL_changes_50 (by decide) (by decide) rfl (by decide) ?_
    refine lv_aload_n hx hb dL_changes_171 rfl (lv_at hl 3 rfl) ?_
    refine lv_iload_n hx hb dL_changes_172 rfl (lv_at hl 1 rfl) ?_
    refine lv_iload_n hx hb dL_changes_173 rfl (lv_at hl 4 rfl) ?_
    refine lv_bipush (v := nI 9) hx hb dL_changes_174 (by decide) ?_
    refine lv_ishr hx hb dL_changes_176 ?_
    refine lv_iconst (v := nI 1) hx hb dL_changes_177 (by decide) ?_
    refine lv_aload_n hx hb dL_changes_178 rfl (lv_at hl 3 rfl) ?_
    refine lv_iconst (v := nI 1) hx hb dL_changes_179 (by decide) ?_
    refine nv_callV [.int (nI 1)] [.int (nI 1), .int (z >>> ((nI (9)) &&& 31)), .int (nI (cha σ z)), .ref h] hx hb hml hown hts k_RL_8 (c_X3_count1 l D cI cR h ad aa σ o n τ 1 hw rfl) ⟨rfl, rfl, Nat.le_of_ble_eq_true rfl, Nat.le_of_ble_eq_true rfl⟩ hP hK 3 rfl rfl rfl rfl hl rfl (Nat.le_of_ble_eq_true rfl) dL_changes_180 ⟨Nat.zero_le _, Nat.zero_le _⟩ ?_
    refine nv_ishl hx hb dL_changes_183 (by omega) ?_
    refine nv_callS [.int (z >>> ((nI (9)) &&& 31)), .int (nI (1 <<< (σ 1)))] [.int (nI (cha σ z)), .ref h] hx hb hml hown hts k_RL_41 (c_L_low l D cI cR (z >>> ((nI (9)) &&& 31)) (1 <<< (σ 1)) (by omega) (by omega)) ⟨rfl, rfl, Nat.le_of_ble_eq_true rfl, Nat.le_of_ble_eq_true rfl⟩ (va_P_nil) hK rfl hl rfl (Nat.le_of_ble_eq_true rfl) dL_changes_184 ⟨Nat.zero_le _, Nat.zero_le _⟩ ?_
    refine nv_top (chv σ z) (rfl) ?_
    refine mu_allV (ws2 := (wS h ad aa cI cR (cond (tPt σ (nI (cha σ z)) (nI (chv σ z))).1 (tPt σ (nI (cha σ z)) (nI (chv σ z))).2.1 σ) (cond (tPt σ (nI (cha σ z)) (nI (chv σ z))).1 (kpO o n) o) (cond (tPt σ (nI (cha σ z)) (nI (chv σ z))).1 (kpN n) n) (cond (tPt σ (nI (cha σ z)) (nI (chv σ z))).1 (va_up τ (kpS o n) σ) τ))) [.int (nI (cha σ z)), .int (nI (chv σ z))] [] hx hb hml hown hts k_RL_63 (fun sz => c_X3_patchT l D cI cR h ad aa σ o n τ (nI (cha σ z)) (nI (chv σ z)) hw ho hn h4 sz) ⟨rfl, rfl, Nat.le_of_ble_eq_true rfl, Nat.le_of_ble_eq_true rfl⟩ hP hD hS hA hK 3 rfl rfl rfl rfl hl rfl (Nat.le_of_ble_eq_true rfl) dL_changes_187 ⟨Nat.zero_le _, Nat.zero_le _⟩ (fun H locs hP hD hS => ?_)
    refine W.eq (g2 := F0 m 190 ls [.int ((tPt σ (nI (cha σ z)) (nI (chv σ z))).2.2)]) rfl ?_
    have E0 : chT σ z = tPt σ (nI (cha σ z)) (nI (chv σ z)) := chT_at ek (rfl)
    have hP : va_P D vwCl (wS h ad aa cI cR (cond (chT σ z).1 (chT σ z).2.1 σ) (cond (chT σ z).1 (kpO o n) o) (cond (chT σ z).1 (kpN n) n) (cond (chT σ z).1 (va_up τ (kpS o n) σ) τ)) H := by rw [E0]; exact hP
    have hD : va_D A (wS h ad aa cI cR (cond (chT σ z).1 (chT σ z).2.1 σ) (cond (chT σ z).1 (kpO o n) o) (cond (chT σ z).1 (kpN n) n) (cond (chT σ z).1 (va_up τ (kpS o n) σ) τ)) := by rw [E0]; exact hD
    exact mu_reti hx hb hr hlocks (by rw [E0]) hP hD hS dL_changes_190
  · refine lv_tableIn (off := 141) (tgt := 191) hx hb dL_changes_50 (by decide) (by decide) rfl (by decide) ?_
    refine lv_aload_n hx hb dL_changes_191 rfl (lv_at hl 3 rfl) ?_
    refine lv_iload_n hx hb dL_changes_192 rfl (lv_at hl 1 rfl) ?_
    refine mu_allV (ws2 := (wS h ad aa cI cR (cond (tUn σ (nI (cha σ z))).1 (tUn σ (nI (cha σ z))).2.1 σ) (cond (tUn σ (nI (cha σ z))).1 (kpO o n) o) (cond (tUn σ (nI (cha σ z))).1 (kpN n) n) (cond (tUn σ (nI (cha σ z))).1 (va_up τ (kpS o n) σ) τ))) [.int (nI (cha σ z))] [] hx hb hml hown hts k_RL_66 (fun sz => c_X3_unpatchT l D cI cR h ad aa σ o n τ (nI (cha σ z)) hw ho hn sz) ⟨rfl, rfl, Nat.le_of_ble_eq_true rfl, Nat.le_of_ble_eq_true rfl⟩ hP hD hS hA hK 3 rfl rfl rfl rfl hl rfl (Nat.le_of_ble_eq_true rfl) dL_changes_193 ⟨Nat.zero_le _, Nat.zero_le _⟩ (fun H locs hP hD hS => ?_)
    refine W.eq (g2 := F0 m 196 ls [.int ((tUn σ (nI (cha σ z))).2.2)]) rfl ?_
    have E0 : chT σ z = tUn σ (nI (cha σ z)) := chT_at ek (rfl)
    have hP : va_P D vwCl (wS h ad aa cI cR (cond (chT σ z).1 (chT σ z).2.1 σ) (cond (chT σ z).1 (kpO o n) o) (cond (chT σ z).1 (kpN n) n) (cond (chT σ z).1 (va_up τ (kpS o n) σ) τ)) H := by rw [E0]; exact hP
    have hD : va_D A (wS h ad aa cI cR (cond (chT σ z).1 (chT σ z).2.1 σ) (cond (chT σ z).1 (kpO o n) o) (cond (chT σ z).1 (kpN n) n) (cond (chT σ z).1 (va_up τ (kpS o n) σ) τ)) := by rw [E0]; exact hD
    exact mu_reti hx hb hr hlocks (by rw [E0]) hP hD hS dL_changes_196
  · refine lv_tableIn (off := 147) (tgt := 197) hx hb dL_changes_50 (by decide) (by decide) rfl (by decide) ?_
    refine lv_aload_n hx hb dL_changes_197 rfl (lv_at hl 3 rfl) ?_
    refine mu_allV (ws2 := (wS h ad aa cI cR (cond (tPa σ).1 (tPa σ).2.1 σ) (cond (tPa σ).1 (kpO o n) o) (cond (tPa σ).1 (kpN n) n) (cond (tPa σ).1 (va_up τ (kpS o n) σ) τ))) [] [] hx hb hml hown hts k_RL_69 (fun sz => c_X3_patchAllT l D cI cR h ad aa σ o n τ hw ho hn h4 sz) ⟨rfl, rfl, Nat.le_of_ble_eq_true rfl, Nat.le_of_ble_eq_true rfl⟩ hP hD hS hA hK 3 rfl rfl rfl rfl hl rfl (Nat.le_of_ble_eq_true rfl) dL_changes_198 ⟨Nat.zero_le _, Nat.zero_le _⟩ (fun H locs hP hD hS => ?_)
    refine W.eq (g2 := F0 m 201 ls [.int ((tPa σ).2.2)]) rfl ?_
    have E0 : chT σ z = tPa σ := chT_at ek (rfl)
    have hP : va_P D vwCl (wS h ad aa cI cR (cond (chT σ z).1 (chT σ z).2.1 σ) (cond (chT σ z).1 (kpO o n) o) (cond (chT σ z).1 (kpN n) n) (cond (chT σ z).1 (va_up τ (kpS o n) σ) τ)) H := by rw [E0]; exact hP
    have hD : va_D A (wS h ad aa cI cR (cond (chT σ z).1 (chT σ z).2.1 σ) (cond (chT σ z).1 (kpO o n) o) (cond (chT σ z).1 (kpN n) n) (cond (chT σ z).1 (va_up τ (kpS o n) σ) τ)) := by rw [E0]; exact hD
    exact mu_reti hx hb hr hlocks (by rw [E0]) hP hD hS dL_changes_201
  · refine lv_tableIn (off := 152) (tgt := 202) hx hb dL_changes_50 (by decide) (by decide) rfl (by decide) ?_
    refine lv_iload_n hx hb dL_changes_202 rfl (lv_at hl 4 rfl) ?_
    refine lv_iconst (v := nI 4) hx hb dL_changes_203 (by decide) ?_
    refine lv_ishr hx hb dL_changes_204 ?_
    refine lv_iconst (v := nI 3) hx hb dL_changes_205 (by decide) ?_
    refine lv_iand hx hb dL_changes_206 ?_
    refine lv_if_ne (tgt := 249) hx hb dL_changes_207 (by decide) (fun q_207 => ?_) (fun q_207 => ?_)
    · refine lv_aload_n hx hb dL_changes_249 rfl (lv_at hl 3 rfl) ?_
      refine lv_iload hx hb dL_changes_250 (lv_at hl 0 rfl) ?_
      refine lv_iload_n hx hb dL_changes_252 rfl (lv_at hl 2 rfl) ?_
      refine mu_allV (ws2 := (wS h ad aa cI cR (cond (tSp σ (nI (chw σ z)) (nI (chr σ z))).1 (tSp σ (nI (chw σ z)) (nI (chr σ z))).2.1 σ) (cond (tSp σ (nI (chw σ z)) (nI (chr σ z))).1 (kpO o n) o) (cond (tSp σ (nI (chw σ z)) (nI (chr σ z))).1 (kpN n) n) (cond (tSp σ (nI (chw σ z)) (nI (chr σ z))).1 (va_up τ (kpS o n) σ) τ))) [.int (nI (chw σ z)), .int (nI (chr σ z))] [] hx hb hml hown hts k_RL_60 (fun sz => c_X3_spoilT l D cI cR h ad aa σ o n τ (nI (chw σ z)) (nI (chr σ z)) hw ho hn sz) ⟨rfl, rfl, Nat.le_of_ble_eq_true rfl, Nat.le_of_ble_eq_true rfl⟩ hP hD hS hA hK 3 rfl rfl rfl rfl hl rfl (Nat.le_of_ble_eq_true rfl) dL_changes_253 ⟨Nat.zero_le _, Nat.zero_le _⟩ (fun H locs hP hD hS => ?_)
      refine W.eq (g2 := F0 m 256 ls [.int ((tSp σ (nI (chw σ z)) (nI (chr σ z))).2.2)]) rfl ?_
      have E0 : chT σ z = tSp σ (nI (chw σ z)) (nI (chr σ z)) := chT_at ek (if_neg q_207)
      have hP : va_P D vwCl (wS h ad aa cI cR (cond (chT σ z).1 (chT σ z).2.1 σ) (cond (chT σ z).1 (kpO o n) o) (cond (chT σ z).1 (kpN n) n) (cond (chT σ z).1 (va_up τ (kpS o n) σ) τ)) H := by rw [E0]; exact hP
      have hD : va_D A (wS h ad aa cI cR (cond (chT σ z).1 (chT σ z).2.1 σ) (cond (chT σ z).1 (kpO o n) o) (cond (chT σ z).1 (kpN n) n) (cond (chT σ z).1 (va_up τ (kpS o n) σ) τ)) := by rw [E0]; exact hD
      exact mu_reti hx hb hr hlocks (by rw [E0]) hP hD hS dL_changes_256
    · refine lv_aload_n hx hb dL_changes_210 rfl (lv_at hl 3 rfl) ?_
      refine lv_iconst (v := nI 2) hx hb dL_changes_211 (by decide) ?_
      refine lv_iload_n hx hb dL_changes_212 rfl (lv_at hl 4 rfl) ?_
      refine lv_bipush (v := nI 6) hx hb dL_changes_213 (by decide) ?_
      refine lv_ishr hx hb dL_changes_215 ?_
      refine lv_bipush (v := nI 15) hx hb dL_changes_216 (by decide) ?_
      refine nv_callS [.int (z >>> ((nI (6)) &&& 31)), .int (nI 15)] [.int (nI 2), .ref h] hx hb hml hown hts k_RL_41 (c_L_low l D cI cR (z >>> ((nI (6)) &&& 31)) 15 (by omega) (by omega)) ⟨rfl, rfl, Nat.le_of_ble_eq_true rfl, Nat.le_of_ble_eq_true rfl⟩ (va_P_nil) hK rfl hl rfl (Nat.le_of_ble_eq_true rfl) dL_changes_218 ⟨Nat.zero_le _, Nat.zero_le _⟩ ?_
      refine nv_iadd hx hb dL_changes_221 ?_
      refine nv_top (chR z) (rfl) ?_
      refine lv_iconst (v := nI 1) hx hb dL_changes_222 (by decide) ?_
      refine lv_iload_n hx hb dL_changes_223 rfl (lv_at hl 4 rfl) ?_
      refine lv_bipush (v := nI 10) hx hb dL_changes_224 (by decide) ?_
      refine lv_ishr hx hb dL_changes_226 ?_
      refine lv_bipush (v := nI 10) hx hb dL_changes_227 (by decide) ?_
      refine nv_callS [.int (z >>> ((nI (10)) &&& 31)), .int (nI 10)] [.int (nI 1), .int (nI (chR z)), .ref h] hx hb hml hown hts k_RL_41 (c_L_low l D cI cR (z >>> ((nI (10)) &&& 31)) 10 (by omega) (by omega)) ⟨rfl, rfl, Nat.le_of_ble_eq_true rfl, Nat.le_of_ble_eq_true rfl⟩ (va_P_nil) hK rfl hl rfl (Nat.le_of_ble_eq_true rfl) dL_changes_229 ⟨Nat.zero_le _, Nat.zero_le _⟩ ?_
      refine nv_iadd hx hb dL_changes_232 ?_
      refine nv_top (chB z) (rfl) ?_
      refine lv_iconst (v := nI 1) hx hb dL_changes_233 (by decide) ?_
      refine lv_iload_n hx hb dL_changes_234 rfl (lv_at hl 4 rfl) ?_
      refine lv_bipush (v := nI 14) hx hb dL_changes_235 (by decide) ?_
      refine lv_ishr hx hb dL_changes_237 ?_
      refine lv_iconst (v := nI 3) hx hb dL_changes_238 (by decide) ?_
      refine nv_callS [.int (z >>> ((nI (14)) &&& 31)), .int (nI 3)] [.int (nI 1), .int (nI (chB z)), .int (nI (chR z)), .ref h] hx hb hml hown hts k_RL_41 (c_L_low l D cI cR (z >>> ((nI (14)) &&& 31)) 3 (by omega) (by omega)) ⟨rfl, rfl, Nat.le_of_ble_eq_true rfl, Nat.le_of_ble_eq_true rfl⟩ (va_P_nil) hK rfl hl rfl (Nat.le_of_ble_eq_true rfl) dL_changes_239 ⟨Nat.zero_le _, Nat.zero_le _⟩ ?_
      refine nv_iadd hx hb dL_changes_242 ?_
      refine nv_top (chS z) (rfl) ?_
      refine mu_allV (ws2 := (wS h ad aa cI cR (cond (tBg σ (nI (chR z)) (nI (chB z)) (nI (chS z))).1 (tBg σ (nI (chR z)) (nI (chB z)) (nI (chS z))).2.1 σ) (cond (tBg σ (nI (chR z)) (nI (chB z)) (nI (chS z))).1 (kpO o n) o) (cond (tBg σ (nI (chR z)) (nI (chB z)) (nI (chS z))).1 (kpN n) n) (cond (tBg σ (nI (chR z)) (nI (chB z)) (nI (chS z))).1 (va_up τ (kpS o n) σ) τ))) [.int (nI (chR z)), .int (nI (chB z)), .int (nI (chS z))] [] hx hb hml hown hts k_RL_72 (fun sz => c_X3_beginT l D cI cR h ad aa σ o n τ (nI (chR z)) (nI (chB z)) (nI (chS z)) hw ho hn sz) ⟨rfl, rfl, Nat.le_of_ble_eq_true rfl, Nat.le_of_ble_eq_true rfl⟩ hP hD hS hA hK 3 rfl rfl rfl rfl hl rfl (Nat.le_of_ble_eq_true rfl) dL_changes_243 ⟨Nat.zero_le _, Nat.zero_le _⟩ (fun H locs hP hD hS => ?_)
      refine W.eq (g2 := F0 m 246 ls [.int ((tBg σ (nI (chR z)) (nI (chB z)) (nI (chS z))).2.2)]) rfl ?_
      refine lv_goto (tgt := 256) hx hb dL_changes_246 (by decide) ?_
      have E0 : chT σ z = tBg σ (nI (chR z)) (nI (chB z)) (nI (chS z)) := chT_at ek (if_pos q_207)
      have hP : va_P D vwCl (wS h ad aa cI cR (cond (chT σ z).1 (chT σ z).2.1 σ) (cond (chT σ z).1 (kpO o n) o) (cond (chT σ z).1 (kpN n) n) (cond (chT σ z).1 (va_up τ (kpS o n) σ) τ)) H := by rw [E0]; exact hP
      have hD : va_D A (wS h ad aa cI cR (cond (chT σ z).1 (chT σ z).2.1 σ) (cond (chT σ z).1 (kpO o n) o) (cond (chT σ z).1 (kpN n) n) (cond (chT σ z).1 (va_up τ (kpS o n) σ) τ)) := by rw [E0]; exact hD
      exact mu_reti hx hb hr hlocks (by rw [E0]) hP hD hS dL_changes_256
  · refine lv_tableOut (tgt := 257) hx hb dL_changes_50 (Or.inr (by decide)) (by decide) ?_
    refine lv_aload_n hx hb dL_changes_257 rfl (lv_at hl 3 rfl) ?_
    refine lv_iload_n hx hb dL_changes_258 rfl (lv_at hl 1 rfl) ?_
    refine lv_iconst (v := nI 0) hx hb dL_changes_259 (by decide) ?_
    refine mu_allV (ws2 := (wS h ad aa cI cR (cond (tWv σ (nI (cha σ z)) (nI (0))).1 (tWv σ (nI (cha σ z)) (nI (0))).2.1 σ) (cond (tWv σ (nI (cha σ z)) (nI (0))).1 (kpO o n) o) (cond (tWv σ (nI (cha σ z)) (nI (0))).1 (kpN n) n) (cond (tWv σ (nI (cha σ z)) (nI (0))).1 (va_up τ (kpS o n) σ) τ))) [.int (nI (cha σ z)), .int (nI 0)] [] hx hb hml hown hts k_RL_50 (fun sz => c_X3_weaveT l D cI cR h ad aa σ o n τ (nI (cha σ z)) (nI (0)) hw ho hn sz) ⟨rfl, rfl, Nat.le_of_ble_eq_true rfl, Nat.le_of_ble_eq_true rfl⟩ hP hD hS hA hK 3 rfl rfl rfl rfl hl rfl (Nat.le_of_ble_eq_true rfl) dL_changes_260 ⟨Nat.zero_le _, Nat.zero_le _⟩ (fun H locs hP hD hS => ?_)
    refine W.eq (g2 := F0 m 263 ls [.int ((tWv σ (nI (cha σ z)) (nI (0))).2.2)]) rfl ?_
    have E0 : chT σ z = tWv σ (nI (cha σ z)) (nI 0) := chT_at ek (rfl)
    have hP : va_P D vwCl (wS h ad aa cI cR (cond (chT σ z).1 (chT σ z).2.1 σ) (cond (chT σ z).1 (kpO o n) o) (cond (chT σ z).1 (kpN n) n) (cond (chT σ z).1 (va_up τ (kpS o n) σ) τ)) H := by rw [E0]; exact hP
    have hD : va_D A (wS h ad aa cI cR (cond (chT σ z).1 (chT σ z).2.1 σ) (cond (chT σ z).1 (kpO o n) o) (cond (chT σ z).1 (kpN n) n) (cond (chT σ z).1 (va_up τ (kpS o n) σ) τ)) := by rw [E0]; exact hD
    exact mu_reti hx hb hr hlocks (by rw [E0]) hP hD hS dL_changes_263
