set_option maxHeartbeats 4000000 in
set_option maxRecDepth 100000 in
theorem c_X1_isWrong (l : Launch) (D : va_G) (cI cR : ClassId) (h : Nat) (a : Nat → Nat) (σ : Nat → Nat) (k : Nat) (ad : Nat)  (hw : wf σ) (h0 : k < 4) (h1 : ad < nA σ) : MetR l yX1_isWrong cX1_isWrong 3 (some .boolean) (rmK 4 92) (nPre D (nTy cI cR) [.ref h, .int (nI k), .int (nI ad)] (wRp h a cI (σ 0) (σ 1) (σ 2) (onF σ) (wwF σ) (crF σ) (ptF σ))) (zB (iwB σ k ad)) := by
  refine met_read rfl (Nat.le_of_ble_eq_true rfl) ?_
  intro p e s m args below meth c ls hx hb hml hr hlocks hown hts hP hK hl
  have hl : lv_has ls 3 [(0, .ref h), (1, .int (nI k)), (2, .int (nI ad))] := hl
  have hA41 := hw.w41
  have hA33 := hw.a33
  have hA48 := hw.a48
  obtain ⟨hR2, hR, hB1, hB, hS1, hS, -⟩ := id hw
  have hr1 := rrN_lt hw ad
  have hw1 := hw.wd h1
  refine lv_iload_n hx hb dX1_isWrong_0 rfl (lv_at hl 1 rfl) ?_
  rcases (show k = 0 ∨ k = 1 ∨ k = 2 ∨ k = 3 by omega) with rfl | rfl | rfl | rfl
  · refine lv_tableIn (off := 27) (tgt := 28) hx hb dX1_isWrong_1 (by decide) (by decide) rfl (by decide) ?_
    refine lv_aload_n hx hb dX1_isWrong_28 rfl (lv_at hl 0 rfl) ?_
    refine lv_iload_n hx hb dX1_isWrong_29 rfl (lv_at hl 2 rfl) ?_
    refine nv_callV [.int (nI ad)] [] hx hb hml hown hts k_RX1_121 (c_X1_isMisread l D cI cR h a σ ad hw h1) ⟨rfl, rfl, Nat.le_of_ble_eq_true rfl, Nat.le_of_ble_eq_true rfl⟩ hP hK 1 rfl rfl rfl rfl hl rfl (Nat.le_of_ble_eq_true rfl) dX1_isWrong_30 ⟨Nat.zero_le _, Nat.zero_le _⟩ ?_
    exact nv_retz hx hb hr hlocks (zB_z _) (rfl) dX1_isWrong_33
  · refine lv_tableIn (off := 33) (tgt := 34) hx hb dX1_isWrong_1 (by decide) (by decide) rfl (by decide) ?_
    refine lv_aload_n hx hb dX1_isWrong_34 rfl (lv_at hl 0 rfl) ?_
    refine lv_iload_n hx hb dX1_isWrong_35 rfl (lv_at hl 2 rfl) ?_
    refine nv_callV [.int (nI ad)] [] hx hb hml hown hts k_RX1_125 (c_X1_parityIsRight l D cI cR h a σ ad hw h1) ⟨rfl, rfl, Nat.le_of_ble_eq_true rfl, Nat.le_of_ble_eq_true rfl⟩ hP hK 1 rfl rfl rfl rfl hl rfl (Nat.le_of_ble_eq_true rfl) dX1_isWrong_36 ⟨Nat.zero_le _, Nat.zero_le _⟩ ?_
    refine lv_if_ne (tgt := 46) hx hb dX1_isWrong_39 (by decide) (fun q_39 => ?_) (fun q_39 => ?_)
    · refine lv_iconst (v := nI 0) hx hb dX1_isWrong_46 (by decide) ?_
      exact nv_retz hx hb hr hlocks (by decide) (by first | exact zB_1 (show (!paB σ ad) = true by rw [zB_eq0 q_39]; rfl) | exact zB_0 (show (!paB σ ad) = false by rw [zB_ne0 q_39]; rfl)) dX1_isWrong_47
    · refine lv_iconst (v := nI 1) hx hb dX1_isWrong_42 (by decide) ?_
      refine lv_goto (tgt := 47) hx hb dX1_isWrong_43 (by decide) ?_
      exact nv_retz hx hb hr hlocks (by decide) (by first | exact zB_1 (show (!paB σ ad) = true by rw [zB_eq0 q_39]; rfl) | exact zB_0 (show (!paB σ ad) = false by rw [zB_ne0 q_39]; rfl)) dX1_isWrong_47
  · refine lv_tableIn (off := 47) (tgt := 48) hx hb dX1_isWrong_1 (by decide) (by decide) rfl (by decide) ?_
    refine lv_aload_n hx hb dX1_isWrong_48 rfl (lv_at hl 0 rfl) ?_
    refine lv_iload_n hx hb dX1_isWrong_49 rfl (lv_at hl 2 rfl) ?_
    refine nv_callV [.int (nI ad)] [] hx hb hml hown hts k_RX1_121 (c_X1_isMisread l D cI cR h a σ ad hw h1) ⟨rfl, rfl, Nat.le_of_ble_eq_true rfl, Nat.le_of_ble_eq_true rfl⟩ hP hK 1 rfl rfl rfl rfl hl rfl (Nat.le_of_ble_eq_true rfl) dX1_isWrong_50 ⟨Nat.zero_le _, Nat.zero_le _⟩ ?_
    refine lv_if_eq (tgt := 68) hx hb dX1_isWrong_53 (by decide) (fun q_53 => ?_) (fun q_53 => ?_)
    · refine lv_iconst (v := nI 0) hx hb dX1_isWrong_68 (by decide) ?_
      exact nv_retz hx hb hr hlocks (by decide) (by first | exact zB_1 (show (msB σ ad && paB σ ad) = true by rw [zB_ne0 q_53, zB_ne0 q_61]; rfl) | exact zB_0 (show (msB σ ad && paB σ ad) = false by rw [zB_eq0 q_53]; rfl) | exact zB_0 (show (msB σ ad && paB σ ad) = false by rw [zB_ne0 q_53, zB_eq0 q_61]; rfl)) dX1_isWrong_69
    · refine lv_aload_n hx hb dX1_isWrong_56 rfl (lv_at hl 0 rfl) ?_
      refine lv_iload_n hx hb dX1_isWrong_57 rfl (lv_at hl 2 rfl) ?_
      refine nv_callV [.int (nI ad)] [] hx hb hml hown hts k_RX1_125 (c_X1_parityIsRight l D cI cR h a σ ad hw h1) ⟨rfl, rfl, Nat.le_of_ble_eq_true rfl, Nat.le_of_ble_eq_true rfl⟩ hP hK 1 rfl rfl rfl rfl hl rfl (Nat.le_of_ble_eq_true rfl) dX1_isWrong_58 ⟨Nat.zero_le _, Nat.zero_le _⟩ ?_
      refine lv_if_eq (tgt := 68) hx hb dX1_isWrong_61 (by decide) (fun q_61 => ?_) (fun q_61 => ?_)
      · refine lv_iconst (v := nI 0) hx hb dX1_isWrong_68 (by decide) ?_
        exact nv_retz hx hb hr hlocks (by decide) (by first | exact zB_1 (show (msB σ ad && paB σ ad) = true by rw [zB_ne0 q_53, zB_ne0 q_61]; rfl) | exact zB_0 (show (msB σ ad && paB σ ad) = false by rw [zB_eq0 q_53]; rfl) | exact zB_0 (show (msB σ ad && paB σ ad) = false by rw [zB_ne0 q_53, zB_eq0 q_61]; rfl)) dX1_isWrong_69
      · refine lv_iconst (v := nI 1) hx hb dX1_isWrong_64 (by decide) ?_
        refine lv_goto (tgt := 69) hx hb dX1_isWrong_65 (by decide) ?_
        exact nv_retz hx hb hr hlocks (by decide) (by first | exact zB_1 (show (msB σ ad && paB σ ad) = true by rw [zB_ne0 q_53, zB_ne0 q_61]; rfl) | exact zB_0 (show (msB σ ad && paB σ ad) = false by rw [zB_eq0 q_53]; rfl) | exact zB_0 (show (msB σ ad && paB σ ad) = false by rw [zB_ne0 q_53, zB_eq0 q_61]; rfl)) dX1_isWrong_69
  · refine lv_tableOut (tgt := 70) hx hb dX1_isWrong_1 (Or.inr (by decide)) (by decide) ?_
    refine lv_aload_n hx hb dX1_isWrong_70 rfl (lv_at hl 0 rfl) ?_
    refine lv_iload_n hx hb dX1_isWrong_71 rfl (lv_at hl 2 rfl) ?_
    refine nv_callV [.int (nI ad)] [] hx hb hml hown hts k_RX1_128 (c_X1_rawWord l D cI cR h a σ ad hw h1) ⟨rfl, rfl, Nat.le_of_ble_eq_true rfl, Nat.le_of_ble_eq_true rfl⟩ hP hK 1 rfl rfl rfl rfl hl rfl (Nat.le_of_ble_eq_true rfl) dX1_isWrong_72 ⟨Nat.zero_le _, Nat.zero_le _⟩ ?_
    refine lv_aload_n hx hb dX1_isWrong_75 rfl (lv_at hl 0 rfl) ?_
    refine lv_iload_n hx hb dX1_isWrong_76 rfl (lv_at hl 2 rfl) ?_
    refine nv_callV [.int (nI ad)] [.int (nI (rrN σ ad))] hx hb hml hown hts k_RX1_131 (c_X1_wordAt l D cI cR h a σ ad hw h1) ⟨rfl, rfl, Nat.le_of_ble_eq_true rfl, Nat.le_of_ble_eq_true rfl⟩ hP hK 1 rfl rfl rfl rfl hl rfl (Nat.le_of_ble_eq_true rfl) dX1_isWrong_77 ⟨Nat.zero_le _, Nat.zero_le _⟩ ?_
    refine nv_icmp_eq (tgt := 87) hx hb dX1_isWrong_80 (by decide) (by omega) (by omega) (fun q_80 => ?_) (fun q_80 => ?_)
    · refine lv_iconst (v := nI 0) hx hb dX1_isWrong_87 (by decide) ?_
      exact nv_retz hx hb hr hlocks (by decide) (by first | exact zB_1 (show (rrN σ ad != σ (19 + ad)) = true by simp [q_80]) | exact zB_0 (show (rrN σ ad != σ (19 + ad)) = false by simp [q_80])) dX1_isWrong_88
    · refine lv_iconst (v := nI 1) hx hb dX1_isWrong_83 (by decide) ?_
      refine lv_goto (tgt := 88) hx hb dX1_isWrong_84 (by decide) ?_
      exact nv_retz hx hb hr hlocks (by decide) (by first | exact zB_1 (show (rrN σ ad != σ (19 + ad)) = true by simp [q_80]) | exact zB_0 (show (rrN σ ad != σ (19 + ad)) = false by simp [q_80])) dX1_isWrong_88
set_option maxHeartbeats 4000000 in
set_option maxRecDepth 100000 in
theorem c_X1_wrongAddresses (l : Launch) (D : va_G) (cI cR : ClassId) (h : Nat) (a : Nat → Nat) (σ : Nat → Nat) (k : Nat)  (hw : wf σ) (h0 : k < 4) : MetR l yX1_wrongAddresses cX1_wrongAddresses 4 (some .int) (rmK 5 114) (nPre D (nTy cI cR) [.ref h, .int (nI k)] (wRp h a cI (σ 0) (σ 1) (σ 2) (onF σ) (wwF σ) (crF σ) (ptF σ))) (nI (ct (iwB σ k) (nA σ))) := by
  refine met_read rfl (Nat.le_of_ble_eq_true rfl) ?_
  intro p e s m args below meth c ls hx hb hml hr hlocks hown hts hP hK hl
  have hl : lv_has ls 4 [(0, .ref h), (1, .int (nI k))] := hl
  have hA41 := hw.w41
  have hA33 := hw.a33
  have hA48 := hw.a48
  obtain ⟨hR2, hR, hB1, hB, hS1, hS, -⟩ := id hw
  refine lv_iconst (v := nI 0) hx hb dX1_wrongAddresses_0 (by decide) ?_
  refine lv_istore_n (lv' := [(2, .int (nI 0)), (0, .ref h), (1, .int (nI k))]) hx hb dX1_wrongAddresses_1 rfl hl (by decide) rfl (fun ls hl => ?_)
  refine lv_iconst (v := nI 0) hx hb dX1_wrongAddresses_2 (by decide) ?_
  refine lv_istore_n (lv' := [(3, .int (nI 0)), (2, .int (nI 0)), (0, .ref h), (1, .int (nI k))]) hx hb dX1_wrongAddresses_3 rfl hl (by decide) rfl (fun ls hl => ?_)
  have L4 : ∀ (n4 i : Nat), nA σ + 1 ≤ i + n4 → i ≤ nA σ → ∀ (ls : Array Slot), lv_has ls 4 [(0, .ref h), (1, .int (nI k)), (2, .int (nI (ct (iwB σ k) i))), (3, .int (nI i))] → W p l e (rmK 5 114) s m args below meth c s.heap [] 0 0 (MQ below (QcRead (nI (ct (iwB σ k) (nA σ)))) args s 0 0 (fun _ => False)) (F0 m 4 ls []) := by
    intro n4
    induction n4 with
    | zero =>
      intro i h1_4 h2_4
      exact False.elim (by omega)
    | succ n4 ih4 =>
      intro i h1_4 h2_4  ls hl
      refine lv_iload_n hx hb dX1_wrongAddresses_4 rfl (lv_at hl 3 rfl) ?_
      refine lv_aload_n hx hb dX1_wrongAddresses_5 rfl (lv_at hl 0 rfl) ?_
      refine nv_callV [] [.int (nI i)] hx hb hml hown hts k_RX1_42 (c_X1_addressesS l D cI cR h a σ ) ⟨rfl, rfl, Nat.le_of_ble_eq_true rfl, Nat.le_of_ble_eq_true rfl⟩ hP hK 1 rfl rfl rfl rfl hl rfl (Nat.le_of_ble_eq_true rfl) dX1_wrongAddresses_6 ⟨Nat.zero_le _, Nat.zero_le _⟩ ?_
      refine nv_icmp_ge (tgt := 30) hx hb dX1_wrongAddresses_9 (by decide) (by omega) (by omega) (fun q_9 => ?_) (fun q_9 => ?_)
      · refine lv_iload_n hx hb dX1_wrongAddresses_30 rfl (lv_at hl 2 rfl) ?_
        exact nv_ret hx hb hr hlocks (congrArg nI (by rw [show i = nA σ by omega])) dX1_wrongAddresses_31
      · refine lv_aload_n hx hb dX1_wrongAddresses_12 rfl (lv_at hl 0 rfl) ?_
        refine lv_iload_n hx hb dX1_wrongAddresses_13 rfl (lv_at hl 1 rfl) ?_
        refine lv_iload_n hx hb dX1_wrongAddresses_14 rfl (lv_at hl 3 rfl) ?_
        refine nv_callV [.int (nI k), .int (nI i)] [] hx hb hml hown hts k_RX1_117 (c_X1_isWrong l D cI cR h a σ k i hw h0 (by omega)) ⟨rfl, rfl, Nat.le_of_ble_eq_true rfl, Nat.le_of_ble_eq_true rfl⟩ hP hK 1 rfl rfl rfl rfl hl rfl (Nat.le_of_ble_eq_true rfl) dX1_wrongAddresses_15 ⟨Nat.zero_le _, Nat.zero_le _⟩ ?_
        have J18 : ∀ (ls : Array Slot), lv_has ls 4 [(0, .ref h), (1, .int (nI k)), (2, .int (nI (ct (iwB σ k) (i + 1)))), (3, .int (nI i))] → W p l e (rmK 5 114) s m args below meth c s.heap [] 0 0 (MQ below (QcRead (nI (ct (iwB σ k) (nA σ)))) args s 0 0 (fun _ => False)) (F0 m 24 ls []) := by
          intro ls hl
          refine nv_inc (k := 3) (lv' := [(3, .int (nI (i + 1))), (0, .ref h), (1, .int (nI k)), (2, .int (nI (ct (iwB σ k) (i + 1))))]) hx hb dX1_wrongAddresses_24 hl rfl (by decide) rfl (fun ls hl => ?_)
          refine lv_goto (tgt := 4) hx hb dX1_wrongAddresses_27 (by decide) ?_
          exact ih4 (i + 1) (by omega) (by omega)  ls (lv_sub hl [1, 2, 3, 0] rfl)
        refine lv_if_eq (tgt := 24) hx hb dX1_wrongAddresses_18 (by decide) (fun q_18 => ?_) (fun q_18 => ?_)
        · have hl := lv_repl [(0, .ref h), (1, .int (nI k)), (2, .int (nI (ct (iwB σ k) (i + 1)))), (3, .int (nI i))] 2 rfl (congrArg (fun z : Nat => Value.int (nI z)) (show (ct (iwB σ k) i) = (ct (iwB σ k) (i + 1)) from by rw [ct_s]; first | (rw [zB_eq0 q_18]; rfl) | (rw [zB_ne0 q_18]; rfl))) rfl hl
          exact J18 ls (lv_sub hl [0, 1, 2, 3] rfl)
        · refine nv_inc (k := 2) (lv' := [(2, .int (nI ((ct (iwB σ k) i) + 1))), (0, .ref h), (1, .int (nI k)), (3, .int (nI i))]) hx hb dX1_wrongAddresses_21 hl rfl (by decide) rfl (fun ls hl => ?_)
          have hl := lv_repl [(2, .int (nI (ct (iwB σ k) (i + 1)))), (0, .ref h), (1, .int (nI k)), (3, .int (nI i))] 0 rfl (congrArg (fun z : Nat => Value.int (nI z)) (show ((ct (iwB σ k) i) + 1) = (ct (iwB σ k) (i + 1)) from by rw [ct_s]; first | (rw [zB_eq0 q_18]; rfl) | (rw [zB_ne0 q_18]; rfl))) rfl hl
          exact J18 ls (lv_sub hl [1, 2, 0, 3] rfl)
  exact L4 (nA σ + 1) 0 (by omega) (by omega)  ls (lv_sub hl [2, 3, 1, 0] rfl)
set_option maxHeartbeats 4000000 in
set_option maxRecDepth 100000 in
theorem c_X1_crossedWires (l : Launch) (D : va_G) (cI cR : ClassId) (h : Nat) (a : Nat → Nat) (σ : Nat → Nat)   (hw : wf σ) : MetR l yX1_crossedWires cX1_crossedWires 3 (some .int) (rmK 1 20) (nPre D (nTy cI cR) [.ref h] (wRp h a cI (σ 0) (σ 1) (σ 2) (onF σ) (wwF σ) (crF σ) (ptF σ))) (nI (sm (crN σ) (nW σ))) := by
  refine met_read rfl (Nat.le_of_ble_eq_true rfl) ?_
  intro p e s m args below meth c ls hx hb hml hr hlocks hown hts hP hK hl
  have hl : lv_has ls 3 [(0, .ref h)] := hl
  have hA41 := hw.w41
  have hA33 := hw.a33
  have hA48 := hw.a48
  obtain ⟨hR2, hR, hB1, hB, hS1, hS, -⟩ := id hw
  have h8 : 8 ≤ nW σ := by unfold nW; omega
  refine lv_iconst (v := nI 0) hx hb dX1_crossedWires_0 (by decide) ?_
  refine lv_istore_n (lv' := [(1, .int (nI 0)), (0, .ref h)]) hx hb dX1_crossedWires_1 rfl hl (by decide) rfl (fun ls hl => ?_)
  refine lv_bipush (v := nI 8) hx hb dX1_crossedWires_2 (by decide) ?_
  refine lv_istore_n (lv' := [(2, .int (nI 8)), (1, .int (nI 0)), (0, .ref h)]) hx hb dX1_crossedWires_4 rfl hl (by decide) rfl (fun ls hl => ?_)
  have L5 : ∀ (n5 i : Nat), nW σ + 1 ≤ i + n5 → i ≤ nW σ → ∀ (ls : Array Slot), lv_has ls 3 [(0, .ref h), (1, .int (nI (sm (crN σ) i))), (2, .int (nI i))] → W p l e (rmK 1 20) s m args below meth c s.heap [] 0 0 (MQ below (QcRead (nI (sm (crN σ) (nW σ)))) args s 0 0 (fun _ => False)) (F0 m 5 ls []) := by
    intro n5
    induction n5 with
    | zero =>
      intro i h1_5 h2_5
      exact False.elim (by omega)
    | succ n5 ih5 =>
      intro i h1_5 h2_5  ls hl
      refine lv_iload_n hx hb dX1_crossedWires_5 rfl (lv_at hl 2 rfl) ?_
      refine lv_aload_n hx hb dX1_crossedWires_6 rfl (lv_at hl 0 rfl) ?_
      refine nv_callV [] [.int (nI i)] hx hb hml hown hts k_RX1_55 (c_X1_wiresS l D cI cR h a σ ) ⟨rfl, rfl, Nat.le_of_ble_eq_true rfl, Nat.le_of_ble_eq_true rfl⟩ hP hK 1 rfl rfl rfl rfl hl rfl (Nat.le_of_ble_eq_true rfl) dX1_crossedWires_7 ⟨Nat.zero_le _, Nat.zero_le _⟩ ?_
      refine nv_icmp_ge (tgt := 28) hx hb dX1_crossedWires_10 (by decide) (by omega) (by omega) (fun q_10 => ?_) (fun q_10 => ?_)
      · refine lv_iload_n hx hb dX1_crossedWires_28 rfl (lv_at hl 1 rfl) ?_
        exact nv_ret hx hb hr hlocks (congrArg nI (by rw [show i = nW σ by omega])) dX1_crossedWires_29
      · refine lv_iload_n hx hb dX1_crossedWires_13 rfl (lv_at hl 1 rfl) ?_
        refine lv_aload_n hx hb dX1_crossedWires_14 rfl (lv_at hl 0 rfl) ?_
        refine va_get (D := D) (ci := 1) (v := .ref (a 2)) (C := RX1) (T := TX1) (N := 7) hx hb hts inX1 hown hK hP 0 rfl rfl 5 (by decide) (hts _ fl_RX1_18) (fun _ h9 => h9) rfl dX1_crossedWires_15 ?_
        refine lv_iload_n hx hb dX1_crossedWires_18 rfl (lv_at hl 2 rfl) ?_
        refine nv_iald (D := D) (v := nI (crN σ i)) hx hb hK hP 3 0 rfl rfl (k := i) (by omega) (by decide) (rfl) dX1_crossedWires_19 ?_
        refine nv_iadd hx hb dX1_crossedWires_20 ?_
        refine lv_istore_n (lv' := [(1, .int (nI ((sm (crN σ) i) + (crN σ i)))), (0, .ref h), (2, .int (nI i))]) hx hb dX1_crossedWires_21 rfl hl (by decide) rfl (fun ls hl => ?_)
        refine nv_inc (k := 2) (lv' := [(2, .int (nI (i + 1))), (1, .int (nI ((sm (crN σ) i) + (crN σ i)))), (0, .ref h)]) hx hb dX1_crossedWires_22 hl rfl (by decide) rfl (fun ls hl => ?_)
        refine lv_goto (tgt := 5) hx hb dX1_crossedWires_25 (by decide) ?_
        exact ih5 (i + 1) (by omega) (by omega)  ls (lv_sub hl [2, 1, 0] rfl)
  have hl := lv_repl [(2, .int (nI 8)), (1, .int (nI (sm (crN σ) 8))), (0, .ref h)] 1 rfl (congrArg (fun z : Nat => Value.int (nI z)) (show 0 = (sm (crN σ) 8) from (sm_cr8 σ).symm)) rfl hl
  exact L5 (nW σ + 1) 8 (by omega) (by omega)  ls (lv_sub hl [2, 1, 0] rfl)
set_option maxHeartbeats 4000000 in
set_option maxRecDepth 100000 in
theorem c_X1_wrongWeaveCount (l : Launch) (D : va_G) (cI cR : ClassId) (h : Nat) (a : Nat → Nat) (σ : Nat → Nat)   (hw : wf σ) : MetR l yX1_wrongWeaveCount cX1_wrongWeaveCount 3 (some .int) (rmK 1 20) (nPre D (nTy cI cR) [.ref h] (wRp h a cI (σ 0) (σ 1) (σ 2) (onF σ) (wwF σ) (crF σ) (ptF σ))) (nI (sm (fun w => pop (σ (100 + w))) (nW σ))) := by
  refine met_read rfl (Nat.le_of_ble_eq_true rfl) ?_
  intro p e s m args below meth c ls hx hb hml hr hlocks hown hts hP hK hl
  have hl : lv_has ls 3 [(0, .ref h)] := hl
  have hA41 := hw.w41
  have hA33 := hw.a33
  have hA48 := hw.a48
  obtain ⟨hR2, hR, hB1, hB, hS1, hS, -⟩ := id hw
  refine lv_iconst (v := nI 0) hx hb dX1_wrongWeaveCount_0 (by decide) ?_
  refine lv_istore_n (lv' := [(1, .int (nI 0)), (0, .ref h)]) hx hb dX1_wrongWeaveCount_1 rfl hl (by decide) rfl (fun ls hl => ?_)
  refine lv_iconst (v := nI 0) hx hb dX1_wrongWeaveCount_2 (by decide) ?_
  refine lv_istore_n (lv' := [(2, .int (nI 0)), (1, .int (nI 0)), (0, .ref h)]) hx hb dX1_wrongWeaveCount_3 rfl hl (by decide) rfl (fun ls hl => ?_)
  have L4 : ∀ (n4 i : Nat), nW σ + 1 ≤ i + n4 → i ≤ nW σ → ∀ (ls : Array Slot), lv_has ls 3 [(0, .ref h), (1, .int (nI (sm (fun w => pop (σ (100 + w))) i))), (2, .int (nI i))] → W p l e (rmK 1 20) s m args below meth c s.heap [] 0 0 (MQ below (QcRead (nI (sm (fun w => pop (σ (100 + w))) (nW σ)))) args s 0 0 (fun _ => False)) (F0 m 4 ls []) := by
    intro n4
    induction n4 with
    | zero =>
      intro i h1_4 h2_4
      exact False.elim (by omega)
    | succ n4 ih4 =>
      intro i h1_4 h2_4  ls hl
      refine lv_iload_n hx hb dX1_wrongWeaveCount_4 rfl (lv_at hl 2 rfl) ?_
      refine lv_aload_n hx hb dX1_wrongWeaveCount_5 rfl (lv_at hl 0 rfl) ?_
      refine nv_callV [] [.int (nI i)] hx hb hml hown hts k_RX1_55 (c_X1_wiresS l D cI cR h a σ ) ⟨rfl, rfl, Nat.le_of_ble_eq_true rfl, Nat.le_of_ble_eq_true rfl⟩ hP hK 1 rfl rfl rfl rfl hl rfl (Nat.le_of_ble_eq_true rfl) dX1_wrongWeaveCount_6 ⟨Nat.zero_le _, Nat.zero_le _⟩ ?_
      refine nv_icmp_ge (tgt := 30) hx hb dX1_wrongWeaveCount_9 (by decide) (by omega) (by omega) (fun q_9 => ?_) (fun q_9 => ?_)
      · refine lv_iload_n hx hb dX1_wrongWeaveCount_30 rfl (lv_at hl 1 rfl) ?_
        exact nv_ret hx hb hr hlocks (congrArg nI (by rw [show i = nW σ by omega])) dX1_wrongWeaveCount_31
      · refine lv_iload_n hx hb dX1_wrongWeaveCount_12 rfl (lv_at hl 1 rfl) ?_
        refine lv_aload_n hx hb dX1_wrongWeaveCount_13 rfl (lv_at hl 0 rfl) ?_
        refine va_get (D := D) (ci := 1) (v := .ref (a 1)) (C := RX1) (T := TX1) (N := 7) hx hb hts inX1 hown hK hP 0 rfl rfl 4 (by decide) (hts _ fl_RX1_15) (fun _ h9 => h9) rfl dX1_wrongWeaveCount_14 ?_
        refine lv_iload_n hx hb dX1_wrongWeaveCount_17 rfl (lv_at hl 2 rfl) ?_
        refine nv_iald (D := D) (v := nI (σ (100 + i))) hx hb hK hP 2 0 rfl rfl (k := i) (by omega) (by decide) (rfl) dX1_wrongWeaveCount_18 ?_
        refine nv_callS [.int (nI (σ (100 + i)))] [.int (nI (sm (fun w => pop (σ (100 + w))) i))] hx hb hml hown hts k_RX1_73 (c_J6_bitCount_0f7a4 l D cI cR (σ (100 + i)) (hw.sp (by omega))) ⟨rfl, rfl, Nat.le_of_ble_eq_true rfl, Nat.le_of_ble_eq_true rfl⟩ (va_P_nil) hK rfl hl rfl (Nat.le_of_ble_eq_true rfl) dX1_wrongWeaveCount_19 ⟨Nat.zero_le _, Nat.zero_le _⟩ ?_
        refine nv_iadd hx hb dX1_wrongWeaveCount_22 ?_
        refine lv_istore_n (lv' := [(1, .int (nI ((sm (fun w => pop (σ (100 + w))) i) + (pop (σ (100 + i)))))), (0, .ref h), (2, .int (nI i))]) hx hb dX1_wrongWeaveCount_23 rfl hl (by decide) rfl (fun ls hl => ?_)
        refine nv_inc (k := 2) (lv' := [(2, .int (nI (i + 1))), (1, .int (nI ((sm (fun w => pop (σ (100 + w))) i) + (pop (σ (100 + i)))))), (0, .ref h)]) hx hb dX1_wrongWeaveCount_24 hl rfl (by decide) rfl (fun ls hl => ?_)
        refine lv_goto (tgt := 4) hx hb dX1_wrongWeaveCount_27 (by decide) ?_
        exact ih4 (i + 1) (by omega) (by omega)  ls (lv_sub hl [2, 1, 0] rfl)
  exact L4 (nW σ + 1) 0 (by omega) (by omega)  ls (lv_sub hl [2, 1, 0] rfl)
set_option maxHeartbeats 4000000 in
set_option maxRecDepth 100000 in
theorem c_X1_wholeCost (l : Launch) (D : va_G) (cI cR : ClassId) (h : Nat) (a : Nat → Nat) (σ : Nat → Nat)   (hw : wf σ) : MetR l yX1_wholeCost cX1_wholeCost 3 (some .int) (rmK 2 42) (nPre D (nTy cI cR) [.ref h] (wRp h a cI (σ 0) (σ 1) (σ 2) (onF σ) (wwF σ) (crF σ) (ptF σ))) (nI (sm (csN σ) (nW σ))) := by
  refine met_read rfl (Nat.le_of_ble_eq_true rfl) ?_
  intro p e s m args below meth c ls hx hb hml hr hlocks hown hts hP hK hl
  have hl : lv_has ls 3 [(0, .ref h)] := hl
  have hA41 := hw.w41
  have hA33 := hw.a33
  have hA48 := hw.a48
  obtain ⟨hR2, hR, hB1, hB, hS1, hS, -⟩ := id hw
  refine lv_iconst (v := nI 0) hx hb dX1_wholeCost_0 (by decide) ?_
  refine lv_istore_n (lv' := [(1, .int (nI 0)), (0, .ref h)]) hx hb dX1_wholeCost_1 rfl hl (by decide) rfl (fun ls hl => ?_)
  refine lv_iconst (v := nI 0) hx hb dX1_wholeCost_2 (by decide) ?_
  refine lv_istore_n (lv' := [(2, .int (nI 0)), (1, .int (nI 0)), (0, .ref h)]) hx hb dX1_wholeCost_3 rfl hl (by decide) rfl (fun ls hl => ?_)
  have L4 : ∀ (n4 i : Nat), nW σ + 1 ≤ i + n4 → i ≤ nW σ → ∀ (ls : Array Slot), lv_has ls 3 [(0, .ref h), (1, .int (nI (sm (csN σ) i))), (2, .int (nI i))] → W p l e (rmK 2 42) s m args below meth c s.heap [] 0 0 (MQ below (QcRead (nI (sm (csN σ) (nW σ)))) args s 0 0 (fun _ => False)) (F0 m 4 ls []) := by
    intro n4
    induction n4 with
    | zero =>
      intro i h1_4 h2_4
      exact False.elim (by omega)
    | succ n4 ih4 =>
      intro i h1_4 h2_4  ls hl
      refine lv_iload_n hx hb dX1_wholeCost_4 rfl (lv_at hl 2 rfl) ?_
      refine lv_aload_n hx hb dX1_wholeCost_5 rfl (lv_at hl 0 rfl) ?_
      refine nv_callV [] [.int (nI i)] hx hb hml hown hts k_RX1_55 (c_X1_wiresS l D cI cR h a σ ) ⟨rfl, rfl, Nat.le_of_ble_eq_true rfl, Nat.le_of_ble_eq_true rfl⟩ hP hK 1 rfl rfl rfl rfl hl rfl (Nat.le_of_ble_eq_true rfl) dX1_wholeCost_6 ⟨Nat.zero_le _, Nat.zero_le _⟩ ?_
      refine nv_icmp_ge (tgt := 26) hx hb dX1_wholeCost_9 (by decide) (by omega) (by omega) (fun q_9 => ?_) (fun q_9 => ?_)
      · refine lv_iload_n hx hb dX1_wholeCost_26 rfl (lv_at hl 1 rfl) ?_
        exact nv_ret hx hb hr hlocks (congrArg nI (by rw [show i = nW σ by omega])) dX1_wholeCost_27
      · refine lv_iload_n hx hb dX1_wholeCost_12 rfl (lv_at hl 1 rfl) ?_
        refine lv_aload_n hx hb dX1_wholeCost_13 rfl (lv_at hl 0 rfl) ?_
        refine lv_iload_n hx hb dX1_wholeCost_14 rfl (lv_at hl 2 rfl) ?_
        refine nv_callV [.int (nI i)] [.int (nI (sm (csN σ) i))] hx hb hml hown hts k_RX1_79 (c_X1_costOf l D cI cR h a σ i hw (by omega)) ⟨rfl, rfl, Nat.le_of_ble_eq_true rfl, Nat.le_of_ble_eq_true rfl⟩ hP hK 1 rfl rfl rfl rfl hl rfl (Nat.le_of_ble_eq_true rfl) dX1_wholeCost_15 ⟨Nat.zero_le _, Nat.zero_le _⟩ ?_
        refine nv_iadd hx hb dX1_wholeCost_18 ?_
        refine lv_istore_n (lv' := [(1, .int (nI ((sm (csN σ) i) + (csN σ i)))), (0, .ref h), (2, .int (nI i))]) hx hb dX1_wholeCost_19 rfl hl (by decide) rfl (fun ls hl => ?_)
        refine nv_inc (k := 2) (lv' := [(2, .int (nI (i + 1))), (1, .int (nI ((sm (csN σ) i) + (csN σ i)))), (0, .ref h)]) hx hb dX1_wholeCost_20 hl rfl (by decide) rfl (fun ls hl => ?_)
        refine lv_goto (tgt := 4) hx hb dX1_wholeCost_23 (by decide) ?_
        exact ih4 (i + 1) (by omega) (by omega)  ls (lv_sub hl [2, 1, 0] rfl)
  exact L4 (nW σ + 1) 0 (by omega) (by omega)  ls (lv_sub hl [2, 1, 0] rfl)
set_option maxHeartbeats 4000000 in
set_option maxRecDepth 100000 in
theorem c_X1_patchCount (l : Launch) (D : va_G) (cI cR : ClassId) (h : Nat) (a : Nat → Nat) (σ : Nat → Nat)   (hw : wf σ) : MetR l yX1_patchCount cX1_patchCount 3 (some .int) (rmK 1 20) (nPre D (nTy cI cR) [.ref h] (wRp h a cI (σ 0) (σ 1) (σ 2) (onF σ) (wwF σ) (crF σ) (ptF σ))) (nI (ct (fun a => σ (141 + a) != 0) (nA σ))) := by
  refine met_read rfl (Nat.le_of_ble_eq_true rfl) ?_
  intro p e s m args below meth c ls hx hb hml hr hlocks hown hts hP hK hl
  have hl : lv_has ls 3 [(0, .ref h)] := hl
  have hA41 := hw.w41
  have hA33 := hw.a33
  have hA48 := hw.a48
  obtain ⟨hR2, hR, hB1, hB, hS1, hS, -⟩ := id hw
  refine lv_iconst (v := nI 0) hx hb dX1_patchCount_0 (by decide) ?_
  refine lv_istore_n (lv' := [(1, .int (nI 0)), (0, .ref h)]) hx hb dX1_patchCount_1 rfl hl (by decide) rfl (fun ls hl => ?_)
  refine lv_iconst (v := nI 0) hx hb dX1_patchCount_2 (by decide) ?_
  refine lv_istore_n (lv' := [(2, .int (nI 0)), (1, .int (nI 0)), (0, .ref h)]) hx hb dX1_patchCount_3 rfl hl (by decide) rfl (fun ls hl => ?_)
  have L4 : ∀ (n4 i : Nat), nA σ + 1 ≤ i + n4 → i ≤ nA σ → ∀ (ls : Array Slot), lv_has ls 3 [(0, .ref h), (1, .int (nI (ct (fun a => σ (141 + a) != 0) i))), (2, .int (nI i))] → W p l e (rmK 1 20) s m args below meth c s.heap [] 0 0 (MQ below (QcRead (nI (ct (fun a => σ (141 + a) != 0) (nA σ)))) args s 0 0 (fun _ => False)) (F0 m 4 ls []) := by
    intro n4
    induction n4 with
    | zero =>
      intro i h1_4 h2_4
      exact False.elim (by omega)
    | succ n4 ih4 =>
      intro i h1_4 h2_4  ls hl
      refine lv_iload_n hx hb dX1_patchCount_4 rfl (lv_at hl 2 rfl) ?_
      refine lv_aload_n hx hb dX1_patchCount_5 rfl (lv_at hl 0 rfl) ?_
      refine nv_callV [] [.int (nI i)] hx hb hml hown hts k_RX1_42 (c_X1_addressesS l D cI cR h a σ ) ⟨rfl, rfl, Nat.le_of_ble_eq_true rfl, Nat.le_of_ble_eq_true rfl⟩ hP hK 1 rfl rfl rfl rfl hl rfl (Nat.le_of_ble_eq_true rfl) dX1_patchCount_6 ⟨Nat.zero_le _, Nat.zero_le _⟩ ?_
      refine nv_icmp_ge (tgt := 31) hx hb dX1_patchCount_9 (by decide) (by omega) (by omega) (fun q_9 => ?_) (fun q_9 => ?_)
      · refine lv_iload_n hx hb dX1_patchCount_31 rfl (lv_at hl 1 rfl) ?_
        exact nv_ret hx hb hr hlocks (congrArg nI (by rw [show i = nA σ by omega])) dX1_patchCount_32
      · refine lv_aload_n hx hb dX1_patchCount_12 rfl (lv_at hl 0 rfl) ?_
        refine va_get (D := D) (ci := 1) (v := .ref (a 3)) (C := RX1) (T := TX1) (N := 7) hx hb hts inX1 hown hK hP 0 rfl rfl 6 (by decide) (hts _ fl_RX1_21) (fun _ h9 => h9) rfl dX1_patchCount_13 ?_
        refine lv_iload_n hx hb dX1_patchCount_16 rfl (lv_at hl 2 rfl) ?_
        refine nv_iald (D := D) (v := (ptF σ) i) hx hb hK hP 4 0 rfl rfl (k := i) (by omega) (by decide) (rfl) dX1_patchCount_17 ?_
        refine lv_iconst (v := -1) hx hb dX1_patchCount_18 (by decide) ?_
        have J19 : ∀ (ls : Array Slot), lv_has ls 3 [(0, .ref h), (1, .int (nI (ct (fun a => σ (141 + a) != 0) (i + 1)))), (2, .int (nI i))] → W p l e (rmK 1 20) s m args below meth c s.heap [] 0 0 (MQ below (QcRead (nI (ct (fun a => σ (141 + a) != 0) (nA σ)))) args s 0 0 (fun _ => False)) (F0 m 25 ls []) := by
          intro ls hl
          refine nv_inc (k := 2) (lv' := [(2, .int (nI (i + 1))), (0, .ref h), (1, .int (nI (ct (fun a => σ (141 + a) != 0) (i + 1))))]) hx hb dX1_patchCount_25 hl rfl (by decide) rfl (fun ls hl => ?_)
          refine lv_goto (tgt := 4) hx hb dX1_patchCount_28 (by decide) ?_
          exact ih4 (i + 1) (by omega) (by omega)  ls (lv_sub hl [1, 2, 0] rfl)
        refine lv_icmp_eq (tgt := 25) hx hb dX1_patchCount_19 (by decide) (fun q_19 => ?_) (fun q_19 => ?_)
        · have hl := lv_repl [(0, .ref h), (1, .int (nI (ct (fun a => σ (141 + a) != 0) (i + 1)))), (2, .int (nI i))] 1 rfl (congrArg (fun z : Nat => Value.int (nI z)) (show (ct (fun a => σ (141 + a) != 0) i) = (ct (fun a => σ (141 + a) != 0) (i + 1)) from by rw [ct_s]; first | (rw [(ptF_m1 (hw.pt (by omega))).mp q_19]; rfl) | (rw [bne_iff_ne.mpr (mt (ptF_m1 (hw.pt (show i < nA σ by omega))).mpr q_19)]; rfl))) rfl hl
          exact J19 ls (lv_sub hl [0, 1, 2] rfl)
        · refine nv_inc (k := 1) (lv' := [(1, .int (nI ((ct (fun a => σ (141 + a) != 0) i) + 1))), (0, .ref h), (2, .int (nI i))]) hx hb dX1_patchCount_22 hl rfl (by decide) rfl (fun ls hl => ?_)
          have hl := lv_repl [(1, .int (nI (ct (fun a => σ (141 + a) != 0) (i + 1)))), (0, .ref h), (2, .int (nI i))] 0 rfl (congrArg (fun z : Nat => Value.int (nI z)) (show ((ct (fun a => σ (141 + a) != 0) i) + 1) = (ct (fun a => σ (141 + a) != 0) (i + 1)) from by rw [ct_s]; first | (rw [(ptF_m1 (hw.pt (by omega))).mp q_19]; rfl) | (rw [bne_iff_ne.mpr (mt (ptF_m1 (hw.pt (show i < nA σ by omega))).mpr q_19)]; rfl))) rfl hl
          exact J19 ls (lv_sub hl [1, 0, 2] rfl)
  exact L4 (nA σ + 1) 0 (by omega) (by omega)  ls (lv_sub hl [2, 1, 0] rfl)
set_option maxHeartbeats 4000000 in
set_option maxRecDepth 100000 in
theorem c_X1_number (l : Launch) (D : va_G) (cI cR : ClassId) (h : Nat) (a : Nat → Nat) (σ : Nat → Nat) (k : Nat)  (hw : wf σ) (h0 : k < 9) : MetR l yX1_number cX1_number 2 (some .int) (rmK 3 64) (nPre D (nTy cI cR) [.ref h, .int (nI k)] (wRp h a cI (σ 0) (σ 1) (σ 2) (onF σ) (wwF σ) (crF σ) (ptF σ))) (nI (nuN σ k)) := by
  refine met_read rfl (Nat.le_of_ble_eq_true rfl) ?_
  intro p e s m args below meth c ls hx hb hml hr hlocks hown hts hP hK hl
  have hl : lv_has ls 2 [(0, .ref h), (1, .int (nI k))] := hl
  have hA41 := hw.w41
  have hA33 := hw.a33
  have hA48 := hw.a48
  obtain ⟨hR2, hR, hB1, hB, hS1, hS, -⟩ := id hw
  refine lv_iload_n hx hb dX1_number_0 rfl (lv_at hl 1 rfl) ?_
  rcases (show k = 0 ∨ k = 1 ∨ k = 2 ∨ k = 3 ∨ k = 4 ∨ k = 5 ∨ k = 6 ∨ k = 7 ∨ k = 8 by omega) with rfl | rfl | rfl | rfl | rfl | rfl | rfl | rfl | rfl
  · refine lv_tableIn (off := 47) (tgt := 48) hx hb dX1_number_1 (by decide) (by decide) rfl (by decide) ?_
    refine lv_aload_n hx hb dX1_number_48 rfl (lv_at hl 0 rfl) ?_
    refine va_get (D := D) (ci := 1) (v := .int (nI (σ 0))) (C := RX1) (T := TX1) (N := 7) hx hb hts inX1 hown hK hP 0 rfl rfl 0 (by decide) (hts _ fl_RX1_28) (fun _ h9 => h9) rfl dX1_number_49 ?_
    exact nv_ret hx hb hr hlocks (rfl) dX1_number_52
  · refine lv_tableIn (off := 52) (tgt := 53) hx hb dX1_number_1 (by decide) (by decide) rfl (by decide) ?_
    refine lv_aload_n hx hb dX1_number_53 rfl (lv_at hl 0 rfl) ?_
    refine va_get (D := D) (ci := 1) (v := .int (nI (σ 1))) (C := RX1) (T := TX1) (N := 7) hx hb hts inX1 hown hK hP 0 rfl rfl 1 (by decide) (hts _ fl_RX1_32) (fun _ h9 => h9) rfl dX1_number_54 ?_
    exact nv_ret hx hb hr hlocks (rfl) dX1_number_57
  · refine lv_tableIn (off := 57) (tgt := 58) hx hb dX1_number_1 (by decide) (by decide) rfl (by decide) ?_
    refine lv_aload_n hx hb dX1_number_58 rfl (lv_at hl 0 rfl) ?_
    refine va_get (D := D) (ci := 1) (v := .int (nI (σ 2))) (C := RX1) (T := TX1) (N := 7) hx hb hts inX1 hown hK hP 0 rfl rfl 2 (by decide) (hts _ fl_RX1_35) (fun _ h9 => h9) rfl dX1_number_59 ?_
    exact nv_ret hx hb hr hlocks (rfl) dX1_number_62
  · refine lv_tableIn (off := 62) (tgt := 63) hx hb dX1_number_1 (by decide) (by decide) rfl (by decide) ?_
    refine lv_aload_n hx hb dX1_number_63 rfl (lv_at hl 0 rfl) ?_
    refine nv_callV [] [] hx hb hml hown hts k_RX1_42 (c_X1_addressesS l D cI cR h a σ ) ⟨rfl, rfl, Nat.le_of_ble_eq_true rfl, Nat.le_of_ble_eq_true rfl⟩ hP hK 1 rfl rfl rfl rfl hl rfl (Nat.le_of_ble_eq_true rfl) dX1_number_64 ⟨Nat.zero_le _, Nat.zero_le _⟩ ?_
    exact nv_ret hx hb hr hlocks (rfl) dX1_number_67
  · refine lv_tableIn (off := 67) (tgt := 68) hx hb dX1_number_1 (by decide) (by decide) rfl (by decide) ?_
    refine lv_aload_n hx hb dX1_number_68 rfl (lv_at hl 0 rfl) ?_
    refine nv_callV [] [] hx hb hml hown hts k_RX1_55 (c_X1_wiresS l D cI cR h a σ ) ⟨rfl, rfl, Nat.le_of_ble_eq_true rfl, Nat.le_of_ble_eq_true rfl⟩ hP hK 1 rfl rfl rfl rfl hl rfl (Nat.le_of_ble_eq_true rfl) dX1_number_69 ⟨Nat.zero_le _, Nat.zero_le _⟩ ?_
    exact nv_ret hx hb hr hlocks (rfl) dX1_number_72
  · refine lv_tableIn (off := 72) (tgt := 73) hx hb dX1_number_1 (by decide) (by decide) rfl (by decide) ?_
    refine lv_aload_n hx hb dX1_number_73 rfl (lv_at hl 0 rfl) ?_
    refine nv_callV [] [] hx hb hml hown hts k_RX1_61 (c_X1_crossedWires l D cI cR h a σ hw) ⟨rfl, rfl, Nat.le_of_ble_eq_true rfl, Nat.le_of_ble_eq_true rfl⟩ hP hK 1 rfl rfl rfl rfl hl rfl (Nat.le_of_ble_eq_true rfl) dX1_number_74 ⟨Nat.zero_le _, Nat.zero_le _⟩ ?_
    exact nv_ret hx hb hr hlocks (rfl) dX1_number_77
  · refine lv_tableIn (off := 77) (tgt := 78) hx hb dX1_number_1 (by decide) (by decide) rfl (by decide) ?_
    refine lv_aload_n hx hb dX1_number_78 rfl (lv_at hl 0 rfl) ?_
    refine nv_callV [] [] hx hb hml hown hts k_RX1_64 (c_X1_wrongWeaveCount l D cI cR h a σ hw) ⟨rfl, rfl, Nat.le_of_ble_eq_true rfl, Nat.le_of_ble_eq_true rfl⟩ hP hK 1 rfl rfl rfl rfl hl rfl (Nat.le_of_ble_eq_true rfl) dX1_number_79 ⟨Nat.zero_le _, Nat.zero_le _⟩ ?_
    exact nv_ret hx hb hr hlocks (rfl) dX1_number_82
  · refine lv_tableIn (off := 82) (tgt := 83) hx hb dX1_number_1 (by decide) (by decide) rfl (by decide) ?_
    refine lv_aload_n hx hb dX1_number_83 rfl (lv_at hl 0 rfl) ?_
    refine nv_callV [] [] hx hb hml hown hts k_RX1_67 (c_X1_patchCount l D cI cR h a σ hw) ⟨rfl, rfl, Nat.le_of_ble_eq_true rfl, Nat.le_of_ble_eq_true rfl⟩ hP hK 1 rfl rfl rfl rfl hl rfl (Nat.le_of_ble_eq_true rfl) dX1_number_84 ⟨Nat.zero_le _, Nat.zero_le _⟩ ?_
    exact nv_ret hx hb hr hlocks (rfl) dX1_number_87
  · refine lv_tableOut (tgt := 88) hx hb dX1_number_1 (Or.inr (by decide)) (by decide) ?_
    refine lv_aload_n hx hb dX1_number_88 rfl (lv_at hl 0 rfl) ?_
    refine nv_callV [] [] hx hb hml hown hts k_RX1_70 (c_X1_wholeCost l D cI cR h a σ hw) ⟨rfl, rfl, Nat.le_of_ble_eq_true rfl, Nat.le_of_ble_eq_true rfl⟩ hP hK 1 rfl rfl rfl rfl hl rfl (Nat.le_of_ble_eq_true rfl) dX1_number_89 ⟨Nat.zero_le _, Nat.zero_le _⟩ ?_
    exact nv_ret hx hb hr hlocks (rfl) dX1_number_92
set_option maxHeartbeats 4000000 in
set_option maxRecDepth 100000 in
theorem c_X1_patchAt (l : Launch) (D : va_G) (cI cR : ClassId) (h : Nat) (a : Nat → Nat) (σ : Nat → Nat) (ad : Nat)  (hw : wf σ) (h1 : ad < nA σ) : MetR l yX1_patchAt cX1_patchAt 2 (some .int) (rmK 0 0) (nPre D (nTy cI cR) [.ref h, .int (nI ad)] (wRp h a cI (σ 0) (σ 1) (σ 2) (onF σ) (wwF σ) (crF σ) (ptF σ))) (ptF σ ad) := by
  refine met_read rfl (Nat.le_of_ble_eq_true rfl) ?_
  intro p e s m args below meth c ls hx hb hml hr hlocks hown hts hP hK hl
  have hl : lv_has ls 2 [(0, .ref h), (1, .int (nI ad))] := hl
  have hA41 := hw.w41
  have hA33 := hw.a33
  have hA48 := hw.a48
  obtain ⟨hR2, hR, hB1, hB, hS1, hS, -⟩ := id hw
  refine lv_aload_n hx hb dX1_patchAt_0 rfl (lv_at hl 0 rfl) ?_
  refine va_get (D := D) (ci := 1) (v := .ref (a 3)) (C := RX1) (T := TX1) (N := 7) hx hb hts inX1 hown hK hP 0 rfl rfl 6 (by decide) (hts _ fl_RX1_21) (fun _ h9 => h9) rfl dX1_patchAt_1 ?_
  refine lv_iload_n hx hb dX1_patchAt_4 rfl (lv_at hl 1 rfl) ?_
  refine nv_iald (D := D) (v := (ptF σ) ad) hx hb hK hP 4 0 rfl rfl (k := ad) (by omega) (by decide) (rfl) dX1_patchAt_5 ?_
  exact nv_ret hx hb hr hlocks (rfl) dX1_patchAt_6
set_option maxHeartbeats 4000000 in
set_option maxRecDepth 100000 in
theorem c_X1_strayRings (l : Launch) (D : va_G) (cI cR : ClassId) (h : Nat) (a : Nat → Nat) (σ : Nat → Nat)   (hw : wf σ) : MetR l yX1_strayRings cX1_strayRings 4 (some .int) (rmK 2 50) (nPre D (nTy cI cR) [.ref h] (wRp h a cI (σ 0) (σ 1) (σ 2) (onF σ) (wwF σ) (crF σ) (ptF σ))) (nI (stA σ (nA σ))) := by
  refine met_read rfl (Nat.le_of_ble_eq_true rfl) ?_
  intro p e s m args below meth c ls hx hb hml hr hlocks hown hts hP hK hl
  have hl : lv_has ls 4 [(0, .ref h)] := hl
  have hA41 := hw.w41
  have hA33 := hw.a33
  have hA48 := hw.a48
  obtain ⟨hR2, hR, hB1, hB, hS1, hS, -⟩ := id hw
  refine lv_iconst (v := nI 0) hx hb dX1_strayRings_0 (by decide) ?_
  refine lv_istore_n (lv' := [(1, .int (nI 0)), (0, .ref h)]) hx hb dX1_strayRings_1 rfl hl (by decide) rfl (fun ls hl => ?_)
  refine lv_iconst (v := nI 0) hx hb dX1_strayRings_2 (by decide) ?_
  refine lv_istore_n (lv' := [(2, .int (nI 0)), (1, .int (nI 0)), (0, .ref h)]) hx hb dX1_strayRings_3 rfl hl (by decide) rfl (fun ls hl => ?_)
  have L4 : ∀ (n4 i : Nat), nA σ + 1 ≤ i + n4 → i ≤ nA σ → ∀ (ls : Array Slot), lv_has ls 4 [(0, .ref h), (1, .int (nI (stA σ i))), (2, .int (nI i))] → W p l e (rmK 2 50) s m args below meth c s.heap [] 0 0 (MQ below (QcRead (nI (stA σ (nA σ)))) args s 0 0 (fun _ => False)) (F0 m 4 ls []) := by
    intro n4
    induction n4 with
    | zero =>
      intro i h1_4 h2_4
      exact False.elim (by omega)
    | succ n4 ih4 =>
      intro i h1_4 h2_4  ls hl
      refine lv_iload_n hx hb dX1_strayRings_4 rfl (lv_at hl 2 rfl) ?_
      refine lv_aload_n hx hb dX1_strayRings_5 rfl (lv_at hl 0 rfl) ?_
      refine nv_callV [] [.int (nI i)] hx hb hml hown hts k_RX1_42 (c_X1_addressesS l D cI cR h a σ ) ⟨rfl, rfl, Nat.le_of_ble_eq_true rfl, Nat.le_of_ble_eq_true rfl⟩ hP hK 1 rfl rfl rfl rfl hl rfl (Nat.le_of_ble_eq_true rfl) dX1_strayRings_6 ⟨Nat.zero_le _, Nat.zero_le _⟩ ?_
      refine nv_icmp_ge (tgt := 50) hx hb dX1_strayRings_9 (by decide) (by omega) (by omega) (fun q_9 => ?_) (fun q_9 => ?_)
      · refine lv_iload_n hx hb dX1_strayRings_50 rfl (lv_at hl 1 rfl) ?_
        exact nv_ret hx hb hr hlocks (congrArg nI (by rw [show i = nA σ by omega])) dX1_strayRings_51
      · obtain ⟨hd1, hd2, hd3⟩ := ad_div hS1 (show i < nA σ by omega)
        refine lv_aload_n hx hb dX1_strayRings_12 rfl (lv_at hl 0 rfl) ?_
        refine lv_iload_n hx hb dX1_strayRings_13 rfl (lv_at hl 2 rfl) ?_
        refine nv_callV [.int (nI i)] [] hx hb hml hown hts k_RX1_91 (c_X1_ringOf l D cI cR h a (σ 0) (σ 1) (σ 2) (onF σ) (wwF σ) (crF σ) (ptF σ) i (by omega) (by omega) (by omega)) ⟨rfl, rfl, Nat.le_of_ble_eq_true rfl, Nat.le_of_ble_eq_true rfl⟩ hP hK 1 rfl rfl rfl rfl hl rfl (Nat.le_of_ble_eq_true rfl) dX1_strayRings_14 ⟨Nat.zero_le _, Nat.zero_le _⟩ ?_
        refine lv_istore_n (lv' := [(3, .int (nI (i / (σ 2)))), (0, .ref h), (1, .int (nI (stA σ i))), (2, .int (nI i))]) hx hb dX1_strayRings_17 rfl hl (by decide) rfl (fun ls hl => ?_)
        refine lv_aload_n hx hb dX1_strayRings_18 rfl (lv_at hl 1 rfl) ?_
        refine lv_iload_n hx hb dX1_strayRings_19 rfl (lv_at hl 3 rfl) ?_
        refine nv_callV [.int (nI i)] [] hx hb hml hown hts k_RX1_114 (c_X1_rawBits l D cI cR h a σ i hw (by omega)) ⟨rfl, rfl, Nat.le_of_ble_eq_true rfl, Nat.le_of_ble_eq_true rfl⟩ hP hK 1 rfl rfl rfl rfl hl rfl (Nat.le_of_ble_eq_true rfl) dX1_strayRings_20 ⟨Nat.zero_le _, Nat.zero_le _⟩ ?_
        refine lv_aload_n hx hb dX1_strayRings_23 rfl (lv_at hl 1 rfl) ?_
        refine lv_aload_n hx hb dX1_strayRings_24 rfl (lv_at hl 1 rfl) ?_
        refine lv_iload_n hx hb dX1_strayRings_25 rfl (lv_at hl 3 rfl) ?_
        refine nv_callV [.int (nI i)] [.ref h, .int (nI (rwM (wvM σ) σ i))] hx hb hml hown hts k_RX1_88 (c_X1_setOf l D cI cR h a (σ 0) (σ 1) (σ 2) (onF σ) (wwF σ) (crF σ) (ptF σ) i (by omega) (by omega) (by omega)) ⟨rfl, rfl, Nat.le_of_ble_eq_true rfl, Nat.le_of_ble_eq_true rfl⟩ hP hK 1 rfl rfl rfl rfl hl rfl (Nat.le_of_ble_eq_true rfl) dX1_strayRings_26 ⟨Nat.zero_le _, Nat.zero_le _⟩ ?_
        refine lv_iconst (v := nI 1) hx hb dX1_strayRings_29 (by decide) ?_
        refine lv_iload_n hx hb dX1_strayRings_30 rfl (lv_at hl 0 rfl) ?_
        refine nv_ishl hx hb dX1_strayRings_31 (by omega) ?_
        refine nv_callV [.int (nI (i % (σ 2))), .int (nI (1 <<< (i / (σ 2))))] [.int (nI (rwM (wvM σ) σ i))] hx hb hml hown hts k_RX1_94 (c_X1_rightBits l D cI cR h a σ (i % (σ 2)) (1 <<< (i / (σ 2))) hw hd2) ⟨rfl, rfl, Nat.le_of_ble_eq_true rfl, Nat.le_of_ble_eq_true rfl⟩ hP hK 1 rfl rfl rfl rfl hl rfl (Nat.le_of_ble_eq_true rfl) dX1_strayRings_32 ⟨Nat.zero_le _, Nat.zero_le _⟩ ?_
        have J35 : ∀ (ls : Array Slot), lv_has ls 4 [(0, .ref h), (1, .int (nI (stA σ (i + 1)))), (2, .int (nI i))] → W p l e (rmK 2 50) s m args below meth c s.heap [] 0 0 (MQ below (QcRead (nI (stA σ (nA σ)))) args s 0 0 (fun _ => False)) (F0 m 44 ls []) := by
          intro ls hl
          refine nv_inc (k := 2) (lv' := [(2, .int (nI (i + 1))), (0, .ref h), (1, .int (nI (stA σ (i + 1))))]) hx hb dX1_strayRings_44 hl rfl (by decide) rfl (fun ls hl => ?_)
          refine lv_goto (tgt := 4) hx hb dX1_strayRings_47 (by decide) ?_
          exact ih4 (i + 1) (by omega) (by omega)  ls (lv_sub hl [1, 2, 0] rfl)
        refine nv_icmp_eq (tgt := 44) hx hb dX1_strayRings_35 (by decide) (Nat.lt_trans (rwM_lt hw _ _) (by decide)) (Nat.lt_trans (rbM_lt hw _ _) (by decide)) (fun q_35 => ?_) (fun q_35 => ?_)
        · have hl := lv_repl [(3, .int (nI (i / (σ 2)))), (0, .ref h), (1, .int (nI (stA σ (i + 1)))), (2, .int (nI i))] 2 rfl (congrArg (fun z : Nat => Value.int (nI z)) (show (stA σ i) = (stA σ (i + 1)) from by rw [stA]; first | rw [if_pos q_35] | rw [if_neg q_35])) rfl hl
          exact J35 ls (lv_sub hl [1, 2, 3] rfl)
        · refine lv_iload_n hx hb dX1_strayRings_38 rfl (lv_at hl 2 rfl) ?_
          refine lv_iconst (v := nI 1) hx hb dX1_strayRings_39 (by decide) ?_
          refine lv_iload_n hx hb dX1_strayRings_40 rfl (lv_at hl 0 rfl) ?_
          refine nv_ishl hx hb dX1_strayRings_41 (by omega) ?_
          refine nv_ior hx hb dX1_strayRings_42 ?_
          refine lv_istore_n (lv' := [(1, .int (nI ((stA σ i) ||| (1 <<< (i / (σ 2)))))), (3, .int (nI (i / (σ 2)))), (0, .ref h), (2, .int (nI i))]) hx hb dX1_strayRings_43 rfl hl (by decide) rfl (fun ls hl => ?_)
          have hl := lv_repl [(1, .int (nI (stA σ (i + 1)))), (3, .int (nI (i / (σ 2)))), (0, .ref h), (2, .int (nI i))] 0 rfl (congrArg (fun z : Nat => Value.int (nI z)) (show ((stA σ i) ||| (1 <<< (i / (σ 2)))) = (stA σ (i + 1)) from by rw [stA]; first | rw [if_pos q_35] | rw [if_neg q_35])) rfl hl
          exact J35 ls (lv_sub hl [2, 0, 3] rfl)
  exact L4 (nA σ + 1) 0 (by omega) (by omega)  ls (lv_sub hl [2, 1, 0] rfl)
set_option maxHeartbeats 4000000 in
set_option maxRecDepth 100000 in
theorem c_X1_senseExplains (l : Launch) (D : va_G) (cI cR : ClassId) (h : Nat) (a : Nat → Nat) (σ : Nat → Nat) (w : Nat) (r : Nat) (t : Nat)  (hw : wf σ) (h1 : w < nW σ) (h2 : r < σ 0) (ht : t = stA σ (nA σ)) : MetR l yX1_senseExplains cX1_senseExplains 7 (some .boolean) (rmK 2 50) (nPre D (nTy cI cR) [.ref h, .int (nI w), .int (nI r), .int (nI t)] (wRp h a cI (σ 0) (σ 1) (σ 2) (onF σ) (wwF σ) (crF σ) (ptF σ))) (zB (snE σ w r)) := by
  refine met_read rfl (Nat.le_of_ble_eq_true rfl) ?_
  intro p e s m args below meth c ls hx hb hml hr hlocks hown hts hP hK hl
  have hl : lv_has ls 7 [(0, .ref h), (1, .int (nI w)), (2, .int (nI r)), (3, .int (nI t))] := hl
  have hA41 := hw.w41
  have hA33 := hw.a33
  have hA48 := hw.a48
  obtain ⟨hR2, hR, hB1, hB, hS1, hS, -⟩ := id hw
  have hst : t < 65536 := ht ▸ stA_lt hw _ (Nat.le_refl _)
  have hp16 : 1 <<< r < 65536 := by rw [sh1]; exact (show 2 ^ r < 2 ^ 16 from Nat.pow_lt_pow_right (by decide) (by omega))
  refine lv_iload_n hx hb dX1_senseExplains_0 rfl (lv_at hl 3 rfl) ?_
  refine lv_iconst (v := nI 1) hx hb dX1_senseExplains_1 (by decide) ?_
  refine lv_iload_n hx hb dX1_senseExplains_2 rfl (lv_at hl 2 rfl) ?_
  refine nv_ishl hx hb dX1_senseExplains_3 (by omega) ?_
  refine nv_icmp_eq (tgt := 9) hx hb dX1_senseExplains_4 (by decide) (by omega) (by omega) (fun q_4 => ?_) (fun q_4 => ?_)
  · refine lv_iconst (v := nI 0) hx hb dX1_senseExplains_9 (by decide) ?_
    refine lv_istore (lv' := [(4, .int (nI 0)), (0, .ref h), (1, .int (nI w)), (2, .int (nI r)), (3, .int (nI t))]) hx hb dX1_senseExplains_10 hl (by decide) rfl (fun ls hl => ?_)
    have L12 : ∀ (n12 i : Nat), σ 2 + 1 ≤ i + n12 → i ≤ σ 2 → (∀ j, j < i → rwM (wvM σ) σ (σ 2 * r + j) = rbM σ j (1 <<< r) ^^^ tnN σ w j) → ∀ (ls : Array Slot), lv_has ls 7 [(4, .int (nI i)), (0, .ref h), (1, .int (nI w)), (2, .int (nI r)), (3, .int (nI t))] → W p l e (rmK 2 50) s m args below meth c s.heap [] 0 0 (MQ below (QcRead (zB (snE σ w r))) args s 0 0 (fun _ => False)) (F0 m 12 ls []) := by
      intro n12
      induction n12 with
      | zero =>
        intro i h1_12 h2_12
        exact False.elim (by omega)
      | succ n12 ih12 =>
        intro i h1_12 h2_12 hno ls hl
        refine lv_iload hx hb dX1_senseExplains_12 (lv_at hl 0 rfl) ?_
        refine lv_aload_n hx hb dX1_senseExplains_14 rfl (lv_at hl 1 rfl) ?_
        refine va_get (D := D) (ci := 1) (v := .int (nI (σ 2))) (C := RX1) (T := TX1) (N := 7) hx hb hts inX1 hown hK hP 0 rfl rfl 2 (by decide) (hts _ fl_RX1_35) (fun _ h9 => h9) rfl dX1_senseExplains_15 ?_
        refine nv_icmp_ge (tgt := 92) hx hb dX1_senseExplains_18 (by decide) (by omega) (by omega) (fun q_18 => ?_) (fun q_18 => ?_)
        · refine lv_iconst (v := nI 1) hx hb dX1_senseExplains_92 (by decide) ?_
          exact nv_retz hx hb hr hlocks (by decide) (zB_1 (snE_t (ht.symm.trans q_4) (fun j hj => hno j (by omega)))) dX1_senseExplains_93
        · refine lv_iload_n hx hb dX1_senseExplains_21 rfl (lv_at hl 2 rfl) ?_
          refine lv_aload_n hx hb dX1_senseExplains_22 rfl (lv_at hl 1 rfl) ?_
          refine lv_iload hx hb dX1_senseExplains_23 (lv_at hl 0 rfl) ?_
          refine lv_iconst (v := nI 0) hx hb dX1_senseExplains_25 (by decide) ?_
          refine nv_callV [.int (nI i), .int (nI 0)] [.int (nI w)] hx hb hml hown hts k_RX1_98 (c_X1_senseWire l D cI cR h a (σ 0) (σ 1) (σ 2) (onF σ) (wwF σ) (crF σ) (ptF σ) i 0 ) ⟨rfl, rfl, Nat.le_of_ble_eq_true rfl, Nat.le_of_ble_eq_true rfl⟩ hP hK 1 rfl rfl rfl rfl hl rfl (Nat.le_of_ble_eq_true rfl) dX1_senseExplains_26 ⟨Nat.zero_le _, Nat.zero_le _⟩ ?_
          have hsw := sw_lt (σ := σ) (b := 0) (show i < σ 2 by omega) (by omega)
          refine nv_top (8 + i * (σ 1 + 1)) (Nat.add_zero _) ?_
          by_cases hc : 8 + i * (σ 1 + 1) ≤ w
          · refine nv_isub hx hb dX1_senseExplains_29 hc ?_
            refine lv_istore (lv' := [(5, .int (nI (w - (8 + i * (σ 1 + 1))))), (4, .int (nI i)), (0, .ref h), (1, .int (nI w)), (2, .int (nI r)), (3, .int (nI t))]) hx hb dX1_senseExplains_30 hl (by decide) rfl (fun ls hl => ?_)
            refine lv_iload hx hb dX1_senseExplains_32 (lv_at hl 0 rfl) ?_
            refine nv_if_lt (tgt := 53) hx hb dX1_senseExplains_34 (by decide) (by omega) ?_
            refine lv_iload hx hb dX1_senseExplains_37 (lv_at hl 0 rfl) ?_
            refine lv_aload_n hx hb dX1_senseExplains_39 rfl (lv_at hl 2 rfl) ?_
            refine va_get (D := D) (ci := 1) (v := .int (nI (σ 1))) (C := RX1) (T := TX1) (N := 7) hx hb hts inX1 hown hK hP 0 rfl rfl 1 (by decide) (hts _ fl_RX1_32) (fun _ h9 => h9) rfl dX1_senseExplains_40 ?_
            refine nv_icmp_gt (tgt := 53) hx hb dX1_senseExplains_43 (by decide) (by omega) (by omega) (fun q_43 => ?_) (fun q_43 => ?_)
            · refine lv_iconst (v := nI 0) hx hb dX1_senseExplains_53 (by decide) ?_
              refine nv_top (tnN σ w i) (by unfold tnN; rw [if_neg (fun z => by omega)]) ?_
              refine lv_istore (lv' := [(6, .int (nI (tnN σ w i))), (5, .int (nI (w - (8 + i * (σ 1 + 1))))), (4, .int (nI i)), (0, .ref h), (1, .int (nI w)), (2, .int (nI r)), (3, .int (nI t))]) hx hb dX1_senseExplains_54 hl (by decide) rfl (fun ls hl => ?_)
              have htn := tn_lt hw w i
              refine lv_aload_n hx hb dX1_senseExplains_56 rfl (lv_at hl 3 rfl) ?_
              refine lv_aload_n hx hb dX1_senseExplains_57 rfl (lv_at hl 3 rfl) ?_
              refine va_get (D := D) (ci := 1) (v := .int (nI (σ 2))) (C := RX1) (T := TX1) (N := 7) hx hb hts inX1 hown hK hP 0 rfl rfl 2 (by decide) (hts _ fl_RX1_35) (fun _ h9 => h9) rfl dX1_senseExplains_58 ?_
              refine lv_iload_n hx hb dX1_senseExplains_61 rfl (lv_at hl 5 rfl) ?_
              refine nv_imul hx hb dX1_senseExplains_62 ?_
              refine lv_iload hx hb dX1_senseExplains_63 (lv_at hl 2 rfl) ?_
              refine nv_iadd hx hb dX1_senseExplains_65 ?_
              refine nv_callV [.int (nI (((σ 2) * r) + i))] [] hx hb hml hown hts k_RX1_114 (c_X1_rawBits l D cI cR h a σ (((σ 2) * r) + i) hw (sr_lt h2 (by omega))) ⟨rfl, rfl, Nat.le_of_ble_eq_true rfl, Nat.le_of_ble_eq_true rfl⟩ hP hK 1 rfl rfl rfl rfl hl rfl (Nat.le_of_ble_eq_true rfl) dX1_senseExplains_66 ⟨Nat.zero_le _, Nat.zero_le _⟩ ?_
              refine lv_aload_n hx hb dX1_senseExplains_69 rfl (lv_at hl 3 rfl) ?_
              refine lv_iload hx hb dX1_senseExplains_70 (lv_at hl 2 rfl) ?_
              refine lv_iconst (v := nI 1) hx hb dX1_senseExplains_72 (by decide) ?_
              refine lv_iload_n hx hb dX1_senseExplains_73 rfl (lv_at hl 5 rfl) ?_
              refine nv_ishl hx hb dX1_senseExplains_74 (by omega) ?_
              refine nv_callV [.int (nI i), .int (nI (1 <<< r))] [.int (nI (rwM (wvM σ) σ (((σ 2) * r) + i)))] hx hb hml hown hts k_RX1_94 (c_X1_rightBits l D cI cR h a σ i (1 <<< r) hw (by omega)) ⟨rfl, rfl, Nat.le_of_ble_eq_true rfl, Nat.le_of_ble_eq_true rfl⟩ hP hK 1 rfl rfl rfl rfl hl rfl (Nat.le_of_ble_eq_true rfl) dX1_senseExplains_75 ⟨Nat.zero_le _, Nat.zero_le _⟩ ?_
              refine lv_iload hx hb dX1_senseExplains_78 (lv_at hl 0 rfl) ?_
              refine nv_ixor hx hb dX1_senseExplains_80 ?_
              refine nv_icmp_eq (tgt := 86) hx hb dX1_senseExplains_81 (by decide) (Nat.lt_trans (rwM_lt hw _ _) (by decide)) (Nat.lt_trans (Nat.xor_lt_two_pow (n := 11) (rbM_lt hw _ _) htn) (by decide)) (fun q_81 => ?_) (fun q_81 => ?_)
              · refine nv_inc (k := 2) (lv' := [(4, .int (nI (i + 1))), (6, .int (nI (tnN σ w i))), (5, .int (nI (w - (8 + i * (σ 1 + 1))))), (0, .ref h), (1, .int (nI w)), (2, .int (nI r)), (3, .int (nI t))]) hx hb dX1_senseExplains_86 hl rfl (by decide) rfl (fun ls hl => ?_)
                refine lv_goto (tgt := 12) hx hb dX1_senseExplains_89 (by decide) ?_
                exact ih12 (i + 1) (by omega) (by omega) (fun j hj => by rcases Nat.lt_succ_iff_lt_or_eq.mp hj with q | q; exact hno j q; exact q ▸ q_81) ls (lv_sub hl [0, 3, 4, 5, 6] rfl)
              · refine lv_iconst (v := nI 0) hx hb dX1_senseExplains_84 (by decide) ?_
                exact nv_retz hx hb hr hlocks (by decide) (zB_0 (snE_f2 (by omega) q_81)) dX1_senseExplains_85
            · refine lv_iconst (v := nI 1) hx hb dX1_senseExplains_46 (by decide) ?_
              refine lv_iload hx hb dX1_senseExplains_47 (lv_at hl 0 rfl) ?_
              refine nv_ishl hx hb dX1_senseExplains_49 (by omega) ?_
              refine lv_goto (tgt := 54) hx hb dX1_senseExplains_50 (by decide) ?_
              refine nv_top (tnN σ w i) (by unfold tnN; rw [if_pos ⟨hc, by omega⟩]) ?_
              refine lv_istore (lv' := [(6, .int (nI (tnN σ w i))), (5, .int (nI (w - (8 + i * (σ 1 + 1))))), (4, .int (nI i)), (0, .ref h), (1, .int (nI w)), (2, .int (nI r)), (3, .int (nI t))]) hx hb dX1_senseExplains_54 hl (by decide) rfl (fun ls hl => ?_)
              have htn := tn_lt hw w i
              refine lv_aload_n hx hb dX1_senseExplains_56 rfl (lv_at hl 3 rfl) ?_
              refine lv_aload_n hx hb dX1_senseExplains_57 rfl (lv_at hl 3 rfl) ?_
              refine va_get (D := D) (ci := 1) (v := .int (nI (σ 2))) (C := RX1) (T := TX1) (N := 7) hx hb hts inX1 hown hK hP 0 rfl rfl 2 (by decide) (hts _ fl_RX1_35) (fun _ h9 => h9) rfl dX1_senseExplains_58 ?_
              refine lv_iload_n hx hb dX1_senseExplains_61 rfl (lv_at hl 5 rfl) ?_
              refine nv_imul hx hb dX1_senseExplains_62 ?_
              refine lv_iload hx hb dX1_senseExplains_63 (lv_at hl 2 rfl) ?_
              refine nv_iadd hx hb dX1_senseExplains_65 ?_
              refine nv_callV [.int (nI (((σ 2) * r) + i))] [] hx hb hml hown hts k_RX1_114 (c_X1_rawBits l D cI cR h a σ (((σ 2) * r) + i) hw (sr_lt h2 (by omega))) ⟨rfl, rfl, Nat.le_of_ble_eq_true rfl, Nat.le_of_ble_eq_true rfl⟩ hP hK 1 rfl rfl rfl rfl hl rfl (Nat.le_of_ble_eq_true rfl) dX1_senseExplains_66 ⟨Nat.zero_le _, Nat.zero_le _⟩ ?_
              refine lv_aload_n hx hb dX1_senseExplains_69 rfl (lv_at hl 3 rfl) ?_
              refine lv_iload hx hb dX1_senseExplains_70 (lv_at hl 2 rfl) ?_
              refine lv_iconst (v := nI 1) hx hb dX1_senseExplains_72 (by decide) ?_
              refine lv_iload_n hx hb dX1_senseExplains_73 rfl (lv_at hl 5 rfl) ?_
              refine nv_ishl hx hb dX1_senseExplains_74 (by omega) ?_
              refine nv_callV [.int (nI i), .int (nI (1 <<< r))] [.int (nI (rwM (wvM σ) σ (((σ 2) * r) + i)))] hx hb hml hown hts k_RX1_94 (c_X1_rightBits l D cI cR h a σ i (1 <<< r) hw (by omega)) ⟨rfl, rfl, Nat.le_of_ble_eq_true rfl, Nat.le_of_ble_eq_true rfl⟩ hP hK 1 rfl rfl rfl rfl hl rfl (Nat.le_of_ble_eq_true rfl) dX1_senseExplains_75 ⟨Nat.zero_le _, Nat.zero_le _⟩ ?_
              refine lv_iload hx hb dX1_senseExplains_78 (lv_at hl 0 rfl) ?_
              refine nv_ixor hx hb dX1_senseExplains_80 ?_
              refine nv_icmp_eq (tgt := 86) hx hb dX1_senseExplains_81 (by decide) (Nat.lt_trans (rwM_lt hw _ _) (by decide)) (Nat.lt_trans (Nat.xor_lt_two_pow (n := 11) (rbM_lt hw _ _) htn) (by decide)) (fun q_81 => ?_) (fun q_81 => ?_)
              · refine nv_inc (k := 2) (lv' := [(4, .int (nI (i + 1))), (6, .int (nI (tnN σ w i))), (5, .int (nI (w - (8 + i * (σ 1 + 1))))), (0, .ref h), (1, .int (nI w)), (2, .int (nI r)), (3, .int (nI t))]) hx hb dX1_senseExplains_86 hl rfl (by decide) rfl (fun ls hl => ?_)
                refine lv_goto (tgt := 12) hx hb dX1_senseExplains_89 (by decide) ?_
                exact ih12 (i + 1) (by omega) (by omega) (fun j hj => by rcases Nat.lt_succ_iff_lt_or_eq.mp hj with q | q; exact hno j q; exact q ▸ q_81) ls (lv_sub hl [0, 3, 4, 5, 6] rfl)
              · refine lv_iconst (v := nI 0) hx hb dX1_senseExplains_84 (by decide) ?_
                exact nv_retz hx hb hr hlocks (by decide) (zB_0 (snE_f2 (by omega) q_81)) dX1_senseExplains_85
          · refine lv_isub hx hb dX1_senseExplains_29 ?_
            refine lv_istore (lv' := [(5, .int ((nI (w)) - (nI (8 + i * (σ 1 + 1))))), (4, .int (nI i)), (0, .ref h), (1, .int (nI w)), (2, .int (nI r)), (3, .int (nI t))]) hx hb dX1_senseExplains_30 hl (by decide) rfl (fun ls hl => ?_)
            refine lv_iload hx hb dX1_senseExplains_32 (lv_at hl 0 rfl) ?_
            refine lv_if_lt (tgt := 53) hx hb dX1_senseExplains_34 (by decide) (fun q_34 => ?_) (fun q_34 => False.elim (q_34 (pk_sneg (by omega) (by omega))))
            refine lv_iconst (v := nI 0) hx hb dX1_senseExplains_53 (by decide) ?_
            refine nv_top (tnN σ w i) (by unfold tnN; rw [if_neg (fun z => hc z.1)]) ?_
            refine lv_istore (lv' := [(6, .int (nI (tnN σ w i))), (5, .int ((nI (w)) - (nI (8 + i * (σ 1 + 1))))), (4, .int (nI i)), (0, .ref h), (1, .int (nI w)), (2, .int (nI r)), (3, .int (nI t))]) hx hb dX1_senseExplains_54 hl (by decide) rfl (fun ls hl => ?_)
            have htn := tn_lt hw w i
            refine lv_aload_n hx hb dX1_senseExplains_56 rfl (lv_at hl 3 rfl) ?_
            refine lv_aload_n hx hb dX1_senseExplains_57 rfl (lv_at hl 3 rfl) ?_
            refine va_get (D := D) (ci := 1) (v := .int (nI (σ 2))) (C := RX1) (T := TX1) (N := 7) hx hb hts inX1 hown hK hP 0 rfl rfl 2 (by decide) (hts _ fl_RX1_35) (fun _ h9 => h9) rfl dX1_senseExplains_58 ?_
            refine lv_iload_n hx hb dX1_senseExplains_61 rfl (lv_at hl 5 rfl) ?_
            refine nv_imul hx hb dX1_senseExplains_62 ?_
            refine lv_iload hx hb dX1_senseExplains_63 (lv_at hl 2 rfl) ?_
            refine nv_iadd hx hb dX1_senseExplains_65 ?_
            refine nv_callV [.int (nI (((σ 2) * r) + i))] [] hx hb hml hown hts k_RX1_114 (c_X1_rawBits l D cI cR h a σ (((σ 2) * r) + i) hw (sr_lt h2 (by omega))) ⟨rfl, rfl, Nat.le_of_ble_eq_true rfl, Nat.le_of_ble_eq_true rfl⟩ hP hK 1 rfl rfl rfl rfl hl rfl (Nat.le_of_ble_eq_true rfl) dX1_senseExplains_66 ⟨Nat.zero_le _, Nat.zero_le _⟩ ?_
            refine lv_aload_n hx hb dX1_senseExplains_69 rfl (lv_at hl 3 rfl) ?_
            refine lv_iload hx hb dX1_senseExplains_70 (lv_at hl 2 rfl) ?_
            refine lv_iconst (v := nI 1) hx hb dX1_senseExplains_72 (by decide) ?_
            refine lv_iload_n hx hb dX1_senseExplains_73 rfl (lv_at hl 5 rfl) ?_
            refine nv_ishl hx hb dX1_senseExplains_74 (by omega) ?_
            refine nv_callV [.int (nI i), .int (nI (1 <<< r))] [.int (nI (rwM (wvM σ) σ (((σ 2) * r) + i)))] hx hb hml hown hts k_RX1_94 (c_X1_rightBits l D cI cR h a σ i (1 <<< r) hw (by omega)) ⟨rfl, rfl, Nat.le_of_ble_eq_true rfl, Nat.le_of_ble_eq_true rfl⟩ hP hK 1 rfl rfl rfl rfl hl rfl (Nat.le_of_ble_eq_true rfl) dX1_senseExplains_75 ⟨Nat.zero_le _, Nat.zero_le _⟩ ?_
            refine lv_iload hx hb dX1_senseExplains_78 (lv_at hl 0 rfl) ?_
            refine nv_ixor hx hb dX1_senseExplains_80 ?_
            refine nv_icmp_eq (tgt := 86) hx hb dX1_senseExplains_81 (by decide) (Nat.lt_trans (rwM_lt hw _ _) (by decide)) (Nat.lt_trans (Nat.xor_lt_two_pow (n := 11) (rbM_lt hw _ _) htn) (by decide)) (fun q_81 => ?_) (fun q_81 => ?_)
            · refine nv_inc (k := 2) (lv' := [(4, .int (nI (i + 1))), (6, .int (nI (tnN σ w i))), (5, .int ((nI (w)) - (nI (8 + i * (σ 1 + 1))))), (0, .ref h), (1, .int (nI w)), (2, .int (nI r)), (3, .int (nI t))]) hx hb dX1_senseExplains_86 hl rfl (by decide) rfl (fun ls hl => ?_)
              refine lv_goto (tgt := 12) hx hb dX1_senseExplains_89 (by decide) ?_
              exact ih12 (i + 1) (by omega) (by omega) (fun j hj => by rcases Nat.lt_succ_iff_lt_or_eq.mp hj with q | q; exact hno j q; exact q ▸ q_81) ls (lv_sub hl [0, 3, 4, 5, 6] rfl)
            · refine lv_iconst (v := nI 0) hx hb dX1_senseExplains_84 (by decide) ?_
              exact nv_retz hx hb hr hlocks (by decide) (zB_0 (snE_f2 (by omega) q_81)) dX1_senseExplains_85
    exact L12 (σ 2 + 1) 0 (by omega) (by omega) (fun j hj => absurd hj (Nat.not_lt_zero j)) ls (lv_sub hl [0, 1, 2, 3, 4] rfl)
  · refine lv_iconst (v := nI 0) hx hb dX1_senseExplains_7 (by decide) ?_
    exact nv_retz hx hb hr hlocks (by decide) (zB_0 (snE_f1 (fun q => q_4 (ht.trans q)))) dX1_senseExplains_8
set_option maxHeartbeats 4000000 in
set_option maxRecDepth 100000 in
theorem c_X1_inhibitExplains (l : Launch) (D : va_G) (cI cR : ClassId) (h : Nat) (a : Nat → Nat) (σ : Nat → Nat) (w : Nat) (r : Nat) (t : Nat)  (hw : wf σ) (h1 : w < 8) (h2 : r < σ 0) (ht : t = stA σ (nA σ)) : MetR l yX1_inhibitExplains cX1_inhibitExplains 8 (some .boolean) (rmK 2 50) (nPre D (nTy cI cR) [.ref h, .int (nI w), .int (nI r), .int (nI t)] (wRp h a cI (σ 0) (σ 1) (σ 2) (onF σ) (wwF σ) (crF σ) (ptF σ))) (zB (ihE σ w r)) := by
  refine met_read rfl (Nat.le_of_ble_eq_true rfl) ?_
  intro p e s m args below meth c ls hx hb hml hr hlocks hown hts hP hK hl
  have hl : lv_has ls 8 [(0, .ref h), (1, .int (nI w)), (2, .int (nI r)), (3, .int (nI t))] := hl
  have hA41 := hw.w41
  have hA33 := hw.a33
  have hA48 := hw.a48
  obtain ⟨hR2, hR, hB1, hB, hS1, hS, -⟩ := id hw
  have h8 : 8 ≤ nW σ := by unfold nW; omega
  have hst : t < 65536 := ht ▸ stA_lt hw _ (Nat.le_refl _)
  have hcd := hw.cd h2
  have hcq : σ (3 + r) ^^^ 1 <<< (w / 2) < 65536 := Nat.xor_lt_two_pow (n := 16) (by omega) (by rw [sh1]; exact Nat.pow_lt_pow_right (by decide) (by omega))
  refine lv_aload_n hx hb dX1_inhibitExplains_0 rfl (lv_at hl 0 rfl) ?_
  refine va_get (D := D) (ci := 1) (v := .ref (a 0)) (C := RX1) (T := TX1) (N := 7) hx hb hts inX1 hown hK hP 0 rfl rfl 3 (by decide) (hts _ fl_RX1_9) (fun _ h9 => h9) rfl dX1_inhibitExplains_1 ?_
  refine lv_iload_n hx hb dX1_inhibitExplains_4 rfl (lv_at hl 1 rfl) ?_
  refine nv_iald (D := D) (v := nI (onM σ w)) hx hb hK hP 1 0 rfl rfl (k := w) (by omega) (by decide) (rfl) dX1_inhibitExplains_5 ?_
  refine lv_iload_n hx hb dX1_inhibitExplains_6 rfl (lv_at hl 2 rfl) ?_
  refine nv_ishr hx hb dX1_inhibitExplains_7 (Nat.lt_trans (onM_lt hw _) (by decide)) (by omega) ?_
  refine lv_iconst (v := nI 1) hx hb dX1_inhibitExplains_8 (by decide) ?_
  refine nv_iand hx hb dX1_inhibitExplains_9 ?_
  refine nv_top (((onM σ w).testBit r).toNat) (nw_tb _ _) ?_
  refine nv_top ((ihb σ w r).toNat) (by rw [onM_bit (by omega) h2]; unfold onB; rw [if_pos h1]) ?_
  refine lv_iconst (v := nI 1) hx hb dX1_inhibitExplains_10 (by decide) ?_
  refine nv_icmp_ne (tgt := 18) hx hb dX1_inhibitExplains_11 (by decide) (by have := toNat_le (ihb σ w r); omega) (by omega) (fun q_11 => ?_) (fun q_11 => ?_)
  · have hbf : ihb σ w r = false := by cases hz : ihb σ w r with | false => rfl | true => exact absurd (by rw [hz]; rfl) q_11
    refine lv_iconst (v := nI 0) hx hb dX1_inhibitExplains_18 (by decide) ?_
    refine lv_istore (lv' := [(4, .int (nI 0)), (0, .ref h), (1, .int (nI w)), (2, .int (nI r)), (3, .int (nI t))]) hx hb dX1_inhibitExplains_19 hl (by decide) rfl (fun ls hl => ?_)
    refine lv_iload_n hx hb dX1_inhibitExplains_21 rfl (lv_at hl 3 rfl) ?_
    refine lv_istore (lv' := [(5, .int (nI r)), (4, .int (nI 0)), (0, .ref h), (1, .int (nI w)), (2, .int (nI r)), (3, .int (nI t))]) hx hb dX1_inhibitExplains_22 hl (by decide) rfl (fun ls hl => ?_)
    refine lv_iconst (v := nI 0) hx hb dX1_inhibitExplains_24 (by decide) ?_
    refine lv_istore (lv' := [(6, .int (nI 0)), (5, .int (nI r)), (4, .int (nI 0)), (0, .ref h), (1, .int (nI w)), (2, .int (nI r)), (3, .int (nI t))]) hx hb dX1_inhibitExplains_25 hl (by decide) rfl (fun ls hl => ?_)
    refine lv_iload hx hb dX1_inhibitExplains_27 (lv_at hl 2 rfl) ?_
    refine nv_if_eq (tgt := 75) hx hb dX1_inhibitExplains_29 (by decide) (by omega) (fun q_29 => ?_) (fun q_29 => False.elim (by omega))
    refine lv_iload_n hx hb dX1_inhibitExplains_75 rfl (lv_at hl 6 rfl) ?_
    refine lv_iconst (v := nI 1) hx hb dX1_inhibitExplains_76 (by decide) ?_
    refine lv_iload hx hb dX1_inhibitExplains_77 (lv_at hl 1 rfl) ?_
    refine nv_ishl hx hb dX1_inhibitExplains_79 (by omega) ?_
    refine lv_iconst (v := -1) hx hb dX1_inhibitExplains_80 (by decide) ?_
    refine lv_ixor hx hb dX1_inhibitExplains_81 ?_
    refine nv_iandn hx hb dX1_inhibitExplains_82 ?_
    have hwo := nw_wo_le t (1 <<< r)
    refine nv_if_eq (tgt := 88) hx hb dX1_inhibitExplains_83 (by decide) (by omega) (fun q_83 => ?_) (fun q_83 => ?_)
    · refine lv_iconst (v := nI 0) hx hb dX1_inhibitExplains_88 (by decide) ?_
      refine lv_istore (lv' := [(7, .int (nI 0)), (6, .int (nI 0)), (5, .int (nI r)), (4, .int (nI 0)), (0, .ref h), (1, .int (nI w)), (2, .int (nI r)), (3, .int (nI t))]) hx hb dX1_inhibitExplains_89 hl (by decide) rfl (fun ls hl => ?_)
      have L91 : ∀ (n91 i : Nat), σ 2 + 1 ≤ i + n91 → i ≤ σ 2 → (∀ j, j < i → rwM (wvM σ) σ (σ 2 * r + j) = rbM σ j (0)) → ∀ (ls : Array Slot), lv_has ls 8 [(7, .int (nI i)), (6, .int (nI 0)), (5, .int (nI r)), (4, .int (nI 0)), (0, .ref h), (1, .int (nI w)), (2, .int (nI r)), (3, .int (nI t))] → W p l e (rmK 2 50) s m args below meth c s.heap [] 0 0 (MQ below (QcRead (zB (ihE σ w r))) args s 0 0 (fun _ => False)) (F0 m 91 ls []) := by
        intro n91
        induction n91 with
        | zero =>
          intro i h1_91 h2_91
          exact False.elim (by omega)
        | succ n91 ih91 =>
          intro i h1_91 h2_91 hno ls hl
          refine lv_iload hx hb dX1_inhibitExplains_91 (lv_at hl 0 rfl) ?_
          refine lv_aload_n hx hb dX1_inhibitExplains_93 rfl (lv_at hl 4 rfl) ?_
          refine va_get (D := D) (ci := 1) (v := .int (nI (σ 2))) (C := RX1) (T := TX1) (N := 7) hx hb hts inX1 hown hK hP 0 rfl rfl 2 (by decide) (hts _ fl_RX1_35) (fun _ h9 => h9) rfl dX1_inhibitExplains_94 ?_
          refine nv_icmp_ge (tgt := 133) hx hb dX1_inhibitExplains_97 (by decide) (by omega) (by omega) (fun q_97 => ?_) (fun q_97 => ?_)
          · refine lv_iconst (v := nI 1) hx hb dX1_inhibitExplains_133 (by decide) ?_
            exact nv_retz hx hb hr hlocks (by decide) (by rw [ihE_B hbf]; exact zB_1 (ihT_t (ht ▸ q_83) (fun j hj => hno j (by omega)))) dX1_inhibitExplains_134
          · refine lv_aload_n hx hb dX1_inhibitExplains_100 rfl (lv_at hl 4 rfl) ?_
            refine lv_aload_n hx hb dX1_inhibitExplains_101 rfl (lv_at hl 4 rfl) ?_
            refine va_get (D := D) (ci := 1) (v := .int (nI (σ 2))) (C := RX1) (T := TX1) (N := 7) hx hb hts inX1 hown hK hP 0 rfl rfl 2 (by decide) (hts _ fl_RX1_35) (fun _ h9 => h9) rfl dX1_inhibitExplains_102 ?_
            refine lv_iload hx hb dX1_inhibitExplains_105 (lv_at hl 2 rfl) ?_
            refine nv_imul hx hb dX1_inhibitExplains_107 ?_
            refine lv_iload hx hb dX1_inhibitExplains_108 (lv_at hl 0 rfl) ?_
            refine nv_iadd hx hb dX1_inhibitExplains_110 ?_
            refine nv_callV [.int (nI (((σ 2) * r) + i))] [] hx hb hml hown hts k_RX1_114 (c_X1_rawBits l D cI cR h a σ (((σ 2) * r) + i) hw (sr_lt (by omega) (by omega))) ⟨rfl, rfl, Nat.le_of_ble_eq_true rfl, Nat.le_of_ble_eq_true rfl⟩ hP hK 1 rfl rfl rfl rfl hl rfl (Nat.le_of_ble_eq_true rfl) dX1_inhibitExplains_111 ⟨Nat.zero_le _, Nat.zero_le _⟩ ?_
            refine lv_aload_n hx hb dX1_inhibitExplains_114 rfl (lv_at hl 4 rfl) ?_
            refine lv_iload hx hb dX1_inhibitExplains_115 (lv_at hl 0 rfl) ?_
            refine lv_iload hx hb dX1_inhibitExplains_117 (lv_at hl 1 rfl) ?_
            refine nv_callV [.int (nI i), .int (nI 0)] [.int (nI (rwM (wvM σ) σ (((σ 2) * r) + i)))] hx hb hml hown hts k_RX1_94 (c_X1_rightBits l D cI cR h a σ i 0 hw (by omega)) ⟨rfl, rfl, Nat.le_of_ble_eq_true rfl, Nat.le_of_ble_eq_true rfl⟩ hP hK 1 rfl rfl rfl rfl hl rfl (Nat.le_of_ble_eq_true rfl) dX1_inhibitExplains_119 ⟨Nat.zero_le _, Nat.zero_le _⟩ ?_
            refine nv_icmp_eq (tgt := 127) hx hb dX1_inhibitExplains_122 (by decide) (Nat.lt_trans (rwM_lt hw _ _) (by decide)) (Nat.lt_trans (rbM_lt hw _ _) (by decide)) (fun q_122 => ?_) (fun q_122 => ?_)
            · refine nv_inc (k := 0) (lv' := [(7, .int (nI (i + 1))), (6, .int (nI 0)), (5, .int (nI r)), (4, .int (nI 0)), (0, .ref h), (1, .int (nI w)), (2, .int (nI r)), (3, .int (nI t))]) hx hb dX1_inhibitExplains_127 hl rfl (by decide) rfl (fun ls hl => ?_)
              refine lv_goto (tgt := 91) hx hb dX1_inhibitExplains_130 (by decide) ?_
              exact ih91 (i + 1) (by omega) (by omega) (fun j hj => by rcases Nat.lt_succ_iff_lt_or_eq.mp hj with z | z; exact hno j z; exact z ▸ q_122) ls (lv_sub hl [0, 1, 2, 3, 4, 5, 6, 7] rfl)
            · refine lv_iconst (v := nI 0) hx hb dX1_inhibitExplains_125 (by decide) ?_
              exact nv_retz hx hb hr hlocks (by decide) (by rw [ihE_B hbf]; exact zB_0 (ihT_f2 (by omega) q_122)) dX1_inhibitExplains_126
      exact L91 (σ 2 + 1) 0 (by omega) (by omega) (fun j hj => absurd hj (Nat.not_lt_zero j)) ls (lv_sub hl [0, 1, 2, 3, 4, 5, 6, 7] rfl)
    · refine lv_iconst (v := nI 0) hx hb dX1_inhibitExplains_86 (by decide) ?_
      exact nv_retz hx hb hr hlocks (by decide) (by rw [ihE_B hbf]; exact zB_0 (ihT_f1 (ht ▸ q_83))) dX1_inhibitExplains_87
  · have hbt : ihb σ w r = true := by cases hz : ihb σ w r with | true => rfl | false => rw [hz] at q_11; exact absurd q_11 (by decide)
    refine lv_iconst (v := nI 1) hx hb dX1_inhibitExplains_14 (by decide) ?_
    refine lv_goto (tgt := 19) hx hb dX1_inhibitExplains_15 (by decide) ?_
    refine lv_istore (lv' := [(4, .int (nI 1)), (0, .ref h), (1, .int (nI w)), (2, .int (nI r)), (3, .int (nI t))]) hx hb dX1_inhibitExplains_19 hl (by decide) rfl (fun ls hl => ?_)
    refine lv_iload_n hx hb dX1_inhibitExplains_21 rfl (lv_at hl 3 rfl) ?_
    refine lv_istore (lv' := [(5, .int (nI r)), (4, .int (nI 1)), (0, .ref h), (1, .int (nI w)), (2, .int (nI r)), (3, .int (nI t))]) hx hb dX1_inhibitExplains_22 hl (by decide) rfl (fun ls hl => ?_)
    refine lv_iconst (v := nI 0) hx hb dX1_inhibitExplains_24 (by decide) ?_
    refine lv_istore (lv' := [(6, .int (nI 0)), (5, .int (nI r)), (4, .int (nI 1)), (0, .ref h), (1, .int (nI w)), (2, .int (nI r)), (3, .int (nI t))]) hx hb dX1_inhibitExplains_25 hl (by decide) rfl (fun ls hl => ?_)
    refine lv_iload hx hb dX1_inhibitExplains_27 (lv_at hl 2 rfl) ?_
    refine nv_if_eq (tgt := 75) hx hb dX1_inhibitExplains_29 (by decide) (by omega) (fun q_29 => False.elim (by omega)) (fun q_29 => ?_)
    refine lv_aload_n hx hb dX1_inhibitExplains_32 rfl (lv_at hl 3 rfl) ?_
    refine lv_aload_n hx hb dX1_inhibitExplains_33 rfl (lv_at hl 3 rfl) ?_
    refine lv_iload_n hx hb dX1_inhibitExplains_34 rfl (lv_at hl 5 rfl) ?_
    refine nv_callV [.int (nI r)] [.ref h] hx hb hml hown hts k_RX1_85 (c_X1_codeOf l D cI cR h a σ r hw (by omega)) ⟨rfl, rfl, Nat.le_of_ble_eq_true rfl, Nat.le_of_ble_eq_true rfl⟩ hP hK 1 rfl rfl rfl rfl hl rfl (Nat.le_of_ble_eq_true rfl) dX1_inhibitExplains_35 ⟨Nat.zero_le _, Nat.zero_le _⟩ ?_
    refine lv_iconst (v := nI 1) hx hb dX1_inhibitExplains_38 (by decide) ?_
    refine lv_iload_n hx hb dX1_inhibitExplains_39 rfl (lv_at hl 4 rfl) ?_
    refine lv_iconst (v := nI 2) hx hb dX1_inhibitExplains_40 (by decide) ?_
    refine nv_idiv hx hb dX1_inhibitExplains_41 (by omega) (by omega) (by omega) ?_
    refine nv_ishl hx hb dX1_inhibitExplains_42 (by omega) ?_
    refine nv_ixor hx hb dX1_inhibitExplains_43 ?_
    refine nv_callV [.int (nI ((σ (3 + r)) ^^^ (1 <<< (w / 2))))] [] hx hb hml hown hts k_RX1_150 (c_X1_ringWithCode l D cI cR h a σ ((σ (3 + r)) ^^^ (1 <<< (w / 2))) hw (by omega)) ⟨rfl, rfl, Nat.le_of_ble_eq_true rfl, Nat.le_of_ble_eq_true rfl⟩ hP hK 1 rfl rfl rfl rfl hl rfl (Nat.le_of_ble_eq_true rfl) dX1_inhibitExplains_44 ⟨Nat.zero_le _, Nat.zero_le _⟩ ?_
    rcases rcF_cases σ (σ (3 + r) ^^^ 1 <<< (w / 2)) with ⟨q, hq1, hq2, hq3⟩ | ⟨hq1, hq3⟩
    · refine nv_tope (nI (q)) (hq3) ?_
      refine lv_istore (lv' := [(5, .int (nI q)), (6, .int (nI 0)), (4, .int (nI 1)), (0, .ref h), (1, .int (nI w)), (2, .int (nI r)), (3, .int (nI t))]) hx hb dX1_inhibitExplains_47 hl (by decide) rfl (fun ls hl => ?_)
      refine lv_iload hx hb dX1_inhibitExplains_49 (lv_at hl 0 rfl) ?_
      refine lv_iconst (v := -1) hx hb dX1_inhibitExplains_51 (by decide) ?_
      refine lv_icmp_ne (tgt := 65) hx hb dX1_inhibitExplains_52 (by decide) (fun q_52 => ?_) (fun q_52 => False.elim (nI_m1 (by omega) q_52))
      refine lv_iconst (v := nI 1) hx hb dX1_inhibitExplains_65 (by decide) ?_
      refine lv_iload_n hx hb dX1_inhibitExplains_66 rfl (lv_at hl 5 rfl) ?_
      refine nv_ishl hx hb dX1_inhibitExplains_67 (by omega) ?_
      refine lv_iconst (v := nI 1) hx hb dX1_inhibitExplains_68 (by decide) ?_
      refine lv_iload hx hb dX1_inhibitExplains_69 (lv_at hl 0 rfl) ?_
      refine nv_ishl hx hb dX1_inhibitExplains_71 (by omega) ?_
      refine nv_ior hx hb dX1_inhibitExplains_72 ?_
      refine lv_istore (lv' := [(6, .int (nI ((1 <<< r) ||| (1 <<< q)))), (5, .int (nI q)), (4, .int (nI 1)), (0, .ref h), (1, .int (nI w)), (2, .int (nI r)), (3, .int (nI t))]) hx hb dX1_inhibitExplains_73 hl (by decide) rfl (fun ls hl => ?_)
      refine lv_iload_n hx hb dX1_inhibitExplains_75 rfl (lv_at hl 6 rfl) ?_
      refine lv_iconst (v := nI 1) hx hb dX1_inhibitExplains_76 (by decide) ?_
      refine lv_iload hx hb dX1_inhibitExplains_77 (lv_at hl 1 rfl) ?_
      refine nv_ishl hx hb dX1_inhibitExplains_79 (by omega) ?_
      refine lv_iconst (v := -1) hx hb dX1_inhibitExplains_80 (by decide) ?_
      refine lv_ixor hx hb dX1_inhibitExplains_81 ?_
      refine nv_iandn hx hb dX1_inhibitExplains_82 ?_
      have hwo := nw_wo_le t (1 <<< q)
      refine nv_if_eq (tgt := 88) hx hb dX1_inhibitExplains_83 (by decide) (by omega) (fun q_83 => ?_) (fun q_83 => ?_)
      · refine lv_iconst (v := nI 0) hx hb dX1_inhibitExplains_88 (by decide) ?_
        refine lv_istore (lv' := [(7, .int (nI 0)), (6, .int (nI ((1 <<< r) ||| (1 <<< q)))), (5, .int (nI q)), (4, .int (nI 1)), (0, .ref h), (1, .int (nI w)), (2, .int (nI r)), (3, .int (nI t))]) hx hb dX1_inhibitExplains_89 hl (by decide) rfl (fun ls hl => ?_)
        have L91 : ∀ (n91 i : Nat), σ 2 + 1 ≤ i + n91 → i ≤ σ 2 → (∀ j, j < i → rwM (wvM σ) σ (σ 2 * q + j) = rbM σ j ((1 <<< r) ||| (1 <<< q))) → ∀ (ls : Array Slot), lv_has ls 8 [(7, .int (nI i)), (6, .int (nI ((1 <<< r) ||| (1 <<< q)))), (5, .int (nI q)), (4, .int (nI 1)), (0, .ref h), (1, .int (nI w)), (2, .int (nI r)), (3, .int (nI t))] → W p l e (rmK 2 50) s m args below meth c s.heap [] 0 0 (MQ below (QcRead (zB (ihE σ w r))) args s 0 0 (fun _ => False)) (F0 m 91 ls []) := by
          intro n91
          induction n91 with
          | zero =>
            intro i h1_91 h2_91
            exact False.elim (by omega)
          | succ n91 ih91 =>
            intro i h1_91 h2_91 hno ls hl
            refine lv_iload hx hb dX1_inhibitExplains_91 (lv_at hl 0 rfl) ?_
            refine lv_aload_n hx hb dX1_inhibitExplains_93 rfl (lv_at hl 4 rfl) ?_
            refine va_get (D := D) (ci := 1) (v := .int (nI (σ 2))) (C := RX1) (T := TX1) (N := 7) hx hb hts inX1 hown hK hP 0 rfl rfl 2 (by decide) (hts _ fl_RX1_35) (fun _ h9 => h9) rfl dX1_inhibitExplains_94 ?_
            refine nv_icmp_ge (tgt := 133) hx hb dX1_inhibitExplains_97 (by decide) (by omega) (by omega) (fun q_97 => ?_) (fun q_97 => ?_)
            · refine lv_iconst (v := nI 1) hx hb dX1_inhibitExplains_133 (by decide) ?_
              exact nv_retz hx hb hr hlocks (by decide) (by rw [ihE_A hw hbt hq1 hq2]; exact zB_1 (ihT_t (ht ▸ q_83) (fun j hj => hno j (by omega)))) dX1_inhibitExplains_134
            · refine lv_aload_n hx hb dX1_inhibitExplains_100 rfl (lv_at hl 4 rfl) ?_
              refine lv_aload_n hx hb dX1_inhibitExplains_101 rfl (lv_at hl 4 rfl) ?_
              refine va_get (D := D) (ci := 1) (v := .int (nI (σ 2))) (C := RX1) (T := TX1) (N := 7) hx hb hts inX1 hown hK hP 0 rfl rfl 2 (by decide) (hts _ fl_RX1_35) (fun _ h9 => h9) rfl dX1_inhibitExplains_102 ?_
              refine lv_iload hx hb dX1_inhibitExplains_105 (lv_at hl 2 rfl) ?_
              refine nv_imul hx hb dX1_inhibitExplains_107 ?_
              refine lv_iload hx hb dX1_inhibitExplains_108 (lv_at hl 0 rfl) ?_
              refine nv_iadd hx hb dX1_inhibitExplains_110 ?_
              refine nv_callV [.int (nI (((σ 2) * q) + i))] [] hx hb hml hown hts k_RX1_114 (c_X1_rawBits l D cI cR h a σ (((σ 2) * q) + i) hw (sr_lt (by omega) (by omega))) ⟨rfl, rfl, Nat.le_of_ble_eq_true rfl, Nat.le_of_ble_eq_true rfl⟩ hP hK 1 rfl rfl rfl rfl hl rfl (Nat.le_of_ble_eq_true rfl) dX1_inhibitExplains_111 ⟨Nat.zero_le _, Nat.zero_le _⟩ ?_
              refine lv_aload_n hx hb dX1_inhibitExplains_114 rfl (lv_at hl 4 rfl) ?_
              refine lv_iload hx hb dX1_inhibitExplains_115 (lv_at hl 0 rfl) ?_
              refine lv_iload hx hb dX1_inhibitExplains_117 (lv_at hl 1 rfl) ?_
              refine nv_callV [.int (nI i), .int (nI ((1 <<< r) ||| (1 <<< q)))] [.int (nI (rwM (wvM σ) σ (((σ 2) * q) + i)))] hx hb hml hown hts k_RX1_94 (c_X1_rightBits l D cI cR h a σ i ((1 <<< r) ||| (1 <<< q)) hw (by omega)) ⟨rfl, rfl, Nat.le_of_ble_eq_true rfl, Nat.le_of_ble_eq_true rfl⟩ hP hK 1 rfl rfl rfl rfl hl rfl (Nat.le_of_ble_eq_true rfl) dX1_inhibitExplains_119 ⟨Nat.zero_le _, Nat.zero_le _⟩ ?_
              refine nv_icmp_eq (tgt := 127) hx hb dX1_inhibitExplains_122 (by decide) (Nat.lt_trans (rwM_lt hw _ _) (by decide)) (Nat.lt_trans (rbM_lt hw _ _) (by decide)) (fun q_122 => ?_) (fun q_122 => ?_)
              · refine nv_inc (k := 0) (lv' := [(7, .int (nI (i + 1))), (6, .int (nI ((1 <<< r) ||| (1 <<< q)))), (5, .int (nI q)), (4, .int (nI 1)), (0, .ref h), (1, .int (nI w)), (2, .int (nI r)), (3, .int (nI t))]) hx hb dX1_inhibitExplains_127 hl rfl (by decide) rfl (fun ls hl => ?_)
                refine lv_goto (tgt := 91) hx hb dX1_inhibitExplains_130 (by decide) ?_
                exact ih91 (i + 1) (by omega) (by omega) (fun j hj => by rcases Nat.lt_succ_iff_lt_or_eq.mp hj with z | z; exact hno j z; exact z ▸ q_122) ls (lv_sub hl [0, 1, 2, 3, 4, 5, 6, 7] rfl)
              · refine lv_iconst (v := nI 0) hx hb dX1_inhibitExplains_125 (by decide) ?_
                exact nv_retz hx hb hr hlocks (by decide) (by rw [ihE_A hw hbt hq1 hq2]; exact zB_0 (ihT_f2 (by omega) q_122)) dX1_inhibitExplains_126
        exact L91 (σ 2 + 1) 0 (by omega) (by omega) (fun j hj => absurd hj (Nat.not_lt_zero j)) ls (lv_sub hl [0, 1, 2, 3, 4, 5, 6, 7] rfl)
      · refine lv_iconst (v := nI 0) hx hb dX1_inhibitExplains_86 (by decide) ?_
        exact nv_retz hx hb hr hlocks (by decide) (by rw [ihE_A hw hbt hq1 hq2]; exact zB_0 (ihT_f1 (ht ▸ q_83))) dX1_inhibitExplains_87
    · refine nv_tope (-1) (hq3) ?_
      refine lv_istore (lv' := [(5, .int (-1)), (6, .int (nI 0)), (4, .int (nI 1)), (0, .ref h), (1, .int (nI w)), (2, .int (nI r)), (3, .int (nI t))]) hx hb dX1_inhibitExplains_47 hl (by decide) rfl (fun ls hl => ?_)
      refine lv_iload hx hb dX1_inhibitExplains_49 (lv_at hl 0 rfl) ?_
      refine lv_iconst (v := -1) hx hb dX1_inhibitExplains_51 (by decide) ?_
      refine lv_icmp_ne (tgt := 65) hx hb dX1_inhibitExplains_52 (by decide) (fun q_52 => False.elim (q_52 rfl)) (fun q_52 => ?_)
      refine lv_iload_n hx hb dX1_inhibitExplains_55 rfl (lv_at hl 6 rfl) ?_
      refine nv_if_ne (tgt := 63) hx hb dX1_inhibitExplains_56 (by decide) (by omega) (fun q_56 => ?_) (fun q_56 => ?_)
      · refine lv_iconst (v := nI 0) hx hb dX1_inhibitExplains_63 (by decide) ?_
        exact nv_retz hx hb hr hlocks (by decide) (by rw [ihE_N hbt hq1, ← ht]; first | exact zB_1 (by simp [q_56]) | exact zB_0 (by simp [q_56])) dX1_inhibitExplains_64
      · refine lv_iconst (v := nI 1) hx hb dX1_inhibitExplains_59 (by decide) ?_
        refine lv_goto (tgt := 64) hx hb dX1_inhibitExplains_60 (by decide) ?_
        exact nv_retz hx hb hr hlocks (by decide) (by rw [ihE_N hbt hq1, ← ht]; first | exact zB_1 (by simp [q_56]) | exact zB_0 (by simp [q_56])) dX1_inhibitExplains_64
set_option maxHeartbeats 4000000 in
set_option maxRecDepth 100000 in
theorem c_X1_isExplainedBy (l : Launch) (D : va_G) (cI cR : ClassId) (h : Nat) (a : Nat → Nat) (σ : Nat → Nat) (w : Nat) (r : Nat) (t : Nat)  (hw : wf σ) (h1 : w < nW σ) (h2 : r < σ 0) (ht : t = stA σ (nA σ)) : MetR l yX1_isExplainedBy cX1_isExplainedBy 4 (some .boolean) (rmK 3 77) (nPre D (nTy cI cR) [.ref h, .int (nI w), .int (nI r), .int (nI t)] (wRp h a cI (σ 0) (σ 1) (σ 2) (onF σ) (wwF σ) (crF σ) (ptF σ))) (zB (exE σ w r)) := by
  refine met_read rfl (Nat.le_of_ble_eq_true rfl) ?_
  intro p e s m args below meth c ls hx hb hml hr hlocks hown hts hP hK hl
  have hl : lv_has ls 4 [(0, .ref h), (1, .int (nI w)), (2, .int (nI r)), (3, .int (nI t))] := hl
  have hA41 := hw.w41
  have hA33 := hw.a33
  have hA48 := hw.a48
  obtain ⟨hR2, hR, hB1, hB, hS1, hS, -⟩ := id hw
  refine lv_iload_n hx hb dX1_isExplainedBy_0 rfl (lv_at hl 1 rfl) ?_
  refine lv_bipush (v := nI 8) hx hb dX1_isExplainedBy_1 (by decide) ?_
  refine nv_icmp_ge (tgt := 16) hx hb dX1_isExplainedBy_3 (by decide) (by omega) (by omega) (fun q_3 => ?_) (fun q_3 => ?_)
  · refine lv_aload_n hx hb dX1_isExplainedBy_16 rfl (lv_at hl 0 rfl) ?_
    refine lv_iload_n hx hb dX1_isExplainedBy_17 rfl (lv_at hl 1 rfl) ?_
    refine lv_iload_n hx hb dX1_isExplainedBy_18 rfl (lv_at hl 2 rfl) ?_
    refine lv_iload_n hx hb dX1_isExplainedBy_19 rfl (lv_at hl 3 rfl) ?_
    refine nv_callV [.int (nI w), .int (nI r), .int (nI t)] [] hx hb hml hown hts k_RX1_147 (c_X1_senseExplains l D cI cR h a σ w r t hw h1 h2 ht) ⟨rfl, rfl, Nat.le_of_ble_eq_true rfl, Nat.le_of_ble_eq_true rfl⟩ hP hK 1 rfl rfl rfl rfl hl rfl (Nat.le_of_ble_eq_true rfl) dX1_isExplainedBy_20 ⟨Nat.zero_le _, Nat.zero_le _⟩ ?_
    exact nv_retz hx hb hr hlocks (zB_z _) (by first | rw [exE_i q_3] | rw [exE_s q_3]) dX1_isExplainedBy_23
  · refine lv_aload_n hx hb dX1_isExplainedBy_6 rfl (lv_at hl 0 rfl) ?_
    refine lv_iload_n hx hb dX1_isExplainedBy_7 rfl (lv_at hl 1 rfl) ?_
    refine lv_iload_n hx hb dX1_isExplainedBy_8 rfl (lv_at hl 2 rfl) ?_
    refine lv_iload_n hx hb dX1_isExplainedBy_9 rfl (lv_at hl 3 rfl) ?_
    refine nv_callV [.int (nI w), .int (nI r), .int (nI t)] [] hx hb hml hown hts k_RX1_144 (c_X1_inhibitExplains l D cI cR h a σ w r t hw q_3 h2 ht) ⟨rfl, rfl, Nat.le_of_ble_eq_true rfl, Nat.le_of_ble_eq_true rfl⟩ hP hK 1 rfl rfl rfl rfl hl rfl (Nat.le_of_ble_eq_true rfl) dX1_isExplainedBy_10 ⟨Nat.zero_le _, Nat.zero_le _⟩ ?_
    refine lv_goto (tgt := 23) hx hb dX1_isExplainedBy_13 (by decide) ?_
    exact nv_retz hx hb hr hlocks (zB_z _) (by first | rw [exE_i q_3] | rw [exE_s q_3]) dX1_isExplainedBy_23
set_option maxHeartbeats 4000000 in
set_option maxRecDepth 100000 in
theorem c_X1_explanation (l : Launch) (D : va_G) (cI cR : ClassId) (h : Nat) (a : Nat → Nat) (σ : Nat → Nat) (k : Nat)  (hw : wf σ) (hk : k < 2 ^ 31) : MetR l yX1_explanation cX1_explanation 6 (some .int) (rmK 4 100) (nPre D (nTy cI cR) [.ref h, .int (nI k)] (wRp h a cI (σ 0) (σ 1) (σ 2) (onF σ) (wwF σ) (crF σ) (ptF σ))) (exF σ k) := by
  refine met_read rfl (Nat.le_of_ble_eq_true rfl) ?_
  intro p e s m args below meth c ls hx hb hml hr hlocks hown hts hP hK hl
  have hl : lv_has ls 6 [(0, .ref h), (1, .int (nI k))] := hl
  have hA41 := hw.w41
  have hA33 := hw.a33
  have hA48 := hw.a48
  obtain ⟨hR2, hR, hB1, hB, hS1, hS, -⟩ := id hw
  refine lv_aload_n hx hb dX1_explanation_0 rfl (lv_at hl 0 rfl) ?_
  refine nv_callV [] [] hx hb hml hown hts k_RX1_137 (c_X1_strayRings l D cI cR h a σ hw) ⟨rfl, rfl, Nat.le_of_ble_eq_true rfl, Nat.le_of_ble_eq_true rfl⟩ hP hK 1 rfl rfl rfl rfl hl rfl (Nat.le_of_ble_eq_true rfl) dX1_explanation_1 ⟨Nat.zero_le _, Nat.zero_le _⟩ ?_
  refine lv_istore_n (lv' := [(2, .int (nI (stA σ (nA σ)))), (0, .ref h), (1, .int (nI k))]) hx hb dX1_explanation_4 rfl hl (by decide) rfl (fun ls hl => ?_)
  refine lv_iload_n hx hb dX1_explanation_5 rfl (lv_at hl 2 rfl) ?_
  refine lv_istore_n (lv' := [(3, .int (nI k)), (2, .int (nI (stA σ (nA σ)))), (0, .ref h), (1, .int (nI k))]) hx hb dX1_explanation_6 rfl hl (by decide) rfl (fun ls hl => ?_)
  refine lv_iconst (v := nI 0) hx hb dX1_explanation_7 (by decide) ?_
  refine lv_istore (lv' := [(4, .int (nI 0)), (3, .int (nI k)), (2, .int (nI (stA σ (nA σ)))), (0, .ref h), (1, .int (nI k))]) hx hb dX1_explanation_8 hl (by decide) rfl (fun ls hl => ?_)
  have L10 : ∀ (n10 w : Nat), nW σ + 1 ≤ w + n10 → w ≤ nW σ → (ct (exP σ) (w * σ 0) ≤ k) → ∀ (ls : Array Slot), lv_has ls 6 [(4, .int (nI w)), (3, .int (nI (k - ct (exP σ) (w * σ 0)))), (2, .int (nI (stA σ (nA σ)))), (0, .ref h), (1, .int (nI k))] → W p l e (rmK 4 100) s m args below meth c s.heap [] 0 0 (MQ below (QcRead (exF σ k)) args s 0 0 (fun _ => False)) (F0 m 10 ls []) := by
    intro n10
    induction n10 with
    | zero =>
      intro w h1_10 h2_10
      exact False.elim (by omega)
    | succ n10 ih10 =>
      intro w h1_10 h2_10 hle ls hl
      refine lv_iload hx hb dX1_explanation_10 (lv_at hl 0 rfl) ?_
      refine lv_aload_n hx hb dX1_explanation_12 rfl (lv_at hl 3 rfl) ?_
      refine nv_callV [] [.int (nI w)] hx hb hml hown hts k_RX1_55 (c_X1_wiresS l D cI cR h a σ ) ⟨rfl, rfl, Nat.le_of_ble_eq_true rfl, Nat.le_of_ble_eq_true rfl⟩ hP hK 1 rfl rfl rfl rfl hl rfl (Nat.le_of_ble_eq_true rfl) dX1_explanation_13 ⟨Nat.zero_le _, Nat.zero_le _⟩ ?_
      refine nv_icmp_ge (tgt := 71) hx hb dX1_explanation_16 (by decide) (by omega) (by omega) (fun q_16 => ?_) (fun q_16 => ?_)
      · refine lv_iconst (v := -1) hx hb dX1_explanation_71 (by decide) ?_
        exact nv_ret hx hb hr hlocks (exF_none (by rw [← show w = nW σ by omega]; exact hle)) dX1_explanation_72
      · refine lv_iconst (v := nI 0) hx hb dX1_explanation_19 (by decide) ?_
        refine lv_istore (lv' := [(5, .int (nI 0)), (4, .int (nI w)), (3, .int (nI (k - ct (exP σ) (w * σ 0)))), (2, .int (nI (stA σ (nA σ)))), (0, .ref h), (1, .int (nI k))]) hx hb dX1_explanation_20 hl (by decide) rfl (fun ls hl => ?_)
        have L22 : ∀ (n22 i : Nat), σ 0 + 1 ≤ i + n22 → i ≤ σ 0 → (ct (exP σ) (w * σ 0 + i) ≤ k) → ∀ (ls : Array Slot), lv_has ls 6 [(5, .int (nI i)), (4, .int (nI w)), (3, .int (nI (k - ct (exP σ) (w * σ 0 + i)))), (2, .int (nI (stA σ (nA σ)))), (0, .ref h), (1, .int (nI k))] → W p l e (rmK 4 100) s m args below meth c s.heap [] 0 0 (MQ below (QcRead (exF σ k)) args s 0 0 (fun _ => False)) (F0 m 22 ls []) := by
          intro n22
          induction n22 with
          | zero =>
            intro i h1_22 h2_22
            exact False.elim (by omega)
          | succ n22 ih22 =>
            intro i h1_22 h2_22 hle2 ls hl
            refine lv_iload hx hb dX1_explanation_22 (lv_at hl 0 rfl) ?_
            refine lv_aload_n hx hb dX1_explanation_24 rfl (lv_at hl 4 rfl) ?_
            refine va_get (D := D) (ci := 1) (v := .int (nI (σ 0))) (C := RX1) (T := TX1) (N := 7) hx hb hts inX1 hown hK hP 0 rfl rfl 0 (by decide) (hts _ fl_RX1_28) (fun _ h9 => h9) rfl dX1_explanation_25 ?_
            refine nv_icmp_ge (tgt := 65) hx hb dX1_explanation_28 (by decide) (by omega) (by omega) (fun q_28 => ?_) (fun q_28 => ?_)
            · refine nv_inc (k := 1) (lv' := [(4, .int (nI (w + 1))), (5, .int (nI i)), (3, .int (nI (k - ct (exP σ) (w * σ 0 + i)))), (2, .int (nI (stA σ (nA σ)))), (0, .ref h), (1, .int (nI k))]) hx hb dX1_explanation_65 hl rfl (by decide) rfl (fun ls hl => ?_)
              refine lv_goto (tgt := 10) hx hb dX1_explanation_68 (by decide) ?_
              have hl := lv_repl [(4, .int (nI (w + 1))), (5, .int (nI i)), (3, .int (nI (k - ct (exP σ) ((w + 1) * σ 0)))), (2, .int (nI (stA σ (nA σ)))), (0, .ref h), (1, .int (nI k))] 2 rfl (congrArg (fun z : Nat => Value.int (nI z)) (show (k - ct (exP σ) (w * σ 0 + i)) = (k - ct (exP σ) ((w + 1) * σ 0)) from by rw [show (w + 1) * σ 0 = w * σ 0 + i by rw [Nat.succ_mul]; omega])) rfl hl
              exact ih10 (w + 1) (by omega) (by omega) (by rw [show (w + 1) * σ 0 = w * σ 0 + i by rw [Nat.succ_mul]; omega]; exact hle2) ls (lv_sub hl [0, 2, 3, 4, 5] rfl)
            · refine lv_aload_n hx hb dX1_explanation_31 rfl (lv_at hl 4 rfl) ?_
              refine lv_iload hx hb dX1_explanation_32 (lv_at hl 1 rfl) ?_
              refine lv_iload hx hb dX1_explanation_34 (lv_at hl 0 rfl) ?_
              refine lv_iload_n hx hb dX1_explanation_36 rfl (lv_at hl 3 rfl) ?_
              refine nv_callV [.int (nI w), .int (nI i), .int (nI (stA σ (nA σ)))] [] hx hb hml hown hts k_RX1_140 (c_X1_isExplainedBy l D cI cR h a σ w i (stA σ (nA σ)) hw (by omega) (by omega) rfl) ⟨rfl, rfl, Nat.le_of_ble_eq_true rfl, Nat.le_of_ble_eq_true rfl⟩ hP hK 1 rfl rfl rfl rfl hl rfl (Nat.le_of_ble_eq_true rfl) dX1_explanation_37 ⟨Nat.zero_le _, Nat.zero_le _⟩ ?_
              refine lv_if_eq (tgt := 59) hx hb dX1_explanation_40 (by decide) (fun q_40 => ?_) (fun q_40 => ?_)
              · refine nv_inc (k := 0) (lv' := [(5, .int (nI (i + 1))), (4, .int (nI w)), (3, .int (nI (k - ct (exP σ) (w * σ 0 + i)))), (2, .int (nI (stA σ (nA σ)))), (0, .ref h), (1, .int (nI k))]) hx hb dX1_explanation_59 hl rfl (by decide) rfl (fun ls hl => ?_)
                refine lv_goto (tgt := 22) hx hb dX1_explanation_62 (by decide) ?_
                have hl := lv_repl [(5, .int (nI (i + 1))), (4, .int (nI w)), (3, .int (nI (k - ct (exP σ) (w * σ 0 + (i + 1))))), (2, .int (nI (stA σ (nA σ)))), (0, .ref h), (1, .int (nI k))] 2 rfl (congrArg (fun z : Nat => Value.int (nI z)) (show (k - ct (exP σ) (w * σ 0 + i)) = (k - ct (exP σ) (w * σ 0 + (i + 1))) from by rw [← Nat.add_assoc, ct_s, exP_at (by omega)]; first | (rw [zB_eq0 q_40]; rfl) | (rw [zB_ne0 q_40]; simp only [Bool.toNat_true]; omega))) rfl hl
                exact ih22 (i + 1) (by omega) (by omega) (by rw [← Nat.add_assoc, ct_s, exP_at (by omega)]; first | (rw [zB_eq0 q_40]; exact hle2) | (rw [zB_ne0 q_40]; simp only [Bool.toNat_true]; omega)) ls (lv_sub hl [0, 1, 2, 3, 4, 5] rfl)
              · refine lv_iload_n hx hb dX1_explanation_43 rfl (lv_at hl 2 rfl) ?_
                refine nv_if_ne (tgt := 56) hx hb dX1_explanation_44 (by decide) (by omega) (fun q_44 => ?_) (fun q_44 => ?_)
                · refine nv_dec (k := 2) (lv' := [(3, .int (nI ((k - ct (exP σ) (w * σ 0 + i)) - 1))), (5, .int (nI i)), (4, .int (nI w)), (2, .int (nI (stA σ (nA σ)))), (0, .ref h), (1, .int (nI k))]) hx hb dX1_explanation_56 hl rfl (by omega) (by decide) rfl (fun ls hl => ?_)
                  refine nv_inc (k := 1) (lv' := [(5, .int (nI (i + 1))), (3, .int (nI ((k - ct (exP σ) (w * σ 0 + i)) - 1))), (4, .int (nI w)), (2, .int (nI (stA σ (nA σ)))), (0, .ref h), (1, .int (nI k))]) hx hb dX1_explanation_59 hl rfl (by decide) rfl (fun ls hl => ?_)
                  refine lv_goto (tgt := 22) hx hb dX1_explanation_62 (by decide) ?_
                  have hl := lv_repl [(5, .int (nI (i + 1))), (3, .int (nI (k - ct (exP σ) (w * σ 0 + (i + 1))))), (4, .int (nI w)), (2, .int (nI (stA σ (nA σ)))), (0, .ref h), (1, .int (nI k))] 1 rfl (congrArg (fun z : Nat => Value.int (nI z)) (show ((k - ct (exP σ) (w * σ 0 + i)) - 1) = (k - ct (exP σ) (w * σ 0 + (i + 1))) from by rw [← Nat.add_assoc, ct_s, exP_at (by omega)]; first | (rw [zB_eq0 q_40]; rfl) | (rw [zB_ne0 q_40]; simp only [Bool.toNat_true]; omega))) rfl hl
                  exact ih22 (i + 1) (by omega) (by omega) (by rw [← Nat.add_assoc, ct_s, exP_at (by omega)]; first | (rw [zB_eq0 q_40]; exact hle2) | (rw [zB_ne0 q_40]; simp only [Bool.toNat_true]; omega)) ls (lv_sub hl [0, 2, 1, 3, 4, 5] rfl)
                · refine lv_bipush (v := nI 16) hx hb dX1_explanation_47 (by decide) ?_
                  refine lv_iload hx hb dX1_explanation_49 (lv_at hl 1 rfl) ?_
                  refine nv_imul hx hb dX1_explanation_51 ?_
                  refine lv_iload hx hb dX1_explanation_52 (lv_at hl 0 rfl) ?_
                  refine nv_iadd hx hb dX1_explanation_54 ?_
                  exact nv_ret hx hb hr hlocks (exF_at (by omega) (by omega) (zB_ne0 q_40) hle2 (by omega)) dX1_explanation_55
        exact L22 (σ 0 + 1) 0 (by omega) (by omega) (hle) ls (lv_sub hl [0, 1, 2, 3, 4, 5] rfl)
  have hl := lv_repl [(4, .int (nI 0)), (3, .int (nI (k - ct (exP σ) (0 * σ 0)))), (2, .int (nI (stA σ (nA σ)))), (0, .ref h), (1, .int (nI k))] 1 rfl (congrArg (fun z : Nat => Value.int (nI z)) (show k = (k - ct (exP σ) (0 * σ 0)) from by rw [Nat.zero_mul]; rfl)) rfl hl
  exact L10 (nW σ + 1) 0 (by omega) (by omega) (by rw [Nat.zero_mul]; exact Nat.zero_le _) ls (lv_sub hl [0, 1, 2, 3, 4] rfl)
set_option maxHeartbeats 4000000 in
set_option maxRecDepth 100000 in
theorem c_X1_hash (l : Launch) (D : va_G) (cI cR : ClassId) (h : Nat) (a : Nat → Nat) (σ : Nat → Nat)   (hw : wf σ) : MetL l yX1_hash cX1_hash 5 (some .long) (rmK 4 85) (nPre D (nTy cI cR) [.ref h] (wRp h a cI (σ 0) (σ 1) (σ 2) (onF σ) (wwF σ) (crF σ) (ptF σ))) (hsF σ) := by
  refine met_read rfl (Nat.le_of_ble_eq_true rfl) ?_
  intro p e s m args below meth c ls hx hb hml hr hlocks hown hts hP hK hl
  have hl : lv_has ls 5 [(0, .ref h)] := hl
  have hA41 := hw.w41
  have hA33 := hw.a33
  have hA48 := hw.a48
  obtain ⟨hR2, hR, hB1, hB, hS1, hS, -⟩ := id hw
  refine lv_ldc2 (v := 17) hx hb hown (hts _ ct_RX1_153) dX1_hash_0 ?_
  refine lv_lstore_n (lv' := [(1, .long 17), (0, .ref h)]) hx hb dX1_hash_3 rfl hl (by decide) rfl (fun ls hl => ?_)
  refine lv_iconst (v := nI 0) hx hb dX1_hash_4 (by decide) ?_
  refine lv_istore_n (lv' := [(3, .int (nI 0)), (1, .long 17), (0, .ref h)]) hx hb dX1_hash_5 rfl hl (by decide) rfl (fun ls hl => ?_)
  have L6 : ∀ (n6 i : Nat), 9 + 1 ≤ i + n6 → i ≤ 9 → ∀ (ls : Array Slot), lv_has ls 5 [(3, .int (nI i)), (1, .long (hs (fun k => nI (nuN σ k)) i 17)), (0, .ref h)] → W p l e (rmK 4 85) s m args below meth c s.heap [] 0 0 (MQ below (QcReadL (hsF σ)) args s 0 0 (fun _ => False)) (F0 m 6 ls []) := by
    intro n6
    induction n6 with
    | zero =>
      intro i h1_6 h2_6
      exact False.elim (by omega)
    | succ n6 ih6 =>
      intro i h1_6 h2_6  ls hl
      refine lv_iload_n hx hb dX1_hash_6 rfl (lv_at hl 0 rfl) ?_
      refine lv_bipush (v := nI 9) hx hb dX1_hash_7 (by decide) ?_
      refine nv_icmp_ge (tgt := 31) hx hb dX1_hash_9 (by decide) (by omega) (by omega) (fun q_9 => ?_) (fun q_9 => ?_)
      · refine lv_iconst (v := nI 0) hx hb dX1_hash_31 (by decide) ?_
        refine lv_istore_n (lv' := [(3, .int (nI 0)), (1, .long (hs (fun k => nI (nuN σ k)) i 17)), (0, .ref h)]) hx hb dX1_hash_32 rfl hl (by decide) rfl (fun ls hl => ?_)
        have L33 : ∀ (n33 i : Nat), σ 0 + 1 ≤ i + n33 → i ≤ σ 0 → ∀ (ls : Array Slot), lv_has ls 5 [(3, .int (nI i)), (1, .long (hs (fun r => nI (σ (3 + r))) i (hs (fun k => nI (nuN σ k)) 9 17))), (0, .ref h)] → W p l e (rmK 4 85) s m args below meth c s.heap [] 0 0 (MQ below (QcReadL (hsF σ)) args s 0 0 (fun _ => False)) (F0 m 33 ls []) := by
          intro n33
          induction n33 with
          | zero =>
            intro i h1_33 h2_33
            exact False.elim (by omega)
          | succ n33 ih33 =>
            intro i h1_33 h2_33  ls hl
            refine lv_iload_n hx hb dX1_hash_33 rfl (lv_at hl 0 rfl) ?_
            refine lv_aload_n hx hb dX1_hash_34 rfl (lv_at hl 2 rfl) ?_
            refine va_get (D := D) (ci := 1) (v := .int (nI (σ 0))) (C := RX1) (T := TX1) (N := 7) hx hb hts inX1 hown hK hP 0 rfl rfl 0 (by decide) (hts _ fl_RX1_28) (fun _ h9 => h9) rfl dX1_hash_35 ?_
            refine nv_icmp_ge (tgt := 60) hx hb dX1_hash_38 (by decide) (by omega) (by omega) (fun q_38 => ?_) (fun q_38 => ?_)
            · refine lv_iconst (v := nI 0) hx hb dX1_hash_60 (by decide) ?_
              refine lv_istore_n (lv' := [(3, .int (nI 0)), (1, .long (hs (fun r => nI (σ (3 + r))) i (hs (fun k => nI (nuN σ k)) 9 17))), (0, .ref h)]) hx hb dX1_hash_61 rfl hl (by decide) rfl (fun ls hl => ?_)
              have L62 : ∀ (n62 i : Nat), nA σ + 1 ≤ i + n62 → i ≤ nA σ → ∀ (ls : Array Slot), lv_has ls 5 [(3, .int (nI i)), (1, .long (hq σ i (hs (fun r => nI (σ (3 + r))) (σ 0) (hs (fun k => nI (nuN σ k)) 9 17)))), (0, .ref h)] → W p l e (rmK 4 85) s m args below meth c s.heap [] 0 0 (MQ below (QcReadL (hsF σ)) args s 0 0 (fun _ => False)) (F0 m 62 ls []) := by
                intro n62
                induction n62 with
                | zero =>
                  intro i h1_62 h2_62
                  exact False.elim (by omega)
                | succ n62 ih62 =>
                  intro i h1_62 h2_62  ls hl
                  refine lv_iload_n hx hb dX1_hash_62 rfl (lv_at hl 0 rfl) ?_
                  refine lv_aload_n hx hb dX1_hash_63 rfl (lv_at hl 2 rfl) ?_
                  refine nv_callV [] [.int (nI i)] hx hb hml hown hts k_RX1_42 (c_X1_addressesS l D cI cR h a σ ) ⟨rfl, rfl, Nat.le_of_ble_eq_true rfl, Nat.le_of_ble_eq_true rfl⟩ hP hK 1 rfl rfl rfl rfl hl rfl (Nat.le_of_ble_eq_true rfl) dX1_hash_64 ⟨Nat.zero_le _, Nat.zero_le _⟩ ?_
                  refine nv_icmp_ge (tgt := 137) hx hb dX1_hash_67 (by decide) (by omega) (by omega) (fun q_67 => ?_) (fun q_67 => ?_)
                  · refine lv_iconst (v := nI 0) hx hb dX1_hash_137 (by decide) ?_
                    refine lv_istore_n (lv' := [(3, .int (nI 0)), (1, .long (hq σ i (hs (fun r => nI (σ (3 + r))) (σ 0) (hs (fun k => nI (nuN σ k)) 9 17)))), (0, .ref h)]) hx hb dX1_hash_138 rfl hl (by decide) rfl (fun ls hl => ?_)
                    have L139 : ∀ (n139 w : Nat), nW σ + 1 ≤ w + n139 → w ≤ nW σ → ∀ (ls : Array Slot), lv_has ls 5 [(3, .int (nI w)), (1, .long (hv σ w (hq σ (nA σ) (hs (fun r => nI (σ (3 + r))) (σ 0) (hs (fun k => nI (nuN σ k)) 9 17))))), (0, .ref h)] → W p l e (rmK 4 85) s m args below meth c s.heap [] 0 0 (MQ below (QcReadL (hsF σ)) args s 0 0 (fun _ => False)) (F0 m 139 ls []) := by
                      intro n139
                      induction n139 with
                      | zero =>
                        intro w h1_139 h2_139
                        exact False.elim (by omega)
                      | succ n139 ih139 =>
                        intro w h1_139 h2_139  ls hl
                        refine lv_iload_n hx hb dX1_hash_139 rfl (lv_at hl 0 rfl) ?_
                        refine lv_aload_n hx hb dX1_hash_140 rfl (lv_at hl 2 rfl) ?_
                        refine nv_callV [] [.int (nI w)] hx hb hml hown hts k_RX1_55 (c_X1_wiresS l D cI cR h a σ ) ⟨rfl, rfl, Nat.le_of_ble_eq_true rfl, Nat.le_of_ble_eq_true rfl⟩ hP hK 1 rfl rfl rfl rfl hl rfl (Nat.le_of_ble_eq_true rfl) dX1_hash_141 ⟨Nat.zero_le _, Nat.zero_le _⟩ ?_
                        refine nv_icmp_ge (tgt := 186) hx hb dX1_hash_144 (by decide) (by omega) (by omega) (fun q_144 => ?_) (fun q_144 => ?_)
                        · refine lv_lload_n hx hb dX1_hash_186 rfl (lv_at hl 1 rfl) ?_
                          exact nv_retl hx hb hr hlocks (by rw [show w = nW σ by omega]; rfl) dX1_hash_187
                        · refine lv_iconst (v := nI 0) hx hb dX1_hash_147 (by decide) ?_
                          refine lv_istore (lv' := [(4, .int (nI 0)), (3, .int (nI w)), (1, .long (hv σ w (hq σ (nA σ) (hs (fun r => nI (σ (3 + r))) (σ 0) (hs (fun k => nI (nuN σ k)) 9 17))))), (0, .ref h)]) hx hb dX1_hash_148 hl (by decide) rfl (fun ls hl => ?_)
                          have L150 : ∀ (n150 i : Nat), σ 0 + 1 ≤ i + n150 → i ≤ σ 0 → ∀ (ls : Array Slot), lv_has ls 5 [(4, .int (nI i)), (3, .int (nI w)), (1, .long (hs (fun r => nI ((wvM σ w).testBit r).toNat) i (hv σ w (hq σ (nA σ) (hs (fun r => nI (σ (3 + r))) (σ 0) (hs (fun k => nI (nuN σ k)) 9 17)))))), (0, .ref h)] → W p l e (rmK 4 85) s m args below meth c s.heap [] 0 0 (MQ below (QcReadL (hsF σ)) args s 0 0 (fun _ => False)) (F0 m 150 ls []) := by
                            intro n150
                            induction n150 with
                            | zero =>
                              intro i h1_150 h2_150
                              exact False.elim (by omega)
                            | succ n150 ih150 =>
                              intro i h1_150 h2_150  ls hl
                              refine lv_iload hx hb dX1_hash_150 (lv_at hl 0 rfl) ?_
                              refine lv_aload_n hx hb dX1_hash_152 rfl (lv_at hl 3 rfl) ?_
                              refine va_get (D := D) (ci := 1) (v := .int (nI (σ 0))) (C := RX1) (T := TX1) (N := 7) hx hb hts inX1 hown hK hP 0 rfl rfl 0 (by decide) (hts _ fl_RX1_28) (fun _ h9 => h9) rfl dX1_hash_153 ?_
                              refine nv_icmp_ge (tgt := 180) hx hb dX1_hash_156 (by decide) (by omega) (by omega) (fun q_156 => ?_) (fun q_156 => ?_)
                              · refine nv_inc (k := 1) (lv' := [(3, .int (nI (w + 1))), (4, .int (nI i)), (1, .long (hs (fun r => nI ((wvM σ w).testBit r).toNat) i (hv σ w (hq σ (nA σ) (hs (fun r => nI (σ (3 + r))) (σ 0) (hs (fun k => nI (nuN σ k)) 9 17)))))), (0, .ref h)]) hx hb dX1_hash_180 hl rfl (by decide) rfl (fun ls hl => ?_)
                                refine lv_goto (tgt := 139) hx hb dX1_hash_183 (by decide) ?_
                                have hl := lv_repl [(3, .int (nI (w + 1))), (4, .int (nI i)), (1, .long (hv σ (w + 1) (hq σ (nA σ) (hs (fun r => nI (σ (3 + r))) (σ 0) (hs (fun k => nI (nuN σ k)) 9 17))))), (0, .ref h)] 2 rfl (congrArg (fun z : Int64 => Value.long z) (show (hs (fun r => nI ((wvM σ w).testBit r).toNat) i (hv σ w (hq σ (nA σ) (hs (fun r => nI (σ (3 + r))) (σ 0) (hs (fun k => nI (nuN σ k)) 9 17))))) = (hv σ (w + 1) (hq σ (nA σ) (hs (fun r => nI (σ (3 + r))) (σ 0) (hs (fun k => nI (nuN σ k)) 9 17)))) from by rw [show i = σ 0 by omega]; rfl)) rfl hl
                                exact ih139 (w + 1) (by omega) (by omega)  ls (lv_sub hl [0, 2, 3] rfl)
                              · refine lv_ldc2 (v := 31) hx hb hown (hts _ ct_RX1_155) dX1_hash_159 ?_
                                refine lv_lload_n hx hb dX1_hash_162 rfl (lv_at hl 2 rfl) ?_
                                refine lv_lmul hx hb dX1_hash_163 ?_
                                refine lv_aload_n hx hb dX1_hash_164 rfl (lv_at hl 3 rfl) ?_
                                refine lv_iload_n hx hb dX1_hash_165 rfl (lv_at hl 1 rfl) ?_
                                refine lv_iload hx hb dX1_hash_166 (lv_at hl 0 rfl) ?_
                                refine nv_callV [.int (nI w), .int (nI i)] [.long (31 * (hs (fun r => nI ((wvM σ w).testBit r).toNat) i (hv σ w (hq σ (nA σ) (hs (fun r => nI (σ (3 + r))) (σ 0) (hs (fun k => nI (nuN σ k)) 9 17))))))] hx hb hml hown hts k_RX1_160 (c_X1_goesThrough l D cI cR h a σ w i hw (by omega) (by omega)) ⟨rfl, rfl, Nat.le_of_ble_eq_true rfl, Nat.le_of_ble_eq_true rfl⟩ hP hK 1 rfl rfl rfl rfl hl rfl (Nat.le_of_ble_eq_true rfl) dX1_hash_168 ⟨Nat.zero_le _, Nat.zero_le _⟩ ?_
                                refine lv_i2l (v := (nI (((wvM σ w).testBit i).toNat)).toInt64) hx hb dX1_hash_171 rfl ?_
                                refine lv_ladd hx hb dX1_hash_172 ?_
                                refine lv_lstore_n (lv' := [(1, .long ((31 * (hs (fun r => nI ((wvM σ w).testBit r).toNat) i (hv σ w (hq σ (nA σ) (hs (fun r => nI (σ (3 + r))) (σ 0) (hs (fun k => nI (nuN σ k)) 9 17)))))) + ((nI (((wvM σ w).testBit i).toNat)).toInt64))), (4, .int (nI i)), (3, .int (nI w)), (0, .ref h)]) hx hb dX1_hash_173 rfl hl (by decide) rfl (fun ls hl => ?_)
                                refine nv_inc (k := 1) (lv' := [(4, .int (nI (i + 1))), (1, .long ((31 * (hs (fun r => nI ((wvM σ w).testBit r).toNat) i (hv σ w (hq σ (nA σ) (hs (fun r => nI (σ (3 + r))) (σ 0) (hs (fun k => nI (nuN σ k)) 9 17)))))) + ((nI (((wvM σ w).testBit i).toNat)).toInt64))), (3, .int (nI w)), (0, .ref h)]) hx hb dX1_hash_174 hl rfl (by decide) rfl (fun ls hl => ?_)
                                refine lv_goto (tgt := 150) hx hb dX1_hash_177 (by decide) ?_
                                exact ih150 (i + 1) (by omega) (by omega)  ls (lv_sub hl [0, 2, 1, 3] rfl)
                          exact L150 (σ 0 + 1) 0 (by omega) (by omega)  ls (lv_sub hl [0, 1, 2, 3] rfl)
                    have hl := lv_repl [(3, .int (nI 0)), (1, .long (hv σ 0 (hq σ (nA σ) (hs (fun r => nI (σ (3 + r))) (σ 0) (hs (fun k => nI (nuN σ k)) 9 17))))), (0, .ref h)] 1 rfl (congrArg (fun z : Int64 => Value.long z) (show (hq σ i (hs (fun r => nI (σ (3 + r))) (σ 0) (hs (fun k => nI (nuN σ k)) 9 17))) = (hv σ 0 (hq σ (nA σ) (hs (fun r => nI (σ (3 + r))) (σ 0) (hs (fun k => nI (nuN σ k)) 9 17)))) from by rw [show i = nA σ by omega]; rfl)) rfl hl
                    exact L139 (nW σ + 1) 0 (by omega) (by omega)  ls (lv_sub hl [0, 1, 2] rfl)
                  · refine lv_ldc2 (v := 31) hx hb hown (hts _ ct_RX1_155) dX1_hash_70 ?_
                    refine lv_lload_n hx hb dX1_hash_73 rfl (lv_at hl 1 rfl) ?_
                    refine lv_lmul hx hb dX1_hash_74 ?_
                    refine lv_aload_n hx hb dX1_hash_75 rfl (lv_at hl 2 rfl) ?_
                    refine lv_iload_n hx hb dX1_hash_76 rfl (lv_at hl 0 rfl) ?_
                    refine nv_callV [.int (nI i)] [.long (31 * (hq σ i (hs (fun r => nI (σ (3 + r))) (σ 0) (hs (fun k => nI (nuN σ k)) 9 17))))] hx hb hml hown hts k_RX1_131 (c_X1_wordAt l D cI cR h a σ i hw (by omega)) ⟨rfl, rfl, Nat.le_of_ble_eq_true rfl, Nat.le_of_ble_eq_true rfl⟩ hP hK 1 rfl rfl rfl rfl hl rfl (Nat.le_of_ble_eq_true rfl) dX1_hash_77 ⟨Nat.zero_le _, Nat.zero_le _⟩ ?_
                    refine lv_i2l (v := (nI (σ (19 + i))).toInt64) hx hb dX1_hash_80 rfl ?_
                    refine lv_ladd hx hb dX1_hash_81 ?_
                    refine lv_lstore_n (lv' := [(1, .long ((31 * (hq σ i (hs (fun r => nI (σ (3 + r))) (σ 0) (hs (fun k => nI (nuN σ k)) 9 17)))) + ((nI (σ (19 + i))).toInt64))), (3, .int (nI i)), (0, .ref h)]) hx hb dX1_hash_82 rfl hl (by decide) rfl (fun ls hl => ?_)
                    refine lv_ldc2 (v := 31) hx hb hown (hts _ ct_RX1_155) dX1_hash_83 ?_
                    refine lv_lload_n hx hb dX1_hash_86 rfl (lv_at hl 0 rfl) ?_
                    refine lv_lmul hx hb dX1_hash_87 ?_
                    refine lv_aload_n hx hb dX1_hash_88 rfl (lv_at hl 2 rfl) ?_
                    refine lv_iload_n hx hb dX1_hash_89 rfl (lv_at hl 1 rfl) ?_
                    refine nv_callV [.int (nI i)] [.long (31 * ((31 * (hq σ i (hs (fun r => nI (σ (3 + r))) (σ 0) (hs (fun k => nI (nuN σ k)) 9 17)))) + ((nI (σ (19 + i))).toInt64)))] hx hb hml hown hts k_RX1_134 (c_X1_wordRead l D cI cR h a σ i hw (by omega)) ⟨rfl, rfl, Nat.le_of_ble_eq_true rfl, Nat.le_of_ble_eq_true rfl⟩ hP hK 1 rfl rfl rfl rfl hl rfl (Nat.le_of_ble_eq_true rfl) dX1_hash_90 ⟨Nat.zero_le _, Nat.zero_le _⟩ ?_
                    refine lv_i2l (v := (nI (rdN σ i)).toInt64) hx hb dX1_hash_93 rfl ?_
                    refine lv_ladd hx hb dX1_hash_94 ?_
                    refine lv_lstore_n (lv' := [(1, .long ((31 * ((31 * (hq σ i (hs (fun r => nI (σ (3 + r))) (σ 0) (hs (fun k => nI (nuN σ k)) 9 17)))) + ((nI (σ (19 + i))).toInt64))) + ((nI (rdN σ i)).toInt64))), (3, .int (nI i)), (0, .ref h)]) hx hb dX1_hash_95 rfl hl (by decide) rfl (fun ls hl => ?_)
                    refine lv_ldc2 (v := 31) hx hb hown (hts _ ct_RX1_155) dX1_hash_96 ?_
                    refine lv_lload_n hx hb dX1_hash_99 rfl (lv_at hl 0 rfl) ?_
                    refine lv_lmul hx hb dX1_hash_100 ?_
                    refine lv_aload_n hx hb dX1_hash_101 rfl (lv_at hl 2 rfl) ?_
                    refine lv_iload_n hx hb dX1_hash_102 rfl (lv_at hl 1 rfl) ?_
                    refine nv_callV [.int (nI i)] [.long (31 * ((31 * ((31 * (hq σ i (hs (fun r => nI (σ (3 + r))) (σ 0) (hs (fun k => nI (nuN σ k)) 9 17)))) + ((nI (σ (19 + i))).toInt64))) + ((nI (rdN σ i)).toInt64)))] hx hb hml hown hts k_RX1_125 (c_X1_parityIsRight l D cI cR h a σ i hw (by omega)) ⟨rfl, rfl, Nat.le_of_ble_eq_true rfl, Nat.le_of_ble_eq_true rfl⟩ hP hK 1 rfl rfl rfl rfl hl rfl (Nat.le_of_ble_eq_true rfl) dX1_hash_103 ⟨Nat.zero_le _, Nat.zero_le _⟩ ?_
                    have J106 : ∀ (ls : Array Slot), lv_has ls 5 [(1, .long ((31 * ((31 * (hq σ i (hs (fun r => nI (σ (3 + r))) (σ 0) (hs (fun k => nI (nuN σ k)) 9 17)))) + ((nI (σ (19 + i))).toInt64))) + ((nI (rdN σ i)).toInt64))), (3, .int (nI i)), (0, .ref h)] → W p l e (rmK 4 85) s m args below meth c s.heap [] 0 0 (MQ below (QcReadL (hsF σ)) args s 0 0 (fun _ => False)) (F0 m 114 ls [.int (nI ((paB σ i).toNat)), .long (31 * ((31 * ((31 * (hq σ i (hs (fun r => nI (σ (3 + r))) (σ 0) (hs (fun k => nI (nuN σ k)) 9 17)))) + ((nI (σ (19 + i))).toInt64))) + ((nI (rdN σ i)).toInt64)))]) := by
                      intro ls hl
                      refine lv_i2l (v := (nI ((paB σ i).toNat)).toInt64) hx hb dX1_hash_114 rfl ?_
                      refine lv_ladd hx hb dX1_hash_115 ?_
                      refine lv_lstore_n (lv' := [(1, .long ((31 * ((31 * ((31 * (hq σ i (hs (fun r => nI (σ (3 + r))) (σ 0) (hs (fun k => nI (nuN σ k)) 9 17)))) + ((nI (σ (19 + i))).toInt64))) + ((nI (rdN σ i)).toInt64))) + ((nI ((paB σ i).toNat)).toInt64))), (3, .int (nI i)), (0, .ref h)]) hx hb dX1_hash_116 rfl hl (by decide) rfl (fun ls hl => ?_)
                      refine lv_ldc2 (v := 31) hx hb hown (hts _ ct_RX1_155) dX1_hash_117 ?_
                      refine lv_lload_n hx hb dX1_hash_120 rfl (lv_at hl 0 rfl) ?_
                      refine lv_lmul hx hb dX1_hash_121 ?_
                      refine lv_aload_n hx hb dX1_hash_122 rfl (lv_at hl 2 rfl) ?_
                      refine va_get (D := D) (ci := 1) (v := .ref (a 3)) (C := RX1) (T := TX1) (N := 7) hx hb hts inX1 hown hK hP 0 rfl rfl 6 (by decide) (hts _ fl_RX1_21) (fun _ h9 => h9) rfl dX1_hash_123 ?_
                      refine lv_iload_n hx hb dX1_hash_126 rfl (lv_at hl 1 rfl) ?_
                      refine nv_iald (D := D) (v := (ptF σ) i) hx hb hK hP 4 0 rfl rfl (k := i) (by omega) (by decide) (rfl) dX1_hash_127 ?_
                      refine lv_i2l (v := ((ptF σ) i).toInt64) hx hb dX1_hash_128 rfl ?_
                      refine lv_ladd hx hb dX1_hash_129 ?_
                      refine lv_lstore_n (lv' := [(1, .long ((31 * ((31 * ((31 * ((31 * (hq σ i (hs (fun r => nI (σ (3 + r))) (σ 0) (hs (fun k => nI (nuN σ k)) 9 17)))) + ((nI (σ (19 + i))).toInt64))) + ((nI (rdN σ i)).toInt64))) + ((nI ((paB σ i).toNat)).toInt64))) + (((ptF σ) i).toInt64))), (3, .int (nI i)), (0, .ref h)]) hx hb dX1_hash_130 rfl hl (by decide) rfl (fun ls hl => ?_)
                      refine nv_inc (k := 1) (lv' := [(3, .int (nI (i + 1))), (1, .long ((31 * ((31 * ((31 * ((31 * (hq σ i (hs (fun r => nI (σ (3 + r))) (σ 0) (hs (fun k => nI (nuN σ k)) 9 17)))) + ((nI (σ (19 + i))).toInt64))) + ((nI (rdN σ i)).toInt64))) + ((nI ((paB σ i).toNat)).toInt64))) + (((ptF σ) i).toInt64))), (0, .ref h)]) hx hb dX1_hash_131 hl rfl (by decide) rfl (fun ls hl => ?_)
                      refine lv_goto (tgt := 62) hx hb dX1_hash_134 (by decide) ?_
                      exact ih62 (i + 1) (by omega) (by omega)  ls (lv_sub hl [0, 1, 2] rfl)
                    refine lv_if_eq (tgt := 113) hx hb dX1_hash_106 (by decide) (fun q_106 => ?_) (fun q_106 => ?_)
                    · refine lv_iconst (v := nI 0) hx hb dX1_hash_113 (by decide) ?_
                      refine nv_top ((paB σ i).toNat) (by first | (rw [zB_eq0 q_106]; rfl) | (rw [zB_ne0 q_106]; rfl)) ?_
                      exact J106 ls (lv_sub hl [0, 1, 2] rfl)
                    · refine lv_iconst (v := nI 1) hx hb dX1_hash_109 (by decide) ?_
                      refine lv_goto (tgt := 114) hx hb dX1_hash_110 (by decide) ?_
                      refine nv_top ((paB σ i).toNat) (by first | (rw [zB_eq0 q_106]; rfl) | (rw [zB_ne0 q_106]; rfl)) ?_
                      exact J106 ls (lv_sub hl [0, 1, 2] rfl)
              have hl := lv_repl [(3, .int (nI 0)), (1, .long (hq σ 0 (hs (fun r => nI (σ (3 + r))) (σ 0) (hs (fun k => nI (nuN σ k)) 9 17)))), (0, .ref h)] 1 rfl (congrArg (fun z : Int64 => Value.long z) (show (hs (fun r => nI (σ (3 + r))) i (hs (fun k => nI (nuN σ k)) 9 17)) = (hq σ 0 (hs (fun r => nI (σ (3 + r))) (σ 0) (hs (fun k => nI (nuN σ k)) 9 17))) from by rw [show i = σ 0 by omega]; rfl)) rfl hl
              exact L62 (nA σ + 1) 0 (by omega) (by omega)  ls (lv_sub hl [0, 1, 2] rfl)
            · refine lv_ldc2 (v := 31) hx hb hown (hts _ ct_RX1_155) dX1_hash_41 ?_
              refine lv_lload_n hx hb dX1_hash_44 rfl (lv_at hl 1 rfl) ?_
              refine lv_lmul hx hb dX1_hash_45 ?_
              refine lv_aload_n hx hb dX1_hash_46 rfl (lv_at hl 2 rfl) ?_
              refine lv_iload_n hx hb dX1_hash_47 rfl (lv_at hl 0 rfl) ?_
              refine nv_callV [.int (nI i)] [.long (31 * (hs (fun r => nI (σ (3 + r))) i (hs (fun k => nI (nuN σ k)) 9 17)))] hx hb hml hown hts k_RX1_85 (c_X1_codeOf l D cI cR h a σ i hw (by omega)) ⟨rfl, rfl, Nat.le_of_ble_eq_true rfl, Nat.le_of_ble_eq_true rfl⟩ hP hK 1 rfl rfl rfl rfl hl rfl (Nat.le_of_ble_eq_true rfl) dX1_hash_48 ⟨Nat.zero_le _, Nat.zero_le _⟩ ?_
              refine lv_i2l (v := (nI (σ (3 + i))).toInt64) hx hb dX1_hash_51 rfl ?_
              refine lv_ladd hx hb dX1_hash_52 ?_
              refine lv_lstore_n (lv' := [(1, .long ((31 * (hs (fun r => nI (σ (3 + r))) i (hs (fun k => nI (nuN σ k)) 9 17))) + ((nI (σ (3 + i))).toInt64))), (3, .int (nI i)), (0, .ref h)]) hx hb dX1_hash_53 rfl hl (by decide) rfl (fun ls hl => ?_)
              refine nv_inc (k := 1) (lv' := [(3, .int (nI (i + 1))), (1, .long ((31 * (hs (fun r => nI (σ (3 + r))) i (hs (fun k => nI (nuN σ k)) 9 17))) + ((nI (σ (3 + i))).toInt64))), (0, .ref h)]) hx hb dX1_hash_54 hl rfl (by decide) rfl (fun ls hl => ?_)
              refine lv_goto (tgt := 33) hx hb dX1_hash_57 (by decide) ?_
              exact ih33 (i + 1) (by omega) (by omega)  ls (lv_sub hl [0, 1, 2] rfl)
        have hl := lv_repl [(3, .int (nI 0)), (1, .long (hs (fun r => nI (σ (3 + r))) 0 (hs (fun k => nI (nuN σ k)) 9 17))), (0, .ref h)] 1 rfl (congrArg (fun z : Int64 => Value.long z) (show (hs (fun k => nI (nuN σ k)) i 17) = (hs (fun r => nI (σ (3 + r))) 0 (hs (fun k => nI (nuN σ k)) 9 17)) from by rw [show i = 9 by omega]; rfl)) rfl hl
        exact L33 (σ 0 + 1) 0 (by omega) (by omega)  ls (lv_sub hl [0, 1, 2] rfl)
      · refine lv_ldc2 (v := 31) hx hb hown (hts _ ct_RX1_155) dX1_hash_12 ?_
        refine lv_lload_n hx hb dX1_hash_15 rfl (lv_at hl 1 rfl) ?_
        refine lv_lmul hx hb dX1_hash_16 ?_
        refine lv_aload_n hx hb dX1_hash_17 rfl (lv_at hl 2 rfl) ?_
        refine lv_iload_n hx hb dX1_hash_18 rfl (lv_at hl 0 rfl) ?_
        refine nv_callV [.int (nI i)] [.long (31 * (hs (fun k => nI (nuN σ k)) i 17))] hx hb hml hown hts k_RX1_157 (c_X1_number l D cI cR h a σ i hw (by omega)) ⟨rfl, rfl, Nat.le_of_ble_eq_true rfl, Nat.le_of_ble_eq_true rfl⟩ hP hK 1 rfl rfl rfl rfl hl rfl (Nat.le_of_ble_eq_true rfl) dX1_hash_19 ⟨Nat.zero_le _, Nat.zero_le _⟩ ?_
        refine lv_i2l (v := (nI (nuN σ i)).toInt64) hx hb dX1_hash_22 rfl ?_
        refine lv_ladd hx hb dX1_hash_23 ?_
        refine lv_lstore_n (lv' := [(1, .long ((31 * (hs (fun k => nI (nuN σ k)) i 17)) + ((nI (nuN σ i)).toInt64))), (3, .int (nI i)), (0, .ref h)]) hx hb dX1_hash_24 rfl hl (by decide) rfl (fun ls hl => ?_)
        refine nv_inc (k := 1) (lv' := [(3, .int (nI (i + 1))), (1, .long ((31 * (hs (fun k => nI (nuN σ k)) i 17)) + ((nI (nuN σ i)).toInt64))), (0, .ref h)]) hx hb dX1_hash_25 hl rfl (by decide) rfl (fun ls hl => ?_)
        refine lv_goto (tgt := 6) hx hb dX1_hash_28 (by decide) ?_
        exact ih6 (i + 1) (by omega) (by omega)  ls (lv_sub hl [0, 1, 2] rfl)
  exact L6 (9 + 1) 0 (by omega) (by omega)  ls (lv_sub hl [0, 1, 2] rfl)
