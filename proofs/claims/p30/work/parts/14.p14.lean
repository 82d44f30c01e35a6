set_option maxHeartbeats 4000000 in
set_option maxRecDepth 100000 in
theorem c_X1_makeCheap (l : Launch) (D : va_G) (cI cR : ClassId) (h : Nat) (a : Nat → Nat) (σ : Nat → Nat)   (hw : wf σ) (sz : Nat) : Met l yX1_makeCheap (wsC yX1_makeCheap cX1_makeCheap 6 (some .int)) (rmK 1 21) (nPreM D (nTy cI cR) [.ref h] (wRp h a cI (σ 0) (σ 1) (σ 2) (onF σ) (wwF σ) (crF σ) (ptF σ)) sz) (QcM D (some (.int (nI (mcC σ (nW σ))))) (wRp h a cI (σ 0) (σ 1) (σ 2) (onF σ) (wwF σ) (nF (mcG σ (nW σ))) (ptF σ)) (va_A (wRp h a cI (σ 0) (σ 1) (σ 2) (onF σ) (wwF σ) (crF σ) (ptF σ)) sz)) 0 0 (va_A (wRp h a cI (σ 0) (σ 1) (σ 2) (onF σ) (wwF σ) (crF σ) (ptF σ)) sz) := by
  refine met_mut (Qc := fun A => QcM D (some (.int (nI (mcC σ (nW σ))))) (wRp h a cI (σ 0) (σ 1) (σ 2) (onF σ) (wwF σ) (nF (mcG σ (nW σ))) (ptF σ)) A) rfl (Nat.le_of_ble_eq_true rfl) ?_
  intro p e s m args below meth c ls A H locs hx hb hml hr hlocks hown hts hP hK hD hA hS hl
  have hl : lv_has ls 6 [(0, .ref h)] := hl
  have hA41 := hw.w41
  have hA33 := hw.a33
  have hA48 := hw.a48
  obtain ⟨hR2, hR, hB1, hB, hSa, hSb, -⟩ := id hw
  have h8 : 8 ≤ nW σ := by unfold nW; omega
  refine lv_iconst (v := nI 0) hx hb dX1_makeCheap_0 (by decide) ?_
  refine lv_istore_n (lv' := [(1, .int (nI 0)), (0, .ref h)]) hx hb dX1_makeCheap_1 rfl hl (by decide) rfl (fun ls hl => ?_)
  refine lv_bipush (v := nI 8) hx hb dX1_makeCheap_2 (by decide) ?_
  refine lv_istore_n (lv' := [(2, .int (nI 8)), (1, .int (nI 0)), (0, .ref h)]) hx hb dX1_makeCheap_4 rfl hl (by decide) rfl (fun ls hl => ?_)
  have L5 : ∀ (n5 i : Nat), nW σ + 1 ≤ i + n5 → i ≤ nW σ → (8 ≤ i) → ∀ (H : Heap) (locs : List Loc), va_P D vwCl (wRp h a cI (σ 0) (σ 1) (σ 2) (onF σ) (wwF σ) (nF (mcG σ i)) (ptF σ)) H → va_D A (wRp h a cI (σ 0) (σ 1) (σ 2) (onF σ) (wwF σ) (nF (mcG σ i)) (ptF σ)) → va_S A s.heap H locs → ∀ (ls : Array Slot), lv_has ls 6 [(2, .int (nI i)), (1, .int (nI (mcC σ i))), (0, .ref h)] → W p l e (rmK 1 21) s m args below meth c H locs 0 0 (MQ below (QcM D (some (.int (nI (mcC σ (nW σ))))) (wRp h a cI (σ 0) (σ 1) (σ 2) (onF σ) (wwF σ) (nF (mcG σ (nW σ))) (ptF σ)) A) args s 0 0 A) (F0 m 5 ls []) := by
    intro n5
    induction n5 with
    | zero =>
      intro i h1_5 h2_5
      exact False.elim (by omega)
    | succ n5 ih5 =>
      intro i h1_5 h2_5 hi8 H locs hP hD hS ls hl
      refine lv_iload_n hx hb dX1_makeCheap_5 rfl (lv_at hl 0 rfl) ?_
      refine lv_aload_n hx hb dX1_makeCheap_6 rfl (lv_at hl 2 rfl) ?_
      refine nv_callV [] [.int (nI i)] hx hb hml hown hts k_RX1_55 (c_X1_wires l D cI cR h a (σ 0) (σ 1) (σ 2) (onF σ) (wwF σ) (nF (mcG σ i)) (ptF σ) ) ⟨rfl, rfl, Nat.le_of_ble_eq_true rfl, Nat.le_of_ble_eq_true rfl⟩ hP hK 1 rfl rfl rfl rfl hl rfl (Nat.le_of_ble_eq_true rfl) dX1_makeCheap_7 ⟨Nat.zero_le _, Nat.zero_le _⟩ ?_
      refine nv_top (nW σ) (rfl) ?_
      refine nv_icmp_ge (tgt := 72) hx hb dX1_makeCheap_10 (by decide) (by omega) (by omega) (fun q_10 => ?_) (fun q_10 => ?_)
      · have ei : i = nW σ := by omega
        have eR : (nF (mcG σ i)) = (nF (mcG σ (nW σ))) := by rw [ei]
        rw [eR] at hP hD
        have hP : va_P D vwCl (wRp h a cI (σ 0) (σ 1) (σ 2) (onF σ) (wwF σ) (nF (mcG σ (nW σ))) (ptF σ)) H := hP
        have hD : va_D A (wRp h a cI (σ 0) (σ 1) (σ 2) (onF σ) (wwF σ) (nF (mcG σ (nW σ))) (ptF σ)) := hD
        refine lv_iload_n hx hb dX1_makeCheap_72 rfl (lv_at hl 1 rfl) ?_
        exact mu_reti hx hb hr hlocks (by rw [ei]) hP hD hS dX1_makeCheap_73
      · refine lv_aload_n hx hb dX1_makeCheap_13 rfl (lv_at hl 2 rfl) ?_
        refine va_get (D := D) (ci := 1) (v := .ref (a 0)) (C := RX1) (T := TX1) (N := 7) hx hb hts inX1 hown hK hP 0 rfl rfl 3 (by decide) (hts _ fl_RX1_9) (fun _ h9 => h9) rfl dX1_makeCheap_14 ?_
        refine lv_iload_n hx hb dX1_makeCheap_17 rfl (lv_at hl 0 rfl) ?_
        refine nv_iald (D := D) (v := nI (onM σ i)) hx hb hK hP 1 0 rfl rfl (k := i) (by omega) (by decide) (rfl) dX1_makeCheap_18 ?_
        refine nv_callS [.int (nI (onM σ i))] [] hx hb hml hown hts k_RX1_73 (c_J6_bitCount_0f7a4 l D cI cR (onM σ i) (onM_lt hw _)) ⟨rfl, rfl, Nat.le_of_ble_eq_true rfl, Nat.le_of_ble_eq_true rfl⟩ (va_P_nil) hK rfl hl rfl (Nat.le_of_ble_eq_true rfl) dX1_makeCheap_19 ⟨Nat.zero_le _, Nat.zero_le _⟩ ?_
        have hpo := pop_on hw i
        refine lv_istore_n (lv' := [(3, .int (nI (pop (onM σ i)))), (2, .int (nI i)), (1, .int (nI (mcC σ i))), (0, .ref h)]) hx hb dX1_makeCheap_22 rfl hl (by decide) rfl (fun ls hl => ?_)
        refine lv_aload_n hx hb dX1_makeCheap_23 rfl (lv_at hl 3 rfl) ?_
        refine va_get (D := D) (ci := 1) (v := .int (nI (σ 0))) (C := RX1) (T := TX1) (N := 7) hx hb hts inX1 hown hK hP 0 rfl rfl 0 (by decide) (hts _ fl_RX1_28) (fun _ h9 => h9) rfl dX1_makeCheap_24 ?_
        refine lv_iload_n hx hb dX1_makeCheap_27 rfl (lv_at hl 0 rfl) ?_
        refine nv_isub hx hb dX1_makeCheap_28 (by omega) ?_
        refine lv_iconst (v := nI 1) hx hb dX1_makeCheap_29 (by decide) ?_
        refine nv_iadd hx hb dX1_makeCheap_30 ?_
        refine lv_istore (lv' := [(4, .int (nI (((σ 0) - (pop (onM σ i))) + 1))), (3, .int (nI (pop (onM σ i)))), (2, .int (nI i)), (1, .int (nI (mcC σ i))), (0, .ref h)]) hx hb dX1_makeCheap_31 hl (by decide) rfl (fun ls hl => ?_)
        refine lv_iload hx hb dX1_makeCheap_33 (lv_at hl 0 rfl) ?_
        refine lv_iload_n hx hb dX1_makeCheap_35 rfl (lv_at hl 1 rfl) ?_
        have J36 : ∀ (H : Heap) (locs : List Loc), va_P D vwCl (wRp h a cI (σ 0) (σ 1) (σ 2) (onF σ) (wwF σ) (nF (mcG σ i)) (ptF σ)) H → va_D A (wRp h a cI (σ 0) (σ 1) (σ 2) (onF σ) (wwF σ) (nF (mcG σ i)) (ptF σ)) → va_S A s.heap H locs → ∀ (ls : Array Slot), lv_has ls 6 [(4, .int (nI (((σ 0) - (pop (onM σ i))) + 1))), (3, .int (nI (pop (onM σ i)))), (2, .int (nI i)), (1, .int (nI (mcC σ i))), (0, .ref h)] → W p l e (rmK 1 21) s m args below meth c H locs 0 0 (MQ below (QcM D (some (.int (nI (mcC σ (nW σ))))) (wRp h a cI (σ 0) (σ 1) (σ 2) (onF σ) (wwF σ) (nF (mcG σ (nW σ))) (ptF σ)) A) args s 0 0 A) (F0 m 44 ls [.int (nI (bst σ i))]) := by
          intro H locs hP hD hS ls hl
          refine lv_istore (lv' := [(5, .int (nI (bst σ i))), (4, .int (nI (((σ 0) - (pop (onM σ i))) + 1))), (3, .int (nI (pop (onM σ i)))), (2, .int (nI i)), (1, .int (nI (mcC σ i))), (0, .ref h)]) hx hb dX1_makeCheap_44 hl (by decide) rfl (fun ls hl => ?_)
          refine lv_aload_n hx hb dX1_makeCheap_46 rfl (lv_at hl 5 rfl) ?_
          refine va_get (D := D) (ci := 1) (v := .ref (a 2)) (C := RX1) (T := TX1) (N := 7) hx hb hts inX1 hown hK hP 0 rfl rfl 5 (by decide) (hts _ fl_RX1_18) (fun _ h9 => h9) rfl dX1_makeCheap_47 ?_
          refine lv_iload_n hx hb dX1_makeCheap_50 rfl (lv_at hl 3 rfl) ?_
          refine nv_iald (D := D) (v := nI ((mcG σ i) i)) hx hb hK hP 3 0 rfl rfl (k := i) (by omega) (by decide) (rfl) dX1_makeCheap_51 ?_
          refine nv_top (crN σ i) (mcG_at σ i) ?_
          have hcr := crN_le hw (show i < nW σ by omega)
          have hbs := bst_le σ i
          refine lv_iload hx hb dX1_makeCheap_52 (lv_at hl 0 rfl) ?_
          have J54 : ∀ (H : Heap) (locs : List Loc), va_P D vwCl (wRp h a cI (σ 0) (σ 1) (σ 2) (onF σ) (wwF σ) (nF (mcG σ (i + 1))) (ptF σ)) H → va_D A (wRp h a cI (σ 0) (σ 1) (σ 2) (onF σ) (wwF σ) (nF (mcG σ (i + 1))) (ptF σ)) → va_S A s.heap H locs → ∀ (ls : Array Slot), lv_has ls 6 [(0, .ref h), (1, .int (nI (mcC σ (i + 1)))), (2, .int (nI i))] → W p l e (rmK 1 21) s m args below meth c H locs 0 0 (MQ below (QcM D (some (.int (nI (mcC σ (nW σ))))) (wRp h a cI (σ 0) (σ 1) (σ 2) (onF σ) (wwF σ) (nF (mcG σ (nW σ))) (ptF σ)) A) args s 0 0 A) (F0 m 66 ls []) := by
            intro H locs hP hD hS ls hl
            refine nv_inc (k := 2) (lv' := [(2, .int (nI (i + 1))), (0, .ref h), (1, .int (nI (mcC σ (i + 1))))]) hx hb dX1_makeCheap_66 hl rfl (by decide) rfl (fun ls hl => ?_)
            refine lv_goto (tgt := 5) hx hb dX1_makeCheap_69 (by decide) ?_
            exact ih5 (i + 1) (by omega) (by omega) (by omega) _ _ hP hD hS ls (lv_sub hl [0, 2, 1] rfl)
          refine nv_icmp_eq (tgt := 66) hx hb dX1_makeCheap_54 (by decide) (by omega) (by omega) (fun q_54 => ?_) (fun q_54 => ?_)
          · have eR : (nF (mcG σ i)) = (nF (mcG σ (i + 1))) := congrArg nF (mcG_eq q_54)
            rw [eR] at hP hD
            have hP : va_P D vwCl (wRp h a cI (σ 0) (σ 1) (σ 2) (onF σ) (wwF σ) (nF (mcG σ (i + 1))) (ptF σ)) H := hP
            have hD : va_D A (wRp h a cI (σ 0) (σ 1) (σ 2) (onF σ) (wwF σ) (nF (mcG σ (i + 1))) (ptF σ)) := hD
            have hl := lv_repl [(5, .int (nI (bst σ i))), (4, .int (nI (((σ 0) - (pop (onM σ i))) + 1))), (3, .int (nI (pop (onM σ i)))), (2, .int (nI i)), (1, .int (nI (mcC σ (i + 1)))), (0, .ref h)] 4 rfl (congrArg (fun z : Nat => Value.int (nI z)) (show (mcC σ i) = (mcC σ (i + 1)) from (by rw [mcC_s (by omega)]; first | (rw [q_54]; simp) | (rw [bne_iff_ne.mpr q_54]; rfl)))) rfl hl
            exact J54 _ _ hP hD hS ls (lv_sub hl [5, 4, 3] rfl)
          · refine lv_aload_n hx hb dX1_makeCheap_57 rfl (lv_at hl 5 rfl) ?_
            refine lv_iload_n hx hb dX1_makeCheap_58 rfl (lv_at hl 3 rfl) ?_
            refine mu_call (ws' := (wRp h a cI (σ 0) (σ 1) (σ 2) (onF σ) (wwF σ) (nF (va_up ((mcG σ i)) i (1 - ((mcG σ i)) i))) (ptF σ))) [0, 1, 2, 3, 4] [] [0, 1, 2, 3, 4] [.int (nI i)] [] hx hb hml hown hts k_RX1_104 (fun sz => c_X1_turn l D cI cR h a (σ 0) (σ 1) (σ 2) (onF σ) (wwF σ) ((mcG σ i)) (ptF σ) i (by omega) (by rw [mcG_at]; exact crN_le hw (by omega)) sz) ⟨rfl, rfl, Nat.le_of_ble_eq_true rfl, Nat.le_of_ble_eq_true rfl⟩ hP hD hS hA hK 1 rfl rfl rfl rfl rfl rfl rfl (by decide) rfl rfl rfl hl rfl (Nat.le_of_ble_eq_true rfl) dX1_makeCheap_59 ⟨Nat.zero_le _, Nat.zero_le _⟩ (fun H locs hP hD hS => ?_)
            refine W.eq (g2 := F0 m 62 ls [.int (nI (1 - ((mcG σ i)) i))]) rfl ?_
            refine lv_pop hx hb dX1_makeCheap_62 rfl ?_
            refine nv_inc (k := 4) (lv' := [(1, .int (nI ((mcC σ i) + 1))), (5, .int (nI (bst σ i))), (4, .int (nI (((σ 0) - (pop (onM σ i))) + 1))), (3, .int (nI (pop (onM σ i)))), (2, .int (nI i)), (0, .ref h)]) hx hb dX1_makeCheap_63 hl rfl (by decide) rfl (fun ls hl => ?_)
            have eR : (nF (va_up ((mcG σ i)) i (1 - ((mcG σ i)) i))) = (nF (mcG σ (i + 1))) := congrArg nF (mcG_ne (by omega) (crN_le hw (by omega)) q_54)
            rw [eR] at hP hD
            have hP : va_P D vwCl (wRp h a cI (σ 0) (σ 1) (σ 2) (onF σ) (wwF σ) (nF (mcG σ (i + 1))) (ptF σ)) H := hP
            have hD : va_D A (wRp h a cI (σ 0) (σ 1) (σ 2) (onF σ) (wwF σ) (nF (mcG σ (i + 1))) (ptF σ)) := hD
            have hl := lv_repl [(1, .int (nI (mcC σ (i + 1)))), (5, .int (nI (bst σ i))), (4, .int (nI (((σ 0) - (pop (onM σ i))) + 1))), (3, .int (nI (pop (onM σ i)))), (2, .int (nI i)), (0, .ref h)] 0 rfl (congrArg (fun z : Nat => Value.int (nI z)) (show ((mcC σ i) + 1) = (mcC σ (i + 1)) from (by rw [mcC_s (by omega)]; first | (rw [q_54]; simp) | (rw [bne_iff_ne.mpr q_54]; rfl)))) rfl hl
            exact J54 _ _ hP hD hS ls (lv_sub hl [5, 0, 4] rfl)
        refine nv_icmp_ge (tgt := 43) hx hb dX1_makeCheap_36 (by decide) (by omega) (by omega) (fun q_36 => ?_) (fun q_36 => ?_)
        · refine lv_iconst (v := nI 0) hx hb dX1_makeCheap_43 (by decide) ?_
          refine nv_top (bst σ i) (by unfold bst; first | rw [if_pos q_36] | rw [if_neg (Nat.not_lt.mpr q_36)]) ?_
          exact J36 _ _ hP hD hS ls (lv_sub hl [0, 1, 2, 3, 4] rfl)
        · refine lv_iconst (v := nI 1) hx hb dX1_makeCheap_39 (by decide) ?_
          refine lv_goto (tgt := 44) hx hb dX1_makeCheap_40 (by decide) ?_
          refine nv_top (bst σ i) (by unfold bst; first | rw [if_pos q_36] | rw [if_neg (Nat.not_lt.mpr q_36)]) ?_
          exact J36 _ _ hP hD hS ls (lv_sub hl [0, 1, 2, 3, 4] rfl)
  have eR : (crF σ) = (nF (mcG σ 8)) := mc_8 σ
  rw [eR] at hP hD
  have hP : va_P D vwCl (wRp h a cI (σ 0) (σ 1) (σ 2) (onF σ) (wwF σ) (nF (mcG σ 8)) (ptF σ)) H := hP
  have hD : va_D A (wRp h a cI (σ 0) (σ 1) (σ 2) (onF σ) (wwF σ) (nF (mcG σ 8)) (ptF σ)) := hD
  have hl := lv_repl [(2, .int (nI 8)), (1, .int (nI (mcC σ 8))), (0, .ref h)] 1 rfl (congrArg (fun z : Nat => Value.int (nI z)) (show 0 = (mcC σ 8) from mcC_8 σ)) rfl hl
  exact L5 (nW σ + 1) 8 (by omega) (by omega) (Nat.le_refl 8) _ _ hP hD hS ls (lv_sub hl [0, 1, 2] rfl)
set_option maxHeartbeats 4000000 in
set_option maxRecDepth 100000 in
theorem c_X1_mendPatches (l : Launch) (D : va_G) (cI cR : ClassId) (h : Nat) (a : Nat → Nat) (σ : Nat → Nat)   (hw : wf σ) (sz : Nat) : Met l yX1_mendPatches (wsC yX1_mendPatches cX1_mendPatches 2 none) (rmK 3 70) (nPreM D (nTy cI cR) [.ref h] (wRp h a cI (σ 0) (σ 1) (σ 2) (onF σ) (wwF σ) (crF σ) (ptF σ)) sz) (QcM D none (wRp h a cI (σ 0) (σ 1) (σ 2) (onF σ) (wwF σ) (crF σ) (ptF (mdS σ (nA σ)))) (va_A (wRp h a cI (σ 0) (σ 1) (σ 2) (onF σ) (wwF σ) (crF σ) (ptF σ)) sz)) 0 0 (va_A (wRp h a cI (σ 0) (σ 1) (σ 2) (onF σ) (wwF σ) (crF σ) (ptF σ)) sz) := by
  refine met_mut (Qc := fun A => QcM D none (wRp h a cI (σ 0) (σ 1) (σ 2) (onF σ) (wwF σ) (crF σ) (ptF (mdS σ (nA σ)))) A) rfl (Nat.le_of_ble_eq_true rfl) ?_
  intro p e s m args below meth c ls A H locs hx hb hml hr hlocks hown hts hP hK hD hA hS hl
  have hl : lv_has ls 2 [(0, .ref h)] := hl
  have hA41 := hw.w41
  have hA33 := hw.a33
  have hA48 := hw.a48
  obtain ⟨hR2, hR, hB1, hB, hSa, hSb, -⟩ := id hw
  refine lv_iconst (v := nI 0) hx hb dX1_mendPatches_0 (by decide) ?_
  refine lv_istore_n (lv' := [(1, .int (nI 0)), (0, .ref h)]) hx hb dX1_mendPatches_1 rfl hl (by decide) rfl (fun ls hl => ?_)
  have L2 : ∀ (n2 i : Nat), nA σ + 1 ≤ i + n2 → i ≤ nA σ → ∀ (H : Heap) (locs : List Loc), va_P D vwCl (wRp h a cI (σ 0) (σ 1) (σ 2) (onF σ) (wwF σ) (crF σ) (ptF (mdS σ i))) H → va_D A (wRp h a cI (σ 0) (σ 1) (σ 2) (onF σ) (wwF σ) (crF σ) (ptF (mdS σ i))) → va_S A s.heap H locs → ∀ (ls : Array Slot), lv_has ls 2 [(1, .int (nI i)), (0, .ref h)] → W p l e (rmK 3 70) s m args below meth c H locs 0 0 (MQ below (QcM D none (wRp h a cI (σ 0) (σ 1) (σ 2) (onF σ) (wwF σ) (crF σ) (ptF (mdS σ (nA σ)))) A) args s 0 0 A) (F0 m 2 ls []) := by
    intro n2
    induction n2 with
    | zero =>
      intro i h1_2 h2_2
      exact False.elim (by omega)
    | succ n2 ih2 =>
      intro i h1_2 h2_2  H locs hP hD hS ls hl
      refine lv_iload_n hx hb dX1_mendPatches_2 rfl (lv_at hl 0 rfl) ?_
      refine lv_aload_n hx hb dX1_mendPatches_3 rfl (lv_at hl 1 rfl) ?_
      refine nv_callV [] [.int (nI i)] hx hb hml hown hts k_RX1_42 (c_X1_addresses l D cI cR h a (σ 0) (σ 1) (σ 2) (onF σ) (wwF σ) (crF σ) (ptF (mdS σ i)) ) ⟨rfl, rfl, Nat.le_of_ble_eq_true rfl, Nat.le_of_ble_eq_true rfl⟩ hP hK 1 rfl rfl rfl rfl hl rfl (Nat.le_of_ble_eq_true rfl) dX1_mendPatches_4 ⟨Nat.zero_le _, Nat.zero_le _⟩ ?_
      refine nv_top (nA σ) (rfl) ?_
      refine nv_icmp_ge (tgt := 37) hx hb dX1_mendPatches_7 (by decide) (by omega) (by omega) (fun q_7 => ?_) (fun q_7 => ?_)
      · have ei : i = nA σ := by omega
        have eR : (ptF (mdS σ i)) = (ptF (mdS σ (nA σ))) := by rw [ei]
        rw [eR] at hP hD
        have hP : va_P D vwCl (wRp h a cI (σ 0) (σ 1) (σ 2) (onF σ) (wwF σ) (crF σ) (ptF (mdS σ (nA σ)))) H := hP
        have hD : va_D A (wRp h a cI (σ 0) (σ 1) (σ 2) (onF σ) (wwF σ) (crF σ) (ptF (mdS σ (nA σ)))) := hD
        exact mu_retv hx hb hr hlocks hP hD hS dX1_mendPatches_37
      · refine lv_aload_n hx hb dX1_mendPatches_10 rfl (lv_at hl 1 rfl) ?_
        refine va_get (D := D) (ci := 1) (v := .ref (a 3)) (C := RX1) (T := TX1) (N := 7) hx hb hts inX1 hown hK hP 0 rfl rfl 6 (by decide) (hts _ fl_RX1_21) (fun _ h9 => h9) rfl dX1_mendPatches_11 ?_
        refine lv_iload_n hx hb dX1_mendPatches_14 rfl (lv_at hl 0 rfl) ?_
        refine nv_iald (D := D) (v := (ptF (mdS σ i)) i) hx hb hK hP 4 0 rfl rfl (k := i) (by omega) (by decide) (rfl) dX1_mendPatches_15 ?_
        refine lv_iconst (v := -1) hx hb dX1_mendPatches_16 (by decide) ?_
        have J17 : ∀ (H : Heap) (locs : List Loc), va_P D vwCl (wRp h a cI (σ 0) (σ 1) (σ 2) (onF σ) (wwF σ) (crF σ) (ptF (mdS σ (i + 1)))) H → va_D A (wRp h a cI (σ 0) (σ 1) (σ 2) (onF σ) (wwF σ) (crF σ) (ptF (mdS σ (i + 1)))) → va_S A s.heap H locs → ∀ (ls : Array Slot), lv_has ls 2 [(1, .int (nI i)), (0, .ref h)] → W p l e (rmK 3 70) s m args below meth c H locs 0 0 (MQ below (QcM D none (wRp h a cI (σ 0) (σ 1) (σ 2) (onF σ) (wwF σ) (crF σ) (ptF (mdS σ (nA σ)))) A) args s 0 0 A) (F0 m 31 ls []) := by
          intro H locs hP hD hS ls hl
          refine nv_inc (k := 0) (lv' := [(1, .int (nI (i + 1))), (0, .ref h)]) hx hb dX1_mendPatches_31 hl rfl (by decide) rfl (fun ls hl => ?_)
          refine lv_goto (tgt := 2) hx hb dX1_mendPatches_34 (by decide) ?_
          exact ih2 (i + 1) (by omega) (by omega)  _ _ hP hD hS ls (lv_sub hl [0, 1] rfl)
        refine lv_icmp_eq (tgt := 31) hx hb dX1_mendPatches_17 (by decide) (fun q_17 => ?_) (fun q_17 => ?_)
        · have eR : (ptF (mdS σ i)) = (ptF (mdS σ (i + 1))) := md_skip ((ptF_m1 (by rw [md_at]; exact hw.pt (by omega))).mp q_17 |> fun z => by rw [md_at] at z; exact z)
          rw [eR] at hP hD
          have hP : va_P D vwCl (wRp h a cI (σ 0) (σ 1) (σ 2) (onF σ) (wwF σ) (crF σ) (ptF (mdS σ (i + 1)))) H := hP
          have hD : va_D A (wRp h a cI (σ 0) (σ 1) (σ 2) (onF σ) (wwF σ) (crF σ) (ptF (mdS σ (i + 1)))) := hD
          exact J17 _ _ hP hD hS ls (lv_sub hl [0, 1] rfl)
        · refine lv_aload_n hx hb dX1_mendPatches_20 rfl (lv_at hl 1 rfl) ?_
          refine va_get (D := D) (ci := 1) (v := .ref (a 3)) (C := RX1) (T := TX1) (N := 7) hx hb hts inX1 hown hK hP 0 rfl rfl 6 (by decide) (hts _ fl_RX1_21) (fun _ h9 => h9) rfl dX1_mendPatches_21 ?_
          refine lv_iload_n hx hb dX1_mendPatches_24 rfl (lv_at hl 0 rfl) ?_
          refine lv_aload_n hx hb dX1_mendPatches_25 rfl (lv_at hl 1 rfl) ?_
          refine lv_iload_n hx hb dX1_mendPatches_26 rfl (lv_at hl 0 rfl) ?_
          refine nv_callV [.int (nI i)] [.int (nI i), .ref (a 3)] hx hb hml hown hts k_RX1_131 (c_X1_wordAt l D cI cR h a (mdS σ i) i (wf_md hw i) (show i < nA (mdS σ i) by unfold nA; rw [md_lo σ i (by omega), md_lo σ i (by omega)]; exact q_7)) ⟨rfl, rfl, Nat.le_of_ble_eq_true rfl, Nat.le_of_ble_eq_true rfl⟩ ((rpS hw (fun k hk => md_lo σ i hk) _ (fun _ _ => rfl)).1 _ hP) hK 1 rfl rfl rfl rfl hl rfl (Nat.le_of_ble_eq_true rfl) dX1_mendPatches_27 ⟨Nat.zero_le _, Nat.zero_le _⟩ ?_
          refine nv_top (σ (19 + i)) (md_lo σ i (by omega)) ?_
          refine nv_iast (D := D) (ws' := (wRp h a cI (σ 0) (σ 1) (σ 2) (onF σ) (wwF σ) (crF σ) (upd (ptF (mdS σ i)) i (nI (σ (19 + i)))))) hx hb hK hP hD hS 4 0 rfl rfl (k := i) (by omega) (by decide) rfl dX1_mendPatches_30 (fun H locs hP hD hS => ?_)
          have eR : (upd (ptF (mdS σ i)) i (nI (σ (19 + i)))) = (ptF (mdS σ (i + 1))) := md_put (mt (fun z => (ptF_m1 (by rw [md_at]; exact hw.pt (by omega))).mpr (by rw [md_at]; exact z)) q_17)
          rw [eR] at hP hD
          have hP : va_P D vwCl (wRp h a cI (σ 0) (σ 1) (σ 2) (onF σ) (wwF σ) (crF σ) (ptF (mdS σ (i + 1)))) H := hP
          have hD : va_D A (wRp h a cI (σ 0) (σ 1) (σ 2) (onF σ) (wwF σ) (crF σ) (ptF (mdS σ (i + 1)))) := hD
          exact J17 _ _ hP hD hS ls (lv_sub hl [0, 1] rfl)
  have eR : (ptF σ) = (ptF (mdS σ 0)) := md_0 σ
  rw [eR] at hP hD
  have hP : va_P D vwCl (wRp h a cI (σ 0) (σ 1) (σ 2) (onF σ) (wwF σ) (crF σ) (ptF (mdS σ 0))) H := hP
  have hD : va_D A (wRp h a cI (σ 0) (σ 1) (σ 2) (onF σ) (wwF σ) (crF σ) (ptF (mdS σ 0))) := hD
  exact L2 (nA σ + 1) 0 (by omega) (by omega)  _ _ hP hD hS ls (lv_sub hl [0, 1] rfl)
set_option maxHeartbeats 4000000 in
set_option maxRecDepth 100000 in
theorem c_X1_addPatches (l : Launch) (D : va_G) (cI cR : ClassId) (h : Nat) (a : Nat → Nat) (σ : Nat → Nat)   (hw : wf σ) (h4 : ct (fun a => σ (141 + a) != 0) (nA σ) ≤ 4) (sz : Nat) : Met l yX1_addPatches (wsC yX1_addPatches cX1_addPatches 3 none) (rmK 4 92) (nPreM D (nTy cI cR) [.ref h] (wRp h a cI (σ 0) (σ 1) (σ 2) (onF σ) (wwF σ) (crF σ) (ptF σ)) sz) (QcM D none (wRp h a cI (σ 0) (σ 1) (σ 2) (onF σ) (wwF σ) (crF σ) (ptF (adP σ (nA σ)).1)) (va_A (wRp h a cI (σ 0) (σ 1) (σ 2) (onF σ) (wwF σ) (crF σ) (ptF σ)) sz)) 0 0 (va_A (wRp h a cI (σ 0) (σ 1) (σ 2) (onF σ) (wwF σ) (crF σ) (ptF σ)) sz) := by
  refine met_mut (Qc := fun A => QcM D none (wRp h a cI (σ 0) (σ 1) (σ 2) (onF σ) (wwF σ) (crF σ) (ptF (adP σ (nA σ)).1)) A) rfl (Nat.le_of_ble_eq_true rfl) ?_
  intro p e s m args below meth c ls A H locs hx hb hml hr hlocks hown hts hP hK hD hA hS hl
  have hl : lv_has ls 3 [(0, .ref h)] := hl
  have hA41 := hw.w41
  have hA33 := hw.a33
  have hA48 := hw.a48
  obtain ⟨hR2, hR, hB1, hB, hSa, hSb, -⟩ := id hw
  refine lv_iconst (v := nI 4) hx hb dX1_addPatches_0 (by decide) ?_
  refine lv_aload_n hx hb dX1_addPatches_1 rfl (lv_at hl 0 rfl) ?_
  refine nv_callV [] [.int (nI 4)] hx hb hml hown hts k_RX1_67 (c_X1_patchCount l D cI cR h a σ hw) ⟨rfl, rfl, Nat.le_of_ble_eq_true rfl, Nat.le_of_ble_eq_true rfl⟩ hP hK 1 rfl rfl rfl rfl hl rfl (Nat.le_of_ble_eq_true rfl) dX1_addPatches_2 ⟨Nat.zero_le _, Nat.zero_le _⟩ ?_
  refine nv_isub hx hb dX1_addPatches_5 h4 ?_
  refine lv_istore_n (lv' := [(1, .int (nI (4 - (ct (fun a => σ (141 + a) != 0) (nA σ))))), (0, .ref h)]) hx hb dX1_addPatches_6 rfl hl (by decide) rfl (fun ls hl => ?_)
  refine lv_iconst (v := nI 0) hx hb dX1_addPatches_7 (by decide) ?_
  refine lv_istore_n (lv' := [(2, .int (nI 0)), (1, .int (nI (4 - (ct (fun a => σ (141 + a) != 0) (nA σ))))), (0, .ref h)]) hx hb dX1_addPatches_8 rfl hl (by decide) rfl (fun ls hl => ?_)
  have L9 : ∀ (n9 i : Nat), nA σ + 1 ≤ i + n9 → i ≤ nA σ → ∀ (H : Heap) (locs : List Loc), va_P D vwCl (wRp h a cI (σ 0) (σ 1) (σ 2) (onF σ) (wwF σ) (crF σ) (ptF (adP σ i).1)) H → va_D A (wRp h a cI (σ 0) (σ 1) (σ 2) (onF σ) (wwF σ) (crF σ) (ptF (adP σ i).1)) → va_S A s.heap H locs → ∀ (ls : Array Slot), lv_has ls 3 [(2, .int (nI i)), (1, .int (nI (4 - (adP σ i).2))), (0, .ref h)] → W p l e (rmK 4 92) s m args below meth c H locs 0 0 (MQ below (QcM D none (wRp h a cI (σ 0) (σ 1) (σ 2) (onF σ) (wwF σ) (crF σ) (ptF (adP σ (nA σ)).1)) A) args s 0 0 A) (F0 m 9 ls []) := by
    intro n9
    induction n9 with
    | zero =>
      intro i h1_9 h2_9
      exact False.elim (by omega)
    | succ n9 ih9 =>
      intro i h1_9 h2_9  H locs hP hD hS ls hl
      have hle := ad_le (σ := σ) h4 i
      refine lv_iload_n hx hb dX1_addPatches_9 rfl (lv_at hl 0 rfl) ?_
      refine lv_aload_n hx hb dX1_addPatches_10 rfl (lv_at hl 2 rfl) ?_
      refine nv_callV [] [.int (nI i)] hx hb hml hown hts k_RX1_42 (c_X1_addresses l D cI cR h a (σ 0) (σ 1) (σ 2) (onF σ) (wwF σ) (crF σ) (ptF (adP σ i).1) ) ⟨rfl, rfl, Nat.le_of_ble_eq_true rfl, Nat.le_of_ble_eq_true rfl⟩ hP hK 1 rfl rfl rfl rfl hl rfl (Nat.le_of_ble_eq_true rfl) dX1_addPatches_11 ⟨Nat.zero_le _, Nat.zero_le _⟩ ?_
      refine nv_top (nA σ) (rfl) ?_
      refine nv_icmp_ge (tgt := 49) hx hb dX1_addPatches_14 (by decide) (by omega) (by omega) (fun q_14 => ?_) (fun q_14 => ?_)
      · have eR : (ptF (adP σ i).1) = (ptF (adP σ (nA σ)).1) := by rw [show i = nA σ by omega]
        rw [eR] at hP hD
        have hP : va_P D vwCl (wRp h a cI (σ 0) (σ 1) (σ 2) (onF σ) (wwF σ) (crF σ) (ptF (adP σ (nA σ)).1)) H := hP
        have hD : va_D A (wRp h a cI (σ 0) (σ 1) (σ 2) (onF σ) (wwF σ) (crF σ) (ptF (adP σ (nA σ)).1)) := hD
        exact mu_retv hx hb hr hlocks hP hD hS dX1_addPatches_49
      · refine lv_iload_n hx hb dX1_addPatches_17 rfl (lv_at hl 1 rfl) ?_
        refine nv_if_le (tgt := 49) hx hb dX1_addPatches_18 (by decide) (by omega) (fun q_18 => ?_) (fun q_18 => ?_)
        · have eR : (ptF (adP σ i).1) = (ptF (adP σ (nA σ)).1) := by rw [show nA σ = i + (nA σ - i) by omega, ad_stop (by omega)]
          rw [eR] at hP hD
          have hP : va_P D vwCl (wRp h a cI (σ 0) (σ 1) (σ 2) (onF σ) (wwF σ) (crF σ) (ptF (adP σ (nA σ)).1)) H := hP
          have hD : va_D A (wRp h a cI (σ 0) (σ 1) (σ 2) (onF σ) (wwF σ) (crF σ) (ptF (adP σ (nA σ)).1)) := hD
          exact mu_retv hx hb hr hlocks hP hD hS dX1_addPatches_49
        · refine lv_aload_n hx hb dX1_addPatches_21 rfl (lv_at hl 2 rfl) ?_
          refine lv_iload_n hx hb dX1_addPatches_22 rfl (lv_at hl 0 rfl) ?_
          refine nv_callV [.int (nI i)] [] hx hb hml hown hts k_RX1_121 (c_X1_isMisread l D cI cR h a ((adP σ i).1) i (wf_ad hw i) (show i < nA (adP σ i).1 by unfold nA; rw [ad_lo σ (by omega), ad_lo σ (by omega)]; exact q_14)) ⟨rfl, rfl, Nat.le_of_ble_eq_true rfl, Nat.le_of_ble_eq_true rfl⟩ ((rpS hw (fun k hk => ad_lo σ hk i) _ (fun _ _ => rfl)).1 _ hP) hK 1 rfl rfl rfl rfl hl rfl (Nat.le_of_ble_eq_true rfl) dX1_addPatches_23 ⟨Nat.zero_le _, Nat.zero_le _⟩ ?_
          have J26 : ∀ (H : Heap) (locs : List Loc), va_P D vwCl (wRp h a cI (σ 0) (σ 1) (σ 2) (onF σ) (wwF σ) (crF σ) (ptF (adP σ (i + 1)).1)) H → va_D A (wRp h a cI (σ 0) (σ 1) (σ 2) (onF σ) (wwF σ) (crF σ) (ptF (adP σ (i + 1)).1)) → va_S A s.heap H locs → ∀ (ls : Array Slot), lv_has ls 3 [(0, .ref h), (1, .int (nI (4 - (adP σ (i + 1)).2))), (2, .int (nI i))] → W p l e (rmK 4 92) s m args below meth c H locs 0 0 (MQ below (QcM D none (wRp h a cI (σ 0) (σ 1) (σ 2) (onF σ) (wwF σ) (crF σ) (ptF (adP σ (nA σ)).1)) A) args s 0 0 A) (F0 m 43 ls []) := by
            intro H locs hP hD hS ls hl
            refine nv_inc (k := 2) (lv' := [(2, .int (nI (i + 1))), (0, .ref h), (1, .int (nI (4 - (adP σ (i + 1)).2)))]) hx hb dX1_addPatches_43 hl rfl (by decide) rfl (fun ls hl => ?_)
            refine lv_goto (tgt := 9) hx hb dX1_addPatches_46 (by decide) ?_
            exact ih9 (i + 1) (by omega) (by omega)  _ _ hP hD hS ls (lv_sub hl [0, 2, 1] rfl)
          refine lv_if_eq (tgt := 43) hx hb dX1_addPatches_26 (by decide) (fun q_26 => ?_) (fun q_26 => ?_)
          · have eR : (ptF (adP σ i).1) = (ptF (adP σ (i + 1)).1) := by rw [ad_skip (zB_eq0 q_26)]
            rw [eR] at hP hD
            have hP : va_P D vwCl (wRp h a cI (σ 0) (σ 1) (σ 2) (onF σ) (wwF σ) (crF σ) (ptF (adP σ (i + 1)).1)) H := hP
            have hD : va_D A (wRp h a cI (σ 0) (σ 1) (σ 2) (onF σ) (wwF σ) (crF σ) (ptF (adP σ (i + 1)).1)) := hD
            have hl := lv_repl [(2, .int (nI i)), (1, .int (nI (4 - (adP σ (i + 1)).2))), (0, .ref h)] 1 rfl (congrArg (fun z : Nat => Value.int (nI z)) (show (4 - (adP σ i).2) = (4 - (adP σ (i + 1)).2) from by rw [ad_skip (zB_eq0 q_26)])) rfl hl
            exact J26 _ _ hP hD hS ls (lv_sub hl [2, 1, 0] rfl)
          · refine lv_aload_n hx hb dX1_addPatches_29 rfl (lv_at hl 2 rfl) ?_
            refine va_get (D := D) (ci := 1) (v := .ref (a 3)) (C := RX1) (T := TX1) (N := 7) hx hb hts inX1 hown hK hP 0 rfl rfl 6 (by decide) (hts _ fl_RX1_21) (fun _ h9 => h9) rfl dX1_addPatches_30 ?_
            refine lv_iload_n hx hb dX1_addPatches_33 rfl (lv_at hl 0 rfl) ?_
            refine lv_aload_n hx hb dX1_addPatches_34 rfl (lv_at hl 2 rfl) ?_
            refine lv_iload_n hx hb dX1_addPatches_35 rfl (lv_at hl 0 rfl) ?_
            refine nv_callV [.int (nI i)] [.int (nI i), .ref (a 3)] hx hb hml hown hts k_RX1_131 (c_X1_wordAt l D cI cR h a ((adP σ i).1) i (wf_ad hw i) (show i < nA (adP σ i).1 by unfold nA; rw [ad_lo σ (by omega), ad_lo σ (by omega)]; exact q_14)) ⟨rfl, rfl, Nat.le_of_ble_eq_true rfl, Nat.le_of_ble_eq_true rfl⟩ ((rpS hw (fun k hk => ad_lo σ hk i) _ (fun _ _ => rfl)).1 _ hP) hK 1 rfl rfl rfl rfl hl rfl (Nat.le_of_ble_eq_true rfl) dX1_addPatches_36 ⟨Nat.zero_le _, Nat.zero_le _⟩ ?_
            refine nv_top (σ (19 + i)) (ad_lo σ (by omega) i) ?_
            refine nv_iast (D := D) (ws' := (wRp h a cI (σ 0) (σ 1) (σ 2) (onF σ) (wwF σ) (crF σ) (upd (ptF (adP σ i).1) i (nI (σ (19 + i)))))) hx hb hK hP hD hS 4 0 rfl rfl (k := i) (by omega) (by decide) rfl dX1_addPatches_39 (fun H locs hP hD hS => ?_)
            refine nv_dec (k := 1) (lv' := [(1, .int (nI ((4 - (adP σ i).2) - 1))), (2, .int (nI i)), (0, .ref h)]) hx hb dX1_addPatches_40 hl rfl (by omega) (by decide) rfl (fun ls hl => ?_)
            have eR : (upd (ptF (adP σ i).1) i (nI (σ (19 + i)))) = (ptF (adP σ (i + 1)).1) := by rw [ad_put (by omega) (zB_ne0 q_26)]; funext j; exact ptF_up
            rw [eR] at hP hD
            have hP : va_P D vwCl (wRp h a cI (σ 0) (σ 1) (σ 2) (onF σ) (wwF σ) (crF σ) (ptF (adP σ (i + 1)).1)) H := hP
            have hD : va_D A (wRp h a cI (σ 0) (σ 1) (σ 2) (onF σ) (wwF σ) (crF σ) (ptF (adP σ (i + 1)).1)) := hD
            have hl := lv_repl [(1, .int (nI (4 - (adP σ (i + 1)).2))), (2, .int (nI i)), (0, .ref h)] 0 rfl (congrArg (fun z : Nat => Value.int (nI z)) (show ((4 - (adP σ i).2) - 1) = (4 - (adP σ (i + 1)).2) from by rw [ad_put (by omega) (zB_ne0 q_26)]; omega)) rfl hl
            exact J26 _ _ hP hD hS ls (lv_sub hl [2, 0, 1] rfl)
  have eR : (ptF σ) = (ptF (adP σ 0).1) := rfl
  rw [eR] at hP hD
  have hP : va_P D vwCl (wRp h a cI (σ 0) (σ 1) (σ 2) (onF σ) (wwF σ) (crF σ) (ptF (adP σ 0).1)) H := hP
  have hD : va_D A (wRp h a cI (σ 0) (σ 1) (σ 2) (onF σ) (wwF σ) (crF σ) (ptF (adP σ 0).1)) := hD
  exact L9 (nA σ + 1) 0 (by omega) (by omega)  _ _ hP hD hS ls (lv_sub hl [0, 1, 2] rfl)
theorem c_X1_putCodeS (l : Launch) (D : va_G) (cI cR : ClassId) (h : Nat) (a : Nat → Nat) (σ : Nat → Nat) (r : Nat) (c0 : Nat)  (hw : wf σ) (hr : r < σ 0) (hc : c0 < 16) (sz : Nat) : Met l yX1_putCode (wsC yX1_putCode cX1_putCode 5 none) (rmK 1 23) (nPreM D (nTy cI cR) [.ref h, .int (nI r), .int (nI c0)] (wRp h a cI (σ 0) (σ 1) (σ 2) (onF σ) (wwF σ) (crF σ) (ptF σ)) sz) (QcM D none (wRp h a cI (va_up σ (3 + r) c0 0) (va_up σ (3 + r) c0 1) (va_up σ (3 + r) c0 2) (onF (va_up σ (3 + r) c0)) (wwF (va_up σ (3 + r) c0)) (crF (va_up σ (3 + r) c0)) (ptF (va_up σ (3 + r) c0))) (va_A (wRp h a cI (σ 0) (σ 1) (σ 2) (onF σ) (wwF σ) (crF σ) (ptF σ)) sz)) 0 0 (va_A (wRp h a cI (σ 0) (σ 1) (σ 2) (onF σ) (wwF σ) (crF σ) (ptF σ)) sz) := (c_X1_putCode l D cI cR h a (σ 0) (σ 1) (σ 2) (onM σ) (wwF σ) (crF σ) (ptF σ) r c0 (by have := hw.2.1; omega) hc sz).to (code_to hw hr)
theorem c_X1_putWordS (l : Launch) (D : va_G) (cI cR : ClassId) (h : Nat) (a : Nat → Nat) (σ : Nat → Nat) (ad : Nat) (wd : Nat)  (hw : wf σ) (h1 : ad < nA σ) (h2 : wd < 65536) (sz : Nat) : Met l yX1_putWord (wsC yX1_putWord cX1_putWord 6 none) (rmK 1 23) (nPreM D (nTy cI cR) [.ref h, .int (nI ad), .int (nI wd)] (wRp h a cI (σ 0) (σ 1) (σ 2) (onF σ) (wwF σ) (crF σ) (ptF σ)) sz) (QcM D none (wRp h a cI (va_up σ (19 + ad) wd 0) (va_up σ (19 + ad) wd 1) (va_up σ (19 + ad) wd 2) (onF (va_up σ (19 + ad) wd)) (wwF (va_up σ (19 + ad) wd)) (crF (va_up σ (19 + ad) wd)) (ptF (va_up σ (19 + ad) wd))) (va_A (wRp h a cI (σ 0) (σ 1) (σ 2) (onF σ) (wwF σ) (crF σ) (ptF σ)) sz)) 0 0 (va_A (wRp h a cI (σ 0) (σ 1) (σ 2) (onF σ) (wwF σ) (crF σ) (ptF σ)) sz) := (c_X1_putWord l D cI cR h a (σ 0) (σ 1) (σ 2) (onM σ) (wwF σ) (crF σ) (ptF σ) ad wd hw.2.2.2.2.1 hw.2.2.2.2.2.1 hw.2.2.2.1 (by have := hw.a48; omega) (by have := (ad_div hw.2.2.2.2.1 h1).1; have := hw.2.1; omega) h2 sz).to (word_to hw h1)
theorem c_X1_turnS (l : Launch) (D : va_G) (cI cR : ClassId) (h : Nat) (a : Nat → Nat) (σ : Nat → Nat) (w : Nat)  (hw : wf σ) (h8 : 8 ≤ w) (h1 : w < nW σ) (sz : Nat) : Met l yX1_turn (wsC yX1_turn cX1_turn 2 (some .int)) (rmK 0 0) (nPreM D (nTy cI cR) [.ref h, .int (nI w)] (wRp h a cI (σ 0) (σ 1) (σ 2) (onF σ) (wwF σ) (crF σ) (ptF σ)) sz) (QcM D (some (.int (nI (1 - crN σ w)))) (wRp h a cI (va_up σ (67 + (w - 8)) (1 - crN σ w) 0) (va_up σ (67 + (w - 8)) (1 - crN σ w) 1) (va_up σ (67 + (w - 8)) (1 - crN σ w) 2) (onF (va_up σ (67 + (w - 8)) (1 - crN σ w))) (wwF (va_up σ (67 + (w - 8)) (1 - crN σ w))) (crF (va_up σ (67 + (w - 8)) (1 - crN σ w))) (ptF (va_up σ (67 + (w - 8)) (1 - crN σ w)))) (va_A (wRp h a cI (σ 0) (σ 1) (σ 2) (onF σ) (wwF σ) (crF σ) (ptF σ)) sz)) 0 0 (va_A (wRp h a cI (σ 0) (σ 1) (σ 2) (onF σ) (wwF σ) (crF σ) (ptF σ)) sz) := (c_X1_turn l D cI cR h a (σ 0) (σ 1) (σ 2) (onF σ) (wwF σ) (crN σ) (ptF σ) w (by have := hw.w41; omega) (crN_le hw h1) sz).to (turn_to hw h8 h1)
theorem c_X1_spoilOrMendS (l : Launch) (D : va_G) (cI cR : ClassId) (h : Nat) (a : Nat → Nat) (σ : Nat → Nat) (w : Nat) (r : Nat)  (hw : wf σ) (h1 : w < nW σ) (h2 : r < σ 0) (sz : Nat) : Met l yX1_spoilOrMend (wsC yX1_spoilOrMend cX1_spoilOrMend 3 (some .int)) (rmK 0 0) (nPreM D (nTy cI cR) [.ref h, .int (nI w), .int (nI r)] (wRp h a cI (σ 0) (σ 1) (σ 2) (onF σ) (wwF σ) (crF σ) (ptF σ)) sz) (QcM D (some (.int (nI (((σ (100 + w) ^^^ 1 <<< r).testBit r).toNat)))) (wRp h a cI (va_up σ (100 + w) (σ (100 + w) ^^^ 1 <<< r) 0) (va_up σ (100 + w) (σ (100 + w) ^^^ 1 <<< r) 1) (va_up σ (100 + w) (σ (100 + w) ^^^ 1 <<< r) 2) (onF (va_up σ (100 + w) (σ (100 + w) ^^^ 1 <<< r))) (wwF (va_up σ (100 + w) (σ (100 + w) ^^^ 1 <<< r))) (crF (va_up σ (100 + w) (σ (100 + w) ^^^ 1 <<< r))) (ptF (va_up σ (100 + w) (σ (100 + w) ^^^ 1 <<< r)))) (va_A (wRp h a cI (σ 0) (σ 1) (σ 2) (onF σ) (wwF σ) (crF σ) (ptF σ)) sz)) 0 0 (va_A (wRp h a cI (σ 0) (σ 1) (σ 2) (onF σ) (wwF σ) (crF σ) (ptF σ)) sz) := (c_X1_spoilOrMend l D cI cR h a (σ 0) (σ 1) (σ 2) (onF σ) (fun w => σ (100 + w)) (crF σ) (ptF σ) w r (by have := hw.w41; omega) (by have := hw.2.1; omega) (hw.sp h1) sz).to (spoil_to hw h1)
theorem c_X1_makeCheapS (l : Launch) (D : va_G) (cI cR : ClassId) (h : Nat) (a : Nat → Nat) (σ : Nat → Nat)   (hw : wf σ) (sz : Nat) : Met l yX1_makeCheap (wsC yX1_makeCheap cX1_makeCheap 6 (some .int)) (rmK 1 21) (nPreM D (nTy cI cR) [.ref h] (wRp h a cI (σ 0) (σ 1) (σ 2) (onF σ) (wwF σ) (crF σ) (ptF σ)) sz) (QcM D (some (.int (nI (mcC σ (nW σ))))) (wRp h a cI (ecS σ 0) (ecS σ 1) (ecS σ 2) (onF (ecS σ)) (wwF (ecS σ)) (crF (ecS σ)) (ptF (ecS σ))) (va_A (wRp h a cI (σ 0) (σ 1) (σ 2) (onF σ) (wwF σ) (crF σ) (ptF σ)) sz)) 0 0 (va_A (wRp h a cI (σ 0) (σ 1) (σ 2) (onF σ) (wwF σ) (crF σ) (ptF σ)) sz) := (c_X1_makeCheap l D cI cR h a σ hw sz).to (ec_to hw)
theorem c_X1_mendPatchesS (l : Launch) (D : va_G) (cI cR : ClassId) (h : Nat) (a : Nat → Nat) (σ : Nat → Nat)   (hw : wf σ) (sz : Nat) : Met l yX1_mendPatches (wsC yX1_mendPatches cX1_mendPatches 2 none) (rmK 3 70) (nPreM D (nTy cI cR) [.ref h] (wRp h a cI (σ 0) (σ 1) (σ 2) (onF σ) (wwF σ) (crF σ) (ptF σ)) sz) (QcM D none (wRp h a cI (mdS σ (nA σ) 0) (mdS σ (nA σ) 1) (mdS σ (nA σ) 2) (onF (mdS σ (nA σ))) (wwF (mdS σ (nA σ))) (crF (mdS σ (nA σ))) (ptF (mdS σ (nA σ)))) (va_A (wRp h a cI (σ 0) (σ 1) (σ 2) (onF σ) (wwF σ) (crF σ) (ptF σ)) sz)) 0 0 (va_A (wRp h a cI (σ 0) (σ 1) (σ 2) (onF σ) (wwF σ) (crF σ) (ptF σ)) sz) := (c_X1_mendPatches l D cI cR h a σ hw sz).to (rpS hw (fun k hk => md_lo σ _ hk) _ (fun _ _ => rfl))
theorem c_X1_addPatchesS (l : Launch) (D : va_G) (cI cR : ClassId) (h : Nat) (a : Nat → Nat) (σ : Nat → Nat)   (hw : wf σ) (h4 : ct (fun a => σ (141 + a) != 0) (nA σ) ≤ 4) (sz : Nat) : Met l yX1_addPatches (wsC yX1_addPatches cX1_addPatches 3 none) (rmK 4 92) (nPreM D (nTy cI cR) [.ref h] (wRp h a cI (σ 0) (σ 1) (σ 2) (onF σ) (wwF σ) (crF σ) (ptF σ)) sz) (QcM D none (wRp h a cI ((adP σ (nA σ)).1 0) ((adP σ (nA σ)).1 1) ((adP σ (nA σ)).1 2) (onF ((adP σ (nA σ)).1)) (wwF ((adP σ (nA σ)).1)) (crF ((adP σ (nA σ)).1)) (ptF ((adP σ (nA σ)).1))) (va_A (wRp h a cI (σ 0) (σ 1) (σ 2) (onF σ) (wwF σ) (crF σ) (ptF σ)) sz)) 0 0 (va_A (wRp h a cI (σ 0) (σ 1) (σ 2) (onF σ) (wwF σ) (crF σ) (ptF σ)) sz) := (c_X1_addPatches l D cI cR h a σ hw h4 sz).to (rpS hw (fun k hk => ad_lo σ hk _) _ (fun _ _ => rfl))
