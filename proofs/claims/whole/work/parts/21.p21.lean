set_option maxHeartbeats 4000000 in
set_option maxRecDepth 100000 in
theorem c_X4_copies (l : Launch) (D : va_G) (cI cR : ClassId) (h : Nat) (a : Nat → Nat) (ρ : Nat → Nat → Nat) (sv : Nat) (wv : Nat → Nat) (nw : Nat → Nat) (b : Nat → Nat) (ln : Nat) (at0 : Nat) (wd : Nat) (hh : Int64) (fr : Nat) (to0 : Nat)  (h1 : fr < 6) (h2 : to0 < 6) (sz : Nat) : Met l yX4_copies (wsC yX4_copies cX4_copies 4 none) (rmK 0 0) (nPreM D (nTy cI cR) [.ref h, .int (nI fr), .int (nI to0)] (wMd h a cI (rwF ρ) sv (nF wv) (nF nw) (nF b) ln at0 wd hh) sz) (QcM D none (wMd h a cI (rwF (va_up ρ to0 (ρ fr))) sv (nF wv) (nF nw) (nF b) ln at0 wd hh) (va_A (wMd h a cI (rwF ρ) sv (nF wv) (nF nw) (nF b) ln at0 wd hh) sz)) 0 0 (va_A (wMd h a cI (rwF ρ) sv (nF wv) (nF nw) (nF b) ln at0 wd hh) sz) := by
  refine met_mut (Qc := fun A => QcM D none (wMd h a cI (rwF (va_up ρ to0 (ρ fr))) sv (nF wv) (nF nw) (nF b) ln at0 wd hh) A) rfl (Nat.le_of_ble_eq_true rfl) ?_
  intro p e s m args below meth c ls A H locs hx hb hml hr hlocks hown hts hP hK hD hA hS hl
  have hl : lv_has ls 4 [(0, .ref h), (1, .int (nI fr)), (2, .int (nI to0))] := hl
  refine lv_iconst (v := nI 0) hx hb dX4_copies_0 (by decide) ?_
  refine lv_istore_n (lv' := [(3, .int (nI 0)), (0, .ref h), (1, .int (nI fr)), (2, .int (nI to0))]) hx hb dX4_copies_1 rfl hl (by decide) rfl (fun ls hl => ?_)
  have L2 : ∀ (n2 i : Nat), 189 + 1 ≤ i + n2 → i ≤ 189 → ∀ (H : Heap) (locs : List Loc), va_P D vwCl (wMd h a cI (rwF (cpS ρ fr to0 i)) sv (nF wv) (nF nw) (nF b) ln at0 wd hh) H → va_D A (wMd h a cI (rwF (cpS ρ fr to0 i)) sv (nF wv) (nF nw) (nF b) ln at0 wd hh) → va_S A s.heap H locs → ∀ (ls : Array Slot), lv_has ls 4 [(3, .int (nI i)), (0, .ref h), (1, .int (nI fr)), (2, .int (nI to0))] → W p l e (rmK 0 0) s m args below meth c H locs 0 0 (MQ below (QcM D none (wMd h a cI (rwF (va_up ρ to0 (ρ fr))) sv (nF wv) (nF nw) (nF b) ln at0 wd hh) A) args s 0 0 A) (F0 m 2 ls []) := by
    intro n2
    induction n2 with
    | zero =>
      intro i h1_2 h2_2
      exact False.elim (by omega)
    | succ n2 ih2 =>
      intro i h1_2 h2_2  H locs hP hD hS ls hl
      refine lv_iload_n hx hb dX4_copies_2 rfl (lv_at hl 0 rfl) ?_
      refine lv_sipush (v := nI 189) hx hb dX4_copies_3 (by decide) ?_
      refine nv_icmp_ge (tgt := 39) hx hb dX4_copies_6 (by decide) (by omega) (by omega) (fun q_6 => ?_) (fun q_6 => ?_)
      · have ei : i = 189 := by omega
        have eR : (rwF (cpS ρ fr to0 i)) = (rwF (va_up ρ to0 (ρ fr))) := by rw [ei]; exact cp_e ρ fr to0
        rw [eR] at hP hD
        have hP : va_P D vwCl (wMd h a cI (rwF (va_up ρ to0 (ρ fr))) sv (nF wv) (nF nw) (nF b) ln at0 wd hh) H := hP
        have hD : va_D A (wMd h a cI (rwF (va_up ρ to0 (ρ fr))) sv (nF wv) (nF nw) (nF b) ln at0 wd hh) := hD
        exact mu_retv hx hb hr hlocks hP hD hS dX4_copies_39
      · refine lv_aload_n hx hb dX4_copies_9 rfl (lv_at hl 1 rfl) ?_
        refine va_get (D := D) (ci := 4) (v := .ref (a 0)) (C := RX4) (T := TX4) (N := 9) hx hb hts inX4 hown hK hP 0 rfl rfl 0 (by decide) (hts _ fl_RX4_7) (fun _ h9 => h9) rfl dX4_copies_10 ?_
        refine lv_sipush (v := nI 189) hx hb dX4_copies_13 (by decide) ?_
        refine lv_iload_n hx hb dX4_copies_16 rfl (lv_at hl 3 rfl) ?_
        refine nv_imul hx hb dX4_copies_17 ?_
        refine lv_iload_n hx hb dX4_copies_18 rfl (lv_at hl 0 rfl) ?_
        refine nv_iadd hx hb dX4_copies_19 ?_
        refine lv_aload_n hx hb dX4_copies_20 rfl (lv_at hl 1 rfl) ?_
        refine va_get (D := D) (ci := 4) (v := .ref (a 0)) (C := RX4) (T := TX4) (N := 9) hx hb hts inX4 hown hK hP 0 rfl rfl 0 (by decide) (hts _ fl_RX4_7) (fun _ h9 => h9) rfl dX4_copies_21 ?_
        refine lv_sipush (v := nI 189) hx hb dX4_copies_24 (by decide) ?_
        refine lv_iload_n hx hb dX4_copies_27 rfl (lv_at hl 2 rfl) ?_
        refine nv_imul hx hb dX4_copies_28 ?_
        refine lv_iload_n hx hb dX4_copies_29 rfl (lv_at hl 0 rfl) ?_
        refine nv_iadd hx hb dX4_copies_30 ?_
        refine nv_iald (D := D) (v := (rwF (cpS ρ fr to0 i)) ((189 * fr) + i)) hx hb hK hP 1 0 rfl rfl (k := (189 * fr) + i) (by omega) (by decide) (rfl) dX4_copies_31 ?_
        refine nv_iast (D := D) (ws' := (wMd h a cI (upd (rwF (cpS ρ fr to0 i)) ((189 * to0) + i) ((rwF (cpS ρ fr to0 i)) ((189 * fr) + i))) sv (nF wv) (nF nw) (nF b) ln at0 wd hh)) hx hb hK hP hD hS 1 0 rfl rfl (k := (189 * to0) + i) (by omega) (by decide) rfl dX4_copies_32 (fun H locs hP hD hS => ?_)
        have eR : (upd (rwF (cpS ρ fr to0 i)) ((189 * to0) + i) ((rwF (cpS ρ fr to0 i)) ((189 * fr) + i))) = (rwF (cpS ρ fr to0 (i + 1))) := cp_s (by omega)
        rw [eR] at hP hD
        have hP : va_P D vwCl (wMd h a cI (rwF (cpS ρ fr to0 (i + 1))) sv (nF wv) (nF nw) (nF b) ln at0 wd hh) H := hP
        have hD : va_D A (wMd h a cI (rwF (cpS ρ fr to0 (i + 1))) sv (nF wv) (nF nw) (nF b) ln at0 wd hh) := hD
        refine nv_inc (k := 0) (lv' := [(3, .int (nI (i + 1))), (0, .ref h), (1, .int (nI fr)), (2, .int (nI to0))]) hx hb dX4_copies_33 hl rfl (by decide) rfl (fun ls hl => ?_)
        refine lv_goto (tgt := 2) hx hb dX4_copies_36 (by decide) ?_
        exact ih2 (i + 1) (by omega) (by omega)  _ _ hP hD hS ls (lv_sub hl [0, 1, 2, 3] rfl)
  have eR : (rwF ρ) = (rwF (cpS ρ fr to0 0)) := cp_0 ρ fr to0
  rw [eR] at hP hD
  have hP : va_P D vwCl (wMd h a cI (rwF (cpS ρ fr to0 0)) sv (nF wv) (nF nw) (nF b) ln at0 wd hh) H := hP
  have hD : va_D A (wMd h a cI (rwF (cpS ρ fr to0 0)) sv (nF wv) (nF nw) (nF b) ln at0 wd hh) := hD
  exact L2 190 0 (by omega) (by omega)  _ _ hP hD hS ls (lv_sub hl [0, 1, 2, 3] rfl)
set_option maxHeartbeats 4000000 in
set_option maxRecDepth 100000 in
theorem c_X4_saves (l : Launch) (D : va_G) (cI cR : ClassId) (h : Nat) (a : Nat → Nat) (ρ : Nat → Nat → Nat) (sv : Nat) (wv : Nat → Nat) (nw : Nat → Nat) (b : Nat → Nat) (ln : Nat) (at0 : Nat) (wd : Nat) (hh : Int64)   (hs : sv ≤ 5) (sz : Nat) : Met l yX4_saves (wsC yX4_saves cX4_saves 2 none) (rmK 1 23) (nPreM D (nTy cI cR) [.ref h] (wMd h a cI (rwF ρ) sv (nF wv) (nF nw) (nF b) ln at0 wd hh) sz) (QcM D none (wMd h a cI (rwF (svR ρ sv)) (kpN sv) (nF wv) (nF nw) (nF b) ln at0 wd hh) (va_A (wMd h a cI (rwF ρ) sv (nF wv) (nF nw) (nF b) ln at0 wd hh) sz)) 0 0 (va_A (wMd h a cI (rwF ρ) sv (nF wv) (nF nw) (nF b) ln at0 wd hh) sz) := by
  refine met_mut (Qc := fun A => QcM D none (wMd h a cI (rwF (svR ρ sv)) (kpN sv) (nF wv) (nF nw) (nF b) ln at0 wd hh) A) rfl (Nat.le_of_ble_eq_true rfl) ?_
  intro p e s m args below meth c ls A H locs hx hb hml hr hlocks hown hts hP hK hD hA hS hl
  have hl : lv_has ls 2 [(0, .ref h)] := hl
  by_cases h5 : sv = 5
  · refine lv_iconst (v := nI 1) hx hb dX4_saves_0 (by decide) ?_
    refine lv_istore_n (lv' := [(1, .int (nI 1)), (0, .ref h)]) hx hb dX4_saves_1 rfl hl (by decide) rfl (fun ls hl => ?_)
    have L2 : ∀ (n2 i : Nat), 4 + 1 ≤ i + n2 → i ≤ 4 → ∀ (H : Heap) (locs : List Loc), va_P D vwCl (wMd h a cI (rwF (shR ρ i)) sv (nF wv) (nF nw) (nF b) ln at0 wd hh) H → va_D A (wMd h a cI (rwF (shR ρ i)) sv (nF wv) (nF nw) (nF b) ln at0 wd hh) → va_S A s.heap H locs → ∀ (ls : Array Slot), lv_has ls 2 [(1, .int (nI (i + 1))), (0, .ref h)] → W p l e (rmK 1 23) s m args below meth c H locs 0 0 (MQ below (QcM D none (wMd h a cI (rwF (svR ρ sv)) (kpN sv) (nF wv) (nF nw) (nF b) ln at0 wd hh) A) args s 0 0 A) (F0 m 2 ls []) := by
      intro n2
      induction n2 with
      | zero =>
        intro i h1_2 h2_2
        exact False.elim (by omega)
      | succ n2 ih2 =>
        intro i h1_2 h2_2  H locs hP hD hS ls hl
        refine lv_iload_n hx hb dX4_saves_2 rfl (lv_at hl 0 rfl) ?_
        refine lv_iconst (v := nI 5) hx hb dX4_saves_3 (by decide) ?_
        refine nv_icmp_ge (tgt := 29) hx hb dX4_saves_4 (by decide) (by omega) (by omega) (fun q_4 => ?_) (fun q_4 => ?_)
        · have ei : i = 4 := by omega
          have eR : (rwF (shR ρ i)) = (rwF (shR ρ 4)) := by rw [ei]
          rw [eR] at hP hD
          have hP : va_P D vwCl (wMd h a cI (rwF (shR ρ 4)) sv (nF wv) (nF nw) (nF b) ln at0 wd hh) H := hP
          have hD : va_D A (wMd h a cI (rwF (shR ρ 4)) sv (nF wv) (nF nw) (nF b) ln at0 wd hh) := hD
          refine lv_aload_n hx hb dX4_saves_29 rfl (lv_at hl 1 rfl) ?_
          refine lv_dup hx hb dX4_saves_30 rfl ?_
          refine va_get (D := D) (ci := 4) (v := .int (nI sv)) (C := RX4) (T := TX4) (N := 9) hx hb hts inX4 hown hK hP 0 rfl rfl 1 (by decide) (hts _ fl_RX4_26) (fun _ h9 => h9) rfl dX4_saves_31 ?_
          refine lv_aload_n hx hb dX4_saves_34 rfl (lv_at hl 1 rfl) ?_
          refine va_get (D := D) (ci := 4) (v := .int (nI sv)) (C := RX4) (T := TX4) (N := 9) hx hb hts inX4 hown hK hP 0 rfl rfl 1 (by decide) (hts _ fl_RX4_26) (fun _ h9 => h9) rfl dX4_saves_35 ?_
          refine lv_iconst (v := nI 5) hx hb dX4_saves_38 (by decide) ?_
          refine nv_icmp_ne (tgt := 46) hx hb dX4_saves_39 (by decide) (by omega) (by omega) (fun q_39 => False.elim (q_39 h5)) (fun q_39 => ?_)
          refine lv_iconst (v := nI 1) hx hb dX4_saves_42 (by decide) ?_
          refine lv_goto (tgt := 47) hx hb dX4_saves_43 (by decide) ?_
          refine nv_isub hx hb dX4_saves_47 (by omega) ?_
          refine nv_top (4) (by omega) ?_
          refine va_put (D := D) (ci := 4) (v := .int (nI 4)) (ty := .int) (C := RX4) (T := TX4) (N := 9) hx hb hts inX4 tyX4 tyX4_ok nmX4 hown hK hP hD hS 0 rfl rfl 1 (by decide) (hts _ fl_RX4_26) (fun _ h9 => h9) rfl (by decide +kernel) rfl rfl (Nat.le_of_ble_eq_true rfl) dX4_saves_48 (fun H locs hP hD hS => ?_)
          have hP : va_P D vwCl (wMd h a cI (rwF (shR ρ 4)) 4 (nF wv) (nF nw) (nF b) ln at0 wd hh) H := hP
          have hD : va_D A (wMd h a cI (rwF (shR ρ 4)) 4 (nF wv) (nF nw) (nF b) ln at0 wd hh) := hD
          refine lv_aload_n hx hb dX4_saves_51 rfl (lv_at hl 1 rfl) ?_
          refine lv_dup hx hb dX4_saves_52 rfl ?_
          refine va_get (D := D) (ci := 4) (v := .int (nI 4)) (C := RX4) (T := TX4) (N := 9) hx hb hts inX4 hown hK hP 0 rfl rfl 1 (by decide) (hts _ fl_RX4_26) (fun _ h9 => h9) rfl dX4_saves_53 ?_
          refine lv_iconst (v := nI 1) hx hb dX4_saves_56 (by decide) ?_
          refine nv_iadd hx hb dX4_saves_57 ?_
          refine nv_top (5) (rfl) ?_
          refine va_put (D := D) (ci := 4) (v := .int (nI 5)) (ty := .int) (C := RX4) (T := TX4) (N := 9) hx hb hts inX4 tyX4 tyX4_ok nmX4 hown hK hP hD hS 0 rfl rfl 1 (by decide) (hts _ fl_RX4_26) (fun _ h9 => h9) rfl (by decide +kernel) rfl rfl (Nat.le_of_ble_eq_true rfl) dX4_saves_58 (fun H locs hP hD hS => ?_)
          have hP : va_P D vwCl (wMd h a cI (rwF (shR ρ 4)) 5 (nF wv) (nF nw) (nF b) ln at0 wd hh) H := hP
          have hD : va_D A (wMd h a cI (rwF (shR ρ 4)) 5 (nF wv) (nF nw) (nF b) ln at0 wd hh) := hD
          refine lv_aload_n hx hb dX4_saves_61 rfl (lv_at hl 1 rfl) ?_
          refine lv_iconst (v := nI 0) hx hb dX4_saves_62 (by decide) ?_
          refine lv_aload_n hx hb dX4_saves_63 rfl (lv_at hl 1 rfl) ?_
          refine va_get (D := D) (ci := 4) (v := .int (nI 5)) (C := RX4) (T := TX4) (N := 9) hx hb hts inX4 hown hK hP 0 rfl rfl 1 (by decide) (hts _ fl_RX4_26) (fun _ h9 => h9) rfl dX4_saves_64 ?_
          refine mu_call (ws' := (wMd h a cI (rwF (va_up ((shR ρ 4)) 5 (((shR ρ 4)) 0))) 5 (nF wv) (nF nw) (nF b) ln at0 wd hh)) [0, 1, 2, 3, 4] [] [0, 1, 2, 3, 4] [.int (nI 0), .int (nI 5)] [] hx hb hml hown hts k_RX4_30 (fun sz => c_X4_copies l D cI cR h a ((shR ρ 4)) 5 wv nw b ln at0 wd hh 0 5 (by omega) (by omega) sz) ⟨rfl, rfl, Nat.le_of_ble_eq_true rfl, Nat.le_of_ble_eq_true rfl⟩ hP hD hS hA hK 4 rfl rfl rfl rfl rfl rfl rfl (by decide) rfl rfl rfl hl rfl (Nat.le_of_ble_eq_true rfl) dX4_saves_67 ⟨Nat.zero_le _, Nat.zero_le _⟩ (fun H locs hP hD hS => ?_)
          refine W.eq (g2 := F0 m 70 ls []) rfl ?_
          have e1 : svR ρ sv = va_up (shR ρ 4) 5 (shR ρ 4 0) := by unfold svR; rw [if_pos h5]
          have e2 : kpN sv = 5 := by unfold kpN; rw [if_pos h5]
          have hP : va_P D vwCl (wMd h a cI (rwF (svR ρ sv)) (kpN sv) (nF wv) (nF nw) (nF b) ln at0 wd hh) H := by rw [e1, e2]; exact hP
          have hD : va_D A (wMd h a cI (rwF (svR ρ sv)) (kpN sv) (nF wv) (nF nw) (nF b) ln at0 wd hh) := by rw [e1, e2]; exact hD
          exact mu_retv hx hb hr hlocks hP hD hS dX4_saves_70
        · refine lv_aload_n hx hb dX4_saves_7 rfl (lv_at hl 1 rfl) ?_
          refine va_get (D := D) (ci := 4) (v := .int (nI sv)) (C := RX4) (T := TX4) (N := 9) hx hb hts inX4 hown hK hP 0 rfl rfl 1 (by decide) (hts _ fl_RX4_26) (fun _ h9 => h9) rfl dX4_saves_8 ?_
          refine lv_iconst (v := nI 5) hx hb dX4_saves_11 (by decide) ?_
          refine nv_icmp_ne (tgt := 29) hx hb dX4_saves_12 (by decide) (by omega) (by omega) (fun q_12 => False.elim (q_12 h5)) (fun q_12 => ?_)
          refine lv_aload_n hx hb dX4_saves_15 rfl (lv_at hl 1 rfl) ?_
          refine lv_iload_n hx hb dX4_saves_16 rfl (lv_at hl 0 rfl) ?_
          refine lv_iconst (v := nI 1) hx hb dX4_saves_17 (by decide) ?_
          refine nv_iadd hx hb dX4_saves_18 ?_
          refine lv_iload_n hx hb dX4_saves_19 rfl (lv_at hl 0 rfl) ?_
          refine mu_call (ws' := (wMd h a cI (rwF (va_up ((shR ρ i)) (i + 1) (((shR ρ i)) ((i + 1) + 1)))) sv (nF wv) (nF nw) (nF b) ln at0 wd hh)) [0, 1, 2, 3, 4] [] [0, 1, 2, 3, 4] [.int (nI ((i + 1) + 1)), .int (nI (i + 1))] [] hx hb hml hown hts k_RX4_30 (fun sz => c_X4_copies l D cI cR h a ((shR ρ i)) sv wv nw b ln at0 wd hh ((i + 1) + 1) (i + 1) (by omega) (by omega) sz) ⟨rfl, rfl, Nat.le_of_ble_eq_true rfl, Nat.le_of_ble_eq_true rfl⟩ hP hD hS hA hK 4 rfl rfl rfl rfl rfl rfl rfl (by decide) rfl rfl rfl hl rfl (Nat.le_of_ble_eq_true rfl) dX4_saves_20 ⟨Nat.zero_le _, Nat.zero_le _⟩ (fun H locs hP hD hS => ?_)
          refine W.eq (g2 := F0 m 23 ls []) rfl ?_
          have eR : (rwF (va_up ((shR ρ i)) (i + 1) (((shR ρ i)) ((i + 1) + 1)))) = (rwF (shR ρ (i + 1))) := rfl
          rw [eR] at hP hD
          have hP : va_P D vwCl (wMd h a cI (rwF (shR ρ (i + 1))) sv (nF wv) (nF nw) (nF b) ln at0 wd hh) H := hP
          have hD : va_D A (wMd h a cI (rwF (shR ρ (i + 1))) sv (nF wv) (nF nw) (nF b) ln at0 wd hh) := hD
          refine nv_inc (k := 0) (lv' := [(1, .int (nI ((i + 1) + 1))), (0, .ref h)]) hx hb dX4_saves_23 hl rfl (by decide) rfl (fun ls hl => ?_)
          refine lv_goto (tgt := 2) hx hb dX4_saves_26 (by decide) ?_
          exact ih2 (i + 1) (by omega) (by omega)  _ _ hP hD hS ls (lv_sub hl [0, 1] rfl)
    have eR : (rwF ρ) = (rwF (shR ρ 0)) := rfl
    rw [eR] at hP hD
    have hP : va_P D vwCl (wMd h a cI (rwF (shR ρ 0)) sv (nF wv) (nF nw) (nF b) ln at0 wd hh) H := hP
    have hD : va_D A (wMd h a cI (rwF (shR ρ 0)) sv (nF wv) (nF nw) (nF b) ln at0 wd hh) := hD
    exact L2 5 0 (by omega) (by omega)  _ _ hP hD hS ls (lv_sub hl [0, 1] rfl)
  · refine lv_iconst (v := nI 1) hx hb dX4_saves_0 (by decide) ?_
    refine lv_istore_n (lv' := [(1, .int (nI 1)), (0, .ref h)]) hx hb dX4_saves_1 rfl hl (by decide) rfl (fun ls hl => ?_)
    refine lv_iload_n hx hb dX4_saves_2 rfl (lv_at hl 0 rfl) ?_
    refine lv_iconst (v := nI 5) hx hb dX4_saves_3 (by decide) ?_
    refine nv_icmp_ge (tgt := 29) hx hb dX4_saves_4 (by decide) (by omega) (by omega) (fun q_4 => False.elim (by omega)) (fun q_4 => ?_)
    refine lv_aload_n hx hb dX4_saves_7 rfl (lv_at hl 1 rfl) ?_
    refine va_get (D := D) (ci := 4) (v := .int (nI sv)) (C := RX4) (T := TX4) (N := 9) hx hb hts inX4 hown hK hP 0 rfl rfl 1 (by decide) (hts _ fl_RX4_26) (fun _ h9 => h9) rfl dX4_saves_8 ?_
    refine lv_iconst (v := nI 5) hx hb dX4_saves_11 (by decide) ?_
    refine nv_icmp_ne (tgt := 29) hx hb dX4_saves_12 (by decide) (by omega) (by omega) (fun q_12 => ?_) (fun q_12 => False.elim (h5 q_12))
    refine lv_aload_n hx hb dX4_saves_29 rfl (lv_at hl 1 rfl) ?_
    refine lv_dup hx hb dX4_saves_30 rfl ?_
    refine va_get (D := D) (ci := 4) (v := .int (nI sv)) (C := RX4) (T := TX4) (N := 9) hx hb hts inX4 hown hK hP 0 rfl rfl 1 (by decide) (hts _ fl_RX4_26) (fun _ h9 => h9) rfl dX4_saves_31 ?_
    refine lv_aload_n hx hb dX4_saves_34 rfl (lv_at hl 1 rfl) ?_
    refine va_get (D := D) (ci := 4) (v := .int (nI sv)) (C := RX4) (T := TX4) (N := 9) hx hb hts inX4 hown hK hP 0 rfl rfl 1 (by decide) (hts _ fl_RX4_26) (fun _ h9 => h9) rfl dX4_saves_35 ?_
    refine lv_iconst (v := nI 5) hx hb dX4_saves_38 (by decide) ?_
    refine nv_icmp_ne (tgt := 46) hx hb dX4_saves_39 (by decide) (by omega) (by omega) (fun q_39 => ?_) (fun q_39 => False.elim (h5 q_39))
    refine lv_iconst (v := nI 0) hx hb dX4_saves_46 (by decide) ?_
    refine nv_isub hx hb dX4_saves_47 (by omega) ?_
    refine nv_top (sv) (Nat.sub_zero sv) ?_
    refine va_put (D := D) (ci := 4) (v := .int (nI sv)) (ty := .int) (C := RX4) (T := TX4) (N := 9) hx hb hts inX4 tyX4 tyX4_ok nmX4 hown hK hP hD hS 0 rfl rfl 1 (by decide) (hts _ fl_RX4_26) (fun _ h9 => h9) rfl (by decide +kernel) rfl rfl (Nat.le_of_ble_eq_true rfl) dX4_saves_48 (fun H locs hP hD hS => ?_)
    have hP : va_P D vwCl (wMd h a cI (rwF ρ) sv (nF wv) (nF nw) (nF b) ln at0 wd hh) H := hP
    have hD : va_D A (wMd h a cI (rwF ρ) sv (nF wv) (nF nw) (nF b) ln at0 wd hh) := hD
    refine lv_aload_n hx hb dX4_saves_51 rfl (lv_at hl 1 rfl) ?_
    refine lv_dup hx hb dX4_saves_52 rfl ?_
    refine va_get (D := D) (ci := 4) (v := .int (nI sv)) (C := RX4) (T := TX4) (N := 9) hx hb hts inX4 hown hK hP 0 rfl rfl 1 (by decide) (hts _ fl_RX4_26) (fun _ h9 => h9) rfl dX4_saves_53 ?_
    refine lv_iconst (v := nI 1) hx hb dX4_saves_56 (by decide) ?_
    refine nv_iadd hx hb dX4_saves_57 ?_
    refine va_put (D := D) (ci := 4) (v := .int (nI (sv + 1))) (ty := .int) (C := RX4) (T := TX4) (N := 9) hx hb hts inX4 tyX4 tyX4_ok nmX4 hown hK hP hD hS 0 rfl rfl 1 (by decide) (hts _ fl_RX4_26) (fun _ h9 => h9) rfl (by decide +kernel) rfl rfl (Nat.le_of_ble_eq_true rfl) dX4_saves_58 (fun H locs hP hD hS => ?_)
    have hP : va_P D vwCl (wMd h a cI (rwF ρ) (sv + 1) (nF wv) (nF nw) (nF b) ln at0 wd hh) H := hP
    have hD : va_D A (wMd h a cI (rwF ρ) (sv + 1) (nF wv) (nF nw) (nF b) ln at0 wd hh) := hD
    refine lv_aload_n hx hb dX4_saves_61 rfl (lv_at hl 1 rfl) ?_
    refine lv_iconst (v := nI 0) hx hb dX4_saves_62 (by decide) ?_
    refine lv_aload_n hx hb dX4_saves_63 rfl (lv_at hl 1 rfl) ?_
    refine va_get (D := D) (ci := 4) (v := .int (nI (sv + 1))) (C := RX4) (T := TX4) (N := 9) hx hb hts inX4 hown hK hP 0 rfl rfl 1 (by decide) (hts _ fl_RX4_26) (fun _ h9 => h9) rfl dX4_saves_64 ?_
    refine mu_call (ws' := (wMd h a cI (rwF (va_up ρ (sv + 1) (ρ 0))) (sv + 1) (nF wv) (nF nw) (nF b) ln at0 wd hh)) [0, 1, 2, 3, 4] [] [0, 1, 2, 3, 4] [.int (nI 0), .int (nI (sv + 1))] [] hx hb hml hown hts k_RX4_30 (fun sz => c_X4_copies l D cI cR h a ρ (sv + 1) wv nw b ln at0 wd hh 0 (sv + 1) (by omega) (by omega) sz) ⟨rfl, rfl, Nat.le_of_ble_eq_true rfl, Nat.le_of_ble_eq_true rfl⟩ hP hD hS hA hK 4 rfl rfl rfl rfl rfl rfl rfl (by decide) rfl rfl rfl hl rfl (Nat.le_of_ble_eq_true rfl) dX4_saves_67 ⟨Nat.zero_le _, Nat.zero_le _⟩ (fun H locs hP hD hS => ?_)
    refine W.eq (g2 := F0 m 70 ls []) rfl ?_
    have e1 : svR ρ sv = va_up ρ (sv + 1) (ρ 0) := by unfold svR; rw [if_neg h5]
    have e2 : kpN sv = sv + 1 := by unfold kpN; rw [if_neg h5]
    have hP : va_P D vwCl (wMd h a cI (rwF (svR ρ sv)) (kpN sv) (nF wv) (nF nw) (nF b) ln at0 wd hh) H := by rw [e1, e2]; exact hP
    have hD : va_D A (wMd h a cI (rwF (svR ρ sv)) (kpN sv) (nF wv) (nF nw) (nF b) ln at0 wd hh) := by rw [e1, e2]; exact hD
    exact mu_retv hx hb hr hlocks hP hD hS dX4_saves_70
set_option maxHeartbeats 4000000 in
set_option maxRecDepth 100000 in
theorem c_X4_begins (l : Launch) (D : va_G) (cI cR : ClassId) (h : Nat) (a : Nat → Nat) (ρ : Nat → Nat → Nat) (sv : Nat) (wv : Nat → Nat) (nw : Nat → Nat) (b : Nat → Nat) (ln : Nat) (at0 : Nat) (wd : Nat) (hh : Int64) (nr : Nat) (nb : Nat) (ns : Nat)  (h1 : nr ≤ 16) (sz : Nat) : Met l yX4_begins (wsC yX4_begins cX4_begins 5 none) (rmK 0 0) (nPreM D (nTy cI cR) [.ref h, .int (nI nr), .int (nI nb), .int (nI ns)] (wMd h a cI (rwF ρ) sv (nF wv) (nF nw) (nF b) ln at0 wd hh) sz) (QcM D none (wMd h a cI (rwF (va_up ρ 0 (bgS nr nb ns))) sv (nF wv) (nF nw) (nF b) ln at0 wd hh) (va_A (wMd h a cI (rwF ρ) sv (nF wv) (nF nw) (nF b) ln at0 wd hh) sz)) 0 0 (va_A (wMd h a cI (rwF ρ) sv (nF wv) (nF nw) (nF b) ln at0 wd hh) sz) := by
  refine met_mut (Qc := fun A => QcM D none (wMd h a cI (rwF (va_up ρ 0 (bgS nr nb ns))) sv (nF wv) (nF nw) (nF b) ln at0 wd hh) A) rfl (Nat.le_of_ble_eq_true rfl) ?_
  intro p e s m args below meth c ls A H locs hx hb hml hr hlocks hown hts hP hK hD hA hS hl
  have hl : lv_has ls 5 [(0, .ref h), (1, .int (nI nr)), (2, .int (nI nb)), (3, .int (nI ns))] := hl
  refine lv_iconst (v := nI 0) hx hb dX4_begins_0 (by decide) ?_
  refine lv_istore (lv' := [(4, .int (nI 0)), (0, .ref h), (1, .int (nI nr)), (2, .int (nI nb)), (3, .int (nI ns))]) hx hb dX4_begins_1 hl (by decide) rfl (fun ls hl => ?_)
  have L3 : ∀ (n3 i : Nat), 189 + 1 ≤ i + n3 → i ≤ 189 → ∀ (H : Heap) (locs : List Loc), va_P D vwCl (wMd h a cI (rwF (zbS ρ i)) sv (nF wv) (nF nw) (nF b) ln at0 wd hh) H → va_D A (wMd h a cI (rwF (zbS ρ i)) sv (nF wv) (nF nw) (nF b) ln at0 wd hh) → va_S A s.heap H locs → ∀ (ls : Array Slot), lv_has ls 5 [(4, .int (nI i)), (0, .ref h), (1, .int (nI nr)), (2, .int (nI nb)), (3, .int (nI ns))] → W p l e (rmK 0 0) s m args below meth c H locs 0 0 (MQ below (QcM D none (wMd h a cI (rwF (va_up ρ 0 (bgS nr nb ns))) sv (nF wv) (nF nw) (nF b) ln at0 wd hh) A) args s 0 0 A) (F0 m 3 ls []) := by
    intro n3
    induction n3 with
    | zero =>
      intro i h1_3 h2_3
      exact False.elim (by omega)
    | succ n3 ih3 =>
      intro i h1_3 h2_3  H locs hP hD hS ls hl
      refine lv_iload hx hb dX4_begins_3 (lv_at hl 0 rfl) ?_
      refine lv_sipush (v := nI 189) hx hb dX4_begins_5 (by decide) ?_
      refine nv_icmp_ge (tgt := 37) hx hb dX4_begins_8 (by decide) (by omega) (by omega) (fun q_8 => ?_) (fun q_8 => ?_)
      · have ei : i = 189 := by omega
        have eR : (rwF (zbS ρ i)) = (rwF (zbS ρ 189)) := by rw [ei]
        rw [eR] at hP hD
        have hP : va_P D vwCl (wMd h a cI (rwF (zbS ρ 189)) sv (nF wv) (nF nw) (nF b) ln at0 wd hh) H := hP
        have hD : va_D A (wMd h a cI (rwF (zbS ρ 189)) sv (nF wv) (nF nw) (nF b) ln at0 wd hh) := hD
        refine lv_aload_n hx hb dX4_begins_37 rfl (lv_at hl 1 rfl) ?_
        refine va_get (D := D) (ci := 4) (v := .ref (a 0)) (C := RX4) (T := TX4) (N := 9) hx hb hts inX4 hown hK hP 0 rfl rfl 0 (by decide) (hts _ fl_RX4_7) (fun _ h9 => h9) rfl dX4_begins_38 ?_
        refine lv_iconst (v := nI 0) hx hb dX4_begins_41 (by decide) ?_
        refine lv_iload_n hx hb dX4_begins_42 rfl (lv_at hl 2 rfl) ?_
        refine nv_iast (D := D) (ws' := (wMd h a cI (upd (rwF (zbS ρ 189)) 0 (nI (nr))) sv (nF wv) (nF nw) (nF b) ln at0 wd hh)) hx hb hK hP hD hS 1 0 rfl rfl (k := 0) (by omega) (by decide) rfl dX4_begins_43 (fun H locs hP hD hS => ?_)
        have eR : (upd (rwF (zbS ρ 189)) 0 (nI (nr))) = (rwF (rs (zbS ρ 189) 0 nr)) := upd_rw (by decide)
        rw [eR] at hP hD
        have hP : va_P D vwCl (wMd h a cI (rwF (rs (zbS ρ 189) 0 nr)) sv (nF wv) (nF nw) (nF b) ln at0 wd hh) H := hP
        have hD : va_D A (wMd h a cI (rwF (rs (zbS ρ 189) 0 nr)) sv (nF wv) (nF nw) (nF b) ln at0 wd hh) := hD
        refine lv_aload_n hx hb dX4_begins_44 rfl (lv_at hl 1 rfl) ?_
        refine va_get (D := D) (ci := 4) (v := .ref (a 0)) (C := RX4) (T := TX4) (N := 9) hx hb hts inX4 hown hK hP 0 rfl rfl 0 (by decide) (hts _ fl_RX4_7) (fun _ h9 => h9) rfl dX4_begins_45 ?_
        refine lv_iconst (v := nI 1) hx hb dX4_begins_48 (by decide) ?_
        refine lv_iload_n hx hb dX4_begins_49 rfl (lv_at hl 3 rfl) ?_
        refine nv_iast (D := D) (ws' := (wMd h a cI (upd (rwF (rs (zbS ρ 189) 0 nr)) 1 (nI (nb))) sv (nF wv) (nF nw) (nF b) ln at0 wd hh)) hx hb hK hP hD hS 1 0 rfl rfl (k := 1) (by omega) (by decide) rfl dX4_begins_50 (fun H locs hP hD hS => ?_)
        have eR : (upd (rwF (rs (zbS ρ 189) 0 nr)) 1 (nI (nb))) = (rwF (rs (rs (zbS ρ 189) 0 nr) 1 nb)) := upd_rw (by decide)
        rw [eR] at hP hD
        have hP : va_P D vwCl (wMd h a cI (rwF (rs (rs (zbS ρ 189) 0 nr) 1 nb)) sv (nF wv) (nF nw) (nF b) ln at0 wd hh) H := hP
        have hD : va_D A (wMd h a cI (rwF (rs (rs (zbS ρ 189) 0 nr) 1 nb)) sv (nF wv) (nF nw) (nF b) ln at0 wd hh) := hD
        refine lv_aload_n hx hb dX4_begins_51 rfl (lv_at hl 1 rfl) ?_
        refine va_get (D := D) (ci := 4) (v := .ref (a 0)) (C := RX4) (T := TX4) (N := 9) hx hb hts inX4 hown hK hP 0 rfl rfl 0 (by decide) (hts _ fl_RX4_7) (fun _ h9 => h9) rfl dX4_begins_52 ?_
        refine lv_iconst (v := nI 2) hx hb dX4_begins_55 (by decide) ?_
        refine lv_iload_n hx hb dX4_begins_56 rfl (lv_at hl 4 rfl) ?_
        refine nv_iast (D := D) (ws' := (wMd h a cI (upd (rwF (rs (rs (zbS ρ 189) 0 nr) 1 nb)) 2 (nI (ns))) sv (nF wv) (nF nw) (nF b) ln at0 wd hh)) hx hb hK hP hD hS 1 0 rfl rfl (k := 2) (by omega) (by decide) rfl dX4_begins_57 (fun H locs hP hD hS => ?_)
        have eR : (upd (rwF (rs (rs (zbS ρ 189) 0 nr) 1 nb)) 2 (nI (ns))) = (rwF (rs (rs (rs (zbS ρ 189) 0 nr) 1 nb) 2 ns)) := upd_rw (by decide)
        rw [eR] at hP hD
        have hP : va_P D vwCl (wMd h a cI (rwF (rs (rs (rs (zbS ρ 189) 0 nr) 1 nb) 2 ns)) sv (nF wv) (nF nw) (nF b) ln at0 wd hh) H := hP
        have hD : va_D A (wMd h a cI (rwF (rs (rs (rs (zbS ρ 189) 0 nr) 1 nb) 2 ns)) sv (nF wv) (nF nw) (nF b) ln at0 wd hh) := hD
        refine lv_iconst (v := nI 0) hx hb dX4_begins_58 (by decide) ?_
        refine lv_istore (lv' := [(4, .int (nI 0)), (0, .ref h), (1, .int (nI nr)), (2, .int (nI nb)), (3, .int (nI ns))]) hx hb dX4_begins_59 hl (by decide) rfl (fun ls hl => ?_)
        have L61 : ∀ (n61 i : Nat), nr + 1 ≤ i + n61 → i ≤ nr → ∀ (H : Heap) (locs : List Loc), va_P D vwCl (wMd h a cI (rwF (bgR ρ nr nb ns i)) sv (nF wv) (nF nw) (nF b) ln at0 wd hh) H → va_D A (wMd h a cI (rwF (bgR ρ nr nb ns i)) sv (nF wv) (nF nw) (nF b) ln at0 wd hh) → va_S A s.heap H locs → ∀ (ls : Array Slot), lv_has ls 5 [(4, .int (nI i)), (0, .ref h), (1, .int (nI nr)), (2, .int (nI nb)), (3, .int (nI ns))] → W p l e (rmK 0 0) s m args below meth c H locs 0 0 (MQ below (QcM D none (wMd h a cI (rwF (va_up ρ 0 (bgS nr nb ns))) sv (nF wv) (nF nw) (nF b) ln at0 wd hh) A) args s 0 0 A) (F0 m 61 ls []) := by
          intro n61
          induction n61 with
          | zero =>
            intro i h1_61 h2_61
            exact False.elim (by omega)
          | succ n61 ih61 =>
            intro i h1_61 h2_61  H locs hP hD hS ls hl
            refine lv_iload hx hb dX4_begins_61 (lv_at hl 0 rfl) ?_
            refine lv_iload_n hx hb dX4_begins_63 rfl (lv_at hl 2 rfl) ?_
            refine nv_icmp_ge (tgt := 84) hx hb dX4_begins_64 (by decide) (by omega) (by omega) (fun q_64 => ?_) (fun q_64 => ?_)
            · have ej : i = nr := by omega
              have eR : (rwF (bgR ρ nr nb ns i)) = (rwF (va_up ρ 0 (bgS nr nb ns))) := by rw [ej]; exact bgR_e ρ nr nb ns
              rw [eR] at hP hD
              have hP : va_P D vwCl (wMd h a cI (rwF (va_up ρ 0 (bgS nr nb ns))) sv (nF wv) (nF nw) (nF b) ln at0 wd hh) H := hP
              have hD : va_D A (wMd h a cI (rwF (va_up ρ 0 (bgS nr nb ns))) sv (nF wv) (nF nw) (nF b) ln at0 wd hh) := hD
              exact mu_retv hx hb hr hlocks hP hD hS dX4_begins_84
            · refine lv_aload_n hx hb dX4_begins_67 rfl (lv_at hl 1 rfl) ?_
              refine va_get (D := D) (ci := 4) (v := .ref (a 0)) (C := RX4) (T := TX4) (N := 9) hx hb hts inX4 hown hK hP 0 rfl rfl 0 (by decide) (hts _ fl_RX4_7) (fun _ h9 => h9) rfl dX4_begins_68 ?_
              refine lv_iconst (v := nI 3) hx hb dX4_begins_71 (by decide) ?_
              refine lv_iload hx hb dX4_begins_72 (lv_at hl 0 rfl) ?_
              refine nv_iadd hx hb dX4_begins_74 ?_
              refine lv_iload hx hb dX4_begins_75 (lv_at hl 0 rfl) ?_
              refine nv_iast (D := D) (ws' := (wMd h a cI (upd (rwF (bgR ρ nr nb ns i)) (3 + i) (nI (i))) sv (nF wv) (nF nw) (nF b) ln at0 wd hh)) hx hb hK hP hD hS 1 0 rfl rfl (k := 3 + i) (by omega) (by decide) rfl dX4_begins_77 (fun H locs hP hD hS => ?_)
              have eR : (upd (rwF (bgR ρ nr nb ns i)) (3 + i) (nI (i))) = (rwF (bgR ρ nr nb ns (i + 1))) := upd_rw (by omega)
              rw [eR] at hP hD
              have hP : va_P D vwCl (wMd h a cI (rwF (bgR ρ nr nb ns (i + 1))) sv (nF wv) (nF nw) (nF b) ln at0 wd hh) H := hP
              have hD : va_D A (wMd h a cI (rwF (bgR ρ nr nb ns (i + 1))) sv (nF wv) (nF nw) (nF b) ln at0 wd hh) := hD
              refine nv_inc (k := 0) (lv' := [(4, .int (nI (i + 1))), (0, .ref h), (1, .int (nI nr)), (2, .int (nI nb)), (3, .int (nI ns))]) hx hb dX4_begins_78 hl rfl (by decide) rfl (fun ls hl => ?_)
              refine lv_goto (tgt := 61) hx hb dX4_begins_81 (by decide) ?_
              exact ih61 (i + 1) (by omega) (by omega)  _ _ hP hD hS ls (lv_sub hl [0, 1, 2, 3, 4] rfl)
        have eR : (rwF (rs (rs (rs (zbS ρ 189) 0 nr) 1 nb) 2 ns)) = (rwF (bgR ρ nr nb ns 0)) := rfl
        rw [eR] at hP hD
        have hP : va_P D vwCl (wMd h a cI (rwF (bgR ρ nr nb ns 0)) sv (nF wv) (nF nw) (nF b) ln at0 wd hh) H := hP
        have hD : va_D A (wMd h a cI (rwF (bgR ρ nr nb ns 0)) sv (nF wv) (nF nw) (nF b) ln at0 wd hh) := hD
        exact L61 (nr + 1) 0 (by omega) (by omega)  _ _ hP hD hS ls (lv_sub hl [0, 1, 2, 3, 4] rfl)
      · refine lv_aload_n hx hb dX4_begins_11 rfl (lv_at hl 1 rfl) ?_
        refine va_get (D := D) (ci := 4) (v := .ref (a 0)) (C := RX4) (T := TX4) (N := 9) hx hb hts inX4 hown hK hP 0 rfl rfl 0 (by decide) (hts _ fl_RX4_7) (fun _ h9 => h9) rfl dX4_begins_12 ?_
        refine lv_iload hx hb dX4_begins_15 (lv_at hl 0 rfl) ?_
        refine lv_iload hx hb dX4_begins_17 (lv_at hl 0 rfl) ?_
        refine lv_sipush (v := nI 141) hx hb dX4_begins_19 (by decide) ?_
        refine nv_icmp_lt (tgt := 29) hx hb dX4_begins_22 (by decide) (by omega) (by omega) (fun q_22 => ?_) (fun q_22 => ?_)
        · refine lv_iconst (v := nI 0) hx hb dX4_begins_29 (by decide) ?_
          refine nv_iast (D := D) (ws' := (wMd h a cI (upd (rwF (zbS ρ i)) i (nI (0))) sv (nF wv) (nF nw) (nF b) ln at0 wd hh)) hx hb hK hP hD hS 1 0 rfl rfl (k := i) (by omega) (by decide) rfl dX4_begins_30 (fun H locs hP hD hS => ?_)
          have eR : (upd (rwF (zbS ρ i)) i (nI (0))) = (rwF (zbS ρ (i + 1))) := zb_lo q_22
          rw [eR] at hP hD
          have hP : va_P D vwCl (wMd h a cI (rwF (zbS ρ (i + 1))) sv (nF wv) (nF nw) (nF b) ln at0 wd hh) H := hP
          have hD : va_D A (wMd h a cI (rwF (zbS ρ (i + 1))) sv (nF wv) (nF nw) (nF b) ln at0 wd hh) := hD
          refine nv_inc (k := 0) (lv' := [(4, .int (nI (i + 1))), (0, .ref h), (1, .int (nI nr)), (2, .int (nI nb)), (3, .int (nI ns))]) hx hb dX4_begins_31 hl rfl (by decide) rfl (fun ls hl => ?_)
          refine lv_goto (tgt := 3) hx hb dX4_begins_34 (by decide) ?_
          exact ih3 (i + 1) (by omega) (by omega)  _ _ hP hD hS ls (lv_sub hl [0, 1, 2, 3, 4] rfl)
        · refine lv_iconst (v := -1) hx hb dX4_begins_25 (by decide) ?_
          refine lv_goto (tgt := 30) hx hb dX4_begins_26 (by decide) ?_
          refine nv_iast (D := D) (ws' := (wMd h a cI (upd (rwF (zbS ρ i)) i (-1)) sv (nF wv) (nF nw) (nF b) ln at0 wd hh)) hx hb hK hP hD hS 1 0 rfl rfl (k := i) (by omega) (by decide) rfl dX4_begins_30 (fun H locs hP hD hS => ?_)
          have eR : (upd (rwF (zbS ρ i)) i (-1)) = (rwF (zbS ρ (i + 1))) := zb_hi q_22 (by omega)
          rw [eR] at hP hD
          have hP : va_P D vwCl (wMd h a cI (rwF (zbS ρ (i + 1))) sv (nF wv) (nF nw) (nF b) ln at0 wd hh) H := hP
          have hD : va_D A (wMd h a cI (rwF (zbS ρ (i + 1))) sv (nF wv) (nF nw) (nF b) ln at0 wd hh) := hD
          refine nv_inc (k := 0) (lv' := [(4, .int (nI (i + 1))), (0, .ref h), (1, .int (nI nr)), (2, .int (nI nb)), (3, .int (nI ns))]) hx hb dX4_begins_31 hl rfl (by decide) rfl (fun ls hl => ?_)
          refine lv_goto (tgt := 3) hx hb dX4_begins_34 (by decide) ?_
          exact ih3 (i + 1) (by omega) (by omega)  _ _ hP hD hS ls (lv_sub hl [0, 1, 2, 3, 4] rfl)
  have eR : (rwF ρ) = (rwF (zbS ρ 0)) := zb_0 ρ
  rw [eR] at hP hD
  have hP : va_P D vwCl (wMd h a cI (rwF (zbS ρ 0)) sv (nF wv) (nF nw) (nF b) ln at0 wd hh) H := hP
  have hD : va_D A (wMd h a cI (rwF (zbS ρ 0)) sv (nF wv) (nF nw) (nF b) ln at0 wd hh) := hD
  exact L3 190 0 (by omega) (by omega)  _ _ hP hD hS ls (lv_sub hl [0, 1, 2, 3, 4] rfl)
set_option maxHeartbeats 4000000 in
set_option maxRecDepth 100000 in
theorem c_X4_weaves (l : Launch) (D : va_G) (cI cR : ClassId) (h : Nat) (a : Nat → Nat) (ρ : Nat → Nat → Nat) (sv : Nat) (wv : Nat → Nat) (nw : Nat → Nat) (b : Nat → Nat) (ln : Nat) (at0 : Nat) (wd : Nat) (hh : Int64)   (hw : wf (ρ 0)) (sz : Nat) : Met l yX4_weaves (wsC yX4_weaves cX4_weaves 2 none) (rmK 4 93) (nPreM D (nTy cI cR) [.ref h] (wMd h a cI (rwF ρ) sv (nF wv) (nF nw) (nF b) ln at0 wd hh) sz) (QcM D none (wMd h a cI (rwF ρ) sv (nF (wvG (ρ 0) wv (nW (ρ 0)))) (nF nw) (nF b) ln at0 wd hh) (va_A (wMd h a cI (rwF ρ) sv (nF wv) (nF nw) (nF b) ln at0 wd hh) sz)) 0 0 (va_A (wMd h a cI (rwF ρ) sv (nF wv) (nF nw) (nF b) ln at0 wd hh) sz) := by
  refine met_mut (Qc := fun A => QcM D none (wMd h a cI (rwF ρ) sv (nF (wvG (ρ 0) wv (nW (ρ 0)))) (nF nw) (nF b) ln at0 wd hh) A) rfl (Nat.le_of_ble_eq_true rfl) ?_
  intro p e s m args below meth c ls A H locs hx hb hml hr hlocks hown hts hP hK hD hA hS hl
  have hl : lv_has ls 2 [(0, .ref h)] := hl
  have hA41 := hw.w41
  have hA33 := hw.a33
  have hA48 := hw.a48
  obtain ⟨hR2, hR, hB1, hB, hSa, hSb, -⟩ := id hw
  have h1024 := p2_10 hB
  refine lv_iconst (v := nI 0) hx hb dX4_weaves_0 (by decide) ?_
  refine lv_istore_n (lv' := [(1, .int (nI 0)), (0, .ref h)]) hx hb dX4_weaves_1 rfl hl (by decide) rfl (fun ls hl => ?_)
  have L2 : ∀ (n2 i : Nat), nW (ρ 0) + 1 ≤ i + n2 → i ≤ nW (ρ 0) → ∀ (H : Heap) (locs : List Loc), va_P D vwCl (wMd h a cI (rwF ρ) sv (nF (wvG (ρ 0) wv i)) (nF nw) (nF b) ln at0 wd hh) H → va_D A (wMd h a cI (rwF ρ) sv (nF (wvG (ρ 0) wv i)) (nF nw) (nF b) ln at0 wd hh) → va_S A s.heap H locs → ∀ (ls : Array Slot), lv_has ls 2 [(1, .int (nI i)), (0, .ref h)] → W p l e (rmK 4 93) s m args below meth c H locs 0 0 (MQ below (QcM D none (wMd h a cI (rwF ρ) sv (nF (wvG (ρ 0) wv (nW (ρ 0)))) (nF nw) (nF b) ln at0 wd hh) A) args s 0 0 A) (F0 m 2 ls []) := by
    intro n2
    induction n2 with
    | zero =>
      intro i h1_2 h2_2
      exact False.elim (by omega)
    | succ n2 ih2 =>
      intro i h1_2 h2_2  H locs hP hD hS ls hl
      refine lv_iload_n hx hb dX4_weaves_2 rfl (lv_at hl 0 rfl) ?_
      refine lv_aload_n hx hb dX4_weaves_3 rfl (lv_at hl 1 rfl) ?_
      refine nv_callV [] [.int (nI i)] hx hb hml hown hts k_RX4_38 (c_X4_wires l D cI cR h a ρ sv ((wvG (ρ 0) wv i)) nw b ln at0 wd hh ) ⟨rfl, rfl, Nat.le_of_ble_eq_true rfl, Nat.le_of_ble_eq_true rfl⟩ hP hK 4 rfl rfl rfl rfl hl rfl (Nat.le_of_ble_eq_true rfl) dX4_weaves_4 ⟨Nat.zero_le _, Nat.zero_le _⟩ ?_
      refine nv_icmp_ge (tgt := 37) hx hb dX4_weaves_7 (by decide) (by omega) (by omega) (fun q_7 => ?_) (fun q_7 => ?_)
      · have ei : i = nW (ρ 0) := by omega
        have eR : (nF (wvG (ρ 0) wv i)) = (nF (wvG (ρ 0) wv (nW (ρ 0)))) := by rw [ei]
        rw [eR] at hP hD
        have hP : va_P D vwCl (wMd h a cI (rwF ρ) sv (nF (wvG (ρ 0) wv (nW (ρ 0)))) (nF nw) (nF b) ln at0 wd hh) H := hP
        have hD : va_D A (wMd h a cI (rwF ρ) sv (nF (wvG (ρ 0) wv (nW (ρ 0)))) (nF nw) (nF b) ln at0 wd hh) := hD
        exact mu_retv hx hb hr hlocks hP hD hS dX4_weaves_37
      · refine lv_aload_n hx hb dX4_weaves_10 rfl (lv_at hl 1 rfl) ?_
        refine va_get (D := D) (ci := 4) (v := .ref (a 1)) (C := RX4) (T := TX4) (N := 9) hx hb hts inX4 hown hK hP 0 rfl rfl 2 (by decide) (hts _ fl_RX4_13) (fun _ h9 => h9) rfl dX4_weaves_11 ?_
        refine lv_iload_n hx hb dX4_weaves_14 rfl (lv_at hl 0 rfl) ?_
        refine lv_aload_n hx hb dX4_weaves_15 rfl (lv_at hl 1 rfl) ?_
        refine lv_iload_n hx hb dX4_weaves_16 rfl (lv_at hl 0 rfl) ?_
        refine nv_callV [.int (nI i)] [.int (nI i), .ref (a 1)] hx hb hml hown hts k_RX4_59 (c_X4_right l D cI cR h a ρ sv ((wvG (ρ 0) wv i)) nw b ln at0 wd hh i hw (by omega)) ⟨rfl, rfl, Nat.le_of_ble_eq_true rfl, Nat.le_of_ble_eq_true rfl⟩ hP hK 4 rfl rfl rfl rfl hl rfl (Nat.le_of_ble_eq_true rfl) dX4_weaves_17 ⟨Nat.zero_le _, Nat.zero_le _⟩ ?_
        refine lv_aload_n hx hb dX4_weaves_20 rfl (lv_at hl 1 rfl) ?_
        refine va_get (D := D) (ci := 4) (v := .ref (a 0)) (C := RX4) (T := TX4) (N := 9) hx hb hts inX4 hown hK hP 0 rfl rfl 0 (by decide) (hts _ fl_RX4_7) (fun _ h9 => h9) rfl dX4_weaves_21 ?_
        refine lv_bipush (v := nI 100) hx hb dX4_weaves_24 (by decide) ?_
        refine lv_iload_n hx hb dX4_weaves_26 rfl (lv_at hl 0 rfl) ?_
        refine nv_iadd hx hb dX4_weaves_27 ?_
        refine nv_iald (D := D) (v := nI (ρ 0 (100 + i))) hx hb hK hP 1 0 rfl rfl (k := 100 + i) (by omega) (by decide) (rw_lo (by omega)) dX4_weaves_28 ?_
        refine nv_ixor hx hb dX4_weaves_29 ?_
        refine nv_top (wvM (ρ 0) i) (rfl) ?_
        refine nv_iast (D := D) (ws' := (wMd h a cI (rwF ρ) sv (upd (nF (wvG (ρ 0) wv i)) i (nI (wvM (ρ 0) i))) (nF nw) (nF b) ln at0 wd hh)) hx hb hK hP hD hS 2 0 rfl rfl (k := i) (by omega) (by decide) rfl dX4_weaves_30 (fun H locs hP hD hS => ?_)
        have eR : (upd (nF (wvG (ρ 0) wv i)) i (nI (wvM (ρ 0) i))) = (nF (wvG (ρ 0) wv (i + 1))) := wv_s _ _ _
        rw [eR] at hP hD
        have hP : va_P D vwCl (wMd h a cI (rwF ρ) sv (nF (wvG (ρ 0) wv (i + 1))) (nF nw) (nF b) ln at0 wd hh) H := hP
        have hD : va_D A (wMd h a cI (rwF ρ) sv (nF (wvG (ρ 0) wv (i + 1))) (nF nw) (nF b) ln at0 wd hh) := hD
        refine nv_inc (k := 0) (lv' := [(1, .int (nI (i + 1))), (0, .ref h)]) hx hb dX4_weaves_31 hl rfl (by decide) rfl (fun ls hl => ?_)
        refine lv_goto (tgt := 2) hx hb dX4_weaves_34 (by decide) ?_
        exact ih2 (i + 1) (by omega) (by omega)  _ _ hP hD hS ls (lv_sub hl [0, 1] rfl)
  have eR : (nF wv) = (nF (wvG (ρ 0) wv 0)) := wv_0 _ _
  rw [eR] at hP hD
  have hP : va_P D vwCl (wMd h a cI (rwF ρ) sv (nF (wvG (ρ 0) wv 0)) (nF nw) (nF b) ln at0 wd hh) H := hP
  have hD : va_D A (wMd h a cI (rwF ρ) sv (nF (wvG (ρ 0) wv 0)) (nF nw) (nF b) ln at0 wd hh) := hD
  exact L2 (nW (ρ 0) + 1) 0 (by omega) (by omega)  _ _ hP hD hS ls (lv_sub hl [0, 1] rfl)
set_option maxHeartbeats 4000000 in
set_option maxRecDepth 100000 in
theorem c_X4_wrongs (l : Launch) (D : va_G) (cI cR : ClassId) (h : Nat) (a : Nat → Nat) (ρ : Nat → Nat → Nat) (sv : Nat) (wv : Nat → Nat) (nw : Nat → Nat) (b : Nat → Nat) (ln : Nat) (at0 : Nat) (wd : Nat) (hh : Int64) (k : Nat)  (hw : wf (ρ 0)) (h0 : k < 4) (sz : Nat) : Met l yX4_wrongs (wsC yX4_wrongs cX4_wrongs 6 (some .int)) (rmK 5 114) (nPreM D (nTy cI cR) [.ref h, .int (nI k)] (wMd h a cI (rwF ρ) sv (nF wv) (nF nw) (nF b) ln at0 wd hh) sz) (QcM D (some (.int (nI (ct (iwB (ρ 0) k) (nA (ρ 0)))))) (wMd h a cI (rwF ρ) sv (nF (wvG (ρ 0) wv (nW (ρ 0)))) (nF nw) (nF b) ln at0 wd hh) (va_A (wMd h a cI (rwF ρ) sv (nF wv) (nF nw) (nF b) ln at0 wd hh) sz)) 0 0 (va_A (wMd h a cI (rwF ρ) sv (nF wv) (nF nw) (nF b) ln at0 wd hh) sz) := by
  refine met_mut (Qc := fun A => QcM D (some (.int (nI (ct (iwB (ρ 0) k) (nA (ρ 0)))))) (wMd h a cI (rwF ρ) sv (nF (wvG (ρ 0) wv (nW (ρ 0)))) (nF nw) (nF b) ln at0 wd hh) A) rfl (Nat.le_of_ble_eq_true rfl) ?_
  intro p e s m args below meth c ls A H locs hx hb hml hr hlocks hown hts hP hK hD hA hS hl
  have hl : lv_has ls 6 [(0, .ref h), (1, .int (nI k))] := hl
  have hA41 := hw.w41
  have hA33 := hw.a33
  have hA48 := hw.a48
  obtain ⟨hR2, hR, hB1, hB, hSa, hSb, -⟩ := id hw
  have h1024 := p2_10 hB
  refine lv_aload_n hx hb dX4_wrongs_0 rfl (lv_at hl 0 rfl) ?_
  refine mu_call (ws' := (wMd h a cI (rwF ρ) sv (nF (wvG (ρ 0) wv (nW (ρ 0)))) (nF nw) (nF b) ln at0 wd hh)) [0, 1, 2, 3, 4] [] [0, 1, 2, 3, 4] [] [] hx hb hml hown hts k_RX4_84 (fun sz => c_X4_weaves l D cI cR h a ρ sv wv nw b ln at0 wd hh hw sz) ⟨rfl, rfl, Nat.le_of_ble_eq_true rfl, Nat.le_of_ble_eq_true rfl⟩ hP hD hS hA hK 4 rfl rfl rfl rfl rfl rfl rfl (by decide) rfl rfl rfl hl rfl (Nat.le_of_ble_eq_true rfl) dX4_wrongs_1 ⟨Nat.zero_le _, Nat.zero_le _⟩ (fun H locs hP hD hS => ?_)
  refine W.eq (g2 := F0 m 4 ls []) rfl ?_
  refine lv_iconst (v := nI 0) hx hb dX4_wrongs_4 (by decide) ?_
  refine lv_istore_n (lv' := [(2, .int (nI 0)), (0, .ref h), (1, .int (nI k))]) hx hb dX4_wrongs_5 rfl hl (by decide) rfl (fun ls hl => ?_)
  refine lv_iconst (v := nI 0) hx hb dX4_wrongs_6 (by decide) ?_
  refine lv_istore_n (lv' := [(3, .int (nI 0)), (2, .int (nI 0)), (0, .ref h), (1, .int (nI k))]) hx hb dX4_wrongs_7 rfl hl (by decide) rfl (fun ls hl => ?_)
  have L8 : ∀ (n8 i : Nat), nA (ρ 0) + 1 ≤ i + n8 → i ≤ nA (ρ 0) → ∀ (H : Heap) (locs : List Loc), va_P D vwCl (wMd h a cI (rwF ρ) sv (nF (wvG (ρ 0) wv (nW (ρ 0)))) (nF nw) (nF b) ln at0 wd hh) H → va_D A (wMd h a cI (rwF ρ) sv (nF (wvG (ρ 0) wv (nW (ρ 0)))) (nF nw) (nF b) ln at0 wd hh) → va_S A s.heap H locs → ∀ (ls : Array Slot), lv_has ls 6 [(3, .int (nI i)), (2, .int (nI (ct (iwB (ρ 0) k) i))), (0, .ref h), (1, .int (nI k))] → W p l e (rmK 5 114) s m args below meth c H locs 0 0 (MQ below (QcM D (some (.int (nI (ct (iwB (ρ 0) k) (nA (ρ 0)))))) (wMd h a cI (rwF ρ) sv (nF (wvG (ρ 0) wv (nW (ρ 0)))) (nF nw) (nF b) ln at0 wd hh) A) args s 0 0 A) (F0 m 8 ls []) := by
    intro n8
    induction n8 with
    | zero =>
      intro i h1_8 h2_8
      exact False.elim (by omega)
    | succ n8 ih8 =>
      intro i h1_8 h2_8  H locs hP hD hS ls hl
      refine lv_iload_n hx hb dX4_wrongs_8 rfl (lv_at hl 0 rfl) ?_
      refine lv_aload_n hx hb dX4_wrongs_9 rfl (lv_at hl 2 rfl) ?_
      refine nv_callV [] [.int (nI i)] hx hb hml hown hts k_RX4_42 (c_X4_addresses l D cI cR h a ρ sv ((wvG (ρ 0) wv (nW (ρ 0)))) nw b ln at0 wd hh ) ⟨rfl, rfl, Nat.le_of_ble_eq_true rfl, Nat.le_of_ble_eq_true rfl⟩ hP hK 4 rfl rfl rfl rfl hl rfl (Nat.le_of_ble_eq_true rfl) dX4_wrongs_10 ⟨Nat.zero_le _, Nat.zero_le _⟩ ?_
      refine nv_icmp_ge (tgt := 131) hx hb dX4_wrongs_13 (by decide) (by omega) (by omega) (fun q_13 => ?_) (fun q_13 => ?_)
      · refine lv_iload_n hx hb dX4_wrongs_131 rfl (lv_at hl 1 rfl) ?_
        exact mu_reti hx hb hr hlocks (congrArg nI (by rw [show i = nA (ρ 0) by omega])) hP hD hS dX4_wrongs_132
      · refine lv_aload_n hx hb dX4_wrongs_16 rfl (lv_at hl 2 rfl) ?_
        refine lv_iload_n hx hb dX4_wrongs_17 rfl (lv_at hl 0 rfl) ?_
        refine nv_callV [.int (nI i)] [] hx hb hml hown hts k_RX4_96 (c_X4_reads l D cI cR h a ρ sv ((wvG (ρ 0) wv (nW (ρ 0)))) nw b ln at0 wd hh i hw (by omega) (fun w hw9 => wvG_in hw9)) ⟨rfl, rfl, Nat.le_of_ble_eq_true rfl, Nat.le_of_ble_eq_true rfl⟩ hP hK 4 rfl rfl rfl rfl hl rfl (Nat.le_of_ble_eq_true rfl) dX4_wrongs_18 ⟨Nat.zero_le _, Nat.zero_le _⟩ ?_
        refine lv_aload_n hx hb dX4_wrongs_21 rfl (lv_at hl 2 rfl) ?_
        refine va_get (D := D) (ci := 4) (v := .ref (a 0)) (C := RX4) (T := TX4) (N := 9) hx hb hts inX4 hown hK hP 0 rfl rfl 0 (by decide) (hts _ fl_RX4_7) (fun _ h9 => h9) rfl dX4_wrongs_22 ?_
        refine lv_bipush (v := nI 19) hx hb dX4_wrongs_25 (by decide) ?_
        refine lv_iload_n hx hb dX4_wrongs_27 rfl (lv_at hl 0 rfl) ?_
        refine nv_iadd hx hb dX4_wrongs_28 ?_
        have hrd := rdN_lt hw (a := i) (by omega)
        have hwd := hw.wd (a := i) (by omega)
        have hrr := rrN_lt hw i
        refine nv_iald (D := D) (v := nI (ρ 0 (19 + i))) hx hb hK hP 1 0 rfl rfl (k := 19 + i) (by omega) (by decide) (rw_lo (by omega)) dX4_wrongs_29 ?_
        have J30 : ∀ (H : Heap) (locs : List Loc), va_P D vwCl (wMd h a cI (rwF ρ) sv (nF (wvG (ρ 0) wv (nW (ρ 0)))) (nF nw) (nF b) ln at0 wd hh) H → va_D A (wMd h a cI (rwF ρ) sv (nF (wvG (ρ 0) wv (nW (ρ 0)))) (nF nw) (nF b) ln at0 wd hh) → va_S A s.heap H locs → ∀ (ls : Array Slot), lv_has ls 6 [(3, .int (nI i)), (2, .int (nI (ct (iwB (ρ 0) k) i))), (0, .ref h), (1, .int (nI k))] → W p l e (rmK 5 114) s m args below meth c H locs 0 0 (MQ below (QcM D (some (.int (nI (ct (iwB (ρ 0) k) (nA (ρ 0)))))) (wMd h a cI (rwF ρ) sv (nF (wvG (ρ 0) wv (nW (ρ 0)))) (nF nw) (nF b) ln at0 wd hh) A) args s 0 0 A) (F0 m 38 ls [.int (nI ((msB (ρ 0) i).toNat))]) := by
          intro H locs hP hD hS ls hl
          refine lv_istore (lv' := [(4, .int (nI ((msB (ρ 0) i).toNat))), (3, .int (nI i)), (2, .int (nI (ct (iwB (ρ 0) k) i))), (0, .ref h), (1, .int (nI k))]) hx hb dX4_wrongs_38 hl (by decide) rfl (fun ls hl => ?_)
          refine lv_iload_n hx hb dX4_wrongs_40 rfl (lv_at hl 4 rfl) ?_
          have J41 : ∀ (H : Heap) (locs : List Loc), va_P D vwCl (wMd h a cI (rwF ρ) sv (nF (wvG (ρ 0) wv (nW (ρ 0)))) (nF nw) (nF b) ln at0 wd hh) H → va_D A (wMd h a cI (rwF ρ) sv (nF (wvG (ρ 0) wv (nW (ρ 0)))) (nF nw) (nF b) ln at0 wd hh) → va_S A s.heap H locs → ∀ (ls : Array Slot), lv_has ls 6 [(3, .int (nI i)), (2, .int (nI (ct (iwB (ρ 0) k) i))), (0, .ref h), (1, .int (nI k))] → W p l e (rmK 5 114) s m args below meth c H locs 0 0 (MQ below (QcM D (some (.int (nI (ct (iwB (ρ 0) k) (nA (ρ 0)))))) (wMd h a cI (rwF ρ) sv (nF (wvG (ρ 0) wv (nW (ρ 0)))) (nF nw) (nF b) ln at0 wd hh) A) args s 0 0 A) (F0 m 110 ls [.int (zB (iwB (ρ 0) k i))]) := by
            intro H locs hP hD hS ls hl
            refine lv_istore (lv' := [(5, .int (zB (iwB (ρ 0) k i))), (3, .int (nI i)), (2, .int (nI (ct (iwB (ρ 0) k) i))), (0, .ref h), (1, .int (nI k))]) hx hb dX4_wrongs_110 hl (by decide) rfl (fun ls hl => ?_)
            refine lv_iload_n hx hb dX4_wrongs_112 rfl (lv_at hl 2 rfl) ?_
            refine lv_iload hx hb dX4_wrongs_113 (lv_at hl 0 rfl) ?_
            have htn := toNat_le (iwB (ρ 0) k i)
            have J115 : ∀ (H : Heap) (locs : List Loc), va_P D vwCl (wMd h a cI (rwF ρ) sv (nF (wvG (ρ 0) wv (nW (ρ 0)))) (nF nw) (nF b) ln at0 wd hh) H → va_D A (wMd h a cI (rwF ρ) sv (nF (wvG (ρ 0) wv (nW (ρ 0)))) (nF nw) (nF b) ln at0 wd hh) → va_S A s.heap H locs → ∀ (ls : Array Slot), lv_has ls 6 [(5, .int (zB (iwB (ρ 0) k i))), (3, .int (nI i)), (2, .int (nI (ct (iwB (ρ 0) k) i))), (0, .ref h), (1, .int (nI k))] → W p l e (rmK 5 114) s m args below meth c H locs 0 0 (MQ below (QcM D (some (.int (nI (ct (iwB (ρ 0) k) (nA (ρ 0)))))) (wMd h a cI (rwF ρ) sv (nF (wvG (ρ 0) wv (nW (ρ 0)))) (nF nw) (nF b) ln at0 wd hh) A) args s 0 0 A) (F0 m 123 ls [.int (nI ((iwB (ρ 0) k i).toNat)), .int (nI (ct (iwB (ρ 0) k) i))]) := by
              intro H locs hP hD hS ls hl
              refine nv_iadd hx hb dX4_wrongs_123 ?_
              refine lv_istore_n (lv' := [(2, .int (nI ((ct (iwB (ρ 0) k) i) + ((iwB (ρ 0) k i).toNat)))), (5, .int (zB (iwB (ρ 0) k i))), (3, .int (nI i)), (0, .ref h), (1, .int (nI k))]) hx hb dX4_wrongs_124 rfl hl (by decide) rfl (fun ls hl => ?_)
              refine nv_inc (k := 2) (lv' := [(3, .int (nI (i + 1))), (2, .int (nI ((ct (iwB (ρ 0) k) i) + ((iwB (ρ 0) k i).toNat)))), (5, .int (zB (iwB (ρ 0) k i))), (0, .ref h), (1, .int (nI k))]) hx hb dX4_wrongs_125 hl rfl (by decide) rfl (fun ls hl => ?_)
              refine lv_goto (tgt := 8) hx hb dX4_wrongs_128 (by decide) ?_
              exact ih8 (i + 1) (by omega) (by omega)  _ _ hP hD hS ls (lv_sub hl [0, 1, 3, 4] rfl)
            refine lv_if_eq (tgt := 122) hx hb dX4_wrongs_115 (by decide) (fun q_115 => ?_) (fun q_115 => ?_)
            · refine lv_iconst (v := nI 0) hx hb dX4_wrongs_122 (by decide) ?_
              refine nv_top ((iwB (ρ 0) k i).toNat) (by rw [zB_eq0 q_115]; rfl) ?_
              exact J115 _ _ hP hD hS ls (lv_sub hl [0, 1, 2, 3, 4] rfl)
            · refine lv_iconst (v := nI 1) hx hb dX4_wrongs_118 (by decide) ?_
              refine lv_goto (tgt := 123) hx hb dX4_wrongs_119 (by decide) ?_
              refine nv_top ((iwB (ρ 0) k i).toNat) (by rw [zB_ne0 q_115]; rfl) ?_
              exact J115 _ _ hP hD hS ls (lv_sub hl [0, 1, 2, 3, 4] rfl)
          refine nv_if_ne (tgt := 49) hx hb dX4_wrongs_41 (by decide) (by omega) (fun q_41 => ?_) (fun q_41 => ?_)
          · refine lv_iload_n hx hb dX4_wrongs_49 rfl (lv_at hl 4 rfl) ?_
            refine lv_iconst (v := nI 1) hx hb dX4_wrongs_50 (by decide) ?_
            refine nv_icmp_ne (tgt := 62) hx hb dX4_wrongs_51 (by decide) (by omega) (by omega) (fun q_51 => ?_) (fun q_51 => ?_)
            · refine lv_iload_n hx hb dX4_wrongs_62 rfl (lv_at hl 4 rfl) ?_
              refine lv_iconst (v := nI 2) hx hb dX4_wrongs_63 (by decide) ?_
              refine nv_icmp_ne (tgt := 88) hx hb dX4_wrongs_64 (by decide) (by omega) (by omega) (fun q_64 => ?_) (fun q_64 => ?_)
              · refine lv_aload_n hx hb dX4_wrongs_88 rfl (lv_at hl 3 rfl) ?_
                refine lv_iload_n hx hb dX4_wrongs_89 rfl (lv_at hl 1 rfl) ?_
                refine nv_callV [.int (nI i)] [] hx hb hml hown hts k_RX4_93 (c_X4_rawWord l D cI cR h a ρ sv ((wvG (ρ 0) wv (nW (ρ 0)))) nw b ln at0 wd hh i hw (by omega) (fun w hw9 => wvG_in hw9)) ⟨rfl, rfl, Nat.le_of_ble_eq_true rfl, Nat.le_of_ble_eq_true rfl⟩ hP hK 4 rfl rfl rfl rfl hl rfl (Nat.le_of_ble_eq_true rfl) dX4_wrongs_90 ⟨Nat.zero_le _, Nat.zero_le _⟩ ?_
                refine lv_aload_n hx hb dX4_wrongs_93 rfl (lv_at hl 3 rfl) ?_
                refine va_get (D := D) (ci := 4) (v := .ref (a 0)) (C := RX4) (T := TX4) (N := 9) hx hb hts inX4 hown hK hP 0 rfl rfl 0 (by decide) (hts _ fl_RX4_7) (fun _ h9 => h9) rfl dX4_wrongs_94 ?_
                refine lv_bipush (v := nI 19) hx hb dX4_wrongs_97 (by decide) ?_
                refine lv_iload_n hx hb dX4_wrongs_99 rfl (lv_at hl 1 rfl) ?_
                refine nv_iadd hx hb dX4_wrongs_100 ?_
                refine nv_iald (D := D) (v := nI (ρ 0 (19 + i))) hx hb hK hP 1 0 rfl rfl (k := 19 + i) (by omega) (by decide) (rw_lo (by omega)) dX4_wrongs_101 ?_
                refine nv_icmp_eq (tgt := 109) hx hb dX4_wrongs_102 (by decide) (by omega) (by omega) (fun q_102 => ?_) (fun q_102 => ?_)
                · refine lv_iconst (v := nI 0) hx hb dX4_wrongs_109 (by decide) ?_
                  refine nv_tope (zB (iwB (ρ 0) k i)) (by unfold iwB; rw [if_neg q_41, if_neg q_51, if_neg q_64]; rw [q_102]; simp; rfl) ?_
                  exact J41 _ _ hP hD hS ls (lv_sub hl [1, 2, 3, 4] rfl)
                · refine lv_iconst (v := nI 1) hx hb dX4_wrongs_105 (by decide) ?_
                  refine lv_goto (tgt := 110) hx hb dX4_wrongs_106 (by decide) ?_
                  refine nv_tope (zB (iwB (ρ 0) k i)) (by unfold iwB; rw [if_neg q_41, if_neg q_51, if_neg q_64]; rw [bne_iff_ne.mpr q_102]; rfl) ?_
                  exact J41 _ _ hP hD hS ls (lv_sub hl [1, 2, 3, 4] rfl)
              · refine lv_iload hx hb dX4_wrongs_67 (lv_at hl 0 rfl) ?_
                have htm := toNat_le (msB (ρ 0) i)
                refine nv_if_eq (tgt := 84) hx hb dX4_wrongs_69 (by decide) (by omega) (fun q_69 => ?_) (fun q_69 => ?_)
                · refine lv_iconst (v := nI 0) hx hb dX4_wrongs_84 (by decide) ?_
                  refine lv_goto (tgt := 110) hx hb dX4_wrongs_85 (by decide) ?_
                  refine nv_tope (zB (iwB (ρ 0) k i)) (by show _ = zB _; unfold iwB; rw [if_neg q_41, if_neg q_51, if_pos q_64]; cases hm : msB (ρ 0) i with | false => rfl | true => rw [hm] at q_69; exact absurd q_69 (by decide)) ?_
                  exact J41 _ _ hP hD hS ls (lv_sub hl [1, 2, 3, 4] rfl)
                · refine lv_aload_n hx hb dX4_wrongs_72 rfl (lv_at hl 3 rfl) ?_
                  refine lv_iload_n hx hb dX4_wrongs_73 rfl (lv_at hl 1 rfl) ?_
                  refine nv_callV [.int (nI i)] [] hx hb hml hown hts k_RX4_99 (c_X4_isEven l D cI cR h a ρ sv ((wvG (ρ 0) wv (nW (ρ 0)))) nw b ln at0 wd hh i hw (by omega) (fun w hw9 => wvG_in hw9)) ⟨rfl, rfl, Nat.le_of_ble_eq_true rfl, Nat.le_of_ble_eq_true rfl⟩ hP hK 4 rfl rfl rfl rfl hl rfl (Nat.le_of_ble_eq_true rfl) dX4_wrongs_74 ⟨Nat.zero_le _, Nat.zero_le _⟩ ?_
                  refine lv_if_ne (tgt := 84) hx hb dX4_wrongs_77 (by decide) (fun q_77 => ?_) (fun q_77 => ?_)
                  · refine lv_iconst (v := nI 0) hx hb dX4_wrongs_84 (by decide) ?_
                    refine lv_goto (tgt := 110) hx hb dX4_wrongs_85 (by decide) ?_
                    refine nv_tope (zB (iwB (ρ 0) k i)) (by unfold iwB; rw [if_neg q_41, if_neg q_51, if_pos q_64]; rw [show paB (ρ 0) i = false by have := zB_ne0 q_77; simpa using this]; simp; rfl) ?_
                    exact J41 _ _ hP hD hS ls (lv_sub hl [1, 2, 3, 4] rfl)
                  · refine lv_iconst (v := nI 1) hx hb dX4_wrongs_80 (by decide) ?_
                    refine lv_goto (tgt := 110) hx hb dX4_wrongs_81 (by decide) ?_
                    refine nv_tope (zB (iwB (ρ 0) k i)) (by unfold iwB; rw [if_neg q_41, if_neg q_51, if_pos q_64]; rw [show paB (ρ 0) i = true by have := zB_eq0 q_77; simpa using this, show msB (ρ 0) i = true by cases hm : msB (ρ 0) i with | true => rfl | false => rw [hm] at q_69; exact absurd rfl q_69]; rfl) ?_
                    exact J41 _ _ hP hD hS ls (lv_sub hl [1, 2, 3, 4] rfl)
            · refine lv_aload_n hx hb dX4_wrongs_54 rfl (lv_at hl 3 rfl) ?_
              refine lv_iload_n hx hb dX4_wrongs_55 rfl (lv_at hl 1 rfl) ?_
              refine nv_callV [.int (nI i)] [] hx hb hml hown hts k_RX4_99 (c_X4_isEven l D cI cR h a ρ sv ((wvG (ρ 0) wv (nW (ρ 0)))) nw b ln at0 wd hh i hw (by omega) (fun w hw9 => wvG_in hw9)) ⟨rfl, rfl, Nat.le_of_ble_eq_true rfl, Nat.le_of_ble_eq_true rfl⟩ hP hK 4 rfl rfl rfl rfl hl rfl (Nat.le_of_ble_eq_true rfl) dX4_wrongs_56 ⟨Nat.zero_le _, Nat.zero_le _⟩ ?_
              refine lv_goto (tgt := 110) hx hb dX4_wrongs_59 (by decide) ?_
              refine nv_tope (zB (iwB (ρ 0) k i)) (by congr 1; unfold iwB; rw [if_neg q_41, if_pos q_51]) ?_
              exact J41 _ _ hP hD hS ls (lv_sub hl [1, 2, 3, 4] rfl)
          · refine lv_iload hx hb dX4_wrongs_44 (lv_at hl 0 rfl) ?_
            refine lv_goto (tgt := 110) hx hb dX4_wrongs_46 (by decide) ?_
            refine nv_tope (zB (iwB (ρ 0) k i)) (by rw [← zB_nI]; congr 1; unfold iwB; rw [if_pos q_41]) ?_
            exact J41 _ _ hP hD hS ls (lv_sub hl [1, 2, 3, 4] rfl)
        refine nv_icmp_eq (tgt := 37) hx hb dX4_wrongs_30 (by decide) (by omega) (by omega) (fun q_30 => ?_) (fun q_30 => ?_)
        · refine lv_iconst (v := nI 0) hx hb dX4_wrongs_37 (by decide) ?_
          refine nv_top ((msB (ρ 0) i).toNat) (by unfold msB; rw [q_30]; simp) ?_
          exact J30 _ _ hP hD hS ls (lv_sub hl [0, 1, 2, 3] rfl)
        · refine lv_iconst (v := nI 1) hx hb dX4_wrongs_33 (by decide) ?_
          refine lv_goto (tgt := 38) hx hb dX4_wrongs_34 (by decide) ?_
          refine nv_top ((msB (ρ 0) i).toNat) (by unfold msB; rw [bne_iff_ne.mpr q_30]; rfl) ?_
          exact J30 _ _ hP hD hS ls (lv_sub hl [0, 1, 2, 3] rfl)
  exact L8 (nA (ρ 0) + 1) 0 (by omega) (by omega)  _ _ hP hD hS ls (lv_sub hl [0, 1, 2, 3] rfl)
set_option maxHeartbeats 4000000 in
set_option maxRecDepth 100000 in
theorem c_X4_isAsNow (l : Launch) (D : va_G) (cI cR : ClassId) (h : Nat) (a : Nat → Nat) (ρ : Nat → Nat → Nat) (sv : Nat) (wv : Nat → Nat) (nw : Nat → Nat) (b : Nat → Nat) (ln : Nat) (at0 : Nat) (wd : Nat) (hh : Int64)   (hw : wf (ρ 0)) (hn9 : ∀ a, a < nA (ρ 0) → nw a < 65536) : MetR l yX4_isAsNow cX4_isAsNow 3 (some .boolean) (rmK 3 69) (nPre D (nTy cI cR) [.ref h] (wMd h a cI (rwF ρ) sv (nF wv) (nF nw) (nF b) ln at0 wd hh)) (zB (asB (ρ 0) wv nw (nA (ρ 0)))) := by
  refine met_read rfl (Nat.le_of_ble_eq_true rfl) ?_
  intro p e s m args below meth c ls hx hb hml hr hlocks hown hts hP hK hl
  have hl : lv_has ls 3 [(0, .ref h)] := hl
  have hA41 := hw.w41
  have hA33 := hw.a33
  have hA48 := hw.a48
  obtain ⟨hR2, hR, hB1, hB, hS1, hS, -⟩ := id hw
  have h1024 := p2_10 hB
  refine lv_iconst (v := nI 1) hx hb dX4_isAsNow_0 (by decide) ?_
  refine lv_istore_n (lv' := [(1, .int (nI 1)), (0, .ref h)]) hx hb dX4_isAsNow_1 rfl hl (by decide) rfl (fun ls hl => ?_)
  refine lv_iconst (v := nI 0) hx hb dX4_isAsNow_2 (by decide) ?_
  refine lv_istore_n (lv' := [(2, .int (nI 0)), (1, .int (nI 1)), (0, .ref h)]) hx hb dX4_isAsNow_3 rfl hl (by decide) rfl (fun ls hl => ?_)
  have L4 : ∀ (n4 i : Nat), nA (ρ 0) + 1 ≤ i + n4 → i ≤ nA (ρ 0) → ∀ (ls : Array Slot), lv_has ls 3 [(2, .int (nI i)), (1, .int (nI ((asB (ρ 0) wv nw i).toNat))), (0, .ref h)] → W p l e (rmK 3 69) s m args below meth c s.heap [] 0 0 (MQ below (QcRead (zB (asB (ρ 0) wv nw (nA (ρ 0))))) args s 0 0 (fun _ => False)) (F0 m 4 ls []) := by
    intro n4
    induction n4 with
    | zero =>
      intro i h1_4 h2_4
      exact False.elim (by omega)
    | succ n4 ih4 =>
      intro i h1_4 h2_4  ls hl
      refine lv_iload_n hx hb dX4_isAsNow_4 rfl (lv_at hl 0 rfl) ?_
      refine lv_aload_n hx hb dX4_isAsNow_5 rfl (lv_at hl 2 rfl) ?_
      refine nv_callV [] [.int (nI i)] hx hb hml hown hts k_RX4_42 (c_X4_addresses l D cI cR h a ρ sv wv nw b ln at0 wd hh ) ⟨rfl, rfl, Nat.le_of_ble_eq_true rfl, Nat.le_of_ble_eq_true rfl⟩ hP hK 4 rfl rfl rfl rfl hl rfl (Nat.le_of_ble_eq_true rfl) dX4_isAsNow_6 ⟨Nat.zero_le _, Nat.zero_le _⟩ ?_
      refine nv_icmp_ge (tgt := 42) hx hb dX4_isAsNow_9 (by decide) (by omega) (by omega) (fun q_9 => ?_) (fun q_9 => ?_)
      · refine lv_iload_n hx hb dX4_isAsNow_42 rfl (lv_at hl 1 rfl) ?_
        exact nv_retz hx hb hr hlocks (by rw [← zB_nI]; exact zB_z _) (by rw [← zB_nI, show i = nA (ρ 0) by omega]) dX4_isAsNow_43
      · refine lv_iload_n hx hb dX4_isAsNow_12 rfl (lv_at hl 1 rfl) ?_
        have htn := toNat_le (asB (ρ 0) wv nw i)
        refine nv_if_eq (tgt := 42) hx hb dX4_isAsNow_13 (by decide) (by omega) (fun q_13 => ?_) (fun q_13 => ?_)
        · refine lv_iload_n hx hb dX4_isAsNow_42 rfl (lv_at hl 1 rfl) ?_
          exact nv_retz hx hb hr hlocks (by rw [← zB_nI]; exact zB_z _) (by rw [← zB_nI]; congr 1; exact (as_stop (by cases hq : asB (ρ 0) wv nw i with | false => rfl | true => rw [hq] at q_13; exact absurd q_13 (by decide)) (by omega)).symm ▸ (by cases hq : asB (ρ 0) wv nw i with | false => rfl | true => rw [hq] at q_13; exact absurd q_13 (by decide))) dX4_isAsNow_43
        · refine lv_aload_n hx hb dX4_isAsNow_16 rfl (lv_at hl 2 rfl) ?_
          refine lv_iload_n hx hb dX4_isAsNow_17 rfl (lv_at hl 0 rfl) ?_
          refine nv_callV [.int (nI i)] [] hx hb hml hown hts k_RX4_90 (c_X4_raw l D cI cR h a ρ sv wv nw b ln at0 wd hh i hw (by omega)) ⟨rfl, rfl, Nat.le_of_ble_eq_true rfl, Nat.le_of_ble_eq_true rfl⟩ hP hK 4 rfl rfl rfl rfl hl rfl (Nat.le_of_ble_eq_true rfl) dX4_isAsNow_18 ⟨Nat.zero_le _, Nat.zero_le _⟩ ?_
          refine lv_aload_n hx hb dX4_isAsNow_21 rfl (lv_at hl 2 rfl) ?_
          refine va_get (D := D) (ci := 4) (v := .ref (a 2)) (C := RX4) (T := TX4) (N := 9) hx hb hts inX4 hown hK hP 0 rfl rfl 3 (by decide) (hts _ fl_RX4_16) (fun _ h9 => h9) rfl dX4_isAsNow_22 ?_
          refine lv_iload_n hx hb dX4_isAsNow_25 rfl (lv_at hl 0 rfl) ?_
          refine nv_iald (D := D) (v := nI (nw i)) hx hb hK hP 3 0 rfl rfl (k := i) (by omega) (by decide) (rfl) dX4_isAsNow_26 ?_
          have hrl := rwM_lt hw wv i
          have hnl := hn9 i (by omega)
          have J27 : ∀ (ls : Array Slot), lv_has ls 3 [(2, .int (nI i)), (1, .int (nI ((asB (ρ 0) wv nw i).toNat))), (0, .ref h)] → W p l e (rmK 3 69) s m args below meth c s.heap [] 0 0 (MQ below (QcRead (zB (asB (ρ 0) wv nw (nA (ρ 0))))) args s 0 0 (fun _ => False)) (F0 m 35 ls [.int (nI ((asB (ρ 0) wv nw (i + 1)).toNat))]) := by
            intro ls hl
            refine lv_istore_n (lv' := [(1, .int (nI ((asB (ρ 0) wv nw (i + 1)).toNat))), (2, .int (nI i)), (0, .ref h)]) hx hb dX4_isAsNow_35 rfl hl (by decide) rfl (fun ls hl => ?_)
            refine nv_inc (k := 1) (lv' := [(2, .int (nI (i + 1))), (1, .int (nI ((asB (ρ 0) wv nw (i + 1)).toNat))), (0, .ref h)]) hx hb dX4_isAsNow_36 hl rfl (by decide) rfl (fun ls hl => ?_)
            refine lv_goto (tgt := 4) hx hb dX4_isAsNow_39 (by decide) ?_
            exact ih4 (i + 1) (by omega) (by omega)  ls (lv_sub hl [0, 1, 2] rfl)
          refine nv_icmp_ne (tgt := 34) hx hb dX4_isAsNow_27 (by decide) (by omega) (by omega) (fun q_27 => ?_) (fun q_27 => ?_)
          · refine lv_iconst (v := nI 0) hx hb dX4_isAsNow_34 (by decide) ?_
            refine nv_top ((asB (ρ 0) wv nw (i + 1)).toNat) (by rw [as_s, beq_eq_false_iff_ne.mpr q_27, Bool.and_false]; rfl) ?_
            exact J27 ls (lv_sub hl [0, 1, 2] rfl)
          · refine lv_iconst (v := nI 1) hx hb dX4_isAsNow_30 (by decide) ?_
            refine lv_goto (tgt := 35) hx hb dX4_isAsNow_31 (by decide) ?_
            refine nv_top ((asB (ρ 0) wv nw (i + 1)).toNat) (by rw [as_s, q_27, beq_self_eq_true, Bool.and_true]; cases hq : asB (ρ 0) wv nw i with | true => rfl | false => rw [hq] at q_13; exact absurd rfl q_13) ?_
            exact J27 ls (lv_sub hl [0, 1, 2] rfl)
  exact L4 (nA (ρ 0) + 1) 0 (by omega) (by omega)  ls (lv_sub hl [0, 1, 2] rfl)
