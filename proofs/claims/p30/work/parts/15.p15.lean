theorem c_X1_startS (l : Launch) (D : va_G) (cI cR : ClassId) (h : Nat) (a : Nat → Nat) (σ : Nat → Nat) (nr : Nat) (nb : Nat) (ns : Nat)  (hr1 : nr ≤ 16) (hs1 : 1 ≤ ns) (hs2 : ns ≤ 3) (hb1 : nb ≤ 10) (sz : Nat) : Met l yX1_start (wsC yX1_start cX1_start 5 none) (rmK 2 48) (nPreM D (nTy cI cR) [.ref h, .int (nI nr), .int (nI nb), .int (nI ns)] (wRp h a cI (σ 0) (σ 1) (σ 2) (onF σ) (wwF σ) (crF σ) (ptF σ)) sz) (QcM D none (wRp h a cI (bgS nr nb ns 0) (bgS nr nb ns 1) (bgS nr nb ns 2) (onF (bgS nr nb ns)) (wwF (bgS nr nb ns)) (crF (bgS nr nb ns)) (ptF (bgS nr nb ns))) (va_A (wRp h a cI (σ 0) (σ 1) (σ 2) (onF σ) (wwF σ) (crF σ) (ptF σ)) sz)) 0 0 (va_A (wRp h a cI (σ 0) (σ 1) (σ 2) (onF σ) (wwF σ) (crF σ) (ptF σ)) sz) := (c_X1_start l D cI cR h a (σ 0) (σ 1) (σ 2) (onF σ) (wwF σ) (crF σ) (ptF σ) nr nb ns hr1 hs1 hs2 hb1 sz).to (start_to hr1 hs1)
set_option maxHeartbeats 4000000 in
set_option maxRecDepth 100000 in
theorem c_X0_isEmpty (l : Launch) (D : va_G) (cI cR : ClassId) (h : Nat) (ar : Nat) (rr : Nat → Nat) (ra : Nat → Nat → Nat) (o : Nat) (n : Nat) (τ : Nat → Nat → Nat)   (hn : n ≤ 5) : MetR l yX0_isEmpty cX0_isEmpty 1 (some .boolean) (rmK 0 0) (nPre D (nTy cI cR) [.ref h] (wHs h ar rr ra cI cR o n τ)) (zB (n == 0)) := by
  refine met_read rfl (Nat.le_of_ble_eq_true rfl) ?_
  intro p e s m args below meth c ls hx hb hml hr hlocks hown hts hP hK hl
  have hl : lv_has ls 1 [(0, .ref h)] := hl
  refine lv_aload_n hx hb dX0_isEmpty_0 rfl (lv_at hl 0 rfl) ?_
  refine va_get (D := D) (ci := 0) (v := .int (nI n)) (C := RX0) (T := TX0) (N := 3) hx hb hts inX0 hown hK hP 0 rfl rfl 2 (by decide) (hts _ fl_RX0_18) (fun _ h9 => h9) rfl dX0_isEmpty_1 ?_
  refine nv_if_ne (tgt := 11) hx hb dX0_isEmpty_4 (by decide) (by omega) (fun q_4 => ?_) (fun q_4 => ?_)
  · refine lv_iconst (v := nI 0) hx hb dX0_isEmpty_11 (by decide) ?_
    exact nv_retz hx hb hr hlocks (by decide) (by first | exact zB_1 (by simp [q_4]) | exact zB_0 (by simp [q_4])) dX0_isEmpty_12
  · refine lv_iconst (v := nI 1) hx hb dX0_isEmpty_7 (by decide) ?_
    refine lv_goto (tgt := 12) hx hb dX0_isEmpty_8 (by decide) ?_
    exact nv_retz hx hb hr hlocks (by decide) (by first | exact zB_1 (by simp [q_4]) | exact zB_0 (by simp [q_4])) dX0_isEmpty_12
set_option maxHeartbeats 4000000 in
set_option maxRecDepth 100000 in
theorem c_X0_keep (l : Launch) (D : va_G) (cI cR : ClassId) (h : Nat) (ar : Nat) (rr : Nat → Nat) (ra : Nat → Nat → Nat) (o : Nat) (n : Nat) (τ : Nat → Nat → Nat) (h2 : Nat) (a2 : Nat → Nat) (σ : Nat → Nat)   (ho : o < 5) (hn : n ≤ 5) (sz : Nat) : Met l yX0_keep (wsC yX0_keep cX0_keep 2 none) (rmK 2 61) (nPreM D (nTy cI cR) [.ref h, .ref h2] ((wHs h ar rr ra cI cR o n τ) ++ (wRp h2 a2 cI (σ 0) (σ 1) (σ 2) (onF σ) (wwF σ) (crF σ) (ptF σ))) sz) (QcM D none ((wHs h ar rr ra cI cR (kpO o n) (kpN n) ((va_up τ (kpS o n) σ))) ++ (wRp h2 a2 cI (σ 0) (σ 1) (σ 2) (onF σ) (wwF σ) (crF σ) (ptF σ))) (va_A ((wHs h ar rr ra cI cR o n τ) ++ (wRp h2 a2 cI (σ 0) (σ 1) (σ 2) (onF σ) (wwF σ) (crF σ) (ptF σ))) sz)) 0 0 (va_A ((wHs h ar rr ra cI cR o n τ) ++ (wRp h2 a2 cI (σ 0) (σ 1) (σ 2) (onF σ) (wwF σ) (crF σ) (ptF σ))) sz) := by
  refine met_mut (Qc := fun A => QcM D none ((wHs h ar rr ra cI cR (kpO o n) (kpN n) ((va_up τ (kpS o n) σ))) ++ (wRp h2 a2 cI (σ 0) (σ 1) (σ 2) (onF σ) (wwF σ) (crF σ) (ptF σ))) A) rfl (Nat.le_of_ble_eq_true rfl) ?_
  intro p e s m args below meth c ls A H locs hx hb hml hr hlocks hown hts hP hK hD hA hS hl
  have hl : lv_has ls 2 [(0, .ref h), (1, .ref h2)] := hl
  refine lv_aload_n hx hb dX0_keep_0 rfl (lv_at hl 0 rfl) ?_
  refine va_get (D := D) (ci := 0) (v := .int (nI n)) (C := RX0) (T := TX0) (N := 3) hx hb hts inX0 hown hK hP 0 rfl rfl 2 (by decide) (hts _ fl_RX0_18) (fun _ h9 => h9) rfl dX0_keep_1 ?_
  refine lv_iconst (v := nI 5) hx hb dX0_keep_4 (by decide) ?_
  refine nv_icmp_ne (tgt := 30) hx hb dX0_keep_5 (by decide) (by omega) (by omega) (fun q_5 => ?_) (fun q_5 => ?_)
  · refine lv_aload_n hx hb dX0_keep_30 rfl (lv_at hl 0 rfl) ?_
    refine va_get (D := D) (ci := 0) (v := .ref ar) (C := RX0) (T := TX0) (N := 3) hx hb hts inX0 hown hK hP 0 rfl rfl 0 (by decide) (hts _ fl_RX0_11) (fun _ h9 => h9) rfl dX0_keep_31 ?_
    refine lv_aload_n hx hb dX0_keep_34 rfl (lv_at hl 0 rfl) ?_
    refine va_get (D := D) (ci := 0) (v := .int (nI o)) (C := RX0) (T := TX0) (N := 3) hx hb hts inX0 hown hK hP 0 rfl rfl 1 (by decide) (hts _ fl_RX0_22) (fun _ h9 => h9) rfl dX0_keep_35 ?_
    refine lv_aload_n hx hb dX0_keep_38 rfl (lv_at hl 0 rfl) ?_
    refine va_get (D := D) (ci := 0) (v := .int (nI n)) (C := RX0) (T := TX0) (N := 3) hx hb hts inX0 hown hK hP 0 rfl rfl 2 (by decide) (hts _ fl_RX0_18) (fun _ h9 => h9) rfl dX0_keep_39 ?_
    refine nv_iadd hx hb dX0_keep_42 ?_
    refine lv_iconst (v := nI 5) hx hb dX0_keep_43 (by decide) ?_
    refine nv_irem hx hb dX0_keep_44 (by omega) (by omega) (by omega) ?_
    rcases (show (o + n) % 5 = 0 ∨ (o + n) % 5 = 1 ∨ (o + n) % 5 = 2 ∨ (o + n) % 5 = 3 ∨ (o + n) % 5 = 4 by omega) with hk | hk | hk | hk | hk
    · refine nv_top (0) (hk) ?_
      refine nv_aald (D := D) (r := rr 0) hx hb hK hP 1 1 rfl rfl (k := 0) (by decide) (by decide) rfl dX0_keep_45 ?_
      refine lv_aload_n hx hb dX0_keep_46 rfl (lv_at hl 1 rfl) ?_
      refine mu_call (ws' := ((wHs h ar rr ra cI cR o n ((va_up τ 0 σ))) ++ (wRp h2 a2 cI (σ 0) (σ 1) (σ 2) (onF σ) (wwF σ) (crF σ) (ptF σ)))) [2, 3, 4, 5, 6, 27, 28, 29, 30, 31] [0, 1, 7, 8, 9, 10, 11, 12, 13, 14, 15, 16, 17, 18, 19, 20, 21, 22, 23, 24, 25, 26] [0, 1, 22, 23, 24, 25, 26, 2, 3, 4, 5, 6, 7, 8, 9, 10, 11, 12, 13, 14, 15, 16, 17, 18, 19, 20, 21, 27, 28, 29, 30, 31] [.ref h2] [] hx hb hml hown hts k_RX0_25 (fun sz => c_X1_become l D cI cR (rr 0) ((ra 0)) ((((τ 0))) 0) ((((τ 0))) 1) ((((τ 0))) 2) (onF (((τ 0)))) (wwF (((τ 0)))) (crF (((τ 0)))) (ptF (((τ 0)))) h2 a2 (σ 0) (σ 1) (σ 2) (onF σ) (wwF σ) (crF σ) (ptF σ)  sz) ⟨rfl, rfl, Nat.le_of_ble_eq_true rfl, Nat.le_of_ble_eq_true rfl⟩ hP hD hS hA hK 1 rfl rfl rfl rfl rfl rfl rfl (by decide) rfl rfl rfl hl rfl (Nat.le_of_ble_eq_true rfl) dX0_keep_47 ⟨Nat.zero_le _, Nat.zero_le _⟩ (fun H locs hP hD hS => ?_)
      refine W.eq (g2 := F0 m 50 ls []) rfl ?_
      refine lv_aload_n hx hb dX0_keep_50 rfl (lv_at hl 0 rfl) ?_
      refine lv_dup hx hb dX0_keep_51 rfl ?_
      refine va_get (D := D) (ci := 0) (v := .int (nI n)) (C := RX0) (T := TX0) (N := 3) hx hb hts inX0 hown hK hP 0 rfl rfl 2 (by decide) (hts _ fl_RX0_18) (fun _ h9 => h9) rfl dX0_keep_52 ?_
      refine lv_iconst (v := nI 1) hx hb dX0_keep_55 (by decide) ?_
      refine nv_iadd hx hb dX0_keep_56 ?_
      refine va_put (D := D) (ci := 0) (v := .int (nI (n + 1))) (ty := .int) (C := RX0) (T := TX0) (N := 3) hx hb hts inX0 tyX0 tyX0_ok nmX0 hown hK hP hD hS 0 rfl rfl 2 (by decide) (hts _ fl_RX0_18) (fun _ h9 => h9) rfl (by decide +kernel) rfl rfl (Nat.le_of_ble_eq_true rfl) dX0_keep_57 (fun H locs hP hD hS => ?_)
      have hP : va_P D vwCl ((wHs h ar rr ra cI cR o (n + 1) ((va_up τ 0 σ))) ++ (wRp h2 a2 cI (σ 0) (σ 1) (σ 2) (onF σ) (wwF σ) (crF σ) (ptF σ))) H := hP
      have hD : va_D A ((wHs h ar rr ra cI cR o (n + 1) ((va_up τ 0 σ))) ++ (wRp h2 a2 cI (σ 0) (σ 1) (σ 2) (onF σ) (wwF σ) (crF σ) (ptF σ))) := hD
      have e1 : kpO o n = o := by unfold kpO; rw [if_neg q_5]
      have e2 : kpN n = n + 1 := by unfold kpN; rw [if_neg q_5]
      have e3 : kpS o n = 0 := by unfold kpS; rw [if_neg q_5]; exact hk
      have hP : va_P D vwCl ((wHs h ar rr ra cI cR (kpO o n) (kpN n) ((va_up τ (kpS o n) σ))) ++ (wRp h2 a2 cI (σ 0) (σ 1) (σ 2) (onF σ) (wwF σ) (crF σ) (ptF σ))) H := by rw [e1, e2, e3]; exact hP
      have hD : va_D A ((wHs h ar rr ra cI cR (kpO o n) (kpN n) ((va_up τ (kpS o n) σ))) ++ (wRp h2 a2 cI (σ 0) (σ 1) (σ 2) (onF σ) (wwF σ) (crF σ) (ptF σ))) := by rw [e1, e2, e3]; exact hD
      exact mu_retv hx hb hr hlocks hP hD hS dX0_keep_60
    · refine nv_top (1) (hk) ?_
      refine nv_aald (D := D) (r := rr 1) hx hb hK hP 1 1 rfl rfl (k := 1) (by decide) (by decide) rfl dX0_keep_45 ?_
      refine lv_aload_n hx hb dX0_keep_46 rfl (lv_at hl 1 rfl) ?_
      refine mu_call (ws' := ((wHs h ar rr ra cI cR o n ((va_up τ 1 σ))) ++ (wRp h2 a2 cI (σ 0) (σ 1) (σ 2) (onF σ) (wwF σ) (crF σ) (ptF σ)))) [7, 8, 9, 10, 11, 27, 28, 29, 30, 31] [0, 1, 2, 3, 4, 5, 6, 12, 13, 14, 15, 16, 17, 18, 19, 20, 21, 22, 23, 24, 25, 26] [0, 1, 2, 3, 4, 5, 6, 22, 23, 24, 25, 26, 7, 8, 9, 10, 11, 12, 13, 14, 15, 16, 17, 18, 19, 20, 21, 27, 28, 29, 30, 31] [.ref h2] [] hx hb hml hown hts k_RX0_25 (fun sz => c_X1_become l D cI cR (rr 1) ((ra 1)) ((((τ 1))) 0) ((((τ 1))) 1) ((((τ 1))) 2) (onF (((τ 1)))) (wwF (((τ 1)))) (crF (((τ 1)))) (ptF (((τ 1)))) h2 a2 (σ 0) (σ 1) (σ 2) (onF σ) (wwF σ) (crF σ) (ptF σ)  sz) ⟨rfl, rfl, Nat.le_of_ble_eq_true rfl, Nat.le_of_ble_eq_true rfl⟩ hP hD hS hA hK 1 rfl rfl rfl rfl rfl rfl rfl (by decide) rfl rfl rfl hl rfl (Nat.le_of_ble_eq_true rfl) dX0_keep_47 ⟨Nat.zero_le _, Nat.zero_le _⟩ (fun H locs hP hD hS => ?_)
      refine W.eq (g2 := F0 m 50 ls []) rfl ?_
      refine lv_aload_n hx hb dX0_keep_50 rfl (lv_at hl 0 rfl) ?_
      refine lv_dup hx hb dX0_keep_51 rfl ?_
      refine va_get (D := D) (ci := 0) (v := .int (nI n)) (C := RX0) (T := TX0) (N := 3) hx hb hts inX0 hown hK hP 0 rfl rfl 2 (by decide) (hts _ fl_RX0_18) (fun _ h9 => h9) rfl dX0_keep_52 ?_
      refine lv_iconst (v := nI 1) hx hb dX0_keep_55 (by decide) ?_
      refine nv_iadd hx hb dX0_keep_56 ?_
      refine va_put (D := D) (ci := 0) (v := .int (nI (n + 1))) (ty := .int) (C := RX0) (T := TX0) (N := 3) hx hb hts inX0 tyX0 tyX0_ok nmX0 hown hK hP hD hS 0 rfl rfl 2 (by decide) (hts _ fl_RX0_18) (fun _ h9 => h9) rfl (by decide +kernel) rfl rfl (Nat.le_of_ble_eq_true rfl) dX0_keep_57 (fun H locs hP hD hS => ?_)
      have hP : va_P D vwCl ((wHs h ar rr ra cI cR o (n + 1) ((va_up τ 1 σ))) ++ (wRp h2 a2 cI (σ 0) (σ 1) (σ 2) (onF σ) (wwF σ) (crF σ) (ptF σ))) H := hP
      have hD : va_D A ((wHs h ar rr ra cI cR o (n + 1) ((va_up τ 1 σ))) ++ (wRp h2 a2 cI (σ 0) (σ 1) (σ 2) (onF σ) (wwF σ) (crF σ) (ptF σ))) := hD
      have e1 : kpO o n = o := by unfold kpO; rw [if_neg q_5]
      have e2 : kpN n = n + 1 := by unfold kpN; rw [if_neg q_5]
      have e3 : kpS o n = 1 := by unfold kpS; rw [if_neg q_5]; exact hk
      have hP : va_P D vwCl ((wHs h ar rr ra cI cR (kpO o n) (kpN n) ((va_up τ (kpS o n) σ))) ++ (wRp h2 a2 cI (σ 0) (σ 1) (σ 2) (onF σ) (wwF σ) (crF σ) (ptF σ))) H := by rw [e1, e2, e3]; exact hP
      have hD : va_D A ((wHs h ar rr ra cI cR (kpO o n) (kpN n) ((va_up τ (kpS o n) σ))) ++ (wRp h2 a2 cI (σ 0) (σ 1) (σ 2) (onF σ) (wwF σ) (crF σ) (ptF σ))) := by rw [e1, e2, e3]; exact hD
      exact mu_retv hx hb hr hlocks hP hD hS dX0_keep_60
    · refine nv_top (2) (hk) ?_
      refine nv_aald (D := D) (r := rr 2) hx hb hK hP 1 1 rfl rfl (k := 2) (by decide) (by decide) rfl dX0_keep_45 ?_
      refine lv_aload_n hx hb dX0_keep_46 rfl (lv_at hl 1 rfl) ?_
      refine mu_call (ws' := ((wHs h ar rr ra cI cR o n ((va_up τ 2 σ))) ++ (wRp h2 a2 cI (σ 0) (σ 1) (σ 2) (onF σ) (wwF σ) (crF σ) (ptF σ)))) [12, 13, 14, 15, 16, 27, 28, 29, 30, 31] [0, 1, 2, 3, 4, 5, 6, 7, 8, 9, 10, 11, 17, 18, 19, 20, 21, 22, 23, 24, 25, 26] [0, 1, 2, 3, 4, 5, 6, 7, 8, 9, 10, 11, 22, 23, 24, 25, 26, 12, 13, 14, 15, 16, 17, 18, 19, 20, 21, 27, 28, 29, 30, 31] [.ref h2] [] hx hb hml hown hts k_RX0_25 (fun sz => c_X1_become l D cI cR (rr 2) ((ra 2)) ((((τ 2))) 0) ((((τ 2))) 1) ((((τ 2))) 2) (onF (((τ 2)))) (wwF (((τ 2)))) (crF (((τ 2)))) (ptF (((τ 2)))) h2 a2 (σ 0) (σ 1) (σ 2) (onF σ) (wwF σ) (crF σ) (ptF σ)  sz) ⟨rfl, rfl, Nat.le_of_ble_eq_true rfl, Nat.le_of_ble_eq_true rfl⟩ hP hD hS hA hK 1 rfl rfl rfl rfl rfl rfl rfl (by decide) rfl rfl rfl hl rfl (Nat.le_of_ble_eq_true rfl) dX0_keep_47 ⟨Nat.zero_le _, Nat.zero_le _⟩ (fun H locs hP hD hS => ?_)
      refine W.eq (g2 := F0 m 50 ls []) rfl ?_
      refine lv_aload_n hx hb dX0_keep_50 rfl (lv_at hl 0 rfl) ?_
      refine lv_dup hx hb dX0_keep_51 rfl ?_
      refine va_get (D := D) (ci := 0) (v := .int (nI n)) (C := RX0) (T := TX0) (N := 3) hx hb hts inX0 hown hK hP 0 rfl rfl 2 (by decide) (hts _ fl_RX0_18) (fun _ h9 => h9) rfl dX0_keep_52 ?_
      refine lv_iconst (v := nI 1) hx hb dX0_keep_55 (by decide) ?_
      refine nv_iadd hx hb dX0_keep_56 ?_
      refine va_put (D := D) (ci := 0) (v := .int (nI (n + 1))) (ty := .int) (C := RX0) (T := TX0) (N := 3) hx hb hts inX0 tyX0 tyX0_ok nmX0 hown hK hP hD hS 0 rfl rfl 2 (by decide) (hts _ fl_RX0_18) (fun _ h9 => h9) rfl (by decide +kernel) rfl rfl (Nat.le_of_ble_eq_true rfl) dX0_keep_57 (fun H locs hP hD hS => ?_)
      have hP : va_P D vwCl ((wHs h ar rr ra cI cR o (n + 1) ((va_up τ 2 σ))) ++ (wRp h2 a2 cI (σ 0) (σ 1) (σ 2) (onF σ) (wwF σ) (crF σ) (ptF σ))) H := hP
      have hD : va_D A ((wHs h ar rr ra cI cR o (n + 1) ((va_up τ 2 σ))) ++ (wRp h2 a2 cI (σ 0) (σ 1) (σ 2) (onF σ) (wwF σ) (crF σ) (ptF σ))) := hD
      have e1 : kpO o n = o := by unfold kpO; rw [if_neg q_5]
      have e2 : kpN n = n + 1 := by unfold kpN; rw [if_neg q_5]
      have e3 : kpS o n = 2 := by unfold kpS; rw [if_neg q_5]; exact hk
      have hP : va_P D vwCl ((wHs h ar rr ra cI cR (kpO o n) (kpN n) ((va_up τ (kpS o n) σ))) ++ (wRp h2 a2 cI (σ 0) (σ 1) (σ 2) (onF σ) (wwF σ) (crF σ) (ptF σ))) H := by rw [e1, e2, e3]; exact hP
      have hD : va_D A ((wHs h ar rr ra cI cR (kpO o n) (kpN n) ((va_up τ (kpS o n) σ))) ++ (wRp h2 a2 cI (σ 0) (σ 1) (σ 2) (onF σ) (wwF σ) (crF σ) (ptF σ))) := by rw [e1, e2, e3]; exact hD
      exact mu_retv hx hb hr hlocks hP hD hS dX0_keep_60
    · refine nv_top (3) (hk) ?_
      refine nv_aald (D := D) (r := rr 3) hx hb hK hP 1 1 rfl rfl (k := 3) (by decide) (by decide) rfl dX0_keep_45 ?_
      refine lv_aload_n hx hb dX0_keep_46 rfl (lv_at hl 1 rfl) ?_
      refine mu_call (ws' := ((wHs h ar rr ra cI cR o n ((va_up τ 3 σ))) ++ (wRp h2 a2 cI (σ 0) (σ 1) (σ 2) (onF σ) (wwF σ) (crF σ) (ptF σ)))) [17, 18, 19, 20, 21, 27, 28, 29, 30, 31] [0, 1, 2, 3, 4, 5, 6, 7, 8, 9, 10, 11, 12, 13, 14, 15, 16, 22, 23, 24, 25, 26] [0, 1, 2, 3, 4, 5, 6, 7, 8, 9, 10, 11, 12, 13, 14, 15, 16, 22, 23, 24, 25, 26, 17, 18, 19, 20, 21, 27, 28, 29, 30, 31] [.ref h2] [] hx hb hml hown hts k_RX0_25 (fun sz => c_X1_become l D cI cR (rr 3) ((ra 3)) ((((τ 3))) 0) ((((τ 3))) 1) ((((τ 3))) 2) (onF (((τ 3)))) (wwF (((τ 3)))) (crF (((τ 3)))) (ptF (((τ 3)))) h2 a2 (σ 0) (σ 1) (σ 2) (onF σ) (wwF σ) (crF σ) (ptF σ)  sz) ⟨rfl, rfl, Nat.le_of_ble_eq_true rfl, Nat.le_of_ble_eq_true rfl⟩ hP hD hS hA hK 1 rfl rfl rfl rfl rfl rfl rfl (by decide) rfl rfl rfl hl rfl (Nat.le_of_ble_eq_true rfl) dX0_keep_47 ⟨Nat.zero_le _, Nat.zero_le _⟩ (fun H locs hP hD hS => ?_)
      refine W.eq (g2 := F0 m 50 ls []) rfl ?_
      refine lv_aload_n hx hb dX0_keep_50 rfl (lv_at hl 0 rfl) ?_
      refine lv_dup hx hb dX0_keep_51 rfl ?_
      refine va_get (D := D) (ci := 0) (v := .int (nI n)) (C := RX0) (T := TX0) (N := 3) hx hb hts inX0 hown hK hP 0 rfl rfl 2 (by decide) (hts _ fl_RX0_18) (fun _ h9 => h9) rfl dX0_keep_52 ?_
      refine lv_iconst (v := nI 1) hx hb dX0_keep_55 (by decide) ?_
      refine nv_iadd hx hb dX0_keep_56 ?_
      refine va_put (D := D) (ci := 0) (v := .int (nI (n + 1))) (ty := .int) (C := RX0) (T := TX0) (N := 3) hx hb hts inX0 tyX0 tyX0_ok nmX0 hown hK hP hD hS 0 rfl rfl 2 (by decide) (hts _ fl_RX0_18) (fun _ h9 => h9) rfl (by decide +kernel) rfl rfl (Nat.le_of_ble_eq_true rfl) dX0_keep_57 (fun H locs hP hD hS => ?_)
      have hP : va_P D vwCl ((wHs h ar rr ra cI cR o (n + 1) ((va_up τ 3 σ))) ++ (wRp h2 a2 cI (σ 0) (σ 1) (σ 2) (onF σ) (wwF σ) (crF σ) (ptF σ))) H := hP
      have hD : va_D A ((wHs h ar rr ra cI cR o (n + 1) ((va_up τ 3 σ))) ++ (wRp h2 a2 cI (σ 0) (σ 1) (σ 2) (onF σ) (wwF σ) (crF σ) (ptF σ))) := hD
      have e1 : kpO o n = o := by unfold kpO; rw [if_neg q_5]
      have e2 : kpN n = n + 1 := by unfold kpN; rw [if_neg q_5]
      have e3 : kpS o n = 3 := by unfold kpS; rw [if_neg q_5]; exact hk
      have hP : va_P D vwCl ((wHs h ar rr ra cI cR (kpO o n) (kpN n) ((va_up τ (kpS o n) σ))) ++ (wRp h2 a2 cI (σ 0) (σ 1) (σ 2) (onF σ) (wwF σ) (crF σ) (ptF σ))) H := by rw [e1, e2, e3]; exact hP
      have hD : va_D A ((wHs h ar rr ra cI cR (kpO o n) (kpN n) ((va_up τ (kpS o n) σ))) ++ (wRp h2 a2 cI (σ 0) (σ 1) (σ 2) (onF σ) (wwF σ) (crF σ) (ptF σ))) := by rw [e1, e2, e3]; exact hD
      exact mu_retv hx hb hr hlocks hP hD hS dX0_keep_60
    · refine nv_top (4) (hk) ?_
      refine nv_aald (D := D) (r := rr 4) hx hb hK hP 1 1 rfl rfl (k := 4) (by decide) (by decide) rfl dX0_keep_45 ?_
      refine lv_aload_n hx hb dX0_keep_46 rfl (lv_at hl 1 rfl) ?_
      refine mu_call (ws' := ((wHs h ar rr ra cI cR o n ((va_up τ 4 σ))) ++ (wRp h2 a2 cI (σ 0) (σ 1) (σ 2) (onF σ) (wwF σ) (crF σ) (ptF σ)))) [22, 23, 24, 25, 26, 27, 28, 29, 30, 31] [0, 1, 2, 3, 4, 5, 6, 7, 8, 9, 10, 11, 12, 13, 14, 15, 16, 17, 18, 19, 20, 21] [0, 1, 2, 3, 4, 5, 6, 7, 8, 9, 10, 11, 12, 13, 14, 15, 16, 17, 18, 19, 20, 21, 22, 23, 24, 25, 26, 27, 28, 29, 30, 31] [.ref h2] [] hx hb hml hown hts k_RX0_25 (fun sz => c_X1_become l D cI cR (rr 4) ((ra 4)) ((((τ 4))) 0) ((((τ 4))) 1) ((((τ 4))) 2) (onF (((τ 4)))) (wwF (((τ 4)))) (crF (((τ 4)))) (ptF (((τ 4)))) h2 a2 (σ 0) (σ 1) (σ 2) (onF σ) (wwF σ) (crF σ) (ptF σ)  sz) ⟨rfl, rfl, Nat.le_of_ble_eq_true rfl, Nat.le_of_ble_eq_true rfl⟩ hP hD hS hA hK 1 rfl rfl rfl rfl rfl rfl rfl (by decide) rfl rfl rfl hl rfl (Nat.le_of_ble_eq_true rfl) dX0_keep_47 ⟨Nat.zero_le _, Nat.zero_le _⟩ (fun H locs hP hD hS => ?_)
      refine W.eq (g2 := F0 m 50 ls []) rfl ?_
      refine lv_aload_n hx hb dX0_keep_50 rfl (lv_at hl 0 rfl) ?_
      refine lv_dup hx hb dX0_keep_51 rfl ?_
      refine va_get (D := D) (ci := 0) (v := .int (nI n)) (C := RX0) (T := TX0) (N := 3) hx hb hts inX0 hown hK hP 0 rfl rfl 2 (by decide) (hts _ fl_RX0_18) (fun _ h9 => h9) rfl dX0_keep_52 ?_
      refine lv_iconst (v := nI 1) hx hb dX0_keep_55 (by decide) ?_
      refine nv_iadd hx hb dX0_keep_56 ?_
      refine va_put (D := D) (ci := 0) (v := .int (nI (n + 1))) (ty := .int) (C := RX0) (T := TX0) (N := 3) hx hb hts inX0 tyX0 tyX0_ok nmX0 hown hK hP hD hS 0 rfl rfl 2 (by decide) (hts _ fl_RX0_18) (fun _ h9 => h9) rfl (by decide +kernel) rfl rfl (Nat.le_of_ble_eq_true rfl) dX0_keep_57 (fun H locs hP hD hS => ?_)
      have hP : va_P D vwCl ((wHs h ar rr ra cI cR o (n + 1) ((va_up τ 4 σ))) ++ (wRp h2 a2 cI (σ 0) (σ 1) (σ 2) (onF σ) (wwF σ) (crF σ) (ptF σ))) H := hP
      have hD : va_D A ((wHs h ar rr ra cI cR o (n + 1) ((va_up τ 4 σ))) ++ (wRp h2 a2 cI (σ 0) (σ 1) (σ 2) (onF σ) (wwF σ) (crF σ) (ptF σ))) := hD
      have e1 : kpO o n = o := by unfold kpO; rw [if_neg q_5]
      have e2 : kpN n = n + 1 := by unfold kpN; rw [if_neg q_5]
      have e3 : kpS o n = 4 := by unfold kpS; rw [if_neg q_5]; exact hk
      have hP : va_P D vwCl ((wHs h ar rr ra cI cR (kpO o n) (kpN n) ((va_up τ (kpS o n) σ))) ++ (wRp h2 a2 cI (σ 0) (σ 1) (σ 2) (onF σ) (wwF σ) (crF σ) (ptF σ))) H := by rw [e1, e2, e3]; exact hP
      have hD : va_D A ((wHs h ar rr ra cI cR (kpO o n) (kpN n) ((va_up τ (kpS o n) σ))) ++ (wRp h2 a2 cI (σ 0) (σ 1) (σ 2) (onF σ) (wwF σ) (crF σ) (ptF σ))) := by rw [e1, e2, e3]; exact hD
      exact mu_retv hx hb hr hlocks hP hD hS dX0_keep_60
  · refine lv_aload_n hx hb dX0_keep_8 rfl (lv_at hl 0 rfl) ?_
    refine lv_aload_n hx hb dX0_keep_9 rfl (lv_at hl 0 rfl) ?_
    refine va_get (D := D) (ci := 0) (v := .int (nI o)) (C := RX0) (T := TX0) (N := 3) hx hb hts inX0 hown hK hP 0 rfl rfl 1 (by decide) (hts _ fl_RX0_22) (fun _ h9 => h9) rfl dX0_keep_10 ?_
    refine lv_iconst (v := nI 1) hx hb dX0_keep_13 (by decide) ?_
    refine nv_iadd hx hb dX0_keep_14 ?_
    refine lv_iconst (v := nI 5) hx hb dX0_keep_15 (by decide) ?_
    refine nv_irem hx hb dX0_keep_16 (by omega) (by omega) (by omega) ?_
    refine va_put (D := D) (ci := 0) (v := .int (nI ((o + 1) % 5))) (ty := .int) (C := RX0) (T := TX0) (N := 3) hx hb hts inX0 tyX0 tyX0_ok nmX0 hown hK hP hD hS 0 rfl rfl 1 (by decide) (hts _ fl_RX0_22) (fun _ h9 => h9) rfl (by decide +kernel) rfl rfl (Nat.le_of_ble_eq_true rfl) dX0_keep_17 (fun H locs hP hD hS => ?_)
    have hP : va_P D vwCl ((wHs h ar rr ra cI cR ((o + 1) % 5) n τ) ++ (wRp h2 a2 cI (σ 0) (σ 1) (σ 2) (onF σ) (wwF σ) (crF σ) (ptF σ))) H := hP
    have hD : va_D A ((wHs h ar rr ra cI cR ((o + 1) % 5) n τ) ++ (wRp h2 a2 cI (σ 0) (σ 1) (σ 2) (onF σ) (wwF σ) (crF σ) (ptF σ))) := hD
    refine lv_aload_n hx hb dX0_keep_20 rfl (lv_at hl 0 rfl) ?_
    refine lv_dup hx hb dX0_keep_21 rfl ?_
    refine va_get (D := D) (ci := 0) (v := .int (nI n)) (C := RX0) (T := TX0) (N := 3) hx hb hts inX0 hown hK hP 0 rfl rfl 2 (by decide) (hts _ fl_RX0_18) (fun _ h9 => h9) rfl dX0_keep_22 ?_
    refine lv_iconst (v := nI 1) hx hb dX0_keep_25 (by decide) ?_
    refine nv_isub hx hb dX0_keep_26 (by omega) ?_
    refine va_put (D := D) (ci := 0) (v := .int (nI (n - 1))) (ty := .int) (C := RX0) (T := TX0) (N := 3) hx hb hts inX0 tyX0 tyX0_ok nmX0 hown hK hP hD hS 0 rfl rfl 2 (by decide) (hts _ fl_RX0_18) (fun _ h9 => h9) rfl (by decide +kernel) rfl rfl (Nat.le_of_ble_eq_true rfl) dX0_keep_27 (fun H locs hP hD hS => ?_)
    have hP : va_P D vwCl ((wHs h ar rr ra cI cR ((o + 1) % 5) (n - 1) τ) ++ (wRp h2 a2 cI (σ 0) (σ 1) (σ 2) (onF σ) (wwF σ) (crF σ) (ptF σ))) H := hP
    have hD : va_D A ((wHs h ar rr ra cI cR ((o + 1) % 5) (n - 1) τ) ++ (wRp h2 a2 cI (σ 0) (σ 1) (σ 2) (onF σ) (wwF σ) (crF σ) (ptF σ))) := hD
    refine lv_aload_n hx hb dX0_keep_30 rfl (lv_at hl 0 rfl) ?_
    refine va_get (D := D) (ci := 0) (v := .ref ar) (C := RX0) (T := TX0) (N := 3) hx hb hts inX0 hown hK hP 0 rfl rfl 0 (by decide) (hts _ fl_RX0_11) (fun _ h9 => h9) rfl dX0_keep_31 ?_
    refine lv_aload_n hx hb dX0_keep_34 rfl (lv_at hl 0 rfl) ?_
    refine va_get (D := D) (ci := 0) (v := .int (nI ((o + 1) % 5))) (C := RX0) (T := TX0) (N := 3) hx hb hts inX0 hown hK hP 0 rfl rfl 1 (by decide) (hts _ fl_RX0_22) (fun _ h9 => h9) rfl dX0_keep_35 ?_
    refine lv_aload_n hx hb dX0_keep_38 rfl (lv_at hl 0 rfl) ?_
    refine va_get (D := D) (ci := 0) (v := .int (nI (n - 1))) (C := RX0) (T := TX0) (N := 3) hx hb hts inX0 hown hK hP 0 rfl rfl 2 (by decide) (hts _ fl_RX0_18) (fun _ h9 => h9) rfl dX0_keep_39 ?_
    refine nv_iadd hx hb dX0_keep_42 ?_
    refine lv_iconst (v := nI 5) hx hb dX0_keep_43 (by decide) ?_
    refine nv_irem hx hb dX0_keep_44 (by omega) (by omega) (by omega) ?_
    rcases (show (((o + 1) % 5) + (n - 1)) % 5 = 0 ∨ (((o + 1) % 5) + (n - 1)) % 5 = 1 ∨ (((o + 1) % 5) + (n - 1)) % 5 = 2 ∨ (((o + 1) % 5) + (n - 1)) % 5 = 3 ∨ (((o + 1) % 5) + (n - 1)) % 5 = 4 by omega) with hk | hk | hk | hk | hk
    · refine nv_top (0) (hk) ?_
      refine nv_aald (D := D) (r := rr 0) hx hb hK hP 1 1 rfl rfl (k := 0) (by decide) (by decide) rfl dX0_keep_45 ?_
      refine lv_aload_n hx hb dX0_keep_46 rfl (lv_at hl 1 rfl) ?_
      refine mu_call (ws' := ((wHs h ar rr ra cI cR ((o + 1) % 5) (n - 1) ((va_up τ 0 σ))) ++ (wRp h2 a2 cI (σ 0) (σ 1) (σ 2) (onF σ) (wwF σ) (crF σ) (ptF σ)))) [2, 3, 4, 5, 6, 27, 28, 29, 30, 31] [0, 1, 7, 8, 9, 10, 11, 12, 13, 14, 15, 16, 17, 18, 19, 20, 21, 22, 23, 24, 25, 26] [0, 1, 22, 23, 24, 25, 26, 2, 3, 4, 5, 6, 7, 8, 9, 10, 11, 12, 13, 14, 15, 16, 17, 18, 19, 20, 21, 27, 28, 29, 30, 31] [.ref h2] [] hx hb hml hown hts k_RX0_25 (fun sz => c_X1_become l D cI cR (rr 0) ((ra 0)) ((((τ 0))) 0) ((((τ 0))) 1) ((((τ 0))) 2) (onF (((τ 0)))) (wwF (((τ 0)))) (crF (((τ 0)))) (ptF (((τ 0)))) h2 a2 (σ 0) (σ 1) (σ 2) (onF σ) (wwF σ) (crF σ) (ptF σ)  sz) ⟨rfl, rfl, Nat.le_of_ble_eq_true rfl, Nat.le_of_ble_eq_true rfl⟩ hP hD hS hA hK 1 rfl rfl rfl rfl rfl rfl rfl (by decide) rfl rfl rfl hl rfl (Nat.le_of_ble_eq_true rfl) dX0_keep_47 ⟨Nat.zero_le _, Nat.zero_le _⟩ (fun H locs hP hD hS => ?_)
      refine W.eq (g2 := F0 m 50 ls []) rfl ?_
      refine lv_aload_n hx hb dX0_keep_50 rfl (lv_at hl 0 rfl) ?_
      refine lv_dup hx hb dX0_keep_51 rfl ?_
      refine va_get (D := D) (ci := 0) (v := .int (nI (n - 1))) (C := RX0) (T := TX0) (N := 3) hx hb hts inX0 hown hK hP 0 rfl rfl 2 (by decide) (hts _ fl_RX0_18) (fun _ h9 => h9) rfl dX0_keep_52 ?_
      refine lv_iconst (v := nI 1) hx hb dX0_keep_55 (by decide) ?_
      refine nv_iadd hx hb dX0_keep_56 ?_
      refine va_put (D := D) (ci := 0) (v := .int (nI ((n - 1) + 1))) (ty := .int) (C := RX0) (T := TX0) (N := 3) hx hb hts inX0 tyX0 tyX0_ok nmX0 hown hK hP hD hS 0 rfl rfl 2 (by decide) (hts _ fl_RX0_18) (fun _ h9 => h9) rfl (by decide +kernel) rfl rfl (Nat.le_of_ble_eq_true rfl) dX0_keep_57 (fun H locs hP hD hS => ?_)
      have hP : va_P D vwCl ((wHs h ar rr ra cI cR ((o + 1) % 5) ((n - 1) + 1) ((va_up τ 0 σ))) ++ (wRp h2 a2 cI (σ 0) (σ 1) (σ 2) (onF σ) (wwF σ) (crF σ) (ptF σ))) H := hP
      have hD : va_D A ((wHs h ar rr ra cI cR ((o + 1) % 5) ((n - 1) + 1) ((va_up τ 0 σ))) ++ (wRp h2 a2 cI (σ 0) (σ 1) (σ 2) (onF σ) (wwF σ) (crF σ) (ptF σ))) := hD
      have e1 : kpO o n = (o + 1) % 5 := by unfold kpO; rw [if_pos q_5]
      have e2 : kpN n = n - 1 + 1 := by unfold kpN; rw [if_pos q_5]; omega
      have e3 : kpS o n = 0 := by unfold kpS; rw [if_pos q_5]; omega
      have hP : va_P D vwCl ((wHs h ar rr ra cI cR (kpO o n) (kpN n) ((va_up τ (kpS o n) σ))) ++ (wRp h2 a2 cI (σ 0) (σ 1) (σ 2) (onF σ) (wwF σ) (crF σ) (ptF σ))) H := by rw [e1, e2, e3]; exact hP
      have hD : va_D A ((wHs h ar rr ra cI cR (kpO o n) (kpN n) ((va_up τ (kpS o n) σ))) ++ (wRp h2 a2 cI (σ 0) (σ 1) (σ 2) (onF σ) (wwF σ) (crF σ) (ptF σ))) := by rw [e1, e2, e3]; exact hD
      exact mu_retv hx hb hr hlocks hP hD hS dX0_keep_60
    · refine nv_top (1) (hk) ?_
      refine nv_aald (D := D) (r := rr 1) hx hb hK hP 1 1 rfl rfl (k := 1) (by decide) (by decide) rfl dX0_keep_45 ?_
      refine lv_aload_n hx hb dX0_keep_46 rfl (lv_at hl 1 rfl) ?_
      refine mu_call (ws' := ((wHs h ar rr ra cI cR ((o + 1) % 5) (n - 1) ((va_up τ 1 σ))) ++ (wRp h2 a2 cI (σ 0) (σ 1) (σ 2) (onF σ) (wwF σ) (crF σ) (ptF σ)))) [7, 8, 9, 10, 11, 27, 28, 29, 30, 31] [0, 1, 2, 3, 4, 5, 6, 12, 13, 14, 15, 16, 17, 18, 19, 20, 21, 22, 23, 24, 25, 26] [0, 1, 2, 3, 4, 5, 6, 22, 23, 24, 25, 26, 7, 8, 9, 10, 11, 12, 13, 14, 15, 16, 17, 18, 19, 20, 21, 27, 28, 29, 30, 31] [.ref h2] [] hx hb hml hown hts k_RX0_25 (fun sz => c_X1_become l D cI cR (rr 1) ((ra 1)) ((((τ 1))) 0) ((((τ 1))) 1) ((((τ 1))) 2) (onF (((τ 1)))) (wwF (((τ 1)))) (crF (((τ 1)))) (ptF (((τ 1)))) h2 a2 (σ 0) (σ 1) (σ 2) (onF σ) (wwF σ) (crF σ) (ptF σ)  sz) ⟨rfl, rfl, Nat.le_of_ble_eq_true rfl, Nat.le_of_ble_eq_true rfl⟩ hP hD hS hA hK 1 rfl rfl rfl rfl rfl rfl rfl (by decide) rfl rfl rfl hl rfl (Nat.le_of_ble_eq_true rfl) dX0_keep_47 ⟨Nat.zero_le _, Nat.zero_le _⟩ (fun H locs hP hD hS => ?_)
      refine W.eq (g2 := F0 m 50 ls []) rfl ?_
      refine lv_aload_n hx hb dX0_keep_50 rfl (lv_at hl 0 rfl) ?_
      refine lv_dup hx hb dX0_keep_51 rfl ?_
      refine va_get (D := D) (ci := 0) (v := .int (nI (n - 1))) (C := RX0) (T := TX0) (N := 3) hx hb hts inX0 hown hK hP 0 rfl rfl 2 (by decide) (hts _ fl_RX0_18) (fun _ h9 => h9) rfl dX0_keep_52 ?_
      refine lv_iconst (v := nI 1) hx hb dX0_keep_55 (by decide) ?_
      refine nv_iadd hx hb dX0_keep_56 ?_
      refine va_put (D := D) (ci := 0) (v := .int (nI ((n - 1) + 1))) (ty := .int) (C := RX0) (T := TX0) (N := 3) hx hb hts inX0 tyX0 tyX0_ok nmX0 hown hK hP hD hS 0 rfl rfl 2 (by decide) (hts _ fl_RX0_18) (fun _ h9 => h9) rfl (by decide +kernel) rfl rfl (Nat.le_of_ble_eq_true rfl) dX0_keep_57 (fun H locs hP hD hS => ?_)
      have hP : va_P D vwCl ((wHs h ar rr ra cI cR ((o + 1) % 5) ((n - 1) + 1) ((va_up τ 1 σ))) ++ (wRp h2 a2 cI (σ 0) (σ 1) (σ 2) (onF σ) (wwF σ) (crF σ) (ptF σ))) H := hP
      have hD : va_D A ((wHs h ar rr ra cI cR ((o + 1) % 5) ((n - 1) + 1) ((va_up τ 1 σ))) ++ (wRp h2 a2 cI (σ 0) (σ 1) (σ 2) (onF σ) (wwF σ) (crF σ) (ptF σ))) := hD
      have e1 : kpO o n = (o + 1) % 5 := by unfold kpO; rw [if_pos q_5]
      have e2 : kpN n = n - 1 + 1 := by unfold kpN; rw [if_pos q_5]; omega
      have e3 : kpS o n = 1 := by unfold kpS; rw [if_pos q_5]; omega
      have hP : va_P D vwCl ((wHs h ar rr ra cI cR (kpO o n) (kpN n) ((va_up τ (kpS o n) σ))) ++ (wRp h2 a2 cI (σ 0) (σ 1) (σ 2) (onF σ) (wwF σ) (crF σ) (ptF σ))) H := by rw [e1, e2, e3]; exact hP
      have hD : va_D A ((wHs h ar rr ra cI cR (kpO o n) (kpN n) ((va_up τ (kpS o n) σ))) ++ (wRp h2 a2 cI (σ 0) (σ 1) (σ 2) (onF σ) (wwF σ) (crF σ) (ptF σ))) := by rw [e1, e2, e3]; exact hD
      exact mu_retv hx hb hr hlocks hP hD hS dX0_keep_60
    · refine nv_top (2) (hk) ?_
      refine nv_aald (D := D) (r := rr 2) hx hb hK hP 1 1 rfl rfl (k := 2) (by decide) (by decide) rfl dX0_keep_45 ?_
      refine lv_aload_n hx hb dX0_keep_46 rfl (lv_at hl 1 rfl) ?_
      refine mu_call (ws' := ((wHs h ar rr ra cI cR ((o + 1) % 5) (n - 1) ((va_up τ 2 σ))) ++ (wRp h2 a2 cI (σ 0) (σ 1) (σ 2) (onF σ) (wwF σ) (crF σ) (ptF σ)))) [12, 13, 14, 15, 16, 27, 28, 29, 30, 31] [0, 1, 2, 3, 4, 5, 6, 7, 8, 9, 10, 11, 17, 18, 19, 20, 21, 22, 23, 24, 25, 26] [0, 1, 2, 3, 4, 5, 6, 7, 8, 9, 10, 11, 22, 23, 24, 25, 26, 12, 13, 14, 15, 16, 17, 18, 19, 20, 21, 27, 28, 29, 30, 31] [.ref h2] [] hx hb hml hown hts k_RX0_25 (fun sz => c_X1_become l D cI cR (rr 2) ((ra 2)) ((((τ 2))) 0) ((((τ 2))) 1) ((((τ 2))) 2) (onF (((τ 2)))) (wwF (((τ 2)))) (crF (((τ 2)))) (ptF (((τ 2)))) h2 a2 (σ 0) (σ 1) (σ 2) (onF σ) (wwF σ) (crF σ) (ptF σ)  sz) ⟨rfl, rfl, Nat.le_of_ble_eq_true rfl, Nat.le_of_ble_eq_true rfl⟩ hP hD hS hA hK 1 rfl rfl rfl rfl rfl rfl rfl (by decide) rfl rfl rfl hl rfl (Nat.le_of_ble_eq_true rfl) dX0_keep_47 ⟨Nat.zero_le _, Nat.zero_le _⟩ (fun H locs hP hD hS => ?_)
      refine W.eq (g2 := F0 m 50 ls []) rfl ?_
      refine lv_aload_n hx hb dX0_keep_50 rfl (lv_at hl 0 rfl) ?_
      refine lv_dup hx hb dX0_keep_51 rfl ?_
      refine va_get (D := D) (ci := 0) (v := .int (nI (n - 1))) (C := RX0) (T := TX0) (N := 3) hx hb hts inX0 hown hK hP 0 rfl rfl 2 (by decide) (hts _ fl_RX0_18) (fun _ h9 => h9) rfl dX0_keep_52 ?_
      refine lv_iconst (v := nI 1) hx hb dX0_keep_55 (by decide) ?_
      refine nv_iadd hx hb dX0_keep_56 ?_
      refine va_put (D := D) (ci := 0) (v := .int (nI ((n - 1) + 1))) (ty := .int) (C := RX0) (T := TX0) (N := 3) hx hb hts inX0 tyX0 tyX0_ok nmX0 hown hK hP hD hS 0 rfl rfl 2 (by decide) (hts _ fl_RX0_18) (fun _ h9 => h9) rfl (by decide +kernel) rfl rfl (Nat.le_of_ble_eq_true rfl) dX0_keep_57 (fun H locs hP hD hS => ?_)
      have hP : va_P D vwCl ((wHs h ar rr ra cI cR ((o + 1) % 5) ((n - 1) + 1) ((va_up τ 2 σ))) ++ (wRp h2 a2 cI (σ 0) (σ 1) (σ 2) (onF σ) (wwF σ) (crF σ) (ptF σ))) H := hP
      have hD : va_D A ((wHs h ar rr ra cI cR ((o + 1) % 5) ((n - 1) + 1) ((va_up τ 2 σ))) ++ (wRp h2 a2 cI (σ 0) (σ 1) (σ 2) (onF σ) (wwF σ) (crF σ) (ptF σ))) := hD
      have e1 : kpO o n = (o + 1) % 5 := by unfold kpO; rw [if_pos q_5]
      have e2 : kpN n = n - 1 + 1 := by unfold kpN; rw [if_pos q_5]; omega
      have e3 : kpS o n = 2 := by unfold kpS; rw [if_pos q_5]; omega
      have hP : va_P D vwCl ((wHs h ar rr ra cI cR (kpO o n) (kpN n) ((va_up τ (kpS o n) σ))) ++ (wRp h2 a2 cI (σ 0) (σ 1) (σ 2) (onF σ) (wwF σ) (crF σ) (ptF σ))) H := by rw [e1, e2, e3]; exact hP
      have hD : va_D A ((wHs h ar rr ra cI cR (kpO o n) (kpN n) ((va_up τ (kpS o n) σ))) ++ (wRp h2 a2 cI (σ 0) (σ 1) (σ 2) (onF σ) (wwF σ) (crF σ) (ptF σ))) := by rw [e1, e2, e3]; exact hD
      exact mu_retv hx hb hr hlocks hP hD hS dX0_keep_60
    · refine nv_top (3) (hk) ?_
      refine nv_aald (D := D) (r := rr 3) hx hb hK hP 1 1 rfl rfl (k := 3) (by decide) (by decide) rfl dX0_keep_45 ?_
      refine lv_aload_n hx hb dX0_keep_46 rfl (lv_at hl 1 rfl) ?_
      refine mu_call (ws' := ((wHs h ar rr ra cI cR ((o + 1) % 5) (n - 1) ((va_up τ 3 σ))) ++ (wRp h2 a2 cI (σ 0) (σ 1) (σ 2) (onF σ) (wwF σ) (crF σ) (ptF σ)))) [17, 18, 19, 20, 21, 27, 28, 29, 30, 31] [0, 1, 2, 3, 4, 5, 6, 7, 8, 9, 10, 11, 12, 13, 14, 15, 16, 22, 23, 24, 25, 26] [0, 1, 2, 3, 4, 5, 6, 7, 8, 9, 10, 11, 12, 13, 14, 15, 16, 22, 23, 24, 25, 26, 17, 18, 19, 20, 21, 27, 28, 29, 30, 31] [.ref h2] [] hx hb hml hown hts k_RX0_25 (fun sz => c_X1_become l D cI cR (rr 3) ((ra 3)) ((((τ 3))) 0) ((((τ 3))) 1) ((((τ 3))) 2) (onF (((τ 3)))) (wwF (((τ 3)))) (crF (((τ 3)))) (ptF (((τ 3)))) h2 a2 (σ 0) (σ 1) (σ 2) (onF σ) (wwF σ) (crF σ) (ptF σ)  sz) ⟨rfl, rfl, Nat.le_of_ble_eq_true rfl, Nat.le_of_ble_eq_true rfl⟩ hP hD hS hA hK 1 rfl rfl rfl rfl rfl rfl rfl (by decide) rfl rfl rfl hl rfl (Nat.le_of_ble_eq_true rfl) dX0_keep_47 ⟨Nat.zero_le _, Nat.zero_le _⟩ (fun H locs hP hD hS => ?_)
      refine W.eq (g2 := F0 m 50 ls []) rfl ?_
      refine lv_aload_n hx hb dX0_keep_50 rfl (lv_at hl 0 rfl) ?_
      refine lv_dup hx hb dX0_keep_51 rfl ?_
      refine va_get (D := D) (ci := 0) (v := .int (nI (n - 1))) (C := RX0) (T := TX0) (N := 3) hx hb hts inX0 hown hK hP 0 rfl rfl 2 (by decide) (hts _ fl_RX0_18) (fun _ h9 => h9) rfl dX0_keep_52 ?_
      refine lv_iconst (v := nI 1) hx hb dX0_keep_55 (by decide) ?_
      refine nv_iadd hx hb dX0_keep_56 ?_
      refine va_put (D := D) (ci := 0) (v := .int (nI ((n - 1) + 1))) (ty := .int) (C := RX0) (T := TX0) (N := 3) hx hb hts inX0 tyX0 tyX0_ok nmX0 hown hK hP hD hS 0 rfl rfl 2 (by decide) (hts _ fl_RX0_18) (fun _ h9 => h9) rfl (by decide +kernel) rfl rfl (Nat.le_of_ble_eq_true rfl) dX0_keep_57 (fun H locs hP hD hS => ?_)
      have hP : va_P D vwCl ((wHs h ar rr ra cI cR ((o + 1) % 5) ((n - 1) + 1) ((va_up τ 3 σ))) ++ (wRp h2 a2 cI (σ 0) (σ 1) (σ 2) (onF σ) (wwF σ) (crF σ) (ptF σ))) H := hP
      have hD : va_D A ((wHs h ar rr ra cI cR ((o + 1) % 5) ((n - 1) + 1) ((va_up τ 3 σ))) ++ (wRp h2 a2 cI (σ 0) (σ 1) (σ 2) (onF σ) (wwF σ) (crF σ) (ptF σ))) := hD
      have e1 : kpO o n = (o + 1) % 5 := by unfold kpO; rw [if_pos q_5]
      have e2 : kpN n = n - 1 + 1 := by unfold kpN; rw [if_pos q_5]; omega
      have e3 : kpS o n = 3 := by unfold kpS; rw [if_pos q_5]; omega
      have hP : va_P D vwCl ((wHs h ar rr ra cI cR (kpO o n) (kpN n) ((va_up τ (kpS o n) σ))) ++ (wRp h2 a2 cI (σ 0) (σ 1) (σ 2) (onF σ) (wwF σ) (crF σ) (ptF σ))) H := by rw [e1, e2, e3]; exact hP
      have hD : va_D A ((wHs h ar rr ra cI cR (kpO o n) (kpN n) ((va_up τ (kpS o n) σ))) ++ (wRp h2 a2 cI (σ 0) (σ 1) (σ 2) (onF σ) (wwF σ) (crF σ) (ptF σ))) := by rw [e1, e2, e3]; exact hD
      exact mu_retv hx hb hr hlocks hP hD hS dX0_keep_60
    · refine nv_top (4) (hk) ?_
      refine nv_aald (D := D) (r := rr 4) hx hb hK hP 1 1 rfl rfl (k := 4) (by decide) (by decide) rfl dX0_keep_45 ?_
      refine lv_aload_n hx hb dX0_keep_46 rfl (lv_at hl 1 rfl) ?_
      refine mu_call (ws' := ((wHs h ar rr ra cI cR ((o + 1) % 5) (n - 1) ((va_up τ 4 σ))) ++ (wRp h2 a2 cI (σ 0) (σ 1) (σ 2) (onF σ) (wwF σ) (crF σ) (ptF σ)))) [22, 23, 24, 25, 26, 27, 28, 29, 30, 31] [0, 1, 2, 3, 4, 5, 6, 7, 8, 9, 10, 11, 12, 13, 14, 15, 16, 17, 18, 19, 20, 21] [0, 1, 2, 3, 4, 5, 6, 7, 8, 9, 10, 11, 12, 13, 14, 15, 16, 17, 18, 19, 20, 21, 22, 23, 24, 25, 26, 27, 28, 29, 30, 31] [.ref h2] [] hx hb hml hown hts k_RX0_25 (fun sz => c_X1_become l D cI cR (rr 4) ((ra 4)) ((((τ 4))) 0) ((((τ 4))) 1) ((((τ 4))) 2) (onF (((τ 4)))) (wwF (((τ 4)))) (crF (((τ 4)))) (ptF (((τ 4)))) h2 a2 (σ 0) (σ 1) (σ 2) (onF σ) (wwF σ) (crF σ) (ptF σ)  sz) ⟨rfl, rfl, Nat.le_of_ble_eq_true rfl, Nat.le_of_ble_eq_true rfl⟩ hP hD hS hA hK 1 rfl rfl rfl rfl rfl rfl rfl (by decide) rfl rfl rfl hl rfl (Nat.le_of_ble_eq_true rfl) dX0_keep_47 ⟨Nat.zero_le _, Nat.zero_le _⟩ (fun H locs hP hD hS => ?_)
      refine W.eq (g2 := F0 m 50 ls []) rfl ?_
      refine lv_aload_n hx hb dX0_keep_50 rfl (lv_at hl 0 rfl) ?_
      refine lv_dup hx hb dX0_keep_51 rfl ?_
      refine va_get (D := D) (ci := 0) (v := .int (nI (n - 1))) (C := RX0) (T := TX0) (N := 3) hx hb hts inX0 hown hK hP 0 rfl rfl 2 (by decide) (hts _ fl_RX0_18) (fun _ h9 => h9) rfl dX0_keep_52 ?_
      refine lv_iconst (v := nI 1) hx hb dX0_keep_55 (by decide) ?_
      refine nv_iadd hx hb dX0_keep_56 ?_
      refine va_put (D := D) (ci := 0) (v := .int (nI ((n - 1) + 1))) (ty := .int) (C := RX0) (T := TX0) (N := 3) hx hb hts inX0 tyX0 tyX0_ok nmX0 hown hK hP hD hS 0 rfl rfl 2 (by decide) (hts _ fl_RX0_18) (fun _ h9 => h9) rfl (by decide +kernel) rfl rfl (Nat.le_of_ble_eq_true rfl) dX0_keep_57 (fun H locs hP hD hS => ?_)
      have hP : va_P D vwCl ((wHs h ar rr ra cI cR ((o + 1) % 5) ((n - 1) + 1) ((va_up τ 4 σ))) ++ (wRp h2 a2 cI (σ 0) (σ 1) (σ 2) (onF σ) (wwF σ) (crF σ) (ptF σ))) H := hP
      have hD : va_D A ((wHs h ar rr ra cI cR ((o + 1) % 5) ((n - 1) + 1) ((va_up τ 4 σ))) ++ (wRp h2 a2 cI (σ 0) (σ 1) (σ 2) (onF σ) (wwF σ) (crF σ) (ptF σ))) := hD
      have e1 : kpO o n = (o + 1) % 5 := by unfold kpO; rw [if_pos q_5]
      have e2 : kpN n = n - 1 + 1 := by unfold kpN; rw [if_pos q_5]; omega
      have e3 : kpS o n = 4 := by unfold kpS; rw [if_pos q_5]; omega
      have hP : va_P D vwCl ((wHs h ar rr ra cI cR (kpO o n) (kpN n) ((va_up τ (kpS o n) σ))) ++ (wRp h2 a2 cI (σ 0) (σ 1) (σ 2) (onF σ) (wwF σ) (crF σ) (ptF σ))) H := by rw [e1, e2, e3]; exact hP
      have hD : va_D A ((wHs h ar rr ra cI cR (kpO o n) (kpN n) ((va_up τ (kpS o n) σ))) ++ (wRp h2 a2 cI (σ 0) (σ 1) (σ 2) (onF σ) (wwF σ) (crF σ) (ptF σ))) := by rw [e1, e2, e3]; exact hD
      exact mu_retv hx hb hr hlocks hP hD hS dX0_keep_60
set_option maxHeartbeats 4000000 in
set_option maxRecDepth 100000 in
theorem c_X0_restore (l : Launch) (D : va_G) (cI cR : ClassId) (h : Nat) (ar : Nat) (rr : Nat → Nat) (ra : Nat → Nat → Nat) (o : Nat) (n : Nat) (τ : Nat → Nat → Nat) (h2 : Nat) (a2 : Nat → Nat) (σ : Nat → Nat)   (ho : o < 5) (hn1 : 1 ≤ n) (hn : n ≤ 5) (sz : Nat) : Met l yX0_restore (wsC yX0_restore cX0_restore 2 (some .int)) (rmK 2 61) (nPreM D (nTy cI cR) [.ref h, .ref h2] ((wHs h ar rr ra cI cR o n τ) ++ (wRp h2 a2 cI (σ 0) (σ 1) (σ 2) (onF σ) (wwF σ) (crF σ) (ptF σ))) sz) (QcM D (some (.int (nI (n - 1)))) ((wHs h ar rr ra cI cR o (n - 1) τ) ++ (wRp h2 a2 cI ((τ ((o + (n - 1)) % 5)) 0) ((τ ((o + (n - 1)) % 5)) 1) ((τ ((o + (n - 1)) % 5)) 2) (onF ((τ ((o + (n - 1)) % 5)))) (wwF ((τ ((o + (n - 1)) % 5)))) (crF ((τ ((o + (n - 1)) % 5)))) (ptF ((τ ((o + (n - 1)) % 5)))))) (va_A ((wHs h ar rr ra cI cR o n τ) ++ (wRp h2 a2 cI (σ 0) (σ 1) (σ 2) (onF σ) (wwF σ) (crF σ) (ptF σ))) sz)) 0 0 (va_A ((wHs h ar rr ra cI cR o n τ) ++ (wRp h2 a2 cI (σ 0) (σ 1) (σ 2) (onF σ) (wwF σ) (crF σ) (ptF σ))) sz) := by
  refine met_mut (Qc := fun A => QcM D (some (.int (nI (n - 1)))) ((wHs h ar rr ra cI cR o (n - 1) τ) ++ (wRp h2 a2 cI ((τ ((o + (n - 1)) % 5)) 0) ((τ ((o + (n - 1)) % 5)) 1) ((τ ((o + (n - 1)) % 5)) 2) (onF ((τ ((o + (n - 1)) % 5)))) (wwF ((τ ((o + (n - 1)) % 5)))) (crF ((τ ((o + (n - 1)) % 5)))) (ptF ((τ ((o + (n - 1)) % 5)))))) A) rfl (Nat.le_of_ble_eq_true rfl) ?_
  intro p e s m args below meth c ls A H locs hx hb hml hr hlocks hown hts hP hK hD hA hS hl
  have hl : lv_has ls 2 [(0, .ref h), (1, .ref h2)] := hl
  refine lv_aload_n hx hb dX0_restore_0 rfl (lv_at hl 0 rfl) ?_
  refine lv_dup hx hb dX0_restore_1 rfl ?_
  refine va_get (D := D) (ci := 0) (v := .int (nI n)) (C := RX0) (T := TX0) (N := 3) hx hb hts inX0 hown hK hP 0 rfl rfl 2 (by decide) (hts _ fl_RX0_18) (fun _ h9 => h9) rfl dX0_restore_2 ?_
  refine lv_iconst (v := nI 1) hx hb dX0_restore_5 (by decide) ?_
  refine nv_isub hx hb dX0_restore_6 hn1 ?_
  refine va_put (D := D) (ci := 0) (v := .int (nI (n - 1))) (ty := .int) (C := RX0) (T := TX0) (N := 3) hx hb hts inX0 tyX0 tyX0_ok nmX0 hown hK hP hD hS 0 rfl rfl 2 (by decide) (hts _ fl_RX0_18) (fun _ h9 => h9) rfl (by decide +kernel) rfl rfl (Nat.le_of_ble_eq_true rfl) dX0_restore_7 (fun H locs hP hD hS => ?_)
  have hP : va_P D vwCl ((wHs h ar rr ra cI cR o (n - 1) τ) ++ (wRp h2 a2 cI (σ 0) (σ 1) (σ 2) (onF σ) (wwF σ) (crF σ) (ptF σ))) H := hP
  have hD : va_D A ((wHs h ar rr ra cI cR o (n - 1) τ) ++ (wRp h2 a2 cI (σ 0) (σ 1) (σ 2) (onF σ) (wwF σ) (crF σ) (ptF σ))) := hD
  refine lv_aload_n hx hb dX0_restore_10 rfl (lv_at hl 1 rfl) ?_
  refine lv_aload_n hx hb dX0_restore_11 rfl (lv_at hl 0 rfl) ?_
  refine va_get (D := D) (ci := 0) (v := .ref ar) (C := RX0) (T := TX0) (N := 3) hx hb hts inX0 hown hK hP 0 rfl rfl 0 (by decide) (hts _ fl_RX0_11) (fun _ h9 => h9) rfl dX0_restore_12 ?_
  refine lv_aload_n hx hb dX0_restore_15 rfl (lv_at hl 0 rfl) ?_
  refine va_get (D := D) (ci := 0) (v := .int (nI o)) (C := RX0) (T := TX0) (N := 3) hx hb hts inX0 hown hK hP 0 rfl rfl 1 (by decide) (hts _ fl_RX0_22) (fun _ h9 => h9) rfl dX0_restore_16 ?_
  refine lv_aload_n hx hb dX0_restore_19 rfl (lv_at hl 0 rfl) ?_
  refine va_get (D := D) (ci := 0) (v := .int (nI (n - 1))) (C := RX0) (T := TX0) (N := 3) hx hb hts inX0 hown hK hP 0 rfl rfl 2 (by decide) (hts _ fl_RX0_18) (fun _ h9 => h9) rfl dX0_restore_20 ?_
  refine nv_iadd hx hb dX0_restore_23 ?_
  refine lv_iconst (v := nI 5) hx hb dX0_restore_24 (by decide) ?_
  refine nv_irem hx hb dX0_restore_25 (by omega) (by omega) (by omega) ?_
  rcases (show (o + (n - 1)) % 5 = 0 ∨ (o + (n - 1)) % 5 = 1 ∨ (o + (n - 1)) % 5 = 2 ∨ (o + (n - 1)) % 5 = 3 ∨ (o + (n - 1)) % 5 = 4 by omega) with hk | hk | hk | hk | hk
  · refine nv_top (0) (hk) ?_
    refine nv_aald (D := D) (r := rr 0) hx hb hK hP 1 1 rfl rfl (k := 0) (by decide) (by decide) rfl dX0_restore_26 ?_
    refine mu_call (ws' := ((wHs h ar rr ra cI cR o (n - 1) τ) ++ (wRp h2 a2 cI ((((τ 0))) 0) ((((τ 0))) 1) ((((τ 0))) 2) (onF (((τ 0)))) (wwF (((τ 0)))) (crF (((τ 0)))) (ptF (((τ 0))))))) [27, 28, 29, 30, 31, 2, 3, 4, 5, 6] [0, 1, 7, 8, 9, 10, 11, 12, 13, 14, 15, 16, 17, 18, 19, 20, 21, 22, 23, 24, 25, 26] [0, 1, 27, 28, 29, 30, 31, 2, 3, 4, 5, 6, 7, 8, 9, 10, 11, 12, 13, 14, 15, 16, 17, 18, 19, 20, 21, 22, 23, 24, 25, 26] [.ref (rr 0)] [] hx hb hml hown hts k_RX0_25 (fun sz => c_X1_become l D cI cR h2 a2 (σ 0) (σ 1) (σ 2) (onF σ) (wwF σ) (crF σ) (ptF σ) (rr 0) ((ra 0)) ((((τ 0))) 0) ((((τ 0))) 1) ((((τ 0))) 2) (onF (((τ 0)))) (wwF (((τ 0)))) (crF (((τ 0)))) (ptF (((τ 0))))  sz) ⟨rfl, rfl, Nat.le_of_ble_eq_true rfl, Nat.le_of_ble_eq_true rfl⟩ hP hD hS hA hK 1 rfl rfl rfl rfl rfl rfl rfl (by decide) rfl rfl rfl hl rfl (Nat.le_of_ble_eq_true rfl) dX0_restore_27 ⟨Nat.zero_le _, Nat.zero_le _⟩ (fun H locs hP hD hS => ?_)
    refine W.eq (g2 := F0 m 30 ls []) rfl ?_
    refine lv_aload_n hx hb dX0_restore_30 rfl (lv_at hl 0 rfl) ?_
    refine va_get (D := D) (ci := 0) (v := .int (nI (n - 1))) (C := RX0) (T := TX0) (N := 3) hx hb hts inX0 hown hK hP 0 rfl rfl 2 (by decide) (hts _ fl_RX0_18) (fun _ h9 => h9) rfl dX0_restore_31 ?_
    have hP : va_P D vwCl ((wHs h ar rr ra cI cR o (n - 1) τ) ++ (wRp h2 a2 cI ((τ ((o + (n - 1)) % 5)) 0) ((τ ((o + (n - 1)) % 5)) 1) ((τ ((o + (n - 1)) % 5)) 2) (onF ((τ ((o + (n - 1)) % 5)))) (wwF ((τ ((o + (n - 1)) % 5)))) (crF ((τ ((o + (n - 1)) % 5)))) (ptF ((τ ((o + (n - 1)) % 5)))))) H := by rw [hk]; exact hP
    have hD : va_D A ((wHs h ar rr ra cI cR o (n - 1) τ) ++ (wRp h2 a2 cI ((τ ((o + (n - 1)) % 5)) 0) ((τ ((o + (n - 1)) % 5)) 1) ((τ ((o + (n - 1)) % 5)) 2) (onF ((τ ((o + (n - 1)) % 5)))) (wwF ((τ ((o + (n - 1)) % 5)))) (crF ((τ ((o + (n - 1)) % 5)))) (ptF ((τ ((o + (n - 1)) % 5)))))) := by rw [hk]; exact hD
    exact mu_reti hx hb hr hlocks (rfl) hP hD hS dX0_restore_34
  · refine nv_top (1) (hk) ?_
    refine nv_aald (D := D) (r := rr 1) hx hb hK hP 1 1 rfl rfl (k := 1) (by decide) (by decide) rfl dX0_restore_26 ?_
    refine mu_call (ws' := ((wHs h ar rr ra cI cR o (n - 1) τ) ++ (wRp h2 a2 cI ((((τ 1))) 0) ((((τ 1))) 1) ((((τ 1))) 2) (onF (((τ 1)))) (wwF (((τ 1)))) (crF (((τ 1)))) (ptF (((τ 1))))))) [27, 28, 29, 30, 31, 7, 8, 9, 10, 11] [0, 1, 2, 3, 4, 5, 6, 12, 13, 14, 15, 16, 17, 18, 19, 20, 21, 22, 23, 24, 25, 26] [0, 1, 2, 3, 4, 5, 6, 27, 28, 29, 30, 31, 7, 8, 9, 10, 11, 12, 13, 14, 15, 16, 17, 18, 19, 20, 21, 22, 23, 24, 25, 26] [.ref (rr 1)] [] hx hb hml hown hts k_RX0_25 (fun sz => c_X1_become l D cI cR h2 a2 (σ 0) (σ 1) (σ 2) (onF σ) (wwF σ) (crF σ) (ptF σ) (rr 1) ((ra 1)) ((((τ 1))) 0) ((((τ 1))) 1) ((((τ 1))) 2) (onF (((τ 1)))) (wwF (((τ 1)))) (crF (((τ 1)))) (ptF (((τ 1))))  sz) ⟨rfl, rfl, Nat.le_of_ble_eq_true rfl, Nat.le_of_ble_eq_true rfl⟩ hP hD hS hA hK 1 rfl rfl rfl rfl rfl rfl rfl (by decide) rfl rfl rfl hl rfl (Nat.le_of_ble_eq_true rfl) dX0_restore_27 ⟨Nat.zero_le _, Nat.zero_le _⟩ (fun H locs hP hD hS => ?_)
    refine W.eq (g2 := F0 m 30 ls []) rfl ?_
    refine lv_aload_n hx hb dX0_restore_30 rfl (lv_at hl 0 rfl) ?_
    refine va_get (D := D) (ci := 0) (v := .int (nI (n - 1))) (C := RX0) (T := TX0) (N := 3) hx hb hts inX0 hown hK hP 0 rfl rfl 2 (by decide) (hts _ fl_RX0_18) (fun _ h9 => h9) rfl dX0_restore_31 ?_
    have hP : va_P D vwCl ((wHs h ar rr ra cI cR o (n - 1) τ) ++ (wRp h2 a2 cI ((τ ((o + (n - 1)) % 5)) 0) ((τ ((o + (n - 1)) % 5)) 1) ((τ ((o + (n - 1)) % 5)) 2) (onF ((τ ((o + (n - 1)) % 5)))) (wwF ((τ ((o + (n - 1)) % 5)))) (crF ((τ ((o + (n - 1)) % 5)))) (ptF ((τ ((o + (n - 1)) % 5)))))) H := by rw [hk]; exact hP
    have hD : va_D A ((wHs h ar rr ra cI cR o (n - 1) τ) ++ (wRp h2 a2 cI ((τ ((o + (n - 1)) % 5)) 0) ((τ ((o + (n - 1)) % 5)) 1) ((τ ((o + (n - 1)) % 5)) 2) (onF ((τ ((o + (n - 1)) % 5)))) (wwF ((τ ((o + (n - 1)) % 5)))) (crF ((τ ((o + (n - 1)) % 5)))) (ptF ((τ ((o + (n - 1)) % 5)))))) := by rw [hk]; exact hD
    exact mu_reti hx hb hr hlocks (rfl) hP hD hS dX0_restore_34
  · refine nv_top (2) (hk) ?_
    refine nv_aald (D := D) (r := rr 2) hx hb hK hP 1 1 rfl rfl (k := 2) (by decide) (by decide) rfl dX0_restore_26 ?_
    refine mu_call (ws' := ((wHs h ar rr ra cI cR o (n - 1) τ) ++ (wRp h2 a2 cI ((((τ 2))) 0) ((((τ 2))) 1) ((((τ 2))) 2) (onF (((τ 2)))) (wwF (((τ 2)))) (crF (((τ 2)))) (ptF (((τ 2))))))) [27, 28, 29, 30, 31, 12, 13, 14, 15, 16] [0, 1, 2, 3, 4, 5, 6, 7, 8, 9, 10, 11, 17, 18, 19, 20, 21, 22, 23, 24, 25, 26] [0, 1, 2, 3, 4, 5, 6, 7, 8, 9, 10, 11, 27, 28, 29, 30, 31, 12, 13, 14, 15, 16, 17, 18, 19, 20, 21, 22, 23, 24, 25, 26] [.ref (rr 2)] [] hx hb hml hown hts k_RX0_25 (fun sz => c_X1_become l D cI cR h2 a2 (σ 0) (σ 1) (σ 2) (onF σ) (wwF σ) (crF σ) (ptF σ) (rr 2) ((ra 2)) ((((τ 2))) 0) ((((τ 2))) 1) ((((τ 2))) 2) (onF (((τ 2)))) (wwF (((τ 2)))) (crF (((τ 2)))) (ptF (((τ 2))))  sz) ⟨rfl, rfl, Nat.le_of_ble_eq_true rfl, Nat.le_of_ble_eq_true rfl⟩ hP hD hS hA hK 1 rfl rfl rfl rfl rfl rfl rfl (by decide) rfl rfl rfl hl rfl (Nat.le_of_ble_eq_true rfl) dX0_restore_27 ⟨Nat.zero_le _, Nat.zero_le _⟩ (fun H locs hP hD hS => ?_)
    refine W.eq (g2 := F0 m 30 ls []) rfl ?_
    refine lv_aload_n hx hb dX0_restore_30 rfl (lv_at hl 0 rfl) ?_
    refine va_get (D := D) (ci := 0) (v := .int (nI (n - 1))) (C := RX0) (T := TX0) (N := 3) hx hb hts inX0 hown hK hP 0 rfl rfl 2 (by decide) (hts _ fl_RX0_18) (fun _ h9 => h9) rfl dX0_restore_31 ?_
    have hP : va_P D vwCl ((wHs h ar rr ra cI cR o (n - 1) τ) ++ (wRp h2 a2 cI ((τ ((o + (n - 1)) % 5)) 0) ((τ ((o + (n - 1)) % 5)) 1) ((τ ((o + (n - 1)) % 5)) 2) (onF ((τ ((o + (n - 1)) % 5)))) (wwF ((τ ((o + (n - 1)) % 5)))) (crF ((τ ((o + (n - 1)) % 5)))) (ptF ((τ ((o + (n - 1)) % 5)))))) H := by rw [hk]; exact hP
    have hD : va_D A ((wHs h ar rr ra cI cR o (n - 1) τ) ++ (wRp h2 a2 cI ((τ ((o + (n - 1)) % 5)) 0) ((τ ((o + (n - 1)) % 5)) 1) ((τ ((o + (n - 1)) % 5)) 2) (onF ((τ ((o + (n - 1)) % 5)))) (wwF ((τ ((o + (n - 1)) % 5)))) (crF ((τ ((o + (n - 1)) % 5)))) (ptF ((τ ((o + (n - 1)) % 5)))))) := by rw [hk]; exact hD
    exact mu_reti hx hb hr hlocks (rfl) hP hD hS dX0_restore_34
  · refine nv_top (3) (hk) ?_
    refine nv_aald (D := D) (r := rr 3) hx hb hK hP 1 1 rfl rfl (k := 3) (by decide) (by decide) rfl dX0_restore_26 ?_
    refine mu_call (ws' := ((wHs h ar rr ra cI cR o (n - 1) τ) ++ (wRp h2 a2 cI ((((τ 3))) 0) ((((τ 3))) 1) ((((τ 3))) 2) (onF (((τ 3)))) (wwF (((τ 3)))) (crF (((τ 3)))) (ptF (((τ 3))))))) [27, 28, 29, 30, 31, 17, 18, 19, 20, 21] [0, 1, 2, 3, 4, 5, 6, 7, 8, 9, 10, 11, 12, 13, 14, 15, 16, 22, 23, 24, 25, 26] [0, 1, 2, 3, 4, 5, 6, 7, 8, 9, 10, 11, 12, 13, 14, 15, 16, 27, 28, 29, 30, 31, 17, 18, 19, 20, 21, 22, 23, 24, 25, 26] [.ref (rr 3)] [] hx hb hml hown hts k_RX0_25 (fun sz => c_X1_become l D cI cR h2 a2 (σ 0) (σ 1) (σ 2) (onF σ) (wwF σ) (crF σ) (ptF σ) (rr 3) ((ra 3)) ((((τ 3))) 0) ((((τ 3))) 1) ((((τ 3))) 2) (onF (((τ 3)))) (wwF (((τ 3)))) (crF (((τ 3)))) (ptF (((τ 3))))  sz) ⟨rfl, rfl, Nat.le_of_ble_eq_true rfl, Nat.le_of_ble_eq_true rfl⟩ hP hD hS hA hK 1 rfl rfl rfl rfl rfl rfl rfl (by decide) rfl rfl rfl hl rfl (Nat.le_of_ble_eq_true rfl) dX0_restore_27 ⟨Nat.zero_le _, Nat.zero_le _⟩ (fun H locs hP hD hS => ?_)
    refine W.eq (g2 := F0 m 30 ls []) rfl ?_
    refine lv_aload_n hx hb dX0_restore_30 rfl (lv_at hl 0 rfl) ?_
    refine va_get (D := D) (ci := 0) (v := .int (nI (n - 1))) (C := RX0) (T := TX0) (N := 3) hx hb hts inX0 hown hK hP 0 rfl rfl 2 (by decide) (hts _ fl_RX0_18) (fun _ h9 => h9) rfl dX0_restore_31 ?_
    have hP : va_P D vwCl ((wHs h ar rr ra cI cR o (n - 1) τ) ++ (wRp h2 a2 cI ((τ ((o + (n - 1)) % 5)) 0) ((τ ((o + (n - 1)) % 5)) 1) ((τ ((o + (n - 1)) % 5)) 2) (onF ((τ ((o + (n - 1)) % 5)))) (wwF ((τ ((o + (n - 1)) % 5)))) (crF ((τ ((o + (n - 1)) % 5)))) (ptF ((τ ((o + (n - 1)) % 5)))))) H := by rw [hk]; exact hP
    have hD : va_D A ((wHs h ar rr ra cI cR o (n - 1) τ) ++ (wRp h2 a2 cI ((τ ((o + (n - 1)) % 5)) 0) ((τ ((o + (n - 1)) % 5)) 1) ((τ ((o + (n - 1)) % 5)) 2) (onF ((τ ((o + (n - 1)) % 5)))) (wwF ((τ ((o + (n - 1)) % 5)))) (crF ((τ ((o + (n - 1)) % 5)))) (ptF ((τ ((o + (n - 1)) % 5)))))) := by rw [hk]; exact hD
    exact mu_reti hx hb hr hlocks (rfl) hP hD hS dX0_restore_34
  · refine nv_top (4) (hk) ?_
    refine nv_aald (D := D) (r := rr 4) hx hb hK hP 1 1 rfl rfl (k := 4) (by decide) (by decide) rfl dX0_restore_26 ?_
    refine mu_call (ws' := ((wHs h ar rr ra cI cR o (n - 1) τ) ++ (wRp h2 a2 cI ((((τ 4))) 0) ((((τ 4))) 1) ((((τ 4))) 2) (onF (((τ 4)))) (wwF (((τ 4)))) (crF (((τ 4)))) (ptF (((τ 4))))))) [27, 28, 29, 30, 31, 22, 23, 24, 25, 26] [0, 1, 2, 3, 4, 5, 6, 7, 8, 9, 10, 11, 12, 13, 14, 15, 16, 17, 18, 19, 20, 21] [0, 1, 2, 3, 4, 5, 6, 7, 8, 9, 10, 11, 12, 13, 14, 15, 16, 17, 18, 19, 20, 21, 27, 28, 29, 30, 31, 22, 23, 24, 25, 26] [.ref (rr 4)] [] hx hb hml hown hts k_RX0_25 (fun sz => c_X1_become l D cI cR h2 a2 (σ 0) (σ 1) (σ 2) (onF σ) (wwF σ) (crF σ) (ptF σ) (rr 4) ((ra 4)) ((((τ 4))) 0) ((((τ 4))) 1) ((((τ 4))) 2) (onF (((τ 4)))) (wwF (((τ 4)))) (crF (((τ 4)))) (ptF (((τ 4))))  sz) ⟨rfl, rfl, Nat.le_of_ble_eq_true rfl, Nat.le_of_ble_eq_true rfl⟩ hP hD hS hA hK 1 rfl rfl rfl rfl rfl rfl rfl (by decide) rfl rfl rfl hl rfl (Nat.le_of_ble_eq_true rfl) dX0_restore_27 ⟨Nat.zero_le _, Nat.zero_le _⟩ (fun H locs hP hD hS => ?_)
    refine W.eq (g2 := F0 m 30 ls []) rfl ?_
    refine lv_aload_n hx hb dX0_restore_30 rfl (lv_at hl 0 rfl) ?_
    refine va_get (D := D) (ci := 0) (v := .int (nI (n - 1))) (C := RX0) (T := TX0) (N := 3) hx hb hts inX0 hown hK hP 0 rfl rfl 2 (by decide) (hts _ fl_RX0_18) (fun _ h9 => h9) rfl dX0_restore_31 ?_
    have hP : va_P D vwCl ((wHs h ar rr ra cI cR o (n - 1) τ) ++ (wRp h2 a2 cI ((τ ((o + (n - 1)) % 5)) 0) ((τ ((o + (n - 1)) % 5)) 1) ((τ ((o + (n - 1)) % 5)) 2) (onF ((τ ((o + (n - 1)) % 5)))) (wwF ((τ ((o + (n - 1)) % 5)))) (crF ((τ ((o + (n - 1)) % 5)))) (ptF ((τ ((o + (n - 1)) % 5)))))) H := by rw [hk]; exact hP
    have hD : va_D A ((wHs h ar rr ra cI cR o (n - 1) τ) ++ (wRp h2 a2 cI ((τ ((o + (n - 1)) % 5)) 0) ((τ ((o + (n - 1)) % 5)) 1) ((τ ((o + (n - 1)) % 5)) 2) (onF ((τ ((o + (n - 1)) % 5)))) (wwF ((τ ((o + (n - 1)) % 5)))) (crF ((τ ((o + (n - 1)) % 5)))) (ptF ((τ ((o + (n - 1)) % 5)))))) := by rw [hk]; exact hD
    exact mu_reti hx hb hr hlocks (rfl) hP hD hS dX0_restore_34
set_option maxHeartbeats 4000000 in
set_option maxRecDepth 100000 in
theorem c_X2_wordsFound (l : Launch) (D : va_G) (cI cR : ClassId) (h : Nat) (a : Nat → Nat) (tx : Nat → Int32) (ln : Nat) (wf0 : Nat → Int32) (fo : Nat)    : MetR l yX2_wordsFound cX2_wordsFound 1 (some .int) (rmK 0 0) (nPre D (nTy cI cR) [.ref h] (wTx h a cI tx ln wf0 fo)) (nI (fo)) := by
  refine met_read rfl (Nat.le_of_ble_eq_true rfl) ?_
  intro p e s m args below meth c ls hx hb hml hr hlocks hown hts hP hK hl
  have hl : lv_has ls 1 [(0, .ref h)] := hl
  refine lv_aload_n hx hb dX2_wordsFound_0 rfl (lv_at hl 0 rfl) ?_
  refine va_get (D := D) (ci := 2) (v := .int (nI fo)) (C := RX2) (T := TX2) (N := 4) hx hb hts inX2 hown hK hP 0 rfl rfl 3 (by decide) (hts _ fl_RX2_22) (fun _ h9 => h9) rfl dX2_wordsFound_1 ?_
  exact nv_ret hx hb hr hlocks (rfl) dX2_wordsFound_4
set_option maxHeartbeats 4000000 in
set_option maxRecDepth 100000 in
theorem c_X2_wordFound (l : Launch) (D : va_G) (cI cR : ClassId) (h : Nat) (a : Nat → Nat) (tx : Nat → Int32) (ln : Nat) (wf0 : Nat → Int32) (fo : Nat) (k : Nat)  (h1 : k < 48) : MetR l yX2_wordFound cX2_wordFound 2 (some .int) (rmK 0 0) (nPre D (nTy cI cR) [.ref h, .int (nI k)] (wTx h a cI tx ln wf0 fo)) (wf0 k) := by
  refine met_read rfl (Nat.le_of_ble_eq_true rfl) ?_
  intro p e s m args below meth c ls hx hb hml hr hlocks hown hts hP hK hl
  have hl : lv_has ls 2 [(0, .ref h), (1, .int (nI k))] := hl
  refine lv_aload_n hx hb dX2_wordFound_0 rfl (lv_at hl 0 rfl) ?_
  refine va_get (D := D) (ci := 2) (v := .ref (a 1)) (C := RX2) (T := TX2) (N := 4) hx hb hts inX2 hown hK hP 0 rfl rfl 2 (by decide) (hts _ fl_RX2_15) (fun _ h9 => h9) rfl dX2_wordFound_1 ?_
  refine lv_iload_n hx hb dX2_wordFound_4 rfl (lv_at hl 1 rfl) ?_
  refine nv_iald (D := D) (v := wf0 k) hx hb hK hP 2 0 rfl rfl (k := k) (by omega) (by decide) (rfl) dX2_wordFound_5 ?_
  exact nv_ret hx hb hr hlocks (rfl) dX2_wordFound_6
