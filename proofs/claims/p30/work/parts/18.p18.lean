set_option maxHeartbeats 4000000 in
set_option maxRecDepth 100000 in
theorem c_X3_begin (l : Launch) (D : va_G) (cI cR : ClassId) (h : Nat) (ad : Nat → Nat) (aa : Nat → Nat → Nat) (σ : Nat → Nat) (o : Nat) (n : Nat) (τ : Nat → Nat → Nat) (b : Nat → Nat) (ln : Nat) (g : Nat → Nat) (fo0 : Nat) (x : Int32) (y : Int32) (z : Int32)  (hw : wf σ) (ho : o < 5) (hn : n ≤ 5) (sz : Nat) : Met l yX3_begin (wsC yX3_begin cX3_begin 5 (some .int)) (rmK 3 82) (nPreM D (nTy cI cR) [.ref h, .int x, .int y, .int z] (wCR h ad aa cI cR σ o n τ b ln g fo0) sz) (QcM D (some (.int (cond (ok3 x y z) (nI (nA σ)) (-3)))) (wCR h ad aa cI cR (cond (ok3 x y z) (bgS (cl x) (cl y) (cl z)) σ) (cond (ok3 x y z) (kpO o n) o) (cond (ok3 x y z) (kpN n) n) (cond (ok3 x y z) (va_up τ (kpS o n) σ) τ) b ln g fo0) (va_A (wCR h ad aa cI cR σ o n τ b ln g fo0) sz)) 0 0 (va_A (wCR h ad aa cI cR σ o n τ b ln g fo0) sz) := by
  refine met_mut (Qc := fun A => QcM D (some (.int (cond (ok3 x y z) (nI (nA σ)) (-3)))) (wCR h ad aa cI cR (cond (ok3 x y z) (bgS (cl x) (cl y) (cl z)) σ) (cond (ok3 x y z) (kpO o n) o) (cond (ok3 x y z) (kpN n) n) (cond (ok3 x y z) (va_up τ (kpS o n) σ) τ) b ln g fo0) A) rfl (Nat.le_of_ble_eq_true rfl) ?_
  intro p e s m args below meth c ls A H locs hx hb hml hr hlocks hown hts hP hK hD hA hS hl
  have hl : lv_has ls 5 [(0, .ref h), (1, .int x), (2, .int y), (3, .int z)] := hl
  have hA41 := hw.w41
  have hA33 := hw.a33
  have hA48 := hw.a48
  obtain ⟨hR2, hR, hB1, hB, hSa, hSb, -⟩ := id hw
  have h1024 := p2_10 hB
  refine lv_iload_n hx hb dX3_begin_0 rfl (lv_at hl 1 rfl) ?_
  refine lv_iconst (v := nI 2) hx hb dX3_begin_1 (by decide) ?_
  refine lv_icmp_lt (tgt := 32) hx hb dX3_begin_2 (by decide) (fun q_2 => ?_) (fun q_2 => ?_)
  · refine lv_bipush (v := -3) hx hb dX3_begin_32 (by decide) ?_
    have E0 : ok3 x y z = false := (by unfold ok3; rw [show btw 2 16 x = false from btw_lo (by decide) q_2]; simp)
    have hP : va_P D vwCl (wCR h ad aa cI cR (cond (ok3 x y z) (bgS (cl x) (cl y) (cl z)) σ) (cond (ok3 x y z) (kpO o n) o) (cond (ok3 x y z) (kpN n) n) (cond (ok3 x y z) (va_up τ (kpS o n) σ) τ) b ln g fo0) H := by rw [E0]; exact hP
    have hD : va_D A (wCR h ad aa cI cR (cond (ok3 x y z) (bgS (cl x) (cl y) (cl z)) σ) (cond (ok3 x y z) (kpO o n) o) (cond (ok3 x y z) (kpN n) n) (cond (ok3 x y z) (va_up τ (kpS o n) σ) τ) b ln g fo0) := by rw [E0]; exact hD
    exact mu_reti hx hb hr hlocks ((cond_f E0).symm) hP hD hS dX3_begin_34
  · refine lv_iload_n hx hb dX3_begin_5 rfl (lv_at hl 1 rfl) ?_
    refine lv_bipush (v := nI 16) hx hb dX3_begin_6 (by decide) ?_
    refine lv_icmp_gt (tgt := 32) hx hb dX3_begin_8 (by decide) (fun q_8 => ?_) (fun q_8 => ?_)
    · refine lv_bipush (v := -3) hx hb dX3_begin_32 (by decide) ?_
      have E0 : ok3 x y z = false := (by unfold ok3; rw [show btw 2 16 x = false from btw_hi (by decide) q_8]; simp)
      have hP : va_P D vwCl (wCR h ad aa cI cR (cond (ok3 x y z) (bgS (cl x) (cl y) (cl z)) σ) (cond (ok3 x y z) (kpO o n) o) (cond (ok3 x y z) (kpN n) n) (cond (ok3 x y z) (va_up τ (kpS o n) σ) τ) b ln g fo0) H := by rw [E0]; exact hP
      have hD : va_D A (wCR h ad aa cI cR (cond (ok3 x y z) (bgS (cl x) (cl y) (cl z)) σ) (cond (ok3 x y z) (kpO o n) o) (cond (ok3 x y z) (kpN n) n) (cond (ok3 x y z) (va_up τ (kpS o n) σ) τ) b ln g fo0) := by rw [E0]; exact hD
      exact mu_reti hx hb hr hlocks ((cond_f E0).symm) hP hD hS dX3_begin_34
    · refine lv_iload_n hx hb dX3_begin_11 rfl (lv_at hl 2 rfl) ?_
      refine lv_iconst (v := nI 1) hx hb dX3_begin_12 (by decide) ?_
      refine lv_icmp_lt (tgt := 32) hx hb dX3_begin_13 (by decide) (fun q_13 => ?_) (fun q_13 => ?_)
      · refine lv_bipush (v := -3) hx hb dX3_begin_32 (by decide) ?_
        have E0 : ok3 x y z = false := (by unfold ok3; rw [show btw 1 10 y = false from btw_lo (by decide) q_13]; simp)
        have hP : va_P D vwCl (wCR h ad aa cI cR (cond (ok3 x y z) (bgS (cl x) (cl y) (cl z)) σ) (cond (ok3 x y z) (kpO o n) o) (cond (ok3 x y z) (kpN n) n) (cond (ok3 x y z) (va_up τ (kpS o n) σ) τ) b ln g fo0) H := by rw [E0]; exact hP
        have hD : va_D A (wCR h ad aa cI cR (cond (ok3 x y z) (bgS (cl x) (cl y) (cl z)) σ) (cond (ok3 x y z) (kpO o n) o) (cond (ok3 x y z) (kpN n) n) (cond (ok3 x y z) (va_up τ (kpS o n) σ) τ) b ln g fo0) := by rw [E0]; exact hD
        exact mu_reti hx hb hr hlocks ((cond_f E0).symm) hP hD hS dX3_begin_34
      · refine lv_iload_n hx hb dX3_begin_16 rfl (lv_at hl 2 rfl) ?_
        refine lv_bipush (v := nI 10) hx hb dX3_begin_17 (by decide) ?_
        refine lv_icmp_gt (tgt := 32) hx hb dX3_begin_19 (by decide) (fun q_19 => ?_) (fun q_19 => ?_)
        · refine lv_bipush (v := -3) hx hb dX3_begin_32 (by decide) ?_
          have E0 : ok3 x y z = false := (by unfold ok3; rw [show btw 1 10 y = false from btw_hi (by decide) q_19]; simp)
          have hP : va_P D vwCl (wCR h ad aa cI cR (cond (ok3 x y z) (bgS (cl x) (cl y) (cl z)) σ) (cond (ok3 x y z) (kpO o n) o) (cond (ok3 x y z) (kpN n) n) (cond (ok3 x y z) (va_up τ (kpS o n) σ) τ) b ln g fo0) H := by rw [E0]; exact hP
          have hD : va_D A (wCR h ad aa cI cR (cond (ok3 x y z) (bgS (cl x) (cl y) (cl z)) σ) (cond (ok3 x y z) (kpO o n) o) (cond (ok3 x y z) (kpN n) n) (cond (ok3 x y z) (va_up τ (kpS o n) σ) τ) b ln g fo0) := by rw [E0]; exact hD
          exact mu_reti hx hb hr hlocks ((cond_f E0).symm) hP hD hS dX3_begin_34
        · refine lv_iload_n hx hb dX3_begin_22 rfl (lv_at hl 3 rfl) ?_
          refine lv_iconst (v := nI 1) hx hb dX3_begin_23 (by decide) ?_
          refine lv_icmp_lt (tgt := 32) hx hb dX3_begin_24 (by decide) (fun q_24 => ?_) (fun q_24 => ?_)
          · refine lv_bipush (v := -3) hx hb dX3_begin_32 (by decide) ?_
            have E0 : ok3 x y z = false := (by unfold ok3; rw [show btw 1 3 z = false from btw_lo (by decide) q_24]; simp)
            have hP : va_P D vwCl (wCR h ad aa cI cR (cond (ok3 x y z) (bgS (cl x) (cl y) (cl z)) σ) (cond (ok3 x y z) (kpO o n) o) (cond (ok3 x y z) (kpN n) n) (cond (ok3 x y z) (va_up τ (kpS o n) σ) τ) b ln g fo0) H := by rw [E0]; exact hP
            have hD : va_D A (wCR h ad aa cI cR (cond (ok3 x y z) (bgS (cl x) (cl y) (cl z)) σ) (cond (ok3 x y z) (kpO o n) o) (cond (ok3 x y z) (kpN n) n) (cond (ok3 x y z) (va_up τ (kpS o n) σ) τ) b ln g fo0) := by rw [E0]; exact hD
            exact mu_reti hx hb hr hlocks ((cond_f E0).symm) hP hD hS dX3_begin_34
          · refine lv_iload_n hx hb dX3_begin_27 rfl (lv_at hl 3 rfl) ?_
            refine lv_iconst (v := nI 3) hx hb dX3_begin_28 (by decide) ?_
            refine lv_icmp_le (tgt := 35) hx hb dX3_begin_29 (by decide) (fun q_29 => ?_) (fun q_29 => ?_)
            · have bx := btw_t (lo := 2) (hi := 16) (by decide) (by decide) q_2 q_8
              have by_ := btw_t (lo := 1) (hi := 10) (by decide) (by decide) q_13 q_19
              have bz := btw_t (lo := 1) (hi := 3) (by decide) (by decide) q_24 (Int32.not_lt.mpr q_29)
              obtain ⟨x1, x2, hx1⟩ := btw_cl (by decide) bx
              obtain ⟨y1, y2, hx2⟩ := btw_cl (by decide) by_
              obtain ⟨z1, z2, hx3⟩ := btw_cl (by decide) bz
              have hl := lv_repl [(0, .ref h), (1, .int (nI (cl x))), (2, .int y), (3, .int z)] 1 rfl (congrArg (fun z : Int32 => Value.int z) (show x = nI (cl x) from hx1)) rfl hl
              have hl := lv_repl [(0, .ref h), (1, .int (nI (cl x))), (2, .int (nI (cl y))), (3, .int z)] 2 rfl (congrArg (fun z : Int32 => Value.int z) (show y = nI (cl y) from hx2)) rfl hl
              have hl := lv_repl [(0, .ref h), (1, .int (nI (cl x))), (2, .int (nI (cl y))), (3, .int (nI (cl z)))] 3 rfl (congrArg (fun z : Int32 => Value.int z) (show z = nI (cl z) from hx3)) rfl hl
              refine lv_aload_n hx hb dX3_begin_35 rfl (lv_at hl 0 rfl) ?_
              refine va_get (D := D) (ci := 3) (v := .ref (ad 0)) (C := RX3) (T := TX3) (N := 3) hx hb hts inX3 hown hK hP 0 rfl rfl 0 (by decide) (hts _ fl_RX3_12) (fun _ h9 => h9) rfl dX3_begin_36 ?_
              refine nv_callV [] [] hx hb hml hown hts k_RX3_30 (c_X1_addressesS l D cI cR (ad 0) ((aa 0)) σ ) ⟨rfl, rfl, Nat.le_of_ble_eq_true rfl, Nat.le_of_ble_eq_true rfl⟩ (hP.sub [1, 2, 3, 4, 5] rfl) hK 1 rfl rfl rfl rfl hl rfl (Nat.le_of_ble_eq_true rfl) dX3_begin_39 ⟨Nat.zero_le _, Nat.zero_le _⟩ ?_
              refine lv_istore (lv' := [(4, .int (nI (nA σ))), (0, .ref h), (1, .int (nI (cl x))), (2, .int (nI (cl y))), (3, .int (nI (cl z)))]) hx hb dX3_begin_42 hl (by decide) rfl (fun ls hl => ?_)
              refine lv_aload_n hx hb dX3_begin_44 rfl (lv_at hl 1 rfl) ?_
              refine va_get (D := D) (ci := 3) (v := .ref (ad 1)) (C := RX3) (T := TX3) (N := 3) hx hb hts inX3 hown hK hP 0 rfl rfl 1 (by decide) (hts _ fl_RX3_19) (fun _ h9 => h9) rfl dX3_begin_45 ?_
              refine lv_aload_n hx hb dX3_begin_48 rfl (lv_at hl 1 rfl) ?_
              refine va_get (D := D) (ci := 3) (v := .ref (ad 0)) (C := RX3) (T := TX3) (N := 3) hx hb hts inX3 hown hK hP 0 rfl rfl 0 (by decide) (hts _ fl_RX3_12) (fun _ h9 => h9) rfl dX3_begin_49 ?_
              refine mu_call (ws' := (wCR h ad aa cI cR σ (kpO o n) (kpN n) (va_up τ (kpS o n) σ) b ln g fo0)) [6, 7, 8, 9, 10, 11, 12, 13, 14, 15, 16, 17, 18, 19, 20, 21, 22, 23, 24, 25, 26, 27, 28, 29, 30, 31, 32, 1, 2, 3, 4, 5] [0, 33, 34, 35] [0, 31, 32, 33, 34, 35, 4, 5, 6, 7, 8, 9, 10, 11, 12, 13, 14, 15, 16, 17, 18, 19, 20, 21, 22, 23, 24, 25, 26, 27, 28, 29, 30, 1, 2, 3] [.ref (ad 0)] [] hx hb hml hown hts k_RX3_34 (fun sz => c_X0_keep l D cI cR (ad 1) (ad 3) ((fun j => ad (4 + j))) ((fun j => aa (2 + j))) o n τ (ad 0) ((aa 0)) σ ho hn sz) ⟨rfl, rfl, Nat.le_of_ble_eq_true rfl, Nat.le_of_ble_eq_true rfl⟩ hP hD hS hA hK 0 rfl rfl rfl rfl rfl rfl rfl (by decide) rfl rfl rfl hl rfl (Nat.le_of_ble_eq_true rfl) dX3_begin_52 ⟨Nat.zero_le _, Nat.zero_le _⟩ (fun H locs hP hD hS => ?_)
              refine W.eq (g2 := F0 m 55 ls []) rfl ?_
              refine lv_aload_n hx hb dX3_begin_55 rfl (lv_at hl 1 rfl) ?_
              refine va_get (D := D) (ci := 3) (v := .ref (ad 0)) (C := RX3) (T := TX3) (N := 3) hx hb hts inX3 hown hK hP 0 rfl rfl 0 (by decide) (hts _ fl_RX3_12) (fun _ h9 => h9) rfl dX3_begin_56 ?_
              refine lv_iload_n hx hb dX3_begin_59 rfl (lv_at hl 2 rfl) ?_
              refine lv_iload_n hx hb dX3_begin_60 rfl (lv_at hl 3 rfl) ?_
              refine lv_iload_n hx hb dX3_begin_61 rfl (lv_at hl 4 rfl) ?_
              refine mu_call (ws' := (wCR h ad aa cI cR ((bgS (cl x) (cl y) (cl z))) (kpO o n) (kpN n) (va_up τ (kpS o n) σ) b ln g fo0)) [1, 2, 3, 4, 5] [0, 6, 7, 8, 9, 10, 11, 12, 13, 14, 15, 16, 17, 18, 19, 20, 21, 22, 23, 24, 25, 26, 27, 28, 29, 30, 31, 32, 33, 34, 35] [0, 31, 32, 33, 34, 35, 1, 2, 3, 4, 5, 6, 7, 8, 9, 10, 11, 12, 13, 14, 15, 16, 17, 18, 19, 20, 21, 22, 23, 24, 25, 26, 27, 28, 29, 30] [.int (nI (cl x)), .int (nI (cl y)), .int (nI (cl z))] [] hx hb hml hown hts k_RX3_38 (fun sz => c_X1_startS l D cI cR (ad 0) ((aa 0)) σ (cl x) (cl y) (cl z) (by omega) (by omega) (by omega) (by omega) sz) ⟨rfl, rfl, Nat.le_of_ble_eq_true rfl, Nat.le_of_ble_eq_true rfl⟩ hP hD hS hA hK 1 rfl rfl rfl rfl rfl rfl rfl (by decide) rfl rfl rfl hl rfl (Nat.le_of_ble_eq_true rfl) dX3_begin_62 ⟨Nat.zero_le _, Nat.zero_le _⟩ (fun H locs hP hD hS => ?_)
              refine W.eq (g2 := F0 m 65 ls []) rfl ?_
              refine lv_iload hx hb dX3_begin_65 (lv_at hl 0 rfl) ?_
              have E0 : ok3 x y z = true := (by unfold ok3; rw [bx, by_, bz]; rfl)
              have hP : va_P D vwCl (wCR h ad aa cI cR (cond (ok3 x y z) (bgS (cl x) (cl y) (cl z)) σ) (cond (ok3 x y z) (kpO o n) o) (cond (ok3 x y z) (kpN n) n) (cond (ok3 x y z) (va_up τ (kpS o n) σ) τ) b ln g fo0) H := by rw [E0]; exact hP
              have hD : va_D A (wCR h ad aa cI cR (cond (ok3 x y z) (bgS (cl x) (cl y) (cl z)) σ) (cond (ok3 x y z) (kpO o n) o) (cond (ok3 x y z) (kpN n) n) (cond (ok3 x y z) (va_up τ (kpS o n) σ) τ) b ln g fo0) := by rw [E0]; exact hD
              exact mu_reti hx hb hr hlocks ((cond_t E0).symm) hP hD hS dX3_begin_67
            · refine lv_bipush (v := -3) hx hb dX3_begin_32 (by decide) ?_
              have E0 : ok3 x y z = false := (by unfold ok3; rw [show btw 1 3 z = false from btw_hi (by decide) (Int32.not_le.mp q_29)]; simp)
              have hP : va_P D vwCl (wCR h ad aa cI cR (cond (ok3 x y z) (bgS (cl x) (cl y) (cl z)) σ) (cond (ok3 x y z) (kpO o n) o) (cond (ok3 x y z) (kpN n) n) (cond (ok3 x y z) (va_up τ (kpS o n) σ) τ) b ln g fo0) H := by rw [E0]; exact hP
              have hD : va_D A (wCR h ad aa cI cR (cond (ok3 x y z) (bgS (cl x) (cl y) (cl z)) σ) (cond (ok3 x y z) (kpO o n) o) (cond (ok3 x y z) (kpN n) n) (cond (ok3 x y z) (va_up τ (kpS o n) σ) τ) b ln g fo0) := by rw [E0]; exact hD
              exact mu_reti hx hb hr hlocks ((cond_f E0).symm) hP hD hS dX3_begin_34
set_option maxHeartbeats 4000000 in
set_option maxRecDepth 100000 in
theorem c_X3_setCode (l : Launch) (D : va_G) (cI cR : ClassId) (h : Nat) (ad : Nat → Nat) (aa : Nat → Nat → Nat) (σ : Nat → Nat) (o : Nat) (n : Nat) (τ : Nat → Nat → Nat) (b : Nat → Nat) (ln : Nat) (g : Nat → Nat) (fo0 : Nat) (x : Int32) (y : Int32)  (hw : wf σ) (ho : o < 5) (hn : n ≤ 5) (sz : Nat) : Met l yX3_setCode (wsC yX3_setCode cX3_setCode 5 (some .int)) (rmK 3 82) (nPreM D (nTy cI cR) [.ref h, .int x, .int y] (wCR h ad aa cI cR σ o n τ b ln g fo0) sz) (QcM D (some (.int (aSetCode σ x y))) (wCR h ad aa cI cR (cond (inB x (σ 0) && inB y 16 && okC σ x y) (va_up σ (3 + cl x) (cl y)) σ) (cond (inB x (σ 0) && inB y 16 && okC σ x y) (kpO o n) o) (cond (inB x (σ 0) && inB y 16 && okC σ x y) (kpN n) n) (cond (inB x (σ 0) && inB y 16 && okC σ x y) (va_up τ (kpS o n) σ) τ) b ln g fo0) (va_A (wCR h ad aa cI cR σ o n τ b ln g fo0) sz)) 0 0 (va_A (wCR h ad aa cI cR σ o n τ b ln g fo0) sz) := by
  refine met_mut (Qc := fun A => QcM D (some (.int (aSetCode σ x y))) (wCR h ad aa cI cR (cond (inB x (σ 0) && inB y 16 && okC σ x y) (va_up σ (3 + cl x) (cl y)) σ) (cond (inB x (σ 0) && inB y 16 && okC σ x y) (kpO o n) o) (cond (inB x (σ 0) && inB y 16 && okC σ x y) (kpN n) n) (cond (inB x (σ 0) && inB y 16 && okC σ x y) (va_up τ (kpS o n) σ) τ) b ln g fo0) A) rfl (Nat.le_of_ble_eq_true rfl) ?_
  intro p e s m args below meth c ls A H locs hx hb hml hr hlocks hown hts hP hK hD hA hS hl
  have hl : lv_has ls 5 [(0, .ref h), (1, .int x), (2, .int y)] := hl
  have hA41 := hw.w41
  have hA33 := hw.a33
  have hA48 := hw.a48
  obtain ⟨hR2, hR, hB1, hB, hSa, hSb, -⟩ := id hw
  have h1024 := p2_10 hB
  refine lv_aload_n hx hb dX3_setCode_0 rfl (lv_at hl 0 rfl) ?_
  refine va_get (D := D) (ci := 3) (v := .ref (ad 0)) (C := RX3) (T := TX3) (N := 3) hx hb hts inX3 hown hK hP 0 rfl rfl 0 (by decide) (hts _ fl_RX3_12) (fun _ h9 => h9) rfl dX3_setCode_1 ?_
  refine lv_iload_n hx hb dX3_setCode_4 rfl (lv_at hl 1 rfl) ?_
  refine nv_callV [.int x] [] hx hb hml hown hts k_RX3_46 (c_X1_hasRingS l D cI cR (ad 0) ((aa 0)) σ x hw) ⟨rfl, rfl, Nat.le_of_ble_eq_true rfl, Nat.le_of_ble_eq_true rfl⟩ (hP.sub [1, 2, 3, 4, 5] rfl) hK 1 rfl rfl rfl rfl hl rfl (Nat.le_of_ble_eq_true rfl) dX3_setCode_5 ⟨Nat.zero_le _, Nat.zero_le _⟩ ?_
  refine lv_if_ne (tgt := 14) hx hb dX3_setCode_8 (by decide) (fun q_8 => ?_) (fun q_8 => ?_)
  · obtain ⟨hk1, hx1⟩ := inB_cl (by omega) (zB_ne0 q_8)
    have hl := lv_repl [(0, .ref h), (1, .int (nI (cl x))), (2, .int y)] 1 rfl (congrArg (fun z : Int32 => Value.int z) (show x = nI (cl x) from hx1)) rfl hl
    refine lv_iload_n hx hb dX3_setCode_14 rfl (lv_at hl 2 rfl) ?_
    refine lv_if_lt (tgt := 24) hx hb dX3_setCode_15 (by decide) (fun q_15 => ?_) (fun q_15 => ?_)
    · refine lv_bipush (v := -3) hx hb dX3_setCode_24 (by decide) ?_
      have E0 : inB x (σ 0) = true := zB_ne0 q_8
      have E1 : inB y 16 = false := inB_neg q_15
      have hP : va_P D vwCl (wCR h ad aa cI cR (cond (inB x (σ 0) && inB y 16 && okC σ x y) (va_up σ (3 + cl x) (cl y)) σ) (cond (inB x (σ 0) && inB y 16 && okC σ x y) (kpO o n) o) (cond (inB x (σ 0) && inB y 16 && okC σ x y) (kpN n) n) (cond (inB x (σ 0) && inB y 16 && okC σ x y) (va_up τ (kpS o n) σ) τ) b ln g fo0) H := by rw [E0, E1]; exact hP
      have hD : va_D A (wCR h ad aa cI cR (cond (inB x (σ 0) && inB y 16 && okC σ x y) (va_up σ (3 + cl x) (cl y)) σ) (cond (inB x (σ 0) && inB y 16 && okC σ x y) (kpO o n) o) (cond (inB x (σ 0) && inB y 16 && okC σ x y) (kpN n) n) (cond (inB x (σ 0) && inB y 16 && okC σ x y) (va_up τ (kpS o n) σ) τ) b ln g fo0) := by rw [E0, E1]; exact hD
      exact mu_reti hx hb hr hlocks (by unfold aSetCode; rw [E0, E1] <;> rfl) hP hD hS dX3_setCode_26
    · refine lv_iload_n hx hb dX3_setCode_18 rfl (lv_at hl 2 rfl) ?_
      refine lv_bipush (v := nI 16) hx hb dX3_setCode_19 (by decide) ?_
      refine lv_icmp_lt (tgt := 27) hx hb dX3_setCode_21 (by decide) (fun q_21 => ?_) (fun q_21 => ?_)
      · obtain ⟨hk2, hx2⟩ := inB_cl (by decide) (inB_lt (by decide) q_15 q_21)
        have hl := lv_repl [(0, .ref h), (1, .int (nI (cl x))), (2, .int (nI (cl y)))] 2 rfl (congrArg (fun z : Int32 => Value.int z) (show y = nI (cl y) from hx2)) rfl hl
        refine lv_aload_n hx hb dX3_setCode_27 rfl (lv_at hl 0 rfl) ?_
        refine va_get (D := D) (ci := 3) (v := .ref (ad 0)) (C := RX3) (T := TX3) (N := 3) hx hb hts inX3 hown hK hP 0 rfl rfl 0 (by decide) (hts _ fl_RX3_12) (fun _ h9 => h9) rfl dX3_setCode_28 ?_
        refine lv_iload_n hx hb dX3_setCode_31 rfl (lv_at hl 2 rfl) ?_
        refine nv_callV [.int (nI (cl y))] [] hx hb hml hown hts k_RX3_50 (c_X1_ringWithCode l D cI cR (ad 0) ((aa 0)) σ (cl y) hw (by omega)) ⟨rfl, rfl, Nat.le_of_ble_eq_true rfl, Nat.le_of_ble_eq_true rfl⟩ (hP.sub [1, 2, 3, 4, 5] rfl) hK 1 rfl rfl rfl rfl hl rfl (Nat.le_of_ble_eq_true rfl) dX3_setCode_32 ⟨Nat.zero_le _, Nat.zero_le _⟩ ?_
        refine lv_istore_n (lv' := [(3, .int (rcF σ (cl y))), (0, .ref h), (1, .int (nI (cl x))), (2, .int (nI (cl y)))]) hx hb dX3_setCode_35 rfl hl (by decide) rfl (fun ls hl => ?_)
        refine lv_iload_n hx hb dX3_setCode_36 rfl (lv_at hl 0 rfl) ?_
        refine lv_iconst (v := -1) hx hb dX3_setCode_37 (by decide) ?_
        refine lv_icmp_eq (tgt := 49) hx hb dX3_setCode_38 (by decide) (fun q_38 => ?_) (fun q_38 => ?_)
        · refine lv_aload_n hx hb dX3_setCode_49 rfl (lv_at hl 1 rfl) ?_
          refine va_get (D := D) (ci := 3) (v := .ref (ad 0)) (C := RX3) (T := TX3) (N := 3) hx hb hts inX3 hown hK hP 0 rfl rfl 0 (by decide) (hts _ fl_RX3_12) (fun _ h9 => h9) rfl dX3_setCode_50 ?_
          refine lv_iload_n hx hb dX3_setCode_53 rfl (lv_at hl 2 rfl) ?_
          refine nv_callV [.int (nI (cl x))] [] hx hb hml hown hts k_RX3_53 (c_X1_codeOf l D cI cR (ad 0) ((aa 0)) σ (cl x) hw hk1) ⟨rfl, rfl, Nat.le_of_ble_eq_true rfl, Nat.le_of_ble_eq_true rfl⟩ (hP.sub [1, 2, 3, 4, 5] rfl) hK 1 rfl rfl rfl rfl hl rfl (Nat.le_of_ble_eq_true rfl) dX3_setCode_54 ⟨Nat.zero_le _, Nat.zero_le _⟩ ?_
          refine lv_istore (lv' := [(4, .int (nI (σ (3 + (cl x))))), (3, .int (rcF σ (cl y))), (0, .ref h), (1, .int (nI (cl x))), (2, .int (nI (cl y)))]) hx hb dX3_setCode_57 hl (by decide) rfl (fun ls hl => ?_)
          refine lv_aload_n hx hb dX3_setCode_59 rfl (lv_at hl 2 rfl) ?_
          refine va_get (D := D) (ci := 3) (v := .ref (ad 1)) (C := RX3) (T := TX3) (N := 3) hx hb hts inX3 hown hK hP 0 rfl rfl 1 (by decide) (hts _ fl_RX3_19) (fun _ h9 => h9) rfl dX3_setCode_60 ?_
          refine lv_aload_n hx hb dX3_setCode_63 rfl (lv_at hl 2 rfl) ?_
          refine va_get (D := D) (ci := 3) (v := .ref (ad 0)) (C := RX3) (T := TX3) (N := 3) hx hb hts inX3 hown hK hP 0 rfl rfl 0 (by decide) (hts _ fl_RX3_12) (fun _ h9 => h9) rfl dX3_setCode_64 ?_
          refine mu_call (ws' := (wCR h ad aa cI cR σ (kpO o n) (kpN n) (va_up τ (kpS o n) σ) b ln g fo0)) [6, 7, 8, 9, 10, 11, 12, 13, 14, 15, 16, 17, 18, 19, 20, 21, 22, 23, 24, 25, 26, 27, 28, 29, 30, 31, 32, 1, 2, 3, 4, 5] [0, 33, 34, 35] [0, 31, 32, 33, 34, 35, 4, 5, 6, 7, 8, 9, 10, 11, 12, 13, 14, 15, 16, 17, 18, 19, 20, 21, 22, 23, 24, 25, 26, 27, 28, 29, 30, 1, 2, 3] [.ref (ad 0)] [] hx hb hml hown hts k_RX3_34 (fun sz => c_X0_keep l D cI cR (ad 1) (ad 3) ((fun j => ad (4 + j))) ((fun j => aa (2 + j))) o n τ (ad 0) ((aa 0)) σ ho hn sz) ⟨rfl, rfl, Nat.le_of_ble_eq_true rfl, Nat.le_of_ble_eq_true rfl⟩ hP hD hS hA hK 0 rfl rfl rfl rfl rfl rfl rfl (by decide) rfl rfl rfl hl rfl (Nat.le_of_ble_eq_true rfl) dX3_setCode_67 ⟨Nat.zero_le _, Nat.zero_le _⟩ (fun H locs hP hD hS => ?_)
          refine W.eq (g2 := F0 m 70 ls []) rfl ?_
          refine lv_aload_n hx hb dX3_setCode_70 rfl (lv_at hl 2 rfl) ?_
          refine va_get (D := D) (ci := 3) (v := .ref (ad 0)) (C := RX3) (T := TX3) (N := 3) hx hb hts inX3 hown hK hP 0 rfl rfl 0 (by decide) (hts _ fl_RX3_12) (fun _ h9 => h9) rfl dX3_setCode_71 ?_
          refine lv_iload_n hx hb dX3_setCode_74 rfl (lv_at hl 3 rfl) ?_
          refine lv_iload_n hx hb dX3_setCode_75 rfl (lv_at hl 4 rfl) ?_
          refine mu_call (ws' := (wCR h ad aa cI cR ((va_up σ (3 + (cl x)) (cl y))) (kpO o n) (kpN n) (va_up τ (kpS o n) σ) b ln g fo0)) [1, 2, 3, 4, 5] [0, 6, 7, 8, 9, 10, 11, 12, 13, 14, 15, 16, 17, 18, 19, 20, 21, 22, 23, 24, 25, 26, 27, 28, 29, 30, 31, 32, 33, 34, 35] [0, 31, 32, 33, 34, 35, 1, 2, 3, 4, 5, 6, 7, 8, 9, 10, 11, 12, 13, 14, 15, 16, 17, 18, 19, 20, 21, 22, 23, 24, 25, 26, 27, 28, 29, 30] [.int (nI (cl x)), .int (nI (cl y))] [] hx hb hml hown hts k_RX3_56 (fun sz => c_X1_putCodeS l D cI cR (ad 0) ((aa 0)) σ (cl x) (cl y) hw hk1 hk2 sz) ⟨rfl, rfl, Nat.le_of_ble_eq_true rfl, Nat.le_of_ble_eq_true rfl⟩ hP hD hS hA hK 1 rfl rfl rfl rfl rfl rfl rfl (by decide) rfl rfl rfl hl rfl (Nat.le_of_ble_eq_true rfl) dX3_setCode_76 ⟨Nat.zero_le _, Nat.zero_le _⟩ (fun H locs hP hD hS => ?_)
          refine W.eq (g2 := F0 m 79 ls []) rfl ?_
          refine lv_iload hx hb dX3_setCode_79 (lv_at hl 0 rfl) ?_
          have E0 : inB x (σ 0) = true := zB_ne0 q_8
          have E1 : inB y 16 = true := inB_lt (by decide) q_15 q_21
          have E2 : okC σ x y = true := okC_t (Or.inl q_38)
          have hP : va_P D vwCl (wCR h ad aa cI cR (cond (inB x (σ 0) && inB y 16 && okC σ x y) (va_up σ (3 + cl x) (cl y)) σ) (cond (inB x (σ 0) && inB y 16 && okC σ x y) (kpO o n) o) (cond (inB x (σ 0) && inB y 16 && okC σ x y) (kpN n) n) (cond (inB x (σ 0) && inB y 16 && okC σ x y) (va_up τ (kpS o n) σ) τ) b ln g fo0) H := by rw [E0, E1, E2]; exact hP
          have hD : va_D A (wCR h ad aa cI cR (cond (inB x (σ 0) && inB y 16 && okC σ x y) (va_up σ (3 + cl x) (cl y)) σ) (cond (inB x (σ 0) && inB y 16 && okC σ x y) (kpO o n) o) (cond (inB x (σ 0) && inB y 16 && okC σ x y) (kpN n) n) (cond (inB x (σ 0) && inB y 16 && okC σ x y) (va_up τ (kpS o n) σ) τ) b ln g fo0) := by rw [E0, E1, E2]; exact hD
          exact mu_reti hx hb hr hlocks (by unfold aSetCode; rw [E0, E1, E2] <;> rfl) hP hD hS dX3_setCode_81
        · refine lv_iload_n hx hb dX3_setCode_41 rfl (lv_at hl 0 rfl) ?_
          refine lv_iload_n hx hb dX3_setCode_42 rfl (lv_at hl 2 rfl) ?_
          refine lv_icmp_eq (tgt := 49) hx hb dX3_setCode_43 (by decide) (fun q_43 => ?_) (fun q_43 => ?_)
          · refine lv_aload_n hx hb dX3_setCode_49 rfl (lv_at hl 1 rfl) ?_
            refine va_get (D := D) (ci := 3) (v := .ref (ad 0)) (C := RX3) (T := TX3) (N := 3) hx hb hts inX3 hown hK hP 0 rfl rfl 0 (by decide) (hts _ fl_RX3_12) (fun _ h9 => h9) rfl dX3_setCode_50 ?_
            refine lv_iload_n hx hb dX3_setCode_53 rfl (lv_at hl 2 rfl) ?_
            refine nv_callV [.int (nI (cl x))] [] hx hb hml hown hts k_RX3_53 (c_X1_codeOf l D cI cR (ad 0) ((aa 0)) σ (cl x) hw hk1) ⟨rfl, rfl, Nat.le_of_ble_eq_true rfl, Nat.le_of_ble_eq_true rfl⟩ (hP.sub [1, 2, 3, 4, 5] rfl) hK 1 rfl rfl rfl rfl hl rfl (Nat.le_of_ble_eq_true rfl) dX3_setCode_54 ⟨Nat.zero_le _, Nat.zero_le _⟩ ?_
            refine lv_istore (lv' := [(4, .int (nI (σ (3 + (cl x))))), (3, .int (rcF σ (cl y))), (0, .ref h), (1, .int (nI (cl x))), (2, .int (nI (cl y)))]) hx hb dX3_setCode_57 hl (by decide) rfl (fun ls hl => ?_)
            refine lv_aload_n hx hb dX3_setCode_59 rfl (lv_at hl 2 rfl) ?_
            refine va_get (D := D) (ci := 3) (v := .ref (ad 1)) (C := RX3) (T := TX3) (N := 3) hx hb hts inX3 hown hK hP 0 rfl rfl 1 (by decide) (hts _ fl_RX3_19) (fun _ h9 => h9) rfl dX3_setCode_60 ?_
            refine lv_aload_n hx hb dX3_setCode_63 rfl (lv_at hl 2 rfl) ?_
            refine va_get (D := D) (ci := 3) (v := .ref (ad 0)) (C := RX3) (T := TX3) (N := 3) hx hb hts inX3 hown hK hP 0 rfl rfl 0 (by decide) (hts _ fl_RX3_12) (fun _ h9 => h9) rfl dX3_setCode_64 ?_
            refine mu_call (ws' := (wCR h ad aa cI cR σ (kpO o n) (kpN n) (va_up τ (kpS o n) σ) b ln g fo0)) [6, 7, 8, 9, 10, 11, 12, 13, 14, 15, 16, 17, 18, 19, 20, 21, 22, 23, 24, 25, 26, 27, 28, 29, 30, 31, 32, 1, 2, 3, 4, 5] [0, 33, 34, 35] [0, 31, 32, 33, 34, 35, 4, 5, 6, 7, 8, 9, 10, 11, 12, 13, 14, 15, 16, 17, 18, 19, 20, 21, 22, 23, 24, 25, 26, 27, 28, 29, 30, 1, 2, 3] [.ref (ad 0)] [] hx hb hml hown hts k_RX3_34 (fun sz => c_X0_keep l D cI cR (ad 1) (ad 3) ((fun j => ad (4 + j))) ((fun j => aa (2 + j))) o n τ (ad 0) ((aa 0)) σ ho hn sz) ⟨rfl, rfl, Nat.le_of_ble_eq_true rfl, Nat.le_of_ble_eq_true rfl⟩ hP hD hS hA hK 0 rfl rfl rfl rfl rfl rfl rfl (by decide) rfl rfl rfl hl rfl (Nat.le_of_ble_eq_true rfl) dX3_setCode_67 ⟨Nat.zero_le _, Nat.zero_le _⟩ (fun H locs hP hD hS => ?_)
            refine W.eq (g2 := F0 m 70 ls []) rfl ?_
            refine lv_aload_n hx hb dX3_setCode_70 rfl (lv_at hl 2 rfl) ?_
            refine va_get (D := D) (ci := 3) (v := .ref (ad 0)) (C := RX3) (T := TX3) (N := 3) hx hb hts inX3 hown hK hP 0 rfl rfl 0 (by decide) (hts _ fl_RX3_12) (fun _ h9 => h9) rfl dX3_setCode_71 ?_
            refine lv_iload_n hx hb dX3_setCode_74 rfl (lv_at hl 3 rfl) ?_
            refine lv_iload_n hx hb dX3_setCode_75 rfl (lv_at hl 4 rfl) ?_
            refine mu_call (ws' := (wCR h ad aa cI cR ((va_up σ (3 + (cl x)) (cl y))) (kpO o n) (kpN n) (va_up τ (kpS o n) σ) b ln g fo0)) [1, 2, 3, 4, 5] [0, 6, 7, 8, 9, 10, 11, 12, 13, 14, 15, 16, 17, 18, 19, 20, 21, 22, 23, 24, 25, 26, 27, 28, 29, 30, 31, 32, 33, 34, 35] [0, 31, 32, 33, 34, 35, 1, 2, 3, 4, 5, 6, 7, 8, 9, 10, 11, 12, 13, 14, 15, 16, 17, 18, 19, 20, 21, 22, 23, 24, 25, 26, 27, 28, 29, 30] [.int (nI (cl x)), .int (nI (cl y))] [] hx hb hml hown hts k_RX3_56 (fun sz => c_X1_putCodeS l D cI cR (ad 0) ((aa 0)) σ (cl x) (cl y) hw hk1 hk2 sz) ⟨rfl, rfl, Nat.le_of_ble_eq_true rfl, Nat.le_of_ble_eq_true rfl⟩ hP hD hS hA hK 1 rfl rfl rfl rfl rfl rfl rfl (by decide) rfl rfl rfl hl rfl (Nat.le_of_ble_eq_true rfl) dX3_setCode_76 ⟨Nat.zero_le _, Nat.zero_le _⟩ (fun H locs hP hD hS => ?_)
            refine W.eq (g2 := F0 m 79 ls []) rfl ?_
            refine lv_iload hx hb dX3_setCode_79 (lv_at hl 0 rfl) ?_
            have E0 : inB x (σ 0) = true := zB_ne0 q_8
            have E1 : inB y 16 = true := inB_lt (by decide) q_15 q_21
            have E2 : okC σ x y = true := okC_t (Or.inr (q_43.trans hx1.symm))
            have hP : va_P D vwCl (wCR h ad aa cI cR (cond (inB x (σ 0) && inB y 16 && okC σ x y) (va_up σ (3 + cl x) (cl y)) σ) (cond (inB x (σ 0) && inB y 16 && okC σ x y) (kpO o n) o) (cond (inB x (σ 0) && inB y 16 && okC σ x y) (kpN n) n) (cond (inB x (σ 0) && inB y 16 && okC σ x y) (va_up τ (kpS o n) σ) τ) b ln g fo0) H := by rw [E0, E1, E2]; exact hP
            have hD : va_D A (wCR h ad aa cI cR (cond (inB x (σ 0) && inB y 16 && okC σ x y) (va_up σ (3 + cl x) (cl y)) σ) (cond (inB x (σ 0) && inB y 16 && okC σ x y) (kpO o n) o) (cond (inB x (σ 0) && inB y 16 && okC σ x y) (kpN n) n) (cond (inB x (σ 0) && inB y 16 && okC σ x y) (va_up τ (kpS o n) σ) τ) b ln g fo0) := by rw [E0, E1, E2]; exact hD
            exact mu_reti hx hb hr hlocks (by unfold aSetCode; rw [E0, E1, E2] <;> rfl) hP hD hS dX3_setCode_81
          · refine lv_bipush (v := -4) hx hb dX3_setCode_46 (by decide) ?_
            have E0 : inB x (σ 0) = true := zB_ne0 q_8
            have E1 : inB y 16 = true := inB_lt (by decide) q_15 q_21
            have E2 : okC σ x y = false := okC_f q_38 (fun z => q_43 (z.trans hx1))
            have hP : va_P D vwCl (wCR h ad aa cI cR (cond (inB x (σ 0) && inB y 16 && okC σ x y) (va_up σ (3 + cl x) (cl y)) σ) (cond (inB x (σ 0) && inB y 16 && okC σ x y) (kpO o n) o) (cond (inB x (σ 0) && inB y 16 && okC σ x y) (kpN n) n) (cond (inB x (σ 0) && inB y 16 && okC σ x y) (va_up τ (kpS o n) σ) τ) b ln g fo0) H := by rw [E0, E1, E2]; exact hP
            have hD : va_D A (wCR h ad aa cI cR (cond (inB x (σ 0) && inB y 16 && okC σ x y) (va_up σ (3 + cl x) (cl y)) σ) (cond (inB x (σ 0) && inB y 16 && okC σ x y) (kpO o n) o) (cond (inB x (σ 0) && inB y 16 && okC σ x y) (kpN n) n) (cond (inB x (σ 0) && inB y 16 && okC σ x y) (va_up τ (kpS o n) σ) τ) b ln g fo0) := by rw [E0, E1, E2]; exact hD
            exact mu_reti hx hb hr hlocks (by unfold aSetCode; rw [E0, E1, E2] <;> rfl) hP hD hS dX3_setCode_48
      · refine lv_bipush (v := -3) hx hb dX3_setCode_24 (by decide) ?_
        have E0 : inB x (σ 0) = true := zB_ne0 q_8
        have E1 : inB y 16 = false := inB_nlt (by decide) q_21
        have hP : va_P D vwCl (wCR h ad aa cI cR (cond (inB x (σ 0) && inB y 16 && okC σ x y) (va_up σ (3 + cl x) (cl y)) σ) (cond (inB x (σ 0) && inB y 16 && okC σ x y) (kpO o n) o) (cond (inB x (σ 0) && inB y 16 && okC σ x y) (kpN n) n) (cond (inB x (σ 0) && inB y 16 && okC σ x y) (va_up τ (kpS o n) σ) τ) b ln g fo0) H := by rw [E0, E1]; exact hP
        have hD : va_D A (wCR h ad aa cI cR (cond (inB x (σ 0) && inB y 16 && okC σ x y) (va_up σ (3 + cl x) (cl y)) σ) (cond (inB x (σ 0) && inB y 16 && okC σ x y) (kpO o n) o) (cond (inB x (σ 0) && inB y 16 && okC σ x y) (kpN n) n) (cond (inB x (σ 0) && inB y 16 && okC σ x y) (va_up τ (kpS o n) σ) τ) b ln g fo0) := by rw [E0, E1]; exact hD
        exact mu_reti hx hb hr hlocks (by unfold aSetCode; rw [E0, E1] <;> rfl) hP hD hS dX3_setCode_26
  · refine lv_bipush (v := -2) hx hb dX3_setCode_11 (by decide) ?_
    have E0 : inB x (σ 0) = false := zB_eq0 q_8
    have hP : va_P D vwCl (wCR h ad aa cI cR (cond (inB x (σ 0) && inB y 16 && okC σ x y) (va_up σ (3 + cl x) (cl y)) σ) (cond (inB x (σ 0) && inB y 16 && okC σ x y) (kpO o n) o) (cond (inB x (σ 0) && inB y 16 && okC σ x y) (kpN n) n) (cond (inB x (σ 0) && inB y 16 && okC σ x y) (va_up τ (kpS o n) σ) τ) b ln g fo0) H := by rw [E0]; exact hP
    have hD : va_D A (wCR h ad aa cI cR (cond (inB x (σ 0) && inB y 16 && okC σ x y) (va_up σ (3 + cl x) (cl y)) σ) (cond (inB x (σ 0) && inB y 16 && okC σ x y) (kpO o n) o) (cond (inB x (σ 0) && inB y 16 && okC σ x y) (kpN n) n) (cond (inB x (σ 0) && inB y 16 && okC σ x y) (va_up τ (kpS o n) σ) τ) b ln g fo0) := by rw [E0]; exact hD
    exact mu_reti hx hb hr hlocks (by unfold aSetCode; rw [E0] <;> rfl) hP hD hS dX3_setCode_13
set_option maxHeartbeats 4000000 in
set_option maxRecDepth 100000 in
theorem c_X3_weave (l : Launch) (D : va_G) (cI cR : ClassId) (h : Nat) (ad : Nat → Nat) (aa : Nat → Nat → Nat) (σ : Nat → Nat) (o : Nat) (n : Nat) (τ : Nat → Nat → Nat) (b : Nat → Nat) (ln : Nat) (g : Nat → Nat) (fo0 : Nat) (x : Int32) (y : Int32)  (hw : wf σ) (ho : o < 5) (hn : n ≤ 5) (sz : Nat) : Met l yX3_weave (wsC yX3_weave cX3_weave 4 (some .int)) (rmK 3 82) (nPreM D (nTy cI cR) [.ref h, .int x, .int y] (wCR h ad aa cI cR σ o n τ b ln g fo0) sz) (QcM D (some (.int (aWeave σ x y))) (wCR h ad aa cI cR (cond (inB x (nA σ) && inB y (2 ^ σ 1)) (va_up σ (19 + cl x) (cl y)) σ) (cond (inB x (nA σ) && inB y (2 ^ σ 1)) (kpO o n) o) (cond (inB x (nA σ) && inB y (2 ^ σ 1)) (kpN n) n) (cond (inB x (nA σ) && inB y (2 ^ σ 1)) (va_up τ (kpS o n) σ) τ) b ln g fo0) (va_A (wCR h ad aa cI cR σ o n τ b ln g fo0) sz)) 0 0 (va_A (wCR h ad aa cI cR σ o n τ b ln g fo0) sz) := by
  refine met_mut (Qc := fun A => QcM D (some (.int (aWeave σ x y))) (wCR h ad aa cI cR (cond (inB x (nA σ) && inB y (2 ^ σ 1)) (va_up σ (19 + cl x) (cl y)) σ) (cond (inB x (nA σ) && inB y (2 ^ σ 1)) (kpO o n) o) (cond (inB x (nA σ) && inB y (2 ^ σ 1)) (kpN n) n) (cond (inB x (nA σ) && inB y (2 ^ σ 1)) (va_up τ (kpS o n) σ) τ) b ln g fo0) A) rfl (Nat.le_of_ble_eq_true rfl) ?_
  intro p e s m args below meth c ls A H locs hx hb hml hr hlocks hown hts hP hK hD hA hS hl
  have hl : lv_has ls 4 [(0, .ref h), (1, .int x), (2, .int y)] := hl
  have hA41 := hw.w41
  have hA33 := hw.a33
  have hA48 := hw.a48
  obtain ⟨hR2, hR, hB1, hB, hSa, hSb, -⟩ := id hw
  have h1024 := p2_10 hB
  refine lv_aload_n hx hb dX3_weave_0 rfl (lv_at hl 0 rfl) ?_
  refine va_get (D := D) (ci := 3) (v := .ref (ad 0)) (C := RX3) (T := TX3) (N := 3) hx hb hts inX3 hown hK hP 0 rfl rfl 0 (by decide) (hts _ fl_RX3_12) (fun _ h9 => h9) rfl dX3_weave_1 ?_
  refine lv_iload_n hx hb dX3_weave_4 rfl (lv_at hl 1 rfl) ?_
  refine nv_callV [.int x] [] hx hb hml hown hts k_RX3_60 (c_X1_hasAddressS l D cI cR (ad 0) ((aa 0)) σ x hw) ⟨rfl, rfl, Nat.le_of_ble_eq_true rfl, Nat.le_of_ble_eq_true rfl⟩ (hP.sub [1, 2, 3, 4, 5] rfl) hK 1 rfl rfl rfl rfl hl rfl (Nat.le_of_ble_eq_true rfl) dX3_weave_5 ⟨Nat.zero_le _, Nat.zero_le _⟩ ?_
  refine lv_if_ne (tgt := 14) hx hb dX3_weave_8 (by decide) (fun q_8 => ?_) (fun q_8 => ?_)
  · obtain ⟨hk1, hx1⟩ := inB_cl (by omega) (zB_ne0 q_8)
    have hl := lv_repl [(0, .ref h), (1, .int (nI (cl x))), (2, .int y)] 1 rfl (congrArg (fun z : Int32 => Value.int z) (show x = nI (cl x) from hx1)) rfl hl
    refine lv_aload_n hx hb dX3_weave_14 rfl (lv_at hl 0 rfl) ?_
    refine va_get (D := D) (ci := 3) (v := .ref (ad 0)) (C := RX3) (T := TX3) (N := 3) hx hb hts inX3 hown hK hP 0 rfl rfl 0 (by decide) (hts _ fl_RX3_12) (fun _ h9 => h9) rfl dX3_weave_15 ?_
    refine lv_iload_n hx hb dX3_weave_18 rfl (lv_at hl 2 rfl) ?_
    refine nv_callV [.int y] [] hx hb hml hown hts k_RX3_63 (c_X1_fits l D cI cR (ad 0) ((aa 0)) (σ 0) (σ 1) (σ 2) (onF σ) (wwF σ) (crF σ) (ptF σ) y (by omega)) ⟨rfl, rfl, Nat.le_of_ble_eq_true rfl, Nat.le_of_ble_eq_true rfl⟩ (hP.sub [1, 2, 3, 4, 5] rfl) hK 1 rfl rfl rfl rfl hl rfl (Nat.le_of_ble_eq_true rfl) dX3_weave_19 ⟨Nat.zero_le _, Nat.zero_le _⟩ ?_
    refine lv_if_ne (tgt := 28) hx hb dX3_weave_22 (by decide) (fun q_22 => ?_) (fun q_22 => ?_)
    · obtain ⟨hk2, hx2⟩ := inB_cl (by omega) (zB_ne0 q_22)
      have hl := lv_repl [(0, .ref h), (1, .int (nI (cl x))), (2, .int (nI (cl y)))] 2 rfl (congrArg (fun z : Int32 => Value.int z) (show y = nI (cl y) from hx2)) rfl hl
      refine lv_aload_n hx hb dX3_weave_28 rfl (lv_at hl 0 rfl) ?_
      refine va_get (D := D) (ci := 3) (v := .ref (ad 0)) (C := RX3) (T := TX3) (N := 3) hx hb hts inX3 hown hK hP 0 rfl rfl 0 (by decide) (hts _ fl_RX3_12) (fun _ h9 => h9) rfl dX3_weave_29 ?_
      refine lv_iload_n hx hb dX3_weave_32 rfl (lv_at hl 1 rfl) ?_
      refine nv_callV [.int (nI (cl x))] [] hx hb hml hown hts k_RX3_66 (c_X1_wordAt l D cI cR (ad 0) ((aa 0)) σ (cl x) hw hk1) ⟨rfl, rfl, Nat.le_of_ble_eq_true rfl, Nat.le_of_ble_eq_true rfl⟩ (hP.sub [1, 2, 3, 4, 5] rfl) hK 1 rfl rfl rfl rfl hl rfl (Nat.le_of_ble_eq_true rfl) dX3_weave_33 ⟨Nat.zero_le _, Nat.zero_le _⟩ ?_
      refine lv_istore_n (lv' := [(3, .int (nI (σ (19 + (cl x))))), (0, .ref h), (1, .int (nI (cl x))), (2, .int (nI (cl y)))]) hx hb dX3_weave_36 rfl hl (by decide) rfl (fun ls hl => ?_)
      refine lv_aload_n hx hb dX3_weave_37 rfl (lv_at hl 1 rfl) ?_
      refine va_get (D := D) (ci := 3) (v := .ref (ad 1)) (C := RX3) (T := TX3) (N := 3) hx hb hts inX3 hown hK hP 0 rfl rfl 1 (by decide) (hts _ fl_RX3_19) (fun _ h9 => h9) rfl dX3_weave_38 ?_
      refine lv_aload_n hx hb dX3_weave_41 rfl (lv_at hl 1 rfl) ?_
      refine va_get (D := D) (ci := 3) (v := .ref (ad 0)) (C := RX3) (T := TX3) (N := 3) hx hb hts inX3 hown hK hP 0 rfl rfl 0 (by decide) (hts _ fl_RX3_12) (fun _ h9 => h9) rfl dX3_weave_42 ?_
      refine mu_call (ws' := (wCR h ad aa cI cR σ (kpO o n) (kpN n) (va_up τ (kpS o n) σ) b ln g fo0)) [6, 7, 8, 9, 10, 11, 12, 13, 14, 15, 16, 17, 18, 19, 20, 21, 22, 23, 24, 25, 26, 27, 28, 29, 30, 31, 32, 1, 2, 3, 4, 5] [0, 33, 34, 35] [0, 31, 32, 33, 34, 35, 4, 5, 6, 7, 8, 9, 10, 11, 12, 13, 14, 15, 16, 17, 18, 19, 20, 21, 22, 23, 24, 25, 26, 27, 28, 29, 30, 1, 2, 3] [.ref (ad 0)] [] hx hb hml hown hts k_RX3_34 (fun sz => c_X0_keep l D cI cR (ad 1) (ad 3) ((fun j => ad (4 + j))) ((fun j => aa (2 + j))) o n τ (ad 0) ((aa 0)) σ ho hn sz) ⟨rfl, rfl, Nat.le_of_ble_eq_true rfl, Nat.le_of_ble_eq_true rfl⟩ hP hD hS hA hK 0 rfl rfl rfl rfl rfl rfl rfl (by decide) rfl rfl rfl hl rfl (Nat.le_of_ble_eq_true rfl) dX3_weave_45 ⟨Nat.zero_le _, Nat.zero_le _⟩ (fun H locs hP hD hS => ?_)
      refine W.eq (g2 := F0 m 48 ls []) rfl ?_
      refine lv_aload_n hx hb dX3_weave_48 rfl (lv_at hl 1 rfl) ?_
      refine va_get (D := D) (ci := 3) (v := .ref (ad 0)) (C := RX3) (T := TX3) (N := 3) hx hb hts inX3 hown hK hP 0 rfl rfl 0 (by decide) (hts _ fl_RX3_12) (fun _ h9 => h9) rfl dX3_weave_49 ?_
      refine lv_iload_n hx hb dX3_weave_52 rfl (lv_at hl 2 rfl) ?_
      refine lv_iload_n hx hb dX3_weave_53 rfl (lv_at hl 3 rfl) ?_
      refine mu_call (ws' := (wCR h ad aa cI cR ((va_up σ (19 + (cl x)) (cl y))) (kpO o n) (kpN n) (va_up τ (kpS o n) σ) b ln g fo0)) [1, 2, 3, 4, 5] [0, 6, 7, 8, 9, 10, 11, 12, 13, 14, 15, 16, 17, 18, 19, 20, 21, 22, 23, 24, 25, 26, 27, 28, 29, 30, 31, 32, 33, 34, 35] [0, 31, 32, 33, 34, 35, 1, 2, 3, 4, 5, 6, 7, 8, 9, 10, 11, 12, 13, 14, 15, 16, 17, 18, 19, 20, 21, 22, 23, 24, 25, 26, 27, 28, 29, 30] [.int (nI (cl x)), .int (nI (cl y))] [] hx hb hml hown hts k_RX3_69 (fun sz => c_X1_putWordS l D cI cR (ad 0) ((aa 0)) σ (cl x) (cl y) hw hk1 (by omega) sz) ⟨rfl, rfl, Nat.le_of_ble_eq_true rfl, Nat.le_of_ble_eq_true rfl⟩ hP hD hS hA hK 1 rfl rfl rfl rfl rfl rfl rfl (by decide) rfl rfl rfl hl rfl (Nat.le_of_ble_eq_true rfl) dX3_weave_54 ⟨Nat.zero_le _, Nat.zero_le _⟩ (fun H locs hP hD hS => ?_)
      refine W.eq (g2 := F0 m 57 ls []) rfl ?_
      refine lv_iload_n hx hb dX3_weave_57 rfl (lv_at hl 0 rfl) ?_
      have E0 : inB x (nA σ) = true := zB_ne0 q_8
      have E1 : inB y (2 ^ σ 1) = true := zB_ne0 q_22
      have hP : va_P D vwCl (wCR h ad aa cI cR (cond (inB x (nA σ) && inB y (2 ^ σ 1)) (va_up σ (19 + cl x) (cl y)) σ) (cond (inB x (nA σ) && inB y (2 ^ σ 1)) (kpO o n) o) (cond (inB x (nA σ) && inB y (2 ^ σ 1)) (kpN n) n) (cond (inB x (nA σ) && inB y (2 ^ σ 1)) (va_up τ (kpS o n) σ) τ) b ln g fo0) H := by rw [E0, E1]; exact hP
      have hD : va_D A (wCR h ad aa cI cR (cond (inB x (nA σ) && inB y (2 ^ σ 1)) (va_up σ (19 + cl x) (cl y)) σ) (cond (inB x (nA σ) && inB y (2 ^ σ 1)) (kpO o n) o) (cond (inB x (nA σ) && inB y (2 ^ σ 1)) (kpN n) n) (cond (inB x (nA σ) && inB y (2 ^ σ 1)) (va_up τ (kpS o n) σ) τ) b ln g fo0) := by rw [E0, E1]; exact hD
      exact mu_reti hx hb hr hlocks (by unfold aWeave; rw [E0, E1] <;> rfl) hP hD hS dX3_weave_58
    · refine lv_bipush (v := -3) hx hb dX3_weave_25 (by decide) ?_
      have E0 : inB x (nA σ) = true := zB_ne0 q_8
      have E1 : inB y (2 ^ σ 1) = false := zB_eq0 q_22
      have hP : va_P D vwCl (wCR h ad aa cI cR (cond (inB x (nA σ) && inB y (2 ^ σ 1)) (va_up σ (19 + cl x) (cl y)) σ) (cond (inB x (nA σ) && inB y (2 ^ σ 1)) (kpO o n) o) (cond (inB x (nA σ) && inB y (2 ^ σ 1)) (kpN n) n) (cond (inB x (nA σ) && inB y (2 ^ σ 1)) (va_up τ (kpS o n) σ) τ) b ln g fo0) H := by rw [E0, E1]; exact hP
      have hD : va_D A (wCR h ad aa cI cR (cond (inB x (nA σ) && inB y (2 ^ σ 1)) (va_up σ (19 + cl x) (cl y)) σ) (cond (inB x (nA σ) && inB y (2 ^ σ 1)) (kpO o n) o) (cond (inB x (nA σ) && inB y (2 ^ σ 1)) (kpN n) n) (cond (inB x (nA σ) && inB y (2 ^ σ 1)) (va_up τ (kpS o n) σ) τ) b ln g fo0) := by rw [E0, E1]; exact hD
      exact mu_reti hx hb hr hlocks (by unfold aWeave; rw [E0, E1] <;> rfl) hP hD hS dX3_weave_27
  · refine lv_bipush (v := -2) hx hb dX3_weave_11 (by decide) ?_
    have E0 : inB x (nA σ) = false := zB_eq0 q_8
    have hP : va_P D vwCl (wCR h ad aa cI cR (cond (inB x (nA σ) && inB y (2 ^ σ 1)) (va_up σ (19 + cl x) (cl y)) σ) (cond (inB x (nA σ) && inB y (2 ^ σ 1)) (kpO o n) o) (cond (inB x (nA σ) && inB y (2 ^ σ 1)) (kpN n) n) (cond (inB x (nA σ) && inB y (2 ^ σ 1)) (va_up τ (kpS o n) σ) τ) b ln g fo0) H := by rw [E0]; exact hP
    have hD : va_D A (wCR h ad aa cI cR (cond (inB x (nA σ) && inB y (2 ^ σ 1)) (va_up σ (19 + cl x) (cl y)) σ) (cond (inB x (nA σ) && inB y (2 ^ σ 1)) (kpO o n) o) (cond (inB x (nA σ) && inB y (2 ^ σ 1)) (kpN n) n) (cond (inB x (nA σ) && inB y (2 ^ σ 1)) (va_up τ (kpS o n) σ) τ) b ln g fo0) := by rw [E0]; exact hD
    exact mu_reti hx hb hr hlocks (by unfold aWeave; rw [E0] <;> rfl) hP hD hS dX3_weave_13
set_option maxHeartbeats 4000000 in
set_option maxRecDepth 100000 in
theorem c_X3_cross (l : Launch) (D : va_G) (cI cR : ClassId) (h : Nat) (ad : Nat → Nat) (aa : Nat → Nat → Nat) (σ : Nat → Nat) (o : Nat) (n : Nat) (τ : Nat → Nat → Nat) (b : Nat → Nat) (ln : Nat) (g : Nat → Nat) (fo0 : Nat) (x : Int32)  (hw : wf σ) (ho : o < 5) (hn : n ≤ 5) (sz : Nat) : Met l yX3_cross (wsC yX3_cross cX3_cross 2 (some .int)) (rmK 3 82) (nPreM D (nTy cI cR) [.ref h, .int x] (wCR h ad aa cI cR σ o n τ b ln g fo0) sz) (QcM D (some (.int (aCross σ x))) (wCR h ad aa cI cR (cond (inB x (nW σ) && !inB x 8) (va_up σ (67 + (cl x - 8)) (1 - crN σ (cl x))) σ) (cond (inB x (nW σ) && !inB x 8) (kpO o n) o) (cond (inB x (nW σ) && !inB x 8) (kpN n) n) (cond (inB x (nW σ) && !inB x 8) (va_up τ (kpS o n) σ) τ) b ln g fo0) (va_A (wCR h ad aa cI cR σ o n τ b ln g fo0) sz)) 0 0 (va_A (wCR h ad aa cI cR σ o n τ b ln g fo0) sz) := by
  refine met_mut (Qc := fun A => QcM D (some (.int (aCross σ x))) (wCR h ad aa cI cR (cond (inB x (nW σ) && !inB x 8) (va_up σ (67 + (cl x - 8)) (1 - crN σ (cl x))) σ) (cond (inB x (nW σ) && !inB x 8) (kpO o n) o) (cond (inB x (nW σ) && !inB x 8) (kpN n) n) (cond (inB x (nW σ) && !inB x 8) (va_up τ (kpS o n) σ) τ) b ln g fo0) A) rfl (Nat.le_of_ble_eq_true rfl) ?_
  intro p e s m args below meth c ls A H locs hx hb hml hr hlocks hown hts hP hK hD hA hS hl
  have hl : lv_has ls 2 [(0, .ref h), (1, .int x)] := hl
  have hA41 := hw.w41
  have hA33 := hw.a33
  have hA48 := hw.a48
  obtain ⟨hR2, hR, hB1, hB, hSa, hSb, -⟩ := id hw
  have h1024 := p2_10 hB
  refine lv_aload_n hx hb dX3_cross_0 rfl (lv_at hl 0 rfl) ?_
  refine va_get (D := D) (ci := 3) (v := .ref (ad 0)) (C := RX3) (T := TX3) (N := 3) hx hb hts inX3 hown hK hP 0 rfl rfl 0 (by decide) (hts _ fl_RX3_12) (fun _ h9 => h9) rfl dX3_cross_1 ?_
  refine lv_iload_n hx hb dX3_cross_4 rfl (lv_at hl 1 rfl) ?_
  refine nv_callV [.int x] [] hx hb hml hown hts k_RX3_72 (c_X1_hasWireS l D cI cR (ad 0) ((aa 0)) σ x hw) ⟨rfl, rfl, Nat.le_of_ble_eq_true rfl, Nat.le_of_ble_eq_true rfl⟩ (hP.sub [1, 2, 3, 4, 5] rfl) hK 1 rfl rfl rfl rfl hl rfl (Nat.le_of_ble_eq_true rfl) dX3_cross_5 ⟨Nat.zero_le _, Nat.zero_le _⟩ ?_
  refine lv_if_ne (tgt := 14) hx hb dX3_cross_8 (by decide) (fun q_8 => ?_) (fun q_8 => ?_)
  · obtain ⟨hk1, hx1⟩ := inB_cl (by omega) (zB_ne0 q_8)
    have hl := lv_repl [(0, .ref h), (1, .int (nI (cl x)))] 1 rfl (congrArg (fun z : Int32 => Value.int z) (show x = nI (cl x) from hx1)) rfl hl
    refine lv_iload_n hx hb dX3_cross_14 rfl (lv_at hl 1 rfl) ?_
    refine lv_bipush (v := nI 8) hx hb dX3_cross_15 (by decide) ?_
    refine nv_icmp_ge (tgt := 23) hx hb dX3_cross_17 (by decide) (by omega) (by omega) (fun q_17 => ?_) (fun q_17 => ?_)
    · refine lv_aload_n hx hb dX3_cross_23 rfl (lv_at hl 0 rfl) ?_
      refine va_get (D := D) (ci := 3) (v := .ref (ad 1)) (C := RX3) (T := TX3) (N := 3) hx hb hts inX3 hown hK hP 0 rfl rfl 1 (by decide) (hts _ fl_RX3_19) (fun _ h9 => h9) rfl dX3_cross_24 ?_
      refine lv_aload_n hx hb dX3_cross_27 rfl (lv_at hl 0 rfl) ?_
      refine va_get (D := D) (ci := 3) (v := .ref (ad 0)) (C := RX3) (T := TX3) (N := 3) hx hb hts inX3 hown hK hP 0 rfl rfl 0 (by decide) (hts _ fl_RX3_12) (fun _ h9 => h9) rfl dX3_cross_28 ?_
      refine mu_call (ws' := (wCR h ad aa cI cR σ (kpO o n) (kpN n) (va_up τ (kpS o n) σ) b ln g fo0)) [6, 7, 8, 9, 10, 11, 12, 13, 14, 15, 16, 17, 18, 19, 20, 21, 22, 23, 24, 25, 26, 27, 28, 29, 30, 31, 32, 1, 2, 3, 4, 5] [0, 33, 34, 35] [0, 31, 32, 33, 34, 35, 4, 5, 6, 7, 8, 9, 10, 11, 12, 13, 14, 15, 16, 17, 18, 19, 20, 21, 22, 23, 24, 25, 26, 27, 28, 29, 30, 1, 2, 3] [.ref (ad 0)] [] hx hb hml hown hts k_RX3_34 (fun sz => c_X0_keep l D cI cR (ad 1) (ad 3) ((fun j => ad (4 + j))) ((fun j => aa (2 + j))) o n τ (ad 0) ((aa 0)) σ ho hn sz) ⟨rfl, rfl, Nat.le_of_ble_eq_true rfl, Nat.le_of_ble_eq_true rfl⟩ hP hD hS hA hK 0 rfl rfl rfl rfl rfl rfl rfl (by decide) rfl rfl rfl hl rfl (Nat.le_of_ble_eq_true rfl) dX3_cross_31 ⟨Nat.zero_le _, Nat.zero_le _⟩ (fun H locs hP hD hS => ?_)
      refine W.eq (g2 := F0 m 34 ls []) rfl ?_
      refine lv_aload_n hx hb dX3_cross_34 rfl (lv_at hl 0 rfl) ?_
      refine va_get (D := D) (ci := 3) (v := .ref (ad 0)) (C := RX3) (T := TX3) (N := 3) hx hb hts inX3 hown hK hP 0 rfl rfl 0 (by decide) (hts _ fl_RX3_12) (fun _ h9 => h9) rfl dX3_cross_35 ?_
      refine lv_iload_n hx hb dX3_cross_38 rfl (lv_at hl 1 rfl) ?_
      refine mu_call (ws' := (wCR h ad aa cI cR ((va_up σ (67 + ((cl x) - 8)) (1 - crN σ (cl x)))) (kpO o n) (kpN n) (va_up τ (kpS o n) σ) b ln g fo0)) [1, 2, 3, 4, 5] [0, 6, 7, 8, 9, 10, 11, 12, 13, 14, 15, 16, 17, 18, 19, 20, 21, 22, 23, 24, 25, 26, 27, 28, 29, 30, 31, 32, 33, 34, 35] [0, 31, 32, 33, 34, 35, 1, 2, 3, 4, 5, 6, 7, 8, 9, 10, 11, 12, 13, 14, 15, 16, 17, 18, 19, 20, 21, 22, 23, 24, 25, 26, 27, 28, 29, 30] [.int (nI (cl x))] [] hx hb hml hown hts k_RX3_75 (fun sz => c_X1_turnS l D cI cR (ad 0) ((aa 0)) σ (cl x) hw q_17 hk1 sz) ⟨rfl, rfl, Nat.le_of_ble_eq_true rfl, Nat.le_of_ble_eq_true rfl⟩ hP hD hS hA hK 1 rfl rfl rfl rfl rfl rfl rfl (by decide) rfl rfl rfl hl rfl (Nat.le_of_ble_eq_true rfl) dX3_cross_39 ⟨Nat.zero_le _, Nat.zero_le _⟩ (fun H locs hP hD hS => ?_)
      refine W.eq (g2 := F0 m 42 ls [.int (nI (1 - crN σ (cl x)))]) rfl ?_
      have E0 : inB x (nW σ) = true := zB_ne0 q_8
      have E1 : inB x 8 = false := inB_clf hx1 (by omega) q_17
      have hP : va_P D vwCl (wCR h ad aa cI cR (cond (inB x (nW σ) && !inB x 8) (va_up σ (67 + (cl x - 8)) (1 - crN σ (cl x))) σ) (cond (inB x (nW σ) && !inB x 8) (kpO o n) o) (cond (inB x (nW σ) && !inB x 8) (kpN n) n) (cond (inB x (nW σ) && !inB x 8) (va_up τ (kpS o n) σ) τ) b ln g fo0) H := by rw [E0, E1]; exact hP
      have hD : va_D A (wCR h ad aa cI cR (cond (inB x (nW σ) && !inB x 8) (va_up σ (67 + (cl x - 8)) (1 - crN σ (cl x))) σ) (cond (inB x (nW σ) && !inB x 8) (kpO o n) o) (cond (inB x (nW σ) && !inB x 8) (kpN n) n) (cond (inB x (nW σ) && !inB x 8) (va_up τ (kpS o n) σ) τ) b ln g fo0) := by rw [E0, E1]; exact hD
      exact mu_reti hx hb hr hlocks (by unfold aCross; rw [E0, E1] <;> rfl) hP hD hS dX3_cross_42
    · refine lv_bipush (v := -4) hx hb dX3_cross_20 (by decide) ?_
      have E0 : inB x (nW σ) = true := zB_ne0 q_8
      have E1 : inB x 8 = true := inB_clt hx1 (by decide) q_17
      have hP : va_P D vwCl (wCR h ad aa cI cR (cond (inB x (nW σ) && !inB x 8) (va_up σ (67 + (cl x - 8)) (1 - crN σ (cl x))) σ) (cond (inB x (nW σ) && !inB x 8) (kpO o n) o) (cond (inB x (nW σ) && !inB x 8) (kpN n) n) (cond (inB x (nW σ) && !inB x 8) (va_up τ (kpS o n) σ) τ) b ln g fo0) H := by rw [E0, E1]; exact hP
      have hD : va_D A (wCR h ad aa cI cR (cond (inB x (nW σ) && !inB x 8) (va_up σ (67 + (cl x - 8)) (1 - crN σ (cl x))) σ) (cond (inB x (nW σ) && !inB x 8) (kpO o n) o) (cond (inB x (nW σ) && !inB x 8) (kpN n) n) (cond (inB x (nW σ) && !inB x 8) (va_up τ (kpS o n) σ) τ) b ln g fo0) := by rw [E0, E1]; exact hD
      exact mu_reti hx hb hr hlocks (by unfold aCross; rw [E0, E1] <;> rfl) hP hD hS dX3_cross_22
  · refine lv_bipush (v := -2) hx hb dX3_cross_11 (by decide) ?_
    have E0 : inB x (nW σ) = false := zB_eq0 q_8
    have hP : va_P D vwCl (wCR h ad aa cI cR (cond (inB x (nW σ) && !inB x 8) (va_up σ (67 + (cl x - 8)) (1 - crN σ (cl x))) σ) (cond (inB x (nW σ) && !inB x 8) (kpO o n) o) (cond (inB x (nW σ) && !inB x 8) (kpN n) n) (cond (inB x (nW σ) && !inB x 8) (va_up τ (kpS o n) σ) τ) b ln g fo0) H := by rw [E0]; exact hP
    have hD : va_D A (wCR h ad aa cI cR (cond (inB x (nW σ) && !inB x 8) (va_up σ (67 + (cl x - 8)) (1 - crN σ (cl x))) σ) (cond (inB x (nW σ) && !inB x 8) (kpO o n) o) (cond (inB x (nW σ) && !inB x 8) (kpN n) n) (cond (inB x (nW σ) && !inB x 8) (va_up τ (kpS o n) σ) τ) b ln g fo0) := by rw [E0]; exact hD
    exact mu_reti hx hb hr hlocks (by unfold aCross; rw [E0] <;> rfl) hP hD hS dX3_cross_13
set_option maxHeartbeats 4000000 in
set_option maxRecDepth 100000 in
theorem c_X3_economize (l : Launch) (D : va_G) (cI cR : ClassId) (h : Nat) (ad : Nat → Nat) (aa : Nat → Nat → Nat) (σ : Nat → Nat) (o : Nat) (n : Nat) (τ : Nat → Nat → Nat) (b : Nat → Nat) (ln : Nat) (g : Nat → Nat) (fo0 : Nat)   (hw : wf σ) (ho : o < 5) (hn : n ≤ 5) (sz : Nat) : Met l yX3_economize (wsC yX3_economize cX3_economize 1 (some .int)) (rmK 3 82) (nPreM D (nTy cI cR) [.ref h] (wCR h ad aa cI cR σ o n τ b ln g fo0) sz) (QcM D (some (.int (nI (mcC σ (nW σ))))) (wCR h ad aa cI cR (ecS σ) (kpO o n) (kpN n) (va_up τ (kpS o n) σ) b ln g fo0) (va_A (wCR h ad aa cI cR σ o n τ b ln g fo0) sz)) 0 0 (va_A (wCR h ad aa cI cR σ o n τ b ln g fo0) sz) := by
  refine met_mut (Qc := fun A => QcM D (some (.int (nI (mcC σ (nW σ))))) (wCR h ad aa cI cR (ecS σ) (kpO o n) (kpN n) (va_up τ (kpS o n) σ) b ln g fo0) A) rfl (Nat.le_of_ble_eq_true rfl) ?_
  intro p e s m args below meth c ls A H locs hx hb hml hr hlocks hown hts hP hK hD hA hS hl
  have hl : lv_has ls 1 [(0, .ref h)] := hl
  have hA41 := hw.w41
  have hA33 := hw.a33
  have hA48 := hw.a48
  obtain ⟨hR2, hR, hB1, hB, hSa, hSb, -⟩ := id hw
  have h1024 := p2_10 hB
  refine lv_aload_n hx hb dX3_economize_0 rfl (lv_at hl 0 rfl) ?_
  refine va_get (D := D) (ci := 3) (v := .ref (ad 1)) (C := RX3) (T := TX3) (N := 3) hx hb hts inX3 hown hK hP 0 rfl rfl 1 (by decide) (hts _ fl_RX3_19) (fun _ h9 => h9) rfl dX3_economize_1 ?_
  refine lv_aload_n hx hb dX3_economize_4 rfl (lv_at hl 0 rfl) ?_
  refine va_get (D := D) (ci := 3) (v := .ref (ad 0)) (C := RX3) (T := TX3) (N := 3) hx hb hts inX3 hown hK hP 0 rfl rfl 0 (by decide) (hts _ fl_RX3_12) (fun _ h9 => h9) rfl dX3_economize_5 ?_
  refine mu_call (ws' := (wCR h ad aa cI cR σ (kpO o n) (kpN n) (va_up τ (kpS o n) σ) b ln g fo0)) [6, 7, 8, 9, 10, 11, 12, 13, 14, 15, 16, 17, 18, 19, 20, 21, 22, 23, 24, 25, 26, 27, 28, 29, 30, 31, 32, 1, 2, 3, 4, 5] [0, 33, 34, 35] [0, 31, 32, 33, 34, 35, 4, 5, 6, 7, 8, 9, 10, 11, 12, 13, 14, 15, 16, 17, 18, 19, 20, 21, 22, 23, 24, 25, 26, 27, 28, 29, 30, 1, 2, 3] [.ref (ad 0)] [] hx hb hml hown hts k_RX3_34 (fun sz => c_X0_keep l D cI cR (ad 1) (ad 3) ((fun j => ad (4 + j))) ((fun j => aa (2 + j))) o n τ (ad 0) ((aa 0)) σ ho hn sz) ⟨rfl, rfl, Nat.le_of_ble_eq_true rfl, Nat.le_of_ble_eq_true rfl⟩ hP hD hS hA hK 0 rfl rfl rfl rfl rfl rfl rfl (by decide) rfl rfl rfl hl rfl (Nat.le_of_ble_eq_true rfl) dX3_economize_8 ⟨Nat.zero_le _, Nat.zero_le _⟩ (fun H locs hP hD hS => ?_)
  refine W.eq (g2 := F0 m 11 ls []) rfl ?_
  refine lv_aload_n hx hb dX3_economize_11 rfl (lv_at hl 0 rfl) ?_
  refine va_get (D := D) (ci := 3) (v := .ref (ad 0)) (C := RX3) (T := TX3) (N := 3) hx hb hts inX3 hown hK hP 0 rfl rfl 0 (by decide) (hts _ fl_RX3_12) (fun _ h9 => h9) rfl dX3_economize_12 ?_
  refine mu_call (ws' := (wCR h ad aa cI cR (ecS σ) (kpO o n) (kpN n) (va_up τ (kpS o n) σ) b ln g fo0)) [1, 2, 3, 4, 5] [0, 6, 7, 8, 9, 10, 11, 12, 13, 14, 15, 16, 17, 18, 19, 20, 21, 22, 23, 24, 25, 26, 27, 28, 29, 30, 31, 32, 33, 34, 35] [0, 31, 32, 33, 34, 35, 1, 2, 3, 4, 5, 6, 7, 8, 9, 10, 11, 12, 13, 14, 15, 16, 17, 18, 19, 20, 21, 22, 23, 24, 25, 26, 27, 28, 29, 30] [] [] hx hb hml hown hts k_RX3_85 (fun sz => c_X1_makeCheapS l D cI cR (ad 0) ((aa 0)) σ hw sz) ⟨rfl, rfl, Nat.le_of_ble_eq_true rfl, Nat.le_of_ble_eq_true rfl⟩ hP hD hS hA hK 1 rfl rfl rfl rfl rfl rfl rfl (by decide) rfl rfl rfl hl rfl (Nat.le_of_ble_eq_true rfl) dX3_economize_15 ⟨Nat.zero_le _, Nat.zero_le _⟩ (fun H locs hP hD hS => ?_)
  refine W.eq (g2 := F0 m 18 ls [.int (nI (mcC σ (nW σ)))]) rfl ?_
  exact mu_reti hx hb hr hlocks (rfl) hP hD hS dX3_economize_18
set_option maxHeartbeats 4000000 in
set_option maxRecDepth 100000 in
theorem c_X3_spoil (l : Launch) (D : va_G) (cI cR : ClassId) (h : Nat) (ad : Nat → Nat) (aa : Nat → Nat → Nat) (σ : Nat → Nat) (o : Nat) (n : Nat) (τ : Nat → Nat → Nat) (b : Nat → Nat) (ln : Nat) (g : Nat → Nat) (fo0 : Nat) (x : Int32) (y : Int32)  (hw : wf σ) (ho : o < 5) (hn : n ≤ 5) (sz : Nat) : Met l yX3_spoil (wsC yX3_spoil cX3_spoil 3 (some .int)) (rmK 3 82) (nPreM D (nTy cI cR) [.ref h, .int x, .int y] (wCR h ad aa cI cR σ o n τ b ln g fo0) sz) (QcM D (some (.int (aSpoil σ x y))) (wCR h ad aa cI cR (cond (inB x (nW σ) && inB y (σ 0)) (va_up σ (100 + cl x) (σ (100 + cl x) ^^^ 1 <<< cl y)) σ) (cond (inB x (nW σ) && inB y (σ 0)) (kpO o n) o) (cond (inB x (nW σ) && inB y (σ 0)) (kpN n) n) (cond (inB x (nW σ) && inB y (σ 0)) (va_up τ (kpS o n) σ) τ) b ln g fo0) (va_A (wCR h ad aa cI cR σ o n τ b ln g fo0) sz)) 0 0 (va_A (wCR h ad aa cI cR σ o n τ b ln g fo0) sz) := by
  refine met_mut (Qc := fun A => QcM D (some (.int (aSpoil σ x y))) (wCR h ad aa cI cR (cond (inB x (nW σ) && inB y (σ 0)) (va_up σ (100 + cl x) (σ (100 + cl x) ^^^ 1 <<< cl y)) σ) (cond (inB x (nW σ) && inB y (σ 0)) (kpO o n) o) (cond (inB x (nW σ) && inB y (σ 0)) (kpN n) n) (cond (inB x (nW σ) && inB y (σ 0)) (va_up τ (kpS o n) σ) τ) b ln g fo0) A) rfl (Nat.le_of_ble_eq_true rfl) ?_
  intro p e s m args below meth c ls A H locs hx hb hml hr hlocks hown hts hP hK hD hA hS hl
  have hl : lv_has ls 3 [(0, .ref h), (1, .int x), (2, .int y)] := hl
  have hA41 := hw.w41
  have hA33 := hw.a33
  have hA48 := hw.a48
  obtain ⟨hR2, hR, hB1, hB, hSa, hSb, -⟩ := id hw
  have h1024 := p2_10 hB
  refine lv_aload_n hx hb dX3_spoil_0 rfl (lv_at hl 0 rfl) ?_
  refine va_get (D := D) (ci := 3) (v := .ref (ad 0)) (C := RX3) (T := TX3) (N := 3) hx hb hts inX3 hown hK hP 0 rfl rfl 0 (by decide) (hts _ fl_RX3_12) (fun _ h9 => h9) rfl dX3_spoil_1 ?_
  refine lv_iload_n hx hb dX3_spoil_4 rfl (lv_at hl 1 rfl) ?_
  refine nv_callV [.int x] [] hx hb hml hown hts k_RX3_72 (c_X1_hasWireS l D cI cR (ad 0) ((aa 0)) σ x hw) ⟨rfl, rfl, Nat.le_of_ble_eq_true rfl, Nat.le_of_ble_eq_true rfl⟩ (hP.sub [1, 2, 3, 4, 5] rfl) hK 1 rfl rfl rfl rfl hl rfl (Nat.le_of_ble_eq_true rfl) dX3_spoil_5 ⟨Nat.zero_le _, Nat.zero_le _⟩ ?_
  refine lv_if_eq (tgt := 22) hx hb dX3_spoil_8 (by decide) (fun q_8 => ?_) (fun q_8 => ?_)
  · refine lv_bipush (v := -2) hx hb dX3_spoil_22 (by decide) ?_
    have E0 : inB x (nW σ) = false := zB_eq0 q_8
    have hP : va_P D vwCl (wCR h ad aa cI cR (cond (inB x (nW σ) && inB y (σ 0)) (va_up σ (100 + cl x) (σ (100 + cl x) ^^^ 1 <<< cl y)) σ) (cond (inB x (nW σ) && inB y (σ 0)) (kpO o n) o) (cond (inB x (nW σ) && inB y (σ 0)) (kpN n) n) (cond (inB x (nW σ) && inB y (σ 0)) (va_up τ (kpS o n) σ) τ) b ln g fo0) H := by rw [E0]; exact hP
    have hD : va_D A (wCR h ad aa cI cR (cond (inB x (nW σ) && inB y (σ 0)) (va_up σ (100 + cl x) (σ (100 + cl x) ^^^ 1 <<< cl y)) σ) (cond (inB x (nW σ) && inB y (σ 0)) (kpO o n) o) (cond (inB x (nW σ) && inB y (σ 0)) (kpN n) n) (cond (inB x (nW σ) && inB y (σ 0)) (va_up τ (kpS o n) σ) τ) b ln g fo0) := by rw [E0]; exact hD
    exact mu_reti hx hb hr hlocks (by unfold aSpoil; rw [E0] <;> rfl) hP hD hS dX3_spoil_24
  · obtain ⟨hk1, hx1⟩ := inB_cl (by omega) (zB_ne0 q_8)
    have hl := lv_repl [(0, .ref h), (1, .int (nI (cl x))), (2, .int y)] 1 rfl (congrArg (fun z : Int32 => Value.int z) (show x = nI (cl x) from hx1)) rfl hl
    refine lv_aload_n hx hb dX3_spoil_11 rfl (lv_at hl 0 rfl) ?_
    refine va_get (D := D) (ci := 3) (v := .ref (ad 0)) (C := RX3) (T := TX3) (N := 3) hx hb hts inX3 hown hK hP 0 rfl rfl 0 (by decide) (hts _ fl_RX3_12) (fun _ h9 => h9) rfl dX3_spoil_12 ?_
    refine lv_iload_n hx hb dX3_spoil_15 rfl (lv_at hl 2 rfl) ?_
    refine nv_callV [.int y] [] hx hb hml hown hts k_RX3_46 (c_X1_hasRingS l D cI cR (ad 0) ((aa 0)) σ y hw) ⟨rfl, rfl, Nat.le_of_ble_eq_true rfl, Nat.le_of_ble_eq_true rfl⟩ (hP.sub [1, 2, 3, 4, 5] rfl) hK 1 rfl rfl rfl rfl hl rfl (Nat.le_of_ble_eq_true rfl) dX3_spoil_16 ⟨Nat.zero_le _, Nat.zero_le _⟩ ?_
    refine lv_if_ne (tgt := 25) hx hb dX3_spoil_19 (by decide) (fun q_19 => ?_) (fun q_19 => ?_)
    · obtain ⟨hk2, hx2⟩ := inB_cl (by omega) (zB_ne0 q_19)
      have hl := lv_repl [(0, .ref h), (1, .int (nI (cl x))), (2, .int (nI (cl y)))] 2 rfl (congrArg (fun z : Int32 => Value.int z) (show y = nI (cl y) from hx2)) rfl hl
      refine lv_aload_n hx hb dX3_spoil_25 rfl (lv_at hl 0 rfl) ?_
      refine va_get (D := D) (ci := 3) (v := .ref (ad 1)) (C := RX3) (T := TX3) (N := 3) hx hb hts inX3 hown hK hP 0 rfl rfl 1 (by decide) (hts _ fl_RX3_19) (fun _ h9 => h9) rfl dX3_spoil_26 ?_
      refine lv_aload_n hx hb dX3_spoil_29 rfl (lv_at hl 0 rfl) ?_
      refine va_get (D := D) (ci := 3) (v := .ref (ad 0)) (C := RX3) (T := TX3) (N := 3) hx hb hts inX3 hown hK hP 0 rfl rfl 0 (by decide) (hts _ fl_RX3_12) (fun _ h9 => h9) rfl dX3_spoil_30 ?_
      refine mu_call (ws' := (wCR h ad aa cI cR σ (kpO o n) (kpN n) (va_up τ (kpS o n) σ) b ln g fo0)) [6, 7, 8, 9, 10, 11, 12, 13, 14, 15, 16, 17, 18, 19, 20, 21, 22, 23, 24, 25, 26, 27, 28, 29, 30, 31, 32, 1, 2, 3, 4, 5] [0, 33, 34, 35] [0, 31, 32, 33, 34, 35, 4, 5, 6, 7, 8, 9, 10, 11, 12, 13, 14, 15, 16, 17, 18, 19, 20, 21, 22, 23, 24, 25, 26, 27, 28, 29, 30, 1, 2, 3] [.ref (ad 0)] [] hx hb hml hown hts k_RX3_34 (fun sz => c_X0_keep l D cI cR (ad 1) (ad 3) ((fun j => ad (4 + j))) ((fun j => aa (2 + j))) o n τ (ad 0) ((aa 0)) σ ho hn sz) ⟨rfl, rfl, Nat.le_of_ble_eq_true rfl, Nat.le_of_ble_eq_true rfl⟩ hP hD hS hA hK 0 rfl rfl rfl rfl rfl rfl rfl (by decide) rfl rfl rfl hl rfl (Nat.le_of_ble_eq_true rfl) dX3_spoil_33 ⟨Nat.zero_le _, Nat.zero_le _⟩ (fun H locs hP hD hS => ?_)
      refine W.eq (g2 := F0 m 36 ls []) rfl ?_
      refine lv_aload_n hx hb dX3_spoil_36 rfl (lv_at hl 0 rfl) ?_
      refine va_get (D := D) (ci := 3) (v := .ref (ad 0)) (C := RX3) (T := TX3) (N := 3) hx hb hts inX3 hown hK hP 0 rfl rfl 0 (by decide) (hts _ fl_RX3_12) (fun _ h9 => h9) rfl dX3_spoil_37 ?_
      refine lv_iload_n hx hb dX3_spoil_40 rfl (lv_at hl 1 rfl) ?_
      refine lv_iload_n hx hb dX3_spoil_41 rfl (lv_at hl 2 rfl) ?_
      refine mu_call (ws' := (wCR h ad aa cI cR ((va_up σ (100 + (cl x)) (σ (100 + (cl x)) ^^^ 1 <<< (cl y)))) (kpO o n) (kpN n) (va_up τ (kpS o n) σ) b ln g fo0)) [1, 2, 3, 4, 5] [0, 6, 7, 8, 9, 10, 11, 12, 13, 14, 15, 16, 17, 18, 19, 20, 21, 22, 23, 24, 25, 26, 27, 28, 29, 30, 31, 32, 33, 34, 35] [0, 31, 32, 33, 34, 35, 1, 2, 3, 4, 5, 6, 7, 8, 9, 10, 11, 12, 13, 14, 15, 16, 17, 18, 19, 20, 21, 22, 23, 24, 25, 26, 27, 28, 29, 30] [.int (nI (cl x)), .int (nI (cl y))] [] hx hb hml hown hts k_RX3_103 (fun sz => c_X1_spoilOrMendS l D cI cR (ad 0) ((aa 0)) σ (cl x) (cl y) hw hk1 hk2 sz) ⟨rfl, rfl, Nat.le_of_ble_eq_true rfl, Nat.le_of_ble_eq_true rfl⟩ hP hD hS hA hK 1 rfl rfl rfl rfl rfl rfl rfl (by decide) rfl rfl rfl hl rfl (Nat.le_of_ble_eq_true rfl) dX3_spoil_42 ⟨Nat.zero_le _, Nat.zero_le _⟩ (fun H locs hP hD hS => ?_)
      refine W.eq (g2 := F0 m 45 ls [.int (nI (((σ (100 + (cl x)) ^^^ 1 <<< (cl y)).testBit (cl y)).toNat))]) rfl ?_
      have E0 : inB x (nW σ) = true := zB_ne0 q_8
      have E1 : inB y (σ 0) = true := zB_ne0 q_19
      have hP : va_P D vwCl (wCR h ad aa cI cR (cond (inB x (nW σ) && inB y (σ 0)) (va_up σ (100 + cl x) (σ (100 + cl x) ^^^ 1 <<< cl y)) σ) (cond (inB x (nW σ) && inB y (σ 0)) (kpO o n) o) (cond (inB x (nW σ) && inB y (σ 0)) (kpN n) n) (cond (inB x (nW σ) && inB y (σ 0)) (va_up τ (kpS o n) σ) τ) b ln g fo0) H := by rw [E0, E1]; exact hP
      have hD : va_D A (wCR h ad aa cI cR (cond (inB x (nW σ) && inB y (σ 0)) (va_up σ (100 + cl x) (σ (100 + cl x) ^^^ 1 <<< cl y)) σ) (cond (inB x (nW σ) && inB y (σ 0)) (kpO o n) o) (cond (inB x (nW σ) && inB y (σ 0)) (kpN n) n) (cond (inB x (nW σ) && inB y (σ 0)) (va_up τ (kpS o n) σ) τ) b ln g fo0) := by rw [E0, E1]; exact hD
      exact mu_reti hx hb hr hlocks (by unfold aSpoil; rw [E0, E1] <;> rfl) hP hD hS dX3_spoil_45
    · refine lv_bipush (v := -2) hx hb dX3_spoil_22 (by decide) ?_
      have E0 : inB x (nW σ) = true := zB_ne0 q_8
      have E1 : inB y (σ 0) = false := zB_eq0 q_19
      have hP : va_P D vwCl (wCR h ad aa cI cR (cond (inB x (nW σ) && inB y (σ 0)) (va_up σ (100 + cl x) (σ (100 + cl x) ^^^ 1 <<< cl y)) σ) (cond (inB x (nW σ) && inB y (σ 0)) (kpO o n) o) (cond (inB x (nW σ) && inB y (σ 0)) (kpN n) n) (cond (inB x (nW σ) && inB y (σ 0)) (va_up τ (kpS o n) σ) τ) b ln g fo0) H := by rw [E0, E1]; exact hP
      have hD : va_D A (wCR h ad aa cI cR (cond (inB x (nW σ) && inB y (σ 0)) (va_up σ (100 + cl x) (σ (100 + cl x) ^^^ 1 <<< cl y)) σ) (cond (inB x (nW σ) && inB y (σ 0)) (kpO o n) o) (cond (inB x (nW σ) && inB y (σ 0)) (kpN n) n) (cond (inB x (nW σ) && inB y (σ 0)) (va_up τ (kpS o n) σ) τ) b ln g fo0) := by rw [E0, E1]; exact hD
      exact mu_reti hx hb hr hlocks (by unfold aSpoil; rw [E0, E1] <;> rfl) hP hD hS dX3_spoil_24
set_option maxHeartbeats 4000000 in
set_option maxRecDepth 100000 in
theorem c_X3_patch (l : Launch) (D : va_G) (cI cR : ClassId) (h : Nat) (ad : Nat → Nat) (aa : Nat → Nat → Nat) (σ : Nat → Nat) (o : Nat) (n : Nat) (τ : Nat → Nat → Nat) (b : Nat → Nat) (ln : Nat) (g : Nat → Nat) (fo0 : Nat) (x : Int32) (y : Int32)  (hw : wf σ) (ho : o < 5) (hn : n ≤ 5) (h4 : pcN σ ≤ 4) (sz : Nat) : Met l yX3_patch (wsC yX3_patch cX3_patch 3 (some .int)) (rmK 3 82) (nPreM D (nTy cI cR) [.ref h, .int x, .int y] (wCR h ad aa cI cR σ o n τ b ln g fo0) sz) (QcM D (some (.int (aPatch σ x y))) (wCR h ad aa cI cR (cond (inB x (nA σ) && inB y (2 ^ σ 1) && okP σ x) (ptS σ x (cl y + 1)) σ) (cond (inB x (nA σ) && inB y (2 ^ σ 1) && okP σ x) (kpO o n) o) (cond (inB x (nA σ) && inB y (2 ^ σ 1) && okP σ x) (kpN n) n) (cond (inB x (nA σ) && inB y (2 ^ σ 1) && okP σ x) (va_up τ (kpS o n) σ) τ) b ln g fo0) (va_A (wCR h ad aa cI cR σ o n τ b ln g fo0) sz)) 0 0 (va_A (wCR h ad aa cI cR σ o n τ b ln g fo0) sz) := by
  refine met_mut (Qc := fun A => QcM D (some (.int (aPatch σ x y))) (wCR h ad aa cI cR (cond (inB x (nA σ) && inB y (2 ^ σ 1) && okP σ x) (ptS σ x (cl y + 1)) σ) (cond (inB x (nA σ) && inB y (2 ^ σ 1) && okP σ x) (kpO o n) o) (cond (inB x (nA σ) && inB y (2 ^ σ 1) && okP σ x) (kpN n) n) (cond (inB x (nA σ) && inB y (2 ^ σ 1) && okP σ x) (va_up τ (kpS o n) σ) τ) b ln g fo0) A) rfl (Nat.le_of_ble_eq_true rfl) ?_
  intro p e s m args below meth c ls A H locs hx hb hml hr hlocks hown hts hP hK hD hA hS hl
  have hl : lv_has ls 3 [(0, .ref h), (1, .int x), (2, .int y)] := hl
  have hA41 := hw.w41
  have hA33 := hw.a33
  have hA48 := hw.a48
  obtain ⟨hR2, hR, hB1, hB, hSa, hSb, -⟩ := id hw
  have h1024 := p2_10 hB
  refine lv_aload_n hx hb dX3_patch_0 rfl (lv_at hl 0 rfl) ?_
  refine va_get (D := D) (ci := 3) (v := .ref (ad 0)) (C := RX3) (T := TX3) (N := 3) hx hb hts inX3 hown hK hP 0 rfl rfl 0 (by decide) (hts _ fl_RX3_12) (fun _ h9 => h9) rfl dX3_patch_1 ?_
  refine lv_iload_n hx hb dX3_patch_4 rfl (lv_at hl 1 rfl) ?_
  refine nv_callV [.int x] [] hx hb hml hown hts k_RX3_60 (c_X1_hasAddressS l D cI cR (ad 0) ((aa 0)) σ x hw) ⟨rfl, rfl, Nat.le_of_ble_eq_true rfl, Nat.le_of_ble_eq_true rfl⟩ (hP.sub [1, 2, 3, 4, 5] rfl) hK 1 rfl rfl rfl rfl hl rfl (Nat.le_of_ble_eq_true rfl) dX3_patch_5 ⟨Nat.zero_le _, Nat.zero_le _⟩ ?_
  refine lv_if_ne (tgt := 14) hx hb dX3_patch_8 (by decide) (fun q_8 => ?_) (fun q_8 => ?_)
  · obtain ⟨hk1, hx1⟩ := inB_cl (by omega) (zB_ne0 q_8)
    have hl := lv_repl [(0, .ref h), (1, .int (nI (cl x))), (2, .int y)] 1 rfl (congrArg (fun z : Int32 => Value.int z) (show x = nI (cl x) from hx1)) rfl hl
    refine lv_aload_n hx hb dX3_patch_14 rfl (lv_at hl 0 rfl) ?_
    refine va_get (D := D) (ci := 3) (v := .ref (ad 0)) (C := RX3) (T := TX3) (N := 3) hx hb hts inX3 hown hK hP 0 rfl rfl 0 (by decide) (hts _ fl_RX3_12) (fun _ h9 => h9) rfl dX3_patch_15 ?_
    refine lv_iload_n hx hb dX3_patch_18 rfl (lv_at hl 2 rfl) ?_
    refine nv_callV [.int y] [] hx hb hml hown hts k_RX3_63 (c_X1_fits l D cI cR (ad 0) ((aa 0)) (σ 0) (σ 1) (σ 2) (onF σ) (wwF σ) (crF σ) (ptF σ) y (by omega)) ⟨rfl, rfl, Nat.le_of_ble_eq_true rfl, Nat.le_of_ble_eq_true rfl⟩ (hP.sub [1, 2, 3, 4, 5] rfl) hK 1 rfl rfl rfl rfl hl rfl (Nat.le_of_ble_eq_true rfl) dX3_patch_19 ⟨Nat.zero_le _, Nat.zero_le _⟩ ?_
    refine lv_if_ne (tgt := 28) hx hb dX3_patch_22 (by decide) (fun q_22 => ?_) (fun q_22 => ?_)
    · obtain ⟨hk2, hx2⟩ := inB_cl (by omega) (zB_ne0 q_22)
      have hl := lv_repl [(0, .ref h), (1, .int (nI (cl x))), (2, .int (nI (cl y)))] 2 rfl (congrArg (fun z : Int32 => Value.int z) (show y = nI (cl y) from hx2)) rfl hl
      refine lv_aload_n hx hb dX3_patch_28 rfl (lv_at hl 0 rfl) ?_
      refine va_get (D := D) (ci := 3) (v := .ref (ad 0)) (C := RX3) (T := TX3) (N := 3) hx hb hts inX3 hown hK hP 0 rfl rfl 0 (by decide) (hts _ fl_RX3_12) (fun _ h9 => h9) rfl dX3_patch_29 ?_
      refine lv_iload_n hx hb dX3_patch_32 rfl (lv_at hl 1 rfl) ?_
      refine nv_callV [.int (nI (cl x))] [] hx hb hml hown hts k_RX3_109 (c_X1_patchAt l D cI cR (ad 0) ((aa 0)) σ (cl x) hw hk1) ⟨rfl, rfl, Nat.le_of_ble_eq_true rfl, Nat.le_of_ble_eq_true rfl⟩ (hP.sub [1, 2, 3, 4, 5] rfl) hK 1 rfl rfl rfl rfl hl rfl (Nat.le_of_ble_eq_true rfl) dX3_patch_33 ⟨Nat.zero_le _, Nat.zero_le _⟩ ?_
      refine lv_iconst (v := -1) hx hb dX3_patch_36 (by decide) ?_
      refine lv_icmp_ne (tgt := 54) hx hb dX3_patch_37 (by decide) (fun q_37 => ?_) (fun q_37 => ?_)
      · refine lv_aload_n hx hb dX3_patch_54 rfl (lv_at hl 0 rfl) ?_
        refine va_get (D := D) (ci := 3) (v := .ref (ad 1)) (C := RX3) (T := TX3) (N := 3) hx hb hts inX3 hown hK hP 0 rfl rfl 1 (by decide) (hts _ fl_RX3_19) (fun _ h9 => h9) rfl dX3_patch_55 ?_
        refine lv_aload_n hx hb dX3_patch_58 rfl (lv_at hl 0 rfl) ?_
        refine va_get (D := D) (ci := 3) (v := .ref (ad 0)) (C := RX3) (T := TX3) (N := 3) hx hb hts inX3 hown hK hP 0 rfl rfl 0 (by decide) (hts _ fl_RX3_12) (fun _ h9 => h9) rfl dX3_patch_59 ?_
        refine mu_call (ws' := (wCR h ad aa cI cR σ (kpO o n) (kpN n) (va_up τ (kpS o n) σ) b ln g fo0)) [6, 7, 8, 9, 10, 11, 12, 13, 14, 15, 16, 17, 18, 19, 20, 21, 22, 23, 24, 25, 26, 27, 28, 29, 30, 31, 32, 1, 2, 3, 4, 5] [0, 33, 34, 35] [0, 31, 32, 33, 34, 35, 4, 5, 6, 7, 8, 9, 10, 11, 12, 13, 14, 15, 16, 17, 18, 19, 20, 21, 22, 23, 24, 25, 26, 27, 28, 29, 30, 1, 2, 3] [.ref (ad 0)] [] hx hb hml hown hts k_RX3_34 (fun sz => c_X0_keep l D cI cR (ad 1) (ad 3) ((fun j => ad (4 + j))) ((fun j => aa (2 + j))) o n τ (ad 0) ((aa 0)) σ ho hn sz) ⟨rfl, rfl, Nat.le_of_ble_eq_true rfl, Nat.le_of_ble_eq_true rfl⟩ hP hD hS hA hK 0 rfl rfl rfl rfl rfl rfl rfl (by decide) rfl rfl rfl hl rfl (Nat.le_of_ble_eq_true rfl) dX3_patch_62 ⟨Nat.zero_le _, Nat.zero_le _⟩ (fun H locs hP hD hS => ?_)
        refine W.eq (g2 := F0 m 65 ls []) rfl ?_
        refine lv_aload_n hx hb dX3_patch_65 rfl (lv_at hl 0 rfl) ?_
        refine va_get (D := D) (ci := 3) (v := .ref (ad 0)) (C := RX3) (T := TX3) (N := 3) hx hb hts inX3 hown hK hP 0 rfl rfl 0 (by decide) (hts _ fl_RX3_12) (fun _ h9 => h9) rfl dX3_patch_66 ?_
        refine lv_iload_n hx hb dX3_patch_69 rfl (lv_at hl 1 rfl) ?_
        refine lv_iload_n hx hb dX3_patch_70 rfl (lv_at hl 2 rfl) ?_
        refine mu_call (ws' := (wCR h ad aa cI cR ((va_up σ (141 + (cl x)) ((cl y) + 1))) (kpO o n) (kpN n) (va_up τ (kpS o n) σ) b ln g fo0)) [1, 2, 3, 4, 5] [0, 6, 7, 8, 9, 10, 11, 12, 13, 14, 15, 16, 17, 18, 19, 20, 21, 22, 23, 24, 25, 26, 27, 28, 29, 30, 31, 32, 33, 34, 35] [0, 31, 32, 33, 34, 35, 1, 2, 3, 4, 5, 6, 7, 8, 9, 10, 11, 12, 13, 14, 15, 16, 17, 18, 19, 20, 21, 22, 23, 24, 25, 26, 27, 28, 29, 30] [.int (nI (cl x)), .int (nI (cl y))] [] hx hb hml hown hts k_RX3_115 (fun sz => c_X1_putPatchV l D cI cR (ad 0) ((aa 0)) σ (cl x) (cl y) hw hk1 sz) ⟨rfl, rfl, Nat.le_of_ble_eq_true rfl, Nat.le_of_ble_eq_true rfl⟩ hP hD hS hA hK 1 rfl rfl rfl rfl rfl rfl rfl (by decide) rfl rfl rfl hl rfl (Nat.le_of_ble_eq_true rfl) dX3_patch_71 ⟨Nat.zero_le _, Nat.zero_le _⟩ (fun H locs hP hD hS => ?_)
        refine W.eq (g2 := F0 m 74 ls []) rfl ?_
        refine lv_aload_n hx hb dX3_patch_74 rfl (lv_at hl 0 rfl) ?_
        refine va_get (D := D) (ci := 3) (v := .ref (ad 0)) (C := RX3) (T := TX3) (N := 3) hx hb hts inX3 hown hK hP 0 rfl rfl 0 (by decide) (hts _ fl_RX3_12) (fun _ h9 => h9) rfl dX3_patch_75 ?_
        refine nv_callV [] [] hx hb hml hown hts k_RX3_112 (c_X1_patchCount l D cI cR (ad 0) ((aa 0)) ((((va_up σ (141 + (cl x)) ((cl y) + 1))))) (wf_pt hw hk2)) ⟨rfl, rfl, Nat.le_of_ble_eq_true rfl, Nat.le_of_ble_eq_true rfl⟩ (hP.sub [1, 2, 3, 4, 5] rfl) hK 1 rfl rfl rfl rfl hl rfl (Nat.le_of_ble_eq_true rfl) dX3_patch_78 ⟨Nat.zero_le _, Nat.zero_le _⟩ ?_
        have E0 : inB x (nA σ) = true := zB_ne0 q_8
        have E1 : inB y (2 ^ σ 1) = true := zB_ne0 q_22
        have E2 : okP σ x = true := okP_1 (mt (ptF_m1 (hw.pt hk1)).mpr q_37)
        have hP : va_P D vwCl (wCR h ad aa cI cR (cond (inB x (nA σ) && inB y (2 ^ σ 1) && okP σ x) (ptS σ x (cl y + 1)) σ) (cond (inB x (nA σ) && inB y (2 ^ σ 1) && okP σ x) (kpO o n) o) (cond (inB x (nA σ) && inB y (2 ^ σ 1) && okP σ x) (kpN n) n) (cond (inB x (nA σ) && inB y (2 ^ σ 1) && okP σ x) (va_up τ (kpS o n) σ) τ) b ln g fo0) H := by rw [E0, E1, E2]; exact hP
        have hD : va_D A (wCR h ad aa cI cR (cond (inB x (nA σ) && inB y (2 ^ σ 1) && okP σ x) (ptS σ x (cl y + 1)) σ) (cond (inB x (nA σ) && inB y (2 ^ σ 1) && okP σ x) (kpO o n) o) (cond (inB x (nA σ) && inB y (2 ^ σ 1) && okP σ x) (kpN n) n) (cond (inB x (nA σ) && inB y (2 ^ σ 1) && okP σ x) (va_up τ (kpS o n) σ) τ) b ln g fo0) := by rw [E0, E1, E2]; exact hD
        exact mu_reti hx hb hr hlocks (by unfold aPatch; rw [E0, E1, E2] <;> rfl) hP hD hS dX3_patch_81
      · refine lv_aload_n hx hb dX3_patch_40 rfl (lv_at hl 0 rfl) ?_
        refine va_get (D := D) (ci := 3) (v := .ref (ad 0)) (C := RX3) (T := TX3) (N := 3) hx hb hts inX3 hown hK hP 0 rfl rfl 0 (by decide) (hts _ fl_RX3_12) (fun _ h9 => h9) rfl dX3_patch_41 ?_
        refine nv_callV [] [] hx hb hml hown hts k_RX3_112 (c_X1_patchCount l D cI cR (ad 0) ((aa 0)) σ hw) ⟨rfl, rfl, Nat.le_of_ble_eq_true rfl, Nat.le_of_ble_eq_true rfl⟩ (hP.sub [1, 2, 3, 4, 5] rfl) hK 1 rfl rfl rfl rfl hl rfl (Nat.le_of_ble_eq_true rfl) dX3_patch_44 ⟨Nat.zero_le _, Nat.zero_le _⟩ ?_
        refine lv_iconst (v := nI 4) hx hb dX3_patch_47 (by decide) ?_
        refine nv_icmp_lt (tgt := 54) hx hb dX3_patch_48 (by decide) (by unfold pcN at h4; omega) (by omega) (fun q_48 => ?_) (fun q_48 => ?_)
        · refine lv_aload_n hx hb dX3_patch_54 rfl (lv_at hl 0 rfl) ?_
          refine va_get (D := D) (ci := 3) (v := .ref (ad 1)) (C := RX3) (T := TX3) (N := 3) hx hb hts inX3 hown hK hP 0 rfl rfl 1 (by decide) (hts _ fl_RX3_19) (fun _ h9 => h9) rfl dX3_patch_55 ?_
          refine lv_aload_n hx hb dX3_patch_58 rfl (lv_at hl 0 rfl) ?_
          refine va_get (D := D) (ci := 3) (v := .ref (ad 0)) (C := RX3) (T := TX3) (N := 3) hx hb hts inX3 hown hK hP 0 rfl rfl 0 (by decide) (hts _ fl_RX3_12) (fun _ h9 => h9) rfl dX3_patch_59 ?_
          refine mu_call (ws' := (wCR h ad aa cI cR σ (kpO o n) (kpN n) (va_up τ (kpS o n) σ) b ln g fo0)) [6, 7, 8, 9, 10, 11, 12, 13, 14, 15, 16, 17, 18, 19, 20, 21, 22, 23, 24, 25, 26, 27, 28, 29, 30, 31, 32, 1, 2, 3, 4, 5] [0, 33, 34, 35] [0, 31, 32, 33, 34, 35, 4, 5, 6, 7, 8, 9, 10, 11, 12, 13, 14, 15, 16, 17, 18, 19, 20, 21, 22, 23, 24, 25, 26, 27, 28, 29, 30, 1, 2, 3] [.ref (ad 0)] [] hx hb hml hown hts k_RX3_34 (fun sz => c_X0_keep l D cI cR (ad 1) (ad 3) ((fun j => ad (4 + j))) ((fun j => aa (2 + j))) o n τ (ad 0) ((aa 0)) σ ho hn sz) ⟨rfl, rfl, Nat.le_of_ble_eq_true rfl, Nat.le_of_ble_eq_true rfl⟩ hP hD hS hA hK 0 rfl rfl rfl rfl rfl rfl rfl (by decide) rfl rfl rfl hl rfl (Nat.le_of_ble_eq_true rfl) dX3_patch_62 ⟨Nat.zero_le _, Nat.zero_le _⟩ (fun H locs hP hD hS => ?_)
          refine W.eq (g2 := F0 m 65 ls []) rfl ?_
          refine lv_aload_n hx hb dX3_patch_65 rfl (lv_at hl 0 rfl) ?_
          refine va_get (D := D) (ci := 3) (v := .ref (ad 0)) (C := RX3) (T := TX3) (N := 3) hx hb hts inX3 hown hK hP 0 rfl rfl 0 (by decide) (hts _ fl_RX3_12) (fun _ h9 => h9) rfl dX3_patch_66 ?_
          refine lv_iload_n hx hb dX3_patch_69 rfl (lv_at hl 1 rfl) ?_
          refine lv_iload_n hx hb dX3_patch_70 rfl (lv_at hl 2 rfl) ?_
          refine mu_call (ws' := (wCR h ad aa cI cR ((va_up σ (141 + (cl x)) ((cl y) + 1))) (kpO o n) (kpN n) (va_up τ (kpS o n) σ) b ln g fo0)) [1, 2, 3, 4, 5] [0, 6, 7, 8, 9, 10, 11, 12, 13, 14, 15, 16, 17, 18, 19, 20, 21, 22, 23, 24, 25, 26, 27, 28, 29, 30, 31, 32, 33, 34, 35] [0, 31, 32, 33, 34, 35, 1, 2, 3, 4, 5, 6, 7, 8, 9, 10, 11, 12, 13, 14, 15, 16, 17, 18, 19, 20, 21, 22, 23, 24, 25, 26, 27, 28, 29, 30] [.int (nI (cl x)), .int (nI (cl y))] [] hx hb hml hown hts k_RX3_115 (fun sz => c_X1_putPatchV l D cI cR (ad 0) ((aa 0)) σ (cl x) (cl y) hw hk1 sz) ⟨rfl, rfl, Nat.le_of_ble_eq_true rfl, Nat.le_of_ble_eq_true rfl⟩ hP hD hS hA hK 1 rfl rfl rfl rfl rfl rfl rfl (by decide) rfl rfl rfl hl rfl (Nat.le_of_ble_eq_true rfl) dX3_patch_71 ⟨Nat.zero_le _, Nat.zero_le _⟩ (fun H locs hP hD hS => ?_)
          refine W.eq (g2 := F0 m 74 ls []) rfl ?_
          refine lv_aload_n hx hb dX3_patch_74 rfl (lv_at hl 0 rfl) ?_
          refine va_get (D := D) (ci := 3) (v := .ref (ad 0)) (C := RX3) (T := TX3) (N := 3) hx hb hts inX3 hown hK hP 0 rfl rfl 0 (by decide) (hts _ fl_RX3_12) (fun _ h9 => h9) rfl dX3_patch_75 ?_
          refine nv_callV [] [] hx hb hml hown hts k_RX3_112 (c_X1_patchCount l D cI cR (ad 0) ((aa 0)) ((((va_up σ (141 + (cl x)) ((cl y) + 1))))) (wf_pt hw hk2)) ⟨rfl, rfl, Nat.le_of_ble_eq_true rfl, Nat.le_of_ble_eq_true rfl⟩ (hP.sub [1, 2, 3, 4, 5] rfl) hK 1 rfl rfl rfl rfl hl rfl (Nat.le_of_ble_eq_true rfl) dX3_patch_78 ⟨Nat.zero_le _, Nat.zero_le _⟩ ?_
          have E0 : inB x (nA σ) = true := zB_ne0 q_8
          have E1 : inB y (2 ^ σ 1) = true := zB_ne0 q_22
          have E2 : okP σ x = true := okP_2 q_48
          have hP : va_P D vwCl (wCR h ad aa cI cR (cond (inB x (nA σ) && inB y (2 ^ σ 1) && okP σ x) (ptS σ x (cl y + 1)) σ) (cond (inB x (nA σ) && inB y (2 ^ σ 1) && okP σ x) (kpO o n) o) (cond (inB x (nA σ) && inB y (2 ^ σ 1) && okP σ x) (kpN n) n) (cond (inB x (nA σ) && inB y (2 ^ σ 1) && okP σ x) (va_up τ (kpS o n) σ) τ) b ln g fo0) H := by rw [E0, E1, E2]; exact hP
          have hD : va_D A (wCR h ad aa cI cR (cond (inB x (nA σ) && inB y (2 ^ σ 1) && okP σ x) (ptS σ x (cl y + 1)) σ) (cond (inB x (nA σ) && inB y (2 ^ σ 1) && okP σ x) (kpO o n) o) (cond (inB x (nA σ) && inB y (2 ^ σ 1) && okP σ x) (kpN n) n) (cond (inB x (nA σ) && inB y (2 ^ σ 1) && okP σ x) (va_up τ (kpS o n) σ) τ) b ln g fo0) := by rw [E0, E1, E2]; exact hD
          exact mu_reti hx hb hr hlocks (by unfold aPatch; rw [E0, E1, E2] <;> rfl) hP hD hS dX3_patch_81
        · refine lv_bipush (v := -5) hx hb dX3_patch_51 (by decide) ?_
          have E0 : inB x (nA σ) = true := zB_ne0 q_8
          have E1 : inB y (2 ^ σ 1) = true := zB_ne0 q_22
          have E2 : okP σ x = false := okP_f ((ptF_m1 (hw.pt hk1)).mp q_37) (Nat.not_lt.mpr q_48)
          have hP : va_P D vwCl (wCR h ad aa cI cR (cond (inB x (nA σ) && inB y (2 ^ σ 1) && okP σ x) (ptS σ x (cl y + 1)) σ) (cond (inB x (nA σ) && inB y (2 ^ σ 1) && okP σ x) (kpO o n) o) (cond (inB x (nA σ) && inB y (2 ^ σ 1) && okP σ x) (kpN n) n) (cond (inB x (nA σ) && inB y (2 ^ σ 1) && okP σ x) (va_up τ (kpS o n) σ) τ) b ln g fo0) H := by rw [E0, E1, E2]; exact hP
          have hD : va_D A (wCR h ad aa cI cR (cond (inB x (nA σ) && inB y (2 ^ σ 1) && okP σ x) (ptS σ x (cl y + 1)) σ) (cond (inB x (nA σ) && inB y (2 ^ σ 1) && okP σ x) (kpO o n) o) (cond (inB x (nA σ) && inB y (2 ^ σ 1) && okP σ x) (kpN n) n) (cond (inB x (nA σ) && inB y (2 ^ σ 1) && okP σ x) (va_up τ (kpS o n) σ) τ) b ln g fo0) := by rw [E0, E1, E2]; exact hD
          exact mu_reti hx hb hr hlocks (by unfold aPatch; rw [E0, E1, E2] <;> rfl) hP hD hS dX3_patch_53
    · refine lv_bipush (v := -3) hx hb dX3_patch_25 (by decide) ?_
      have E0 : inB x (nA σ) = true := zB_ne0 q_8
      have E1 : inB y (2 ^ σ 1) = false := zB_eq0 q_22
      have hP : va_P D vwCl (wCR h ad aa cI cR (cond (inB x (nA σ) && inB y (2 ^ σ 1) && okP σ x) (ptS σ x (cl y + 1)) σ) (cond (inB x (nA σ) && inB y (2 ^ σ 1) && okP σ x) (kpO o n) o) (cond (inB x (nA σ) && inB y (2 ^ σ 1) && okP σ x) (kpN n) n) (cond (inB x (nA σ) && inB y (2 ^ σ 1) && okP σ x) (va_up τ (kpS o n) σ) τ) b ln g fo0) H := by rw [E0, E1]; exact hP
      have hD : va_D A (wCR h ad aa cI cR (cond (inB x (nA σ) && inB y (2 ^ σ 1) && okP σ x) (ptS σ x (cl y + 1)) σ) (cond (inB x (nA σ) && inB y (2 ^ σ 1) && okP σ x) (kpO o n) o) (cond (inB x (nA σ) && inB y (2 ^ σ 1) && okP σ x) (kpN n) n) (cond (inB x (nA σ) && inB y (2 ^ σ 1) && okP σ x) (va_up τ (kpS o n) σ) τ) b ln g fo0) := by rw [E0, E1]; exact hD
      exact mu_reti hx hb hr hlocks (by unfold aPatch; rw [E0, E1] <;> rfl) hP hD hS dX3_patch_27
  · refine lv_bipush (v := -2) hx hb dX3_patch_11 (by decide) ?_
    have E0 : inB x (nA σ) = false := zB_eq0 q_8
    have hP : va_P D vwCl (wCR h ad aa cI cR (cond (inB x (nA σ) && inB y (2 ^ σ 1) && okP σ x) (ptS σ x (cl y + 1)) σ) (cond (inB x (nA σ) && inB y (2 ^ σ 1) && okP σ x) (kpO o n) o) (cond (inB x (nA σ) && inB y (2 ^ σ 1) && okP σ x) (kpN n) n) (cond (inB x (nA σ) && inB y (2 ^ σ 1) && okP σ x) (va_up τ (kpS o n) σ) τ) b ln g fo0) H := by rw [E0]; exact hP
    have hD : va_D A (wCR h ad aa cI cR (cond (inB x (nA σ) && inB y (2 ^ σ 1) && okP σ x) (ptS σ x (cl y + 1)) σ) (cond (inB x (nA σ) && inB y (2 ^ σ 1) && okP σ x) (kpO o n) o) (cond (inB x (nA σ) && inB y (2 ^ σ 1) && okP σ x) (kpN n) n) (cond (inB x (nA σ) && inB y (2 ^ σ 1) && okP σ x) (va_up τ (kpS o n) σ) τ) b ln g fo0) := by rw [E0]; exact hD
    exact mu_reti hx hb hr hlocks (by unfold aPatch; rw [E0] <;> rfl) hP hD hS dX3_patch_13
set_option maxHeartbeats 4000000 in
set_option maxRecDepth 100000 in
theorem c_X3_unpatch (l : Launch) (D : va_G) (cI cR : ClassId) (h : Nat) (ad : Nat → Nat) (aa : Nat → Nat → Nat) (σ : Nat → Nat) (o : Nat) (n : Nat) (τ : Nat → Nat → Nat) (b : Nat → Nat) (ln : Nat) (g : Nat → Nat) (fo0 : Nat) (x : Int32)  (hw : wf σ) (ho : o < 5) (hn : n ≤ 5) (sz : Nat) : Met l yX3_unpatch (wsC yX3_unpatch cX3_unpatch 2 (some .int)) (rmK 3 82) (nPreM D (nTy cI cR) [.ref h, .int x] (wCR h ad aa cI cR σ o n τ b ln g fo0) sz) (QcM D (some (.int (aUnpatch σ x))) (wCR h ad aa cI cR (cond (inB x (nA σ) && σ (141 + cl x) != 0) (ptS σ x 0) σ) (cond (inB x (nA σ) && σ (141 + cl x) != 0) (kpO o n) o) (cond (inB x (nA σ) && σ (141 + cl x) != 0) (kpN n) n) (cond (inB x (nA σ) && σ (141 + cl x) != 0) (va_up τ (kpS o n) σ) τ) b ln g fo0) (va_A (wCR h ad aa cI cR σ o n τ b ln g fo0) sz)) 0 0 (va_A (wCR h ad aa cI cR σ o n τ b ln g fo0) sz) := by
  refine met_mut (Qc := fun A => QcM D (some (.int (aUnpatch σ x))) (wCR h ad aa cI cR (cond (inB x (nA σ) && σ (141 + cl x) != 0) (ptS σ x 0) σ) (cond (inB x (nA σ) && σ (141 + cl x) != 0) (kpO o n) o) (cond (inB x (nA σ) && σ (141 + cl x) != 0) (kpN n) n) (cond (inB x (nA σ) && σ (141 + cl x) != 0) (va_up τ (kpS o n) σ) τ) b ln g fo0) A) rfl (Nat.le_of_ble_eq_true rfl) ?_
  intro p e s m args below meth c ls A H locs hx hb hml hr hlocks hown hts hP hK hD hA hS hl
  have hl : lv_has ls 2 [(0, .ref h), (1, .int x)] := hl
  have hA41 := hw.w41
  have hA33 := hw.a33
  have hA48 := hw.a48
  obtain ⟨hR2, hR, hB1, hB, hSa, hSb, -⟩ := id hw
  have h1024 := p2_10 hB
  refine lv_aload_n hx hb dX3_unpatch_0 rfl (lv_at hl 0 rfl) ?_
  refine va_get (D := D) (ci := 3) (v := .ref (ad 0)) (C := RX3) (T := TX3) (N := 3) hx hb hts inX3 hown hK hP 0 rfl rfl 0 (by decide) (hts _ fl_RX3_12) (fun _ h9 => h9) rfl dX3_unpatch_1 ?_
  refine lv_iload_n hx hb dX3_unpatch_4 rfl (lv_at hl 1 rfl) ?_
  refine nv_callV [.int x] [] hx hb hml hown hts k_RX3_60 (c_X1_hasAddressS l D cI cR (ad 0) ((aa 0)) σ x hw) ⟨rfl, rfl, Nat.le_of_ble_eq_true rfl, Nat.le_of_ble_eq_true rfl⟩ (hP.sub [1, 2, 3, 4, 5] rfl) hK 1 rfl rfl rfl rfl hl rfl (Nat.le_of_ble_eq_true rfl) dX3_unpatch_5 ⟨Nat.zero_le _, Nat.zero_le _⟩ ?_
  refine lv_if_ne (tgt := 14) hx hb dX3_unpatch_8 (by decide) (fun q_8 => ?_) (fun q_8 => ?_)
  · obtain ⟨hk1, hx1⟩ := inB_cl (by omega) (zB_ne0 q_8)
    have hl := lv_repl [(0, .ref h), (1, .int (nI (cl x)))] 1 rfl (congrArg (fun z : Int32 => Value.int z) (show x = nI (cl x) from hx1)) rfl hl
    refine lv_aload_n hx hb dX3_unpatch_14 rfl (lv_at hl 0 rfl) ?_
    refine va_get (D := D) (ci := 3) (v := .ref (ad 0)) (C := RX3) (T := TX3) (N := 3) hx hb hts inX3 hown hK hP 0 rfl rfl 0 (by decide) (hts _ fl_RX3_12) (fun _ h9 => h9) rfl dX3_unpatch_15 ?_
    refine lv_iload_n hx hb dX3_unpatch_18 rfl (lv_at hl 1 rfl) ?_
    refine nv_callV [.int (nI (cl x))] [] hx hb hml hown hts k_RX3_109 (c_X1_patchAt l D cI cR (ad 0) ((aa 0)) σ (cl x) hw hk1) ⟨rfl, rfl, Nat.le_of_ble_eq_true rfl, Nat.le_of_ble_eq_true rfl⟩ (hP.sub [1, 2, 3, 4, 5] rfl) hK 1 rfl rfl rfl rfl hl rfl (Nat.le_of_ble_eq_true rfl) dX3_unpatch_19 ⟨Nat.zero_le _, Nat.zero_le _⟩ ?_
    refine lv_iconst (v := -1) hx hb dX3_unpatch_22 (by decide) ?_
    refine lv_icmp_ne (tgt := 29) hx hb dX3_unpatch_23 (by decide) (fun q_23 => ?_) (fun q_23 => ?_)
    · refine lv_aload_n hx hb dX3_unpatch_29 rfl (lv_at hl 0 rfl) ?_
      refine va_get (D := D) (ci := 3) (v := .ref (ad 1)) (C := RX3) (T := TX3) (N := 3) hx hb hts inX3 hown hK hP 0 rfl rfl 1 (by decide) (hts _ fl_RX3_19) (fun _ h9 => h9) rfl dX3_unpatch_30 ?_
      refine lv_aload_n hx hb dX3_unpatch_33 rfl (lv_at hl 0 rfl) ?_
      refine va_get (D := D) (ci := 3) (v := .ref (ad 0)) (C := RX3) (T := TX3) (N := 3) hx hb hts inX3 hown hK hP 0 rfl rfl 0 (by decide) (hts _ fl_RX3_12) (fun _ h9 => h9) rfl dX3_unpatch_34 ?_
      refine mu_call (ws' := (wCR h ad aa cI cR σ (kpO o n) (kpN n) (va_up τ (kpS o n) σ) b ln g fo0)) [6, 7, 8, 9, 10, 11, 12, 13, 14, 15, 16, 17, 18, 19, 20, 21, 22, 23, 24, 25, 26, 27, 28, 29, 30, 31, 32, 1, 2, 3, 4, 5] [0, 33, 34, 35] [0, 31, 32, 33, 34, 35, 4, 5, 6, 7, 8, 9, 10, 11, 12, 13, 14, 15, 16, 17, 18, 19, 20, 21, 22, 23, 24, 25, 26, 27, 28, 29, 30, 1, 2, 3] [.ref (ad 0)] [] hx hb hml hown hts k_RX3_34 (fun sz => c_X0_keep l D cI cR (ad 1) (ad 3) ((fun j => ad (4 + j))) ((fun j => aa (2 + j))) o n τ (ad 0) ((aa 0)) σ ho hn sz) ⟨rfl, rfl, Nat.le_of_ble_eq_true rfl, Nat.le_of_ble_eq_true rfl⟩ hP hD hS hA hK 0 rfl rfl rfl rfl rfl rfl rfl (by decide) rfl rfl rfl hl rfl (Nat.le_of_ble_eq_true rfl) dX3_unpatch_37 ⟨Nat.zero_le _, Nat.zero_le _⟩ (fun H locs hP hD hS => ?_)
      refine W.eq (g2 := F0 m 40 ls []) rfl ?_
      refine lv_aload_n hx hb dX3_unpatch_40 rfl (lv_at hl 0 rfl) ?_
      refine va_get (D := D) (ci := 3) (v := .ref (ad 0)) (C := RX3) (T := TX3) (N := 3) hx hb hts inX3 hown hK hP 0 rfl rfl 0 (by decide) (hts _ fl_RX3_12) (fun _ h9 => h9) rfl dX3_unpatch_41 ?_
      refine lv_iload_n hx hb dX3_unpatch_44 rfl (lv_at hl 1 rfl) ?_
      refine lv_iconst (v := -1) hx hb dX3_unpatch_45 (by decide) ?_
      refine mu_call (ws' := (wCR h ad aa cI cR ((va_up σ (141 + (cl x)) 0)) (kpO o n) (kpN n) (va_up τ (kpS o n) σ) b ln g fo0)) [1, 2, 3, 4, 5] [0, 6, 7, 8, 9, 10, 11, 12, 13, 14, 15, 16, 17, 18, 19, 20, 21, 22, 23, 24, 25, 26, 27, 28, 29, 30, 31, 32, 33, 34, 35] [0, 31, 32, 33, 34, 35, 1, 2, 3, 4, 5, 6, 7, 8, 9, 10, 11, 12, 13, 14, 15, 16, 17, 18, 19, 20, 21, 22, 23, 24, 25, 26, 27, 28, 29, 30] [.int (nI (cl x)), .int (-1)] [] hx hb hml hown hts k_RX3_115 (fun sz => c_X1_putPatch0 l D cI cR (ad 0) ((aa 0)) σ (cl x) (-1) hw hk1 rfl sz) ⟨rfl, rfl, Nat.le_of_ble_eq_true rfl, Nat.le_of_ble_eq_true rfl⟩ hP hD hS hA hK 1 rfl rfl rfl rfl rfl rfl rfl (by decide) rfl rfl rfl hl rfl (Nat.le_of_ble_eq_true rfl) dX3_unpatch_46 ⟨Nat.zero_le _, Nat.zero_le _⟩ (fun H locs hP hD hS => ?_)
      refine W.eq (g2 := F0 m 49 ls []) rfl ?_
      refine lv_aload_n hx hb dX3_unpatch_49 rfl (lv_at hl 0 rfl) ?_
      refine va_get (D := D) (ci := 3) (v := .ref (ad 0)) (C := RX3) (T := TX3) (N := 3) hx hb hts inX3 hown hK hP 0 rfl rfl 0 (by decide) (hts _ fl_RX3_12) (fun _ h9 => h9) rfl dX3_unpatch_50 ?_
      refine nv_callV [] [] hx hb hml hown hts k_RX3_112 (c_X1_patchCount l D cI cR (ad 0) ((aa 0)) ((((va_up σ (141 + (cl x)) 0)))) (wf_pt hw (Nat.zero_le _))) ⟨rfl, rfl, Nat.le_of_ble_eq_true rfl, Nat.le_of_ble_eq_true rfl⟩ (hP.sub [1, 2, 3, 4, 5] rfl) hK 1 rfl rfl rfl rfl hl rfl (Nat.le_of_ble_eq_true rfl) dX3_unpatch_53 ⟨Nat.zero_le _, Nat.zero_le _⟩ ?_
      have E0 : inB x (nA σ) = true := zB_ne0 q_8
      have E1 : (σ (141 + cl x) != 0) = true := bne_iff_ne.mpr (mt (ptF_m1 (hw.pt hk1)).mpr q_23)
      have hP : va_P D vwCl (wCR h ad aa cI cR (cond (inB x (nA σ) && σ (141 + cl x) != 0) (ptS σ x 0) σ) (cond (inB x (nA σ) && σ (141 + cl x) != 0) (kpO o n) o) (cond (inB x (nA σ) && σ (141 + cl x) != 0) (kpN n) n) (cond (inB x (nA σ) && σ (141 + cl x) != 0) (va_up τ (kpS o n) σ) τ) b ln g fo0) H := by rw [E0, E1]; exact hP
      have hD : va_D A (wCR h ad aa cI cR (cond (inB x (nA σ) && σ (141 + cl x) != 0) (ptS σ x 0) σ) (cond (inB x (nA σ) && σ (141 + cl x) != 0) (kpO o n) o) (cond (inB x (nA σ) && σ (141 + cl x) != 0) (kpN n) n) (cond (inB x (nA σ) && σ (141 + cl x) != 0) (va_up τ (kpS o n) σ) τ) b ln g fo0) := by rw [E0, E1]; exact hD
      exact mu_reti hx hb hr hlocks (by unfold aUnpatch; rw [E0, E1] <;> rfl) hP hD hS dX3_unpatch_56
    · refine lv_bipush (v := -4) hx hb dX3_unpatch_26 (by decide) ?_
      have E0 : inB x (nA σ) = true := zB_ne0 q_8
      have E1 : (σ (141 + cl x) != 0) = false := by rw [(ptF_m1 (hw.pt hk1)).mp q_23]; rfl
      have hP : va_P D vwCl (wCR h ad aa cI cR (cond (inB x (nA σ) && σ (141 + cl x) != 0) (ptS σ x 0) σ) (cond (inB x (nA σ) && σ (141 + cl x) != 0) (kpO o n) o) (cond (inB x (nA σ) && σ (141 + cl x) != 0) (kpN n) n) (cond (inB x (nA σ) && σ (141 + cl x) != 0) (va_up τ (kpS o n) σ) τ) b ln g fo0) H := by rw [E0, E1]; exact hP
      have hD : va_D A (wCR h ad aa cI cR (cond (inB x (nA σ) && σ (141 + cl x) != 0) (ptS σ x 0) σ) (cond (inB x (nA σ) && σ (141 + cl x) != 0) (kpO o n) o) (cond (inB x (nA σ) && σ (141 + cl x) != 0) (kpN n) n) (cond (inB x (nA σ) && σ (141 + cl x) != 0) (va_up τ (kpS o n) σ) τ) b ln g fo0) := by rw [E0, E1]; exact hD
      exact mu_reti hx hb hr hlocks (by unfold aUnpatch; rw [E0, E1] <;> rfl) hP hD hS dX3_unpatch_28
  · refine lv_bipush (v := -2) hx hb dX3_unpatch_11 (by decide) ?_
    have E0 : inB x (nA σ) = false := zB_eq0 q_8
    have hP : va_P D vwCl (wCR h ad aa cI cR (cond (inB x (nA σ) && σ (141 + cl x) != 0) (ptS σ x 0) σ) (cond (inB x (nA σ) && σ (141 + cl x) != 0) (kpO o n) o) (cond (inB x (nA σ) && σ (141 + cl x) != 0) (kpN n) n) (cond (inB x (nA σ) && σ (141 + cl x) != 0) (va_up τ (kpS o n) σ) τ) b ln g fo0) H := by rw [E0]; exact hP
    have hD : va_D A (wCR h ad aa cI cR (cond (inB x (nA σ) && σ (141 + cl x) != 0) (ptS σ x 0) σ) (cond (inB x (nA σ) && σ (141 + cl x) != 0) (kpO o n) o) (cond (inB x (nA σ) && σ (141 + cl x) != 0) (kpN n) n) (cond (inB x (nA σ) && σ (141 + cl x) != 0) (va_up τ (kpS o n) σ) τ) b ln g fo0) := by rw [E0]; exact hD
    exact mu_reti hx hb hr hlocks (by unfold aUnpatch; rw [E0] <;> rfl) hP hD hS dX3_unpatch_13
set_option maxHeartbeats 4000000 in
set_option maxRecDepth 100000 in
theorem c_X3_patchAll (l : Launch) (D : va_G) (cI cR : ClassId) (h : Nat) (ad : Nat → Nat) (aa : Nat → Nat → Nat) (σ : Nat → Nat) (o : Nat) (n : Nat) (τ : Nat → Nat → Nat) (b : Nat → Nat) (ln : Nat) (g : Nat → Nat) (fo0 : Nat)   (hw : wf σ) (ho : o < 5) (hn : n ≤ 5) (h4 : pcN σ ≤ 4) (sz : Nat) : Met l yX3_patchAll (wsC yX3_patchAll cX3_patchAll 1 (some .int)) (rmK 6 137) (nPreM D (nTy cI cR) [.ref h] (wCR h ad aa cI cR σ o n τ b ln g fo0) sz) (QcM D (some (.int (aPatchAll σ))) (wCR h ad aa cI cR (paS σ) (kpO o n) (kpN n) (va_up τ (kpS o n) σ) b ln g fo0) (va_A (wCR h ad aa cI cR σ o n τ b ln g fo0) sz)) 0 0 (va_A (wCR h ad aa cI cR σ o n τ b ln g fo0) sz) := by
  refine met_mut (Qc := fun A => QcM D (some (.int (aPatchAll σ))) (wCR h ad aa cI cR (paS σ) (kpO o n) (kpN n) (va_up τ (kpS o n) σ) b ln g fo0) A) rfl (Nat.le_of_ble_eq_true rfl) ?_
  intro p e s m args below meth c ls A H locs hx hb hml hr hlocks hown hts hP hK hD hA hS hl
  have hl : lv_has ls 1 [(0, .ref h)] := hl
  have hA41 := hw.w41
  have hA33 := hw.a33
  have hA48 := hw.a48
  obtain ⟨hR2, hR, hB1, hB, hSa, hSb, -⟩ := id hw
  have h1024 := p2_10 hB
  refine lv_aload_n hx hb dX3_patchAll_0 rfl (lv_at hl 0 rfl) ?_
  refine va_get (D := D) (ci := 3) (v := .ref (ad 1)) (C := RX3) (T := TX3) (N := 3) hx hb hts inX3 hown hK hP 0 rfl rfl 1 (by decide) (hts _ fl_RX3_19) (fun _ h9 => h9) rfl dX3_patchAll_1 ?_
  refine lv_aload_n hx hb dX3_patchAll_4 rfl (lv_at hl 0 rfl) ?_
  refine va_get (D := D) (ci := 3) (v := .ref (ad 0)) (C := RX3) (T := TX3) (N := 3) hx hb hts inX3 hown hK hP 0 rfl rfl 0 (by decide) (hts _ fl_RX3_12) (fun _ h9 => h9) rfl dX3_patchAll_5 ?_
  refine mu_call (ws' := (wCR h ad aa cI cR σ (kpO o n) (kpN n) (va_up τ (kpS o n) σ) b ln g fo0)) [6, 7, 8, 9, 10, 11, 12, 13, 14, 15, 16, 17, 18, 19, 20, 21, 22, 23, 24, 25, 26, 27, 28, 29, 30, 31, 32, 1, 2, 3, 4, 5] [0, 33, 34, 35] [0, 31, 32, 33, 34, 35, 4, 5, 6, 7, 8, 9, 10, 11, 12, 13, 14, 15, 16, 17, 18, 19, 20, 21, 22, 23, 24, 25, 26, 27, 28, 29, 30, 1, 2, 3] [.ref (ad 0)] [] hx hb hml hown hts k_RX3_34 (fun sz => c_X0_keep l D cI cR (ad 1) (ad 3) ((fun j => ad (4 + j))) ((fun j => aa (2 + j))) o n τ (ad 0) ((aa 0)) σ ho hn sz) ⟨rfl, rfl, Nat.le_of_ble_eq_true rfl, Nat.le_of_ble_eq_true rfl⟩ hP hD hS hA hK 0 rfl rfl rfl rfl rfl rfl rfl (by decide) rfl rfl rfl hl rfl (Nat.le_of_ble_eq_true rfl) dX3_patchAll_8 ⟨Nat.zero_le _, Nat.zero_le _⟩ (fun H locs hP hD hS => ?_)
  refine W.eq (g2 := F0 m 11 ls []) rfl ?_
  refine lv_aload_n hx hb dX3_patchAll_11 rfl (lv_at hl 0 rfl) ?_
  refine va_get (D := D) (ci := 3) (v := .ref (ad 0)) (C := RX3) (T := TX3) (N := 3) hx hb hts inX3 hown hK hP 0 rfl rfl 0 (by decide) (hts _ fl_RX3_12) (fun _ h9 => h9) rfl dX3_patchAll_12 ?_
  refine mu_call (ws' := (wCR h ad aa cI cR ((mdS σ (nA σ))) (kpO o n) (kpN n) (va_up τ (kpS o n) σ) b ln g fo0)) [1, 2, 3, 4, 5] [0, 6, 7, 8, 9, 10, 11, 12, 13, 14, 15, 16, 17, 18, 19, 20, 21, 22, 23, 24, 25, 26, 27, 28, 29, 30, 31, 32, 33, 34, 35] [0, 31, 32, 33, 34, 35, 1, 2, 3, 4, 5, 6, 7, 8, 9, 10, 11, 12, 13, 14, 15, 16, 17, 18, 19, 20, 21, 22, 23, 24, 25, 26, 27, 28, 29, 30] [] [] hx hb hml hown hts k_RX3_118 (fun sz => c_X1_mendPatchesS l D cI cR (ad 0) ((aa 0)) σ hw sz) ⟨rfl, rfl, Nat.le_of_ble_eq_true rfl, Nat.le_of_ble_eq_true rfl⟩ hP hD hS hA hK 1 rfl rfl rfl rfl rfl rfl rfl (by decide) rfl rfl rfl hl rfl (Nat.le_of_ble_eq_true rfl) dX3_patchAll_15 ⟨Nat.zero_le _, Nat.zero_le _⟩ (fun H locs hP hD hS => ?_)
  refine W.eq (g2 := F0 m 18 ls []) rfl ?_
  refine lv_aload_n hx hb dX3_patchAll_18 rfl (lv_at hl 0 rfl) ?_
  refine va_get (D := D) (ci := 3) (v := .ref (ad 0)) (C := RX3) (T := TX3) (N := 3) hx hb hts inX3 hown hK hP 0 rfl rfl 0 (by decide) (hts _ fl_RX3_12) (fun _ h9 => h9) rfl dX3_patchAll_19 ?_
  refine mu_call (ws' := (wCR h ad aa cI cR (((adP ((((mdS σ (nA σ))))) (nA ((((mdS σ (nA σ))))))).1)) (kpO o n) (kpN n) (va_up τ (kpS o n) σ) b ln g fo0)) [1, 2, 3, 4, 5] [0, 6, 7, 8, 9, 10, 11, 12, 13, 14, 15, 16, 17, 18, 19, 20, 21, 22, 23, 24, 25, 26, 27, 28, 29, 30, 31, 32, 33, 34, 35] [0, 31, 32, 33, 34, 35, 1, 2, 3, 4, 5, 6, 7, 8, 9, 10, 11, 12, 13, 14, 15, 16, 17, 18, 19, 20, 21, 22, 23, 24, 25, 26, 27, 28, 29, 30] [] [] hx hb hml hown hts k_RX3_121 (fun sz => c_X1_addPatchesS l D cI cR (ad 0) ((aa 0)) ((((mdS σ (nA σ))))) (wf_md hw _) (by have := pcN_md σ (nA σ); unfold pcN at this h4; omega) sz) ⟨rfl, rfl, Nat.le_of_ble_eq_true rfl, Nat.le_of_ble_eq_true rfl⟩ hP hD hS hA hK 1 rfl rfl rfl rfl rfl rfl rfl (by decide) rfl rfl rfl hl rfl (Nat.le_of_ble_eq_true rfl) dX3_patchAll_22 ⟨Nat.zero_le _, Nat.zero_le _⟩ (fun H locs hP hD hS => ?_)
  refine W.eq (g2 := F0 m 25 ls []) rfl ?_
  refine lv_aload_n hx hb dX3_patchAll_25 rfl (lv_at hl 0 rfl) ?_
  refine va_get (D := D) (ci := 3) (v := .ref (ad 0)) (C := RX3) (T := TX3) (N := 3) hx hb hts inX3 hown hK hP 0 rfl rfl 0 (by decide) (hts _ fl_RX3_12) (fun _ h9 => h9) rfl dX3_patchAll_26 ?_
  refine lv_iconst (v := nI 0) hx hb dX3_patchAll_29 (by decide) ?_
  refine nv_callV [.int (nI 0)] [] hx hb hml hown hts k_RX3_100 (c_X1_wrongAddresses l D cI cR (ad 0) ((aa 0)) (((((adP ((((mdS σ (nA σ))))) (nA ((((mdS σ (nA σ))))))).1)))) 0 (wf_ad (wf_md hw _) _) (by decide)) ⟨rfl, rfl, Nat.le_of_ble_eq_true rfl, Nat.le_of_ble_eq_true rfl⟩ (hP.sub [1, 2, 3, 4, 5] rfl) hK 1 rfl rfl rfl rfl hl rfl (Nat.le_of_ble_eq_true rfl) dX3_patchAll_30 ⟨Nat.zero_le _, Nat.zero_le _⟩ ?_
  exact mu_reti hx hb hr hlocks (rfl) hP hD hS dX3_patchAll_33
set_option maxHeartbeats 4000000 in
set_option maxRecDepth 100000 in
theorem c_X3_load (l : Launch) (D : va_G) (cI cR : ClassId) (h : Nat) (ad : Nat → Nat) (aa : Nat → Nat → Nat) (σ : Nat → Nat) (o : Nat) (n : Nat) (τ : Nat → Nat → Nat) (b : Nat → Nat) (ln : Nat) (g : Nat → Nat) (fo0 : Nat)   (hw : wf σ) (ho : o < 5) (hn : n ≤ 5) (hb0 : ∀ i, i < ln → b i < 256) (hln : ln ≤ 100) (sz : Nat) : Met l yX3_load (wsC yX3_load cX3_load 3 (some .int)) (rmK 3 82) (nPreM D (nTy cI cR) [.ref h] (wCR h ad aa cI cR σ o n τ b ln g fo0) sz) (QcM D (some (.int (cond (scRes b (nA σ) (1 <<< σ 1 - 1) g ln == -1) (nI ((scRun b (nA σ) (1 <<< σ 1 - 1) g ln).2.2.2.2.1)) (-4)))) (wCR h ad aa cI cR (cond (scRes b (nA σ) (1 <<< σ 1 - 1) g ln == -1) (ldS σ (scRun b (nA σ) (1 <<< σ 1 - 1) g ln).2.2.2.2.2 (scRun b (nA σ) (1 <<< σ 1 - 1) g ln).2.2.2.2.1) σ) (cond (scRes b (nA σ) (1 <<< σ 1 - 1) g ln == -1) (kpO o n) o) (cond (scRes b (nA σ) (1 <<< σ 1 - 1) g ln == -1) (kpN n) n) (cond (scRes b (nA σ) (1 <<< σ 1 - 1) g ln == -1) (va_up τ (kpS o n) σ) τ) b ln ((scRun b (nA σ) (1 <<< σ 1 - 1) g ln).2.2.2.2.2) ((scRun b (nA σ) (1 <<< σ 1 - 1) g ln).2.2.2.2.1)) (va_A (wCR h ad aa cI cR σ o n τ b ln g fo0) sz)) 0 0 (va_A (wCR h ad aa cI cR σ o n τ b ln g fo0) sz) := by
  refine met_mut (Qc := fun A => QcM D (some (.int (cond (scRes b (nA σ) (1 <<< σ 1 - 1) g ln == -1) (nI ((scRun b (nA σ) (1 <<< σ 1 - 1) g ln).2.2.2.2.1)) (-4)))) (wCR h ad aa cI cR (cond (scRes b (nA σ) (1 <<< σ 1 - 1) g ln == -1) (ldS σ (scRun b (nA σ) (1 <<< σ 1 - 1) g ln).2.2.2.2.2 (scRun b (nA σ) (1 <<< σ 1 - 1) g ln).2.2.2.2.1) σ) (cond (scRes b (nA σ) (1 <<< σ 1 - 1) g ln == -1) (kpO o n) o) (cond (scRes b (nA σ) (1 <<< σ 1 - 1) g ln == -1) (kpN n) n) (cond (scRes b (nA σ) (1 <<< σ 1 - 1) g ln == -1) (va_up τ (kpS o n) σ) τ) b ln ((scRun b (nA σ) (1 <<< σ 1 - 1) g ln).2.2.2.2.2) ((scRun b (nA σ) (1 <<< σ 1 - 1) g ln).2.2.2.2.1)) A) rfl (Nat.le_of_ble_eq_true rfl) ?_
  intro p e s m args below meth c ls A H locs hx hb hml hr hlocks hown hts hP hK hD hA hS hl
  have hl : lv_has ls 3 [(0, .ref h)] := hl
  have hA41 := hw.w41
  have hA33 := hw.a33
  have hA48 := hw.a48
  obtain ⟨hR2, hR, hB1, hB, hSa, hSb, -⟩ := id hw
  have h1024 := p2_10 hB
  have hse := sh1e (σ 1)
  refine lv_aload_n hx hb dX3_load_0 rfl (lv_at hl 0 rfl) ?_
  refine va_get (D := D) (ci := 3) (v := .ref (ad 2)) (C := RX3) (T := TX3) (N := 3) hx hb hts inX3 hown hK hP 0 rfl rfl 2 (by decide) (hts _ fl_RX3_26) (fun _ h9 => h9) rfl dX3_load_1 ?_
  refine lv_aload_n hx hb dX3_load_4 rfl (lv_at hl 0 rfl) ?_
  refine va_get (D := D) (ci := 3) (v := .ref (ad 0)) (C := RX3) (T := TX3) (N := 3) hx hb hts inX3 hown hK hP 0 rfl rfl 0 (by decide) (hts _ fl_RX3_12) (fun _ h9 => h9) rfl dX3_load_5 ?_
  refine nv_callV [] [.ref (ad 2)] hx hb hml hown hts k_RX3_30 (c_X1_addressesS l D cI cR (ad 0) ((aa 0)) σ ) ⟨rfl, rfl, Nat.le_of_ble_eq_true rfl, Nat.le_of_ble_eq_true rfl⟩ (hP.sub [1, 2, 3, 4, 5] rfl) hK 1 rfl rfl rfl rfl hl rfl (Nat.le_of_ble_eq_true rfl) dX3_load_8 ⟨Nat.zero_le _, Nat.zero_le _⟩ ?_
  refine lv_aload_n hx hb dX3_load_11 rfl (lv_at hl 0 rfl) ?_
  refine va_get (D := D) (ci := 3) (v := .ref (ad 0)) (C := RX3) (T := TX3) (N := 3) hx hb hts inX3 hown hK hP 0 rfl rfl 0 (by decide) (hts _ fl_RX3_12) (fun _ h9 => h9) rfl dX3_load_12 ?_
  refine nv_callV [] [.int (nI (nA σ)), .ref (ad 2)] hx hb hml hown hts k_RX3_141 (c_X1_highestWord l D cI cR (ad 0) ((aa 0)) (σ 0) (σ 1) (σ 2) (onF σ) (wwF σ) (crF σ) (ptF σ) (by omega)) ⟨rfl, rfl, Nat.le_of_ble_eq_true rfl, Nat.le_of_ble_eq_true rfl⟩ (hP.sub [1, 2, 3, 4, 5] rfl) hK 1 rfl rfl rfl rfl hl rfl (Nat.le_of_ble_eq_true rfl) dX3_load_15 ⟨Nat.zero_le _, Nat.zero_le _⟩ ?_
  refine mu_call (ws' := (wCR h ad aa cI cR σ o n τ b ln ((scRun b (nA σ) (1 <<< (σ 1) - 1) g ln).2.2.2.2.2) ((scRun b (nA σ) (1 <<< (σ 1) - 1) g ln).2.2.2.2.1))) [33, 34, 35] [0, 1, 2, 3, 4, 5, 6, 7, 8, 9, 10, 11, 12, 13, 14, 15, 16, 17, 18, 19, 20, 21, 22, 23, 24, 25, 26, 27, 28, 29, 30, 31, 32] [0, 1, 2, 3, 4, 5, 6, 7, 8, 9, 10, 11, 12, 13, 14, 15, 16, 17, 18, 19, 20, 21, 22, 23, 24, 25, 26, 27, 28, 29, 30, 31, 32, 33, 34, 35] [.int (nI (nA σ)), .int (nI (1 <<< (σ 1) - 1))] [] hx hb hml hown hts k_RX3_144 (fun sz => c_X2_scan l D cI cR (ad 2) ((aa 1)) b ln g fo0 (nA σ) (1 <<< (σ 1) - 1) hb0 hln (by omega) (by omega) sz) ⟨rfl, rfl, Nat.le_of_ble_eq_true rfl, Nat.le_of_ble_eq_true rfl⟩ hP hD hS hA hK 2 rfl rfl rfl rfl rfl rfl rfl (by decide) rfl rfl rfl hl rfl (Nat.le_of_ble_eq_true rfl) dX3_load_18 ⟨Nat.zero_le _, Nat.zero_le _⟩ (fun H locs hP hD hS => ?_)
  refine W.eq (g2 := F0 m 21 ls [.int (scRes b (nA σ) (1 <<< (σ 1) - 1) g ln)]) rfl ?_
  refine lv_iconst (v := -1) hx hb dX3_load_21 (by decide) ?_
  refine lv_icmp_eq (tgt := 28) hx hb dX3_load_22 (by decide) (fun q_22 => ?_) (fun q_22 => ?_)
  · obtain ⟨hs1, hs2⟩ := sc_ok (by omega) q_22
    refine lv_aload_n hx hb dX3_load_28 rfl (lv_at hl 0 rfl) ?_
    refine va_get (D := D) (ci := 3) (v := .ref (ad 1)) (C := RX3) (T := TX3) (N := 3) hx hb hts inX3 hown hK hP 0 rfl rfl 1 (by decide) (hts _ fl_RX3_19) (fun _ h9 => h9) rfl dX3_load_29 ?_
    refine lv_aload_n hx hb dX3_load_32 rfl (lv_at hl 0 rfl) ?_
    refine va_get (D := D) (ci := 3) (v := .ref (ad 0)) (C := RX3) (T := TX3) (N := 3) hx hb hts inX3 hown hK hP 0 rfl rfl 0 (by decide) (hts _ fl_RX3_12) (fun _ h9 => h9) rfl dX3_load_33 ?_
    refine mu_call (ws' := (wCR h ad aa cI cR σ (kpO o n) (kpN n) (va_up τ (kpS o n) σ) b ln ((scRun b (nA σ) (1 <<< (σ 1) - 1) g ln).2.2.2.2.2) ((scRun b (nA σ) (1 <<< (σ 1) - 1) g ln).2.2.2.2.1))) [6, 7, 8, 9, 10, 11, 12, 13, 14, 15, 16, 17, 18, 19, 20, 21, 22, 23, 24, 25, 26, 27, 28, 29, 30, 31, 32, 1, 2, 3, 4, 5] [0, 33, 34, 35] [0, 31, 32, 33, 34, 35, 4, 5, 6, 7, 8, 9, 10, 11, 12, 13, 14, 15, 16, 17, 18, 19, 20, 21, 22, 23, 24, 25, 26, 27, 28, 29, 30, 1, 2, 3] [.ref (ad 0)] [] hx hb hml hown hts k_RX3_34 (fun sz => c_X0_keep l D cI cR (ad 1) (ad 3) ((fun j => ad (4 + j))) ((fun j => aa (2 + j))) o n τ (ad 0) ((aa 0)) σ ho hn sz) ⟨rfl, rfl, Nat.le_of_ble_eq_true rfl, Nat.le_of_ble_eq_true rfl⟩ hP hD hS hA hK 0 rfl rfl rfl rfl rfl rfl rfl (by decide) rfl rfl rfl hl rfl (Nat.le_of_ble_eq_true rfl) dX3_load_36 ⟨Nat.zero_le _, Nat.zero_le _⟩ (fun H locs hP hD hS => ?_)
    refine W.eq (g2 := F0 m 39 ls []) rfl ?_
    refine lv_aload_n hx hb dX3_load_39 rfl (lv_at hl 0 rfl) ?_
    refine va_get (D := D) (ci := 3) (v := .ref (ad 2)) (C := RX3) (T := TX3) (N := 3) hx hb hts inX3 hown hK hP 0 rfl rfl 2 (by decide) (hts _ fl_RX3_26) (fun _ h9 => h9) rfl dX3_load_40 ?_
    refine nv_callV [] [] hx hb hml hown hts k_RX3_147 (c_X2_wordsFound l D cI cR (ad 2) ((aa 1)) (nF b) ln (nF ((scRun b (nA σ) (1 <<< (σ 1) - 1) g ln).2.2.2.2.2)) ((scRun b (nA σ) (1 <<< (σ 1) - 1) g ln).2.2.2.2.1) ) ⟨rfl, rfl, Nat.le_of_ble_eq_true rfl, Nat.le_of_ble_eq_true rfl⟩ (hP.sub [33, 34, 35] rfl) hK 2 rfl rfl rfl rfl hl rfl (Nat.le_of_ble_eq_true rfl) dX3_load_43 ⟨Nat.zero_le _, Nat.zero_le _⟩ ?_
    refine lv_istore_n (lv' := [(1, .int (nI (((scRun b (nA σ) (1 <<< (σ 1) - 1) g ln).2.2.2.2.1)))), (0, .ref h)]) hx hb dX3_load_46 rfl hl (by decide) rfl (fun ls hl => ?_)
    refine lv_iconst (v := nI 0) hx hb dX3_load_47 (by decide) ?_
    refine lv_istore_n (lv' := [(2, .int (nI 0)), (1, .int (nI (((scRun b (nA σ) (1 <<< (σ 1) - 1) g ln).2.2.2.2.1)))), (0, .ref h)]) hx hb dX3_load_48 rfl hl (by decide) rfl (fun ls hl => ?_)
    have L49 : ∀ (n49 i : Nat), (scRun b (nA σ) (1 <<< σ 1 - 1) g ln).2.2.2.2.1 + 1 ≤ i + n49 → i ≤ (scRun b (nA σ) (1 <<< σ 1 - 1) g ln).2.2.2.2.1 → ∀ (H : Heap) (locs : List Loc), va_P D vwCl (wCR h ad aa cI cR (ldS σ (scRun b (nA σ) (1 <<< σ 1 - 1) g ln).2.2.2.2.2 i) (kpO o n) (kpN n) (va_up τ (kpS o n) σ) b ln ((scRun b (nA σ) (1 <<< σ 1 - 1) g ln).2.2.2.2.2) ((scRun b (nA σ) (1 <<< σ 1 - 1) g ln).2.2.2.2.1)) H → va_D A (wCR h ad aa cI cR (ldS σ (scRun b (nA σ) (1 <<< σ 1 - 1) g ln).2.2.2.2.2 i) (kpO o n) (kpN n) (va_up τ (kpS o n) σ) b ln ((scRun b (nA σ) (1 <<< σ 1 - 1) g ln).2.2.2.2.2) ((scRun b (nA σ) (1 <<< σ 1 - 1) g ln).2.2.2.2.1)) → va_S A s.heap H locs → ∀ (ls : Array Slot), lv_has ls 3 [(2, .int (nI i)), (1, .int (nI (((scRun b (nA σ) (1 <<< (σ 1) - 1) g ln).2.2.2.2.1)))), (0, .ref h)] → W p l e (rmK 3 82) s m args below meth c H locs 0 0 (MQ below (QcM D (some (.int (cond (scRes b (nA σ) (1 <<< σ 1 - 1) g ln == -1) (nI ((scRun b (nA σ) (1 <<< σ 1 - 1) g ln).2.2.2.2.1)) (-4)))) (wCR h ad aa cI cR (cond (scRes b (nA σ) (1 <<< σ 1 - 1) g ln == -1) (ldS σ (scRun b (nA σ) (1 <<< σ 1 - 1) g ln).2.2.2.2.2 (scRun b (nA σ) (1 <<< σ 1 - 1) g ln).2.2.2.2.1) σ) (cond (scRes b (nA σ) (1 <<< σ 1 - 1) g ln == -1) (kpO o n) o) (cond (scRes b (nA σ) (1 <<< σ 1 - 1) g ln == -1) (kpN n) n) (cond (scRes b (nA σ) (1 <<< σ 1 - 1) g ln == -1) (va_up τ (kpS o n) σ) τ) b ln ((scRun b (nA σ) (1 <<< σ 1 - 1) g ln).2.2.2.2.2) ((scRun b (nA σ) (1 <<< σ 1 - 1) g ln).2.2.2.2.1)) A) args s 0 0 A) (F0 m 49 ls []) := by
      intro n49
      induction n49 with
      | zero =>
        intro i h1_49 h2_49
        exact False.elim (by omega)
      | succ n49 ih49 =>
        intro i h1_49 h2_49  H locs hP hD hS ls hl
        refine lv_iload_n hx hb dX3_load_49 rfl (lv_at hl 0 rfl) ?_
        refine lv_iload_n hx hb dX3_load_50 rfl (lv_at hl 1 rfl) ?_
        refine nv_icmp_ge (tgt := 76) hx hb dX3_load_51 (by decide) (by omega) (by omega) (fun q_51 => ?_) (fun q_51 => ?_)
        · refine lv_iload_n hx hb dX3_load_76 rfl (lv_at hl 1 rfl) ?_
          have E0 : (scRes b (nA σ) (1 <<< σ 1 - 1) g ln == -1) = true := by rw [q_22]; rfl
          have ei : i = (scRun b (nA σ) (1 <<< σ 1 - 1) g ln).2.2.2.2.1 := by omega
          have hP : va_P D vwCl (wCR h ad aa cI cR (cond (scRes b (nA σ) (1 <<< σ 1 - 1) g ln == -1) (ldS σ (scRun b (nA σ) (1 <<< σ 1 - 1) g ln).2.2.2.2.2 (scRun b (nA σ) (1 <<< σ 1 - 1) g ln).2.2.2.2.1) σ) (cond (scRes b (nA σ) (1 <<< σ 1 - 1) g ln == -1) (kpO o n) o) (cond (scRes b (nA σ) (1 <<< σ 1 - 1) g ln == -1) (kpN n) n) (cond (scRes b (nA σ) (1 <<< σ 1 - 1) g ln == -1) (va_up τ (kpS o n) σ) τ) b ln ((scRun b (nA σ) (1 <<< σ 1 - 1) g ln).2.2.2.2.2) ((scRun b (nA σ) (1 <<< σ 1 - 1) g ln).2.2.2.2.1)) H := by rw [E0, ← ei]; rw [← ei] at hP; exact hP
          have hD : va_D A (wCR h ad aa cI cR (cond (scRes b (nA σ) (1 <<< σ 1 - 1) g ln == -1) (ldS σ (scRun b (nA σ) (1 <<< σ 1 - 1) g ln).2.2.2.2.2 (scRun b (nA σ) (1 <<< σ 1 - 1) g ln).2.2.2.2.1) σ) (cond (scRes b (nA σ) (1 <<< σ 1 - 1) g ln == -1) (kpO o n) o) (cond (scRes b (nA σ) (1 <<< σ 1 - 1) g ln == -1) (kpN n) n) (cond (scRes b (nA σ) (1 <<< σ 1 - 1) g ln == -1) (va_up τ (kpS o n) σ) τ) b ln ((scRun b (nA σ) (1 <<< σ 1 - 1) g ln).2.2.2.2.2) ((scRun b (nA σ) (1 <<< σ 1 - 1) g ln).2.2.2.2.1)) := by rw [E0, ← ei]; rw [← ei] at hD; exact hD
          exact mu_reti hx hb hr hlocks (by rw [E0]; rfl) hP hD hS dX3_load_77
        · refine lv_aload_n hx hb dX3_load_54 rfl (lv_at hl 2 rfl) ?_
          refine va_get (D := D) (ci := 3) (v := .ref (ad 0)) (C := RX3) (T := TX3) (N := 3) hx hb hts inX3 hown hK hP 0 rfl rfl 0 (by decide) (hts _ fl_RX3_12) (fun _ h9 => h9) rfl dX3_load_55 ?_
          refine lv_iload_n hx hb dX3_load_58 rfl (lv_at hl 0 rfl) ?_
          refine lv_aload_n hx hb dX3_load_59 rfl (lv_at hl 2 rfl) ?_
          refine va_get (D := D) (ci := 3) (v := .ref (ad 2)) (C := RX3) (T := TX3) (N := 3) hx hb hts inX3 hown hK hP 0 rfl rfl 2 (by decide) (hts _ fl_RX3_26) (fun _ h9 => h9) rfl dX3_load_60 ?_
          refine lv_iload_n hx hb dX3_load_63 rfl (lv_at hl 0 rfl) ?_
          refine nv_callV [.int (nI i)] [.int (nI i), .ref (ad 0)] hx hb hml hown hts k_RX3_150 (c_X2_wordFound l D cI cR (ad 2) ((aa 1)) (nF b) ln (nF ((scRun b (nA σ) (1 <<< σ 1 - 1) g ln).2.2.2.2.2)) ((scRun b (nA σ) (1 <<< σ 1 - 1) g ln).2.2.2.2.1) i (by omega)) ⟨rfl, rfl, Nat.le_of_ble_eq_true rfl, Nat.le_of_ble_eq_true rfl⟩ (hP.sub [33, 34, 35] rfl) hK 2 rfl rfl rfl rfl hl rfl (Nat.le_of_ble_eq_true rfl) dX3_load_64 ⟨Nat.zero_le _, Nat.zero_le _⟩ ?_
          refine nv_tope (nI ((scRun b (nA σ) (1 <<< σ 1 - 1) g ln).2.2.2.2.2 i)) (rfl) ?_
          refine mu_call (ws' := (wCR h ad aa cI cR (ldS σ (scRun b (nA σ) (1 <<< σ 1 - 1) g ln).2.2.2.2.2 (i + 1)) (kpO o n) (kpN n) (va_up τ (kpS o n) σ) b ln ((scRun b (nA σ) (1 <<< σ 1 - 1) g ln).2.2.2.2.2) ((scRun b (nA σ) (1 <<< σ 1 - 1) g ln).2.2.2.2.1))) [1, 2, 3, 4, 5] [0, 6, 7, 8, 9, 10, 11, 12, 13, 14, 15, 16, 17, 18, 19, 20, 21, 22, 23, 24, 25, 26, 27, 28, 29, 30, 31, 32, 33, 34, 35] [0, 31, 32, 33, 34, 35, 1, 2, 3, 4, 5, 6, 7, 8, 9, 10, 11, 12, 13, 14, 15, 16, 17, 18, 19, 20, 21, 22, 23, 24, 25, 26, 27, 28, 29, 30] [.int (nI i), .int (nI ((scRun b (nA σ) (1 <<< σ 1 - 1) g ln).2.2.2.2.2 i))] [] hx hb hml hown hts k_RX3_69 (fun sz => c_X1_putWordS l D cI cR (ad 0) ((aa 0)) (((ldS σ (scRun b (nA σ) (1 <<< σ 1 - 1) g ln).2.2.2.2.2 i))) i ((scRun b (nA σ) (1 <<< σ 1 - 1) g ln).2.2.2.2.2 i) (wf_ld hw i (by omega) (fun j hj => by have := hs2 j (by omega); omega)) (by rw [nA_ld]; omega) (by have := hs2 i (by omega); omega) sz) ⟨rfl, rfl, Nat.le_of_ble_eq_true rfl, Nat.le_of_ble_eq_true rfl⟩ hP hD hS hA hK 1 rfl rfl rfl rfl rfl rfl rfl (by decide) rfl rfl rfl hl rfl (Nat.le_of_ble_eq_true rfl) dX3_load_67 ⟨Nat.zero_le _, Nat.zero_le _⟩ (fun H locs hP hD hS => ?_)
          refine W.eq (g2 := F0 m 70 ls []) rfl ?_
          refine nv_inc (k := 0) (lv' := [(2, .int (nI (i + 1))), (1, .int (nI (((scRun b (nA σ) (1 <<< (σ 1) - 1) g ln).2.2.2.2.1)))), (0, .ref h)]) hx hb dX3_load_70 hl rfl (by decide) rfl (fun ls hl => ?_)
          refine lv_goto (tgt := 49) hx hb dX3_load_73 (by decide) ?_
          exact ih49 (i + 1) (by omega) (by omega)  _ _ hP hD hS ls (lv_sub hl [0, 1, 2] rfl)
    skip
    exact L49 ((scRun b (nA σ) (1 <<< σ 1 - 1) g ln).2.2.2.2.1 + 1) 0 (by omega) (by omega)  _ _ hP hD hS ls (lv_sub hl [0, 1, 2] rfl)
  · refine lv_bipush (v := -4) hx hb dX3_load_25 (by decide) ?_
    have E0 : (scRes b (nA σ) (1 <<< σ 1 - 1) g ln == -1) = false := beq_eq_false_iff_ne.mpr q_22
    have hP : va_P D vwCl (wCR h ad aa cI cR (cond (scRes b (nA σ) (1 <<< σ 1 - 1) g ln == -1) (ldS σ (scRun b (nA σ) (1 <<< σ 1 - 1) g ln).2.2.2.2.2 (scRun b (nA σ) (1 <<< σ 1 - 1) g ln).2.2.2.2.1) σ) (cond (scRes b (nA σ) (1 <<< σ 1 - 1) g ln == -1) (kpO o n) o) (cond (scRes b (nA σ) (1 <<< σ 1 - 1) g ln == -1) (kpN n) n) (cond (scRes b (nA σ) (1 <<< σ 1 - 1) g ln == -1) (va_up τ (kpS o n) σ) τ) b ln ((scRun b (nA σ) (1 <<< σ 1 - 1) g ln).2.2.2.2.2) ((scRun b (nA σ) (1 <<< σ 1 - 1) g ln).2.2.2.2.1)) H := by rw [E0]; exact hP
    have hD : va_D A (wCR h ad aa cI cR (cond (scRes b (nA σ) (1 <<< σ 1 - 1) g ln == -1) (ldS σ (scRun b (nA σ) (1 <<< σ 1 - 1) g ln).2.2.2.2.2 (scRun b (nA σ) (1 <<< σ 1 - 1) g ln).2.2.2.2.1) σ) (cond (scRes b (nA σ) (1 <<< σ 1 - 1) g ln == -1) (kpO o n) o) (cond (scRes b (nA σ) (1 <<< σ 1 - 1) g ln == -1) (kpN n) n) (cond (scRes b (nA σ) (1 <<< σ 1 - 1) g ln == -1) (va_up τ (kpS o n) σ) τ) b ln ((scRun b (nA σ) (1 <<< σ 1 - 1) g ln).2.2.2.2.2) ((scRun b (nA σ) (1 <<< σ 1 - 1) g ln).2.2.2.2.1)) := by rw [E0]; exact hD
    exact mu_reti hx hb hr hlocks (by rw [E0]; rfl) hP hD hS dX3_load_27
