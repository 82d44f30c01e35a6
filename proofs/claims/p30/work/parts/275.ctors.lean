set_option maxHeartbeats 4000000 in
set_option maxRecDepth 100000 in
theorem c_X1_init (l : Launch) (D : va_G) (cI cR : ClassId) (h : Nat) (sz : Nat) : Met l yX1_init (wsC yX1_init cX1_init 1 none) (rmC 3 4 171 72) (nPreO D (nTy cI cR) [.ref h] [(h, .inr (1, [.int 0, .int 0, .int 0, .null, .null, .null, .null]))] sz) (QcE D (wR0 h cI) (va_A [(h, .inr (1, [.int 0, .int 0, .int 0, .null, .null, .null, .null]))] sz)) 4 171 (va_A [(h, .inr (1, [.int 0, .int 0, .int 0, .null, .null, .null, .null]))] sz) := by
  refine met_init (by decide) rfl (Nat.le_of_ble_eq_true rfl) ?_
  intro p e s m args below meth c ls A H locs hx hb hml hr hlocks hown hts hin hO hP hK hD hA hS hl
  refine lv_aload_n hx hb dX1_init_0 rfl (lv_at hl 0 rfl) ?_
  refine W.objInit hx hb hown (hts _ ml_RX1_3) (hts _ ob_i) (hts _ ob_c) rfl (by rw [hml]; exact hl.1) rfl dX1_init_1 (Nat.le_of_ble_eq_true rfl) (Nat.le_of_ble_eq_true rfl) ?_
  refine W.eq (g2 := F0 m 4 ls []) rfl ?_
  refine lv_aload_n hx hb dX1_init_4 rfl (lv_at hl 0 rfl) ?_
  refine lv_bipush (v := nI 41) hx hb dX1_init_5 (by decide) ?_
  refine nu_newa (N := 41) hx hb hts hK hP hD hS hA (Nat.le_of_ble_eq_true rfl) (Nat.le_of_ble_eq_true rfl) (Nat.le_of_ble_eq_true rfl) dX1_init_7 (fun q0 H hP hD hS => ?_)
  have hP : va_P D vwCl [(h, .inr (1, [.int 0, .int 0, .int 0, .null, .null, .null, .null])), (q0, .inl (cI, 41, .inl (fun _ => 0)))] H := hP
  have hD : va_D A [(h, .inr (1, [.int 0, .int 0, .int 0, .null, .null, .null, .null])), (q0, .inl (cI, 41, .inl (fun _ => 0)))] := hD
  refine va_putF (D := D) (ci := 1) (v := .ref q0) (ty := .array .int) (C := RX1) (T := TX1) (N := 7) hx hb hts inX1 tyX1 tyX1_ok nmX1 hown hK hP hD hS 0 rfl rfl 3 (by decide) (hts _ fl_RX1_9) (fun _ h9 => h9) rfl hin rfl (by decide +kernel) rfl rfl (Nat.le_of_ble_eq_true rfl) dX1_init_9 (fun H locs hP hD hS => ?_)
  have hP : va_P D vwCl [(h, .inr (1, [.int 0, .int 0, .int 0, .ref q0, .null, .null, .null])), (q0, .inl (cI, 41, .inl (fun _ => 0)))] H := hP
  have hD : va_D A [(h, .inr (1, [.int 0, .int 0, .int 0, .ref q0, .null, .null, .null])), (q0, .inl (cI, 41, .inl (fun _ => 0)))] := hD
  refine lv_aload_n hx hb dX1_init_12 rfl (lv_at hl 0 rfl) ?_
  refine lv_bipush (v := nI 41) hx hb dX1_init_13 (by decide) ?_
  refine nu_newa (N := 41) hx hb hts hK hP hD hS hA (Nat.le_of_ble_eq_true rfl) (Nat.le_of_ble_eq_true rfl) (Nat.le_of_ble_eq_true rfl) dX1_init_15 (fun q1 H hP hD hS => ?_)
  have hP : va_P D vwCl [(h, .inr (1, [.int 0, .int 0, .int 0, .ref q0, .null, .null, .null])), (q0, .inl (cI, 41, .inl (fun _ => 0))), (q1, .inl (cI, 41, .inl (fun _ => 0)))] H := hP
  have hD : va_D A [(h, .inr (1, [.int 0, .int 0, .int 0, .ref q0, .null, .null, .null])), (q0, .inl (cI, 41, .inl (fun _ => 0))), (q1, .inl (cI, 41, .inl (fun _ => 0)))] := hD
  refine va_putF (D := D) (ci := 1) (v := .ref q1) (ty := .array .int) (C := RX1) (T := TX1) (N := 7) hx hb hts inX1 tyX1 tyX1_ok nmX1 hown hK hP hD hS 0 rfl rfl 4 (by decide) (hts _ fl_RX1_15) (fun _ h9 => h9) rfl hin rfl (by decide +kernel) rfl rfl (Nat.le_of_ble_eq_true rfl) dX1_init_17 (fun H locs hP hD hS => ?_)
  have hP : va_P D vwCl [(h, .inr (1, [.int 0, .int 0, .int 0, .ref q0, .ref q1, .null, .null])), (q0, .inl (cI, 41, .inl (fun _ => 0))), (q1, .inl (cI, 41, .inl (fun _ => 0)))] H := hP
  have hD : va_D A [(h, .inr (1, [.int 0, .int 0, .int 0, .ref q0, .ref q1, .null, .null])), (q0, .inl (cI, 41, .inl (fun _ => 0))), (q1, .inl (cI, 41, .inl (fun _ => 0)))] := hD
  refine lv_aload_n hx hb dX1_init_20 rfl (lv_at hl 0 rfl) ?_
  refine lv_bipush (v := nI 41) hx hb dX1_init_21 (by decide) ?_
  refine nu_newa (N := 41) hx hb hts hK hP hD hS hA (Nat.le_of_ble_eq_true rfl) (Nat.le_of_ble_eq_true rfl) (Nat.le_of_ble_eq_true rfl) dX1_init_23 (fun q2 H hP hD hS => ?_)
  have hP : va_P D vwCl [(h, .inr (1, [.int 0, .int 0, .int 0, .ref q0, .ref q1, .null, .null])), (q0, .inl (cI, 41, .inl (fun _ => 0))), (q1, .inl (cI, 41, .inl (fun _ => 0))), (q2, .inl (cI, 41, .inl (fun _ => 0)))] H := hP
  have hD : va_D A [(h, .inr (1, [.int 0, .int 0, .int 0, .ref q0, .ref q1, .null, .null])), (q0, .inl (cI, 41, .inl (fun _ => 0))), (q1, .inl (cI, 41, .inl (fun _ => 0))), (q2, .inl (cI, 41, .inl (fun _ => 0)))] := hD
  refine va_putF (D := D) (ci := 1) (v := .ref q2) (ty := .array .int) (C := RX1) (T := TX1) (N := 7) hx hb hts inX1 tyX1 tyX1_ok nmX1 hown hK hP hD hS 0 rfl rfl 5 (by decide) (hts _ fl_RX1_18) (fun _ h9 => h9) rfl hin rfl (by decide +kernel) rfl rfl (Nat.le_of_ble_eq_true rfl) dX1_init_25 (fun H locs hP hD hS => ?_)
  have hP : va_P D vwCl [(h, .inr (1, [.int 0, .int 0, .int 0, .ref q0, .ref q1, .ref q2, .null])), (q0, .inl (cI, 41, .inl (fun _ => 0))), (q1, .inl (cI, 41, .inl (fun _ => 0))), (q2, .inl (cI, 41, .inl (fun _ => 0)))] H := hP
  have hD : va_D A [(h, .inr (1, [.int 0, .int 0, .int 0, .ref q0, .ref q1, .ref q2, .null])), (q0, .inl (cI, 41, .inl (fun _ => 0))), (q1, .inl (cI, 41, .inl (fun _ => 0))), (q2, .inl (cI, 41, .inl (fun _ => 0)))] := hD
  refine lv_aload_n hx hb dX1_init_28 rfl (lv_at hl 0 rfl) ?_
  refine lv_bipush (v := nI 48) hx hb dX1_init_29 (by decide) ?_
  refine nu_newa (N := 48) hx hb hts hK hP hD hS hA (Nat.le_of_ble_eq_true rfl) (Nat.le_of_ble_eq_true rfl) (Nat.le_of_ble_eq_true rfl) dX1_init_31 (fun q3 H hP hD hS => ?_)
  have hP : va_P D vwCl [(h, .inr (1, [.int 0, .int 0, .int 0, .ref q0, .ref q1, .ref q2, .null])), (q0, .inl (cI, 41, .inl (fun _ => 0))), (q1, .inl (cI, 41, .inl (fun _ => 0))), (q2, .inl (cI, 41, .inl (fun _ => 0))), (q3, .inl (cI, 48, .inl (fun _ => 0)))] H := hP
  have hD : va_D A [(h, .inr (1, [.int 0, .int 0, .int 0, .ref q0, .ref q1, .ref q2, .null])), (q0, .inl (cI, 41, .inl (fun _ => 0))), (q1, .inl (cI, 41, .inl (fun _ => 0))), (q2, .inl (cI, 41, .inl (fun _ => 0))), (q3, .inl (cI, 48, .inl (fun _ => 0)))] := hD
  refine va_putF (D := D) (ci := 1) (v := .ref q3) (ty := .array .int) (C := RX1) (T := TX1) (N := 7) hx hb hts inX1 tyX1 tyX1_ok nmX1 hown hK hP hD hS 0 rfl rfl 6 (by decide) (hts _ fl_RX1_21) (fun _ h9 => h9) rfl hin rfl (by decide +kernel) rfl rfl (Nat.le_of_ble_eq_true rfl) dX1_init_33 (fun H locs hP hD hS => ?_)
  have hP : va_P D vwCl [(h, .inr (1, [.int 0, .int 0, .int 0, .ref q0, .ref q1, .ref q2, .ref q3])), (q0, .inl (cI, 41, .inl (fun _ => 0))), (q1, .inl (cI, 41, .inl (fun _ => 0))), (q2, .inl (cI, 41, .inl (fun _ => 0))), (q3, .inl (cI, 48, .inl (fun _ => 0)))] H := hP
  have hD : va_D A [(h, .inr (1, [.int 0, .int 0, .int 0, .ref q0, .ref q1, .ref q2, .ref q3])), (q0, .inl (cI, 41, .inl (fun _ => 0))), (q1, .inl (cI, 41, .inl (fun _ => 0))), (q2, .inl (cI, 41, .inl (fun _ => 0))), (q3, .inl (cI, 48, .inl (fun _ => 0)))] := hD
  have hP : va_P D vwCl (wRp h (a4 q0 q1 q2 q3) cI 0 0 0 (fun _ => 0) (fun _ => 0) (fun _ => 0) (fun _ => 0)) H := hP
  have hD : va_D A (wRp h (a4 q0 q1 q2 q3) cI 0 0 0 (fun _ => 0) (fun _ => 0) (fun _ => 0) (fun _ => 0)) := hD
  refine lv_aload_n hx hb dX1_init_36 rfl (lv_at hl 0 rfl) ?_
  refine lv_bipush (v := nI 8) hx hb dX1_init_37 (by decide) ?_
  refine lv_bipush (v := nI 6) hx hb dX1_init_39 (by decide) ?_
  refine lv_iconst (v := nI 2) hx hb dX1_init_41 (by decide) ?_
  refine mu_call (ws' := (wRp h (a4 q0 q1 q2 q3) cI 8 6 2 (nF (swG 8 6 2 (8 * 2))) (nF (fun _ => 0)) (nF (fun _ => 0)) ((fun _ => -1)))) [0, 1, 2, 3, 4] [] [0, 1, 2, 3, 4] [.int (nI 8), .int (nI 6), .int (nI 2)] [] hx hb hml hown hts k_RX1_24 (fun sz => c_X1_start l D cI cR h (a4 q0 q1 q2 q3) 0 0 0 (fun _ => 0) (fun _ => 0) (fun _ => 0) (fun _ => 0) 8 6 2 (by decide) (by decide) (by decide) (by decide) sz) ⟨rfl, rfl, Nat.le_of_ble_eq_true rfl, Nat.le_of_ble_eq_true rfl⟩ hP hD hS hA hK 1 rfl rfl rfl rfl rfl rfl rfl (by decide) rfl rfl rfl hl rfl (Nat.le_of_ble_eq_true rfl) dX1_init_42 ⟨Nat.le_of_ble_eq_true rfl, Nat.le_of_ble_eq_true rfl⟩ (fun H locs hP hD hS => ?_)
  refine W.eq (g2 := F0 m 45 ls []) rfl ?_
  exact mu_rete (V := wR0 h cI) (a4 q0 q1 q2 q3) hx hb hr hlocks ((start_to (by decide) (by decide)).1 _ hP) ((start_to (D := D) (by decide) (by decide)).2 _ hD) hS dX1_init_45
set_option maxHeartbeats 4000000 in
set_option maxRecDepth 100000 in
theorem c_X2_init (l : Launch) (D : va_G) (cI cR : ClassId) (h : Nat) (sz : Nat) : Met l yX2_init (wsC yX2_init cX2_init 1 none) (rmC 1 2 148 20) (nPreO D (nTy cI cR) [.ref h] [(h, .inr (2, [.null, .int 0, .null, .int 0]))] sz) (QcE D (fun a : Nat → Nat => wTx h a cI (nF (fun _ => 0)) 0 (nF (fun _ => 0)) 0) (va_A [(h, .inr (2, [.null, .int 0, .null, .int 0]))] sz)) 2 148 (va_A [(h, .inr (2, [.null, .int 0, .null, .int 0]))] sz) := by
  refine met_init (by decide) rfl (Nat.le_of_ble_eq_true rfl) ?_
  intro p e s m args below meth c ls A H locs hx hb hml hr hlocks hown hts hin hO hP hK hD hA hS hl
  refine lv_aload_n hx hb dX2_init_0 rfl (lv_at hl 0 rfl) ?_
  refine W.objInit hx hb hown (hts _ ml_RX2_3) (hts _ ob_i) (hts _ ob_c) rfl (by rw [hml]; exact hl.1) rfl dX2_init_1 (Nat.le_of_ble_eq_true rfl) (Nat.le_of_ble_eq_true rfl) ?_
  refine W.eq (g2 := F0 m 4 ls []) rfl ?_
  refine lv_aload_n hx hb dX2_init_4 rfl (lv_at hl 0 rfl) ?_
  refine lv_bipush (v := nI 100) hx hb dX2_init_5 (by decide) ?_
  refine nu_newa (N := 100) hx hb hts hK hP hD hS hA (Nat.le_of_ble_eq_true rfl) (Nat.le_of_ble_eq_true rfl) (Nat.le_of_ble_eq_true rfl) dX2_init_7 (fun q0 H hP hD hS => ?_)
  have hP : va_P D vwCl [(h, .inr (2, [.null, .int 0, .null, .int 0])), (q0, .inl (cI, 100, .inl (fun _ => 0)))] H := hP
  have hD : va_D A [(h, .inr (2, [.null, .int 0, .null, .int 0])), (q0, .inl (cI, 100, .inl (fun _ => 0)))] := hD
  refine va_putF (D := D) (ci := 2) (v := .ref q0) (ty := .array .int) (C := RX2) (T := TX2) (N := 4) hx hb hts inX2 tyX2 tyX2_ok nmX2 hown hK hP hD hS 0 rfl rfl 0 (by decide) (hts _ fl_RX2_9) (fun _ h9 => h9) rfl hin rfl (by decide +kernel) rfl rfl (Nat.le_of_ble_eq_true rfl) dX2_init_9 (fun H locs hP hD hS => ?_)
  have hP : va_P D vwCl [(h, .inr (2, [.ref q0, .int 0, .null, .int 0])), (q0, .inl (cI, 100, .inl (fun _ => 0)))] H := hP
  have hD : va_D A [(h, .inr (2, [.ref q0, .int 0, .null, .int 0])), (q0, .inl (cI, 100, .inl (fun _ => 0)))] := hD
  refine lv_aload_n hx hb dX2_init_12 rfl (lv_at hl 0 rfl) ?_
  refine lv_bipush (v := nI 48) hx hb dX2_init_13 (by decide) ?_
  refine nu_newa (N := 48) hx hb hts hK hP hD hS hA (Nat.le_of_ble_eq_true rfl) (Nat.le_of_ble_eq_true rfl) (Nat.le_of_ble_eq_true rfl) dX2_init_15 (fun q1 H hP hD hS => ?_)
  have hP : va_P D vwCl [(h, .inr (2, [.ref q0, .int 0, .null, .int 0])), (q0, .inl (cI, 100, .inl (fun _ => 0))), (q1, .inl (cI, 48, .inl (fun _ => 0)))] H := hP
  have hD : va_D A [(h, .inr (2, [.ref q0, .int 0, .null, .int 0])), (q0, .inl (cI, 100, .inl (fun _ => 0))), (q1, .inl (cI, 48, .inl (fun _ => 0)))] := hD
  refine va_putF (D := D) (ci := 2) (v := .ref q1) (ty := .array .int) (C := RX2) (T := TX2) (N := 4) hx hb hts inX2 tyX2 tyX2_ok nmX2 hown hK hP hD hS 0 rfl rfl 2 (by decide) (hts _ fl_RX2_15) (fun _ h9 => h9) rfl hin rfl (by decide +kernel) rfl rfl (Nat.le_of_ble_eq_true rfl) dX2_init_17 (fun H locs hP hD hS => ?_)
  have hP : va_P D vwCl [(h, .inr (2, [.ref q0, .int 0, .ref q1, .int 0])), (q0, .inl (cI, 100, .inl (fun _ => 0))), (q1, .inl (cI, 48, .inl (fun _ => 0)))] H := hP
  have hD : va_D A [(h, .inr (2, [.ref q0, .int 0, .ref q1, .int 0])), (q0, .inl (cI, 100, .inl (fun _ => 0))), (q1, .inl (cI, 48, .inl (fun _ => 0)))] := hD
  exact mu_rete (V := fun a : Nat → Nat => wTx h a cI (nF (fun _ => 0)) 0 (nF (fun _ => 0)) 0) (a4 q0 q1 q1 q1) hx hb hr hlocks hP hD hS dX2_init_20
set_option maxHeartbeats 4000000 in
set_option maxRecDepth 100000 in
theorem c_X0_init (l : Launch) (D : va_G) (cI cR : ClassId) (h : Nat) (sz : Nat) : Met l yX0_init (wsC yX0_init cX0_init 2 none) (rmC 4 26 895 92) (nPreO D (nTy cI cR) [.ref h] ([(h, .inr (0, [.null, .int 0, .int 0]))]) sz) (QcE D (fun x : Nat × (Nat → Nat) × (Nat → Nat → Nat) => wHs h x.1 x.2.1 x.2.2 cI cR 0 0 (fun _ => σ0)) (va_A ([(h, .inr (0, [.null, .int 0, .int 0]))]) sz)) 26 895 (va_A ([(h, .inr (0, [.null, .int 0, .int 0]))]) sz) := by
  refine met_init (by decide) rfl (Nat.le_of_ble_eq_true rfl) ?_
  intro p e s m args below meth c ls A H locs hx hb hml hr hlocks hown hts hin hO hP hK hD hA hS hl
  refine lv_aload_n hx hb dX0_init_0 rfl (lv_at hl 0 rfl) ?_
  refine W.objInit hx hb hown (hts _ ml_RX0_3) (hts _ ob_i) (hts _ ob_c) rfl (by rw [hml]; exact hl.1) rfl dX0_init_1 (Nat.le_of_ble_eq_true rfl) (Nat.le_of_ble_eq_true rfl) ?_
  refine W.eq (g2 := F0 m 4 ls []) rfl ?_
  refine lv_aload_n hx hb dX0_init_4 rfl (lv_at hl 0 rfl) ?_
  refine lv_iconst (v := nI 5) hx hb dX0_init_5 (by decide) ?_
  refine nu_newq (N := 5) hx hb hown (hts _ cl_RX0_9) hO hK hP hD hS hA (Nat.le_of_ble_eq_true rfl) (Nat.le_of_ble_eq_true rfl) (Nat.le_of_ble_eq_true rfl) dX0_init_6 (fun qa H hP hD hS => ?_)
  have hP : va_P D vwCl ([(h, .inr (0, [.null, .int 0, .int 0])), (qa, .inl (cR, 5, .inr (.inr (.inr (.inr (fun _ => none))))))]) H := hP
  have hD : va_D A ([(h, .inr (0, [.null, .int 0, .int 0])), (qa, .inl (cR, 5, .inr (.inr (.inr (.inr (fun _ => none))))))]) := hD
  refine va_putF (D := D) (ci := 0) (v := .ref qa) (ty := .array (.object "CoreRope$Rope")) (C := RX0) (T := TX0) (N := 3) hx hb hts inX0 tyX0 tyX0_ok nmX0 hown hK hP hD hS 0 rfl rfl 0 (by decide) (hts _ fl_RX0_11) (fun _ h9 => h9) rfl hin rfl (by decide +kernel) rfl rfl (Nat.le_of_ble_eq_true rfl) dX0_init_9 (fun H locs hP hD hS => ?_)
  have hP : va_P D vwCl ([(h, .inr (0, [.ref qa, .int 0, .int 0])), (qa, .inl (cR, 5, .inr (.inr (.inr (.inr (fun _ => none))))))]) H := hP
  have hD : va_D A ([(h, .inr (0, [.ref qa, .int 0, .int 0])), (qa, .inl (cR, 5, .inr (.inr (.inr (.inr (fun _ => none))))))]) := hD
  refine lv_iconst (v := nI 0) hx hb dX0_init_12 (by decide) ?_
  refine lv_istore_n (lv' := [(1, .int (nI 0)), (0, .ref h)]) hx hb dX0_init_13 rfl hl (by decide) rfl (fun ls hl => ?_)
  refine lv_iload_n hx hb dX0_init_14 rfl (lv_at hl 0 rfl) ?_
  refine lv_iconst (v := nI 5) hx hb dX0_init_15 (by decide) ?_
  refine nv_icmp_ge (tgt := 38) hx hb dX0_init_16 (by decide) (by omega) (by omega) (fun q_16 => False.elim (by omega)) (fun q_16 => ?_)
  refine lv_aload_n hx hb dX0_init_19 rfl (lv_at hl 1 rfl) ?_
  refine va_get (D := D) (ci := 0) (v := .ref qa) (C := RX0) (T := TX0) (N := 3) hx hb hts inX0 hown hK hP 0 rfl rfl 0 (by decide) (hts _ fl_RX0_11) (fun _ h9 => h9) rfl dX0_init_20 ?_
  refine lv_iload_n hx hb dX0_init_23 rfl (lv_at hl 0 rfl) ?_
  refine va_new (ci := 1) (fs := [.int 0, .int 0, .int 0, .null, .null, .null, .null]) (C := RX1) (T := TX1) (N := 7) hx hb hts inX1 tyX1 tyX1_ok hown (hts _ cl_RX0_9) (hts _ ib_RX1) (hts _ iz_RX1) hK hP hD hS hA rfl (fun j hj => by rcases (show j = 0 ∨ j = 1 ∨ j = 2 ∨ j = 3 ∨ j = 4 ∨ j = 5 ∨ j = 6 by omega) with rfl | rfl | rfl | rfl | rfl | rfl | rfl <;> rfl) (Nat.le_of_ble_eq_true rfl) (Nat.le_of_ble_eq_true rfl) dX0_init_24 (fun h0 H hP hD hS => ?_)
  have hP : va_P D vwCl ([(h, .inr (0, [.ref qa, .int 0, .int 0])), (qa, .inl (cR, 5, .inr (.inr (.inr (.inr (fun _ => none))))))] ++ [(h0, .inr (1, [.int 0, .int 0, .int 0, .null, .null, .null, .null]))]) H := hP
  have hD : va_D A ([(h, .inr (0, [.ref qa, .int 0, .int 0])), (qa, .inl (cR, 5, .inr (.inr (.inr (.inr (fun _ => none))))))] ++ [(h0, .inr (1, [.int 0, .int 0, .int 0, .null, .null, .null, .null]))]) := hD
  refine lv_dup hx hb dX0_init_27 rfl ?_
  refine mu_init (V := wR0 h0 cI) [2] [0, 1] (wr := ([(h, .inr (0, [.ref qa, .int 0, .int 0])), (qa, .inl (cR, 5, .inr (.inr (.inr (.inr (fun _ => none))))))])) hx hb hml hown hts k_RX0_17 (fun sz => c_X1_init l D cI cR h0 sz) ⟨rfl, rfl, Nat.le_of_ble_eq_true rfl, Nat.le_of_ble_eq_true rfl⟩ hO hP hD hS hA hK rfl rfl rfl rfl (by decide) hl (Nat.le_of_ble_eq_true rfl) dX0_init_28 ⟨Nat.le_of_ble_eq_true rfl, Nat.le_of_ble_eq_true rfl⟩ (fun a0 H locs hP hD hS => ?_)
  refine va_astq hx hb hK hP hD hS 1 1 2 1 rfl rfl rfl rfl (vp_in_nI (show 0 < 5 by decide) (by decide)) dX0_init_31 (fun H locs hP hD hS => ?_)
  have hP : va_P D vwCl ([(h, .inr (0, [.ref qa, .int 0, .int 0])), (qa, .inl (cR, 5, .inr (.inr (.inr (.inr (va_up (fun _ => none) (nI 0).toNatClampNeg (some h0)))))))] ++ wR0 h0 cI a0) H := hP
  have hD : va_D A ([(h, .inr (0, [.ref qa, .int 0, .int 0])), (qa, .inl (cR, 5, .inr (.inr (.inr (.inr (va_up (fun _ => none) (nI 0).toNatClampNeg (some h0)))))))] ++ wR0 h0 cI a0) := hD
  refine nv_inc (k := 0) (lv' := [(1, .int (nI (0 + 1))), (0, .ref h)]) hx hb dX0_init_32 hl rfl (by decide) rfl (fun ls hl => ?_)
  have hl : lv_has ls 2 [(1, .int (nI 1)), (0, .ref h)] := hl
  refine lv_goto (tgt := 14) hx hb dX0_init_35 (by decide) ?_
  refine lv_iload_n hx hb dX0_init_14 rfl (lv_at hl 0 rfl) ?_
  refine lv_iconst (v := nI 5) hx hb dX0_init_15 (by decide) ?_
  refine nv_icmp_ge (tgt := 38) hx hb dX0_init_16 (by decide) (by omega) (by omega) (fun q_16 => False.elim (by omega)) (fun q_16 => ?_)
  refine lv_aload_n hx hb dX0_init_19 rfl (lv_at hl 1 rfl) ?_
  refine va_get (D := D) (ci := 0) (v := .ref qa) (C := RX0) (T := TX0) (N := 3) hx hb hts inX0 hown hK hP 0 rfl rfl 0 (by decide) (hts _ fl_RX0_11) (fun _ h9 => h9) rfl dX0_init_20 ?_
  refine lv_iload_n hx hb dX0_init_23 rfl (lv_at hl 0 rfl) ?_
  refine va_new (ci := 1) (fs := [.int 0, .int 0, .int 0, .null, .null, .null, .null]) (C := RX1) (T := TX1) (N := 7) hx hb hts inX1 tyX1 tyX1_ok hown (hts _ cl_RX0_9) (hts _ ib_RX1) (hts _ iz_RX1) hK hP hD hS hA rfl (fun j hj => by rcases (show j = 0 ∨ j = 1 ∨ j = 2 ∨ j = 3 ∨ j = 4 ∨ j = 5 ∨ j = 6 by omega) with rfl | rfl | rfl | rfl | rfl | rfl | rfl <;> rfl) (Nat.le_of_ble_eq_true rfl) (Nat.le_of_ble_eq_true rfl) dX0_init_24 (fun h1 H hP hD hS => ?_)
  have hP : va_P D vwCl ([(h, .inr (0, [.ref qa, .int 0, .int 0])), (qa, .inl (cR, 5, .inr (.inr (.inr (.inr (va_up (fun _ => none) (nI 0).toNatClampNeg (some h0)))))))] ++ wR0 h0 cI a0 ++ [(h1, .inr (1, [.int 0, .int 0, .int 0, .null, .null, .null, .null]))]) H := hP
  have hD : va_D A ([(h, .inr (0, [.ref qa, .int 0, .int 0])), (qa, .inl (cR, 5, .inr (.inr (.inr (.inr (va_up (fun _ => none) (nI 0).toNatClampNeg (some h0)))))))] ++ wR0 h0 cI a0 ++ [(h1, .inr (1, [.int 0, .int 0, .int 0, .null, .null, .null, .null]))]) := hD
  refine lv_dup hx hb dX0_init_27 rfl ?_
  refine mu_init (V := wR0 h1 cI) [7] [0, 1, 2, 3, 4, 5, 6] (wr := ([(h, .inr (0, [.ref qa, .int 0, .int 0])), (qa, .inl (cR, 5, .inr (.inr (.inr (.inr (va_up (fun _ => none) (nI 0).toNatClampNeg (some h0)))))))] ++ wR0 h0 cI a0)) hx hb hml hown hts k_RX0_17 (fun sz => c_X1_init l D cI cR h1 sz) ⟨rfl, rfl, Nat.le_of_ble_eq_true rfl, Nat.le_of_ble_eq_true rfl⟩ hO hP hD hS hA hK rfl rfl rfl rfl (by decide) hl (Nat.le_of_ble_eq_true rfl) dX0_init_28 ⟨Nat.le_of_ble_eq_true rfl, Nat.le_of_ble_eq_true rfl⟩ (fun a1 H locs hP hD hS => ?_)
  refine va_astq hx hb hK hP hD hS 1 1 7 1 rfl rfl rfl rfl (vp_in_nI (show 1 < 5 by decide) (by decide)) dX0_init_31 (fun H locs hP hD hS => ?_)
  have hP : va_P D vwCl ([(h, .inr (0, [.ref qa, .int 0, .int 0])), (qa, .inl (cR, 5, .inr (.inr (.inr (.inr (va_up (va_up (fun _ => none) (nI 0).toNatClampNeg (some h0)) (nI 1).toNatClampNeg (some h1)))))))] ++ wR0 h0 cI a0 ++ wR0 h1 cI a1) H := hP
  have hD : va_D A ([(h, .inr (0, [.ref qa, .int 0, .int 0])), (qa, .inl (cR, 5, .inr (.inr (.inr (.inr (va_up (va_up (fun _ => none) (nI 0).toNatClampNeg (some h0)) (nI 1).toNatClampNeg (some h1)))))))] ++ wR0 h0 cI a0 ++ wR0 h1 cI a1) := hD
  refine nv_inc (k := 0) (lv' := [(1, .int (nI (1 + 1))), (0, .ref h)]) hx hb dX0_init_32 hl rfl (by decide) rfl (fun ls hl => ?_)
  have hl : lv_has ls 2 [(1, .int (nI 2)), (0, .ref h)] := hl
  refine lv_goto (tgt := 14) hx hb dX0_init_35 (by decide) ?_
  refine lv_iload_n hx hb dX0_init_14 rfl (lv_at hl 0 rfl) ?_
  refine lv_iconst (v := nI 5) hx hb dX0_init_15 (by decide) ?_
  refine nv_icmp_ge (tgt := 38) hx hb dX0_init_16 (by decide) (by omega) (by omega) (fun q_16 => False.elim (by omega)) (fun q_16 => ?_)
  refine lv_aload_n hx hb dX0_init_19 rfl (lv_at hl 1 rfl) ?_
  refine va_get (D := D) (ci := 0) (v := .ref qa) (C := RX0) (T := TX0) (N := 3) hx hb hts inX0 hown hK hP 0 rfl rfl 0 (by decide) (hts _ fl_RX0_11) (fun _ h9 => h9) rfl dX0_init_20 ?_
  refine lv_iload_n hx hb dX0_init_23 rfl (lv_at hl 0 rfl) ?_
  refine va_new (ci := 1) (fs := [.int 0, .int 0, .int 0, .null, .null, .null, .null]) (C := RX1) (T := TX1) (N := 7) hx hb hts inX1 tyX1 tyX1_ok hown (hts _ cl_RX0_9) (hts _ ib_RX1) (hts _ iz_RX1) hK hP hD hS hA rfl (fun j hj => by rcases (show j = 0 ∨ j = 1 ∨ j = 2 ∨ j = 3 ∨ j = 4 ∨ j = 5 ∨ j = 6 by omega) with rfl | rfl | rfl | rfl | rfl | rfl | rfl <;> rfl) (Nat.le_of_ble_eq_true rfl) (Nat.le_of_ble_eq_true rfl) dX0_init_24 (fun h2 H hP hD hS => ?_)
  have hP : va_P D vwCl ([(h, .inr (0, [.ref qa, .int 0, .int 0])), (qa, .inl (cR, 5, .inr (.inr (.inr (.inr (va_up (va_up (fun _ => none) (nI 0).toNatClampNeg (some h0)) (nI 1).toNatClampNeg (some h1)))))))] ++ wR0 h0 cI a0 ++ wR0 h1 cI a1 ++ [(h2, .inr (1, [.int 0, .int 0, .int 0, .null, .null, .null, .null]))]) H := hP
  have hD : va_D A ([(h, .inr (0, [.ref qa, .int 0, .int 0])), (qa, .inl (cR, 5, .inr (.inr (.inr (.inr (va_up (va_up (fun _ => none) (nI 0).toNatClampNeg (some h0)) (nI 1).toNatClampNeg (some h1)))))))] ++ wR0 h0 cI a0 ++ wR0 h1 cI a1 ++ [(h2, .inr (1, [.int 0, .int 0, .int 0, .null, .null, .null, .null]))]) := hD
  refine lv_dup hx hb dX0_init_27 rfl ?_
  refine mu_init (V := wR0 h2 cI) [12] [0, 1, 2, 3, 4, 5, 6, 7, 8, 9, 10, 11] (wr := ([(h, .inr (0, [.ref qa, .int 0, .int 0])), (qa, .inl (cR, 5, .inr (.inr (.inr (.inr (va_up (va_up (fun _ => none) (nI 0).toNatClampNeg (some h0)) (nI 1).toNatClampNeg (some h1)))))))] ++ wR0 h0 cI a0 ++ wR0 h1 cI a1)) hx hb hml hown hts k_RX0_17 (fun sz => c_X1_init l D cI cR h2 sz) ⟨rfl, rfl, Nat.le_of_ble_eq_true rfl, Nat.le_of_ble_eq_true rfl⟩ hO hP hD hS hA hK rfl rfl rfl rfl (by decide) hl (Nat.le_of_ble_eq_true rfl) dX0_init_28 ⟨Nat.le_of_ble_eq_true rfl, Nat.le_of_ble_eq_true rfl⟩ (fun a2 H locs hP hD hS => ?_)
  refine va_astq hx hb hK hP hD hS 1 1 12 1 rfl rfl rfl rfl (vp_in_nI (show 2 < 5 by decide) (by decide)) dX0_init_31 (fun H locs hP hD hS => ?_)
  have hP : va_P D vwCl ([(h, .inr (0, [.ref qa, .int 0, .int 0])), (qa, .inl (cR, 5, .inr (.inr (.inr (.inr (va_up (va_up (va_up (fun _ => none) (nI 0).toNatClampNeg (some h0)) (nI 1).toNatClampNeg (some h1)) (nI 2).toNatClampNeg (some h2)))))))] ++ wR0 h0 cI a0 ++ wR0 h1 cI a1 ++ wR0 h2 cI a2) H := hP
  have hD : va_D A ([(h, .inr (0, [.ref qa, .int 0, .int 0])), (qa, .inl (cR, 5, .inr (.inr (.inr (.inr (va_up (va_up (va_up (fun _ => none) (nI 0).toNatClampNeg (some h0)) (nI 1).toNatClampNeg (some h1)) (nI 2).toNatClampNeg (some h2)))))))] ++ wR0 h0 cI a0 ++ wR0 h1 cI a1 ++ wR0 h2 cI a2) := hD
  refine nv_inc (k := 0) (lv' := [(1, .int (nI (2 + 1))), (0, .ref h)]) hx hb dX0_init_32 hl rfl (by decide) rfl (fun ls hl => ?_)
  have hl : lv_has ls 2 [(1, .int (nI 3)), (0, .ref h)] := hl
  refine lv_goto (tgt := 14) hx hb dX0_init_35 (by decide) ?_
  refine lv_iload_n hx hb dX0_init_14 rfl (lv_at hl 0 rfl) ?_
  refine lv_iconst (v := nI 5) hx hb dX0_init_15 (by decide) ?_
  refine nv_icmp_ge (tgt := 38) hx hb dX0_init_16 (by decide) (by omega) (by omega) (fun q_16 => False.elim (by omega)) (fun q_16 => ?_)
  refine lv_aload_n hx hb dX0_init_19 rfl (lv_at hl 1 rfl) ?_
  refine va_get (D := D) (ci := 0) (v := .ref qa) (C := RX0) (T := TX0) (N := 3) hx hb hts inX0 hown hK hP 0 rfl rfl 0 (by decide) (hts _ fl_RX0_11) (fun _ h9 => h9) rfl dX0_init_20 ?_
  refine lv_iload_n hx hb dX0_init_23 rfl (lv_at hl 0 rfl) ?_
  refine va_new (ci := 1) (fs := [.int 0, .int 0, .int 0, .null, .null, .null, .null]) (C := RX1) (T := TX1) (N := 7) hx hb hts inX1 tyX1 tyX1_ok hown (hts _ cl_RX0_9) (hts _ ib_RX1) (hts _ iz_RX1) hK hP hD hS hA rfl (fun j hj => by rcases (show j = 0 ∨ j = 1 ∨ j = 2 ∨ j = 3 ∨ j = 4 ∨ j = 5 ∨ j = 6 by omega) with rfl | rfl | rfl | rfl | rfl | rfl | rfl <;> rfl) (Nat.le_of_ble_eq_true rfl) (Nat.le_of_ble_eq_true rfl) dX0_init_24 (fun h3 H hP hD hS => ?_)
  have hP : va_P D vwCl ([(h, .inr (0, [.ref qa, .int 0, .int 0])), (qa, .inl (cR, 5, .inr (.inr (.inr (.inr (va_up (va_up (va_up (fun _ => none) (nI 0).toNatClampNeg (some h0)) (nI 1).toNatClampNeg (some h1)) (nI 2).toNatClampNeg (some h2)))))))] ++ wR0 h0 cI a0 ++ wR0 h1 cI a1 ++ wR0 h2 cI a2 ++ [(h3, .inr (1, [.int 0, .int 0, .int 0, .null, .null, .null, .null]))]) H := hP
  have hD : va_D A ([(h, .inr (0, [.ref qa, .int 0, .int 0])), (qa, .inl (cR, 5, .inr (.inr (.inr (.inr (va_up (va_up (va_up (fun _ => none) (nI 0).toNatClampNeg (some h0)) (nI 1).toNatClampNeg (some h1)) (nI 2).toNatClampNeg (some h2)))))))] ++ wR0 h0 cI a0 ++ wR0 h1 cI a1 ++ wR0 h2 cI a2 ++ [(h3, .inr (1, [.int 0, .int 0, .int 0, .null, .null, .null, .null]))]) := hD
  refine lv_dup hx hb dX0_init_27 rfl ?_
  refine mu_init (V := wR0 h3 cI) [17] [0, 1, 2, 3, 4, 5, 6, 7, 8, 9, 10, 11, 12, 13, 14, 15, 16] (wr := ([(h, .inr (0, [.ref qa, .int 0, .int 0])), (qa, .inl (cR, 5, .inr (.inr (.inr (.inr (va_up (va_up (va_up (fun _ => none) (nI 0).toNatClampNeg (some h0)) (nI 1).toNatClampNeg (some h1)) (nI 2).toNatClampNeg (some h2)))))))] ++ wR0 h0 cI a0 ++ wR0 h1 cI a1 ++ wR0 h2 cI a2)) hx hb hml hown hts k_RX0_17 (fun sz => c_X1_init l D cI cR h3 sz) ⟨rfl, rfl, Nat.le_of_ble_eq_true rfl, Nat.le_of_ble_eq_true rfl⟩ hO hP hD hS hA hK rfl rfl rfl rfl (by decide) hl (Nat.le_of_ble_eq_true rfl) dX0_init_28 ⟨Nat.le_of_ble_eq_true rfl, Nat.le_of_ble_eq_true rfl⟩ (fun a3 H locs hP hD hS => ?_)
  refine va_astq hx hb hK hP hD hS 1 1 17 1 rfl rfl rfl rfl (vp_in_nI (show 3 < 5 by decide) (by decide)) dX0_init_31 (fun H locs hP hD hS => ?_)
  have hP : va_P D vwCl ([(h, .inr (0, [.ref qa, .int 0, .int 0])), (qa, .inl (cR, 5, .inr (.inr (.inr (.inr (va_up (va_up (va_up (va_up (fun _ => none) (nI 0).toNatClampNeg (some h0)) (nI 1).toNatClampNeg (some h1)) (nI 2).toNatClampNeg (some h2)) (nI 3).toNatClampNeg (some h3)))))))] ++ wR0 h0 cI a0 ++ wR0 h1 cI a1 ++ wR0 h2 cI a2 ++ wR0 h3 cI a3) H := hP
  have hD : va_D A ([(h, .inr (0, [.ref qa, .int 0, .int 0])), (qa, .inl (cR, 5, .inr (.inr (.inr (.inr (va_up (va_up (va_up (va_up (fun _ => none) (nI 0).toNatClampNeg (some h0)) (nI 1).toNatClampNeg (some h1)) (nI 2).toNatClampNeg (some h2)) (nI 3).toNatClampNeg (some h3)))))))] ++ wR0 h0 cI a0 ++ wR0 h1 cI a1 ++ wR0 h2 cI a2 ++ wR0 h3 cI a3) := hD
  refine nv_inc (k := 0) (lv' := [(1, .int (nI (3 + 1))), (0, .ref h)]) hx hb dX0_init_32 hl rfl (by decide) rfl (fun ls hl => ?_)
  have hl : lv_has ls 2 [(1, .int (nI 4)), (0, .ref h)] := hl
  refine lv_goto (tgt := 14) hx hb dX0_init_35 (by decide) ?_
  refine lv_iload_n hx hb dX0_init_14 rfl (lv_at hl 0 rfl) ?_
  refine lv_iconst (v := nI 5) hx hb dX0_init_15 (by decide) ?_
  refine nv_icmp_ge (tgt := 38) hx hb dX0_init_16 (by decide) (by omega) (by omega) (fun q_16 => False.elim (by omega)) (fun q_16 => ?_)
  refine lv_aload_n hx hb dX0_init_19 rfl (lv_at hl 1 rfl) ?_
  refine va_get (D := D) (ci := 0) (v := .ref qa) (C := RX0) (T := TX0) (N := 3) hx hb hts inX0 hown hK hP 0 rfl rfl 0 (by decide) (hts _ fl_RX0_11) (fun _ h9 => h9) rfl dX0_init_20 ?_
  refine lv_iload_n hx hb dX0_init_23 rfl (lv_at hl 0 rfl) ?_
  refine va_new (ci := 1) (fs := [.int 0, .int 0, .int 0, .null, .null, .null, .null]) (C := RX1) (T := TX1) (N := 7) hx hb hts inX1 tyX1 tyX1_ok hown (hts _ cl_RX0_9) (hts _ ib_RX1) (hts _ iz_RX1) hK hP hD hS hA rfl (fun j hj => by rcases (show j = 0 ∨ j = 1 ∨ j = 2 ∨ j = 3 ∨ j = 4 ∨ j = 5 ∨ j = 6 by omega) with rfl | rfl | rfl | rfl | rfl | rfl | rfl <;> rfl) (Nat.le_of_ble_eq_true rfl) (Nat.le_of_ble_eq_true rfl) dX0_init_24 (fun h4 H hP hD hS => ?_)
  have hP : va_P D vwCl ([(h, .inr (0, [.ref qa, .int 0, .int 0])), (qa, .inl (cR, 5, .inr (.inr (.inr (.inr (va_up (va_up (va_up (va_up (fun _ => none) (nI 0).toNatClampNeg (some h0)) (nI 1).toNatClampNeg (some h1)) (nI 2).toNatClampNeg (some h2)) (nI 3).toNatClampNeg (some h3)))))))] ++ wR0 h0 cI a0 ++ wR0 h1 cI a1 ++ wR0 h2 cI a2 ++ wR0 h3 cI a3 ++ [(h4, .inr (1, [.int 0, .int 0, .int 0, .null, .null, .null, .null]))]) H := hP
  have hD : va_D A ([(h, .inr (0, [.ref qa, .int 0, .int 0])), (qa, .inl (cR, 5, .inr (.inr (.inr (.inr (va_up (va_up (va_up (va_up (fun _ => none) (nI 0).toNatClampNeg (some h0)) (nI 1).toNatClampNeg (some h1)) (nI 2).toNatClampNeg (some h2)) (nI 3).toNatClampNeg (some h3)))))))] ++ wR0 h0 cI a0 ++ wR0 h1 cI a1 ++ wR0 h2 cI a2 ++ wR0 h3 cI a3 ++ [(h4, .inr (1, [.int 0, .int 0, .int 0, .null, .null, .null, .null]))]) := hD
  refine lv_dup hx hb dX0_init_27 rfl ?_
  refine mu_init (V := wR0 h4 cI) [22] [0, 1, 2, 3, 4, 5, 6, 7, 8, 9, 10, 11, 12, 13, 14, 15, 16, 17, 18, 19, 20, 21] (wr := ([(h, .inr (0, [.ref qa, .int 0, .int 0])), (qa, .inl (cR, 5, .inr (.inr (.inr (.inr (va_up (va_up (va_up (va_up (fun _ => none) (nI 0).toNatClampNeg (some h0)) (nI 1).toNatClampNeg (some h1)) (nI 2).toNatClampNeg (some h2)) (nI 3).toNatClampNeg (some h3)))))))] ++ wR0 h0 cI a0 ++ wR0 h1 cI a1 ++ wR0 h2 cI a2 ++ wR0 h3 cI a3)) hx hb hml hown hts k_RX0_17 (fun sz => c_X1_init l D cI cR h4 sz) ⟨rfl, rfl, Nat.le_of_ble_eq_true rfl, Nat.le_of_ble_eq_true rfl⟩ hO hP hD hS hA hK rfl rfl rfl rfl (by decide) hl (Nat.le_of_ble_eq_true rfl) dX0_init_28 ⟨Nat.le_of_ble_eq_true rfl, Nat.le_of_ble_eq_true rfl⟩ (fun a4 H locs hP hD hS => ?_)
  refine va_astq hx hb hK hP hD hS 1 1 22 1 rfl rfl rfl rfl (vp_in_nI (show 4 < 5 by decide) (by decide)) dX0_init_31 (fun H locs hP hD hS => ?_)
  have hP : va_P D vwCl ([(h, .inr (0, [.ref qa, .int 0, .int 0])), (qa, .inl (cR, 5, .inr (.inr (.inr (.inr (va_up (va_up (va_up (va_up (va_up (fun _ => none) (nI 0).toNatClampNeg (some h0)) (nI 1).toNatClampNeg (some h1)) (nI 2).toNatClampNeg (some h2)) (nI 3).toNatClampNeg (some h3)) (nI 4).toNatClampNeg (some h4)))))))] ++ wR0 h0 cI a0 ++ wR0 h1 cI a1 ++ wR0 h2 cI a2 ++ wR0 h3 cI a3 ++ wR0 h4 cI a4) H := hP
  have hD : va_D A ([(h, .inr (0, [.ref qa, .int 0, .int 0])), (qa, .inl (cR, 5, .inr (.inr (.inr (.inr (va_up (va_up (va_up (va_up (va_up (fun _ => none) (nI 0).toNatClampNeg (some h0)) (nI 1).toNatClampNeg (some h1)) (nI 2).toNatClampNeg (some h2)) (nI 3).toNatClampNeg (some h3)) (nI 4).toNatClampNeg (some h4)))))))] ++ wR0 h0 cI a0 ++ wR0 h1 cI a1 ++ wR0 h2 cI a2 ++ wR0 h3 cI a3 ++ wR0 h4 cI a4) := hD
  refine nv_inc (k := 0) (lv' := [(1, .int (nI (4 + 1))), (0, .ref h)]) hx hb dX0_init_32 hl rfl (by decide) rfl (fun ls hl => ?_)
  have hl : lv_has ls 2 [(1, .int (nI 5)), (0, .ref h)] := hl
  refine lv_goto (tgt := 14) hx hb dX0_init_35 (by decide) ?_
  refine lv_iload_n hx hb dX0_init_14 rfl (lv_at hl 0 rfl) ?_
  refine lv_iconst (v := nI 5) hx hb dX0_init_15 (by decide) ?_
  refine nv_icmp_ge (tgt := 38) hx hb dX0_init_16 (by decide) (by omega) (by omega) (fun q_16 => ?_) (fun q_16 => False.elim (by omega))
  have hP : va_P D vwCl ([(h, .inr (0, [.ref qa, .int 0, .int 0])), (qa, .inl (cR, 5, .inr (.inr (.inr (.inr (fun j => some ((h5f h0 h1 h2 h3 h4) j)))))))] ++ wR0 h0 cI a0 ++ wR0 h1 cI a1 ++ wR0 h2 cI a2 ++ wR0 h3 cI a3 ++ wR0 h4 cI a4) H := va_P_cellq 1 rfl rfl (fun j hj => by rcases (show j = 0 ∨ j = 1 ∨ j = 2 ∨ j = 3 ∨ j = 4 by omega) with rfl | rfl | rfl | rfl | rfl <;> rfl) hP
  have hD : va_D A ([(h, .inr (0, [.ref qa, .int 0, .int 0])), (qa, .inl (cR, 5, .inr (.inr (.inr (.inr (fun j => some ((h5f h0 h1 h2 h3 h4) j)))))))] ++ wR0 h0 cI a0 ++ wR0 h1 cI a1 ++ wR0 h2 cI a2 ++ wR0 h3 cI a3 ++ wR0 h4 cI a4) := va_D_cellq 1 (f := (va_up (va_up (va_up (va_up (va_up (fun _ => none) (nI 0).toNatClampNeg (some h0)) (nI 1).toNatClampNeg (some h1)) (nI 2).toNatClampNeg (some h2)) (nI 3).toNatClampNeg (some h3)) (nI 4).toNatClampNeg (some h4))) rfl rfl hD
  exact mu_rete (V := fun x : Nat × (Nat → Nat) × (Nat → Nat → Nat) => wHs h x.1 x.2.1 x.2.2 cI cR 0 0 (fun _ => σ0)) (qa, h5f h0 h1 h2 h3 h4, h5f a0 a1 a2 a3 a4) hx hb hr hlocks hP hD hS dX0_init_38
set_option maxHeartbeats 4000000 in
set_option maxRecDepth 100000 in
theorem c_X3_init (l : Launch) (D : va_G) (cI cR : ClassId) (h : Nat) (sz : Nat) : Met l yX3_init (wsC yX3_init cX3_init 1 none) (rmC 5 35 1228 113) (nPreO D (nTy cI cR) [.ref h] ([(h, .inr (3, [.null, .null, .null]))]) sz) (QcE D (wC0 h cI cR) (va_A ([(h, .inr (3, [.null, .null, .null]))]) sz)) 35 1228 (va_A ([(h, .inr (3, [.null, .null, .null]))]) sz) := by
  refine met_init (by decide) rfl (Nat.le_of_ble_eq_true rfl) ?_
  intro p e s m args below meth c ls A H locs hx hb hml hr hlocks hown hts hin hO hP hK hD hA hS hl
  refine lv_aload_n hx hb dX3_init_0 rfl (lv_at hl 0 rfl) ?_
  refine W.objInit hx hb hown (hts _ ml_RX3_3) (hts _ ob_i) (hts _ ob_c) rfl (by rw [hml]; exact hl.1) rfl dX3_init_1 (Nat.le_of_ble_eq_true rfl) (Nat.le_of_ble_eq_true rfl) ?_
  refine W.eq (g2 := F0 m 4 ls []) rfl ?_
  refine lv_aload_n hx hb dX3_init_4 rfl (lv_at hl 0 rfl) ?_
  refine va_new (ci := 1) (fs := [.int 0, .int 0, .int 0, .null, .null, .null, .null]) (C := RX1) (T := TX1) (N := 7) hx hb hts inX1 tyX1 tyX1_ok hown (hts _ cl_RX3_9) (hts _ ib_RX1) (hts _ iz_RX1) hK hP hD hS hA rfl (fun j hj => by rcases (show j = 0 ∨ j = 1 ∨ j = 2 ∨ j = 3 ∨ j = 4 ∨ j = 5 ∨ j = 6 by omega) with rfl | rfl | rfl | rfl | rfl | rfl | rfl <;> rfl) (Nat.le_of_ble_eq_true rfl) (Nat.le_of_ble_eq_true rfl) dX3_init_5 (fun q0 H hP hD hS => ?_)
  have hP : va_P D vwCl ([(h, .inr (3, [.null, .null, .null]))] ++ [(q0, .inr (1, [.int 0, .int 0, .int 0, .null, .null, .null, .null]))]) H := hP
  have hD : va_D A ([(h, .inr (3, [.null, .null, .null]))] ++ [(q0, .inr (1, [.int 0, .int 0, .int 0, .null, .null, .null, .null]))]) := hD
  refine lv_dup hx hb dX3_init_8 rfl ?_
  refine mu_init (V := wR0 q0 cI) [1] [0] (wr := ([(h, .inr (3, [.null, .null, .null]))])) hx hb hml hown hts k_RX3_11 (fun sz => c_X1_init l D cI cR q0 sz) ⟨rfl, rfl, Nat.le_of_ble_eq_true rfl, Nat.le_of_ble_eq_true rfl⟩ hO hP hD hS hA hK rfl rfl rfl rfl (by decide) hl (Nat.le_of_ble_eq_true rfl) dX3_init_9 ⟨Nat.le_of_ble_eq_true rfl, Nat.le_of_ble_eq_true rfl⟩ (fun x0 H locs hP hD hS => ?_)
  refine va_putF (D := D) (ci := 3) (v := .ref q0) (ty := .object "CoreRope$Rope") (C := RX3) (T := TX3) (N := 3) hx hb hts inX3 tyX3 tyX3_ok nmX3 hown hK hP hD hS 0 rfl rfl 0 (by decide) (hts _ fl_RX3_12) (fun _ h9 => h9) rfl hin rfl (by decide +kernel) rfl rfl (Nat.le_of_ble_eq_true rfl) dX3_init_12 (fun H locs hP hD hS => ?_)
  have hP : va_P D vwCl ([(h, .inr (3, [.ref q0, .null, .null]))] ++ wR0 q0 cI x0) H := hP
  have hD : va_D A ([(h, .inr (3, [.ref q0, .null, .null]))] ++ wR0 q0 cI x0) := hD
  refine lv_aload_n hx hb dX3_init_15 rfl (lv_at hl 0 rfl) ?_
  refine va_new (ci := 0) (fs := [.null, .int 0, .int 0]) (C := RX0) (T := TX0) (N := 3) hx hb hts inX0 tyX0 tyX0_ok hown (hts _ cl_RX3_16) (hts _ ib_RX0) (hts _ iz_RX0) hK hP hD hS hA rfl (fun j hj => by rcases (show j = 0 ∨ j = 1 ∨ j = 2 by omega) with rfl | rfl | rfl <;> rfl) (Nat.le_of_ble_eq_true rfl) (Nat.le_of_ble_eq_true rfl) dX3_init_16 (fun q1 H hP hD hS => ?_)
  have hP : va_P D vwCl ([(h, .inr (3, [.ref q0, .null, .null]))] ++ wR0 q0 cI x0 ++ [(q1, .inr (0, [.null, .int 0, .int 0]))]) H := hP
  have hD : va_D A ([(h, .inr (3, [.ref q0, .null, .null]))] ++ wR0 q0 cI x0 ++ [(q1, .inr (0, [.null, .int 0, .int 0]))]) := hD
  refine lv_dup hx hb dX3_init_19 rfl ?_
  refine mu_init (V := fun x : Nat × (Nat → Nat) × (Nat → Nat → Nat) => wHs q1 x.1 x.2.1 x.2.2 cI cR 0 0 (fun _ => σ0)) [6] [0, 1, 2, 3, 4, 5] (wr := ([(h, .inr (3, [.ref q0, .null, .null]))] ++ wR0 q0 cI x0)) hx hb hml hown hts k_RX3_18 (fun sz => c_X0_init l D cI cR q1 sz) ⟨rfl, rfl, Nat.le_of_ble_eq_true rfl, Nat.le_of_ble_eq_true rfl⟩ hO hP hD hS hA hK rfl rfl rfl rfl (by decide) hl (Nat.le_of_ble_eq_true rfl) dX3_init_20 ⟨Nat.le_of_ble_eq_true rfl, Nat.le_of_ble_eq_true rfl⟩ (fun x1 H locs hP hD hS => ?_)
  refine va_putF (D := D) (ci := 3) (v := .ref q1) (ty := .object "CoreRope$History") (C := RX3) (T := TX3) (N := 3) hx hb hts inX3 tyX3 tyX3_ok nmX3 hown hK hP hD hS 0 rfl rfl 1 (by decide) (hts _ fl_RX3_19) (fun _ h9 => h9) rfl hin rfl (by decide +kernel) rfl rfl (Nat.le_of_ble_eq_true rfl) dX3_init_23 (fun H locs hP hD hS => ?_)
  have hP : va_P D vwCl ([(h, .inr (3, [.ref q0, .ref q1, .null]))] ++ wR0 q0 cI x0 ++ wHs q1 x1.1 x1.2.1 x1.2.2 cI cR 0 0 (fun _ => σ0)) H := hP
  have hD : va_D A ([(h, .inr (3, [.ref q0, .ref q1, .null]))] ++ wR0 q0 cI x0 ++ wHs q1 x1.1 x1.2.1 x1.2.2 cI cR 0 0 (fun _ => σ0)) := hD
  refine lv_aload_n hx hb dX3_init_26 rfl (lv_at hl 0 rfl) ?_
  refine va_new (ci := 2) (fs := [.null, .int 0, .null, .int 0]) (C := RX2) (T := TX2) (N := 4) hx hb hts inX2 tyX2 tyX2_ok hown (hts _ cl_RX3_23) (hts _ ib_RX2) (hts _ iz_RX2) hK hP hD hS hA rfl (fun j hj => by rcases (show j = 0 ∨ j = 1 ∨ j = 2 ∨ j = 3 by omega) with rfl | rfl | rfl | rfl <;> rfl) (Nat.le_of_ble_eq_true rfl) (Nat.le_of_ble_eq_true rfl) dX3_init_27 (fun q2 H hP hD hS => ?_)
  have hP : va_P D vwCl ([(h, .inr (3, [.ref q0, .ref q1, .null]))] ++ wR0 q0 cI x0 ++ wHs q1 x1.1 x1.2.1 x1.2.2 cI cR 0 0 (fun _ => σ0) ++ [(q2, .inr (2, [.null, .int 0, .null, .int 0]))]) H := hP
  have hD : va_D A ([(h, .inr (3, [.ref q0, .ref q1, .null]))] ++ wR0 q0 cI x0 ++ wHs q1 x1.1 x1.2.1 x1.2.2 cI cR 0 0 (fun _ => σ0) ++ [(q2, .inr (2, [.null, .int 0, .null, .int 0]))]) := hD
  refine lv_dup hx hb dX3_init_30 rfl ?_
  refine mu_initN (V := fun a : Nat → Nat => wTx q2 a cI (nF (fun _ => 0)) 0 (nF (fun _ => 0)) 0) [33] [0, 1, 2, 3, 4, 5, 6, 7, 8, 9, 10, 11, 12, 13, 14, 15, 16, 17, 18, 19, 20, 21, 22, 23, 24, 25, 26, 27, 28, 29, 30, 31, 32] (wr := ([(h, .inr (3, [.ref q0, .ref q1, .null]))] ++ wR0 q0 cI x0 ++ wHs q1 x1.1 x1.2.1 x1.2.2 cI cR 0 0 (fun _ => σ0))) hx hb hml hown hts k_RX3_25 hO.2 (fun sz => c_X2_init l D cI cR q2 sz) ⟨rfl, rfl, Nat.le_of_ble_eq_true rfl, Nat.le_of_ble_eq_true rfl⟩ hO hP hD hS hA hK rfl rfl rfl rfl (by decide) hl (Nat.le_of_ble_eq_true rfl) dX3_init_31 ⟨Nat.le_of_ble_eq_true rfl, Nat.le_of_ble_eq_true rfl⟩ (fun x2 H locs hP hD hS => ?_)
  refine va_putF (D := D) (ci := 3) (v := .ref q2) (ty := .object "CoreRope$Text") (C := RX3) (T := TX3) (N := 3) hx hb hts inX3 tyX3 tyX3_ok nmX3 hown hK hP hD hS 0 rfl rfl 2 (by decide) (hts _ fl_RX3_26) (fun _ h9 => h9) rfl hin rfl (by decide +kernel) rfl rfl (Nat.le_of_ble_eq_true rfl) dX3_init_34 (fun H locs hP hD hS => ?_)
  have hP : va_P D vwCl ([(h, .inr (3, [.ref q0, .ref q1, .ref q2]))] ++ wR0 q0 cI x0 ++ wHs q1 x1.1 x1.2.1 x1.2.2 cI cR 0 0 (fun _ => σ0) ++ wTx q2 x2 cI (nF (fun _ => 0)) 0 (nF (fun _ => 0)) 0) H := hP
  have hD : va_D A ([(h, .inr (3, [.ref q0, .ref q1, .ref q2]))] ++ wR0 q0 cI x0 ++ wHs q1 x1.1 x1.2.1 x1.2.2 cI cR 0 0 (fun _ => σ0) ++ wTx q2 x2 cI (nF (fun _ => 0)) 0 (nF (fun _ => 0)) 0) := hD
  have hP : va_P D vwCl (wC0 h cI cR (adF q0 q1 q2 x1, aaF x0 x2 x1)) H := va_P_cellq 7 (f := fun j => some (x1.2.1 j)) rfl rfl (fun j hj => by rcases (show j = 0 ∨ j = 1 ∨ j = 2 ∨ j = 3 ∨ j = 4 by omega) with rfl | rfl | rfl | rfl | rfl <;> rfl) hP
  have hD : va_D A (wC0 h cI cR (adF q0 q1 q2 x1, aaF x0 x2 x1)) := va_D_cellq 7 (f := fun j => some (x1.2.1 j)) rfl rfl hD
  exact mu_rete (V := wC0 h cI cR) (adF q0 q1 q2 x1, aaF x0 x2 x1) hx hb hr hlocks hP hD hS dX3_init_37
