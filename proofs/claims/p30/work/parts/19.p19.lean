set_option maxHeartbeats 4000000 in
set_option maxRecDepth 100000 in
theorem c_X3_undo (l : Launch) (D : va_G) (cI cR : ClassId) (h : Nat) (ad : Nat → Nat) (aa : Nat → Nat → Nat) (σ : Nat → Nat) (o : Nat) (n : Nat) (τ : Nat → Nat → Nat) (b : Nat → Nat) (ln : Nat) (g : Nat → Nat) (fo0 : Nat)   (hw : wf σ) (ho : o < 5) (hn : n ≤ 5) (sz : Nat) : Met l yX3_undo (wsC yX3_undo cX3_undo 1 (some .int)) (rmK 3 82) (nPreM D (nTy cI cR) [.ref h] (wCR h ad aa cI cR σ o n τ b ln g fo0) sz) (QcM D (some (.int (cond (n == 0) (-4) (nI (n - 1))))) (wCR h ad aa cI cR (cond (n == 0) σ (τ ((o + (n - 1)) % 5))) o (cond (n == 0) n (n - 1)) τ b ln g fo0) (va_A (wCR h ad aa cI cR σ o n τ b ln g fo0) sz)) 0 0 (va_A (wCR h ad aa cI cR σ o n τ b ln g fo0) sz) := by
  refine met_mut (Qc := fun A => QcM D (some (.int (cond (n == 0) (-4) (nI (n - 1))))) (wCR h ad aa cI cR (cond (n == 0) σ (τ ((o + (n - 1)) % 5))) o (cond (n == 0) n (n - 1)) τ b ln g fo0) A) rfl (Nat.le_of_ble_eq_true rfl) ?_
  intro p e s m args below meth c ls A H locs hx hb hml hr hlocks hown hts hP hK hD hA hS hl
  have hl : lv_has ls 1 [(0, .ref h)] := hl
  have hA41 := hw.w41
  have hA33 := hw.a33
  have hA48 := hw.a48
  obtain ⟨hR2, hR, hB1, hB, hSa, hSb, -⟩ := id hw
  have h1024 := p2_10 hB
  refine lv_aload_n hx hb dX3_undo_0 rfl (lv_at hl 0 rfl) ?_
  refine va_get (D := D) (ci := 3) (v := .ref (ad 1)) (C := RX3) (T := TX3) (N := 3) hx hb hts inX3 hown hK hP 0 rfl rfl 1 (by decide) (hts _ fl_RX3_19) (fun _ h9 => h9) rfl dX3_undo_1 ?_
  refine nv_callV [] [] hx hb hml hown hts k_RX3_124 (c_X0_isEmpty l D cI cR (ad 1) (ad 3) ((fun j => ad (4 + j))) ((fun j => aa (2 + j))) o n τ hn) ⟨rfl, rfl, Nat.le_of_ble_eq_true rfl, Nat.le_of_ble_eq_true rfl⟩ (hP.sub [6, 7, 8, 9, 10, 11, 12, 13, 14, 15, 16, 17, 18, 19, 20, 21, 22, 23, 24, 25, 26, 27, 28, 29, 30, 31, 32] rfl) hK 0 rfl rfl rfl rfl hl rfl (Nat.le_of_ble_eq_true rfl) dX3_undo_4 ⟨Nat.zero_le _, Nat.zero_le _⟩ ?_
  refine lv_if_eq (tgt := 15) hx hb dX3_undo_7 (by decide) (fun q_7 => ?_) (fun q_7 => ?_)
  · have hn1 : ¬ n = 0 := by have := zB_eq0 q_7; simpa using this
    refine lv_aload_n hx hb dX3_undo_15 rfl (lv_at hl 0 rfl) ?_
    refine va_get (D := D) (ci := 3) (v := .ref (ad 1)) (C := RX3) (T := TX3) (N := 3) hx hb hts inX3 hown hK hP 0 rfl rfl 1 (by decide) (hts _ fl_RX3_19) (fun _ h9 => h9) rfl dX3_undo_16 ?_
    refine lv_aload_n hx hb dX3_undo_19 rfl (lv_at hl 0 rfl) ?_
    refine va_get (D := D) (ci := 3) (v := .ref (ad 0)) (C := RX3) (T := TX3) (N := 3) hx hb hts inX3 hown hK hP 0 rfl rfl 0 (by decide) (hts _ fl_RX3_12) (fun _ h9 => h9) rfl dX3_undo_20 ?_
    refine mu_call (ws' := (wCR h ad aa cI cR (τ ((o + (n - 1)) % 5)) o (n - 1) τ b ln g fo0)) [6, 7, 8, 9, 10, 11, 12, 13, 14, 15, 16, 17, 18, 19, 20, 21, 22, 23, 24, 25, 26, 27, 28, 29, 30, 31, 32, 1, 2, 3, 4, 5] [0, 33, 34, 35] [0, 31, 32, 33, 34, 35, 4, 5, 6, 7, 8, 9, 10, 11, 12, 13, 14, 15, 16, 17, 18, 19, 20, 21, 22, 23, 24, 25, 26, 27, 28, 29, 30, 1, 2, 3] [.ref (ad 0)] [] hx hb hml hown hts k_RX3_128 (fun sz => c_X0_restore l D cI cR (ad 1) (ad 3) ((fun j => ad (4 + j))) ((fun j => aa (2 + j))) o n τ (ad 0) ((aa 0)) σ ho (by omega) hn sz) ⟨rfl, rfl, Nat.le_of_ble_eq_true rfl, Nat.le_of_ble_eq_true rfl⟩ hP hD hS hA hK 0 rfl rfl rfl rfl rfl rfl rfl (by decide) rfl rfl rfl hl rfl (Nat.le_of_ble_eq_true rfl) dX3_undo_23 ⟨Nat.zero_le _, Nat.zero_le _⟩ (fun H locs hP hD hS => ?_)
    refine W.eq (g2 := F0 m 26 ls [.int (nI (n - 1))]) rfl ?_
    have E0 : (n == 0) = false := zB_eq0 q_7
    have hP : va_P D vwCl (wCR h ad aa cI cR (cond (n == 0) σ (τ ((o + (n - 1)) % 5))) o (cond (n == 0) n (n - 1)) τ b ln g fo0) H := by rw [E0]; exact hP
    have hD : va_D A (wCR h ad aa cI cR (cond (n == 0) σ (τ ((o + (n - 1)) % 5))) o (cond (n == 0) n (n - 1)) τ b ln g fo0) := by rw [E0]; exact hD
    exact mu_reti hx hb hr hlocks (by rw [E0]; rfl) hP hD hS dX3_undo_26
  · refine lv_bipush (v := -4) hx hb dX3_undo_10 (by decide) ?_
    refine lv_goto (tgt := 26) hx hb dX3_undo_12 (by decide) ?_
    have E0 : (n == 0) = true := zB_ne0 q_7
    have hP : va_P D vwCl (wCR h ad aa cI cR (cond (n == 0) σ (τ ((o + (n - 1)) % 5))) o (cond (n == 0) n (n - 1)) τ b ln g fo0) H := by rw [E0]; exact hP
    have hD : va_D A (wCR h ad aa cI cR (cond (n == 0) σ (τ ((o + (n - 1)) % 5))) o (cond (n == 0) n (n - 1)) τ b ln g fo0) := by rw [E0]; exact hD
    exact mu_reti hx hb hr hlocks (by rw [E0]; rfl) hP hD hS dX3_undo_26
