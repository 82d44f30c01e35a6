set_option maxHeartbeats 4000000 in
set_option maxRecDepth 100000 in
theorem c_X1_putBit (l : Launch) (D : va_G) (cI cR : ClassId) (h : Nat) (a : Nat → Nat) (R : Nat) (B : Nat) (S : Nat) (g : Nat → Nat) (f1 : Nat → Int32) (f2 : Nat → Int32) (f3 : Nat → Int32) (w : Nat) (r : Nat) (b : Nat)  (h1 : w < 41) (h2 : r < 32) (sz : Nat) : Met l yX1_putBit (wsC yX1_putBit cX1_putBit 4 none) (rmK 0 0) (nPreM D (nTy cI cR) [.ref h, .int (nI w), .int (nI r), .int (nI b)] (wRp h a cI R B S (nF g) f1 f2 f3) sz) (QcM D none (wRp h a cI R B S (nF (va_up g w (pbN (g w) r b))) f1 f2 f3) (va_A (wRp h a cI R B S (nF g) f1 f2 f3) sz)) 0 0 (va_A (wRp h a cI R B S (nF g) f1 f2 f3) sz) := by
  refine met_mut (Qc := fun A => QcM D none (wRp h a cI R B S (nF (va_up g w (pbN (g w) r b))) f1 f2 f3) A) rfl (Nat.le_of_ble_eq_true rfl) ?_
  intro p e s m args below meth c ls A H locs hx hb hml hr hlocks hown hts hP hK hD hA hS hl
  have hl : lv_has ls 4 [(0, .ref h), (1, .int (nI w)), (2, .int (nI r)), (3, .int (nI b))] := hl
  refine lv_aload_n hx hb dX1_putBit_0 rfl (lv_at hl 0 rfl) ?_
  refine va_get (D := D) (ci := 1) (v := .ref (a 0)) (C := RX1) (T := TX1) (N := 7) hx hb hts inX1 hown hK hP 0 rfl rfl 3 (by decide) (hts _ fl_RX1_9) (fun _ h9 => h9) rfl dX1_putBit_1 ?_
  refine lv_iload_n hx hb dX1_putBit_4 rfl (lv_at hl 1 rfl) ?_
  refine lv_aload_n hx hb dX1_putBit_5 rfl (lv_at hl 0 rfl) ?_
  refine va_get (D := D) (ci := 1) (v := .ref (a 0)) (C := RX1) (T := TX1) (N := 7) hx hb hts inX1 hown hK hP 0 rfl rfl 3 (by decide) (hts _ fl_RX1_9) (fun _ h9 => h9) rfl dX1_putBit_6 ?_
  refine lv_iload_n hx hb dX1_putBit_9 rfl (lv_at hl 1 rfl) ?_
  refine nv_iald (D := D) (v := nI (g w)) hx hb hK hP 1 0 rfl rfl (k := w) (by omega) (by decide) (rfl) dX1_putBit_10 ?_
  refine lv_iconst (v := nI 1) hx hb dX1_putBit_11 (by decide) ?_
  refine lv_iload_n hx hb dX1_putBit_12 rfl (lv_at hl 2 rfl) ?_
  refine nv_ishl hx hb dX1_putBit_13 (by omega) ?_
  refine lv_iconst (v := -1) hx hb dX1_putBit_14 (by decide) ?_
  refine lv_ixor hx hb dX1_putBit_15 ?_
  refine nv_iandn hx hb dX1_putBit_16 ?_
  refine lv_iload_n hx hb dX1_putBit_17 rfl (lv_at hl 3 rfl) ?_
  refine lv_iload_n hx hb dX1_putBit_18 rfl (lv_at hl 2 rfl) ?_
  refine nv_ishl hx hb dX1_putBit_19 (by omega) ?_
  refine nv_ior hx hb dX1_putBit_20 ?_
  refine nv_iast (D := D) (ws' := (wRp h a cI R B S (upd (nF g) w (nI ((nw_wo (g w) (1 <<< r)) ||| (b <<< r)))) f1 f2 f3)) hx hb hK hP hD hS 1 0 rfl rfl (k := w) (by omega) (by decide) rfl dX1_putBit_21 (fun H locs hP hD hS => ?_)
  have eR : (upd (nF g) w (nI ((nw_wo (g w) (1 <<< r)) ||| (b <<< r)))) = (nF (va_up g w (pbN (g w) r b))) := upd_nF g w _
  rw [eR] at hP hD
  have hP : va_P D vwCl (wRp h a cI R B S (nF (va_up g w (pbN (g w) r b))) f1 f2 f3) H := hP
  have hD : va_D A (wRp h a cI R B S (nF (va_up g w (pbN (g w) r b))) f1 f2 f3) := hD
  exact mu_retv hx hb hr hlocks hP hD hS dX1_putBit_22
set_option maxHeartbeats 4000000 in
set_option maxRecDepth 100000 in
theorem c_X1_putCode (l : Launch) (D : va_G) (cI cR : ClassId) (h : Nat) (a : Nat → Nat) (R : Nat) (B : Nat) (S : Nat) (g : Nat → Nat) (f1 : Nat → Int32) (f2 : Nat → Int32) (f3 : Nat → Int32) (r : Nat) (c0 : Nat)  (h1 : r < 32) (h2 : c0 < 16) (sz : Nat) : Met l yX1_putCode (wsC yX1_putCode cX1_putCode 5 none) (rmK 1 23) (nPreM D (nTy cI cR) [.ref h, .int (nI r), .int (nI c0)] (wRp h a cI R B S (nF g) f1 f2 f3) sz) (QcM D none (wRp h a cI R B S (nF (pcG g r c0 8)) f1 f2 f3) (va_A (wRp h a cI R B S (nF g) f1 f2 f3) sz)) 0 0 (va_A (wRp h a cI R B S (nF g) f1 f2 f3) sz) := by
  refine met_mut (Qc := fun A => QcM D none (wRp h a cI R B S (nF (pcG g r c0 8)) f1 f2 f3) A) rfl (Nat.le_of_ble_eq_true rfl) ?_
  intro p e s m args below meth c ls A H locs hx hb hml hr hlocks hown hts hP hK hD hA hS hl
  have hl : lv_has ls 5 [(0, .ref h), (1, .int (nI r)), (2, .int (nI c0))] := hl
  refine lv_iconst (v := nI 0) hx hb dX1_putCode_0 (by decide) ?_
  refine lv_istore_n (lv' := [(3, .int (nI 0)), (0, .ref h), (1, .int (nI r)), (2, .int (nI c0))]) hx hb dX1_putCode_1 rfl hl (by decide) rfl (fun ls hl => ?_)
  have L2 : ∀ (n2 i : Nat), 4 + 1 ≤ i + n2 → i ≤ 4 → ∀ (H : Heap) (locs : List Loc), va_P D vwCl (wRp h a cI R B S (nF (pcG g r c0 (2 * i))) f1 f2 f3) H → va_D A (wRp h a cI R B S (nF (pcG g r c0 (2 * i))) f1 f2 f3) → va_S A s.heap H locs → ∀ (ls : Array Slot), lv_has ls 5 [(3, .int (nI i)), (0, .ref h), (1, .int (nI r)), (2, .int (nI c0))] → W p l e (rmK 1 23) s m args below meth c H locs 0 0 (MQ below (QcM D none (wRp h a cI R B S (nF (pcG g r c0 8)) f1 f2 f3) A) args s 0 0 A) (F0 m 2 ls []) := by
    intro n2
    induction n2 with
    | zero =>
      intro i h1_2 h2_2
      exact False.elim (by omega)
    | succ n2 ih2 =>
      intro i h1_2 h2_2  H locs hP hD hS ls hl
      refine lv_iload_n hx hb dX1_putCode_2 rfl (lv_at hl 0 rfl) ?_
      refine lv_iconst (v := nI 4) hx hb dX1_putCode_3 (by decide) ?_
      refine nv_icmp_ge (tgt := 44) hx hb dX1_putCode_4 (by decide) (by omega) (by omega) (fun q_4 => ?_) (fun q_4 => ?_)
      · have ei : i = 4 := by omega
        have eR : (nF (pcG g r c0 (2 * i))) = (nF (pcG g r c0 8)) := by rw [ei]
        rw [eR] at hP hD
        have hP : va_P D vwCl (wRp h a cI R B S (nF (pcG g r c0 8)) f1 f2 f3) H := hP
        have hD : va_D A (wRp h a cI R B S (nF (pcG g r c0 8)) f1 f2 f3) := hD
        exact mu_retv hx hb hr hlocks hP hD hS dX1_putCode_44
      · refine lv_iload_n hx hb dX1_putCode_7 rfl (lv_at hl 3 rfl) ?_
        refine lv_iload_n hx hb dX1_putCode_8 rfl (lv_at hl 0 rfl) ?_
        refine nv_ishr hx hb dX1_putCode_9 (by omega) (by omega) ?_
        refine lv_iconst (v := nI 1) hx hb dX1_putCode_10 (by decide) ?_
        refine nv_iand hx hb dX1_putCode_11 ?_
        refine nv_top ((c0.testBit i).toNat) (nw_tb _ _) ?_
        refine lv_istore (lv' := [(4, .int (nI ((c0.testBit i).toNat))), (3, .int (nI i)), (0, .ref h), (1, .int (nI r)), (2, .int (nI c0))]) hx hb dX1_putCode_12 hl (by decide) rfl (fun ls hl => ?_)
        refine lv_aload_n hx hb dX1_putCode_14 rfl (lv_at hl 2 rfl) ?_
        refine lv_iconst (v := nI 2) hx hb dX1_putCode_15 (by decide) ?_
        refine lv_iload_n hx hb dX1_putCode_16 rfl (lv_at hl 1 rfl) ?_
        refine nv_imul hx hb dX1_putCode_17 ?_
        refine lv_iload_n hx hb dX1_putCode_18 rfl (lv_at hl 3 rfl) ?_
        refine lv_iconst (v := nI 1) hx hb dX1_putCode_19 (by decide) ?_
        refine lv_iload hx hb dX1_putCode_20 (lv_at hl 0 rfl) ?_
        refine nv_isub hx hb dX1_putCode_22 (toNat_le _) ?_
        refine mu_call (ws' := (wRp h a cI R B S (nF (va_up ((pcG g r c0 (2 * i))) (2 * i) (pbN (((pcG g r c0 (2 * i))) (2 * i)) r (1 - ((c0.testBit i).toNat))))) f1 f2 f3)) [0, 1, 2, 3, 4] [] [0, 1, 2, 3, 4] [.int (nI (2 * i)), .int (nI r), .int (nI (1 - ((c0.testBit i).toNat)))] [] hx hb hml hown hts k_RX1_82 (fun sz => c_X1_putBit l D cI cR h a R B S ((pcG g r c0 (2 * i))) f1 f2 f3 (2 * i) r (1 - ((c0.testBit i).toNat)) (by omega) (by omega) sz) ⟨rfl, rfl, Nat.le_of_ble_eq_true rfl, Nat.le_of_ble_eq_true rfl⟩ hP hD hS hA hK 1 rfl rfl rfl rfl rfl rfl rfl (by decide) rfl rfl rfl hl rfl (Nat.le_of_ble_eq_true rfl) dX1_putCode_23 ⟨Nat.zero_le _, Nat.zero_le _⟩ (fun H locs hP hD hS => ?_)
        refine W.eq (g2 := F0 m 26 ls []) rfl ?_
        refine lv_aload_n hx hb dX1_putCode_26 rfl (lv_at hl 2 rfl) ?_
        refine lv_iconst (v := nI 2) hx hb dX1_putCode_27 (by decide) ?_
        refine lv_iload_n hx hb dX1_putCode_28 rfl (lv_at hl 1 rfl) ?_
        refine nv_imul hx hb dX1_putCode_29 ?_
        refine lv_iconst (v := nI 1) hx hb dX1_putCode_30 (by decide) ?_
        refine nv_iadd hx hb dX1_putCode_31 ?_
        refine lv_iload_n hx hb dX1_putCode_32 rfl (lv_at hl 3 rfl) ?_
        refine lv_iload hx hb dX1_putCode_33 (lv_at hl 0 rfl) ?_
        refine mu_call (ws' := (wRp h a cI R B S (nF (va_up ((va_up ((pcG g r c0 (2 * i))) (2 * i) (pbN (((pcG g r c0 (2 * i))) (2 * i)) r (1 - ((c0.testBit i).toNat))))) ((2 * i) + 1) (pbN (((va_up ((pcG g r c0 (2 * i))) (2 * i) (pbN (((pcG g r c0 (2 * i))) (2 * i)) r (1 - ((c0.testBit i).toNat))))) ((2 * i) + 1)) r ((c0.testBit i).toNat)))) f1 f2 f3)) [0, 1, 2, 3, 4] [] [0, 1, 2, 3, 4] [.int (nI ((2 * i) + 1)), .int (nI r), .int (nI ((c0.testBit i).toNat))] [] hx hb hml hown hts k_RX1_82 (fun sz => c_X1_putBit l D cI cR h a R B S ((va_up ((pcG g r c0 (2 * i))) (2 * i) (pbN (((pcG g r c0 (2 * i))) (2 * i)) r (1 - ((c0.testBit i).toNat))))) f1 f2 f3 ((2 * i) + 1) r ((c0.testBit i).toNat) (by omega) (by omega) sz) ⟨rfl, rfl, Nat.le_of_ble_eq_true rfl, Nat.le_of_ble_eq_true rfl⟩ hP hD hS hA hK 1 rfl rfl rfl rfl rfl rfl rfl (by decide) rfl rfl rfl hl rfl (Nat.le_of_ble_eq_true rfl) dX1_putCode_35 ⟨Nat.zero_le _, Nat.zero_le _⟩ (fun H locs hP hD hS => ?_)
        refine W.eq (g2 := F0 m 38 ls []) rfl ?_
        have eR : (nF (va_up ((va_up ((pcG g r c0 (2 * i))) (2 * i) (pbN (((pcG g r c0 (2 * i))) (2 * i)) r (1 - ((c0.testBit i).toNat))))) ((2 * i) + 1) (pbN (((va_up ((pcG g r c0 (2 * i))) (2 * i) (pbN (((pcG g r c0 (2 * i))) (2 * i)) r (1 - ((c0.testBit i).toNat))))) ((2 * i) + 1)) r ((c0.testBit i).toNat)))) = (nF (pcG g r c0 (2 * (i + 1)))) := congrArg nF (pc_step g r c0 i)
        rw [eR] at hP hD
        have hP : va_P D vwCl (wRp h a cI R B S (nF (pcG g r c0 (2 * (i + 1)))) f1 f2 f3) H := hP
        have hD : va_D A (wRp h a cI R B S (nF (pcG g r c0 (2 * (i + 1)))) f1 f2 f3) := hD
        refine nv_inc (k := 1) (lv' := [(3, .int (nI (i + 1))), (4, .int (nI ((c0.testBit i).toNat))), (0, .ref h), (1, .int (nI r)), (2, .int (nI c0))]) hx hb dX1_putCode_38 hl rfl (by decide) rfl (fun ls hl => ?_)
        refine lv_goto (tgt := 2) hx hb dX1_putCode_41 (by decide) ?_
        exact ih2 (i + 1) (by omega) (by omega)  _ _ hP hD hS ls (lv_sub hl [0, 2, 3, 4] rfl)
  have eR : (nF g) = (nF (pcG g r c0 (2 * 0))) := pc_0 g r c0
  rw [eR] at hP hD
  have hP : va_P D vwCl (wRp h a cI R B S (nF (pcG g r c0 (2 * 0))) f1 f2 f3) H := hP
  have hD : va_D A (wRp h a cI R B S (nF (pcG g r c0 (2 * 0))) f1 f2 f3) := hD
  exact L2 5 0 (by omega) (by omega)  _ _ hP hD hS ls (lv_sub hl [0, 1, 2, 3] rfl)
set_option maxHeartbeats 4000000 in
set_option maxRecDepth 100000 in
theorem c_X1_putWord (l : Launch) (D : va_G) (cI cR : ClassId) (h : Nat) (a : Nat → Nat) (R : Nat) (B : Nat) (S : Nat) (g : Nat → Nat) (f1 : Nat → Int32) (f2 : Nat → Int32) (f3 : Nat → Int32) (ad : Nat) (wd : Nat)  (hS1 : 0 < S) (hS : S ≤ 3) (hB : B ≤ 10) (h1 : ad < 1000) (h2 : ad / S < 32) (h3 : wd < 65536) (sz : Nat) : Met l yX1_putWord (wsC yX1_putWord cX1_putWord 6 none) (rmK 1 23) (nPreM D (nTy cI cR) [.ref h, .int (nI ad), .int (nI wd)] (wRp h a cI R B S (nF g) f1 f2 f3) sz) (QcM D none (wRp h a cI R B S (nF (pwG S B g ad wd (B + 1))) f1 f2 f3) (va_A (wRp h a cI R B S (nF g) f1 f2 f3) sz)) 0 0 (va_A (wRp h a cI R B S (nF g) f1 f2 f3) sz) := by
  refine met_mut (Qc := fun A => QcM D none (wRp h a cI R B S (nF (pwG S B g ad wd (B + 1))) f1 f2 f3) A) rfl (Nat.le_of_ble_eq_true rfl) ?_
  intro p e s m args below meth c ls A H locs hx hb hml hr hlocks hown hts hP hK hD hA hS hl
  have hl : lv_has ls 6 [(0, .ref h), (1, .int (nI ad)), (2, .int (nI wd))] := hl
  have hm : ad % S < S := Nat.mod_lt _ hS1
  have hbs : ad % S * (B + 1) ≤ 2 * 11 := Nat.mul_le_mul (by omega) (by omega)
  refine lv_aload_n hx hb dX1_putWord_0 rfl (lv_at hl 0 rfl) ?_
  refine lv_iload_n hx hb dX1_putWord_1 rfl (lv_at hl 1 rfl) ?_
  refine nv_callV [.int (nI ad)] [] hx hb hml hown hts k_RX1_91 (c_X1_ringOf l D cI cR h a R B S (nF g) f1 f2 f3 ad (by omega) (by omega) (by omega)) ⟨rfl, rfl, Nat.le_of_ble_eq_true rfl, Nat.le_of_ble_eq_true rfl⟩ hP hK 1 rfl rfl rfl rfl hl rfl (Nat.le_of_ble_eq_true rfl) dX1_putWord_2 ⟨Nat.zero_le _, Nat.zero_le _⟩ ?_
  refine lv_istore_n (lv' := [(3, .int (nI (ad / S))), (0, .ref h), (1, .int (nI ad)), (2, .int (nI wd))]) hx hb dX1_putWord_5 rfl hl (by decide) rfl (fun ls hl => ?_)
  refine lv_aload_n hx hb dX1_putWord_6 rfl (lv_at hl 1 rfl) ?_
  refine lv_iload_n hx hb dX1_putWord_7 rfl (lv_at hl 2 rfl) ?_
  refine nv_callV [.int (nI ad)] [] hx hb hml hown hts k_RX1_88 (c_X1_setOf l D cI cR h a R B S (nF g) f1 f2 f3 ad (by omega) (by omega) (by omega)) ⟨rfl, rfl, Nat.le_of_ble_eq_true rfl, Nat.le_of_ble_eq_true rfl⟩ hP hK 1 rfl rfl rfl rfl hl rfl (Nat.le_of_ble_eq_true rfl) dX1_putWord_8 ⟨Nat.zero_le _, Nat.zero_le _⟩ ?_
  refine lv_istore (lv' := [(4, .int (nI (ad % S))), (3, .int (nI (ad / S))), (0, .ref h), (1, .int (nI ad)), (2, .int (nI wd))]) hx hb dX1_putWord_11 hl (by decide) rfl (fun ls hl => ?_)
  refine lv_iconst (v := nI 0) hx hb dX1_putWord_13 (by decide) ?_
  refine lv_istore (lv' := [(5, .int (nI 0)), (4, .int (nI (ad % S))), (3, .int (nI (ad / S))), (0, .ref h), (1, .int (nI ad)), (2, .int (nI wd))]) hx hb dX1_putWord_14 hl (by decide) rfl (fun ls hl => ?_)
  have L16 : ∀ (n16 i : Nat), B + 1 ≤ i + n16 → i ≤ B → ∀ (H : Heap) (locs : List Loc), va_P D vwCl (wRp h a cI R B S (nF (pwG S B g ad wd i)) f1 f2 f3) H → va_D A (wRp h a cI R B S (nF (pwG S B g ad wd i)) f1 f2 f3) → va_S A s.heap H locs → ∀ (ls : Array Slot), lv_has ls 6 [(5, .int (nI i)), (4, .int (nI (ad % S))), (3, .int (nI (ad / S))), (0, .ref h), (1, .int (nI ad)), (2, .int (nI wd))] → W p l e (rmK 1 23) s m args below meth c H locs 0 0 (MQ below (QcM D none (wRp h a cI R B S (nF (pwG S B g ad wd (B + 1))) f1 f2 f3) A) args s 0 0 A) (F0 m 16 ls []) := by
    intro n16
    induction n16 with
    | zero =>
      intro i h1_16 h2_16
      exact False.elim (by omega)
    | succ n16 ih16 =>
      intro i h1_16 h2_16  H locs hP hD hS ls hl
      refine lv_iload hx hb dX1_putWord_16 (lv_at hl 0 rfl) ?_
      refine lv_aload_n hx hb dX1_putWord_18 rfl (lv_at hl 3 rfl) ?_
      refine va_get (D := D) (ci := 1) (v := .int (nI B)) (C := RX1) (T := TX1) (N := 7) hx hb hts inX1 hown hK hP 0 rfl rfl 1 (by decide) (hts _ fl_RX1_32) (fun _ h9 => h9) rfl dX1_putWord_19 ?_
      refine nv_icmp_ge (tgt := 50) hx hb dX1_putWord_22 (by decide) (by omega) (by omega) (fun q_22 => ?_) (fun q_22 => ?_)
      · have ei : i = B := by omega
        have eR : (nF (pwG S B g ad wd i)) = (nF (pwG S B g ad wd B)) := by rw [ei]
        rw [eR] at hP hD
        have hP : va_P D vwCl (wRp h a cI R B S (nF (pwG S B g ad wd B)) f1 f2 f3) H := hP
        have hD : va_D A (wRp h a cI R B S (nF (pwG S B g ad wd B)) f1 f2 f3) := hD
        refine lv_aload_n hx hb dX1_putWord_50 rfl (lv_at hl 3 rfl) ?_
        refine lv_aload_n hx hb dX1_putWord_51 rfl (lv_at hl 3 rfl) ?_
        refine lv_iload hx hb dX1_putWord_52 (lv_at hl 1 rfl) ?_
        refine lv_aload_n hx hb dX1_putWord_54 rfl (lv_at hl 3 rfl) ?_
        refine va_get (D := D) (ci := 1) (v := .int (nI B)) (C := RX1) (T := TX1) (N := 7) hx hb hts inX1 hown hK hP 0 rfl rfl 1 (by decide) (hts _ fl_RX1_32) (fun _ h9 => h9) rfl dX1_putWord_55 ?_
        refine nv_callV [.int (nI (ad % S)), .int (nI B)] [.ref h] hx hb hml hown hts k_RX1_98 (c_X1_senseWire l D cI cR h a R B S (nF (pwG S B g ad wd B)) f1 f2 f3 (ad % S) B ) ⟨rfl, rfl, Nat.le_of_ble_eq_true rfl, Nat.le_of_ble_eq_true rfl⟩ hP hK 1 rfl rfl rfl rfl hl rfl (Nat.le_of_ble_eq_true rfl) dX1_putWord_58 ⟨Nat.zero_le _, Nat.zero_le _⟩ ?_
        refine lv_iload_n hx hb dX1_putWord_61 rfl (lv_at hl 2 rfl) ?_
        refine lv_iconst (v := nI 1) hx hb dX1_putWord_62 (by decide) ?_
        refine lv_iload_n hx hb dX1_putWord_63 rfl (lv_at hl 5 rfl) ?_
        refine nv_callS [.int (nI wd)] [.int (nI 1), .int (nI (ad / S)), .int (nI (8 + (ad % S) * (B + 1) + B)), .ref h] hx hb hml hown hts k_RX1_73 (c_J6_bitCount_0f7a4 l D cI cR wd (by omega)) ⟨rfl, rfl, Nat.le_of_ble_eq_true rfl, Nat.le_of_ble_eq_true rfl⟩ (va_P_nil) hK rfl hl rfl (Nat.le_of_ble_eq_true rfl) dX1_putWord_64 ⟨Nat.zero_le _, Nat.zero_le _⟩ ?_
        refine lv_iconst (v := nI 1) hx hb dX1_putWord_67 (by decide) ?_
        refine nv_iand hx hb dX1_putWord_68 ?_
        refine nv_isub hx hb dX1_putWord_69 (Nat.and_le_right) ?_
        refine nv_top ((wbt B wd B).toNat) (wbt_hi) ?_
        refine mu_call (ws' := (wRp h a cI R B S (nF (va_up ((pwG S B g ad wd B)) (8 + (ad % S) * (B + 1) + B) (pbN (((pwG S B g ad wd B)) (8 + (ad % S) * (B + 1) + B)) (ad / S) ((wbt B wd B).toNat)))) f1 f2 f3)) [0, 1, 2, 3, 4] [] [0, 1, 2, 3, 4] [.int (nI (8 + (ad % S) * (B + 1) + B)), .int (nI (ad / S)), .int (nI ((wbt B wd B).toNat))] [] hx hb hml hown hts k_RX1_82 (fun sz => c_X1_putBit l D cI cR h a R B S ((pwG S B g ad wd B)) f1 f2 f3 (8 + (ad % S) * (B + 1) + B) (ad / S) ((wbt B wd B).toNat) (by omega) (by omega) sz) ⟨rfl, rfl, Nat.le_of_ble_eq_true rfl, Nat.le_of_ble_eq_true rfl⟩ hP hD hS hA hK 1 rfl rfl rfl rfl rfl rfl rfl (by decide) rfl rfl rfl hl rfl (Nat.le_of_ble_eq_true rfl) dX1_putWord_70 ⟨Nat.zero_le _, Nat.zero_le _⟩ (fun H locs hP hD hS => ?_)
        refine W.eq (g2 := F0 m 73 ls []) rfl ?_
        have eR : (nF (va_up ((pwG S B g ad wd B)) (8 + (ad % S) * (B + 1) + B) (pbN (((pwG S B g ad wd B)) (8 + (ad % S) * (B + 1) + B)) (ad / S) ((wbt B wd B).toNat)))) = (nF (pwG S B g ad wd (B + 1))) := congrArg nF (pw_step S B g ad wd B)
        rw [eR] at hP hD
        have hP : va_P D vwCl (wRp h a cI R B S (nF (pwG S B g ad wd (B + 1))) f1 f2 f3) H := hP
        have hD : va_D A (wRp h a cI R B S (nF (pwG S B g ad wd (B + 1))) f1 f2 f3) := hD
        exact mu_retv hx hb hr hlocks hP hD hS dX1_putWord_73
      · refine lv_aload_n hx hb dX1_putWord_25 rfl (lv_at hl 3 rfl) ?_
        refine lv_aload_n hx hb dX1_putWord_26 rfl (lv_at hl 3 rfl) ?_
        refine lv_iload hx hb dX1_putWord_27 (lv_at hl 1 rfl) ?_
        refine lv_iload hx hb dX1_putWord_29 (lv_at hl 0 rfl) ?_
        refine nv_callV [.int (nI (ad % S)), .int (nI i)] [.ref h] hx hb hml hown hts k_RX1_98 (c_X1_senseWire l D cI cR h a R B S (nF (pwG S B g ad wd i)) f1 f2 f3 (ad % S) i ) ⟨rfl, rfl, Nat.le_of_ble_eq_true rfl, Nat.le_of_ble_eq_true rfl⟩ hP hK 1 rfl rfl rfl rfl hl rfl (Nat.le_of_ble_eq_true rfl) dX1_putWord_31 ⟨Nat.zero_le _, Nat.zero_le _⟩ ?_
        refine lv_iload_n hx hb dX1_putWord_34 rfl (lv_at hl 2 rfl) ?_
        refine lv_iload_n hx hb dX1_putWord_35 rfl (lv_at hl 5 rfl) ?_
        refine lv_iload hx hb dX1_putWord_36 (lv_at hl 0 rfl) ?_
        refine nv_ishr hx hb dX1_putWord_38 (by omega) (by omega) ?_
        refine lv_iconst (v := nI 1) hx hb dX1_putWord_39 (by decide) ?_
        refine nv_iand hx hb dX1_putWord_40 ?_
        refine nv_top ((wd.testBit i).toNat) (nw_tb _ _) ?_
        refine nv_top ((wbt B wd i).toNat) (wbt_lo q_22) ?_
        refine mu_call (ws' := (wRp h a cI R B S (nF (va_up ((pwG S B g ad wd i)) (8 + (ad % S) * (B + 1) + i) (pbN (((pwG S B g ad wd i)) (8 + (ad % S) * (B + 1) + i)) (ad / S) ((wbt B wd i).toNat)))) f1 f2 f3)) [0, 1, 2, 3, 4] [] [0, 1, 2, 3, 4] [.int (nI (8 + (ad % S) * (B + 1) + i)), .int (nI (ad / S)), .int (nI ((wbt B wd i).toNat))] [] hx hb hml hown hts k_RX1_82 (fun sz => c_X1_putBit l D cI cR h a R B S ((pwG S B g ad wd i)) f1 f2 f3 (8 + (ad % S) * (B + 1) + i) (ad / S) ((wbt B wd i).toNat) (by omega) (by omega) sz) ⟨rfl, rfl, Nat.le_of_ble_eq_true rfl, Nat.le_of_ble_eq_true rfl⟩ hP hD hS hA hK 1 rfl rfl rfl rfl rfl rfl rfl (by decide) rfl rfl rfl hl rfl (Nat.le_of_ble_eq_true rfl) dX1_putWord_41 ⟨Nat.zero_le _, Nat.zero_le _⟩ (fun H locs hP hD hS => ?_)
        refine W.eq (g2 := F0 m 44 ls []) rfl ?_
        have eR : (nF (va_up ((pwG S B g ad wd i)) (8 + (ad % S) * (B + 1) + i) (pbN (((pwG S B g ad wd i)) (8 + (ad % S) * (B + 1) + i)) (ad / S) ((wbt B wd i).toNat)))) = (nF (pwG S B g ad wd (i + 1))) := congrArg nF (pw_step S B g ad wd i)
        rw [eR] at hP hD
        have hP : va_P D vwCl (wRp h a cI R B S (nF (pwG S B g ad wd (i + 1))) f1 f2 f3) H := hP
        have hD : va_D A (wRp h a cI R B S (nF (pwG S B g ad wd (i + 1))) f1 f2 f3) := hD
        refine nv_inc (k := 0) (lv' := [(5, .int (nI (i + 1))), (4, .int (nI (ad % S))), (3, .int (nI (ad / S))), (0, .ref h), (1, .int (nI ad)), (2, .int (nI wd))]) hx hb dX1_putWord_44 hl rfl (by decide) rfl (fun ls hl => ?_)
        refine lv_goto (tgt := 16) hx hb dX1_putWord_47 (by decide) ?_
        exact ih16 (i + 1) (by omega) (by omega)  _ _ hP hD hS ls (lv_sub hl [0, 1, 2, 3, 4, 5] rfl)
  have eR : (nF g) = (nF (pwG S B g ad wd 0)) := pw_0 S B g ad wd
  rw [eR] at hP hD
  have hP : va_P D vwCl (wRp h a cI R B S (nF (pwG S B g ad wd 0)) f1 f2 f3) H := hP
  have hD : va_D A (wRp h a cI R B S (nF (pwG S B g ad wd 0)) f1 f2 f3) := hD
  exact L16 (B + 1) 0 (by omega) (by omega)  _ _ hP hD hS ls (lv_sub hl [0, 1, 2, 3, 4, 5] rfl)
set_option maxHeartbeats 4000000 in
set_option maxRecDepth 100000 in
theorem c_X1_turn (l : Launch) (D : va_G) (cI cR : ClassId) (h : Nat) (a : Nat → Nat) (R : Nat) (B : Nat) (S : Nat) (f0 : Nat → Int32) (f1 : Nat → Int32) (g2n : Nat → Nat) (f3 : Nat → Int32) (w : Nat)  (h1 : w < 41) (h2 : g2n w ≤ 1) (sz : Nat) : Met l yX1_turn (wsC yX1_turn cX1_turn 2 (some .int)) (rmK 0 0) (nPreM D (nTy cI cR) [.ref h, .int (nI w)] (wRp h a cI R B S f0 f1 (nF g2n) f3) sz) (QcM D (some (.int (nI (1 - g2n w)))) (wRp h a cI R B S f0 f1 (nF (va_up g2n w (1 - g2n w))) f3) (va_A (wRp h a cI R B S f0 f1 (nF g2n) f3) sz)) 0 0 (va_A (wRp h a cI R B S f0 f1 (nF g2n) f3) sz) := by
  refine met_mut (Qc := fun A => QcM D (some (.int (nI (1 - g2n w)))) (wRp h a cI R B S f0 f1 (nF (va_up g2n w (1 - g2n w))) f3) A) rfl (Nat.le_of_ble_eq_true rfl) ?_
  intro p e s m args below meth c ls A H locs hx hb hml hr hlocks hown hts hP hK hD hA hS hl
  have hl : lv_has ls 2 [(0, .ref h), (1, .int (nI w))] := hl
  refine lv_aload_n hx hb dX1_turn_0 rfl (lv_at hl 0 rfl) ?_
  refine va_get (D := D) (ci := 1) (v := .ref (a 2)) (C := RX1) (T := TX1) (N := 7) hx hb hts inX1 hown hK hP 0 rfl rfl 5 (by decide) (hts _ fl_RX1_18) (fun _ h9 => h9) rfl dX1_turn_1 ?_
  refine lv_iload_n hx hb dX1_turn_4 rfl (lv_at hl 1 rfl) ?_
  refine lv_iconst (v := nI 1) hx hb dX1_turn_5 (by decide) ?_
  refine lv_aload_n hx hb dX1_turn_6 rfl (lv_at hl 0 rfl) ?_
  refine va_get (D := D) (ci := 1) (v := .ref (a 2)) (C := RX1) (T := TX1) (N := 7) hx hb hts inX1 hown hK hP 0 rfl rfl 5 (by decide) (hts _ fl_RX1_18) (fun _ h9 => h9) rfl dX1_turn_7 ?_
  refine lv_iload_n hx hb dX1_turn_10 rfl (lv_at hl 1 rfl) ?_
  refine nv_iald (D := D) (v := nI (g2n w)) hx hb hK hP 3 0 rfl rfl (k := w) (by omega) (by decide) (rfl) dX1_turn_11 ?_
  refine nv_isub hx hb dX1_turn_12 h2 ?_
  refine nv_iast (D := D) (ws' := (wRp h a cI R B S f0 f1 (upd (nF g2n) w (nI (1 - (g2n w)))) f3)) hx hb hK hP hD hS 3 0 rfl rfl (k := w) (by omega) (by decide) rfl dX1_turn_13 (fun H locs hP hD hS => ?_)
  have eR : (upd (nF g2n) w (nI (1 - (g2n w)))) = (nF (va_up g2n w (1 - g2n w))) := upd_nF _ _ _
  rw [eR] at hP hD
  have hP : va_P D vwCl (wRp h a cI R B S f0 f1 (nF (va_up g2n w (1 - g2n w))) f3) H := hP
  have hD : va_D A (wRp h a cI R B S f0 f1 (nF (va_up g2n w (1 - g2n w))) f3) := hD
  refine lv_aload_n hx hb dX1_turn_14 rfl (lv_at hl 0 rfl) ?_
  refine va_get (D := D) (ci := 1) (v := .ref (a 2)) (C := RX1) (T := TX1) (N := 7) hx hb hts inX1 hown hK hP 0 rfl rfl 5 (by decide) (hts _ fl_RX1_18) (fun _ h9 => h9) rfl dX1_turn_15 ?_
  refine lv_iload_n hx hb dX1_turn_18 rfl (lv_at hl 1 rfl) ?_
  refine nv_iald (D := D) (v := nI ((va_up g2n w (1 - g2n w)) w)) hx hb hK hP 3 0 rfl rfl (k := w) (by omega) (by decide) (rfl) dX1_turn_19 ?_
  refine nv_top (1 - g2n w) (up_s _ _ _) ?_
  exact mu_reti hx hb hr hlocks (rfl) hP hD hS dX1_turn_20
set_option maxHeartbeats 4000000 in
set_option maxRecDepth 100000 in
theorem c_X1_spoilOrMend (l : Launch) (D : va_G) (cI cR : ClassId) (h : Nat) (a : Nat → Nat) (R : Nat) (B : Nat) (S : Nat) (f0 : Nat → Int32) (g1n : Nat → Nat) (f2 : Nat → Int32) (f3 : Nat → Int32) (w : Nat) (r : Nat)  (h1 : w < 41) (h2 : r < 16) (h3 : g1n w < 65536) (sz : Nat) : Met l yX1_spoilOrMend (wsC yX1_spoilOrMend cX1_spoilOrMend 3 (some .int)) (rmK 0 0) (nPreM D (nTy cI cR) [.ref h, .int (nI w), .int (nI r)] (wRp h a cI R B S f0 (nF g1n) f2 f3) sz) (QcM D (some (.int (nI (((g1n w ^^^ 1 <<< r).testBit r).toNat)))) (wRp h a cI R B S f0 (nF (va_up g1n w (g1n w ^^^ 1 <<< r))) f2 f3) (va_A (wRp h a cI R B S f0 (nF g1n) f2 f3) sz)) 0 0 (va_A (wRp h a cI R B S f0 (nF g1n) f2 f3) sz) := by
  refine met_mut (Qc := fun A => QcM D (some (.int (nI (((g1n w ^^^ 1 <<< r).testBit r).toNat)))) (wRp h a cI R B S f0 (nF (va_up g1n w (g1n w ^^^ 1 <<< r))) f2 f3) A) rfl (Nat.le_of_ble_eq_true rfl) ?_
  intro p e s m args below meth c ls A H locs hx hb hml hr hlocks hown hts hP hK hD hA hS hl
  have hl : lv_has ls 3 [(0, .ref h), (1, .int (nI w)), (2, .int (nI r))] := hl
  have hx2 : g1n w ^^^ 1 <<< r < 65536 := Nat.xor_lt_two_pow (n := 16) h3 (by rw [sh1]; exact (show 2 ^ r < 2 ^ 16 from Nat.pow_lt_pow_right (by decide) h2))
  refine lv_aload_n hx hb dX1_spoilOrMend_0 rfl (lv_at hl 0 rfl) ?_
  refine va_get (D := D) (ci := 1) (v := .ref (a 1)) (C := RX1) (T := TX1) (N := 7) hx hb hts inX1 hown hK hP 0 rfl rfl 4 (by decide) (hts _ fl_RX1_15) (fun _ h9 => h9) rfl dX1_spoilOrMend_1 ?_
  refine lv_iload_n hx hb dX1_spoilOrMend_4 rfl (lv_at hl 1 rfl) ?_
  refine lv_dup2_11 hx hb dX1_spoilOrMend_5 rfl rfl ?_
  refine nv_iald (D := D) (v := nI (g1n w)) hx hb hK hP 2 0 rfl rfl (k := w) (by omega) (by decide) (rfl) dX1_spoilOrMend_6 ?_
  refine lv_iconst (v := nI 1) hx hb dX1_spoilOrMend_7 (by decide) ?_
  refine lv_iload_n hx hb dX1_spoilOrMend_8 rfl (lv_at hl 2 rfl) ?_
  refine nv_ishl hx hb dX1_spoilOrMend_9 (by omega) ?_
  refine nv_ixor hx hb dX1_spoilOrMend_10 ?_
  refine nv_iast (D := D) (ws' := (wRp h a cI R B S f0 (upd (nF g1n) w (nI ((g1n w) ^^^ (1 <<< r)))) f2 f3)) hx hb hK hP hD hS 2 0 rfl rfl (k := w) (by omega) (by decide) rfl dX1_spoilOrMend_11 (fun H locs hP hD hS => ?_)
  have eR : (upd (nF g1n) w (nI ((g1n w) ^^^ (1 <<< r)))) = (nF (va_up g1n w (g1n w ^^^ 1 <<< r))) := upd_nF _ _ _
  rw [eR] at hP hD
  have hP : va_P D vwCl (wRp h a cI R B S f0 (nF (va_up g1n w (g1n w ^^^ 1 <<< r))) f2 f3) H := hP
  have hD : va_D A (wRp h a cI R B S f0 (nF (va_up g1n w (g1n w ^^^ 1 <<< r))) f2 f3) := hD
  refine lv_aload_n hx hb dX1_spoilOrMend_12 rfl (lv_at hl 0 rfl) ?_
  refine va_get (D := D) (ci := 1) (v := .ref (a 1)) (C := RX1) (T := TX1) (N := 7) hx hb hts inX1 hown hK hP 0 rfl rfl 4 (by decide) (hts _ fl_RX1_15) (fun _ h9 => h9) rfl dX1_spoilOrMend_13 ?_
  refine lv_iload_n hx hb dX1_spoilOrMend_16 rfl (lv_at hl 1 rfl) ?_
  refine nv_iald (D := D) (v := nI ((va_up g1n w (g1n w ^^^ 1 <<< r)) w)) hx hb hK hP 2 0 rfl rfl (k := w) (by omega) (by decide) (rfl) dX1_spoilOrMend_17 ?_
  refine nv_top (g1n w ^^^ 1 <<< r) (up_s _ _ _) ?_
  refine lv_iload_n hx hb dX1_spoilOrMend_18 rfl (lv_at hl 2 rfl) ?_
  refine nv_ishr hx hb dX1_spoilOrMend_19 (by omega) (by omega) ?_
  refine lv_iconst (v := nI 1) hx hb dX1_spoilOrMend_20 (by decide) ?_
  refine nv_iand hx hb dX1_spoilOrMend_21 ?_
  refine nv_top (((g1n w ^^^ 1 <<< r).testBit r).toNat) (nw_tb _ _) ?_
  exact mu_reti hx hb hr hlocks (rfl) hP hD hS dX1_spoilOrMend_22
set_option maxHeartbeats 4000000 in
set_option maxRecDepth 100000 in
theorem c_X1_putPatch (l : Launch) (D : va_G) (cI cR : ClassId) (h : Nat) (a : Nat → Nat) (R : Nat) (B : Nat) (S : Nat) (f0 : Nat → Int32) (f1 : Nat → Int32) (f2 : Nat → Int32) (f3 : Nat → Int32) (ad : Nat) (x : Int32)  (h1 : ad < 48) (sz : Nat) : Met l yX1_putPatch (wsC yX1_putPatch cX1_putPatch 3 none) (rmK 0 0) (nPreM D (nTy cI cR) [.ref h, .int (nI ad), .int x] (wRp h a cI R B S f0 f1 f2 f3) sz) (QcM D none (wRp h a cI R B S f0 f1 f2 (upd f3 ad x)) (va_A (wRp h a cI R B S f0 f1 f2 f3) sz)) 0 0 (va_A (wRp h a cI R B S f0 f1 f2 f3) sz) := by
  refine met_mut (Qc := fun A => QcM D none (wRp h a cI R B S f0 f1 f2 (upd f3 ad x)) A) rfl (Nat.le_of_ble_eq_true rfl) ?_
  intro p e s m args below meth c ls A H locs hx hb hml hr hlocks hown hts hP hK hD hA hS hl
  have hl : lv_has ls 3 [(0, .ref h), (1, .int (nI ad)), (2, .int x)] := hl
  refine lv_aload_n hx hb dX1_putPatch_0 rfl (lv_at hl 0 rfl) ?_
  refine va_get (D := D) (ci := 1) (v := .ref (a 3)) (C := RX1) (T := TX1) (N := 7) hx hb hts inX1 hown hK hP 0 rfl rfl 6 (by decide) (hts _ fl_RX1_21) (fun _ h9 => h9) rfl dX1_putPatch_1 ?_
  refine lv_iload_n hx hb dX1_putPatch_4 rfl (lv_at hl 1 rfl) ?_
  refine lv_iload_n hx hb dX1_putPatch_5 rfl (lv_at hl 2 rfl) ?_
  refine nv_iast (D := D) (ws' := (wRp h a cI R B S f0 f1 f2 (upd f3 ad x))) hx hb hK hP hD hS 4 0 rfl rfl (k := ad) (by omega) (by decide) rfl dX1_putPatch_6 (fun H locs hP hD hS => ?_)
  exact mu_retv hx hb hr hlocks hP hD hS dX1_putPatch_7
set_option maxHeartbeats 4000000 in
set_option maxRecDepth 100000 in
theorem c_X1_start (l : Launch) (D : va_G) (cI cR : ClassId) (h : Nat) (a : Nat → Nat) (R : Nat) (B : Nat) (S : Nat) (f0 : Nat → Int32) (f1 : Nat → Int32) (f2 : Nat → Int32) (f3 : Nat → Int32) (nr : Nat) (nb : Nat) (ns : Nat)  (hr1 : nr ≤ 16) (hs1 : 1 ≤ ns) (hs2 : ns ≤ 3) (hb1 : nb ≤ 10) (sz : Nat) : Met l yX1_start (wsC yX1_start cX1_start 5 none) (rmK 2 48) (nPreM D (nTy cI cR) [.ref h, .int (nI nr), .int (nI nb), .int (nI ns)] (wRp h a cI R B S f0 f1 f2 f3) sz) (QcM D none (wRp h a cI nr nb ns (nF (swG nr nb ns (nr * ns))) (nF (fun _ => 0)) (nF (fun _ => 0)) ((fun _ => -1))) (va_A (wRp h a cI R B S f0 f1 f2 f3) sz)) 0 0 (va_A (wRp h a cI R B S f0 f1 f2 f3) sz) := by
  refine met_mut (Qc := fun A => QcM D none (wRp h a cI nr nb ns (nF (swG nr nb ns (nr * ns))) (nF (fun _ => 0)) (nF (fun _ => 0)) ((fun _ => -1))) A) rfl (Nat.le_of_ble_eq_true rfl) ?_
  intro p e s m args below meth c ls A H locs hx hb hml hr hlocks hown hts hP hK hD hA hS hl
  have hl : lv_has ls 5 [(0, .ref h), (1, .int (nI nr)), (2, .int (nI nb)), (3, .int (nI ns))] := hl
  have hrs : nr * ns ≤ 16 * 3 := Nat.mul_le_mul hr1 hs2
  refine lv_aload_n hx hb dX1_start_0 rfl (lv_at hl 0 rfl) ?_
  refine lv_iload_n hx hb dX1_start_1 rfl (lv_at hl 1 rfl) ?_
  refine va_put (D := D) (ci := 1) (v := .int (nI nr)) (ty := .int) (C := RX1) (T := TX1) (N := 7) hx hb hts inX1 tyX1 tyX1_ok nmX1 hown hK hP hD hS 0 rfl rfl 0 (by decide) (hts _ fl_RX1_28) (fun _ h9 => h9) rfl (by decide +kernel) rfl rfl (Nat.le_of_ble_eq_true rfl) dX1_start_2 (fun H locs hP hD hS => ?_)
  have hP : va_P D vwCl (wRp h a cI nr B S f0 f1 f2 f3) H := hP
  have hD : va_D A (wRp h a cI nr B S f0 f1 f2 f3) := hD
  refine lv_aload_n hx hb dX1_start_5 rfl (lv_at hl 0 rfl) ?_
  refine lv_iload_n hx hb dX1_start_6 rfl (lv_at hl 2 rfl) ?_
  refine va_put (D := D) (ci := 1) (v := .int (nI nb)) (ty := .int) (C := RX1) (T := TX1) (N := 7) hx hb hts inX1 tyX1 tyX1_ok nmX1 hown hK hP hD hS 0 rfl rfl 1 (by decide) (hts _ fl_RX1_32) (fun _ h9 => h9) rfl (by decide +kernel) rfl rfl (Nat.le_of_ble_eq_true rfl) dX1_start_7 (fun H locs hP hD hS => ?_)
  have hP : va_P D vwCl (wRp h a cI nr nb S f0 f1 f2 f3) H := hP
  have hD : va_D A (wRp h a cI nr nb S f0 f1 f2 f3) := hD
  refine lv_aload_n hx hb dX1_start_10 rfl (lv_at hl 0 rfl) ?_
  refine lv_iload_n hx hb dX1_start_11 rfl (lv_at hl 3 rfl) ?_
  refine va_put (D := D) (ci := 1) (v := .int (nI ns)) (ty := .int) (C := RX1) (T := TX1) (N := 7) hx hb hts inX1 tyX1 tyX1_ok nmX1 hown hK hP hD hS 0 rfl rfl 2 (by decide) (hts _ fl_RX1_35) (fun _ h9 => h9) rfl (by decide +kernel) rfl rfl (Nat.le_of_ble_eq_true rfl) dX1_start_12 (fun H locs hP hD hS => ?_)
  have hP : va_P D vwCl (wRp h a cI nr nb ns f0 f1 f2 f3) H := hP
  have hD : va_D A (wRp h a cI nr nb ns f0 f1 f2 f3) := hD
  refine lv_iconst (v := nI 0) hx hb dX1_start_15 (by decide) ?_
  refine lv_istore (lv' := [(4, .int (nI 0)), (0, .ref h), (1, .int (nI nr)), (2, .int (nI nb)), (3, .int (nI ns))]) hx hb dX1_start_16 hl (by decide) rfl (fun ls hl => ?_)
  have L18 : ∀ (n18 i : Nat), 41 + 1 ≤ i + n18 → i ≤ 41 → ∀ (H : Heap) (locs : List Loc), va_P D vwCl (wRp h a cI nr nb ns (zfF f0 (nI 0) i) (zfF f1 (nI 0) i) (zfF f2 (nI 0) i) f3) H → va_D A (wRp h a cI nr nb ns (zfF f0 (nI 0) i) (zfF f1 (nI 0) i) (zfF f2 (nI 0) i) f3) → va_S A s.heap H locs → ∀ (ls : Array Slot), lv_has ls 5 [(4, .int (nI i)), (0, .ref h), (1, .int (nI nr)), (2, .int (nI nb)), (3, .int (nI ns))] → W p l e (rmK 2 48) s m args below meth c H locs 0 0 (MQ below (QcM D none (wRp h a cI nr nb ns (nF (swG nr nb ns (nr * ns))) (nF (fun _ => 0)) (nF (fun _ => 0)) ((fun _ => -1))) A) args s 0 0 A) (F0 m 18 ls []) := by
    intro n18
    induction n18 with
    | zero =>
      intro i h1_18 h2_18
      exact False.elim (by omega)
    | succ n18 ih18 =>
      intro i h1_18 h2_18  H locs hP hD hS ls hl
      refine lv_iload hx hb dX1_start_18 (lv_at hl 0 rfl) ?_
      refine lv_bipush (v := nI 41) hx hb dX1_start_20 (by decide) ?_
      refine nv_icmp_ge (tgt := 55) hx hb dX1_start_22 (by decide) (by omega) (by omega) (fun q_22 => ?_) (fun q_22 => ?_)
      · have ei : i = 41 := by omega
        have eR : (zfF f0 (nI 0) i) = (zfF f0 (nI 0) 41) := by rw [ei]
        rw [eR] at hP hD
        have hP : va_P D vwCl (wRp h a cI nr nb ns (zfF f0 (nI 0) 41) (zfF f1 (nI 0) i) (zfF f2 (nI 0) i) f3) H := hP
        have hD : va_D A (wRp h a cI nr nb ns (zfF f0 (nI 0) 41) (zfF f1 (nI 0) i) (zfF f2 (nI 0) i) f3) := hD
        have eR : (zfF f1 (nI 0) i) = (zfF f1 (nI 0) 41) := by rw [ei]
        rw [eR] at hP hD
        have hP : va_P D vwCl (wRp h a cI nr nb ns (zfF f0 (nI 0) 41) (zfF f1 (nI 0) 41) (zfF f2 (nI 0) i) f3) H := hP
        have hD : va_D A (wRp h a cI nr nb ns (zfF f0 (nI 0) 41) (zfF f1 (nI 0) 41) (zfF f2 (nI 0) i) f3) := hD
        have eR : (zfF f2 (nI 0) i) = (zfF f2 (nI 0) 41) := by rw [ei]
        rw [eR] at hP hD
        have hP : va_P D vwCl (wRp h a cI nr nb ns (zfF f0 (nI 0) 41) (zfF f1 (nI 0) 41) (zfF f2 (nI 0) 41) f3) H := hP
        have hD : va_D A (wRp h a cI nr nb ns (zfF f0 (nI 0) 41) (zfF f1 (nI 0) 41) (zfF f2 (nI 0) 41) f3) := hD
        have hP : va_P D vwCl (wRp h a cI nr nb ns (nF (fun _ => 0)) (zfF f1 (nI 0) 41) (zfF f2 (nI 0) 41) f3) H := va_P_cell 1 rfl rfl (fun j hj => by unfold zfF; rw [if_pos hj]; rfl) hP
        have hD : va_D A (wRp h a cI nr nb ns (nF (fun _ => 0)) (zfF f1 (nI 0) 41) (zfF f2 (nI 0) 41) f3) := va_D_cell 1 (f := zfF f0 (nI 0) 41) rfl rfl hD
        have hP : va_P D vwCl (wRp h a cI nr nb ns (nF (fun _ => 0)) (nF (fun _ => 0)) (zfF f2 (nI 0) 41) f3) H := va_P_cell 2 rfl rfl (fun j hj => by unfold zfF; rw [if_pos hj]; rfl) hP
        have hD : va_D A (wRp h a cI nr nb ns (nF (fun _ => 0)) (nF (fun _ => 0)) (zfF f2 (nI 0) 41) f3) := va_D_cell 2 (f := zfF f1 (nI 0) 41) rfl rfl hD
        have hP : va_P D vwCl (wRp h a cI nr nb ns (nF (fun _ => 0)) (nF (fun _ => 0)) (nF (fun _ => 0)) f3) H := va_P_cell 3 rfl rfl (fun j hj => by unfold zfF; rw [if_pos hj]; rfl) hP
        have hD : va_D A (wRp h a cI nr nb ns (nF (fun _ => 0)) (nF (fun _ => 0)) (nF (fun _ => 0)) f3) := va_D_cell 3 (f := zfF f2 (nI 0) 41) rfl rfl hD
        refine lv_iconst (v := nI 0) hx hb dX1_start_55 (by decide) ?_
        refine lv_istore (lv' := [(4, .int (nI 0)), (0, .ref h), (1, .int (nI nr)), (2, .int (nI nb)), (3, .int (nI ns))]) hx hb dX1_start_56 hl (by decide) rfl (fun ls hl => ?_)
        have L58 : ∀ (n58 i : Nat), 48 + 1 ≤ i + n58 → i ≤ 48 → ∀ (H : Heap) (locs : List Loc), va_P D vwCl (wRp h a cI nr nb ns (nF (fun _ => 0)) (nF (fun _ => 0)) (nF (fun _ => 0)) (zfF f3 (-1) i)) H → va_D A (wRp h a cI nr nb ns (nF (fun _ => 0)) (nF (fun _ => 0)) (nF (fun _ => 0)) (zfF f3 (-1) i)) → va_S A s.heap H locs → ∀ (ls : Array Slot), lv_has ls 5 [(4, .int (nI i)), (0, .ref h), (1, .int (nI nr)), (2, .int (nI nb)), (3, .int (nI ns))] → W p l e (rmK 2 48) s m args below meth c H locs 0 0 (MQ below (QcM D none (wRp h a cI nr nb ns (nF (swG nr nb ns (nr * ns))) (nF (fun _ => 0)) (nF (fun _ => 0)) ((fun _ => -1))) A) args s 0 0 A) (F0 m 58 ls []) := by
          intro n58
          induction n58 with
          | zero =>
            intro i h1_58 h2_58
            exact False.elim (by omega)
          | succ n58 ih58 =>
            intro i h1_58 h2_58  H locs hP hD hS ls hl
            refine lv_iload hx hb dX1_start_58 (lv_at hl 0 rfl) ?_
            refine lv_bipush (v := nI 48) hx hb dX1_start_60 (by decide) ?_
            refine nv_icmp_ge (tgt := 79) hx hb dX1_start_62 (by decide) (by omega) (by omega) (fun q_62 => ?_) (fun q_62 => ?_)
            · have ei : i = 48 := by omega
              have eR : (zfF f3 (-1) i) = (zfF f3 (-1) 48) := by rw [ei]
              rw [eR] at hP hD
              have hP : va_P D vwCl (wRp h a cI nr nb ns (nF (fun _ => 0)) (nF (fun _ => 0)) (nF (fun _ => 0)) (zfF f3 (-1) 48)) H := hP
              have hD : va_D A (wRp h a cI nr nb ns (nF (fun _ => 0)) (nF (fun _ => 0)) (nF (fun _ => 0)) (zfF f3 (-1) 48)) := hD
              have hP : va_P D vwCl (wRp h a cI nr nb ns (nF (fun _ => 0)) (nF (fun _ => 0)) (nF (fun _ => 0)) ((fun _ => -1))) H := va_P_cell 4 rfl rfl (fun j hj => by unfold zfF; rw [if_pos hj]) hP
              have hD : va_D A (wRp h a cI nr nb ns (nF (fun _ => 0)) (nF (fun _ => 0)) (nF (fun _ => 0)) ((fun _ => -1))) := va_D_cell 4 (f := zfF f3 (-1) 48) rfl rfl hD
              refine lv_iconst (v := nI 0) hx hb dX1_start_79 (by decide) ?_
              refine lv_istore (lv' := [(4, .int (nI 0)), (0, .ref h), (1, .int (nI nr)), (2, .int (nI nb)), (3, .int (nI ns))]) hx hb dX1_start_80 hl (by decide) rfl (fun ls hl => ?_)
              have L82 : ∀ (n82 i : Nat), nr + 1 ≤ i + n82 → i ≤ nr → ∀ (H : Heap) (locs : List Loc), va_P D vwCl (wRp h a cI nr nb ns (nF (scG i)) (nF (fun _ => 0)) (nF (fun _ => 0)) ((fun _ => -1))) H → va_D A (wRp h a cI nr nb ns (nF (scG i)) (nF (fun _ => 0)) (nF (fun _ => 0)) ((fun _ => -1))) → va_S A s.heap H locs → ∀ (ls : Array Slot), lv_has ls 5 [(4, .int (nI i)), (0, .ref h), (1, .int (nI nr)), (2, .int (nI nb)), (3, .int (nI ns))] → W p l e (rmK 2 48) s m args below meth c H locs 0 0 (MQ below (QcM D none (wRp h a cI nr nb ns (nF (swG nr nb ns (nr * ns))) (nF (fun _ => 0)) (nF (fun _ => 0)) ((fun _ => -1))) A) args s 0 0 A) (F0 m 82 ls []) := by
                intro n82
                induction n82 with
                | zero =>
                  intro i h1_82 h2_82
                  exact False.elim (by omega)
                | succ n82 ih82 =>
                  intro i h1_82 h2_82  H locs hP hD hS ls hl
                  refine lv_iload hx hb dX1_start_82 (lv_at hl 0 rfl) ?_
                  refine lv_aload_n hx hb dX1_start_84 rfl (lv_at hl 1 rfl) ?_
                  refine va_get (D := D) (ci := 1) (v := .int (nI nr)) (C := RX1) (T := TX1) (N := 7) hx hb hts inX1 hown hK hP 0 rfl rfl 0 (by decide) (hts _ fl_RX1_28) (fun _ h9 => h9) rfl dX1_start_85 ?_
                  refine nv_icmp_ge (tgt := 105) hx hb dX1_start_88 (by decide) (by omega) (by omega) (fun q_88 => ?_) (fun q_88 => ?_)
                  · have ei : i = nr := by omega
                    have eR : (nF (scG i)) = (nF (scG nr)) := by rw [ei]
                    rw [eR] at hP hD
                    have hP : va_P D vwCl (wRp h a cI nr nb ns (nF (scG nr)) (nF (fun _ => 0)) (nF (fun _ => 0)) ((fun _ => -1))) H := hP
                    have hD : va_D A (wRp h a cI nr nb ns (nF (scG nr)) (nF (fun _ => 0)) (nF (fun _ => 0)) ((fun _ => -1))) := hD
                    refine lv_iconst (v := nI 0) hx hb dX1_start_105 (by decide) ?_
                    refine lv_istore (lv' := [(4, .int (nI 0)), (0, .ref h), (1, .int (nI nr)), (2, .int (nI nb)), (3, .int (nI ns))]) hx hb dX1_start_106 hl (by decide) rfl (fun ls hl => ?_)
                    have L108 : ∀ (n108 i : Nat), nr * ns + 1 ≤ i + n108 → i ≤ nr * ns → ∀ (H : Heap) (locs : List Loc), va_P D vwCl (wRp h a cI nr nb ns (nF (swG nr nb ns i)) (nF (fun _ => 0)) (nF (fun _ => 0)) ((fun _ => -1))) H → va_D A (wRp h a cI nr nb ns (nF (swG nr nb ns i)) (nF (fun _ => 0)) (nF (fun _ => 0)) ((fun _ => -1))) → va_S A s.heap H locs → ∀ (ls : Array Slot), lv_has ls 5 [(4, .int (nI i)), (0, .ref h), (1, .int (nI nr)), (2, .int (nI nb)), (3, .int (nI ns))] → W p l e (rmK 2 48) s m args below meth c H locs 0 0 (MQ below (QcM D none (wRp h a cI nr nb ns (nF (swG nr nb ns (nr * ns))) (nF (fun _ => 0)) (nF (fun _ => 0)) ((fun _ => -1))) A) args s 0 0 A) (F0 m 108 ls []) := by
                      intro n108
                      induction n108 with
                      | zero =>
                        intro i h1_108 h2_108
                        exact False.elim (by omega)
                      | succ n108 ih108 =>
                        intro i h1_108 h2_108  H locs hP hD hS ls hl
                        refine lv_iload hx hb dX1_start_108 (lv_at hl 0 rfl) ?_
                        refine lv_aload_n hx hb dX1_start_110 rfl (lv_at hl 1 rfl) ?_
                        refine nv_callV [] [.int (nI i)] hx hb hml hown hts k_RX1_42 (c_X1_addresses l D cI cR h a nr nb ns (nF (swG nr nb ns i)) (nF (fun _ => 0)) (nF (fun _ => 0)) ((fun _ => -1)) ) ⟨rfl, rfl, Nat.le_of_ble_eq_true rfl, Nat.le_of_ble_eq_true rfl⟩ hP hK 1 rfl rfl rfl rfl hl rfl (Nat.le_of_ble_eq_true rfl) dX1_start_111 ⟨Nat.zero_le _, Nat.zero_le _⟩ ?_
                        refine nv_icmp_ge (tgt := 130) hx hb dX1_start_114 (by decide) (by omega) (by omega) (fun q_114 => ?_) (fun q_114 => ?_)
                        · have ei : i = nr * ns := by omega
                          have eR : (nF (swG nr nb ns i)) = (nF (swG nr nb ns (nr * ns))) := by rw [ei]
                          rw [eR] at hP hD
                          have hP : va_P D vwCl (wRp h a cI nr nb ns (nF (swG nr nb ns (nr * ns))) (nF (fun _ => 0)) (nF (fun _ => 0)) ((fun _ => -1))) H := hP
                          have hD : va_D A (wRp h a cI nr nb ns (nF (swG nr nb ns (nr * ns))) (nF (fun _ => 0)) (nF (fun _ => 0)) ((fun _ => -1))) := hD
                          exact mu_retv hx hb hr hlocks hP hD hS dX1_start_130
                        · refine lv_aload_n hx hb dX1_start_117 rfl (lv_at hl 1 rfl) ?_
                          refine lv_iload hx hb dX1_start_118 (lv_at hl 0 rfl) ?_
                          refine lv_iconst (v := nI 0) hx hb dX1_start_120 (by decide) ?_
                          refine mu_call (ws' := (wRp h a cI nr nb ns (nF (pwG ns nb ((swG nr nb ns i)) i 0 (nb + 1))) (nF (fun _ => 0)) (nF (fun _ => 0)) ((fun _ => -1)))) [0, 1, 2, 3, 4] [] [0, 1, 2, 3, 4] [.int (nI i), .int (nI 0)] [] hx hb hml hown hts k_RX1_46 (fun sz => c_X1_putWord l D cI cR h a nr nb ns ((swG nr nb ns i)) (nF (fun _ => 0)) (nF (fun _ => 0)) ((fun _ => -1)) i 0 (by omega) (by omega) (by omega) (by omega) (Nat.lt_of_lt_of_le (Nat.div_lt_of_lt_mul (by rw [Nat.mul_comm]; exact q_114)) (by omega)) (by omega) sz) ⟨rfl, rfl, Nat.le_of_ble_eq_true rfl, Nat.le_of_ble_eq_true rfl⟩ hP hD hS hA hK 1 rfl rfl rfl rfl rfl rfl rfl (by decide) rfl rfl rfl hl rfl (Nat.le_of_ble_eq_true rfl) dX1_start_121 ⟨Nat.zero_le _, Nat.zero_le _⟩ (fun H locs hP hD hS => ?_)
                          refine W.eq (g2 := F0 m 124 ls []) rfl ?_
                          have eR : (nF (pwG ns nb ((swG nr nb ns i)) i 0 (nb + 1))) = (nF (swG nr nb ns (i + 1))) := rfl
                          rw [eR] at hP hD
                          have hP : va_P D vwCl (wRp h a cI nr nb ns (nF (swG nr nb ns (i + 1))) (nF (fun _ => 0)) (nF (fun _ => 0)) ((fun _ => -1))) H := hP
                          have hD : va_D A (wRp h a cI nr nb ns (nF (swG nr nb ns (i + 1))) (nF (fun _ => 0)) (nF (fun _ => 0)) ((fun _ => -1))) := hD
                          refine nv_inc (k := 0) (lv' := [(4, .int (nI (i + 1))), (0, .ref h), (1, .int (nI nr)), (2, .int (nI nb)), (3, .int (nI ns))]) hx hb dX1_start_124 hl rfl (by decide) rfl (fun ls hl => ?_)
                          refine lv_goto (tgt := 108) hx hb dX1_start_127 (by decide) ?_
                          exact ih108 (i + 1) (by omega) (by omega)  _ _ hP hD hS ls (lv_sub hl [0, 1, 2, 3, 4] rfl)
                    have eR : (nF (scG nr)) = (nF (swG nr nb ns 0)) := rfl
                    rw [eR] at hP hD
                    have hP : va_P D vwCl (wRp h a cI nr nb ns (nF (swG nr nb ns 0)) (nF (fun _ => 0)) (nF (fun _ => 0)) ((fun _ => -1))) H := hP
                    have hD : va_D A (wRp h a cI nr nb ns (nF (swG nr nb ns 0)) (nF (fun _ => 0)) (nF (fun _ => 0)) ((fun _ => -1))) := hD
                    exact L108 (nr * ns + 1) 0 (by omega) (by omega)  _ _ hP hD hS ls (lv_sub hl [0, 1, 2, 3, 4] rfl)
                  · refine lv_aload_n hx hb dX1_start_91 rfl (lv_at hl 1 rfl) ?_
                    refine lv_iload hx hb dX1_start_92 (lv_at hl 0 rfl) ?_
                    refine lv_iload hx hb dX1_start_94 (lv_at hl 0 rfl) ?_
                    refine mu_call (ws' := (wRp h a cI nr nb ns (nF (pcG ((scG i)) i i 8)) (nF (fun _ => 0)) (nF (fun _ => 0)) ((fun _ => -1)))) [0, 1, 2, 3, 4] [] [0, 1, 2, 3, 4] [.int (nI i), .int (nI i)] [] hx hb hml hown hts k_RX1_38 (fun sz => c_X1_putCode l D cI cR h a nr nb ns ((scG i)) (nF (fun _ => 0)) (nF (fun _ => 0)) ((fun _ => -1)) i i (by omega) (by omega) sz) ⟨rfl, rfl, Nat.le_of_ble_eq_true rfl, Nat.le_of_ble_eq_true rfl⟩ hP hD hS hA hK 1 rfl rfl rfl rfl rfl rfl rfl (by decide) rfl rfl rfl hl rfl (Nat.le_of_ble_eq_true rfl) dX1_start_96 ⟨Nat.zero_le _, Nat.zero_le _⟩ (fun H locs hP hD hS => ?_)
                    refine W.eq (g2 := F0 m 99 ls []) rfl ?_
                    have eR : (nF (pcG ((scG i)) i i 8)) = (nF (scG (i + 1))) := rfl
                    rw [eR] at hP hD
                    have hP : va_P D vwCl (wRp h a cI nr nb ns (nF (scG (i + 1))) (nF (fun _ => 0)) (nF (fun _ => 0)) ((fun _ => -1))) H := hP
                    have hD : va_D A (wRp h a cI nr nb ns (nF (scG (i + 1))) (nF (fun _ => 0)) (nF (fun _ => 0)) ((fun _ => -1))) := hD
                    refine nv_inc (k := 0) (lv' := [(4, .int (nI (i + 1))), (0, .ref h), (1, .int (nI nr)), (2, .int (nI nb)), (3, .int (nI ns))]) hx hb dX1_start_99 hl rfl (by decide) rfl (fun ls hl => ?_)
                    refine lv_goto (tgt := 82) hx hb dX1_start_102 (by decide) ?_
                    exact ih82 (i + 1) (by omega) (by omega)  _ _ hP hD hS ls (lv_sub hl [0, 1, 2, 3, 4] rfl)
              have eR : (nF (fun _ => 0)) = (nF (scG 0)) := rfl
              rw [eR] at hP hD
              have hP : va_P D vwCl (wRp h a cI nr nb ns (nF (scG 0)) (nF (fun _ => 0)) (nF (fun _ => 0)) ((fun _ => -1))) H := hP
              have hD : va_D A (wRp h a cI nr nb ns (nF (scG 0)) (nF (fun _ => 0)) (nF (fun _ => 0)) ((fun _ => -1))) := hD
              exact L82 (nr + 1) 0 (by omega) (by omega)  _ _ hP hD hS ls (lv_sub hl [0, 1, 2, 3, 4] rfl)
            · refine lv_aload_n hx hb dX1_start_65 rfl (lv_at hl 1 rfl) ?_
              refine va_get (D := D) (ci := 1) (v := .ref (a 3)) (C := RX1) (T := TX1) (N := 7) hx hb hts inX1 hown hK hP 0 rfl rfl 6 (by decide) (hts _ fl_RX1_21) (fun _ h9 => h9) rfl dX1_start_66 ?_
              refine lv_iload hx hb dX1_start_69 (lv_at hl 0 rfl) ?_
              refine lv_iconst (v := -1) hx hb dX1_start_71 (by decide) ?_
              refine nv_iast (D := D) (ws' := (wRp h a cI nr nb ns (nF (fun _ => 0)) (nF (fun _ => 0)) (nF (fun _ => 0)) (upd (zfF f3 (-1) i) i (-1)))) hx hb hK hP hD hS 4 0 rfl rfl (k := i) (by omega) (by decide) rfl dX1_start_72 (fun H locs hP hD hS => ?_)
              have eR : (upd (zfF f3 (-1) i) i (-1)) = (zfF f3 (-1) (i + 1)) := zf_s _ _ _
              rw [eR] at hP hD
              have hP : va_P D vwCl (wRp h a cI nr nb ns (nF (fun _ => 0)) (nF (fun _ => 0)) (nF (fun _ => 0)) (zfF f3 (-1) (i + 1))) H := hP
              have hD : va_D A (wRp h a cI nr nb ns (nF (fun _ => 0)) (nF (fun _ => 0)) (nF (fun _ => 0)) (zfF f3 (-1) (i + 1))) := hD
              refine nv_inc (k := 0) (lv' := [(4, .int (nI (i + 1))), (0, .ref h), (1, .int (nI nr)), (2, .int (nI nb)), (3, .int (nI ns))]) hx hb dX1_start_73 hl rfl (by decide) rfl (fun ls hl => ?_)
              refine lv_goto (tgt := 58) hx hb dX1_start_76 (by decide) ?_
              exact ih58 (i + 1) (by omega) (by omega)  _ _ hP hD hS ls (lv_sub hl [0, 1, 2, 3, 4] rfl)
        have eR : f3 = (zfF f3 (-1) 0) := zf_0 f3 _
        rw [eR] at hP hD
        have hP : va_P D vwCl (wRp h a cI nr nb ns (nF (fun _ => 0)) (nF (fun _ => 0)) (nF (fun _ => 0)) (zfF f3 (-1) 0)) H := hP
        have hD : va_D A (wRp h a cI nr nb ns (nF (fun _ => 0)) (nF (fun _ => 0)) (nF (fun _ => 0)) (zfF f3 (-1) 0)) := hD
        exact L58 49 0 (by omega) (by omega)  _ _ hP hD hS ls (lv_sub hl [0, 1, 2, 3, 4] rfl)
      · refine lv_aload_n hx hb dX1_start_25 rfl (lv_at hl 1 rfl) ?_
        refine va_get (D := D) (ci := 1) (v := .ref (a 0)) (C := RX1) (T := TX1) (N := 7) hx hb hts inX1 hown hK hP 0 rfl rfl 3 (by decide) (hts _ fl_RX1_9) (fun _ h9 => h9) rfl dX1_start_26 ?_
        refine lv_iload hx hb dX1_start_29 (lv_at hl 0 rfl) ?_
        refine lv_iconst (v := nI 0) hx hb dX1_start_31 (by decide) ?_
        refine nv_iast (D := D) (ws' := (wRp h a cI nr nb ns (upd (zfF f0 (nI 0) i) i (nI (0))) (zfF f1 (nI 0) i) (zfF f2 (nI 0) i) f3)) hx hb hK hP hD hS 1 0 rfl rfl (k := i) (by omega) (by decide) rfl dX1_start_32 (fun H locs hP hD hS => ?_)
        refine lv_aload_n hx hb dX1_start_33 rfl (lv_at hl 1 rfl) ?_
        refine va_get (D := D) (ci := 1) (v := .ref (a 1)) (C := RX1) (T := TX1) (N := 7) hx hb hts inX1 hown hK hP 0 rfl rfl 4 (by decide) (hts _ fl_RX1_15) (fun _ h9 => h9) rfl dX1_start_34 ?_
        refine lv_iload hx hb dX1_start_37 (lv_at hl 0 rfl) ?_
        refine lv_iconst (v := nI 0) hx hb dX1_start_39 (by decide) ?_
        refine nv_iast (D := D) (ws' := (wRp h a cI nr nb ns (upd (zfF f0 (nI 0) i) i (nI (0))) (upd (zfF f1 (nI 0) i) i (nI (0))) (zfF f2 (nI 0) i) f3)) hx hb hK hP hD hS 2 0 rfl rfl (k := i) (by omega) (by decide) rfl dX1_start_40 (fun H locs hP hD hS => ?_)
        refine lv_aload_n hx hb dX1_start_41 rfl (lv_at hl 1 rfl) ?_
        refine va_get (D := D) (ci := 1) (v := .ref (a 2)) (C := RX1) (T := TX1) (N := 7) hx hb hts inX1 hown hK hP 0 rfl rfl 5 (by decide) (hts _ fl_RX1_18) (fun _ h9 => h9) rfl dX1_start_42 ?_
        refine lv_iload hx hb dX1_start_45 (lv_at hl 0 rfl) ?_
        refine lv_iconst (v := nI 0) hx hb dX1_start_47 (by decide) ?_
        refine nv_iast (D := D) (ws' := (wRp h a cI nr nb ns (upd (zfF f0 (nI 0) i) i (nI (0))) (upd (zfF f1 (nI 0) i) i (nI (0))) (upd (zfF f2 (nI 0) i) i (nI (0))) f3)) hx hb hK hP hD hS 3 0 rfl rfl (k := i) (by omega) (by decide) rfl dX1_start_48 (fun H locs hP hD hS => ?_)
        have eR : (upd (zfF f0 (nI 0) i) i (nI (0))) = (zfF f0 (nI 0) (i + 1)) := zf_s _ _ _
        rw [eR] at hP hD
        have hP : va_P D vwCl (wRp h a cI nr nb ns (zfF f0 (nI 0) (i + 1)) (upd (zfF f1 (nI 0) i) i (nI (0))) (upd (zfF f2 (nI 0) i) i (nI (0))) f3) H := hP
        have hD : va_D A (wRp h a cI nr nb ns (zfF f0 (nI 0) (i + 1)) (upd (zfF f1 (nI 0) i) i (nI (0))) (upd (zfF f2 (nI 0) i) i (nI (0))) f3) := hD
        have eR : (upd (zfF f1 (nI 0) i) i (nI (0))) = (zfF f1 (nI 0) (i + 1)) := zf_s _ _ _
        rw [eR] at hP hD
        have hP : va_P D vwCl (wRp h a cI nr nb ns (zfF f0 (nI 0) (i + 1)) (zfF f1 (nI 0) (i + 1)) (upd (zfF f2 (nI 0) i) i (nI (0))) f3) H := hP
        have hD : va_D A (wRp h a cI nr nb ns (zfF f0 (nI 0) (i + 1)) (zfF f1 (nI 0) (i + 1)) (upd (zfF f2 (nI 0) i) i (nI (0))) f3) := hD
        have eR : (upd (zfF f2 (nI 0) i) i (nI (0))) = (zfF f2 (nI 0) (i + 1)) := zf_s _ _ _
        rw [eR] at hP hD
        have hP : va_P D vwCl (wRp h a cI nr nb ns (zfF f0 (nI 0) (i + 1)) (zfF f1 (nI 0) (i + 1)) (zfF f2 (nI 0) (i + 1)) f3) H := hP
        have hD : va_D A (wRp h a cI nr nb ns (zfF f0 (nI 0) (i + 1)) (zfF f1 (nI 0) (i + 1)) (zfF f2 (nI 0) (i + 1)) f3) := hD
        refine nv_inc (k := 0) (lv' := [(4, .int (nI (i + 1))), (0, .ref h), (1, .int (nI nr)), (2, .int (nI nb)), (3, .int (nI ns))]) hx hb dX1_start_49 hl rfl (by decide) rfl (fun ls hl => ?_)
        refine lv_goto (tgt := 18) hx hb dX1_start_52 (by decide) ?_
        exact ih18 (i + 1) (by omega) (by omega)  _ _ hP hD hS ls (lv_sub hl [0, 1, 2, 3, 4] rfl)
  have eR : f0 = (zfF f0 (nI 0) 0) := zf_0 f0 _
  rw [eR] at hP hD
  have hP : va_P D vwCl (wRp h a cI nr nb ns (zfF f0 (nI 0) 0) f1 f2 f3) H := hP
  have hD : va_D A (wRp h a cI nr nb ns (zfF f0 (nI 0) 0) f1 f2 f3) := hD
  have eR : f1 = (zfF f1 (nI 0) 0) := zf_0 f1 _
  rw [eR] at hP hD
  have hP : va_P D vwCl (wRp h a cI nr nb ns (zfF f0 (nI 0) 0) (zfF f1 (nI 0) 0) f2 f3) H := hP
  have hD : va_D A (wRp h a cI nr nb ns (zfF f0 (nI 0) 0) (zfF f1 (nI 0) 0) f2 f3) := hD
  have eR : f2 = (zfF f2 (nI 0) 0) := zf_0 f2 _
  rw [eR] at hP hD
  have hP : va_P D vwCl (wRp h a cI nr nb ns (zfF f0 (nI 0) 0) (zfF f1 (nI 0) 0) (zfF f2 (nI 0) 0) f3) H := hP
  have hD : va_D A (wRp h a cI nr nb ns (zfF f0 (nI 0) 0) (zfF f1 (nI 0) 0) (zfF f2 (nI 0) 0) f3) := hD
  exact L18 42 0 (by omega) (by omega)  _ _ hP hD hS ls (lv_sub hl [0, 1, 2, 3, 4] rfl)
set_option maxHeartbeats 4000000 in
set_option maxRecDepth 100000 in
theorem c_X1_become (l : Launch) (D : va_G) (cI cR : ClassId) (h : Nat) (a : Nat → Nat) (R : Nat) (B : Nat) (S : Nat) (f0 : Nat → Int32) (f1 : Nat → Int32) (f2 : Nat → Int32) (f3 : Nat → Int32) (h2 : Nat) (a2 : Nat → Nat) (R2 : Nat) (B2 : Nat) (S2 : Nat) (k0 : Nat → Int32) (k1 : Nat → Int32) (k2 : Nat → Int32) (k3 : Nat → Int32)    (sz : Nat) : Met l yX1_become (wsC yX1_become cX1_become 2 none) (rmK 1 40) (nPreM D (nTy cI cR) [.ref h, .ref h2] ((wRp h a cI R B S f0 f1 f2 f3) ++ (wRp h2 a2 cI R2 B2 S2 k0 k1 k2 k3)) sz) (QcM D none ((wRp h a cI R2 B2 S2 k0 k1 k2 k3) ++ (wRp h2 a2 cI R2 B2 S2 k0 k1 k2 k3)) (va_A ((wRp h a cI R B S f0 f1 f2 f3) ++ (wRp h2 a2 cI R2 B2 S2 k0 k1 k2 k3)) sz)) 0 0 (va_A ((wRp h a cI R B S f0 f1 f2 f3) ++ (wRp h2 a2 cI R2 B2 S2 k0 k1 k2 k3)) sz) := by
  refine met_mut (Qc := fun A => QcM D none ((wRp h a cI R2 B2 S2 k0 k1 k2 k3) ++ (wRp h2 a2 cI R2 B2 S2 k0 k1 k2 k3)) A) rfl (Nat.le_of_ble_eq_true rfl) ?_
  intro p e s m args below meth c ls A H locs hx hb hml hr hlocks hown hts hP hK hD hA hS hl
  have hl : lv_has ls 2 [(0, .ref h), (1, .ref h2)] := hl
  refine lv_aload_n hx hb dX1_become_0 rfl (lv_at hl 0 rfl) ?_
  refine lv_aload_n hx hb dX1_become_1 rfl (lv_at hl 1 rfl) ?_
  refine va_get (D := D) (ci := 1) (v := .int (nI R2)) (C := RX1) (T := TX1) (N := 7) hx hb hts inX1 hown hK hP 5 rfl rfl 0 (by decide) (hts _ fl_RX1_28) (fun _ h9 => h9) rfl dX1_become_2 ?_
  refine va_put (D := D) (ci := 1) (v := .int (nI R2)) (ty := .int) (C := RX1) (T := TX1) (N := 7) hx hb hts inX1 tyX1 tyX1_ok nmX1 hown hK hP hD hS 0 rfl rfl 0 (by decide) (hts _ fl_RX1_28) (fun _ h9 => h9) rfl (by decide +kernel) rfl rfl (Nat.le_of_ble_eq_true rfl) dX1_become_5 (fun H locs hP hD hS => ?_)
  have hP : va_P D vwCl ((wRp h a cI R2 B S f0 f1 f2 f3) ++ (wRp h2 a2 cI R2 B2 S2 k0 k1 k2 k3)) H := hP
  have hD : va_D A ((wRp h a cI R2 B S f0 f1 f2 f3) ++ (wRp h2 a2 cI R2 B2 S2 k0 k1 k2 k3)) := hD
  refine lv_aload_n hx hb dX1_become_8 rfl (lv_at hl 0 rfl) ?_
  refine lv_aload_n hx hb dX1_become_9 rfl (lv_at hl 1 rfl) ?_
  refine va_get (D := D) (ci := 1) (v := .int (nI B2)) (C := RX1) (T := TX1) (N := 7) hx hb hts inX1 hown hK hP 5 rfl rfl 1 (by decide) (hts _ fl_RX1_32) (fun _ h9 => h9) rfl dX1_become_10 ?_
  refine va_put (D := D) (ci := 1) (v := .int (nI B2)) (ty := .int) (C := RX1) (T := TX1) (N := 7) hx hb hts inX1 tyX1 tyX1_ok nmX1 hown hK hP hD hS 0 rfl rfl 1 (by decide) (hts _ fl_RX1_32) (fun _ h9 => h9) rfl (by decide +kernel) rfl rfl (Nat.le_of_ble_eq_true rfl) dX1_become_13 (fun H locs hP hD hS => ?_)
  have hP : va_P D vwCl ((wRp h a cI R2 B2 S f0 f1 f2 f3) ++ (wRp h2 a2 cI R2 B2 S2 k0 k1 k2 k3)) H := hP
  have hD : va_D A ((wRp h a cI R2 B2 S f0 f1 f2 f3) ++ (wRp h2 a2 cI R2 B2 S2 k0 k1 k2 k3)) := hD
  refine lv_aload_n hx hb dX1_become_16 rfl (lv_at hl 0 rfl) ?_
  refine lv_aload_n hx hb dX1_become_17 rfl (lv_at hl 1 rfl) ?_
  refine va_get (D := D) (ci := 1) (v := .int (nI S2)) (C := RX1) (T := TX1) (N := 7) hx hb hts inX1 hown hK hP 5 rfl rfl 2 (by decide) (hts _ fl_RX1_35) (fun _ h9 => h9) rfl dX1_become_18 ?_
  refine va_put (D := D) (ci := 1) (v := .int (nI S2)) (ty := .int) (C := RX1) (T := TX1) (N := 7) hx hb hts inX1 tyX1 tyX1_ok nmX1 hown hK hP hD hS 0 rfl rfl 2 (by decide) (hts _ fl_RX1_35) (fun _ h9 => h9) rfl (by decide +kernel) rfl rfl (Nat.le_of_ble_eq_true rfl) dX1_become_21 (fun H locs hP hD hS => ?_)
  have hP : va_P D vwCl ((wRp h a cI R2 B2 S2 f0 f1 f2 f3) ++ (wRp h2 a2 cI R2 B2 S2 k0 k1 k2 k3)) H := hP
  have hD : va_D A ((wRp h a cI R2 B2 S2 f0 f1 f2 f3) ++ (wRp h2 a2 cI R2 B2 S2 k0 k1 k2 k3)) := hD
  refine lv_aload_n hx hb dX1_become_24 rfl (lv_at hl 1 rfl) ?_
  refine va_get (D := D) (ci := 1) (v := .ref (a2 0)) (C := RX1) (T := TX1) (N := 7) hx hb hts inX1 hown hK hP 5 rfl rfl 3 (by decide) (hts _ fl_RX1_9) (fun _ h9 => h9) rfl dX1_become_25 ?_
  refine lv_iconst (v := nI 0) hx hb dX1_become_28 (by decide) ?_
  refine lv_aload_n hx hb dX1_become_29 rfl (lv_at hl 0 rfl) ?_
  refine va_get (D := D) (ci := 1) (v := .ref (a 0)) (C := RX1) (T := TX1) (N := 7) hx hb hts inX1 hown hK hP 0 rfl rfl 3 (by decide) (hts _ fl_RX1_9) (fun _ h9 => h9) rfl dX1_become_30 ?_
  refine lv_iconst (v := nI 0) hx hb dX1_become_33 (by decide) ?_
  refine lv_bipush (v := nI 41) hx hb dX1_become_34 (by decide) ?_
  refine va_copyi hx hb (hml.trans hl.1.symm) hown (hts _ ml_RX1_49) (hts _ ac_native) (hts _ ac_static) (hts _ iz_RJ10) hK hP hD hS 6 1 0 0 rfl rfl rfl rfl rfl (by decide) (by decide) (by decide) (by decide) (by decide) (fun _ _ => rfl) (Nat.le_of_ble_eq_true rfl) (Nat.le_of_ble_eq_true rfl) dX1_become_36 (fun H locs hP hD hS => ?_)
  have hP : va_P D vwCl ((wRp h a cI R2 B2 S2 (va_cpy k0 f0 (nI (0)).toNatClampNeg (nI (0)).toNatClampNeg (nI (41)).toNatClampNeg) f1 f2 f3) ++ (wRp h2 a2 cI R2 B2 S2 k0 k1 k2 k3)) H := hP
  have hD : va_D A ((wRp h a cI R2 B2 S2 (va_cpy k0 f0 (nI (0)).toNatClampNeg (nI (0)).toNatClampNeg (nI (41)).toNatClampNeg) f1 f2 f3) ++ (wRp h2 a2 cI R2 B2 S2 k0 k1 k2 k3)) := hD
  refine lv_aload_n hx hb dX1_become_39 rfl (lv_at hl 1 rfl) ?_
  refine va_get (D := D) (ci := 1) (v := .ref (a2 1)) (C := RX1) (T := TX1) (N := 7) hx hb hts inX1 hown hK hP 5 rfl rfl 4 (by decide) (hts _ fl_RX1_15) (fun _ h9 => h9) rfl dX1_become_40 ?_
  refine lv_iconst (v := nI 0) hx hb dX1_become_43 (by decide) ?_
  refine lv_aload_n hx hb dX1_become_44 rfl (lv_at hl 0 rfl) ?_
  refine va_get (D := D) (ci := 1) (v := .ref (a 1)) (C := RX1) (T := TX1) (N := 7) hx hb hts inX1 hown hK hP 0 rfl rfl 4 (by decide) (hts _ fl_RX1_15) (fun _ h9 => h9) rfl dX1_become_45 ?_
  refine lv_iconst (v := nI 0) hx hb dX1_become_48 (by decide) ?_
  refine lv_bipush (v := nI 41) hx hb dX1_become_49 (by decide) ?_
  refine va_copyi hx hb (hml.trans hl.1.symm) hown (hts _ ml_RX1_49) (hts _ ac_native) (hts _ ac_static) (hts _ iz_RJ10) hK hP hD hS 7 2 0 0 rfl rfl rfl rfl rfl (by decide) (by decide) (by decide) (by decide) (by decide) (fun _ _ => rfl) (Nat.le_of_ble_eq_true rfl) (Nat.le_of_ble_eq_true rfl) dX1_become_51 (fun H locs hP hD hS => ?_)
  have hP : va_P D vwCl ((wRp h a cI R2 B2 S2 (va_cpy k0 f0 (nI (0)).toNatClampNeg (nI (0)).toNatClampNeg (nI (41)).toNatClampNeg) (va_cpy k1 f1 (nI (0)).toNatClampNeg (nI (0)).toNatClampNeg (nI (41)).toNatClampNeg) f2 f3) ++ (wRp h2 a2 cI R2 B2 S2 k0 k1 k2 k3)) H := hP
  have hD : va_D A ((wRp h a cI R2 B2 S2 (va_cpy k0 f0 (nI (0)).toNatClampNeg (nI (0)).toNatClampNeg (nI (41)).toNatClampNeg) (va_cpy k1 f1 (nI (0)).toNatClampNeg (nI (0)).toNatClampNeg (nI (41)).toNatClampNeg) f2 f3) ++ (wRp h2 a2 cI R2 B2 S2 k0 k1 k2 k3)) := hD
  refine lv_aload_n hx hb dX1_become_54 rfl (lv_at hl 1 rfl) ?_
  refine va_get (D := D) (ci := 1) (v := .ref (a2 2)) (C := RX1) (T := TX1) (N := 7) hx hb hts inX1 hown hK hP 5 rfl rfl 5 (by decide) (hts _ fl_RX1_18) (fun _ h9 => h9) rfl dX1_become_55 ?_
  refine lv_iconst (v := nI 0) hx hb dX1_become_58 (by decide) ?_
  refine lv_aload_n hx hb dX1_become_59 rfl (lv_at hl 0 rfl) ?_
  refine va_get (D := D) (ci := 1) (v := .ref (a 2)) (C := RX1) (T := TX1) (N := 7) hx hb hts inX1 hown hK hP 0 rfl rfl 5 (by decide) (hts _ fl_RX1_18) (fun _ h9 => h9) rfl dX1_become_60 ?_
  refine lv_iconst (v := nI 0) hx hb dX1_become_63 (by decide) ?_
  refine lv_bipush (v := nI 41) hx hb dX1_become_64 (by decide) ?_
  refine va_copyi hx hb (hml.trans hl.1.symm) hown (hts _ ml_RX1_49) (hts _ ac_native) (hts _ ac_static) (hts _ iz_RJ10) hK hP hD hS 8 3 0 0 rfl rfl rfl rfl rfl (by decide) (by decide) (by decide) (by decide) (by decide) (fun _ _ => rfl) (Nat.le_of_ble_eq_true rfl) (Nat.le_of_ble_eq_true rfl) dX1_become_66 (fun H locs hP hD hS => ?_)
  have hP : va_P D vwCl ((wRp h a cI R2 B2 S2 (va_cpy k0 f0 (nI (0)).toNatClampNeg (nI (0)).toNatClampNeg (nI (41)).toNatClampNeg) (va_cpy k1 f1 (nI (0)).toNatClampNeg (nI (0)).toNatClampNeg (nI (41)).toNatClampNeg) (va_cpy k2 f2 (nI (0)).toNatClampNeg (nI (0)).toNatClampNeg (nI (41)).toNatClampNeg) f3) ++ (wRp h2 a2 cI R2 B2 S2 k0 k1 k2 k3)) H := hP
  have hD : va_D A ((wRp h a cI R2 B2 S2 (va_cpy k0 f0 (nI (0)).toNatClampNeg (nI (0)).toNatClampNeg (nI (41)).toNatClampNeg) (va_cpy k1 f1 (nI (0)).toNatClampNeg (nI (0)).toNatClampNeg (nI (41)).toNatClampNeg) (va_cpy k2 f2 (nI (0)).toNatClampNeg (nI (0)).toNatClampNeg (nI (41)).toNatClampNeg) f3) ++ (wRp h2 a2 cI R2 B2 S2 k0 k1 k2 k3)) := hD
  refine lv_aload_n hx hb dX1_become_69 rfl (lv_at hl 1 rfl) ?_
  refine va_get (D := D) (ci := 1) (v := .ref (a2 3)) (C := RX1) (T := TX1) (N := 7) hx hb hts inX1 hown hK hP 5 rfl rfl 6 (by decide) (hts _ fl_RX1_21) (fun _ h9 => h9) rfl dX1_become_70 ?_
  refine lv_iconst (v := nI 0) hx hb dX1_become_73 (by decide) ?_
  refine lv_aload_n hx hb dX1_become_74 rfl (lv_at hl 0 rfl) ?_
  refine va_get (D := D) (ci := 1) (v := .ref (a 3)) (C := RX1) (T := TX1) (N := 7) hx hb hts inX1 hown hK hP 0 rfl rfl 6 (by decide) (hts _ fl_RX1_21) (fun _ h9 => h9) rfl dX1_become_75 ?_
  refine lv_iconst (v := nI 0) hx hb dX1_become_78 (by decide) ?_
  refine lv_bipush (v := nI 48) hx hb dX1_become_79 (by decide) ?_
  refine va_copyi hx hb (hml.trans hl.1.symm) hown (hts _ ml_RX1_49) (hts _ ac_native) (hts _ ac_static) (hts _ iz_RJ10) hK hP hD hS 9 4 0 0 rfl rfl rfl rfl rfl (by decide) (by decide) (by decide) (by decide) (by decide) (fun _ _ => rfl) (Nat.le_of_ble_eq_true rfl) (Nat.le_of_ble_eq_true rfl) dX1_become_81 (fun H locs hP hD hS => ?_)
  have hP : va_P D vwCl ((wRp h a cI R2 B2 S2 (va_cpy k0 f0 (nI (0)).toNatClampNeg (nI (0)).toNatClampNeg (nI (41)).toNatClampNeg) (va_cpy k1 f1 (nI (0)).toNatClampNeg (nI (0)).toNatClampNeg (nI (41)).toNatClampNeg) (va_cpy k2 f2 (nI (0)).toNatClampNeg (nI (0)).toNatClampNeg (nI (41)).toNatClampNeg) (va_cpy k3 f3 (nI (0)).toNatClampNeg (nI (0)).toNatClampNeg (nI (48)).toNatClampNeg)) ++ (wRp h2 a2 cI R2 B2 S2 k0 k1 k2 k3)) H := hP
  have hD : va_D A ((wRp h a cI R2 B2 S2 (va_cpy k0 f0 (nI (0)).toNatClampNeg (nI (0)).toNatClampNeg (nI (41)).toNatClampNeg) (va_cpy k1 f1 (nI (0)).toNatClampNeg (nI (0)).toNatClampNeg (nI (41)).toNatClampNeg) (va_cpy k2 f2 (nI (0)).toNatClampNeg (nI (0)).toNatClampNeg (nI (41)).toNatClampNeg) (va_cpy k3 f3 (nI (0)).toNatClampNeg (nI (0)).toNatClampNeg (nI (48)).toNatClampNeg)) ++ (wRp h2 a2 cI R2 B2 S2 k0 k1 k2 k3)) := hD
  have hP : va_P D vwCl ((wRp h a cI R2 B2 S2 k0 (va_cpy k1 f1 (nI (0)).toNatClampNeg (nI (0)).toNatClampNeg (nI (41)).toNatClampNeg) (va_cpy k2 f2 (nI (0)).toNatClampNeg (nI (0)).toNatClampNeg (nI (41)).toNatClampNeg) (va_cpy k3 f3 (nI (0)).toNatClampNeg (nI (0)).toNatClampNeg (nI (48)).toNatClampNeg)) ++ (wRp h2 a2 cI R2 B2 S2 k0 k1 k2 k3)) H := va_P_cell 1 rfl rfl (fun j hj => cpy_all (by decide) (by decide) (by decide) hj) hP
  have hD : va_D A ((wRp h a cI R2 B2 S2 k0 (va_cpy k1 f1 (nI (0)).toNatClampNeg (nI (0)).toNatClampNeg (nI (41)).toNatClampNeg) (va_cpy k2 f2 (nI (0)).toNatClampNeg (nI (0)).toNatClampNeg (nI (41)).toNatClampNeg) (va_cpy k3 f3 (nI (0)).toNatClampNeg (nI (0)).toNatClampNeg (nI (48)).toNatClampNeg)) ++ (wRp h2 a2 cI R2 B2 S2 k0 k1 k2 k3)) := va_D_cell 1 (f := va_cpy k0 f0 (nI (0)).toNatClampNeg (nI (0)).toNatClampNeg (nI (41)).toNatClampNeg) rfl rfl hD
  have hP : va_P D vwCl ((wRp h a cI R2 B2 S2 k0 k1 (va_cpy k2 f2 (nI (0)).toNatClampNeg (nI (0)).toNatClampNeg (nI (41)).toNatClampNeg) (va_cpy k3 f3 (nI (0)).toNatClampNeg (nI (0)).toNatClampNeg (nI (48)).toNatClampNeg)) ++ (wRp h2 a2 cI R2 B2 S2 k0 k1 k2 k3)) H := va_P_cell 2 rfl rfl (fun j hj => cpy_all (by decide) (by decide) (by decide) hj) hP
  have hD : va_D A ((wRp h a cI R2 B2 S2 k0 k1 (va_cpy k2 f2 (nI (0)).toNatClampNeg (nI (0)).toNatClampNeg (nI (41)).toNatClampNeg) (va_cpy k3 f3 (nI (0)).toNatClampNeg (nI (0)).toNatClampNeg (nI (48)).toNatClampNeg)) ++ (wRp h2 a2 cI R2 B2 S2 k0 k1 k2 k3)) := va_D_cell 2 (f := va_cpy k1 f1 (nI (0)).toNatClampNeg (nI (0)).toNatClampNeg (nI (41)).toNatClampNeg) rfl rfl hD
  have hP : va_P D vwCl ((wRp h a cI R2 B2 S2 k0 k1 k2 (va_cpy k3 f3 (nI (0)).toNatClampNeg (nI (0)).toNatClampNeg (nI (48)).toNatClampNeg)) ++ (wRp h2 a2 cI R2 B2 S2 k0 k1 k2 k3)) H := va_P_cell 3 rfl rfl (fun j hj => cpy_all (by decide) (by decide) (by decide) hj) hP
  have hD : va_D A ((wRp h a cI R2 B2 S2 k0 k1 k2 (va_cpy k3 f3 (nI (0)).toNatClampNeg (nI (0)).toNatClampNeg (nI (48)).toNatClampNeg)) ++ (wRp h2 a2 cI R2 B2 S2 k0 k1 k2 k3)) := va_D_cell 3 (f := va_cpy k2 f2 (nI (0)).toNatClampNeg (nI (0)).toNatClampNeg (nI (41)).toNatClampNeg) rfl rfl hD
  have hP : va_P D vwCl ((wRp h a cI R2 B2 S2 k0 k1 k2 k3) ++ (wRp h2 a2 cI R2 B2 S2 k0 k1 k2 k3)) H := va_P_cell 4 rfl rfl (fun j hj => cpy_all (by decide) (by decide) (by decide) hj) hP
  have hD : va_D A ((wRp h a cI R2 B2 S2 k0 k1 k2 k3) ++ (wRp h2 a2 cI R2 B2 S2 k0 k1 k2 k3)) := va_D_cell 4 (f := va_cpy k3 f3 (nI (0)).toNatClampNeg (nI (0)).toNatClampNeg (nI (48)).toNatClampNeg) rfl rfl hD
  exact mu_retv hx hb hr hlocks hP hD hS dX1_become_84
