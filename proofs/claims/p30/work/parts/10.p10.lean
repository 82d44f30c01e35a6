set_option maxHeartbeats 4000000 in
set_option maxRecDepth 100000 in
theorem c_X1_addresses (l : Launch) (D : va_G) (cI cR : ClassId) (h : Nat) (a : Nat → Nat) (R : Nat) (B : Nat) (S : Nat) (f0 : Nat → Int32) (f1 : Nat → Int32) (f2 : Nat → Int32) (f3 : Nat → Int32)    : MetR l yX1_addresses cX1_addresses 1 (some .int) (rmK 0 0) (nPre D (nTy cI cR) [.ref h] (wRp h a cI R B S f0 f1 f2 f3)) (nI (R * S)) := by
  refine met_read rfl (Nat.le_of_ble_eq_true rfl) ?_
  intro p e s m args below meth c ls hx hb hml hr hlocks hown hts hP hK hl
  have hl : lv_has ls 1 [(0, .ref h)] := hl
  refine lv_aload_n hx hb dX1_addresses_0 rfl (lv_at hl 0 rfl) ?_
  refine va_get (D := D) (ci := 1) (v := .int (nI R)) (C := RX1) (T := TX1) (N := 7) hx hb hts inX1 hown hK hP 0 rfl rfl 0 (by decide) (hts _ fl_RX1_28) (fun _ h9 => h9) rfl dX1_addresses_1 ?_
  refine lv_aload_n hx hb dX1_addresses_4 rfl (lv_at hl 0 rfl) ?_
  refine va_get (D := D) (ci := 1) (v := .int (nI S)) (C := RX1) (T := TX1) (N := 7) hx hb hts inX1 hown hK hP 0 rfl rfl 2 (by decide) (hts _ fl_RX1_35) (fun _ h9 => h9) rfl dX1_addresses_5 ?_
  refine nv_imul hx hb dX1_addresses_8 ?_
  exact nv_ret hx hb hr hlocks (rfl) dX1_addresses_9
set_option maxHeartbeats 4000000 in
set_option maxRecDepth 100000 in
theorem c_X1_wires (l : Launch) (D : va_G) (cI cR : ClassId) (h : Nat) (a : Nat → Nat) (R : Nat) (B : Nat) (S : Nat) (f0 : Nat → Int32) (f1 : Nat → Int32) (f2 : Nat → Int32) (f3 : Nat → Int32)    : MetR l yX1_wires cX1_wires 1 (some .int) (rmK 0 0) (nPre D (nTy cI cR) [.ref h] (wRp h a cI R B S f0 f1 f2 f3)) (nI (8 + S * (B + 1))) := by
  refine met_read rfl (Nat.le_of_ble_eq_true rfl) ?_
  intro p e s m args below meth c ls hx hb hml hr hlocks hown hts hP hK hl
  have hl : lv_has ls 1 [(0, .ref h)] := hl
  refine lv_bipush (v := nI 8) hx hb dX1_wires_0 (by decide) ?_
  refine lv_aload_n hx hb dX1_wires_2 rfl (lv_at hl 0 rfl) ?_
  refine va_get (D := D) (ci := 1) (v := .int (nI S)) (C := RX1) (T := TX1) (N := 7) hx hb hts inX1 hown hK hP 0 rfl rfl 2 (by decide) (hts _ fl_RX1_35) (fun _ h9 => h9) rfl dX1_wires_3 ?_
  refine lv_aload_n hx hb dX1_wires_6 rfl (lv_at hl 0 rfl) ?_
  refine va_get (D := D) (ci := 1) (v := .int (nI B)) (C := RX1) (T := TX1) (N := 7) hx hb hts inX1 hown hK hP 0 rfl rfl 1 (by decide) (hts _ fl_RX1_32) (fun _ h9 => h9) rfl dX1_wires_7 ?_
  refine lv_iconst (v := nI 1) hx hb dX1_wires_10 (by decide) ?_
  refine nv_iadd hx hb dX1_wires_11 ?_
  refine nv_imul hx hb dX1_wires_12 ?_
  refine nv_iadd hx hb dX1_wires_13 ?_
  exact nv_ret hx hb hr hlocks (rfl) dX1_wires_14
set_option maxHeartbeats 4000000 in
set_option maxRecDepth 100000 in
theorem c_X1_highestWord (l : Launch) (D : va_G) (cI cR : ClassId) (h : Nat) (a : Nat → Nat) (R : Nat) (B : Nat) (S : Nat) (f0 : Nat → Int32) (f1 : Nat → Int32) (f2 : Nat → Int32) (f3 : Nat → Int32)   (hB : B ≤ 10) : MetR l yX1_highestWord cX1_highestWord 1 (some .int) (rmK 0 0) (nPre D (nTy cI cR) [.ref h] (wRp h a cI R B S f0 f1 f2 f3)) (nI (1 <<< B - 1)) := by
  refine met_read rfl (Nat.le_of_ble_eq_true rfl) ?_
  intro p e s m args below meth c ls hx hb hml hr hlocks hown hts hP hK hl
  have hl : lv_has ls 1 [(0, .ref h)] := hl
  refine lv_iconst (v := nI 1) hx hb dX1_highestWord_0 (by decide) ?_
  refine lv_aload_n hx hb dX1_highestWord_1 rfl (lv_at hl 0 rfl) ?_
  refine va_get (D := D) (ci := 1) (v := .int (nI B)) (C := RX1) (T := TX1) (N := 7) hx hb hts inX1 hown hK hP 0 rfl rfl 1 (by decide) (hts _ fl_RX1_32) (fun _ h9 => h9) rfl dX1_highestWord_2 ?_
  refine nv_ishl hx hb dX1_highestWord_5 (by omega) ?_
  refine lv_iconst (v := nI 1) hx hb dX1_highestWord_6 (by decide) ?_
  refine nv_isub hx hb dX1_highestWord_7 (by rw [sh1]; exact Nat.two_pow_pos B) ?_
  exact nv_ret hx hb hr hlocks (rfl) dX1_highestWord_8
set_option maxHeartbeats 4000000 in
set_option maxRecDepth 100000 in
theorem c_X1_ringOf (l : Launch) (D : va_G) (cI cR : ClassId) (h : Nat) (a : Nat → Nat) (R : Nat) (B : Nat) (S : Nat) (f0 : Nat → Int32) (f1 : Nat → Int32) (f2 : Nat → Int32) (f3 : Nat → Int32) (ad : Nat)  (h1 : ad < 2 ^ 31) (h2 : 0 < S) (h3 : S < 2 ^ 31) : MetR l yX1_ringOf cX1_ringOf 2 (some .int) (rmK 0 0) (nPre D (nTy cI cR) [.ref h, .int (nI ad)] (wRp h a cI R B S f0 f1 f2 f3)) (nI (ad / S)) := by
  refine met_read rfl (Nat.le_of_ble_eq_true rfl) ?_
  intro p e s m args below meth c ls hx hb hml hr hlocks hown hts hP hK hl
  have hl : lv_has ls 2 [(0, .ref h), (1, .int (nI ad))] := hl
  refine lv_iload_n hx hb dX1_ringOf_0 rfl (lv_at hl 1 rfl) ?_
  refine lv_aload_n hx hb dX1_ringOf_1 rfl (lv_at hl 0 rfl) ?_
  refine va_get (D := D) (ci := 1) (v := .int (nI S)) (C := RX1) (T := TX1) (N := 7) hx hb hts inX1 hown hK hP 0 rfl rfl 2 (by decide) (hts _ fl_RX1_35) (fun _ h9 => h9) rfl dX1_ringOf_2 ?_
  refine nv_idiv hx hb dX1_ringOf_5 (by omega) (by omega) (by omega) ?_
  exact nv_ret hx hb hr hlocks (rfl) dX1_ringOf_6
set_option maxHeartbeats 4000000 in
set_option maxRecDepth 100000 in
theorem c_X1_setOf (l : Launch) (D : va_G) (cI cR : ClassId) (h : Nat) (a : Nat → Nat) (R : Nat) (B : Nat) (S : Nat) (f0 : Nat → Int32) (f1 : Nat → Int32) (f2 : Nat → Int32) (f3 : Nat → Int32) (ad : Nat)  (h1 : ad < 2 ^ 31) (h2 : 0 < S) (h3 : S < 2 ^ 31) : MetR l yX1_setOf cX1_setOf 2 (some .int) (rmK 0 0) (nPre D (nTy cI cR) [.ref h, .int (nI ad)] (wRp h a cI R B S f0 f1 f2 f3)) (nI (ad % S)) := by
  refine met_read rfl (Nat.le_of_ble_eq_true rfl) ?_
  intro p e s m args below meth c ls hx hb hml hr hlocks hown hts hP hK hl
  have hl : lv_has ls 2 [(0, .ref h), (1, .int (nI ad))] := hl
  refine lv_iload_n hx hb dX1_setOf_0 rfl (lv_at hl 1 rfl) ?_
  refine lv_aload_n hx hb dX1_setOf_1 rfl (lv_at hl 0 rfl) ?_
  refine va_get (D := D) (ci := 1) (v := .int (nI S)) (C := RX1) (T := TX1) (N := 7) hx hb hts inX1 hown hK hP 0 rfl rfl 2 (by decide) (hts _ fl_RX1_35) (fun _ h9 => h9) rfl dX1_setOf_2 ?_
  refine nv_irem hx hb dX1_setOf_5 (by omega) (by omega) (by omega) ?_
  exact nv_ret hx hb hr hlocks (rfl) dX1_setOf_6
set_option maxHeartbeats 4000000 in
set_option maxRecDepth 100000 in
theorem c_X1_senseWire (l : Launch) (D : va_G) (cI cR : ClassId) (h : Nat) (a : Nat → Nat) (R : Nat) (B : Nat) (S : Nat) (f0 : Nat → Int32) (f1 : Nat → Int32) (f2 : Nat → Int32) (f3 : Nat → Int32) (t : Nat) (b : Nat)   : MetR l yX1_senseWire cX1_senseWire 3 (some .int) (rmK 0 0) (nPre D (nTy cI cR) [.ref h, .int (nI t), .int (nI b)] (wRp h a cI R B S f0 f1 f2 f3)) (nI (8 + t * (B + 1) + b)) := by
  refine met_read rfl (Nat.le_of_ble_eq_true rfl) ?_
  intro p e s m args below meth c ls hx hb hml hr hlocks hown hts hP hK hl
  have hl : lv_has ls 3 [(0, .ref h), (1, .int (nI t)), (2, .int (nI b))] := hl
  refine lv_bipush (v := nI 8) hx hb dX1_senseWire_0 (by decide) ?_
  refine lv_iload_n hx hb dX1_senseWire_2 rfl (lv_at hl 1 rfl) ?_
  refine lv_aload_n hx hb dX1_senseWire_3 rfl (lv_at hl 0 rfl) ?_
  refine va_get (D := D) (ci := 1) (v := .int (nI B)) (C := RX1) (T := TX1) (N := 7) hx hb hts inX1 hown hK hP 0 rfl rfl 1 (by decide) (hts _ fl_RX1_32) (fun _ h9 => h9) rfl dX1_senseWire_4 ?_
  refine lv_iconst (v := nI 1) hx hb dX1_senseWire_7 (by decide) ?_
  refine nv_iadd hx hb dX1_senseWire_8 ?_
  refine nv_imul hx hb dX1_senseWire_9 ?_
  refine nv_iadd hx hb dX1_senseWire_10 ?_
  refine lv_iload_n hx hb dX1_senseWire_11 rfl (lv_at hl 2 rfl) ?_
  refine nv_iadd hx hb dX1_senseWire_12 ?_
  exact nv_ret hx hb hr hlocks (rfl) dX1_senseWire_13
set_option maxHeartbeats 4000000 in
set_option maxRecDepth 100000 in
theorem c_X1_hasRing (l : Launch) (D : va_G) (cI cR : ClassId) (h : Nat) (a : Nat → Nat) (R : Nat) (B : Nat) (S : Nat) (f0 : Nat → Int32) (f1 : Nat → Int32) (f2 : Nat → Int32) (f3 : Nat → Int32) (x : Int32)  (hR : R ≤ 16) : MetR l yX1_hasRing cX1_hasRing 2 (some .boolean) (rmK 0 0) (nPre D (nTy cI cR) [.ref h, .int x] (wRp h a cI R B S f0 f1 f2 f3)) (zB (inB x R)) := by
  refine met_read rfl (Nat.le_of_ble_eq_true rfl) ?_
  intro p e s m args below meth c ls hx hb hml hr hlocks hown hts hP hK hl
  have hl : lv_has ls 2 [(0, .ref h), (1, .int x)] := hl
  refine lv_iload_n hx hb dX1_hasRing_0 rfl (lv_at hl 1 rfl) ?_
  refine lv_if_lt (tgt := 16) hx hb dX1_hasRing_1 (by decide) (fun q_1 => ?_) (fun q_1 => ?_)
  · refine lv_iconst (v := nI 0) hx hb dX1_hasRing_16 (by decide) ?_
    exact nv_retz hx hb hr hlocks (by decide) (by first | exact zB_1 (inB_in (by omega) q_1 q_9) | exact zB_0 (inB_neg q_1) | exact zB_0 (inB_ge (by omega) q_9)) dX1_hasRing_17
  · refine lv_iload_n hx hb dX1_hasRing_4 rfl (lv_at hl 1 rfl) ?_
    refine lv_aload_n hx hb dX1_hasRing_5 rfl (lv_at hl 0 rfl) ?_
    refine va_get (D := D) (ci := 1) (v := .int (nI R)) (C := RX1) (T := TX1) (N := 7) hx hb hts inX1 hown hK hP 0 rfl rfl 0 (by decide) (hts _ fl_RX1_28) (fun _ h9 => h9) rfl dX1_hasRing_6 ?_
    refine lv_icmp_ge (tgt := 16) hx hb dX1_hasRing_9 (by decide) (fun q_9 => ?_) (fun q_9 => ?_)
    · refine lv_iconst (v := nI 0) hx hb dX1_hasRing_16 (by decide) ?_
      exact nv_retz hx hb hr hlocks (by decide) (by first | exact zB_1 (inB_in (by omega) q_1 q_9) | exact zB_0 (inB_neg q_1) | exact zB_0 (inB_ge (by omega) q_9)) dX1_hasRing_17
    · refine lv_iconst (v := nI 1) hx hb dX1_hasRing_12 (by decide) ?_
      refine lv_goto (tgt := 17) hx hb dX1_hasRing_13 (by decide) ?_
      exact nv_retz hx hb hr hlocks (by decide) (by first | exact zB_1 (inB_in (by omega) q_1 q_9) | exact zB_0 (inB_neg q_1) | exact zB_0 (inB_ge (by omega) q_9)) dX1_hasRing_17
set_option maxHeartbeats 4000000 in
set_option maxRecDepth 100000 in
theorem c_X1_hasWire (l : Launch) (D : va_G) (cI cR : ClassId) (h : Nat) (a : Nat → Nat) (R : Nat) (B : Nat) (S : Nat) (f0 : Nat → Int32) (f1 : Nat → Int32) (f2 : Nat → Int32) (f3 : Nat → Int32) (x : Int32)  (hA : S * (B + 1) ≤ 33) : MetR l yX1_hasWire cX1_hasWire 2 (some .boolean) (rmK 1 20) (nPre D (nTy cI cR) [.ref h, .int x] (wRp h a cI R B S f0 f1 f2 f3)) (zB (inB x (8 + S * (B + 1)))) := by
  refine met_read rfl (Nat.le_of_ble_eq_true rfl) ?_
  intro p e s m args below meth c ls hx hb hml hr hlocks hown hts hP hK hl
  have hl : lv_has ls 2 [(0, .ref h), (1, .int x)] := hl
  refine lv_iload_n hx hb dX1_hasWire_0 rfl (lv_at hl 1 rfl) ?_
  refine lv_if_lt (tgt := 16) hx hb dX1_hasWire_1 (by decide) (fun q_1 => ?_) (fun q_1 => ?_)
  · refine lv_iconst (v := nI 0) hx hb dX1_hasWire_16 (by decide) ?_
    exact nv_retz hx hb hr hlocks (by decide) (by first | exact zB_1 (inB_in (by omega) q_1 q_9) | exact zB_0 (inB_neg q_1) | exact zB_0 (inB_ge (by omega) q_9)) dX1_hasWire_17
  · refine lv_iload_n hx hb dX1_hasWire_4 rfl (lv_at hl 1 rfl) ?_
    refine lv_aload_n hx hb dX1_hasWire_5 rfl (lv_at hl 0 rfl) ?_
    refine nv_callV [] [.int x] hx hb hml hown hts k_RX1_55 (c_X1_wires l D cI cR h a R B S f0 f1 f2 f3 ) ⟨rfl, rfl, Nat.le_of_ble_eq_true rfl, Nat.le_of_ble_eq_true rfl⟩ hP hK 1 rfl rfl rfl rfl hl rfl (Nat.le_of_ble_eq_true rfl) dX1_hasWire_6 ⟨Nat.zero_le _, Nat.zero_le _⟩ ?_
    refine lv_icmp_ge (tgt := 16) hx hb dX1_hasWire_9 (by decide) (fun q_9 => ?_) (fun q_9 => ?_)
    · refine lv_iconst (v := nI 0) hx hb dX1_hasWire_16 (by decide) ?_
      exact nv_retz hx hb hr hlocks (by decide) (by first | exact zB_1 (inB_in (by omega) q_1 q_9) | exact zB_0 (inB_neg q_1) | exact zB_0 (inB_ge (by omega) q_9)) dX1_hasWire_17
    · refine lv_iconst (v := nI 1) hx hb dX1_hasWire_12 (by decide) ?_
      refine lv_goto (tgt := 17) hx hb dX1_hasWire_13 (by decide) ?_
      exact nv_retz hx hb hr hlocks (by decide) (by first | exact zB_1 (inB_in (by omega) q_1 q_9) | exact zB_0 (inB_neg q_1) | exact zB_0 (inB_ge (by omega) q_9)) dX1_hasWire_17
set_option maxHeartbeats 4000000 in
set_option maxRecDepth 100000 in
theorem c_X1_hasAddress (l : Launch) (D : va_G) (cI cR : ClassId) (h : Nat) (a : Nat → Nat) (R : Nat) (B : Nat) (S : Nat) (f0 : Nat → Int32) (f1 : Nat → Int32) (f2 : Nat → Int32) (f3 : Nat → Int32) (x : Int32)  (hA : R * S ≤ 48) : MetR l yX1_hasAddress cX1_hasAddress 2 (some .boolean) (rmK 1 20) (nPre D (nTy cI cR) [.ref h, .int x] (wRp h a cI R B S f0 f1 f2 f3)) (zB (inB x (R * S))) := by
  refine met_read rfl (Nat.le_of_ble_eq_true rfl) ?_
  intro p e s m args below meth c ls hx hb hml hr hlocks hown hts hP hK hl
  have hl : lv_has ls 2 [(0, .ref h), (1, .int x)] := hl
  refine lv_iload_n hx hb dX1_hasAddress_0 rfl (lv_at hl 1 rfl) ?_
  refine lv_if_lt (tgt := 16) hx hb dX1_hasAddress_1 (by decide) (fun q_1 => ?_) (fun q_1 => ?_)
  · refine lv_iconst (v := nI 0) hx hb dX1_hasAddress_16 (by decide) ?_
    exact nv_retz hx hb hr hlocks (by decide) (by first | exact zB_1 (inB_in (by omega) q_1 q_9) | exact zB_0 (inB_neg q_1) | exact zB_0 (inB_ge (by omega) q_9)) dX1_hasAddress_17
  · refine lv_iload_n hx hb dX1_hasAddress_4 rfl (lv_at hl 1 rfl) ?_
    refine lv_aload_n hx hb dX1_hasAddress_5 rfl (lv_at hl 0 rfl) ?_
    refine nv_callV [] [.int x] hx hb hml hown hts k_RX1_42 (c_X1_addresses l D cI cR h a R B S f0 f1 f2 f3 ) ⟨rfl, rfl, Nat.le_of_ble_eq_true rfl, Nat.le_of_ble_eq_true rfl⟩ hP hK 1 rfl rfl rfl rfl hl rfl (Nat.le_of_ble_eq_true rfl) dX1_hasAddress_6 ⟨Nat.zero_le _, Nat.zero_le _⟩ ?_
    refine lv_icmp_ge (tgt := 16) hx hb dX1_hasAddress_9 (by decide) (fun q_9 => ?_) (fun q_9 => ?_)
    · refine lv_iconst (v := nI 0) hx hb dX1_hasAddress_16 (by decide) ?_
      exact nv_retz hx hb hr hlocks (by decide) (by first | exact zB_1 (inB_in (by omega) q_1 q_9) | exact zB_0 (inB_neg q_1) | exact zB_0 (inB_ge (by omega) q_9)) dX1_hasAddress_17
    · refine lv_iconst (v := nI 1) hx hb dX1_hasAddress_12 (by decide) ?_
      refine lv_goto (tgt := 17) hx hb dX1_hasAddress_13 (by decide) ?_
      exact nv_retz hx hb hr hlocks (by decide) (by first | exact zB_1 (inB_in (by omega) q_1 q_9) | exact zB_0 (inB_neg q_1) | exact zB_0 (inB_ge (by omega) q_9)) dX1_hasAddress_17
set_option maxHeartbeats 4000000 in
set_option maxRecDepth 100000 in
theorem c_X1_fits (l : Launch) (D : va_G) (cI cR : ClassId) (h : Nat) (a : Nat → Nat) (R : Nat) (B : Nat) (S : Nat) (f0 : Nat → Int32) (f1 : Nat → Int32) (f2 : Nat → Int32) (f3 : Nat → Int32) (x : Int32)  (hB : B ≤ 10) : MetR l yX1_fits cX1_fits 2 (some .boolean) (rmK 1 20) (nPre D (nTy cI cR) [.ref h, .int x] (wRp h a cI R B S f0 f1 f2 f3)) (zB (inB x (2 ^ B))) := by
  refine met_read rfl (Nat.le_of_ble_eq_true rfl) ?_
  intro p e s m args below meth c ls hx hb hml hr hlocks hown hts hP hK hl
  have hl : lv_has ls 2 [(0, .ref h), (1, .int x)] := hl
  have hb10 := p2_10 hB
  have hse := sh1e B
  refine lv_iload_n hx hb dX1_fits_0 rfl (lv_at hl 1 rfl) ?_
  refine lv_if_lt (tgt := 16) hx hb dX1_fits_1 (by decide) (fun q_1 => ?_) (fun q_1 => ?_)
  · refine lv_iconst (v := nI 0) hx hb dX1_fits_16 (by decide) ?_
    exact nv_retz hx hb hr hlocks (by decide) (by rw [← sh1e B]; first | exact zB_1 (inB_le (by omega) q_1 q_9) | exact zB_0 (inB_neg q_1) | exact zB_0 (inB_gt (by omega) q_9)) dX1_fits_17
  · refine lv_iload_n hx hb dX1_fits_4 rfl (lv_at hl 1 rfl) ?_
    refine lv_aload_n hx hb dX1_fits_5 rfl (lv_at hl 0 rfl) ?_
    refine nv_callV [] [.int x] hx hb hml hown hts k_RX1_58 (c_X1_highestWord l D cI cR h a R B S f0 f1 f2 f3 (by omega)) ⟨rfl, rfl, Nat.le_of_ble_eq_true rfl, Nat.le_of_ble_eq_true rfl⟩ hP hK 1 rfl rfl rfl rfl hl rfl (Nat.le_of_ble_eq_true rfl) dX1_fits_6 ⟨Nat.zero_le _, Nat.zero_le _⟩ ?_
    refine lv_icmp_gt (tgt := 16) hx hb dX1_fits_9 (by decide) (fun q_9 => ?_) (fun q_9 => ?_)
    · refine lv_iconst (v := nI 0) hx hb dX1_fits_16 (by decide) ?_
      exact nv_retz hx hb hr hlocks (by decide) (by rw [← sh1e B]; first | exact zB_1 (inB_le (by omega) q_1 q_9) | exact zB_0 (inB_neg q_1) | exact zB_0 (inB_gt (by omega) q_9)) dX1_fits_17
    · refine lv_iconst (v := nI 1) hx hb dX1_fits_12 (by decide) ?_
      refine lv_goto (tgt := 17) hx hb dX1_fits_13 (by decide) ?_
      exact nv_retz hx hb hr hlocks (by decide) (by rw [← sh1e B]; first | exact zB_1 (inB_le (by omega) q_1 q_9) | exact zB_0 (inB_neg q_1) | exact zB_0 (inB_gt (by omega) q_9)) dX1_fits_17
theorem c_X1_addressesS (l : Launch) (D : va_G) (cI cR : ClassId) (h : Nat) (a : Nat → Nat) (σ : Nat → Nat)   : MetR l yX1_addresses cX1_addresses 1 (some .int) (rmK 0 0) (nPre D (nTy cI cR) [.ref h] (wRp h a cI (σ 0) (σ 1) (σ 2) (onF σ) (wwF σ) (crF σ) (ptF σ))) (nI (nA σ)) := c_X1_addresses l D cI cR h a (σ 0) (σ 1) (σ 2) (onF σ) (wwF σ) (crF σ) (ptF σ)
theorem c_X1_wiresS (l : Launch) (D : va_G) (cI cR : ClassId) (h : Nat) (a : Nat → Nat) (σ : Nat → Nat)   : MetR l yX1_wires cX1_wires 1 (some .int) (rmK 0 0) (nPre D (nTy cI cR) [.ref h] (wRp h a cI (σ 0) (σ 1) (σ 2) (onF σ) (wwF σ) (crF σ) (ptF σ))) (nI (nW σ)) := c_X1_wires l D cI cR h a (σ 0) (σ 1) (σ 2) (onF σ) (wwF σ) (crF σ) (ptF σ)
theorem c_X1_hasRingS (l : Launch) (D : va_G) (cI cR : ClassId) (h : Nat) (a : Nat → Nat) (σ : Nat → Nat) (x : Int32) (hw : wf σ) : MetR l yX1_hasRing cX1_hasRing 2 (some .boolean) (rmK 0 0) (nPre D (nTy cI cR) [.ref h, .int x] (wRp h a cI (σ 0) (σ 1) (σ 2) (onF σ) (wwF σ) (crF σ) (ptF σ))) (zB (inB x (σ 0))) := c_X1_hasRing l D cI cR h a (σ 0) (σ 1) (σ 2) (onF σ) (wwF σ) (crF σ) (ptF σ) x hw.2.1
theorem c_X1_hasWireS (l : Launch) (D : va_G) (cI cR : ClassId) (h : Nat) (a : Nat → Nat) (σ : Nat → Nat) (x : Int32) (hw : wf σ) : MetR l yX1_hasWire cX1_hasWire 2 (some .boolean) (rmK 1 20) (nPre D (nTy cI cR) [.ref h, .int x] (wRp h a cI (σ 0) (σ 1) (σ 2) (onF σ) (wwF σ) (crF σ) (ptF σ))) (zB (inB x (nW σ))) := c_X1_hasWire l D cI cR h a (σ 0) (σ 1) (σ 2) (onF σ) (wwF σ) (crF σ) (ptF σ) x hw.a33
theorem c_X1_hasAddressS (l : Launch) (D : va_G) (cI cR : ClassId) (h : Nat) (a : Nat → Nat) (σ : Nat → Nat) (x : Int32) (hw : wf σ) : MetR l yX1_hasAddress cX1_hasAddress 2 (some .boolean) (rmK 1 20) (nPre D (nTy cI cR) [.ref h, .int x] (wRp h a cI (σ 0) (σ 1) (σ 2) (onF σ) (wwF σ) (crF σ) (ptF σ))) (zB (inB x (nA σ))) := c_X1_hasAddress l D cI cR h a (σ 0) (σ 1) (σ 2) (onF σ) (wwF σ) (crF σ) (ptF σ) x hw.a48
