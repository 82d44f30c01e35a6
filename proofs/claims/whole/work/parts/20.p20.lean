set_option maxHeartbeats 4000000 in
set_option maxRecDepth 100000 in
theorem c_X4_in (l : Launch) (D : va_G) (cI cR : ClassId)  (v : Int32) (lo : Nat) (hi : Nat)  (h1 : lo < 2 ^ 31) (h2 : hi < 2 ^ 31) : MetR l yX4_in cX4_in 3 (some .boolean) (rmK 0 0) (nPre D (nTy cI cR) [.int v, .int (nI lo), .int (nI hi)] []) (zB (btw lo hi v)) := by
  refine met_read rfl (Nat.le_of_ble_eq_true rfl) ?_
  intro p e s m args below meth c ls hx hb hml hr hlocks hown hts hP hK hl
  have hl : lv_has ls 3 [(0, .int v), (1, .int (nI lo)), (2, .int (nI hi))] := hl
  refine lv_iload_n hx hb dX4_in_0 rfl (lv_at hl 0 rfl) ?_
  refine lv_iload_n hx hb dX4_in_1 rfl (lv_at hl 1 rfl) ?_
  refine lv_icmp_lt (tgt := 14) hx hb dX4_in_2 (by decide) (fun q_2 => ?_) (fun q_2 => ?_)
  · refine lv_iconst (v := nI 0) hx hb dX4_in_14 (by decide) ?_
    exact nv_retz hx hb hr hlocks (by decide) (by first | exact zB_1 (btw_t h1 h2 q_2 q_7) | exact zB_0 (btw_lo h1 q_2) | exact zB_0 (btw_hi h2 q_7)) dX4_in_15
  · refine lv_iload_n hx hb dX4_in_5 rfl (lv_at hl 0 rfl) ?_
    refine lv_iload_n hx hb dX4_in_6 rfl (lv_at hl 2 rfl) ?_
    refine lv_icmp_gt (tgt := 14) hx hb dX4_in_7 (by decide) (fun q_7 => ?_) (fun q_7 => ?_)
    · refine lv_iconst (v := nI 0) hx hb dX4_in_14 (by decide) ?_
      exact nv_retz hx hb hr hlocks (by decide) (by first | exact zB_1 (btw_t h1 h2 q_2 q_7) | exact zB_0 (btw_lo h1 q_2) | exact zB_0 (btw_hi h2 q_7)) dX4_in_15
    · refine lv_iconst (v := nI 1) hx hb dX4_in_10 (by decide) ?_
      refine lv_goto (tgt := 15) hx hb dX4_in_11 (by decide) ?_
      exact nv_retz hx hb hr hlocks (by decide) (by first | exact zB_1 (btw_t h1 h2 q_2 q_7) | exact zB_0 (btw_lo h1 q_2) | exact zB_0 (btw_hi h2 q_7)) dX4_in_15
set_option maxHeartbeats 4000000 in
set_option maxRecDepth 100000 in
theorem c_X4_ones (l : Launch) (D : va_G) (cI cR : ClassId)  (x : Nat)  (h1 : x < 65536) : MetR l yX4_ones cX4_ones 3 (some .int) (rmK 0 0) (nPre D (nTy cI cR) [.int (nI x)] []) (nI (pop x)) := by
  refine met_read rfl (Nat.le_of_ble_eq_true rfl) ?_
  intro p e s m args below meth c ls hx hb hml hr hlocks hown hts hP hK hl
  have hl : lv_has ls 3 [(0, .int (nI x))] := hl
  refine lv_iconst (v := nI 0) hx hb dX4_ones_0 (by decide) ?_
  refine lv_istore_n (lv' := [(1, .int (nI 0)), (0, .int (nI x))]) hx hb dX4_ones_1 rfl hl (by decide) rfl (fun ls hl => ?_)
  refine lv_iconst (v := nI 0) hx hb dX4_ones_2 (by decide) ?_
  refine lv_istore_n (lv' := [(2, .int (nI 0)), (1, .int (nI 0)), (0, .int (nI x))]) hx hb dX4_ones_3 rfl hl (by decide) rfl (fun ls hl => ?_)
  have L4 : ∀ (n4 i : Nat), 16 + 1 ≤ i + n4 → i ≤ 16 → ∀ (ls : Array Slot), lv_has ls 3 [(2, .int (nI i)), (1, .int (nI (ct x.testBit i))), (0, .int (nI x))] → W p l e (rmK 0 0) s m args below meth c s.heap [] 0 0 (MQ below (QcRead (nI (pop x))) args s 0 0 (fun _ => False)) (F0 m 4 ls []) := by
    intro n4
    induction n4 with
    | zero =>
      intro i h1_4 h2_4
      exact False.elim (by omega)
    | succ n4 ih4 =>
      intro i h1_4 h2_4  ls hl
      refine lv_iload_n hx hb dX4_ones_4 rfl (lv_at hl 0 rfl) ?_
      refine lv_bipush (v := nI 16) hx hb dX4_ones_5 (by decide) ?_
      refine nv_icmp_ge (tgt := 24) hx hb dX4_ones_7 (by decide) (by omega) (by omega) (fun q_7 => ?_) (fun q_7 => ?_)
      · refine lv_iload_n hx hb dX4_ones_24 rfl (lv_at hl 1 rfl) ?_
        exact nv_ret hx hb hr hlocks (congrArg nI (by rw [show i = 16 by omega]; rfl)) dX4_ones_25
      · refine lv_iload_n hx hb dX4_ones_10 rfl (lv_at hl 1 rfl) ?_
        refine lv_iload_n hx hb dX4_ones_11 rfl (lv_at hl 2 rfl) ?_
        refine lv_iload_n hx hb dX4_ones_12 rfl (lv_at hl 0 rfl) ?_
        refine nv_ishr hx hb dX4_ones_13 (by omega) (by omega) ?_
        refine lv_iconst (v := nI 1) hx hb dX4_ones_14 (by decide) ?_
        refine nv_iand hx hb dX4_ones_15 ?_
        refine nv_top ((x.testBit i).toNat) (nw_tb _ _) ?_
        refine nv_iadd hx hb dX4_ones_16 ?_
        refine lv_istore_n (lv' := [(1, .int (nI ((ct x.testBit i) + ((x.testBit i).toNat)))), (2, .int (nI i)), (0, .int (nI x))]) hx hb dX4_ones_17 rfl hl (by decide) rfl (fun ls hl => ?_)
        refine nv_inc (k := 1) (lv' := [(2, .int (nI (i + 1))), (1, .int (nI ((ct x.testBit i) + ((x.testBit i).toNat)))), (0, .int (nI x))]) hx hb dX4_ones_18 hl rfl (by decide) rfl (fun ls hl => ?_)
        refine lv_goto (tgt := 4) hx hb dX4_ones_21 (by decide) ?_
        exact ih4 (i + 1) (by omega) (by omega)  ls (lv_sub hl [0, 1, 2] rfl)
  exact L4 17 0 (by omega) (by omega)  ls (lv_sub hl [0, 1, 2] rfl)
set_option maxHeartbeats 4000000 in
set_option maxRecDepth 100000 in
theorem c_X4_addresses (l : Launch) (D : va_G) (cI cR : ClassId) (h : Nat) (a : Nat → Nat) (ρ : Nat → Nat → Nat) (sv : Nat) (wv : Nat → Nat) (nw : Nat → Nat) (b : Nat → Nat) (ln : Nat) (at0 : Nat) (wd : Nat) (hh : Int64)    : MetR l yX4_addresses cX4_addresses 1 (some .int) (rmK 0 0) (nPre D (nTy cI cR) [.ref h] (wMd h a cI (rwF ρ) sv (nF wv) (nF nw) (nF b) ln at0 wd hh)) (nI (nA (ρ 0))) := by
  refine met_read rfl (Nat.le_of_ble_eq_true rfl) ?_
  intro p e s m args below meth c ls hx hb hml hr hlocks hown hts hP hK hl
  have hl : lv_has ls 1 [(0, .ref h)] := hl
  refine lv_aload_n hx hb dX4_addresses_0 rfl (lv_at hl 0 rfl) ?_
  refine va_get (D := D) (ci := 4) (v := .ref (a 0)) (C := RX4) (T := TX4) (N := 9) hx hb hts inX4 hown hK hP 0 rfl rfl 0 (by decide) (hts _ fl_RX4_7) (fun _ h9 => h9) rfl dX4_addresses_1 ?_
  refine lv_iconst (v := nI 0) hx hb dX4_addresses_4 (by decide) ?_
  refine nv_iald (D := D) (v := nI (ρ 0 0)) hx hb hK hP 1 0 rfl rfl (k := 0) (by omega) (by decide) (rw_lo (by omega)) dX4_addresses_5 ?_
  refine lv_aload_n hx hb dX4_addresses_6 rfl (lv_at hl 0 rfl) ?_
  refine va_get (D := D) (ci := 4) (v := .ref (a 0)) (C := RX4) (T := TX4) (N := 9) hx hb hts inX4 hown hK hP 0 rfl rfl 0 (by decide) (hts _ fl_RX4_7) (fun _ h9 => h9) rfl dX4_addresses_7 ?_
  refine lv_iconst (v := nI 2) hx hb dX4_addresses_10 (by decide) ?_
  refine nv_iald (D := D) (v := nI (ρ 0 2)) hx hb hK hP 1 0 rfl rfl (k := 2) (by omega) (by decide) (rw_lo (by omega)) dX4_addresses_11 ?_
  refine nv_imul hx hb dX4_addresses_12 ?_
  exact nv_ret hx hb hr hlocks (rfl) dX4_addresses_13
set_option maxHeartbeats 4000000 in
set_option maxRecDepth 100000 in
theorem c_X4_wires (l : Launch) (D : va_G) (cI cR : ClassId) (h : Nat) (a : Nat → Nat) (ρ : Nat → Nat → Nat) (sv : Nat) (wv : Nat → Nat) (nw : Nat → Nat) (b : Nat → Nat) (ln : Nat) (at0 : Nat) (wd : Nat) (hh : Int64)    : MetR l yX4_wires cX4_wires 1 (some .int) (rmK 0 0) (nPre D (nTy cI cR) [.ref h] (wMd h a cI (rwF ρ) sv (nF wv) (nF nw) (nF b) ln at0 wd hh)) (nI (nW (ρ 0))) := by
  refine met_read rfl (Nat.le_of_ble_eq_true rfl) ?_
  intro p e s m args below meth c ls hx hb hml hr hlocks hown hts hP hK hl
  have hl : lv_has ls 1 [(0, .ref h)] := hl
  refine lv_bipush (v := nI 8) hx hb dX4_wires_0 (by decide) ?_
  refine lv_aload_n hx hb dX4_wires_2 rfl (lv_at hl 0 rfl) ?_
  refine va_get (D := D) (ci := 4) (v := .ref (a 0)) (C := RX4) (T := TX4) (N := 9) hx hb hts inX4 hown hK hP 0 rfl rfl 0 (by decide) (hts _ fl_RX4_7) (fun _ h9 => h9) rfl dX4_wires_3 ?_
  refine lv_iconst (v := nI 2) hx hb dX4_wires_6 (by decide) ?_
  refine nv_iald (D := D) (v := nI (ρ 0 2)) hx hb hK hP 1 0 rfl rfl (k := 2) (by omega) (by decide) (rw_lo (by omega)) dX4_wires_7 ?_
  refine lv_aload_n hx hb dX4_wires_8 rfl (lv_at hl 0 rfl) ?_
  refine va_get (D := D) (ci := 4) (v := .ref (a 0)) (C := RX4) (T := TX4) (N := 9) hx hb hts inX4 hown hK hP 0 rfl rfl 0 (by decide) (hts _ fl_RX4_7) (fun _ h9 => h9) rfl dX4_wires_9 ?_
  refine lv_iconst (v := nI 1) hx hb dX4_wires_12 (by decide) ?_
  refine nv_iald (D := D) (v := nI (ρ 0 1)) hx hb hK hP 1 0 rfl rfl (k := 1) (by omega) (by decide) (rw_lo (by omega)) dX4_wires_13 ?_
  refine lv_iconst (v := nI 1) hx hb dX4_wires_14 (by decide) ?_
  refine nv_iadd hx hb dX4_wires_15 ?_
  refine nv_imul hx hb dX4_wires_16 ?_
  refine nv_iadd hx hb dX4_wires_17 ?_
  exact nv_ret hx hb hr hlocks (rfl) dX4_wires_18
set_option maxHeartbeats 4000000 in
set_option maxRecDepth 100000 in
theorem c_X4_allRings (l : Launch) (D : va_G) (cI cR : ClassId) (h : Nat) (a : Nat → Nat) (ρ : Nat → Nat → Nat) (sv : Nat) (wv : Nat → Nat) (nw : Nat → Nat) (b : Nat → Nat) (ln : Nat) (at0 : Nat) (wd : Nat) (hh : Int64)   (hw : wf (ρ 0)) : MetR l yX4_allRings cX4_allRings 1 (some .int) (rmK 0 0) (nPre D (nTy cI cR) [.ref h] (wMd h a cI (rwF ρ) sv (nF wv) (nF nw) (nF b) ln at0 wd hh)) (nI (1 <<< ρ 0 0 - 1)) := by
  refine met_read rfl (Nat.le_of_ble_eq_true rfl) ?_
  intro p e s m args below meth c ls hx hb hml hr hlocks hown hts hP hK hl
  have hl : lv_has ls 1 [(0, .ref h)] := hl
  have hA41 := hw.w41
  have hA33 := hw.a33
  have hA48 := hw.a48
  obtain ⟨hR2, hR, hB1, hB, hS1, hS, -⟩ := id hw
  have h1024 := p2_10 hB
  refine lv_iconst (v := nI 1) hx hb dX4_allRings_0 (by decide) ?_
  refine lv_aload_n hx hb dX4_allRings_1 rfl (lv_at hl 0 rfl) ?_
  refine va_get (D := D) (ci := 4) (v := .ref (a 0)) (C := RX4) (T := TX4) (N := 9) hx hb hts inX4 hown hK hP 0 rfl rfl 0 (by decide) (hts _ fl_RX4_7) (fun _ h9 => h9) rfl dX4_allRings_2 ?_
  refine lv_iconst (v := nI 0) hx hb dX4_allRings_5 (by decide) ?_
  refine nv_iald (D := D) (v := nI (ρ 0 0)) hx hb hK hP 1 0 rfl rfl (k := 0) (by omega) (by decide) (rw_lo (by omega)) dX4_allRings_6 ?_
  refine nv_ishl hx hb dX4_allRings_7 (by omega) ?_
  refine lv_iconst (v := nI 1) hx hb dX4_allRings_8 (by decide) ?_
  refine nv_isub hx hb dX4_allRings_9 (sh1_pos _) ?_
  exact nv_ret hx hb hr hlocks (rfl) dX4_allRings_10
set_option maxHeartbeats 4000000 in
set_option maxRecDepth 100000 in
theorem c_X4_isRing (l : Launch) (D : va_G) (cI cR : ClassId) (h : Nat) (a : Nat → Nat) (ρ : Nat → Nat → Nat) (sv : Nat) (wv : Nat → Nat) (nw : Nat → Nat) (b : Nat → Nat) (ln : Nat) (at0 : Nat) (wd : Nat) (hh : Int64) (x : Int32)  (hw : wf (ρ 0)) : MetR l yX4_isRing cX4_isRing 2 (some .boolean) (rmK 1 22) (nPre D (nTy cI cR) [.ref h, .int x] (wMd h a cI (rwF ρ) sv (nF wv) (nF nw) (nF b) ln at0 wd hh)) (zB (inB x (ρ 0 0))) := by
  refine met_read rfl (Nat.le_of_ble_eq_true rfl) ?_
  intro p e s m args below meth c ls hx hb hml hr hlocks hown hts hP hK hl
  have hl : lv_has ls 2 [(0, .ref h), (1, .int x)] := hl
  have hA41 := hw.w41
  have hA33 := hw.a33
  have hA48 := hw.a48
  obtain ⟨hR2, hR, hB1, hB, hS1, hS, -⟩ := id hw
  have h1024 := p2_10 hB
  refine lv_iload_n hx hb dX4_isRing_0 rfl (lv_at hl 1 rfl) ?_
  refine lv_iconst (v := nI 0) hx hb dX4_isRing_1 (by decide) ?_
  refine lv_aload_n hx hb dX4_isRing_2 rfl (lv_at hl 0 rfl) ?_
  refine va_get (D := D) (ci := 4) (v := .ref (a 0)) (C := RX4) (T := TX4) (N := 9) hx hb hts inX4 hown hK hP 0 rfl rfl 0 (by decide) (hts _ fl_RX4_7) (fun _ h9 => h9) rfl dX4_isRing_3 ?_
  refine lv_iconst (v := nI 0) hx hb dX4_isRing_6 (by decide) ?_
  refine nv_iald (D := D) (v := nI (ρ 0 0)) hx hb hK hP 1 0 rfl rfl (k := 0) (by omega) (by decide) (rw_lo (by omega)) dX4_isRing_7 ?_
  refine lv_iconst (v := nI 1) hx hb dX4_isRing_8 (by decide) ?_
  refine nv_isub hx hb dX4_isRing_9 (by omega) ?_
  refine nv_callS [.int x, .int (nI 0), .int (nI ((ρ 0 0) - 1))] [] hx hb hml hown hts k_RX4_34 (c_X4_in l D cI cR x 0 ((ρ 0 0) - 1) (by omega) (by omega)) ⟨rfl, rfl, Nat.le_of_ble_eq_true rfl, Nat.le_of_ble_eq_true rfl⟩ (va_P_nil) hK rfl hl rfl (Nat.le_of_ble_eq_true rfl) dX4_isRing_10 ⟨Nat.zero_le _, Nat.zero_le _⟩ ?_
  exact nv_retz hx hb hr hlocks (zB_z _) (by rw [btw_inB (by omega)]) dX4_isRing_13
set_option maxHeartbeats 4000000 in
set_option maxRecDepth 100000 in
theorem c_X4_isWire (l : Launch) (D : va_G) (cI cR : ClassId) (h : Nat) (a : Nat → Nat) (ρ : Nat → Nat → Nat) (sv : Nat) (wv : Nat → Nat) (nw : Nat → Nat) (b : Nat → Nat) (ln : Nat) (at0 : Nat) (wd : Nat) (hh : Int64) (x : Int32)  (hw : wf (ρ 0)) : MetR l yX4_isWire cX4_isWire 2 (some .boolean) (rmK 1 22) (nPre D (nTy cI cR) [.ref h, .int x] (wMd h a cI (rwF ρ) sv (nF wv) (nF nw) (nF b) ln at0 wd hh)) (zB (inB x (nW (ρ 0)))) := by
  refine met_read rfl (Nat.le_of_ble_eq_true rfl) ?_
  intro p e s m args below meth c ls hx hb hml hr hlocks hown hts hP hK hl
  have hl : lv_has ls 2 [(0, .ref h), (1, .int x)] := hl
  have hA41 := hw.w41
  have hA33 := hw.a33
  have hA48 := hw.a48
  obtain ⟨hR2, hR, hB1, hB, hS1, hS, -⟩ := id hw
  have h1024 := p2_10 hB
  have h8 : 8 ≤ nW (ρ 0) := by unfold nW; omega
  refine lv_iload_n hx hb dX4_isWire_0 rfl (lv_at hl 1 rfl) ?_
  refine lv_iconst (v := nI 0) hx hb dX4_isWire_1 (by decide) ?_
  refine lv_aload_n hx hb dX4_isWire_2 rfl (lv_at hl 0 rfl) ?_
  refine nv_callV [] [.int (nI 0), .int x] hx hb hml hown hts k_RX4_38 (c_X4_wires l D cI cR h a ρ sv wv nw b ln at0 wd hh ) ⟨rfl, rfl, Nat.le_of_ble_eq_true rfl, Nat.le_of_ble_eq_true rfl⟩ hP hK 4 rfl rfl rfl rfl hl rfl (Nat.le_of_ble_eq_true rfl) dX4_isWire_3 ⟨Nat.zero_le _, Nat.zero_le _⟩ ?_
  refine lv_iconst (v := nI 1) hx hb dX4_isWire_6 (by decide) ?_
  refine nv_isub hx hb dX4_isWire_7 (by omega) ?_
  refine nv_callS [.int x, .int (nI 0), .int (nI ((nW (ρ 0)) - 1))] [] hx hb hml hown hts k_RX4_34 (c_X4_in l D cI cR x 0 ((nW (ρ 0)) - 1) (by omega) (by omega)) ⟨rfl, rfl, Nat.le_of_ble_eq_true rfl, Nat.le_of_ble_eq_true rfl⟩ (va_P_nil) hK rfl hl rfl (Nat.le_of_ble_eq_true rfl) dX4_isWire_8 ⟨Nat.zero_le _, Nat.zero_le _⟩ ?_
  exact nv_retz hx hb hr hlocks (zB_z _) (by rw [btw_inB (by omega)]) dX4_isWire_11
set_option maxHeartbeats 4000000 in
set_option maxRecDepth 100000 in
theorem c_X4_isAddress (l : Launch) (D : va_G) (cI cR : ClassId) (h : Nat) (a : Nat → Nat) (ρ : Nat → Nat → Nat) (sv : Nat) (wv : Nat → Nat) (nw : Nat → Nat) (b : Nat → Nat) (ln : Nat) (at0 : Nat) (wd : Nat) (hh : Int64) (x : Int32)  (hw : wf (ρ 0)) : MetR l yX4_isAddress cX4_isAddress 2 (some .boolean) (rmK 1 22) (nPre D (nTy cI cR) [.ref h, .int x] (wMd h a cI (rwF ρ) sv (nF wv) (nF nw) (nF b) ln at0 wd hh)) (zB (inB x (nA (ρ 0)))) := by
  refine met_read rfl (Nat.le_of_ble_eq_true rfl) ?_
  intro p e s m args below meth c ls hx hb hml hr hlocks hown hts hP hK hl
  have hl : lv_has ls 2 [(0, .ref h), (1, .int x)] := hl
  have hA41 := hw.w41
  have hA33 := hw.a33
  have hA48 := hw.a48
  obtain ⟨hR2, hR, hB1, hB, hS1, hS, -⟩ := id hw
  have h1024 := p2_10 hB
  have hA1 : 1 ≤ nA (ρ 0) := Nat.mul_pos (by omega) (by omega)
  refine lv_iload_n hx hb dX4_isAddress_0 rfl (lv_at hl 1 rfl) ?_
  refine lv_iconst (v := nI 0) hx hb dX4_isAddress_1 (by decide) ?_
  refine lv_aload_n hx hb dX4_isAddress_2 rfl (lv_at hl 0 rfl) ?_
  refine nv_callV [] [.int (nI 0), .int x] hx hb hml hown hts k_RX4_42 (c_X4_addresses l D cI cR h a ρ sv wv nw b ln at0 wd hh ) ⟨rfl, rfl, Nat.le_of_ble_eq_true rfl, Nat.le_of_ble_eq_true rfl⟩ hP hK 4 rfl rfl rfl rfl hl rfl (Nat.le_of_ble_eq_true rfl) dX4_isAddress_3 ⟨Nat.zero_le _, Nat.zero_le _⟩ ?_
  refine lv_iconst (v := nI 1) hx hb dX4_isAddress_6 (by decide) ?_
  refine nv_isub hx hb dX4_isAddress_7 (by omega) ?_
  refine nv_callS [.int x, .int (nI 0), .int (nI ((nA (ρ 0)) - 1))] [] hx hb hml hown hts k_RX4_34 (c_X4_in l D cI cR x 0 ((nA (ρ 0)) - 1) (by omega) (by omega)) ⟨rfl, rfl, Nat.le_of_ble_eq_true rfl, Nat.le_of_ble_eq_true rfl⟩ (va_P_nil) hK rfl hl rfl (Nat.le_of_ble_eq_true rfl) dX4_isAddress_8 ⟨Nat.zero_le _, Nat.zero_le _⟩ ?_
  exact nv_retz hx hb hr hlocks (zB_z _) (by rw [btw_inB (by omega)]) dX4_isAddress_11
set_option maxHeartbeats 4000000 in
set_option maxRecDepth 100000 in
theorem c_X4_isWord (l : Launch) (D : va_G) (cI cR : ClassId) (h : Nat) (a : Nat → Nat) (ρ : Nat → Nat → Nat) (sv : Nat) (wv : Nat → Nat) (nw : Nat → Nat) (b : Nat → Nat) (ln : Nat) (at0 : Nat) (wd : Nat) (hh : Int64) (x : Int32)  (hw : wf (ρ 0)) : MetR l yX4_isWord cX4_isWord 2 (some .boolean) (rmK 1 22) (nPre D (nTy cI cR) [.ref h, .int x] (wMd h a cI (rwF ρ) sv (nF wv) (nF nw) (nF b) ln at0 wd hh)) (zB (inB x (2 ^ ρ 0 1))) := by
  refine met_read rfl (Nat.le_of_ble_eq_true rfl) ?_
  intro p e s m args below meth c ls hx hb hml hr hlocks hown hts hP hK hl
  have hl : lv_has ls 2 [(0, .ref h), (1, .int x)] := hl
  have hA41 := hw.w41
  have hA33 := hw.a33
  have hA48 := hw.a48
  obtain ⟨hR2, hR, hB1, hB, hS1, hS, -⟩ := id hw
  have h1024 := p2_10 hB
  have hse := sh1e (ρ 0 1)
  refine lv_iload_n hx hb dX4_isWord_0 rfl (lv_at hl 1 rfl) ?_
  refine lv_iconst (v := nI 0) hx hb dX4_isWord_1 (by decide) ?_
  refine lv_iconst (v := nI 1) hx hb dX4_isWord_2 (by decide) ?_
  refine lv_aload_n hx hb dX4_isWord_3 rfl (lv_at hl 0 rfl) ?_
  refine va_get (D := D) (ci := 4) (v := .ref (a 0)) (C := RX4) (T := TX4) (N := 9) hx hb hts inX4 hown hK hP 0 rfl rfl 0 (by decide) (hts _ fl_RX4_7) (fun _ h9 => h9) rfl dX4_isWord_4 ?_
  refine lv_iconst (v := nI 1) hx hb dX4_isWord_7 (by decide) ?_
  refine nv_iald (D := D) (v := nI (ρ 0 1)) hx hb hK hP 1 0 rfl rfl (k := 1) (by omega) (by decide) (rw_lo (by omega)) dX4_isWord_8 ?_
  refine nv_ishl hx hb dX4_isWord_9 (by omega) ?_
  refine lv_iconst (v := nI 1) hx hb dX4_isWord_10 (by decide) ?_
  refine nv_isub hx hb dX4_isWord_11 (sh1_pos _) ?_
  refine nv_callS [.int x, .int (nI 0), .int (nI ((1 <<< (ρ 0 1)) - 1))] [] hx hb hml hown hts k_RX4_34 (c_X4_in l D cI cR x 0 ((1 <<< (ρ 0 1)) - 1) (by omega) (by omega)) ⟨rfl, rfl, Nat.le_of_ble_eq_true rfl, Nat.le_of_ble_eq_true rfl⟩ (va_P_nil) hK rfl hl rfl (Nat.le_of_ble_eq_true rfl) dX4_isWord_12 ⟨Nat.zero_le _, Nat.zero_le _⟩ ?_
  exact nv_retz hx hb hr hlocks (zB_z _) (by rw [show 1 <<< ρ 0 1 - 1 = 2 ^ ρ 0 1 - 1 by omega, btw_inB (Nat.two_pow_pos _)]) dX4_isWord_15
set_option maxHeartbeats 4000000 in
set_option maxRecDepth 100000 in
theorem c_X4_bit (l : Launch) (D : va_G) (cI cR : ClassId) (h : Nat) (a : Nat → Nat) (ρ : Nat → Nat → Nat) (sv : Nat) (wv : Nat → Nat) (nw : Nat → Nat) (b : Nat → Nat) (ln : Nat) (at0 : Nat) (wd : Nat) (hh : Int64) (ad : Nat) (k : Nat)  (hw : wf (ρ 0)) (h1 : ad < nA (ρ 0)) (h2 : k < 20) : MetR l yX4_bit cX4_bit 4 (some .int) (rmK 1 22) (nPre D (nTy cI cR) [.ref h, .int (nI ad), .int (nI k)] (wMd h a cI (rwF ρ) sv (nF wv) (nF nw) (nF b) ln at0 wd hh)) (nI ((sbit (ρ 0) ad k).toNat)) := by
  refine met_read rfl (Nat.le_of_ble_eq_true rfl) ?_
  intro p e s m args below meth c ls hx hb hml hr hlocks hown hts hP hK hl
  have hl : lv_has ls 4 [(0, .ref h), (1, .int (nI ad)), (2, .int (nI k))] := hl
  have hA41 := hw.w41
  have hA33 := hw.a33
  have hA48 := hw.a48
  obtain ⟨hR2, hR, hB1, hB, hS1, hS, -⟩ := id hw
  have h1024 := p2_10 hB
  have hwd := hw.wd h1
  have hp2 := Nat.mod_lt (pop (ρ 0 (19 + ad))) (show 0 < 2 by decide)
  have hp16 := pop_le (ρ 0 (19 + ad))
  refine lv_aload_n hx hb dX4_bit_0 rfl (lv_at hl 0 rfl) ?_
  refine va_get (D := D) (ci := 4) (v := .ref (a 0)) (C := RX4) (T := TX4) (N := 9) hx hb hts inX4 hown hK hP 0 rfl rfl 0 (by decide) (hts _ fl_RX4_7) (fun _ h9 => h9) rfl dX4_bit_1 ?_
  refine lv_bipush (v := nI 19) hx hb dX4_bit_4 (by decide) ?_
  refine lv_iload_n hx hb dX4_bit_6 rfl (lv_at hl 1 rfl) ?_
  refine nv_iadd hx hb dX4_bit_7 ?_
  refine nv_iald (D := D) (v := nI (ρ 0 (19 + ad))) hx hb hK hP 1 0 rfl rfl (k := 19 + ad) (by omega) (by decide) (rw_lo (by omega)) dX4_bit_8 ?_
  refine lv_istore_n (lv' := [(3, .int (nI (ρ 0 (19 + ad)))), (0, .ref h), (1, .int (nI ad)), (2, .int (nI k))]) hx hb dX4_bit_9 rfl hl (by decide) rfl (fun ls hl => ?_)
  refine lv_iload_n hx hb dX4_bit_10 rfl (lv_at hl 3 rfl) ?_
  refine lv_aload_n hx hb dX4_bit_11 rfl (lv_at hl 1 rfl) ?_
  refine va_get (D := D) (ci := 4) (v := .ref (a 0)) (C := RX4) (T := TX4) (N := 9) hx hb hts inX4 hown hK hP 0 rfl rfl 0 (by decide) (hts _ fl_RX4_7) (fun _ h9 => h9) rfl dX4_bit_12 ?_
  refine lv_iconst (v := nI 1) hx hb dX4_bit_15 (by decide) ?_
  refine nv_iald (D := D) (v := nI (ρ 0 1)) hx hb hK hP 1 0 rfl rfl (k := 1) (by omega) (by decide) (rw_lo (by omega)) dX4_bit_16 ?_
  refine nv_icmp_ge (tgt := 28) hx hb dX4_bit_17 (by decide) (by omega) (by omega) (fun q_17 => ?_) (fun q_17 => ?_)
  · refine lv_iconst (v := nI 1) hx hb dX4_bit_28 (by decide) ?_
    refine lv_iload_n hx hb dX4_bit_29 rfl (lv_at hl 0 rfl) ?_
    refine nv_callS [.int (nI (ρ 0 (19 + ad)))] [.int (nI 1)] hx hb hml hown hts k_RX4_45 (c_X4_ones l D cI cR (ρ 0 (19 + ad)) (by omega)) ⟨rfl, rfl, Nat.le_of_ble_eq_true rfl, Nat.le_of_ble_eq_true rfl⟩ (va_P_nil) hK rfl hl rfl (Nat.le_of_ble_eq_true rfl) dX4_bit_30 ⟨Nat.zero_le _, Nat.zero_le _⟩ ?_
    refine lv_iconst (v := nI 2) hx hb dX4_bit_33 (by decide) ?_
    refine nv_irem hx hb dX4_bit_34 (by omega) (by omega) (by omega) ?_
    refine nv_isub hx hb dX4_bit_35 (by omega) ?_
    exact nv_ret hx hb hr hlocks (congrArg nI (sb_hi q_17)) dX4_bit_36
  · refine lv_iload_n hx hb dX4_bit_20 rfl (lv_at hl 0 rfl) ?_
    refine lv_iload_n hx hb dX4_bit_21 rfl (lv_at hl 3 rfl) ?_
    refine nv_ishr hx hb dX4_bit_22 (by omega) (by omega) ?_
    refine lv_iconst (v := nI 1) hx hb dX4_bit_23 (by decide) ?_
    refine nv_iand hx hb dX4_bit_24 ?_
    refine nv_top (((ρ 0 (19 + ad)).testBit k).toNat) (nw_tb _ _) ?_
    refine lv_goto (tgt := 36) hx hb dX4_bit_25 (by decide) ?_
    exact nv_ret hx hb hr hlocks (congrArg nI (congrArg Bool.toNat (sb_lo q_17))) dX4_bit_36
set_option maxHeartbeats 4000000 in
set_option maxRecDepth 100000 in
theorem c_X4_told (l : Launch) (D : va_G) (cI cR : ClassId) (h : Nat) (a : Nat → Nat) (ρ : Nat → Nat → Nat) (sv : Nat) (wv : Nat → Nat) (nw : Nat → Nat) (b : Nat → Nat) (ln : Nat) (at0 : Nat) (wd : Nat) (hh : Int64) (w : Nat)  (hw : wf (ρ 0)) (h8 : 8 ≤ w) (h1 : w < nW (ρ 0)) : MetR l yX4_told cX4_told 6 (some .int) (rmK 2 45) (nPre D (nTy cI cR) [.ref h, .int (nI w)] (wMd h a cI (rwF ρ) sv (nF wv) (nF nw) (nF b) ln at0 wd hh)) (nI (mk (tdB (ρ 0) w) (ρ 0 0))) := by
  refine met_read rfl (Nat.le_of_ble_eq_true rfl) ?_
  intro p e s m args below meth c ls hx hb hml hr hlocks hown hts hP hK hl
  have hl : lv_has ls 6 [(0, .ref h), (1, .int (nI w))] := hl
  have hA41 := hw.w41
  have hA33 := hw.a33
  have hA48 := hw.a48
  obtain ⟨hR2, hR, hB1, hB, hS1, hS, -⟩ := id hw
  have h1024 := p2_10 hB
  have ht : (w - 8) / (ρ 0 1 + 1) < ρ 0 2 := Nat.div_lt_of_lt_mul (by unfold nW at h1; rw [Nat.mul_comm]; omega)
  have hm : (w - 8) % (ρ 0 1 + 1) < ρ 0 1 + 1 := Nat.mod_lt _ (by omega)
  refine lv_iload_n hx hb dX4_told_0 rfl (lv_at hl 1 rfl) ?_
  refine lv_bipush (v := nI 8) hx hb dX4_told_1 (by decide) ?_
  refine nv_isub hx hb dX4_told_3 (by omega) ?_
  refine lv_aload_n hx hb dX4_told_4 rfl (lv_at hl 0 rfl) ?_
  refine va_get (D := D) (ci := 4) (v := .ref (a 0)) (C := RX4) (T := TX4) (N := 9) hx hb hts inX4 hown hK hP 0 rfl rfl 0 (by decide) (hts _ fl_RX4_7) (fun _ h9 => h9) rfl dX4_told_5 ?_
  refine lv_iconst (v := nI 1) hx hb dX4_told_8 (by decide) ?_
  refine nv_iald (D := D) (v := nI (ρ 0 1)) hx hb hK hP 1 0 rfl rfl (k := 1) (by omega) (by decide) (rw_lo (by omega)) dX4_told_9 ?_
  refine lv_iconst (v := nI 1) hx hb dX4_told_10 (by decide) ?_
  refine nv_iadd hx hb dX4_told_11 ?_
  refine nv_idiv hx hb dX4_told_12 (by omega) (by omega) (by omega) ?_
  refine lv_istore_n (lv' := [(2, .int (nI ((w - 8) / ((ρ 0 1) + 1)))), (0, .ref h), (1, .int (nI w))]) hx hb dX4_told_13 rfl hl (by decide) rfl (fun ls hl => ?_)
  refine lv_iload_n hx hb dX4_told_14 rfl (lv_at hl 2 rfl) ?_
  refine lv_bipush (v := nI 8) hx hb dX4_told_15 (by decide) ?_
  refine nv_isub hx hb dX4_told_17 (by omega) ?_
  refine lv_aload_n hx hb dX4_told_18 rfl (lv_at hl 1 rfl) ?_
  refine va_get (D := D) (ci := 4) (v := .ref (a 0)) (C := RX4) (T := TX4) (N := 9) hx hb hts inX4 hown hK hP 0 rfl rfl 0 (by decide) (hts _ fl_RX4_7) (fun _ h9 => h9) rfl dX4_told_19 ?_
  refine lv_iconst (v := nI 1) hx hb dX4_told_22 (by decide) ?_
  refine nv_iald (D := D) (v := nI (ρ 0 1)) hx hb hK hP 1 0 rfl rfl (k := 1) (by omega) (by decide) (rw_lo (by omega)) dX4_told_23 ?_
  refine lv_iconst (v := nI 1) hx hb dX4_told_24 (by decide) ?_
  refine nv_iadd hx hb dX4_told_25 ?_
  refine nv_irem hx hb dX4_told_26 (by omega) (by omega) (by omega) ?_
  refine lv_istore_n (lv' := [(3, .int (nI ((w - 8) % ((ρ 0 1) + 1)))), (2, .int (nI ((w - 8) / ((ρ 0 1) + 1)))), (0, .ref h), (1, .int (nI w))]) hx hb dX4_told_27 rfl hl (by decide) rfl (fun ls hl => ?_)
  refine lv_iconst (v := nI 0) hx hb dX4_told_28 (by decide) ?_
  refine lv_istore (lv' := [(4, .int (nI 0)), (3, .int (nI ((w - 8) % ((ρ 0 1) + 1)))), (2, .int (nI ((w - 8) / ((ρ 0 1) + 1)))), (0, .ref h), (1, .int (nI w))]) hx hb dX4_told_29 hl (by decide) rfl (fun ls hl => ?_)
  refine lv_iconst (v := nI 0) hx hb dX4_told_31 (by decide) ?_
  refine lv_istore (lv' := [(5, .int (nI 0)), (4, .int (nI 0)), (3, .int (nI ((w - 8) % ((ρ 0 1) + 1)))), (2, .int (nI ((w - 8) / ((ρ 0 1) + 1)))), (0, .ref h), (1, .int (nI w))]) hx hb dX4_told_32 hl (by decide) rfl (fun ls hl => ?_)
  have L34 : ∀ (n34 i : Nat), ρ 0 0 + 1 ≤ i + n34 → i ≤ ρ 0 0 → ∀ (ls : Array Slot), lv_has ls 6 [(5, .int (nI i)), (4, .int (nI (mk (tdB (ρ 0) w) i))), (3, .int (nI ((w - 8) % ((ρ 0 1) + 1)))), (2, .int (nI ((w - 8) / ((ρ 0 1) + 1)))), (0, .ref h), (1, .int (nI w))] → W p l e (rmK 2 45) s m args below meth c s.heap [] 0 0 (MQ below (QcRead (nI (mk (tdB (ρ 0) w) (ρ 0 0)))) args s 0 0 (fun _ => False)) (F0 m 34 ls []) := by
    intro n34
    induction n34 with
    | zero =>
      intro i h1_34 h2_34
      exact False.elim (by omega)
    | succ n34 ih34 =>
      intro i h1_34 h2_34  ls hl
      refine lv_iload hx hb dX4_told_34 (lv_at hl 0 rfl) ?_
      refine lv_aload_n hx hb dX4_told_36 rfl (lv_at hl 4 rfl) ?_
      refine va_get (D := D) (ci := 4) (v := .ref (a 0)) (C := RX4) (T := TX4) (N := 9) hx hb hts inX4 hown hK hP 0 rfl rfl 0 (by decide) (hts _ fl_RX4_7) (fun _ h9 => h9) rfl dX4_told_37 ?_
      refine lv_iconst (v := nI 0) hx hb dX4_told_40 (by decide) ?_
      refine nv_iald (D := D) (v := nI (ρ 0 0)) hx hb hK hP 1 0 rfl rfl (k := 0) (by omega) (by decide) (rw_lo (by omega)) dX4_told_41 ?_
      refine nv_icmp_ge (tgt := 75) hx hb dX4_told_42 (by decide) (by omega) (by omega) (fun q_42 => ?_) (fun q_42 => ?_)
      · refine lv_iload hx hb dX4_told_75 (lv_at hl 1 rfl) ?_
        exact nv_ret hx hb hr hlocks (congrArg nI (by rw [show i = ρ 0 0 by omega])) dX4_told_77
      · refine lv_iload hx hb dX4_told_45 (lv_at hl 1 rfl) ?_
        refine lv_aload_n hx hb dX4_told_47 rfl (lv_at hl 4 rfl) ?_
        refine lv_aload_n hx hb dX4_told_48 rfl (lv_at hl 4 rfl) ?_
        refine va_get (D := D) (ci := 4) (v := .ref (a 0)) (C := RX4) (T := TX4) (N := 9) hx hb hts inX4 hown hK hP 0 rfl rfl 0 (by decide) (hts _ fl_RX4_7) (fun _ h9 => h9) rfl dX4_told_49 ?_
        refine lv_iconst (v := nI 2) hx hb dX4_told_52 (by decide) ?_
        refine nv_iald (D := D) (v := nI (ρ 0 2)) hx hb hK hP 1 0 rfl rfl (k := 2) (by omega) (by decide) (rw_lo (by omega)) dX4_told_53 ?_
        refine lv_iload hx hb dX4_told_54 (lv_at hl 0 rfl) ?_
        refine nv_imul hx hb dX4_told_56 ?_
        refine lv_iload_n hx hb dX4_told_57 rfl (lv_at hl 3 rfl) ?_
        refine nv_iadd hx hb dX4_told_58 ?_
        refine lv_iload_n hx hb dX4_told_59 rfl (lv_at hl 2 rfl) ?_
        refine nv_callV [.int (nI (((ρ 0 2) * i) + ((w - 8) / ((ρ 0 1) + 1)))), .int (nI ((w - 8) % ((ρ 0 1) + 1)))] [.int (nI (mk (tdB (ρ 0) w) i))] hx hb hml hown hts k_RX4_49 (c_X4_bit l D cI cR h a ρ sv wv nw b ln at0 wd hh (((ρ 0 2) * i) + ((w - 8) / ((ρ 0 1) + 1))) ((w - 8) % ((ρ 0 1) + 1)) hw (sr_lt (by omega) ht) (by omega)) ⟨rfl, rfl, Nat.le_of_ble_eq_true rfl, Nat.le_of_ble_eq_true rfl⟩ hP hK 4 rfl rfl rfl rfl hl rfl (Nat.le_of_ble_eq_true rfl) dX4_told_60 ⟨Nat.zero_le _, Nat.zero_le _⟩ ?_
        refine lv_iload hx hb dX4_told_63 (lv_at hl 0 rfl) ?_
        refine nv_ishl hx hb dX4_told_65 (by omega) ?_
        refine nv_ior hx hb dX4_told_66 ?_
        refine lv_istore (lv' := [(4, .int (nI ((mk (tdB (ρ 0) w) i) ||| (((sbit (ρ 0) (((ρ 0 2) * i) + ((w - 8) / ((ρ 0 1) + 1))) ((w - 8) % ((ρ 0 1) + 1))).toNat) <<< i)))), (5, .int (nI i)), (3, .int (nI ((w - 8) % ((ρ 0 1) + 1)))), (2, .int (nI ((w - 8) / ((ρ 0 1) + 1)))), (0, .ref h), (1, .int (nI w))]) hx hb dX4_told_67 hl (by decide) rfl (fun ls hl => ?_)
        refine nv_inc (k := 1) (lv' := [(5, .int (nI (i + 1))), (4, .int (nI ((mk (tdB (ρ 0) w) i) ||| (((sbit (ρ 0) (((ρ 0 2) * i) + ((w - 8) / ((ρ 0 1) + 1))) ((w - 8) % ((ρ 0 1) + 1))).toNat) <<< i)))), (3, .int (nI ((w - 8) % ((ρ 0 1) + 1)))), (2, .int (nI ((w - 8) / ((ρ 0 1) + 1)))), (0, .ref h), (1, .int (nI w))]) hx hb dX4_told_69 hl rfl (by decide) rfl (fun ls hl => ?_)
        refine lv_goto (tgt := 34) hx hb dX4_told_72 (by decide) ?_
        exact ih34 (i + 1) (by omega) (by omega)  ls (lv_sub hl [0, 1, 2, 3, 4, 5] rfl)
  exact L34 (ρ 0 0 + 1) 0 (by omega) (by omega)  ls (lv_sub hl [0, 1, 2, 3, 4, 5] rfl)
set_option maxHeartbeats 4000000 in
set_option maxRecDepth 100000 in
theorem c_X4_right (l : Launch) (D : va_G) (cI cR : ClassId) (h : Nat) (a : Nat → Nat) (ρ : Nat → Nat → Nat) (sv : Nat) (wv : Nat → Nat) (nw : Nat → Nat) (b : Nat → Nat) (ln : Nat) (at0 : Nat) (wd : Nat) (hh : Int64) (w : Nat)  (hw : wf (ρ 0)) (h1 : w < nW (ρ 0)) : MetR l yX4_right cX4_right 4 (some .int) (rmK 3 70) (nPre D (nTy cI cR) [.ref h, .int (nI w)] (wMd h a cI (rwF ρ) sv (nF wv) (nF nw) (nF b) ln at0 wd hh)) (nI (rtM (ρ 0) w)) := by
  refine met_read rfl (Nat.le_of_ble_eq_true rfl) ?_
  intro p e s m args below meth c ls hx hb hml hr hlocks hown hts hP hK hl
  have hl : lv_has ls 4 [(0, .ref h), (1, .int (nI w))] := hl
  have hA41 := hw.w41
  have hA33 := hw.a33
  have hA48 := hw.a48
  obtain ⟨hR2, hR, hB1, hB, hS1, hS, -⟩ := id hw
  have h1024 := p2_10 hB
  have hc1 := crN_le hw h1
  refine lv_iload_n hx hb dX4_right_0 rfl (lv_at hl 1 rfl) ?_
  refine lv_bipush (v := nI 8) hx hb dX4_right_1 (by decide) ?_
  refine nv_icmp_lt (tgt := 43) hx hb dX4_right_3 (by decide) (by omega) (by omega) (fun q_3 => ?_) (fun q_3 => ?_)
  · refine lv_iconst (v := nI 0) hx hb dX4_right_43 (by decide) ?_
    refine lv_istore_n (lv' := [(2, .int (nI 0)), (0, .ref h), (1, .int (nI w))]) hx hb dX4_right_44 rfl hl (by decide) rfl (fun ls hl => ?_)
    refine lv_iconst (v := nI 0) hx hb dX4_right_45 (by decide) ?_
    refine lv_istore_n (lv' := [(3, .int (nI 0)), (2, .int (nI 0)), (0, .ref h), (1, .int (nI w))]) hx hb dX4_right_46 rfl hl (by decide) rfl (fun ls hl => ?_)
    have L47 : ∀ (n47 i : Nat), ρ 0 0 + 1 ≤ i + n47 → i ≤ ρ 0 0 → ∀ (ls : Array Slot), lv_has ls 4 [(3, .int (nI i)), (2, .int (nI (mk (ihb (ρ 0) w) i))), (0, .ref h), (1, .int (nI w))] → W p l e (rmK 3 70) s m args below meth c s.heap [] 0 0 (MQ below (QcRead (nI (rtM (ρ 0) w))) args s 0 0 (fun _ => False)) (F0 m 47 ls []) := by
      intro n47
      induction n47 with
      | zero =>
        intro i h1_47 h2_47
        exact False.elim (by omega)
      | succ n47 ih47 =>
        intro i h1_47 h2_47  ls hl
        refine lv_iload_n hx hb dX4_right_47 rfl (lv_at hl 0 rfl) ?_
        refine lv_aload_n hx hb dX4_right_48 rfl (lv_at hl 2 rfl) ?_
        refine va_get (D := D) (ci := 4) (v := .ref (a 0)) (C := RX4) (T := TX4) (N := 9) hx hb hts inX4 hown hK hP 0 rfl rfl 0 (by decide) (hts _ fl_RX4_7) (fun _ h9 => h9) rfl dX4_right_49 ?_
        refine lv_iconst (v := nI 0) hx hb dX4_right_52 (by decide) ?_
        refine nv_iald (D := D) (v := nI (ρ 0 0)) hx hb hK hP 1 0 rfl rfl (k := 0) (by omega) (by decide) (rw_lo (by omega)) dX4_right_53 ?_
        refine nv_icmp_ge (tgt := 93) hx hb dX4_right_54 (by decide) (by omega) (by omega) (fun q_54 => ?_) (fun q_54 => ?_)
        · refine lv_iload_n hx hb dX4_right_93 rfl (lv_at hl 1 rfl) ?_
          exact nv_ret hx hb hr hlocks (congrArg nI (by rw [show i = ρ 0 0 by omega]; exact rtm_i q_3)) dX4_right_94
        · refine lv_iload_n hx hb dX4_right_57 rfl (lv_at hl 1 rfl) ?_
          refine lv_aload_n hx hb dX4_right_58 rfl (lv_at hl 2 rfl) ?_
          refine va_get (D := D) (ci := 4) (v := .ref (a 0)) (C := RX4) (T := TX4) (N := 9) hx hb hts inX4 hown hK hP 0 rfl rfl 0 (by decide) (hts _ fl_RX4_7) (fun _ h9 => h9) rfl dX4_right_59 ?_
          refine lv_iconst (v := nI 3) hx hb dX4_right_62 (by decide) ?_
          refine lv_iload_n hx hb dX4_right_63 rfl (lv_at hl 0 rfl) ?_
          refine nv_iadd hx hb dX4_right_64 ?_
          refine nv_iald (D := D) (v := nI (ρ 0 (3 + i))) hx hb hK hP 1 0 rfl rfl (k := 3 + i) (by omega) (by decide) (rw_lo (by omega)) dX4_right_65 ?_
          refine lv_iload_n hx hb dX4_right_66 rfl (lv_at hl 3 rfl) ?_
          refine lv_iconst (v := nI 2) hx hb dX4_right_67 (by decide) ?_
          refine nv_idiv hx hb dX4_right_68 (by omega) (by omega) (by omega) ?_
          refine nv_ishr hx hb dX4_right_69 (by have := hw.cd (r := i) (by omega); omega) (by omega) ?_
          refine lv_iconst (v := nI 1) hx hb dX4_right_70 (by decide) ?_
          refine nv_iand hx hb dX4_right_71 ?_
          refine nv_top (((ρ 0 (3 + i)).testBit (w / 2)).toNat) (nw_tb _ _) ?_
          refine lv_iload_n hx hb dX4_right_72 rfl (lv_at hl 3 rfl) ?_
          refine lv_iconst (v := nI 2) hx hb dX4_right_73 (by decide) ?_
          have htn := toNat_le ((ρ 0 (3 + i)).testBit (w / 2))
          refine nv_irem hx hb dX4_right_74 (by omega) (by omega) (by omega) ?_
          have J75 : ∀ (ls : Array Slot), lv_has ls 4 [(3, .int (nI i)), (2, .int (nI (mk (ihb (ρ 0) w) i))), (0, .ref h), (1, .int (nI w))] → W p l e (rmK 3 70) s m args below meth c s.heap [] 0 0 (MQ below (QcRead (nI (rtM (ρ 0) w))) args s 0 0 (fun _ => False)) (F0 m 85 ls [.int (nI ((ihb (ρ 0) w i).toNat <<< i)), .int (nI (mk (ihb (ρ 0) w) i))]) := by
            intro ls hl
            refine nv_ior hx hb dX4_right_85 ?_
            refine lv_istore_n (lv' := [(2, .int (nI ((mk (ihb (ρ 0) w) i) ||| ((ihb (ρ 0) w i).toNat <<< i)))), (3, .int (nI i)), (0, .ref h), (1, .int (nI w))]) hx hb dX4_right_86 rfl hl (by decide) rfl (fun ls hl => ?_)
            refine nv_inc (k := 1) (lv' := [(3, .int (nI (i + 1))), (2, .int (nI ((mk (ihb (ρ 0) w) i) ||| ((ihb (ρ 0) w i).toNat <<< i)))), (0, .ref h), (1, .int (nI w))]) hx hb dX4_right_87 hl rfl (by decide) rfl (fun ls hl => ?_)
            refine lv_goto (tgt := 47) hx hb dX4_right_90 (by decide) ?_
            exact ih47 (i + 1) (by omega) (by omega)  ls (lv_sub hl [0, 1, 2, 3] rfl)
          refine nv_icmp_ne (tgt := 84) hx hb dX4_right_75 (by decide) (by omega) (by omega) (fun q_75 => ?_) (fun q_75 => ?_)
          · refine lv_iconst (v := nI 0) hx hb dX4_right_84 (by decide) ?_
            refine nv_top ((ihb (ρ 0) w i).toNat <<< i) (by rw [ih_0 q_75]; exact (Nat.zero_shiftLeft i).symm) ?_
            exact J75 ls (lv_sub hl [0, 1, 2, 3] rfl)
          · refine lv_iconst (v := nI 1) hx hb dX4_right_78 (by decide) ?_
            refine lv_iload_n hx hb dX4_right_79 rfl (lv_at hl 0 rfl) ?_
            refine nv_ishl hx hb dX4_right_80 (by omega) ?_
            refine lv_goto (tgt := 85) hx hb dX4_right_81 (by decide) ?_
            refine nv_top ((ihb (ρ 0) w i).toNat <<< i) (by rw [ih_1 q_75]; rfl) ?_
            exact J75 ls (lv_sub hl [0, 1, 2, 3] rfl)
    exact L47 (ρ 0 0 + 1) 0 (by omega) (by omega)  ls (lv_sub hl [0, 1, 2, 3] rfl)
  · refine lv_aload_n hx hb dX4_right_6 rfl (lv_at hl 0 rfl) ?_
    refine va_get (D := D) (ci := 4) (v := .ref (a 0)) (C := RX4) (T := TX4) (N := 9) hx hb hts inX4 hown hK hP 0 rfl rfl 0 (by decide) (hts _ fl_RX4_7) (fun _ h9 => h9) rfl dX4_right_7 ?_
    refine lv_bipush (v := nI 67) hx hb dX4_right_10 (by decide) ?_
    refine lv_iload_n hx hb dX4_right_12 rfl (lv_at hl 1 rfl) ?_
    refine nv_iadd hx hb dX4_right_13 ?_
    refine lv_bipush (v := nI 8) hx hb dX4_right_14 (by decide) ?_
    refine nv_isub hx hb dX4_right_16 (by omega) ?_
    refine nv_iald (D := D) (v := nI (ρ 0 ((67 + w) - 8))) hx hb hK hP 1 0 rfl rfl (k := (67 + w) - 8) (by omega) (by decide) (rw_lo (by omega)) dX4_right_17 ?_
    refine nv_top (crN (ρ 0) w) (cr_ix q_3) ?_
    refine lv_iconst (v := nI 1) hx hb dX4_right_18 (by decide) ?_
    refine nv_icmp_ne (tgt := 37) hx hb dX4_right_19 (by decide) (by omega) (by omega) (fun q_19 => ?_) (fun q_19 => ?_)
    · refine lv_aload_n hx hb dX4_right_37 rfl (lv_at hl 0 rfl) ?_
      refine lv_iload_n hx hb dX4_right_38 rfl (lv_at hl 1 rfl) ?_
      refine nv_callV [.int (nI w)] [] hx hb hml hown hts k_RX4_56 (c_X4_told l D cI cR h a ρ sv wv nw b ln at0 wd hh w hw q_3 h1) ⟨rfl, rfl, Nat.le_of_ble_eq_true rfl, Nat.le_of_ble_eq_true rfl⟩ hP hK 4 rfl rfl rfl rfl hl rfl (Nat.le_of_ble_eq_true rfl) dX4_right_39 ⟨Nat.zero_le _, Nat.zero_le _⟩ ?_
      exact nv_ret hx hb hr hlocks (by first | exact congrArg nI (rtm_1 q_3 q_19) | exact congrArg nI (rtm_0 q_3 q_19)) dX4_right_42
    · refine lv_aload_n hx hb dX4_right_22 rfl (lv_at hl 0 rfl) ?_
      refine nv_callV [] [] hx hb hml hown hts k_RX4_53 (c_X4_allRings l D cI cR h a ρ sv wv nw b ln at0 wd hh hw) ⟨rfl, rfl, Nat.le_of_ble_eq_true rfl, Nat.le_of_ble_eq_true rfl⟩ hP hK 4 rfl rfl rfl rfl hl rfl (Nat.le_of_ble_eq_true rfl) dX4_right_23 ⟨Nat.zero_le _, Nat.zero_le _⟩ ?_
      refine lv_aload_n hx hb dX4_right_26 rfl (lv_at hl 0 rfl) ?_
      refine lv_iload_n hx hb dX4_right_27 rfl (lv_at hl 1 rfl) ?_
      refine nv_callV [.int (nI w)] [.int (nI (1 <<< ρ 0 0 - 1))] hx hb hml hown hts k_RX4_56 (c_X4_told l D cI cR h a ρ sv wv nw b ln at0 wd hh w hw q_3 h1) ⟨rfl, rfl, Nat.le_of_ble_eq_true rfl, Nat.le_of_ble_eq_true rfl⟩ hP hK 4 rfl rfl rfl rfl hl rfl (Nat.le_of_ble_eq_true rfl) dX4_right_28 ⟨Nat.zero_le _, Nat.zero_le _⟩ ?_
      refine lv_iconst (v := -1) hx hb dX4_right_31 (by decide) ?_
      refine lv_ixor hx hb dX4_right_32 ?_
      refine nv_iandn hx hb dX4_right_33 ?_
      refine lv_goto (tgt := 42) hx hb dX4_right_34 (by decide) ?_
      exact nv_ret hx hb hr hlocks (by first | exact congrArg nI (rtm_1 q_3 q_19) | exact congrArg nI (rtm_0 q_3 q_19)) dX4_right_42
set_option maxHeartbeats 4000000 in
set_option maxRecDepth 100000 in
theorem c_X4_costOf (l : Launch) (D : va_G) (cI cR : ClassId) (h : Nat) (a : Nat → Nat) (ρ : Nat → Nat → Nat) (sv : Nat) (wv : Nat → Nat) (nw : Nat → Nat) (b : Nat → Nat) (ln : Nat) (at0 : Nat) (wd : Nat) (hh : Int64) (w : Nat)  (hw : wf (ρ 0)) (h1 : w < nW (ρ 0)) : MetR l yX4_costOf cX4_costOf 2 (some .int) (rmK 4 93) (nPre D (nTy cI cR) [.ref h, .int (nI w)] (wMd h a cI (rwF ρ) sv (nF wv) (nF nw) (nF b) ln at0 wd hh)) (nI (csN (ρ 0) w)) := by
  refine met_read rfl (Nat.le_of_ble_eq_true rfl) ?_
  intro p e s m args below meth c ls hx hb hml hr hlocks hown hts hP hK hl
  have hl : lv_has ls 2 [(0, .ref h), (1, .int (nI w))] := hl
  have hA41 := hw.w41
  have hA33 := hw.a33
  have hA48 := hw.a48
  obtain ⟨hR2, hR, hB1, hB, hS1, hS, -⟩ := id hw
  have h1024 := p2_10 hB
  refine lv_aload_n hx hb dX4_costOf_0 rfl (lv_at hl 0 rfl) ?_
  refine lv_iload_n hx hb dX4_costOf_1 rfl (lv_at hl 1 rfl) ?_
  refine nv_callV [.int (nI w)] [] hx hb hml hown hts k_RX4_59 (c_X4_right l D cI cR h a ρ sv wv nw b ln at0 wd hh w hw h1) ⟨rfl, rfl, Nat.le_of_ble_eq_true rfl, Nat.le_of_ble_eq_true rfl⟩ hP hK 4 rfl rfl rfl rfl hl rfl (Nat.le_of_ble_eq_true rfl) dX4_costOf_2 ⟨Nat.zero_le _, Nat.zero_le _⟩ ?_
  refine nv_callS [.int (nI (rtM (ρ 0) w))] [] hx hb hml hown hts k_RX4_45 (c_X4_ones l D cI cR (rtM (ρ 0) w) (rtM_lt hw w)) ⟨rfl, rfl, Nat.le_of_ble_eq_true rfl, Nat.le_of_ble_eq_true rfl⟩ (va_P_nil) hK rfl hl rfl (Nat.le_of_ble_eq_true rfl) dX4_costOf_5 ⟨Nat.zero_le _, Nat.zero_le _⟩ ?_
  refine lv_iload_n hx hb dX4_costOf_8 rfl (lv_at hl 1 rfl) ?_
  refine lv_bipush (v := nI 8) hx hb dX4_costOf_9 (by decide) ?_
  have J11 : ∀ (ls : Array Slot), lv_has ls 2 [(0, .ref h), (1, .int (nI w))] → W p l e (rmK 4 93) s m args below meth c s.heap [] 0 0 (MQ below (QcRead (nI (csN (ρ 0) w))) args s 0 0 (fun _ => False)) (F0 m 30 ls [.int (nI (crN (ρ 0) w)), .int (nI (pop (rtM (ρ 0) w)))]) := by
    intro ls hl
    refine nv_iadd hx hb dX4_costOf_30 ?_
    exact nv_ret hx hb hr hlocks (rfl) dX4_costOf_31
  refine nv_icmp_lt (tgt := 29) hx hb dX4_costOf_11 (by decide) (by omega) (by omega) (fun q_11 => ?_) (fun q_11 => ?_)
  · refine lv_iconst (v := nI 0) hx hb dX4_costOf_29 (by decide) ?_
    refine nv_top (crN (ρ 0) w) (by unfold crN; rw [if_pos q_11]) ?_
    exact J11 ls (lv_sub hl [0, 1] rfl)
  · refine lv_aload_n hx hb dX4_costOf_14 rfl (lv_at hl 0 rfl) ?_
    refine va_get (D := D) (ci := 4) (v := .ref (a 0)) (C := RX4) (T := TX4) (N := 9) hx hb hts inX4 hown hK hP 0 rfl rfl 0 (by decide) (hts _ fl_RX4_7) (fun _ h9 => h9) rfl dX4_costOf_15 ?_
    refine lv_bipush (v := nI 67) hx hb dX4_costOf_18 (by decide) ?_
    refine lv_iload_n hx hb dX4_costOf_20 rfl (lv_at hl 1 rfl) ?_
    refine nv_iadd hx hb dX4_costOf_21 ?_
    refine lv_bipush (v := nI 8) hx hb dX4_costOf_22 (by decide) ?_
    refine nv_isub hx hb dX4_costOf_24 (by omega) ?_
    refine nv_iald (D := D) (v := nI (ρ 0 ((67 + w) - 8))) hx hb hK hP 1 0 rfl rfl (k := (67 + w) - 8) (by omega) (by decide) (rw_lo (by omega)) dX4_costOf_25 ?_
    refine lv_goto (tgt := 30) hx hb dX4_costOf_26 (by decide) ?_
    refine nv_top (crN (ρ 0) w) (cr_ix q_11) ?_
    exact J11 ls (lv_sub hl [0, 1] rfl)
set_option maxHeartbeats 4000000 in
set_option maxRecDepth 100000 in
theorem c_X4_patches (l : Launch) (D : va_G) (cI cR : ClassId) (h : Nat) (a : Nat → Nat) (ρ : Nat → Nat → Nat) (sv : Nat) (wv : Nat → Nat) (nw : Nat → Nat) (b : Nat → Nat) (ln : Nat) (at0 : Nat) (wd : Nat) (hh : Int64)   (hw : wf (ρ 0)) : MetR l yX4_patches cX4_patches 3 (some .int) (rmK 1 20) (nPre D (nTy cI cR) [.ref h] (wMd h a cI (rwF ρ) sv (nF wv) (nF nw) (nF b) ln at0 wd hh)) (nI (pcN (ρ 0))) := by
  refine met_read rfl (Nat.le_of_ble_eq_true rfl) ?_
  intro p e s m args below meth c ls hx hb hml hr hlocks hown hts hP hK hl
  have hl : lv_has ls 3 [(0, .ref h)] := hl
  have hA41 := hw.w41
  have hA33 := hw.a33
  have hA48 := hw.a48
  obtain ⟨hR2, hR, hB1, hB, hS1, hS, -⟩ := id hw
  have h1024 := p2_10 hB
  refine lv_iconst (v := nI 0) hx hb dX4_patches_0 (by decide) ?_
  refine lv_istore_n (lv' := [(1, .int (nI 0)), (0, .ref h)]) hx hb dX4_patches_1 rfl hl (by decide) rfl (fun ls hl => ?_)
  refine lv_iconst (v := nI 0) hx hb dX4_patches_2 (by decide) ?_
  refine lv_istore_n (lv' := [(2, .int (nI 0)), (1, .int (nI 0)), (0, .ref h)]) hx hb dX4_patches_3 rfl hl (by decide) rfl (fun ls hl => ?_)
  have L4 : ∀ (n4 i : Nat), nA (ρ 0) + 1 ≤ i + n4 → i ≤ nA (ρ 0) → ∀ (ls : Array Slot), lv_has ls 3 [(2, .int (nI i)), (1, .int (nI (ct (fun a => ρ 0 (141 + a) != 0) i))), (0, .ref h)] → W p l e (rmK 1 20) s m args below meth c s.heap [] 0 0 (MQ below (QcRead (nI (pcN (ρ 0)))) args s 0 0 (fun _ => False)) (F0 m 4 ls []) := by
    intro n4
    induction n4 with
    | zero =>
      intro i h1_4 h2_4
      exact False.elim (by omega)
    | succ n4 ih4 =>
      intro i h1_4 h2_4  ls hl
      refine lv_iload_n hx hb dX4_patches_4 rfl (lv_at hl 0 rfl) ?_
      refine lv_aload_n hx hb dX4_patches_5 rfl (lv_at hl 2 rfl) ?_
      refine nv_callV [] [.int (nI i)] hx hb hml hown hts k_RX4_42 (c_X4_addresses l D cI cR h a ρ sv wv nw b ln at0 wd hh ) ⟨rfl, rfl, Nat.le_of_ble_eq_true rfl, Nat.le_of_ble_eq_true rfl⟩ hP hK 4 rfl rfl rfl rfl hl rfl (Nat.le_of_ble_eq_true rfl) dX4_patches_6 ⟨Nat.zero_le _, Nat.zero_le _⟩ ?_
      refine nv_icmp_ge (tgt := 40) hx hb dX4_patches_9 (by decide) (by omega) (by omega) (fun q_9 => ?_) (fun q_9 => ?_)
      · refine lv_iload_n hx hb dX4_patches_40 rfl (lv_at hl 1 rfl) ?_
        exact nv_ret hx hb hr hlocks (congrArg nI (by rw [show i = nA (ρ 0) by omega]; rfl)) dX4_patches_41
      · refine lv_iload_n hx hb dX4_patches_12 rfl (lv_at hl 1 rfl) ?_
        refine lv_aload_n hx hb dX4_patches_13 rfl (lv_at hl 2 rfl) ?_
        refine va_get (D := D) (ci := 4) (v := .ref (a 0)) (C := RX4) (T := TX4) (N := 9) hx hb hts inX4 hown hK hP 0 rfl rfl 0 (by decide) (hts _ fl_RX4_7) (fun _ h9 => h9) rfl dX4_patches_14 ?_
        refine lv_sipush (v := nI 141) hx hb dX4_patches_17 (by decide) ?_
        refine lv_iload_n hx hb dX4_patches_20 rfl (lv_at hl 0 rfl) ?_
        refine nv_iadd hx hb dX4_patches_21 ?_
        refine nv_iald (D := D) (v := ptF (ρ 0) i) hx hb hK hP 1 0 rfl rfl (k := 141 + i) (by omega) (by decide) (rw_pt (by omega)) dX4_patches_22 ?_
        refine lv_iconst (v := -1) hx hb dX4_patches_23 (by decide) ?_
        have J24 : ∀ (ls : Array Slot), lv_has ls 3 [(2, .int (nI i)), (1, .int (nI (ct (fun a => ρ 0 (141 + a) != 0) i))), (0, .ref h)] → W p l e (rmK 1 20) s m args below meth c s.heap [] 0 0 (MQ below (QcRead (nI (pcN (ρ 0)))) args s 0 0 (fun _ => False)) (F0 m 32 ls [.int (nI ((ρ 0 (141 + i) != 0).toNat)), .int (nI (ct (fun a => ρ 0 (141 + a) != 0) i))]) := by
          intro ls hl
          refine nv_iadd hx hb dX4_patches_32 ?_
          refine lv_istore_n (lv' := [(1, .int (nI ((ct (fun a => ρ 0 (141 + a) != 0) i) + ((ρ 0 (141 + i) != 0).toNat)))), (2, .int (nI i)), (0, .ref h)]) hx hb dX4_patches_33 rfl hl (by decide) rfl (fun ls hl => ?_)
          refine nv_inc (k := 1) (lv' := [(2, .int (nI (i + 1))), (1, .int (nI ((ct (fun a => ρ 0 (141 + a) != 0) i) + ((ρ 0 (141 + i) != 0).toNat)))), (0, .ref h)]) hx hb dX4_patches_34 hl rfl (by decide) rfl (fun ls hl => ?_)
          refine lv_goto (tgt := 4) hx hb dX4_patches_37 (by decide) ?_
          exact ih4 (i + 1) (by omega) (by omega)  ls (lv_sub hl [0, 1, 2] rfl)
        refine lv_icmp_eq (tgt := 31) hx hb dX4_patches_24 (by decide) (fun q_24 => ?_) (fun q_24 => ?_)
        · refine lv_iconst (v := nI 0) hx hb dX4_patches_31 (by decide) ?_
          refine nv_top ((ρ 0 (141 + i) != 0).toNat) (by rw [(ptF_m1 (hw.pt (by omega))).mp q_24]; rfl) ?_
          exact J24 ls (lv_sub hl [0, 1, 2] rfl)
        · refine lv_iconst (v := nI 1) hx hb dX4_patches_27 (by decide) ?_
          refine lv_goto (tgt := 32) hx hb dX4_patches_28 (by decide) ?_
          refine nv_top ((ρ 0 (141 + i) != 0).toNat) (by rw [bne_iff_ne.mpr (mt (ptF_m1 (hw.pt (show i < nA (ρ 0) by omega))).mpr q_24)]; rfl) ?_
          exact J24 ls (lv_sub hl [0, 1, 2] rfl)
  exact L4 (nA (ρ 0) + 1) 0 (by omega) (by omega)  ls (lv_sub hl [0, 1, 2] rfl)
set_option maxHeartbeats 4000000 in
set_option maxRecDepth 100000 in
theorem c_X4_picks (l : Launch) (D : va_G) (cI cR : ClassId) (h : Nat) (a : Nat → Nat) (ρ : Nat → Nat → Nat) (sv : Nat) (wv : Nat → Nat) (nw : Nat → Nat) (b : Nat → Nat) (ln : Nat) (at0 : Nat) (wd : Nat) (hh : Int64) (k : Nat)  (hw : wf (ρ 0)) (hk : k < 2 ^ 31) : MetR l yX4_picks cX4_picks 4 (some .int) (rmK 1 20) (nPre D (nTy cI cR) [.ref h, .int (nI k)] (wMd h a cI (rwF ρ) sv (nF wv) (nF nw) (nF b) ln at0 wd hh)) (nI (pkM wv (ρ 0) k)) := by
  refine met_read rfl (Nat.le_of_ble_eq_true rfl) ?_
  intro p e s m args below meth c ls hx hb hml hr hlocks hown hts hP hK hl
  have hl : lv_has ls 4 [(0, .ref h), (1, .int (nI k))] := hl
  have hA41 := hw.w41
  have hA33 := hw.a33
  have hA48 := hw.a48
  obtain ⟨hR2, hR, hB1, hB, hS1, hS, -⟩ := id hw
  have h1024 := p2_10 hB
  refine lv_aload_n hx hb dX4_picks_0 rfl (lv_at hl 0 rfl) ?_
  refine nv_callV [] [] hx hb hml hown hts k_RX4_53 (c_X4_allRings l D cI cR h a ρ sv wv nw b ln at0 wd hh hw) ⟨rfl, rfl, Nat.le_of_ble_eq_true rfl, Nat.le_of_ble_eq_true rfl⟩ hP hK 4 rfl rfl rfl rfl hl rfl (Nat.le_of_ble_eq_true rfl) dX4_picks_1 ⟨Nat.zero_le _, Nat.zero_le _⟩ ?_
  refine lv_istore_n (lv' := [(2, .int (nI (1 <<< ρ 0 0 - 1))), (0, .ref h), (1, .int (nI k))]) hx hb dX4_picks_4 rfl hl (by decide) rfl (fun ls hl => ?_)
  refine lv_iconst (v := nI 0) hx hb dX4_picks_5 (by decide) ?_
  refine lv_istore_n (lv' := [(3, .int (nI 0)), (2, .int (nI (1 <<< ρ 0 0 - 1))), (0, .ref h), (1, .int (nI k))]) hx hb dX4_picks_6 rfl hl (by decide) rfl (fun ls hl => ?_)
  have L7 : ∀ (n7 i : Nat), 4 + 1 ≤ i + n7 → i ≤ 4 → ∀ (ls : Array Slot), lv_has ls 4 [(3, .int (nI i)), (2, .int (nI (pkA wv (ρ 0 0) k i))), (0, .ref h), (1, .int (nI k))] → W p l e (rmK 1 20) s m args below meth c s.heap [] 0 0 (MQ below (QcRead (nI (pkM wv (ρ 0) k))) args s 0 0 (fun _ => False)) (F0 m 7 ls []) := by
    intro n7
    induction n7 with
    | zero =>
      intro i h1_7 h2_7
      exact False.elim (by omega)
    | succ n7 ih7 =>
      intro i h1_7 h2_7  ls hl
      refine lv_iload_n hx hb dX4_picks_7 rfl (lv_at hl 0 rfl) ?_
      refine lv_iconst (v := nI 4) hx hb dX4_picks_8 (by decide) ?_
      refine nv_icmp_ge (tgt := 39) hx hb dX4_picks_9 (by decide) (by omega) (by omega) (fun q_9 => ?_) (fun q_9 => ?_)
      · refine lv_iload_n hx hb dX4_picks_39 rfl (lv_at hl 1 rfl) ?_
        exact nv_ret hx hb hr hlocks (congrArg nI (by rw [show i = 4 by omega]; rfl)) dX4_picks_40
      · refine lv_iload_n hx hb dX4_picks_12 rfl (lv_at hl 1 rfl) ?_
        refine lv_aload_n hx hb dX4_picks_13 rfl (lv_at hl 2 rfl) ?_
        refine va_get (D := D) (ci := 4) (v := .ref (a 1)) (C := RX4) (T := TX4) (N := 9) hx hb hts inX4 hown hK hP 0 rfl rfl 2 (by decide) (hts _ fl_RX4_13) (fun _ h9 => h9) rfl dX4_picks_14 ?_
        refine lv_iconst (v := nI 2) hx hb dX4_picks_17 (by decide) ?_
        refine lv_iload_n hx hb dX4_picks_18 rfl (lv_at hl 0 rfl) ?_
        refine nv_imul hx hb dX4_picks_19 ?_
        refine lv_iconst (v := nI 1) hx hb dX4_picks_20 (by decide) ?_
        refine nv_iadd hx hb dX4_picks_21 ?_
        refine lv_iload_n hx hb dX4_picks_22 rfl (lv_at hl 3 rfl) ?_
        refine lv_iload_n hx hb dX4_picks_23 rfl (lv_at hl 0 rfl) ?_
        refine nv_ishr hx hb dX4_picks_24 (by omega) (by omega) ?_
        refine lv_iconst (v := nI 1) hx hb dX4_picks_25 (by decide) ?_
        refine nv_iand hx hb dX4_picks_26 ?_
        refine nv_isub hx hb dX4_picks_27 (by have := @Nat.and_le_right (k >>> i) 1; omega) ?_
        refine nv_top (wOn k i) (rfl) ?_
        refine nv_iald (D := D) (v := nI (wv (wOn k i))) hx hb hK hP 2 0 rfl rfl (k := wOn k i) (Nat.lt_trans (wOn_lt (by omega)) (by decide)) (by decide) (rfl) dX4_picks_28 ?_
        refine lv_iconst (v := -1) hx hb dX4_picks_29 (by decide) ?_
        refine lv_ixor hx hb dX4_picks_30 ?_
        refine nv_iandn hx hb dX4_picks_31 ?_
        refine lv_istore_n (lv' := [(2, .int (nI (nw_wo (pkA wv (ρ 0 0) k i) (wv (wOn k i))))), (3, .int (nI i)), (0, .ref h), (1, .int (nI k))]) hx hb dX4_picks_32 rfl hl (by decide) rfl (fun ls hl => ?_)
        refine nv_inc (k := 1) (lv' := [(3, .int (nI (i + 1))), (2, .int (nI (nw_wo (pkA wv (ρ 0 0) k i) (wv (wOn k i))))), (0, .ref h), (1, .int (nI k))]) hx hb dX4_picks_33 hl rfl (by decide) rfl (fun ls hl => ?_)
        refine lv_goto (tgt := 7) hx hb dX4_picks_36 (by decide) ?_
        exact ih7 (i + 1) (by omega) (by omega)  ls (lv_sub hl [0, 1, 2, 3] rfl)
  exact L7 5 0 (by omega) (by omega)  ls (lv_sub hl [0, 1, 2, 3] rfl)
set_option maxHeartbeats 4000000 in
set_option maxRecDepth 100000 in
theorem c_X4_raw (l : Launch) (D : va_G) (cI cR : ClassId) (h : Nat) (a : Nat → Nat) (ρ : Nat → Nat → Nat) (sv : Nat) (wv : Nat → Nat) (nw : Nat → Nat) (b : Nat → Nat) (ln : Nat) (at0 : Nat) (wd : Nat) (hh : Int64) (ad : Nat)  (hw : wf (ρ 0)) (h1 : ad < nA (ρ 0)) : MetR l yX4_raw cX4_raw 7 (some .int) (rmK 2 43) (nPre D (nTy cI cR) [.ref h, .int (nI ad)] (wMd h a cI (rwF ρ) sv (nF wv) (nF nw) (nF b) ln at0 wd hh)) (nI (rwM wv (ρ 0) ad)) := by
  refine met_read rfl (Nat.le_of_ble_eq_true rfl) ?_
  intro p e s m args below meth c ls hx hb hml hr hlocks hown hts hP hK hl
  have hl : lv_has ls 7 [(0, .ref h), (1, .int (nI ad))] := hl
  have hA41 := hw.w41
  have hA33 := hw.a33
  have hA48 := hw.a48
  obtain ⟨hR2, hR, hB1, hB, hS1, hS, -⟩ := id hw
  have h1024 := p2_10 hB
  obtain ⟨hd1, hd2, hd3⟩ := ad_div hS1 h1
  have hcd := hw.cd hd1
  have hpk := pkM_lt wv (ρ 0) (ρ 0 (3 + ad / ρ 0 2))
  have hpk2 := p2_16 hR
  refine lv_aload_n hx hb dX4_raw_0 rfl (lv_at hl 0 rfl) ?_
  refine lv_aload_n hx hb dX4_raw_1 rfl (lv_at hl 0 rfl) ?_
  refine va_get (D := D) (ci := 4) (v := .ref (a 0)) (C := RX4) (T := TX4) (N := 9) hx hb hts inX4 hown hK hP 0 rfl rfl 0 (by decide) (hts _ fl_RX4_7) (fun _ h9 => h9) rfl dX4_raw_2 ?_
  refine lv_iconst (v := nI 3) hx hb dX4_raw_5 (by decide) ?_
  refine lv_iload_n hx hb dX4_raw_6 rfl (lv_at hl 1 rfl) ?_
  refine lv_aload_n hx hb dX4_raw_7 rfl (lv_at hl 0 rfl) ?_
  refine va_get (D := D) (ci := 4) (v := .ref (a 0)) (C := RX4) (T := TX4) (N := 9) hx hb hts inX4 hown hK hP 0 rfl rfl 0 (by decide) (hts _ fl_RX4_7) (fun _ h9 => h9) rfl dX4_raw_8 ?_
  refine lv_iconst (v := nI 2) hx hb dX4_raw_11 (by decide) ?_
  refine nv_iald (D := D) (v := nI (ρ 0 2)) hx hb hK hP 1 0 rfl rfl (k := 2) (by omega) (by decide) (rw_lo (by omega)) dX4_raw_12 ?_
  refine nv_idiv hx hb dX4_raw_13 (by omega) (by omega) (by omega) ?_
  refine nv_iadd hx hb dX4_raw_14 ?_
  refine nv_iald (D := D) (v := nI (ρ 0 (3 + (ad / (ρ 0 2))))) hx hb hK hP 1 0 rfl rfl (k := 3 + (ad / (ρ 0 2))) (by omega) (by decide) (rw_lo (by omega)) dX4_raw_15 ?_
  refine nv_callV [.int (nI (ρ 0 (3 + (ad / (ρ 0 2)))))] [] hx hb hml hown hts k_RX4_87 (c_X4_picks l D cI cR h a ρ sv wv nw b ln at0 wd hh (ρ 0 (3 + (ad / (ρ 0 2)))) hw (by omega)) ⟨rfl, rfl, Nat.le_of_ble_eq_true rfl, Nat.le_of_ble_eq_true rfl⟩ hP hK 4 rfl rfl rfl rfl hl rfl (Nat.le_of_ble_eq_true rfl) dX4_raw_16 ⟨Nat.zero_le _, Nat.zero_le _⟩ ?_
  refine lv_istore_n (lv' := [(2, .int (nI (pkM wv (ρ 0) (ρ 0 (3 + (ad / (ρ 0 2))))))), (0, .ref h), (1, .int (nI ad))]) hx hb dX4_raw_19 rfl hl (by decide) rfl (fun ls hl => ?_)
  refine lv_bipush (v := nI 8) hx hb dX4_raw_20 (by decide) ?_
  refine lv_iload_n hx hb dX4_raw_22 rfl (lv_at hl 2 rfl) ?_
  refine lv_aload_n hx hb dX4_raw_23 rfl (lv_at hl 1 rfl) ?_
  refine va_get (D := D) (ci := 4) (v := .ref (a 0)) (C := RX4) (T := TX4) (N := 9) hx hb hts inX4 hown hK hP 0 rfl rfl 0 (by decide) (hts _ fl_RX4_7) (fun _ h9 => h9) rfl dX4_raw_24 ?_
  refine lv_iconst (v := nI 2) hx hb dX4_raw_27 (by decide) ?_
  refine nv_iald (D := D) (v := nI (ρ 0 2)) hx hb hK hP 1 0 rfl rfl (k := 2) (by omega) (by decide) (rw_lo (by omega)) dX4_raw_28 ?_
  refine nv_irem hx hb dX4_raw_29 (by omega) (by omega) (by omega) ?_
  refine lv_aload_n hx hb dX4_raw_30 rfl (lv_at hl 1 rfl) ?_
  refine va_get (D := D) (ci := 4) (v := .ref (a 0)) (C := RX4) (T := TX4) (N := 9) hx hb hts inX4 hown hK hP 0 rfl rfl 0 (by decide) (hts _ fl_RX4_7) (fun _ h9 => h9) rfl dX4_raw_31 ?_
  refine lv_iconst (v := nI 1) hx hb dX4_raw_34 (by decide) ?_
  refine nv_iald (D := D) (v := nI (ρ 0 1)) hx hb hK hP 1 0 rfl rfl (k := 1) (by omega) (by decide) (rw_lo (by omega)) dX4_raw_35 ?_
  refine lv_iconst (v := nI 1) hx hb dX4_raw_36 (by decide) ?_
  refine nv_iadd hx hb dX4_raw_37 ?_
  refine nv_imul hx hb dX4_raw_38 ?_
  refine nv_iadd hx hb dX4_raw_39 ?_
  refine lv_istore_n (lv' := [(3, .int (nI (8 + ((ad % (ρ 0 2)) * ((ρ 0 1) + 1))))), (2, .int (nI (pkM wv (ρ 0) (ρ 0 (3 + (ad / (ρ 0 2))))))), (0, .ref h), (1, .int (nI ad))]) hx hb dX4_raw_40 rfl hl (by decide) rfl (fun ls hl => ?_)
  refine lv_iconst (v := nI 0) hx hb dX4_raw_41 (by decide) ?_
  refine lv_istore (lv' := [(4, .int (nI 0)), (3, .int (nI (8 + ((ad % (ρ 0 2)) * ((ρ 0 1) + 1))))), (2, .int (nI (pkM wv (ρ 0) (ρ 0 (3 + (ad / (ρ 0 2))))))), (0, .ref h), (1, .int (nI ad))]) hx hb dX4_raw_42 hl (by decide) rfl (fun ls hl => ?_)
  refine lv_iconst (v := nI 0) hx hb dX4_raw_44 (by decide) ?_
  refine lv_istore (lv' := [(5, .int (nI 0)), (4, .int (nI 0)), (3, .int (nI (8 + ((ad % (ρ 0 2)) * ((ρ 0 1) + 1))))), (2, .int (nI (pkM wv (ρ 0) (ρ 0 (3 + (ad / (ρ 0 2))))))), (0, .ref h), (1, .int (nI ad))]) hx hb dX4_raw_45 hl (by decide) rfl (fun ls hl => ?_)
  have L47 : ∀ (n47 i : Nat), ρ 0 1 + 1 + 1 ≤ i + n47 → i ≤ ρ 0 1 + 1 → ∀ (ls : Array Slot), lv_has ls 7 [(5, .int (nI i)), (4, .int (nI (mk (rwB wv (ρ 0) ad) i))), (3, .int (nI (8 + ((ad % (ρ 0 2)) * ((ρ 0 1) + 1))))), (2, .int (nI (pkM wv (ρ 0) (ρ 0 (3 + (ad / (ρ 0 2))))))), (0, .ref h), (1, .int (nI ad))] → W p l e (rmK 2 43) s m args below meth c s.heap [] 0 0 (MQ below (QcRead (nI (rwM wv (ρ 0) ad))) args s 0 0 (fun _ => False)) (F0 m 47 ls []) := by
    intro n47
    induction n47 with
    | zero =>
      intro i h1_47 h2_47
      exact False.elim (by omega)
    | succ n47 ih47 =>
      intro i h1_47 h2_47  ls hl
      refine lv_iload hx hb dX4_raw_47 (lv_at hl 0 rfl) ?_
      refine lv_aload_n hx hb dX4_raw_49 rfl (lv_at hl 4 rfl) ?_
      refine va_get (D := D) (ci := 4) (v := .ref (a 0)) (C := RX4) (T := TX4) (N := 9) hx hb hts inX4 hown hK hP 0 rfl rfl 0 (by decide) (hts _ fl_RX4_7) (fun _ h9 => h9) rfl dX4_raw_50 ?_
      refine lv_iconst (v := nI 1) hx hb dX4_raw_53 (by decide) ?_
      refine nv_iald (D := D) (v := nI (ρ 0 1)) hx hb hK hP 1 0 rfl rfl (k := 1) (by omega) (by decide) (rw_lo (by omega)) dX4_raw_54 ?_
      refine nv_icmp_gt (tgt := 111) hx hb dX4_raw_55 (by decide) (by omega) (by omega) (fun q_55 => ?_) (fun q_55 => ?_)
      · refine lv_iload hx hb dX4_raw_111 (lv_at hl 1 rfl) ?_
        exact nv_ret hx hb hr hlocks (congrArg nI (by rw [show i = ρ 0 1 + 1 by omega]; rfl)) dX4_raw_113
      · have hsw := sw_lt (σ := ρ 0) (b := i) hd2 (by omega)
        refine lv_aload_n hx hb dX4_raw_58 rfl (lv_at hl 4 rfl) ?_
        refine va_get (D := D) (ci := 4) (v := .ref (a 1)) (C := RX4) (T := TX4) (N := 9) hx hb hts inX4 hown hK hP 0 rfl rfl 2 (by decide) (hts _ fl_RX4_13) (fun _ h9 => h9) rfl dX4_raw_59 ?_
        refine lv_iload_n hx hb dX4_raw_62 rfl (lv_at hl 2 rfl) ?_
        refine lv_iload hx hb dX4_raw_63 (lv_at hl 0 rfl) ?_
        refine nv_iadd hx hb dX4_raw_65 ?_
        refine nv_iald (D := D) (v := nI (wv ((8 + ((ad % (ρ 0 2)) * ((ρ 0 1) + 1))) + i))) hx hb hK hP 2 0 rfl rfl (k := (8 + ((ad % (ρ 0 2)) * ((ρ 0 1) + 1))) + i) (by omega) (by decide) (rfl) dX4_raw_66 ?_
        refine lv_iload_n hx hb dX4_raw_67 rfl (lv_at hl 3 rfl) ?_
        refine nv_iand hx hb dX4_raw_68 ?_
        have hle := @Nat.and_le_right (wv (8 + ad % ρ 0 2 * (ρ 0 1 + 1) + i)) (pkM wv (ρ 0) (ρ 0 (3 + ad / ρ 0 2)))
        have J69 : ∀ (ls : Array Slot), lv_has ls 7 [(5, .int (nI i)), (4, .int (nI (mk (rwB wv (ρ 0) ad) i))), (3, .int (nI (8 + ((ad % (ρ 0 2)) * ((ρ 0 1) + 1))))), (2, .int (nI (pkM wv (ρ 0) (ρ 0 (3 + (ad / (ρ 0 2))))))), (0, .ref h), (1, .int (nI ad))] → W p l e (rmK 2 43) s m args below meth c s.heap [] 0 0 (MQ below (QcRead (nI (rwM wv (ρ 0) ad))) args s 0 0 (fun _ => False)) (F0 m 77 ls [.int (nI ((wv (8 + ad % ρ 0 2 * (ρ 0 1 + 1) + i) &&& pkM wv (ρ 0) (ρ 0 (3 + ad / ρ 0 2)) != 0).toNat))]) := by
          intro ls hl
          refine lv_istore (lv' := [(6, .int (nI ((wv (8 + ad % ρ 0 2 * (ρ 0 1 + 1) + i) &&& pkM wv (ρ 0) (ρ 0 (3 + ad / ρ 0 2)) != 0).toNat))), (5, .int (nI i)), (4, .int (nI (mk (rwB wv (ρ 0) ad) i))), (3, .int (nI (8 + ((ad % (ρ 0 2)) * ((ρ 0 1) + 1))))), (2, .int (nI (pkM wv (ρ 0) (ρ 0 (3 + (ad / (ρ 0 2))))))), (0, .ref h), (1, .int (nI ad))]) hx hb dX4_raw_77 hl (by decide) rfl (fun ls hl => ?_)
          refine lv_iload hx hb dX4_raw_79 (lv_at hl 2 rfl) ?_
          refine lv_iload hx hb dX4_raw_81 (lv_at hl 0 rfl) ?_
          refine lv_aload_n hx hb dX4_raw_83 rfl (lv_at hl 5 rfl) ?_
          refine va_get (D := D) (ci := 4) (v := .ref (a 0)) (C := RX4) (T := TX4) (N := 9) hx hb hts inX4 hown hK hP 0 rfl rfl 0 (by decide) (hts _ fl_RX4_7) (fun _ h9 => h9) rfl dX4_raw_84 ?_
          refine lv_bipush (v := nI 67) hx hb dX4_raw_87 (by decide) ?_
          refine lv_iload_n hx hb dX4_raw_89 rfl (lv_at hl 3 rfl) ?_
          refine nv_iadd hx hb dX4_raw_90 ?_
          refine lv_iload hx hb dX4_raw_91 (lv_at hl 1 rfl) ?_
          refine nv_iadd hx hb dX4_raw_93 ?_
          refine lv_bipush (v := nI 8) hx hb dX4_raw_94 (by decide) ?_
          refine nv_isub hx hb dX4_raw_96 (by omega) ?_
          refine nv_iald (D := D) (v := nI (ρ 0 (((67 + (8 + ((ad % (ρ 0 2)) * ((ρ 0 1) + 1)))) + i) - 8))) hx hb hK hP 1 0 rfl rfl (k := ((67 + (8 + ((ad % (ρ 0 2)) * ((ρ 0 1) + 1)))) + i) - 8) (by omega) (by decide) (rw_lo (by omega)) dX4_raw_97 ?_
          refine nv_top (crN (ρ 0) (8 + ad % ρ 0 2 * (ρ 0 1 + 1) + i)) (by rw [show 67 + (8 + ad % ρ 0 2 * (ρ 0 1 + 1)) + i - 8 = 67 + (8 + ad % ρ 0 2 * (ρ 0 1 + 1) + i) - 8 by omega]; exact cr_ix (by omega)) ?_
          refine nv_ixor hx hb dX4_raw_98 ?_
          refine nv_top ((rwB wv (ρ 0) ad i).toNat) (x_cr (crN_le hw hsw)) ?_
          refine lv_iload hx hb dX4_raw_99 (lv_at hl 1 rfl) ?_
          refine nv_ishl hx hb dX4_raw_101 (by omega) ?_
          refine nv_ior hx hb dX4_raw_102 ?_
          refine lv_istore (lv' := [(4, .int (nI ((mk (rwB wv (ρ 0) ad) i) ||| (((rwB wv (ρ 0) ad i).toNat) <<< i)))), (6, .int (nI ((wv (8 + ad % ρ 0 2 * (ρ 0 1 + 1) + i) &&& pkM wv (ρ 0) (ρ 0 (3 + ad / ρ 0 2)) != 0).toNat))), (5, .int (nI i)), (3, .int (nI (8 + ((ad % (ρ 0 2)) * ((ρ 0 1) + 1))))), (2, .int (nI (pkM wv (ρ 0) (ρ 0 (3 + (ad / (ρ 0 2))))))), (0, .ref h), (1, .int (nI ad))]) hx hb dX4_raw_103 hl (by decide) rfl (fun ls hl => ?_)
          refine nv_inc (k := 2) (lv' := [(5, .int (nI (i + 1))), (4, .int (nI ((mk (rwB wv (ρ 0) ad) i) ||| (((rwB wv (ρ 0) ad i).toNat) <<< i)))), (6, .int (nI ((wv (8 + ad % ρ 0 2 * (ρ 0 1 + 1) + i) &&& pkM wv (ρ 0) (ρ 0 (3 + ad / ρ 0 2)) != 0).toNat))), (3, .int (nI (8 + ((ad % (ρ 0 2)) * ((ρ 0 1) + 1))))), (2, .int (nI (pkM wv (ρ 0) (ρ 0 (3 + (ad / (ρ 0 2))))))), (0, .ref h), (1, .int (nI ad))]) hx hb dX4_raw_105 hl rfl (by decide) rfl (fun ls hl => ?_)
          refine lv_goto (tgt := 47) hx hb dX4_raw_108 (by decide) ?_
          exact ih47 (i + 1) (by omega) (by omega)  ls (lv_sub hl [0, 1, 3, 4, 5, 6] rfl)
        refine nv_if_eq (tgt := 76) hx hb dX4_raw_69 (by decide) (by omega) (fun q_69 => ?_) (fun q_69 => ?_)
        · refine lv_iconst (v := nI 0) hx hb dX4_raw_76 (by decide) ?_
          refine nv_top ((wv (8 + ad % ρ 0 2 * (ρ 0 1 + 1) + i) &&& pkM wv (ρ 0) (ρ 0 (3 + ad / ρ 0 2)) != 0).toNat) (by rw [q_69]; rfl) ?_
          exact J69 ls (lv_sub hl [0, 1, 2, 3, 4, 5] rfl)
        · refine lv_iconst (v := nI 1) hx hb dX4_raw_72 (by decide) ?_
          refine lv_goto (tgt := 77) hx hb dX4_raw_73 (by decide) ?_
          refine nv_top ((wv (8 + ad % ρ 0 2 * (ρ 0 1 + 1) + i) &&& pkM wv (ρ 0) (ρ 0 (3 + ad / ρ 0 2)) != 0).toNat) (by rw [bne_iff_ne.mpr q_69]; rfl) ?_
          exact J69 ls (lv_sub hl [0, 1, 2, 3, 4, 5] rfl)
  exact L47 (ρ 0 1 + 1 + 1) 0 (by omega) (by omega)  ls (lv_sub hl [0, 1, 2, 3, 4, 5] rfl)
set_option maxHeartbeats 4000000 in
set_option maxRecDepth 100000 in
theorem c_X4_rawWord (l : Launch) (D : va_G) (cI cR : ClassId) (h : Nat) (a : Nat → Nat) (ρ : Nat → Nat → Nat) (sv : Nat) (wv : Nat → Nat) (nw : Nat → Nat) (b : Nat → Nat) (ln : Nat) (at0 : Nat) (wd : Nat) (hh : Int64) (ad : Nat)  (hw : wf (ρ 0)) (h1 : ad < nA (ρ 0)) (hv : ∀ w, w < nW (ρ 0) → wv w = wvM (ρ 0) w) : MetR l yX4_rawWord cX4_rawWord 2 (some .int) (rmK 3 69) (nPre D (nTy cI cR) [.ref h, .int (nI ad)] (wMd h a cI (rwF ρ) sv (nF wv) (nF nw) (nF b) ln at0 wd hh)) (nI (rrN (ρ 0) ad)) := by
  refine met_read rfl (Nat.le_of_ble_eq_true rfl) ?_
  intro p e s m args below meth c ls hx hb hml hr hlocks hown hts hP hK hl
  have hl : lv_has ls 2 [(0, .ref h), (1, .int (nI ad))] := hl
  have hA41 := hw.w41
  have hA33 := hw.a33
  have hA48 := hw.a48
  obtain ⟨hR2, hR, hB1, hB, hS1, hS, -⟩ := id hw
  have h1024 := p2_10 hB
  refine lv_aload_n hx hb dX4_rawWord_0 rfl (lv_at hl 0 rfl) ?_
  refine lv_iload_n hx hb dX4_rawWord_1 rfl (lv_at hl 1 rfl) ?_
  refine nv_callV [.int (nI ad)] [] hx hb hml hown hts k_RX4_90 (c_X4_raw l D cI cR h a ρ sv wv nw b ln at0 wd hh ad hw h1) ⟨rfl, rfl, Nat.le_of_ble_eq_true rfl, Nat.le_of_ble_eq_true rfl⟩ hP hK 4 rfl rfl rfl rfl hl rfl (Nat.le_of_ble_eq_true rfl) dX4_rawWord_2 ⟨Nat.zero_le _, Nat.zero_le _⟩ ?_
  refine nv_top (rwM (wvM (ρ 0)) (ρ 0) ad) (rwM_congr hw h1 hv) ?_
  refine lv_iconst (v := nI 1) hx hb dX4_rawWord_5 (by decide) ?_
  refine lv_aload_n hx hb dX4_rawWord_6 rfl (lv_at hl 0 rfl) ?_
  refine va_get (D := D) (ci := 4) (v := .ref (a 0)) (C := RX4) (T := TX4) (N := 9) hx hb hts inX4 hown hK hP 0 rfl rfl 0 (by decide) (hts _ fl_RX4_7) (fun _ h9 => h9) rfl dX4_rawWord_7 ?_
  refine lv_iconst (v := nI 1) hx hb dX4_rawWord_10 (by decide) ?_
  refine nv_iald (D := D) (v := nI (ρ 0 1)) hx hb hK hP 1 0 rfl rfl (k := 1) (by omega) (by decide) (rw_lo (by omega)) dX4_rawWord_11 ?_
  refine nv_ishl hx hb dX4_rawWord_12 (by omega) ?_
  refine lv_iconst (v := nI 1) hx hb dX4_rawWord_13 (by decide) ?_
  refine nv_isub hx hb dX4_rawWord_14 (sh1_pos _) ?_
  refine nv_iand hx hb dX4_rawWord_15 ?_
  exact nv_ret hx hb hr hlocks (rfl) dX4_rawWord_16
set_option maxHeartbeats 4000000 in
set_option maxRecDepth 100000 in
theorem c_X4_reads (l : Launch) (D : va_G) (cI cR : ClassId) (h : Nat) (a : Nat → Nat) (ρ : Nat → Nat → Nat) (sv : Nat) (wv : Nat → Nat) (nw : Nat → Nat) (b : Nat → Nat) (ln : Nat) (at0 : Nat) (wd : Nat) (hh : Int64) (ad : Nat)  (hw : wf (ρ 0)) (h1 : ad < nA (ρ 0)) (hv : ∀ w, w < nW (ρ 0) → wv w = wvM (ρ 0) w) : MetR l yX4_reads cX4_reads 2 (some .int) (rmK 4 90) (nPre D (nTy cI cR) [.ref h, .int (nI ad)] (wMd h a cI (rwF ρ) sv (nF wv) (nF nw) (nF b) ln at0 wd hh)) (nI (rdN (ρ 0) ad)) := by
  refine met_read rfl (Nat.le_of_ble_eq_true rfl) ?_
  intro p e s m args below meth c ls hx hb hml hr hlocks hown hts hP hK hl
  have hl : lv_has ls 2 [(0, .ref h), (1, .int (nI ad))] := hl
  have hA41 := hw.w41
  have hA33 := hw.a33
  have hA48 := hw.a48
  obtain ⟨hR2, hR, hB1, hB, hS1, hS, -⟩ := id hw
  have h1024 := p2_10 hB
  have hp := hw.pt h1
  refine lv_aload_n hx hb dX4_reads_0 rfl (lv_at hl 0 rfl) ?_
  refine va_get (D := D) (ci := 4) (v := .ref (a 0)) (C := RX4) (T := TX4) (N := 9) hx hb hts inX4 hown hK hP 0 rfl rfl 0 (by decide) (hts _ fl_RX4_7) (fun _ h9 => h9) rfl dX4_reads_1 ?_
  refine lv_sipush (v := nI 141) hx hb dX4_reads_4 (by decide) ?_
  refine lv_iload_n hx hb dX4_reads_7 rfl (lv_at hl 1 rfl) ?_
  refine nv_iadd hx hb dX4_reads_8 ?_
  refine nv_iald (D := D) (v := ptF (ρ 0) ad) hx hb hK hP 1 0 rfl rfl (k := 141 + ad) (by omega) (by decide) (rw_pt (by omega)) dX4_reads_9 ?_
  refine lv_iconst (v := -1) hx hb dX4_reads_10 (by decide) ?_
  refine lv_icmp_eq (tgt := 27) hx hb dX4_reads_11 (by decide) (fun q_11 => ?_) (fun q_11 => ?_)
  · refine lv_aload_n hx hb dX4_reads_27 rfl (lv_at hl 0 rfl) ?_
    refine lv_iload_n hx hb dX4_reads_28 rfl (lv_at hl 1 rfl) ?_
    refine nv_callV [.int (nI ad)] [] hx hb hml hown hts k_RX4_93 (c_X4_rawWord l D cI cR h a ρ sv wv nw b ln at0 wd hh ad hw h1 hv) ⟨rfl, rfl, Nat.le_of_ble_eq_true rfl, Nat.le_of_ble_eq_true rfl⟩ hP hK 4 rfl rfl rfl rfl hl rfl (Nat.le_of_ble_eq_true rfl) dX4_reads_29 ⟨Nat.zero_le _, Nat.zero_le _⟩ ?_
    exact nv_ret hx hb hr hlocks (by have q := (ptF_m1 hp).mp q_11; unfold rdN; rw [if_pos q]) dX4_reads_32
  · refine lv_aload_n hx hb dX4_reads_14 rfl (lv_at hl 0 rfl) ?_
    refine va_get (D := D) (ci := 4) (v := .ref (a 0)) (C := RX4) (T := TX4) (N := 9) hx hb hts inX4 hown hK hP 0 rfl rfl 0 (by decide) (hts _ fl_RX4_7) (fun _ h9 => h9) rfl dX4_reads_15 ?_
    refine lv_sipush (v := nI 141) hx hb dX4_reads_18 (by decide) ?_
    refine lv_iload_n hx hb dX4_reads_21 rfl (lv_at hl 1 rfl) ?_
    refine nv_iadd hx hb dX4_reads_22 ?_
    refine nv_iald (D := D) (v := ptF (ρ 0) ad) hx hb hK hP 1 0 rfl rfl (k := 141 + ad) (by omega) (by decide) (rw_pt (by omega)) dX4_reads_23 ?_
    refine lv_goto (tgt := 32) hx hb dX4_reads_24 (by decide) ?_
    exact nv_ret hx hb hr hlocks (by have q := mt (ptF_m1 hp).mpr q_11; unfold rdN; rw [if_neg q]; exact ptF_v q) dX4_reads_32
set_option maxHeartbeats 4000000 in
set_option maxRecDepth 100000 in
theorem c_X4_isEven (l : Launch) (D : va_G) (cI cR : ClassId) (h : Nat) (a : Nat → Nat) (ρ : Nat → Nat → Nat) (sv : Nat) (wv : Nat → Nat) (nw : Nat → Nat) (b : Nat → Nat) (ln : Nat) (at0 : Nat) (wd : Nat) (hh : Int64) (ad : Nat)  (hw : wf (ρ 0)) (h1 : ad < nA (ρ 0)) (hv : ∀ w, w < nW (ρ 0) → wv w = wvM (ρ 0) w) : MetR l yX4_isEven cX4_isEven 2 (some .boolean) (rmK 3 69) (nPre D (nTy cI cR) [.ref h, .int (nI ad)] (wMd h a cI (rwF ρ) sv (nF wv) (nF nw) (nF b) ln at0 wd hh)) (zB (!paB (ρ 0) ad)) := by
  refine met_read rfl (Nat.le_of_ble_eq_true rfl) ?_
  intro p e s m args below meth c ls hx hb hml hr hlocks hown hts hP hK hl
  have hl : lv_has ls 2 [(0, .ref h), (1, .int (nI ad))] := hl
  have hA41 := hw.w41
  have hA33 := hw.a33
  have hA48 := hw.a48
  obtain ⟨hR2, hR, hB1, hB, hS1, hS, -⟩ := id hw
  have h1024 := p2_10 hB
  have hp := hw.pt h1
  have hm2 := Nat.mod_lt (pop (rwM (wvM (ρ 0)) (ρ 0) ad)) (show 0 < 2 by decide)
  have hp16 := pop_le (rwM (wvM (ρ 0)) (ρ 0) ad)
  refine lv_aload_n hx hb dX4_isEven_0 rfl (lv_at hl 0 rfl) ?_
  refine va_get (D := D) (ci := 4) (v := .ref (a 0)) (C := RX4) (T := TX4) (N := 9) hx hb hts inX4 hown hK hP 0 rfl rfl 0 (by decide) (hts _ fl_RX4_7) (fun _ h9 => h9) rfl dX4_isEven_1 ?_
  refine lv_sipush (v := nI 141) hx hb dX4_isEven_4 (by decide) ?_
  refine lv_iload_n hx hb dX4_isEven_7 rfl (lv_at hl 1 rfl) ?_
  refine nv_iadd hx hb dX4_isEven_8 ?_
  refine nv_iald (D := D) (v := ptF (ρ 0) ad) hx hb hK hP 1 0 rfl rfl (k := 141 + ad) (by omega) (by decide) (rw_pt (by omega)) dX4_isEven_9 ?_
  refine lv_iconst (v := -1) hx hb dX4_isEven_10 (by decide) ?_
  refine lv_icmp_ne (tgt := 31) hx hb dX4_isEven_11 (by decide) (fun q_11 => ?_) (fun q_11 => ?_)
  · refine lv_iconst (v := nI 0) hx hb dX4_isEven_31 (by decide) ?_
    exact nv_retz hx hb hr hlocks (by decide) (zB_0 (by unfold paB; rw [bne_iff_ne.mpr (mt (ptF_m1 hp).mpr q_11)]; rfl)) dX4_isEven_32
  · refine lv_aload_n hx hb dX4_isEven_14 rfl (lv_at hl 0 rfl) ?_
    refine lv_iload_n hx hb dX4_isEven_15 rfl (lv_at hl 1 rfl) ?_
    refine nv_callV [.int (nI ad)] [] hx hb hml hown hts k_RX4_90 (c_X4_raw l D cI cR h a ρ sv wv nw b ln at0 wd hh ad hw h1) ⟨rfl, rfl, Nat.le_of_ble_eq_true rfl, Nat.le_of_ble_eq_true rfl⟩ hP hK 4 rfl rfl rfl rfl hl rfl (Nat.le_of_ble_eq_true rfl) dX4_isEven_16 ⟨Nat.zero_le _, Nat.zero_le _⟩ ?_
    refine nv_top (rwM (wvM (ρ 0)) (ρ 0) ad) (rwM_congr hw h1 hv) ?_
    refine nv_callS [.int (nI (rwM (wvM (ρ 0)) (ρ 0) ad))] [] hx hb hml hown hts k_RX4_45 (c_X4_ones l D cI cR (rwM (wvM (ρ 0)) (ρ 0) ad) (Nat.lt_trans (rwM_lt hw _ _) (by decide))) ⟨rfl, rfl, Nat.le_of_ble_eq_true rfl, Nat.le_of_ble_eq_true rfl⟩ (va_P_nil) hK rfl hl rfl (Nat.le_of_ble_eq_true rfl) dX4_isEven_19 ⟨Nat.zero_le _, Nat.zero_le _⟩ ?_
    refine lv_iconst (v := nI 2) hx hb dX4_isEven_22 (by decide) ?_
    refine nv_irem hx hb dX4_isEven_23 (by omega) (by omega) (by omega) ?_
    refine nv_if_ne (tgt := 31) hx hb dX4_isEven_24 (by decide) (by omega) (fun q_24 => ?_) (fun q_24 => ?_)
    · refine lv_iconst (v := nI 0) hx hb dX4_isEven_31 (by decide) ?_
      exact nv_retz hx hb hr hlocks (by decide) (zB_0 (by unfold paB; rw [show pop (rwM (wvM (ρ 0)) (ρ 0) ad) % 2 = 1 by omega]; simp)) dX4_isEven_32
    · refine lv_iconst (v := nI 1) hx hb dX4_isEven_27 (by decide) ?_
      refine lv_goto (tgt := 32) hx hb dX4_isEven_28 (by decide) ?_
      exact nv_retz hx hb hr hlocks (by decide) (zB_1 (by unfold paB; rw [q_24, (ptF_m1 hp).mp q_11]; rfl)) dX4_isEven_32
