set_option maxHeartbeats 4000000 in
set_option maxRecDepth 100000 in
/-- each wire at each ring is held against what it ought to be, and mended -/
theorem lw_490 {p : Program} {e : Env} {s : State} {m : MethodId} {below : List Frame} {meth : Method} {c : Code} (l : Launch) {D : va_G} {cI cR : ClassId} {sb h : Nat} {ad : Nat → Nat} {aa : Nat → Nat → Nat} {L : Nat} {xs : Nat → Int32} (hL : L ≤ 260) (C0 : lw_At p s m meth c sb L xs) (hK : va_K D vwCl (nTy cI cR) s) (σb : Nat → Nat) (ob : Nat) (nb : Nat) (τb : Nat → Nat → Nat) (w : Nat) (r : Nat) (hi : lwI σb ob nb) (hwl : w < nW σb) (hrl : r < σb 0) : LG p l e s m below meth c D cI cR sb h ad aa 490 [(1, .ref h), (6, .int (nI r)), (8, .int (nI w)), (10, .int (nI 0))] σb ob nb τb := by
  obtain ⟨hx, hb, hr, hml, hown0, hts0, hX, hbl, hlocks, hgv⟩ := id C0
  have hts : ∀ w ∈ nT, w.before #[Value.ref sb] s = true := fun w q => hts0 w (List.mem_filter.mp q).1
  have hown : s.vm.findClass RL = some m.cls := hown0
  have hA : ∀ q : Nat, s.heap.size ≤ q → lwA s q := fun _ q => q
  have hbA : ¬ lwA s sb := Nat.not_le.mpr hbl
  have hRb := hi.1.2.1
  have hWb := hi.1.w41
  intro H locs hP hD hS ls hl
  have L490 : ∀ (n490 k : Nat) (σ : Nat → Nat) (o : Nat) (n : Nat) (τ : Nat → Nat → Nat), nW σb + 1 ≤ k + n490 → k ≤ nW σb → (lwI σ o n) → (agW σ σb) → (clW σ k) → ∀ (H : Heap) (locs : List Loc), va_P D vwCl (wS h ad aa cI cR σ o n τ) H → va_D (lwA s) (wS h ad aa cI cR σ o n τ) → va_S (lwA s) s.heap H locs → ∀ (ls : Array Slot), lv_has ls 18 [(1, .ref h), (6, .int (nI r)), (8, .int (nI w)), (10, .int (nI k))] → W p l e room_1 s m #[Value.ref sb] below meth c H locs 36 1231 (lw_Z below #[Value.ref sb] s) (F0 m 490 ls []) := by
    intro n490
    induction n490 with
    | zero =>
      intro k σ o n τ h1_490 h2_490
      exact False.elim (by omega)
    | succ n490 ih490 =>
      intro k σ o n τ h1_490 h2_490 hi hag hcl H locs hP hD hS ls hl
      obtain ⟨hw, h4, ho, hn⟩ := id hi
      have eW := hag.W
      have eR := hag.R
      refine lv_iload hx hb dL_law_490 (lv_at hl 3 rfl) ?_
      refine lv_aload_n hx hb dL_law_492 rfl (lv_at hl 0 rfl) ?_
      refine lv_iconst (v := nI 4) hx hb dL_law_493 (by decide) ?_
      refine nv_callV [.int (nI 4)] [.int (nI k)] hx hb hml hown hts k_RL_8 (c_X3_count4 l D cI cR h ad aa σ o n τ 4 hw rfl) ⟨rfl, rfl, Nat.le_of_ble_eq_true rfl, Nat.le_of_ble_eq_true rfl⟩ hP hK 3 rfl rfl rfl rfl hl rfl (Nat.le_of_ble_eq_true rfl) dL_law_494 ⟨Nat.le_of_ble_eq_true rfl, Nat.le_of_ble_eq_true rfl⟩ ?_
      refine nv_icmp_ge (tgt := 758) hx hb dL_law_497 (by decide) (by omega) (by omega) (fun q_497 => ?_) (fun q_497 => ?_)
      · exact lw_758 l hL C0 hK σ o n τ w r hi (fun v hv => hcl v (by omega)) (by rw [hag.W]; exact hwl) (by rw [hag.R]; exact hrl) _ _ hP hD hS ls (lv_sub hl [0, 1, 2] rfl)
      · refine lv_iconst (v := nI 0) hx hb dL_law_500 (by decide) ?_
        refine lv_istore (lv' := [(11, .int (nI 0)), (1, .ref h), (6, .int (nI r)), (8, .int (nI w)), (10, .int (nI k))]) hx hb dL_law_501 hl (by decide) rfl (fun ls hl => ?_)
        have L503 : ∀ (n503 i : Nat) (σ : Nat → Nat) (o : Nat) (n : Nat) (τ : Nat → Nat → Nat), σb 0 + 1 ≤ i + n503 → i ≤ σb 0 → (lwI σ o n) → (agW σ σb) → (clW σ k) → (rwW σ k i) → ∀ (H : Heap) (locs : List Loc), va_P D vwCl (wS h ad aa cI cR σ o n τ) H → va_D (lwA s) (wS h ad aa cI cR σ o n τ) → va_S (lwA s) s.heap H locs → ∀ (ls : Array Slot), lv_has ls 18 [(1, .ref h), (6, .int (nI r)), (8, .int (nI w)), (10, .int (nI k)), (11, .int (nI i))] → W p l e room_1 s m #[Value.ref sb] below meth c H locs 36 1231 (lw_Z below #[Value.ref sb] s) (F0 m 503 ls []) := by
          intro n503
          induction n503 with
          | zero =>
            intro i σ o n τ h1_503 h2_503
            exact False.elim (by omega)
          | succ n503 ih503 =>
            intro i σ o n τ h1_503 h2_503 hi hag hcl hrw H locs hP hD hS ls hl
            obtain ⟨hw, h4, ho, hn⟩ := id hi
            have hA41 := hw.w41
            have hA33 := hw.a33
            have hA48 := hw.a48
            obtain ⟨hR2, hR, hB1, hB, hSa, hSb, -⟩ := id hw
            have eW := hag.W
            have eR := hag.R
            have hkl : k < nW σ := by omega
            refine lv_iload hx hb dL_law_503 (lv_at hl 4 rfl) ?_
            refine lv_aload_n hx hb dL_law_505 rfl (lv_at hl 0 rfl) ?_
            refine lv_iconst (v := nI 0) hx hb dL_law_506 (by decide) ?_
            refine nv_callV [.int (nI 0)] [.int (nI i)] hx hb hml hown hts k_RL_8 (c_X3_count0 l D cI cR h ad aa σ o n τ 0 hw rfl) ⟨rfl, rfl, Nat.le_of_ble_eq_true rfl, Nat.le_of_ble_eq_true rfl⟩ hP hK 3 rfl rfl rfl rfl hl rfl (Nat.le_of_ble_eq_true rfl) dL_law_507 ⟨Nat.le_of_ble_eq_true rfl, Nat.le_of_ble_eq_true rfl⟩ ?_
            refine nv_icmp_ge (tgt := 752) hx hb dL_law_510 (by decide) (by omega) (by omega) (fun q_510 => ?_) (fun q_510 => ?_)
            · refine nv_inc (k := 3) (lv' := [(10, .int (nI (k + 1))), (1, .ref h), (6, .int (nI r)), (8, .int (nI w)), (11, .int (nI i))]) hx hb dL_law_752 hl rfl (by decide) rfl (fun ls hl => ?_)
              refine lv_goto (tgt := 490) hx hb dL_law_755 (by decide) ?_
              exact ih490 (k + 1) σ o n τ (by omega) (by omega) (hi) (hag) (clW.s hi.1 hkl hcl (by rw [show σ 0 = i by omega]; exact hrw)) _ _ hP hD hS ls (lv_sub hl [1, 2, 3, 0] rfl)
            · have hil : i < σ 0 := by omega
              have hb0 := toNat_le ((wvM σ k).testBit i)
              have hb1 := toNat_le (onB σ k i)
              have hb2 := toNat_le (rtB σ k i)
              refine lv_aload_n hx hb dL_law_513 rfl (lv_at hl 0 rfl) ?_
              refine lv_iload hx hb dL_law_514 (lv_at hl 3 rfl) ?_
              refine lv_iload hx hb dL_law_516 (lv_at hl 4 rfl) ?_
              refine nv_callV [.int (nI k), .int (nI i)] [] hx hb hml hown hts k_RL_99 (c_X3_throughN l D cI cR h ad aa σ o n τ k i hw hkl hil) ⟨rfl, rfl, Nat.le_of_ble_eq_true rfl, Nat.le_of_ble_eq_true rfl⟩ hP hK 3 rfl rfl rfl rfl hl rfl (Nat.le_of_ble_eq_true rfl) dL_law_518 ⟨Nat.le_of_ble_eq_true rfl, Nat.le_of_ble_eq_true rfl⟩ ?_
              refine lv_iconst (v := nI 1) hx hb dL_law_521 (by decide) ?_
              have J522 : ∀ (H : Heap) (locs : List Loc), va_P D vwCl (wS h ad aa cI cR σ o n τ) H → va_D (lwA s) (wS h ad aa cI cR σ o n τ) → va_S (lwA s) s.heap H locs → ∀ (ls : Array Slot), lv_has ls 18 [(1, .ref h), (6, .int (nI r)), (8, .int (nI w)), (10, .int (nI k)), (11, .int (nI i))] → W p l e room_1 s m #[Value.ref sb] below meth c H locs 36 1231 (lw_Z below #[Value.ref sb] s) (F0 m 530 ls [.int (nI (((wvM σ k).testBit i).toNat))]) := by
                intro H locs hP hD hS ls hl
                refine lv_istore (lv' := [(12, .int (nI (((wvM σ k).testBit i).toNat))), (1, .ref h), (6, .int (nI r)), (8, .int (nI w)), (10, .int (nI k)), (11, .int (nI i))]) hx hb dL_law_530 hl (by decide) rfl (fun ls hl => ?_)
                refine lv_iload hx hb dL_law_532 (lv_at hl 4 rfl) ?_
                refine lv_bipush (v := nI 8) hx hb dL_law_534 (by decide) ?_
                have J536 : ∀ (H : Heap) (locs : List Loc), va_P D vwCl (wS h ad aa cI cR σ o n τ) H → va_D (lwA s) (wS h ad aa cI cR σ o n τ) → va_S (lwA s) s.heap H locs → ∀ (ls : Array Slot), lv_has ls 18 [(1, .ref h), (6, .int (nI r)), (8, .int (nI w)), (10, .int (nI k)), (11, .int (nI i)), (12, .int (nI (((wvM σ k).testBit i).toNat)))] → W p l e room_1 s m #[Value.ref sb] below meth c H locs 36 1231 (lw_Z below #[Value.ref sb] s) (F0 m 691 ls [.int (nI ((onB σ k i).toNat))]) := by
                  intro H locs hP hD hS ls hl
                  refine lv_istore (lv' := [(16, .int (nI ((onB σ k i).toNat))), (1, .ref h), (6, .int (nI r)), (8, .int (nI w)), (10, .int (nI k)), (11, .int (nI i)), (12, .int (nI (((wvM σ k).testBit i).toNat)))]) hx hb dL_law_691 hl (by decide) rfl (fun ls hl => ?_)
                  refine lv_iload hx hb dL_law_693 (lv_at hl 4 rfl) ?_
                  refine lv_bipush (v := nI 8) hx hb dL_law_695 (by decide) ?_
                  refine nv_icmp_lt (tgt := 709) hx hb dL_law_697 (by decide) (by omega) (by omega) (fun q_697 => ?_) (fun q_697 => ?_)
                  · refine lv_iload hx hb dL_law_709 (lv_at hl 0 rfl) ?_
                    refine lv_goto (tgt := 724) hx hb dL_law_711 (by decide) ?_
                    refine nv_top ((rtB σ k i).toNat) (rt_i q_697) ?_
                    refine lv_istore (lv' := [(17, .int (nI ((rtB σ k i).toNat))), (16, .int (nI ((onB σ k i).toNat))), (1, .ref h), (6, .int (nI r)), (8, .int (nI w)), (10, .int (nI k)), (11, .int (nI i)), (12, .int (nI (((wvM σ k).testBit i).toNat)))]) hx hb dL_law_724 hl (by decide) rfl (fun ls hl => ?_)
                    refine lv_iload hx hb dL_law_726 (lv_at hl 7 rfl) ?_
                    refine lv_iload hx hb dL_law_728 (lv_at hl 0 rfl) ?_
                    refine nv_icmp_eq (tgt := 746) hx hb dL_law_730 (by decide) (by omega) (by omega) (fun q_730 => ?_) (fun q_730 => ?_)
                    · refine nv_inc (k := 6) (lv' := [(11, .int (nI (i + 1))), (17, .int (nI ((rtB σ k i).toNat))), (16, .int (nI ((onB σ k i).toNat))), (1, .ref h), (6, .int (nI r)), (8, .int (nI w)), (10, .int (nI k)), (12, .int (nI (((wvM σ k).testBit i).toNat)))]) hx hb dL_law_746 hl rfl (by decide) rfl (fun ls hl => ?_)
                      refine lv_goto (tgt := 503) hx hb dL_law_749 (by decide) ?_
                      exact ih503 (i + 1) σ o n τ (by omega) (by omega) (hi) (hag) (hcl) (rwW.s hrw (wv_ok hil q_730)) _ _ hP hD hS ls (lv_sub hl [3, 4, 5, 6, 0] rfl)
                    · have hbad := wv_bad hil q_730
                      refine lv_aload_n hx hb dL_law_733 rfl (lv_at hl 2 rfl) ?_
                      refine lv_iload hx hb dL_law_734 (lv_at hl 5 rfl) ?_
                      refine lv_iload hx hb dL_law_736 (lv_at hl 6 rfl) ?_
                      refine mu_allV (ws2 := (wS h ad aa cI cR (spS σ k i) (kpO o n) (kpN n) (va_up τ (kpS o n) σ))) [.int (nI k), .int (nI i)] [] hx hb hml hown hts k_RL_60 (fun sz => c_X3_spoilN l D cI cR h ad aa σ o n τ k i hw ho hn hkl hil sz) ⟨rfl, rfl, Nat.le_of_ble_eq_true rfl, Nat.le_of_ble_eq_true rfl⟩ hP hD hS hA hK 3 rfl rfl rfl rfl hl rfl (Nat.le_of_ble_eq_true rfl) dL_law_738 ⟨Nat.le_of_ble_eq_true rfl, Nat.le_of_ble_eq_true rfl⟩ (fun H locs hP hD hS => ?_)
                      refine W.eq (g2 := F0 m 741 ls [.int (nI (((σ (100 + k) ^^^ 1 <<< i).testBit i).toNat))]) rfl ?_
                      refine nv_top (0) (by rw [sp_bit, hbad]; rfl) ?_
                      refine nv_if_eq (tgt := 746) hx hb dL_law_741 (by decide) (by omega) (fun q_741 => ?_) (fun q_741 => False.elim (by omega))
                      refine nv_inc (k := 6) (lv' := [(11, .int (nI (i + 1))), (17, .int (nI ((rtB σ k i).toNat))), (16, .int (nI ((onB σ k i).toNat))), (1, .ref h), (6, .int (nI r)), (8, .int (nI w)), (10, .int (nI k)), (12, .int (nI (((wvM σ k).testBit i).toNat)))]) hx hb dL_law_746 hl rfl (by decide) rfl (fun ls hl => ?_)
                      refine lv_goto (tgt := 503) hx hb dL_law_749 (by decide) ?_
                      exact ih503 (i + 1) (spS σ k i) (kpO o n) (kpN n) (va_up τ (kpS o n) σ) (by omega) (by omega) (lwI.sp (w := k) (r := i) (hi) hkl hil) (agW.sp hag (by omega)) (clW.sp hcl) (rwW.sp hrw hbad) _ _ hP hD hS ls (lv_sub hl [3, 4, 5, 6, 0] rfl)
                  · refine lv_aload_n hx hb dL_law_700 rfl (lv_at hl 1 rfl) ?_
                    refine lv_iload hx hb dL_law_701 (lv_at hl 4 rfl) ?_
                    refine mu_allS (ws2 := (wS h ad aa cI cR σ (kpO o n) (kpN n - 1) (va_up τ (kpS o n) σ))) [.ref h, .int (nI k)] [] hx hb hml hown hts k_RL_105 (fun sz => c_L_isCrossed l D cI cR h ad aa σ o n τ k hw ho hn q_697 hkl sz) ⟨rfl, rfl, Nat.le_of_ble_eq_true rfl, Nat.le_of_ble_eq_true rfl⟩ hP hD hS hA hK rfl hl rfl (Nat.le_of_ble_eq_true rfl) dL_law_703 ⟨Nat.le_of_ble_eq_true rfl, Nat.le_of_ble_eq_true rfl⟩ (fun H locs hP hD hS => ?_)
                    refine W.eq (g2 := F0 m 706 ls [.int (zB (crN σ k == 1))]) rfl ?_
                    refine lv_if_ne (tgt := 714) hx hb dL_law_706 (by decide) (fun q_706 => ?_) (fun q_706 => ?_)
                    · refine lv_iload hx hb dL_law_714 (lv_at hl 0 rfl) ?_
                      refine nv_if_ne (tgt := 723) hx hb dL_law_716 (by decide) (by omega) (fun q_716 => ?_) (fun q_716 => ?_)
                      · refine lv_iconst (v := nI 0) hx hb dL_law_723 (by decide) ?_
                        refine nv_top ((rtB σ k i).toNat) (rt_c0 q_706 q_716) ?_
                        refine lv_istore (lv' := [(17, .int (nI ((rtB σ k i).toNat))), (16, .int (nI ((onB σ k i).toNat))), (1, .ref h), (6, .int (nI r)), (8, .int (nI w)), (10, .int (nI k)), (11, .int (nI i)), (12, .int (nI (((wvM σ k).testBit i).toNat)))]) hx hb dL_law_724 hl (by decide) rfl (fun ls hl => ?_)
                        refine lv_iload hx hb dL_law_726 (lv_at hl 7 rfl) ?_
                        refine lv_iload hx hb dL_law_728 (lv_at hl 0 rfl) ?_
                        refine nv_icmp_eq (tgt := 746) hx hb dL_law_730 (by decide) (by omega) (by omega) (fun q_730 => ?_) (fun q_730 => ?_)
                        · refine nv_inc (k := 6) (lv' := [(11, .int (nI (i + 1))), (17, .int (nI ((rtB σ k i).toNat))), (16, .int (nI ((onB σ k i).toNat))), (1, .ref h), (6, .int (nI r)), (8, .int (nI w)), (10, .int (nI k)), (12, .int (nI (((wvM σ k).testBit i).toNat)))]) hx hb dL_law_746 hl rfl (by decide) rfl (fun ls hl => ?_)
                          refine lv_goto (tgt := 503) hx hb dL_law_749 (by decide) ?_
                          exact ih503 (i + 1) σ (kpO o n) (kpN n - 1) (va_up τ (kpS o n) σ) (by omega) (by omega) (lwI.back hi) (hag) (hcl) (rwW.s hrw (wv_ok hil q_730)) _ _ hP hD hS ls (lv_sub hl [3, 4, 5, 6, 0] rfl)
                        · have hbad := wv_bad hil q_730
                          refine lv_aload_n hx hb dL_law_733 rfl (lv_at hl 2 rfl) ?_
                          refine lv_iload hx hb dL_law_734 (lv_at hl 5 rfl) ?_
                          refine lv_iload hx hb dL_law_736 (lv_at hl 6 rfl) ?_
                          refine mu_allV (ws2 := (wS h ad aa cI cR (spS σ k i) (kpO (kpO o n) (kpN n - 1)) (kpN (kpN n - 1)) (va_up (va_up τ (kpS o n) σ) (kpS (kpO o n) (kpN n - 1)) σ))) [.int (nI k), .int (nI i)] [] hx hb hml hown hts k_RL_60 (fun sz => c_X3_spoilN l D cI cR h ad aa σ (kpO o n) (kpN n - 1) (va_up τ (kpS o n) σ) k i hw hi.back.2.2.1 hi.back.2.2.2 hkl hil sz) ⟨rfl, rfl, Nat.le_of_ble_eq_true rfl, Nat.le_of_ble_eq_true rfl⟩ hP hD hS hA hK 3 rfl rfl rfl rfl hl rfl (Nat.le_of_ble_eq_true rfl) dL_law_738 ⟨Nat.le_of_ble_eq_true rfl, Nat.le_of_ble_eq_true rfl⟩ (fun H locs hP hD hS => ?_)
                          refine W.eq (g2 := F0 m 741 ls [.int (nI (((σ (100 + k) ^^^ 1 <<< i).testBit i).toNat))]) rfl ?_
                          refine nv_top (0) (by rw [sp_bit, hbad]; rfl) ?_
                          refine nv_if_eq (tgt := 746) hx hb dL_law_741 (by decide) (by omega) (fun q_741 => ?_) (fun q_741 => False.elim (by omega))
                          refine nv_inc (k := 6) (lv' := [(11, .int (nI (i + 1))), (17, .int (nI ((rtB σ k i).toNat))), (16, .int (nI ((onB σ k i).toNat))), (1, .ref h), (6, .int (nI r)), (8, .int (nI w)), (10, .int (nI k)), (12, .int (nI (((wvM σ k).testBit i).toNat)))]) hx hb dL_law_746 hl rfl (by decide) rfl (fun ls hl => ?_)
                          refine lv_goto (tgt := 503) hx hb dL_law_749 (by decide) ?_
                          exact ih503 (i + 1) (spS σ k i) (kpO (kpO o n) (kpN n - 1)) (kpN (kpN n - 1)) (va_up (va_up τ (kpS o n) σ) (kpS (kpO o n) (kpN n - 1)) σ) (by omega) (by omega) (lwI.sp (w := k) (r := i) (lwI.back hi) hkl hil) (agW.sp hag (by omega)) (clW.sp hcl) (rwW.sp hrw hbad) _ _ hP hD hS ls (lv_sub hl [3, 4, 5, 6, 0] rfl)
                      · refine lv_iconst (v := nI 1) hx hb dL_law_719 (by decide) ?_
                        refine lv_goto (tgt := 724) hx hb dL_law_720 (by decide) ?_
                        refine nv_top ((rtB σ k i).toNat) (rt_c1 q_706 q_716) ?_
                        refine lv_istore (lv' := [(17, .int (nI ((rtB σ k i).toNat))), (16, .int (nI ((onB σ k i).toNat))), (1, .ref h), (6, .int (nI r)), (8, .int (nI w)), (10, .int (nI k)), (11, .int (nI i)), (12, .int (nI (((wvM σ k).testBit i).toNat)))]) hx hb dL_law_724 hl (by decide) rfl (fun ls hl => ?_)
                        refine lv_iload hx hb dL_law_726 (lv_at hl 7 rfl) ?_
                        refine lv_iload hx hb dL_law_728 (lv_at hl 0 rfl) ?_
                        refine nv_icmp_eq (tgt := 746) hx hb dL_law_730 (by decide) (by omega) (by omega) (fun q_730 => ?_) (fun q_730 => ?_)
                        · refine nv_inc (k := 6) (lv' := [(11, .int (nI (i + 1))), (17, .int (nI ((rtB σ k i).toNat))), (16, .int (nI ((onB σ k i).toNat))), (1, .ref h), (6, .int (nI r)), (8, .int (nI w)), (10, .int (nI k)), (12, .int (nI (((wvM σ k).testBit i).toNat)))]) hx hb dL_law_746 hl rfl (by decide) rfl (fun ls hl => ?_)
                          refine lv_goto (tgt := 503) hx hb dL_law_749 (by decide) ?_
                          exact ih503 (i + 1) σ (kpO o n) (kpN n - 1) (va_up τ (kpS o n) σ) (by omega) (by omega) (lwI.back hi) (hag) (hcl) (rwW.s hrw (wv_ok hil q_730)) _ _ hP hD hS ls (lv_sub hl [3, 4, 5, 6, 0] rfl)
                        · have hbad := wv_bad hil q_730
                          refine lv_aload_n hx hb dL_law_733 rfl (lv_at hl 2 rfl) ?_
                          refine lv_iload hx hb dL_law_734 (lv_at hl 5 rfl) ?_
                          refine lv_iload hx hb dL_law_736 (lv_at hl 6 rfl) ?_
                          refine mu_allV (ws2 := (wS h ad aa cI cR (spS σ k i) (kpO (kpO o n) (kpN n - 1)) (kpN (kpN n - 1)) (va_up (va_up τ (kpS o n) σ) (kpS (kpO o n) (kpN n - 1)) σ))) [.int (nI k), .int (nI i)] [] hx hb hml hown hts k_RL_60 (fun sz => c_X3_spoilN l D cI cR h ad aa σ (kpO o n) (kpN n - 1) (va_up τ (kpS o n) σ) k i hw hi.back.2.2.1 hi.back.2.2.2 hkl hil sz) ⟨rfl, rfl, Nat.le_of_ble_eq_true rfl, Nat.le_of_ble_eq_true rfl⟩ hP hD hS hA hK 3 rfl rfl rfl rfl hl rfl (Nat.le_of_ble_eq_true rfl) dL_law_738 ⟨Nat.le_of_ble_eq_true rfl, Nat.le_of_ble_eq_true rfl⟩ (fun H locs hP hD hS => ?_)
                          refine W.eq (g2 := F0 m 741 ls [.int (nI (((σ (100 + k) ^^^ 1 <<< i).testBit i).toNat))]) rfl ?_
                          refine nv_top (0) (by rw [sp_bit, hbad]; rfl) ?_
                          refine nv_if_eq (tgt := 746) hx hb dL_law_741 (by decide) (by omega) (fun q_741 => ?_) (fun q_741 => False.elim (by omega))
                          refine nv_inc (k := 6) (lv' := [(11, .int (nI (i + 1))), (17, .int (nI ((rtB σ k i).toNat))), (16, .int (nI ((onB σ k i).toNat))), (1, .ref h), (6, .int (nI r)), (8, .int (nI w)), (10, .int (nI k)), (12, .int (nI (((wvM σ k).testBit i).toNat)))]) hx hb dL_law_746 hl rfl (by decide) rfl (fun ls hl => ?_)
                          refine lv_goto (tgt := 503) hx hb dL_law_749 (by decide) ?_
                          exact ih503 (i + 1) (spS σ k i) (kpO (kpO o n) (kpN n - 1)) (kpN (kpN n - 1)) (va_up (va_up τ (kpS o n) σ) (kpS (kpO o n) (kpN n - 1)) σ) (by omega) (by omega) (lwI.sp (w := k) (r := i) (lwI.back hi) hkl hil) (agW.sp hag (by omega)) (clW.sp hcl) (rwW.sp hrw hbad) _ _ hP hD hS ls (lv_sub hl [3, 4, 5, 6, 0] rfl)
                    · refine lv_iload hx hb dL_law_709 (lv_at hl 0 rfl) ?_
                      refine lv_goto (tgt := 724) hx hb dL_law_711 (by decide) ?_
                      refine nv_top ((rtB σ k i).toNat) (rt_str q_706) ?_
                      refine lv_istore (lv' := [(17, .int (nI ((rtB σ k i).toNat))), (16, .int (nI ((onB σ k i).toNat))), (1, .ref h), (6, .int (nI r)), (8, .int (nI w)), (10, .int (nI k)), (11, .int (nI i)), (12, .int (nI (((wvM σ k).testBit i).toNat)))]) hx hb dL_law_724 hl (by decide) rfl (fun ls hl => ?_)
                      refine lv_iload hx hb dL_law_726 (lv_at hl 7 rfl) ?_
                      refine lv_iload hx hb dL_law_728 (lv_at hl 0 rfl) ?_
                      refine nv_icmp_eq (tgt := 746) hx hb dL_law_730 (by decide) (by omega) (by omega) (fun q_730 => ?_) (fun q_730 => ?_)
                      · refine nv_inc (k := 6) (lv' := [(11, .int (nI (i + 1))), (17, .int (nI ((rtB σ k i).toNat))), (16, .int (nI ((onB σ k i).toNat))), (1, .ref h), (6, .int (nI r)), (8, .int (nI w)), (10, .int (nI k)), (12, .int (nI (((wvM σ k).testBit i).toNat)))]) hx hb dL_law_746 hl rfl (by decide) rfl (fun ls hl => ?_)
                        refine lv_goto (tgt := 503) hx hb dL_law_749 (by decide) ?_
                        exact ih503 (i + 1) σ (kpO o n) (kpN n - 1) (va_up τ (kpS o n) σ) (by omega) (by omega) (lwI.back hi) (hag) (hcl) (rwW.s hrw (wv_ok hil q_730)) _ _ hP hD hS ls (lv_sub hl [3, 4, 5, 6, 0] rfl)
                      · have hbad := wv_bad hil q_730
                        refine lv_aload_n hx hb dL_law_733 rfl (lv_at hl 2 rfl) ?_
                        refine lv_iload hx hb dL_law_734 (lv_at hl 5 rfl) ?_
                        refine lv_iload hx hb dL_law_736 (lv_at hl 6 rfl) ?_
                        refine mu_allV (ws2 := (wS h ad aa cI cR (spS σ k i) (kpO (kpO o n) (kpN n - 1)) (kpN (kpN n - 1)) (va_up (va_up τ (kpS o n) σ) (kpS (kpO o n) (kpN n - 1)) σ))) [.int (nI k), .int (nI i)] [] hx hb hml hown hts k_RL_60 (fun sz => c_X3_spoilN l D cI cR h ad aa σ (kpO o n) (kpN n - 1) (va_up τ (kpS o n) σ) k i hw hi.back.2.2.1 hi.back.2.2.2 hkl hil sz) ⟨rfl, rfl, Nat.le_of_ble_eq_true rfl, Nat.le_of_ble_eq_true rfl⟩ hP hD hS hA hK 3 rfl rfl rfl rfl hl rfl (Nat.le_of_ble_eq_true rfl) dL_law_738 ⟨Nat.le_of_ble_eq_true rfl, Nat.le_of_ble_eq_true rfl⟩ (fun H locs hP hD hS => ?_)
                        refine W.eq (g2 := F0 m 741 ls [.int (nI (((σ (100 + k) ^^^ 1 <<< i).testBit i).toNat))]) rfl ?_
                        refine nv_top (0) (by rw [sp_bit, hbad]; rfl) ?_
                        refine nv_if_eq (tgt := 746) hx hb dL_law_741 (by decide) (by omega) (fun q_741 => ?_) (fun q_741 => False.elim (by omega))
                        refine nv_inc (k := 6) (lv' := [(11, .int (nI (i + 1))), (17, .int (nI ((rtB σ k i).toNat))), (16, .int (nI ((onB σ k i).toNat))), (1, .ref h), (6, .int (nI r)), (8, .int (nI w)), (10, .int (nI k)), (12, .int (nI (((wvM σ k).testBit i).toNat)))]) hx hb dL_law_746 hl rfl (by decide) rfl (fun ls hl => ?_)
                        refine lv_goto (tgt := 503) hx hb dL_law_749 (by decide) ?_
                        exact ih503 (i + 1) (spS σ k i) (kpO (kpO o n) (kpN n - 1)) (kpN (kpN n - 1)) (va_up (va_up τ (kpS o n) σ) (kpS (kpO o n) (kpN n - 1)) σ) (by omega) (by omega) (lwI.sp (w := k) (r := i) (lwI.back hi) hkl hil) (agW.sp hag (by omega)) (clW.sp hcl) (rwW.sp hrw hbad) _ _ hP hD hS ls (lv_sub hl [3, 4, 5, 6, 0] rfl)
                refine nv_icmp_ge (tgt := 543) hx hb dL_law_536 (by decide) (by omega) (by omega) (fun q_536 => ?_) (fun q_536 => ?_)
                · obtain ⟨x1, x2, x3, x4, x5, x6⟩ := sw_ix hw q_536 hkl hil
                  have hwd := hw.wd x4
                  have hsb := swB_lt (σ := σ) k
                  have hpl := pop_le (σ (19 + swA σ k i))
                  refine lv_iload hx hb dL_law_543 (lv_at hl 4 rfl) ?_
                  refine lv_bipush (v := nI 8) hx hb dL_law_545 (by decide) ?_
                  refine nv_isub hx hb dL_law_547 (by omega) ?_
                  refine lv_aload_n hx hb dL_law_548 rfl (lv_at hl 1 rfl) ?_
                  refine lv_iconst (v := nI 1) hx hb dL_law_549 (by decide) ?_
                  refine nv_callV [.int (nI 1)] [.int (nI (k - 8))] hx hb hml hown hts k_RL_8 (c_X3_count1 l D cI cR h ad aa σ o n τ 1 hw rfl) ⟨rfl, rfl, Nat.le_of_ble_eq_true rfl, Nat.le_of_ble_eq_true rfl⟩ hP hK 3 rfl rfl rfl rfl hl rfl (Nat.le_of_ble_eq_true rfl) dL_law_550 ⟨Nat.le_of_ble_eq_true rfl, Nat.le_of_ble_eq_true rfl⟩ ?_
                  refine lv_iconst (v := nI 1) hx hb dL_law_553 (by decide) ?_
                  refine nv_iadd hx hb dL_law_554 ?_
                  refine nv_idiv hx hb dL_law_555 (by omega) (by omega) (by omega) ?_
                  refine lv_istore (lv' := [(13, .int (nI ((k - 8) / ((σ 1) + 1)))), (12, .int (nI (((wvM σ k).testBit i).toNat))), (1, .ref h), (6, .int (nI r)), (8, .int (nI w)), (10, .int (nI k)), (11, .int (nI i))]) hx hb dL_law_556 hl (by decide) rfl (fun ls hl => ?_)
                  refine lv_iload hx hb dL_law_558 (lv_at hl 5 rfl) ?_
                  refine lv_bipush (v := nI 8) hx hb dL_law_560 (by decide) ?_
                  refine nv_icmp_ge (tgt := 569) hx hb dL_law_562 (by decide) (by omega) (by omega) (fun q_562 => ?_) (fun q_562 => False.elim (by omega))
                  refine lv_iload hx hb dL_law_569 (lv_at hl 5 rfl) ?_
                  refine lv_bipush (v := nI 8) hx hb dL_law_571 (by decide) ?_
                  refine nv_isub hx hb dL_law_573 (by omega) ?_
                  refine lv_aload_n hx hb dL_law_574 rfl (lv_at hl 2 rfl) ?_
                  refine lv_iconst (v := nI 1) hx hb dL_law_575 (by decide) ?_
                  refine nv_callV [.int (nI 1)] [.int (nI (k - 8))] hx hb hml hown hts k_RL_8 (c_X3_count1 l D cI cR h ad aa σ o n τ 1 hw rfl) ⟨rfl, rfl, Nat.le_of_ble_eq_true rfl, Nat.le_of_ble_eq_true rfl⟩ hP hK 3 rfl rfl rfl rfl hl rfl (Nat.le_of_ble_eq_true rfl) dL_law_576 ⟨Nat.le_of_ble_eq_true rfl, Nat.le_of_ble_eq_true rfl⟩ ?_
                  refine lv_iconst (v := nI 1) hx hb dL_law_579 (by decide) ?_
                  refine nv_iadd hx hb dL_law_580 ?_
                  refine nv_irem hx hb dL_law_581 (by omega) (by omega) (by omega) ?_
                  refine nv_top (swB σ k) (rfl) ?_
                  refine lv_istore (lv' := [(14, .int (nI (swB σ k))), (13, .int (nI ((k - 8) / ((σ 1) + 1)))), (12, .int (nI (((wvM σ k).testBit i).toNat))), (1, .ref h), (6, .int (nI r)), (8, .int (nI w)), (10, .int (nI k)), (11, .int (nI i))]) hx hb dL_law_582 hl (by decide) rfl (fun ls hl => ?_)
                  refine lv_iload hx hb dL_law_584 (lv_at hl 6 rfl) ?_
                  refine lv_bipush (v := nI 8) hx hb dL_law_586 (by decide) ?_
                  refine nv_icmp_ge (tgt := 595) hx hb dL_law_588 (by decide) (by omega) (by omega) (fun q_588 => ?_) (fun q_588 => False.elim (by omega))
                  refine lv_aload_n hx hb dL_law_595 rfl (lv_at hl 3 rfl) ?_
                  refine lv_aload_n hx hb dL_law_596 rfl (lv_at hl 3 rfl) ?_
                  refine lv_iconst (v := nI 2) hx hb dL_law_597 (by decide) ?_
                  refine nv_callV [.int (nI 2)] [.ref h] hx hb hml hown hts k_RL_8 (c_X3_count2 l D cI cR h ad aa σ o n τ 2 hw rfl) ⟨rfl, rfl, Nat.le_of_ble_eq_true rfl, Nat.le_of_ble_eq_true rfl⟩ hP hK 3 rfl rfl rfl rfl hl rfl (Nat.le_of_ble_eq_true rfl) dL_law_598 ⟨Nat.le_of_ble_eq_true rfl, Nat.le_of_ble_eq_true rfl⟩ ?_
                  refine lv_iload hx hb dL_law_601 (lv_at hl 7 rfl) ?_
                  refine nv_imul hx hb dL_law_603 ?_
                  refine lv_iload hx hb dL_law_604 (lv_at hl 1 rfl) ?_
                  refine nv_iadd hx hb dL_law_606 ?_
                  refine nv_top (swA σ k i) (rfl) ?_
                  refine nv_callV [.int (nI (swA σ k i))] [] hx hb hml hown hts k_RL_26 (c_X3_wordN l D cI cR h ad aa σ o n τ (swA σ k i) hw x4) ⟨rfl, rfl, Nat.le_of_ble_eq_true rfl, Nat.le_of_ble_eq_true rfl⟩ hP hK 3 rfl rfl rfl rfl hl rfl (Nat.le_of_ble_eq_true rfl) dL_law_607 ⟨Nat.le_of_ble_eq_true rfl, Nat.le_of_ble_eq_true rfl⟩ ?_
                  refine lv_istore (lv' := [(15, .int (nI (σ (19 + (swA σ k i))))), (14, .int (nI (swB σ k))), (13, .int (nI ((k - 8) / ((σ 1) + 1)))), (12, .int (nI (((wvM σ k).testBit i).toNat))), (1, .ref h), (6, .int (nI r)), (8, .int (nI w)), (10, .int (nI k)), (11, .int (nI i))]) hx hb dL_law_610 hl (by decide) rfl (fun ls hl => ?_)
                  refine lv_iload hx hb dL_law_612 (lv_at hl 7 rfl) ?_
                  refine lv_bipush (v := nI 8) hx hb dL_law_614 (by decide) ?_
                  refine nv_icmp_ge (tgt := 647) hx hb dL_law_616 (by decide) (by omega) (by omega) (fun q_616 => ?_) (fun q_616 => False.elim (by omega))
                  refine lv_iload hx hb dL_law_647 (lv_at hl 1 rfl) ?_
                  refine lv_aload_n hx hb dL_law_649 rfl (lv_at hl 4 rfl) ?_
                  refine lv_iconst (v := nI 1) hx hb dL_law_650 (by decide) ?_
                  refine nv_callV [.int (nI 1)] [.int (nI (swB σ k))] hx hb hml hown hts k_RL_8 (c_X3_count1 l D cI cR h ad aa σ o n τ 1 hw rfl) ⟨rfl, rfl, Nat.le_of_ble_eq_true rfl, Nat.le_of_ble_eq_true rfl⟩ hP hK 3 rfl rfl rfl rfl hl rfl (Nat.le_of_ble_eq_true rfl) dL_law_651 ⟨Nat.le_of_ble_eq_true rfl, Nat.le_of_ble_eq_true rfl⟩ ?_
                  refine nv_icmp_ge (tgt := 676) hx hb dL_law_654 (by decide) (by omega) (by omega) (fun q_654 => ?_) (fun q_654 => ?_)
                  · refine lv_iload hx hb dL_law_676 (lv_at hl 0 rfl) ?_
                    refine nv_callS [.int (nI (σ (19 + (swA σ k i))))] [] hx hb hml hown hts k_RL_102 (c_L_ones l D cI cR (σ (19 + (swA σ k i))) (by have h1 : σ (19 + swA σ k i) < 1024 := hwd; omega)) ⟨rfl, rfl, Nat.le_of_ble_eq_true rfl, Nat.le_of_ble_eq_true rfl⟩ (va_P_nil) hK rfl hl rfl (Nat.le_of_ble_eq_true rfl) dL_law_678 ⟨Nat.le_of_ble_eq_true rfl, Nat.le_of_ble_eq_true rfl⟩ ?_
                    refine lv_iconst (v := nI 2) hx hb dL_law_681 (by decide) ?_
                    refine nv_irem hx hb dL_law_682 (by omega) (by omega) (by omega) ?_
                    refine nv_if_ne (tgt := 690) hx hb dL_law_683 (by decide) (by omega) (fun q_683 => ?_) (fun q_683 => ?_)
                    · refine lv_iconst (v := nI 0) hx hb dL_law_690 (by decide) ?_
                      refine nv_top ((onB σ k i).toNat) (ob_p0 q_536 q_654 q_683) ?_
                      exact J536 _ _ hP hD hS ls (lv_sub hl [4, 5, 6, 7, 8, 3] rfl)
                    · refine lv_iconst (v := nI 1) hx hb dL_law_686 (by decide) ?_
                      refine lv_goto (tgt := 691) hx hb dL_law_687 (by decide) ?_
                      refine nv_top ((onB σ k i).toNat) (ob_p1 q_536 q_654 q_683) ?_
                      exact J536 _ _ hP hD hS ls (lv_sub hl [4, 5, 6, 7, 8, 3] rfl)
                  · refine lv_iload hx hb dL_law_657 (lv_at hl 0 rfl) ?_
                    refine lv_iload hx hb dL_law_659 (lv_at hl 1 rfl) ?_
                    refine nv_ishr hx hb dL_law_661 (by have h1 : σ (19 + swA σ k i) < 1024 := hwd; omega) (by omega) ?_
                    refine lv_iconst (v := nI 1) hx hb dL_law_662 (by decide) ?_
                    refine nv_iand hx hb dL_law_663 ?_
                    refine nv_top (((σ (19 + swA σ k i)).testBit (swB σ k)).toNat) (nw_tb _ _) ?_
                    have hb4 := toNat_le ((σ (19 + swA σ k i)).testBit (swB σ k))
                    refine lv_iconst (v := nI 1) hx hb dL_law_664 (by decide) ?_
                    refine nv_icmp_ne (tgt := 672) hx hb dL_law_665 (by decide) (by omega) (by omega) (fun q_665 => ?_) (fun q_665 => ?_)
                    · refine lv_iconst (v := nI 0) hx hb dL_law_672 (by decide) ?_
                      refine lv_goto (tgt := 691) hx hb dL_law_673 (by decide) ?_
                      refine nv_top ((onB σ k i).toNat) (ob_b0 q_536 q_654 q_665) ?_
                      exact J536 _ _ hP hD hS ls (lv_sub hl [4, 5, 6, 7, 8, 3] rfl)
                    · refine lv_iconst (v := nI 1) hx hb dL_law_668 (by decide) ?_
                      refine lv_goto (tgt := 691) hx hb dL_law_669 (by decide) ?_
                      refine nv_top ((onB σ k i).toNat) (ob_b1 q_536 q_654 q_665) ?_
                      exact J536 _ _ hP hD hS ls (lv_sub hl [4, 5, 6, 7, 8, 3] rfl)
                · refine lv_iconst (v := -1) hx hb dL_law_539 (by decide) ?_
                  refine lv_goto (tgt := 556) hx hb dL_law_540 (by decide) ?_
                  refine lv_istore (lv' := [(13, .int (-1)), (12, .int (nI (((wvM σ k).testBit i).toNat))), (1, .ref h), (6, .int (nI r)), (8, .int (nI w)), (10, .int (nI k)), (11, .int (nI i))]) hx hb dL_law_556 hl (by decide) rfl (fun ls hl => ?_)
                  refine lv_iload hx hb dL_law_558 (lv_at hl 5 rfl) ?_
                  refine lv_bipush (v := nI 8) hx hb dL_law_560 (by decide) ?_
                  refine nv_icmp_ge (tgt := 569) hx hb dL_law_562 (by decide) (by omega) (by omega) (fun q_562 => False.elim (by omega)) (fun q_562 => ?_)
                  refine lv_iconst (v := nI 0) hx hb dL_law_565 (by decide) ?_
                  refine lv_goto (tgt := 582) hx hb dL_law_566 (by decide) ?_
                  refine lv_istore (lv' := [(14, .int (nI 0)), (13, .int (-1)), (12, .int (nI (((wvM σ k).testBit i).toNat))), (1, .ref h), (6, .int (nI r)), (8, .int (nI w)), (10, .int (nI k)), (11, .int (nI i))]) hx hb dL_law_582 hl (by decide) rfl (fun ls hl => ?_)
                  refine lv_iload hx hb dL_law_584 (lv_at hl 6 rfl) ?_
                  refine lv_bipush (v := nI 8) hx hb dL_law_586 (by decide) ?_
                  refine nv_icmp_ge (tgt := 595) hx hb dL_law_588 (by decide) (by omega) (by omega) (fun q_588 => False.elim (by omega)) (fun q_588 => ?_)
                  refine lv_iconst (v := nI 0) hx hb dL_law_591 (by decide) ?_
                  refine lv_goto (tgt := 610) hx hb dL_law_592 (by decide) ?_
                  refine lv_istore (lv' := [(15, .int (nI 0)), (14, .int (nI 0)), (13, .int (-1)), (12, .int (nI (((wvM σ k).testBit i).toNat))), (1, .ref h), (6, .int (nI r)), (8, .int (nI w)), (10, .int (nI k)), (11, .int (nI i))]) hx hb dL_law_610 hl (by decide) rfl (fun ls hl => ?_)
                  refine lv_iload hx hb dL_law_612 (lv_at hl 7 rfl) ?_
                  refine lv_bipush (v := nI 8) hx hb dL_law_614 (by decide) ?_
                  refine nv_icmp_ge (tgt := 647) hx hb dL_law_616 (by decide) (by omega) (by omega) (fun q_616 => False.elim (by omega)) (fun q_616 => ?_)
                  refine lv_aload_n hx hb dL_law_619 rfl (lv_at hl 4 rfl) ?_
                  refine lv_iload hx hb dL_law_620 (lv_at hl 8 rfl) ?_
                  refine nv_callV [.int (nI i)] [] hx hb hml hown hts k_RL_29 (c_X3_codeN l D cI cR h ad aa σ o n τ i hw hil) ⟨rfl, rfl, Nat.le_of_ble_eq_true rfl, Nat.le_of_ble_eq_true rfl⟩ hP hK 3 rfl rfl rfl rfl hl rfl (Nat.le_of_ble_eq_true rfl) dL_law_622 ⟨Nat.le_of_ble_eq_true rfl, Nat.le_of_ble_eq_true rfl⟩ ?_
                  have hcd := hw.cd hil
                  refine lv_iload hx hb dL_law_625 (lv_at hl 7 rfl) ?_
                  refine lv_iconst (v := nI 2) hx hb dL_law_627 (by decide) ?_
                  refine nv_idiv hx hb dL_law_628 (by omega) (by omega) (by omega) ?_
                  refine nv_ishr hx hb dL_law_629 (by omega) (by omega) ?_
                  refine lv_iconst (v := nI 1) hx hb dL_law_630 (by decide) ?_
                  refine nv_iand hx hb dL_law_631 ?_
                  refine nv_top (((σ (3 + i)).testBit (k / 2)).toNat) (nw_tb _ _) ?_
                  have hb3 := toNat_le ((σ (3 + i)).testBit (k / 2))
                  refine lv_iload hx hb dL_law_632 (lv_at hl 7 rfl) ?_
                  refine lv_iconst (v := nI 2) hx hb dL_law_634 (by decide) ?_
                  refine nv_irem hx hb dL_law_635 (by omega) (by omega) (by omega) ?_
                  refine nv_icmp_ne (tgt := 643) hx hb dL_law_636 (by decide) (by omega) (by omega) (fun q_636 => ?_) (fun q_636 => ?_)
                  · refine lv_iconst (v := nI 0) hx hb dL_law_643 (by decide) ?_
                    refine lv_goto (tgt := 691) hx hb dL_law_644 (by decide) ?_
                    refine nv_top ((onB σ k i).toNat) (ob_i0 q_536 q_636) ?_
                    exact J536 _ _ hP hD hS ls (lv_sub hl [4, 5, 6, 7, 8, 3] rfl)
                  · refine lv_iconst (v := nI 1) hx hb dL_law_639 (by decide) ?_
                    refine lv_goto (tgt := 691) hx hb dL_law_640 (by decide) ?_
                    refine nv_top ((onB σ k i).toNat) (ob_i1 q_536 q_636) ?_
                    exact J536 _ _ hP hD hS ls (lv_sub hl [4, 5, 6, 7, 8, 3] rfl)
              refine nv_icmp_ne (tgt := 529) hx hb dL_law_522 (by decide) (by omega) (by omega) (fun q_522 => ?_) (fun q_522 => ?_)
              · refine lv_iconst (v := nI 0) hx hb dL_law_529 (by decide) ?_
                refine nv_top (((wvM σ k).testBit i).toNat) (tn_0 q_522) ?_
                exact J522 _ _ hP hD hS ls (lv_sub hl [0, 1, 2, 3, 4] rfl)
              · refine lv_iconst (v := nI 1) hx hb dL_law_525 (by decide) ?_
                refine lv_goto (tgt := 530) hx hb dL_law_526 (by decide) ?_
                refine nv_top (((wvM σ k).testBit i).toNat) (q_522.symm) ?_
                exact J522 _ _ hP hD hS ls (lv_sub hl [0, 1, 2, 3, 4] rfl)
        exact L503 (σb 0 + 1) 0 σ o n τ (by omega) (by omega) (hi) (hag) (hcl) (rwW.z σ k) _ _ hP hD hS ls (lv_sub hl [1, 2, 3, 4, 0] rfl)
  exact L490 (nW σb + 1) 0 σb ob nb τb (by omega) (by omega) (hi) (agW.rf σb) (fun v hv => absurd hv (Nat.not_lt_zero v)) _ _ hP hD hS ls (lv_sub hl [0, 1, 2, 3] rfl)
