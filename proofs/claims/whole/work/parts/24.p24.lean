set_option maxHeartbeats 4000000 in
set_option maxRecDepth 100000 in
theorem c_X4_digest (l : Launch) (D : va_G) (cI cR : ClassId) (h : Nat) (a : Nat → Nat) (ρ : Nat → Nat → Nat) (sv : Nat) (wv : Nat → Nat) (nw : Nat → Nat) (b : Nat → Nat) (ln : Nat) (at0 : Nat) (wd : Nat) (hh : Int64)   (hw : wf (ρ 0)) (sz : Nat) : Met l yX4_digest (wsC yX4_digest cX4_digest 3 (some .long)) (rmK 6 137) (nPreM D (nTy cI cR) [.ref h] (wMd h a cI (rwF ρ) sv (nF wv) (nF nw) (nF b) ln at0 wd hh) sz) (QcM D (some (.long (hsF (ρ 0)))) (wMd h a cI (rwF ρ) sv (nF (wvG (ρ 0) wv (nW (ρ 0)))) (nF nw) (nF b) ln at0 wd (hsF (ρ 0))) (va_A (wMd h a cI (rwF ρ) sv (nF wv) (nF nw) (nF b) ln at0 wd hh) sz)) 0 0 (va_A (wMd h a cI (rwF ρ) sv (nF wv) (nF nw) (nF b) ln at0 wd hh) sz) := by
  refine met_mut (Qc := fun A => QcM D (some (.long (hsF (ρ 0)))) (wMd h a cI (rwF ρ) sv (nF (wvG (ρ 0) wv (nW (ρ 0)))) (nF nw) (nF b) ln at0 wd (hsF (ρ 0))) A) rfl (Nat.le_of_ble_eq_true rfl) ?_
  intro p e s m args below meth c ls A H locs hx hb hml hr hlocks hown hts hP hK hD hA hS hl
  have hl : lv_has ls 3 [(0, .ref h)] := hl
  have hA41 := hw.w41
  have hA33 := hw.a33
  have hA48 := hw.a48
  obtain ⟨hR2, hR, hB1, hB, hSa, hSb, -⟩ := id hw
  have h1024 := p2_10 hB
  refine lv_aload_n hx hb dX4_digest_0 rfl (lv_at hl 0 rfl) ?_
  refine lv_ldc2 (v := 17) hx hb hown (hts _ ct_RX4_134) dX4_digest_1 ?_
  refine va_put (D := D) (ci := 4) (v := .long 17) (ty := .long) (C := RX4) (T := TX4) (N := 9) hx hb hts inX4 tyX4 tyX4_ok nmX4 hown hK hP hD hS 0 rfl rfl 8 (by decide) (hts _ fl_RX4_130) (fun _ h9 => h9) rfl (by decide +kernel) rfl rfl (Nat.le_of_ble_eq_true rfl) dX4_digest_4 (fun H locs hP hD hS => ?_)
  have hP : va_P D vwCl (wMd h a cI (rwF ρ) sv (nF wv) (nF nw) (nF b) ln at0 wd 17) H := hP
  have hD : va_D A (wMd h a cI (rwF ρ) sv (nF wv) (nF nw) (nF b) ln at0 wd 17) := hD
  refine lv_iconst (v := nI 0) hx hb dX4_digest_7 (by decide) ?_
  refine lv_istore_n (lv' := [(1, .int (nI 0)), (0, .ref h)]) hx hb dX4_digest_8 rfl hl (by decide) rfl (fun ls hl => ?_)
  have L9 : ∀ (n9 i : Nat), 9 + 1 ≤ i + n9 → i ≤ 9 → ∀ (H : Heap) (locs : List Loc), va_P D vwCl (wMd h a cI (rwF ρ) sv (nF wv) (nF nw) (nF b) ln at0 wd (hs (fun k => nI (nuN (ρ 0) k)) i 17)) H → va_D A (wMd h a cI (rwF ρ) sv (nF wv) (nF nw) (nF b) ln at0 wd (hs (fun k => nI (nuN (ρ 0) k)) i 17)) → va_S A s.heap H locs → ∀ (ls : Array Slot), lv_has ls 3 [(1, .int (nI i)), (0, .ref h)] → W p l e (rmK 6 137) s m args below meth c H locs 0 0 (MQ below (QcM D (some (.long (hsF (ρ 0)))) (wMd h a cI (rwF ρ) sv (nF (wvG (ρ 0) wv (nW (ρ 0)))) (nF nw) (nF b) ln at0 wd (hsF (ρ 0))) A) args s 0 0 A) (F0 m 9 ls []) := by
    intro n9
    induction n9 with
    | zero =>
      intro i h1_9 h2_9
      exact False.elim (by omega)
    | succ n9 ih9 =>
      intro i h1_9 h2_9  H locs hP hD hS ls hl
      refine lv_iload_n hx hb dX4_digest_9 rfl (lv_at hl 0 rfl) ?_
      refine lv_bipush (v := nI 9) hx hb dX4_digest_10 (by decide) ?_
      refine nv_icmp_ge (tgt := 30) hx hb dX4_digest_12 (by decide) (by omega) (by omega) (fun q_12 => ?_) (fun q_12 => ?_)
      · refine lv_iconst (v := nI 0) hx hb dX4_digest_30 (by decide) ?_
        refine lv_istore_n (lv' := [(1, .int (nI 0)), (0, .ref h)]) hx hb dX4_digest_31 rfl hl (by decide) rfl (fun ls hl => ?_)
        have L32 : ∀ (n32 i : Nat), ρ 0 0 + 1 ≤ i + n32 → i ≤ ρ 0 0 → ∀ (H : Heap) (locs : List Loc), va_P D vwCl (wMd h a cI (rwF ρ) sv (nF wv) (nF nw) (nF b) ln at0 wd (hs (fun r => nI (ρ 0 (3 + r))) i (hs (fun k => nI (nuN (ρ 0) k)) 9 17))) H → va_D A (wMd h a cI (rwF ρ) sv (nF wv) (nF nw) (nF b) ln at0 wd (hs (fun r => nI (ρ 0 (3 + r))) i (hs (fun k => nI (nuN (ρ 0) k)) 9 17))) → va_S A s.heap H locs → ∀ (ls : Array Slot), lv_has ls 3 [(1, .int (nI i)), (0, .ref h)] → W p l e (rmK 6 137) s m args below meth c H locs 0 0 (MQ below (QcM D (some (.long (hsF (ρ 0)))) (wMd h a cI (rwF ρ) sv (nF (wvG (ρ 0) wv (nW (ρ 0)))) (nF nw) (nF b) ln at0 wd (hsF (ρ 0))) A) args s 0 0 A) (F0 m 32 ls []) := by
          intro n32
          induction n32 with
          | zero =>
            intro i h1_32 h2_32
            exact False.elim (by omega)
          | succ n32 ih32 =>
            intro i h1_32 h2_32  H locs hP hD hS ls hl
            refine lv_iload_n hx hb dX4_digest_32 rfl (lv_at hl 0 rfl) ?_
            refine lv_aload_n hx hb dX4_digest_33 rfl (lv_at hl 1 rfl) ?_
            refine va_get (D := D) (ci := 4) (v := .ref (a 0)) (C := RX4) (T := TX4) (N := 9) hx hb hts inX4 hown hK hP 0 rfl rfl 0 (by decide) (hts _ fl_RX4_7) (fun _ h9 => h9) rfl dX4_digest_34 ?_
            refine lv_iconst (v := nI 0) hx hb dX4_digest_37 (by decide) ?_
            refine nv_iald (D := D) (v := nI (ρ 0 0)) hx hb hK hP 1 0 rfl rfl (k := 0) (by omega) (by decide) (rw_lo (by omega)) dX4_digest_38 ?_
            refine nv_icmp_ge (tgt := 60) hx hb dX4_digest_39 (by decide) (by omega) (by omega) (fun q_39 => ?_) (fun q_39 => ?_)
            · refine lv_aload_n hx hb dX4_digest_60 rfl (lv_at hl 1 rfl) ?_
              refine mu_call (ws' := (wMd h a cI (rwF ρ) sv (nF (wvG (ρ 0) wv (nW (ρ 0)))) (nF nw) (nF b) ln at0 wd (hs (fun r => nI (ρ 0 (3 + r))) i (hs (fun k => nI (nuN (ρ 0) k)) 9 17)))) [0, 1, 2, 3, 4] [] [0, 1, 2, 3, 4] [] [] hx hb hml hown hts k_RX4_84 (fun sz => c_X4_weaves l D cI cR h a ρ sv wv nw b ln at0 wd (hs (fun r => nI (ρ 0 (3 + r))) i (hs (fun k => nI (nuN (ρ 0) k)) 9 17)) hw sz) ⟨rfl, rfl, Nat.le_of_ble_eq_true rfl, Nat.le_of_ble_eq_true rfl⟩ hP hD hS hA hK 4 rfl rfl rfl rfl rfl rfl rfl (by decide) rfl rfl rfl hl rfl (Nat.le_of_ble_eq_true rfl) dX4_digest_61 ⟨Nat.zero_le _, Nat.zero_le _⟩ (fun H locs hP hD hS => ?_)
              refine W.eq (g2 := F0 m 64 ls []) rfl ?_
              refine lv_iconst (v := nI 0) hx hb dX4_digest_64 (by decide) ?_
              refine lv_istore_n (lv' := [(1, .int (nI 0)), (0, .ref h)]) hx hb dX4_digest_65 rfl hl (by decide) rfl (fun ls hl => ?_)
              have L66 : ∀ (n66 i : Nat), nA (ρ 0) + 1 ≤ i + n66 → i ≤ nA (ρ 0) → ∀ (H : Heap) (locs : List Loc), va_P D vwCl (wMd h a cI (rwF ρ) sv (nF (wvG (ρ 0) wv (nW (ρ 0)))) (nF nw) (nF b) ln at0 wd (hq (ρ 0) i (hs (fun r => nI (ρ 0 (3 + r))) (ρ 0 0) (hs (fun k => nI (nuN (ρ 0) k)) 9 17)))) H → va_D A (wMd h a cI (rwF ρ) sv (nF (wvG (ρ 0) wv (nW (ρ 0)))) (nF nw) (nF b) ln at0 wd (hq (ρ 0) i (hs (fun r => nI (ρ 0 (3 + r))) (ρ 0 0) (hs (fun k => nI (nuN (ρ 0) k)) 9 17)))) → va_S A s.heap H locs → ∀ (ls : Array Slot), lv_has ls 3 [(1, .int (nI i)), (0, .ref h)] → W p l e (rmK 6 137) s m args below meth c H locs 0 0 (MQ below (QcM D (some (.long (hsF (ρ 0)))) (wMd h a cI (rwF ρ) sv (nF (wvG (ρ 0) wv (nW (ρ 0)))) (nF nw) (nF b) ln at0 wd (hsF (ρ 0))) A) args s 0 0 A) (F0 m 66 ls []) := by
                intro n66
                induction n66 with
                | zero =>
                  intro i h1_66 h2_66
                  exact False.elim (by omega)
                | succ n66 ih66 =>
                  intro i h1_66 h2_66  H locs hP hD hS ls hl
                  refine lv_iload_n hx hb dX4_digest_66 rfl (lv_at hl 0 rfl) ?_
                  refine lv_aload_n hx hb dX4_digest_67 rfl (lv_at hl 1 rfl) ?_
                  refine nv_callV [] [.int (nI i)] hx hb hml hown hts k_RX4_42 (c_X4_addresses l D cI cR h a ρ sv ((wvG (ρ 0) wv (nW (ρ 0)))) nw b ln at0 wd (hq (ρ 0) i (hs (fun r => nI (ρ 0 (3 + r))) (ρ 0 0) (hs (fun k => nI (nuN (ρ 0) k)) 9 17))) ) ⟨rfl, rfl, Nat.le_of_ble_eq_true rfl, Nat.le_of_ble_eq_true rfl⟩ hP hK 4 rfl rfl rfl rfl hl rfl (Nat.le_of_ble_eq_true rfl) dX4_digest_68 ⟨Nat.zero_le _, Nat.zero_le _⟩ ?_
                  refine nv_icmp_ge (tgt := 133) hx hb dX4_digest_71 (by decide) (by omega) (by omega) (fun q_71 => ?_) (fun q_71 => ?_)
                  · refine lv_iconst (v := nI 0) hx hb dX4_digest_133 (by decide) ?_
                    refine lv_istore_n (lv' := [(1, .int (nI 0)), (0, .ref h)]) hx hb dX4_digest_134 rfl hl (by decide) rfl (fun ls hl => ?_)
                    have L135 : ∀ (n135 w : Nat), nW (ρ 0) + 1 ≤ w + n135 → w ≤ nW (ρ 0) → ∀ (H : Heap) (locs : List Loc), va_P D vwCl (wMd h a cI (rwF ρ) sv (nF (wvG (ρ 0) wv (nW (ρ 0)))) (nF nw) (nF b) ln at0 wd (hv (ρ 0) w (hq (ρ 0) (nA (ρ 0)) (hs (fun r => nI (ρ 0 (3 + r))) (ρ 0 0) (hs (fun k => nI (nuN (ρ 0) k)) 9 17))))) H → va_D A (wMd h a cI (rwF ρ) sv (nF (wvG (ρ 0) wv (nW (ρ 0)))) (nF nw) (nF b) ln at0 wd (hv (ρ 0) w (hq (ρ 0) (nA (ρ 0)) (hs (fun r => nI (ρ 0 (3 + r))) (ρ 0 0) (hs (fun k => nI (nuN (ρ 0) k)) 9 17))))) → va_S A s.heap H locs → ∀ (ls : Array Slot), lv_has ls 3 [(1, .int (nI w)), (0, .ref h)] → W p l e (rmK 6 137) s m args below meth c H locs 0 0 (MQ below (QcM D (some (.long (hsF (ρ 0)))) (wMd h a cI (rwF ρ) sv (nF (wvG (ρ 0) wv (nW (ρ 0)))) (nF nw) (nF b) ln at0 wd (hsF (ρ 0))) A) args s 0 0 A) (F0 m 135 ls []) := by
                      intro n135
                      induction n135 with
                      | zero =>
                        intro w h1_135 h2_135
                        exact False.elim (by omega)
                      | succ n135 ih135 =>
                        intro w h1_135 h2_135  H locs hP hD hS ls hl
                        refine lv_iload_n hx hb dX4_digest_135 rfl (lv_at hl 0 rfl) ?_
                        refine lv_aload_n hx hb dX4_digest_136 rfl (lv_at hl 1 rfl) ?_
                        refine nv_callV [] [.int (nI w)] hx hb hml hown hts k_RX4_38 (c_X4_wires l D cI cR h a ρ sv ((wvG (ρ 0) wv (nW (ρ 0)))) nw b ln at0 wd (hv (ρ 0) w (hq (ρ 0) (nA (ρ 0)) (hs (fun r => nI (ρ 0 (3 + r))) (ρ 0 0) (hs (fun k => nI (nuN (ρ 0) k)) 9 17)))) ) ⟨rfl, rfl, Nat.le_of_ble_eq_true rfl, Nat.le_of_ble_eq_true rfl⟩ hP hK 4 rfl rfl rfl rfl hl rfl (Nat.le_of_ble_eq_true rfl) dX4_digest_137 ⟨Nat.zero_le _, Nat.zero_le _⟩ ?_
                        refine nv_icmp_ge (tgt := 181) hx hb dX4_digest_140 (by decide) (by omega) (by omega) (fun q_140 => ?_) (fun q_140 => ?_)
                        · have ew : w = nW (ρ 0) := by omega
                          have eH : (hv (ρ 0) w (hq (ρ 0) (nA (ρ 0)) (hs (fun r => nI (ρ 0 (3 + r))) (ρ 0 0) (hs (fun k => nI (nuN (ρ 0) k)) 9 17))) : Int64) = (hsF (ρ 0)) := by rw [ew]; rfl
                          rw [eH] at hP hD
                          have hP : va_P D vwCl (wMd h a cI (rwF ρ) sv (nF (wvG (ρ 0) wv (nW (ρ 0)))) (nF nw) (nF b) ln at0 wd (hsF (ρ 0))) H := hP
                          have hD : va_D A (wMd h a cI (rwF ρ) sv (nF (wvG (ρ 0) wv (nW (ρ 0)))) (nF nw) (nF b) ln at0 wd (hsF (ρ 0))) := hD
                          refine lv_aload_n hx hb dX4_digest_181 rfl (lv_at hl 1 rfl) ?_
                          refine va_get (D := D) (ci := 4) (v := .long (hsF (ρ 0))) (C := RX4) (T := TX4) (N := 9) hx hb hts inX4 hown hK hP 0 rfl rfl 8 (by decide) (hts _ fl_RX4_130) (fun _ h9 => h9) rfl dX4_digest_182 ?_
                          exact mu_retl hx hb hr hlocks (rfl) hP hD hS dX4_digest_185
                        · refine lv_iconst (v := nI 0) hx hb dX4_digest_143 (by decide) ?_
                          refine lv_istore_n (lv' := [(2, .int (nI 0)), (1, .int (nI w)), (0, .ref h)]) hx hb dX4_digest_144 rfl hl (by decide) rfl (fun ls hl => ?_)
                          have L145 : ∀ (n145 i : Nat), ρ 0 0 + 1 ≤ i + n145 → i ≤ ρ 0 0 → ∀ (H : Heap) (locs : List Loc), va_P D vwCl (wMd h a cI (rwF ρ) sv (nF (wvG (ρ 0) wv (nW (ρ 0)))) (nF nw) (nF b) ln at0 wd (hs (fun r => nI ((wvM (ρ 0) w).testBit r).toNat) i (hv (ρ 0) w (hq (ρ 0) (nA (ρ 0)) (hs (fun r => nI (ρ 0 (3 + r))) (ρ 0 0) (hs (fun k => nI (nuN (ρ 0) k)) 9 17)))))) H → va_D A (wMd h a cI (rwF ρ) sv (nF (wvG (ρ 0) wv (nW (ρ 0)))) (nF nw) (nF b) ln at0 wd (hs (fun r => nI ((wvM (ρ 0) w).testBit r).toNat) i (hv (ρ 0) w (hq (ρ 0) (nA (ρ 0)) (hs (fun r => nI (ρ 0 (3 + r))) (ρ 0 0) (hs (fun k => nI (nuN (ρ 0) k)) 9 17)))))) → va_S A s.heap H locs → ∀ (ls : Array Slot), lv_has ls 3 [(2, .int (nI i)), (1, .int (nI w)), (0, .ref h)] → W p l e (rmK 6 137) s m args below meth c H locs 0 0 (MQ below (QcM D (some (.long (hsF (ρ 0)))) (wMd h a cI (rwF ρ) sv (nF (wvG (ρ 0) wv (nW (ρ 0)))) (nF nw) (nF b) ln at0 wd (hsF (ρ 0))) A) args s 0 0 A) (F0 m 145 ls []) := by
                            intro n145
                            induction n145 with
                            | zero =>
                              intro i h1_145 h2_145
                              exact False.elim (by omega)
                            | succ n145 ih145 =>
                              intro i h1_145 h2_145  H locs hP hD hS ls hl
                              refine lv_iload_n hx hb dX4_digest_145 rfl (lv_at hl 0 rfl) ?_
                              refine lv_aload_n hx hb dX4_digest_146 rfl (lv_at hl 2 rfl) ?_
                              refine va_get (D := D) (ci := 4) (v := .ref (a 0)) (C := RX4) (T := TX4) (N := 9) hx hb hts inX4 hown hK hP 0 rfl rfl 0 (by decide) (hts _ fl_RX4_7) (fun _ h9 => h9) rfl dX4_digest_147 ?_
                              refine lv_iconst (v := nI 0) hx hb dX4_digest_150 (by decide) ?_
                              refine nv_iald (D := D) (v := nI (ρ 0 0)) hx hb hK hP 1 0 rfl rfl (k := 0) (by omega) (by decide) (rw_lo (by omega)) dX4_digest_151 ?_
                              refine nv_icmp_ge (tgt := 175) hx hb dX4_digest_152 (by decide) (by omega) (by omega) (fun q_152 => ?_) (fun q_152 => ?_)
                              · refine nv_inc (k := 1) (lv' := [(1, .int (nI (w + 1))), (2, .int (nI i)), (0, .ref h)]) hx hb dX4_digest_175 hl rfl (by decide) rfl (fun ls hl => ?_)
                                refine lv_goto (tgt := 135) hx hb dX4_digest_178 (by decide) ?_
                                have eH : (hs (fun r => nI ((wvM (ρ 0) w).testBit r).toNat) i (hv (ρ 0) w (hq (ρ 0) (nA (ρ 0)) (hs (fun r => nI (ρ 0 (3 + r))) (ρ 0 0) (hs (fun k => nI (nuN (ρ 0) k)) 9 17)))) : Int64) = (hv (ρ 0) (w + 1) (hq (ρ 0) (nA (ρ 0)) (hs (fun r => nI (ρ 0 (3 + r))) (ρ 0 0) (hs (fun k => nI (nuN (ρ 0) k)) 9 17)))) := by rw [show i = ρ 0 0 by omega]; rfl
                                rw [eH] at hP hD
                                have hP : va_P D vwCl (wMd h a cI (rwF ρ) sv (nF (wvG (ρ 0) wv (nW (ρ 0)))) (nF nw) (nF b) ln at0 wd (hv (ρ 0) (w + 1) (hq (ρ 0) (nA (ρ 0)) (hs (fun r => nI (ρ 0 (3 + r))) (ρ 0 0) (hs (fun k => nI (nuN (ρ 0) k)) 9 17))))) H := hP
                                have hD : va_D A (wMd h a cI (rwF ρ) sv (nF (wvG (ρ 0) wv (nW (ρ 0)))) (nF nw) (nF b) ln at0 wd (hv (ρ 0) (w + 1) (hq (ρ 0) (nA (ρ 0)) (hs (fun r => nI (ρ 0 (3 + r))) (ρ 0 0) (hs (fun k => nI (nuN (ρ 0) k)) 9 17))))) := hD
                                exact ih135 (w + 1) (by omega) (by omega)  _ _ hP hD hS ls (lv_sub hl [0, 2] rfl)
                              · refine lv_aload_n hx hb dX4_digest_155 rfl (lv_at hl 2 rfl) ?_
                                refine lv_aload_n hx hb dX4_digest_156 rfl (lv_at hl 2 rfl) ?_
                                refine va_get (D := D) (ci := 4) (v := .ref (a 1)) (C := RX4) (T := TX4) (N := 9) hx hb hts inX4 hown hK hP 0 rfl rfl 2 (by decide) (hts _ fl_RX4_13) (fun _ h9 => h9) rfl dX4_digest_157 ?_
                                refine lv_iload_n hx hb dX4_digest_160 rfl (lv_at hl 1 rfl) ?_
                                refine nv_iald (D := D) (v := nI ((wvG (ρ 0) wv (nW (ρ 0))) w)) hx hb hK hP 2 0 rfl rfl (k := w) (by omega) (by decide) (rfl) dX4_digest_161 ?_
                                refine nv_top (wvM (ρ 0) w) (wvG_in (by omega)) ?_
                                have hwl := wvM_lt hw (w := w) (by omega)
                                refine lv_iload_n hx hb dX4_digest_162 rfl (lv_at hl 0 rfl) ?_
                                refine nv_ishr hx hb dX4_digest_163 (by omega) (by omega) ?_
                                refine lv_iconst (v := nI 1) hx hb dX4_digest_164 (by decide) ?_
                                refine nv_iand hx hb dX4_digest_165 ?_
                                refine nv_top (((wvM (ρ 0) w).testBit i).toNat) (nw_tb _ _) ?_
                                refine mu_call (ws' := (wMd h a cI (rwF ρ) sv (nF ((wvG (ρ 0) wv (nW (ρ 0))))) (nF nw) (nF b) ln at0 wd (31 * (hs (fun r => nI ((wvM (ρ 0) w).testBit r).toNat) i (hv (ρ 0) w (hq (ρ 0) (nA (ρ 0)) (hs (fun r => nI (ρ 0 (3 + r))) (ρ 0 0) (hs (fun k => nI (nuN (ρ 0) k)) 9 17))))) + ((nI (((wvM (ρ 0) w).testBit i).toNat))).toInt64))) [0, 1, 2, 3, 4] [] [0, 1, 2, 3, 4] [.int (nI (((wvM (ρ 0) w).testBit i).toNat))] [] hx hb hml hown hts k_RX4_139 (fun sz => c_X4_note l D cI cR h a ρ sv ((wvG (ρ 0) wv (nW (ρ 0)))) nw b ln at0 wd (hs (fun r => nI ((wvM (ρ 0) w).testBit r).toNat) i (hv (ρ 0) w (hq (ρ 0) (nA (ρ 0)) (hs (fun r => nI (ρ 0 (3 + r))) (ρ 0 0) (hs (fun k => nI (nuN (ρ 0) k)) 9 17))))) (nI (((wvM (ρ 0) w).testBit i).toNat))  sz) ⟨rfl, rfl, Nat.le_of_ble_eq_true rfl, Nat.le_of_ble_eq_true rfl⟩ hP hD hS hA hK 4 rfl rfl rfl rfl rfl rfl rfl (by decide) rfl rfl rfl hl rfl (Nat.le_of_ble_eq_true rfl) dX4_digest_166 ⟨Nat.zero_le _, Nat.zero_le _⟩ (fun H locs hP hD hS => ?_)
                                refine W.eq (g2 := F0 m 169 ls []) rfl ?_
                                have eH : (31 * (hs (fun r => nI ((wvM (ρ 0) w).testBit r).toNat) i (hv (ρ 0) w (hq (ρ 0) (nA (ρ 0)) (hs (fun r => nI (ρ 0 (3 + r))) (ρ 0 0) (hs (fun k => nI (nuN (ρ 0) k)) 9 17))))) + ((nI (((wvM (ρ 0) w).testBit i).toNat))).toInt64 : Int64) = (hs (fun r => nI ((wvM (ρ 0) w).testBit r).toNat) (i + 1) (hv (ρ 0) w (hq (ρ 0) (nA (ρ 0)) (hs (fun r => nI (ρ 0 (3 + r))) (ρ 0 0) (hs (fun k => nI (nuN (ρ 0) k)) 9 17))))) := rfl
                                rw [eH] at hP hD
                                have hP : va_P D vwCl (wMd h a cI (rwF ρ) sv (nF ((wvG (ρ 0) wv (nW (ρ 0))))) (nF nw) (nF b) ln at0 wd (hs (fun r => nI ((wvM (ρ 0) w).testBit r).toNat) (i + 1) (hv (ρ 0) w (hq (ρ 0) (nA (ρ 0)) (hs (fun r => nI (ρ 0 (3 + r))) (ρ 0 0) (hs (fun k => nI (nuN (ρ 0) k)) 9 17)))))) H := hP
                                have hD : va_D A (wMd h a cI (rwF ρ) sv (nF ((wvG (ρ 0) wv (nW (ρ 0))))) (nF nw) (nF b) ln at0 wd (hs (fun r => nI ((wvM (ρ 0) w).testBit r).toNat) (i + 1) (hv (ρ 0) w (hq (ρ 0) (nA (ρ 0)) (hs (fun r => nI (ρ 0 (3 + r))) (ρ 0 0) (hs (fun k => nI (nuN (ρ 0) k)) 9 17)))))) := hD
                                refine nv_inc (k := 0) (lv' := [(2, .int (nI (i + 1))), (1, .int (nI w)), (0, .ref h)]) hx hb dX4_digest_169 hl rfl (by decide) rfl (fun ls hl => ?_)
                                refine lv_goto (tgt := 145) hx hb dX4_digest_172 (by decide) ?_
                                exact ih145 (i + 1) (by omega) (by omega)  _ _ hP hD hS ls (lv_sub hl [0, 1, 2] rfl)
                          have eH : (hv (ρ 0) w (hq (ρ 0) (nA (ρ 0)) (hs (fun r => nI (ρ 0 (3 + r))) (ρ 0 0) (hs (fun k => nI (nuN (ρ 0) k)) 9 17))) : Int64) = (hs (fun r => nI ((wvM (ρ 0) w).testBit r).toNat) 0 (hv (ρ 0) w (hq (ρ 0) (nA (ρ 0)) (hs (fun r => nI (ρ 0 (3 + r))) (ρ 0 0) (hs (fun k => nI (nuN (ρ 0) k)) 9 17))))) := rfl
                          rw [eH] at hP hD
                          have hP : va_P D vwCl (wMd h a cI (rwF ρ) sv (nF (wvG (ρ 0) wv (nW (ρ 0)))) (nF nw) (nF b) ln at0 wd (hs (fun r => nI ((wvM (ρ 0) w).testBit r).toNat) 0 (hv (ρ 0) w (hq (ρ 0) (nA (ρ 0)) (hs (fun r => nI (ρ 0 (3 + r))) (ρ 0 0) (hs (fun k => nI (nuN (ρ 0) k)) 9 17)))))) H := hP
                          have hD : va_D A (wMd h a cI (rwF ρ) sv (nF (wvG (ρ 0) wv (nW (ρ 0)))) (nF nw) (nF b) ln at0 wd (hs (fun r => nI ((wvM (ρ 0) w).testBit r).toNat) 0 (hv (ρ 0) w (hq (ρ 0) (nA (ρ 0)) (hs (fun r => nI (ρ 0 (3 + r))) (ρ 0 0) (hs (fun k => nI (nuN (ρ 0) k)) 9 17)))))) := hD
                          exact L145 (ρ 0 0 + 1) 0 (by omega) (by omega)  _ _ hP hD hS ls (lv_sub hl [0, 1, 2] rfl)
                    have eH : (hq (ρ 0) i (hs (fun r => nI (ρ 0 (3 + r))) (ρ 0 0) (hs (fun k => nI (nuN (ρ 0) k)) 9 17)) : Int64) = (hv (ρ 0) 0 (hq (ρ 0) (nA (ρ 0)) (hs (fun r => nI (ρ 0 (3 + r))) (ρ 0 0) (hs (fun k => nI (nuN (ρ 0) k)) 9 17)))) := by rw [show i = nA (ρ 0) by omega]; rfl
                    rw [eH] at hP hD
                    have hP : va_P D vwCl (wMd h a cI (rwF ρ) sv (nF (wvG (ρ 0) wv (nW (ρ 0)))) (nF nw) (nF b) ln at0 wd (hv (ρ 0) 0 (hq (ρ 0) (nA (ρ 0)) (hs (fun r => nI (ρ 0 (3 + r))) (ρ 0 0) (hs (fun k => nI (nuN (ρ 0) k)) 9 17))))) H := hP
                    have hD : va_D A (wMd h a cI (rwF ρ) sv (nF (wvG (ρ 0) wv (nW (ρ 0)))) (nF nw) (nF b) ln at0 wd (hv (ρ 0) 0 (hq (ρ 0) (nA (ρ 0)) (hs (fun r => nI (ρ 0 (3 + r))) (ρ 0 0) (hs (fun k => nI (nuN (ρ 0) k)) 9 17))))) := hD
                    exact L135 (nW (ρ 0) + 1) 0 (by omega) (by omega)  _ _ hP hD hS ls (lv_sub hl [0, 1] rfl)
                  · refine lv_aload_n hx hb dX4_digest_74 rfl (lv_at hl 1 rfl) ?_
                    refine lv_aload_n hx hb dX4_digest_75 rfl (lv_at hl 1 rfl) ?_
                    refine va_get (D := D) (ci := 4) (v := .ref (a 0)) (C := RX4) (T := TX4) (N := 9) hx hb hts inX4 hown hK hP 0 rfl rfl 0 (by decide) (hts _ fl_RX4_7) (fun _ h9 => h9) rfl dX4_digest_76 ?_
                    refine lv_bipush (v := nI 19) hx hb dX4_digest_79 (by decide) ?_
                    refine lv_iload_n hx hb dX4_digest_81 rfl (lv_at hl 0 rfl) ?_
                    refine nv_iadd hx hb dX4_digest_82 ?_
                    refine nv_iald (D := D) (v := nI (ρ 0 (19 + i))) hx hb hK hP 1 0 rfl rfl (k := 19 + i) (by omega) (by decide) (rw_lo (by omega)) dX4_digest_83 ?_
                    refine mu_call (ws' := (wMd h a cI (rwF ρ) sv (nF ((wvG (ρ 0) wv (nW (ρ 0))))) (nF nw) (nF b) ln at0 wd (31 * (hq (ρ 0) i (hs (fun r => nI (ρ 0 (3 + r))) (ρ 0 0) (hs (fun k => nI (nuN (ρ 0) k)) 9 17))) + ((nI (ρ 0 (19 + i)))).toInt64))) [0, 1, 2, 3, 4] [] [0, 1, 2, 3, 4] [.int (nI (ρ 0 (19 + i)))] [] hx hb hml hown hts k_RX4_139 (fun sz => c_X4_note l D cI cR h a ρ sv ((wvG (ρ 0) wv (nW (ρ 0)))) nw b ln at0 wd (hq (ρ 0) i (hs (fun r => nI (ρ 0 (3 + r))) (ρ 0 0) (hs (fun k => nI (nuN (ρ 0) k)) 9 17))) (nI (ρ 0 (19 + i)))  sz) ⟨rfl, rfl, Nat.le_of_ble_eq_true rfl, Nat.le_of_ble_eq_true rfl⟩ hP hD hS hA hK 4 rfl rfl rfl rfl rfl rfl rfl (by decide) rfl rfl rfl hl rfl (Nat.le_of_ble_eq_true rfl) dX4_digest_84 ⟨Nat.zero_le _, Nat.zero_le _⟩ (fun H locs hP hD hS => ?_)
                    refine W.eq (g2 := F0 m 87 ls []) rfl ?_
                    refine lv_aload_n hx hb dX4_digest_87 rfl (lv_at hl 1 rfl) ?_
                    refine lv_aload_n hx hb dX4_digest_88 rfl (lv_at hl 1 rfl) ?_
                    refine lv_iload_n hx hb dX4_digest_89 rfl (lv_at hl 0 rfl) ?_
                    refine nv_callV [.int (nI i)] [.ref h] hx hb hml hown hts k_RX4_96 (c_X4_reads l D cI cR h a ρ sv (((wvG (ρ 0) wv (nW (ρ 0))))) nw b ln at0 wd (31 * (hq (ρ 0) i (hs (fun r => nI (ρ 0 (3 + r))) (ρ 0 0) (hs (fun k => nI (nuN (ρ 0) k)) 9 17))) + ((nI (ρ 0 (19 + i)))).toInt64) i hw (by omega) (fun w hw9 => wvG_in hw9)) ⟨rfl, rfl, Nat.le_of_ble_eq_true rfl, Nat.le_of_ble_eq_true rfl⟩ hP hK 4 rfl rfl rfl rfl hl rfl (Nat.le_of_ble_eq_true rfl) dX4_digest_90 ⟨Nat.zero_le _, Nat.zero_le _⟩ ?_
                    refine mu_call (ws' := (wMd h a cI (rwF ρ) sv (nF (((wvG (ρ 0) wv (nW (ρ 0)))))) (nF nw) (nF b) ln at0 wd (31 * (31 * (hq (ρ 0) i (hs (fun r => nI (ρ 0 (3 + r))) (ρ 0 0) (hs (fun k => nI (nuN (ρ 0) k)) 9 17))) + ((nI (ρ 0 (19 + i)))).toInt64) + ((nI (rdN (ρ 0) i))).toInt64))) [0, 1, 2, 3, 4] [] [0, 1, 2, 3, 4] [.int (nI (rdN (ρ 0) i))] [] hx hb hml hown hts k_RX4_139 (fun sz => c_X4_note l D cI cR h a ρ sv (((wvG (ρ 0) wv (nW (ρ 0))))) nw b ln at0 wd (31 * (hq (ρ 0) i (hs (fun r => nI (ρ 0 (3 + r))) (ρ 0 0) (hs (fun k => nI (nuN (ρ 0) k)) 9 17))) + ((nI (ρ 0 (19 + i)))).toInt64) (nI (rdN (ρ 0) i))  sz) ⟨rfl, rfl, Nat.le_of_ble_eq_true rfl, Nat.le_of_ble_eq_true rfl⟩ hP hD hS hA hK 4 rfl rfl rfl rfl rfl rfl rfl (by decide) rfl rfl rfl hl rfl (Nat.le_of_ble_eq_true rfl) dX4_digest_93 ⟨Nat.zero_le _, Nat.zero_le _⟩ (fun H locs hP hD hS => ?_)
                    refine W.eq (g2 := F0 m 96 ls []) rfl ?_
                    refine lv_aload_n hx hb dX4_digest_96 rfl (lv_at hl 1 rfl) ?_
                    refine lv_aload_n hx hb dX4_digest_97 rfl (lv_at hl 1 rfl) ?_
                    refine lv_iload_n hx hb dX4_digest_98 rfl (lv_at hl 0 rfl) ?_
                    refine nv_callV [.int (nI i)] [.ref h] hx hb hml hown hts k_RX4_99 (c_X4_isEven l D cI cR h a ρ sv ((((wvG (ρ 0) wv (nW (ρ 0)))))) nw b ln at0 wd (31 * (31 * (hq (ρ 0) i (hs (fun r => nI (ρ 0 (3 + r))) (ρ 0 0) (hs (fun k => nI (nuN (ρ 0) k)) 9 17))) + ((nI (ρ 0 (19 + i)))).toInt64) + ((nI (rdN (ρ 0) i))).toInt64) i hw (by omega) (fun w hw9 => wvG_in hw9)) ⟨rfl, rfl, Nat.le_of_ble_eq_true rfl, Nat.le_of_ble_eq_true rfl⟩ hP hK 4 rfl rfl rfl rfl hl rfl (Nat.le_of_ble_eq_true rfl) dX4_digest_99 ⟨Nat.zero_le _, Nat.zero_le _⟩ ?_
                    have J102 : ∀ (H : Heap) (locs : List Loc), va_P D vwCl (wMd h a cI (rwF ρ) sv (nF (((wvG (ρ 0) wv (nW (ρ 0)))))) (nF nw) (nF b) ln at0 wd (31 * (31 * (hq (ρ 0) i (hs (fun r => nI (ρ 0 (3 + r))) (ρ 0 0) (hs (fun k => nI (nuN (ρ 0) k)) 9 17))) + ((nI (ρ 0 (19 + i)))).toInt64) + ((nI (rdN (ρ 0) i))).toInt64)) H → va_D A (wMd h a cI (rwF ρ) sv (nF (((wvG (ρ 0) wv (nW (ρ 0)))))) (nF nw) (nF b) ln at0 wd (31 * (31 * (hq (ρ 0) i (hs (fun r => nI (ρ 0 (3 + r))) (ρ 0 0) (hs (fun k => nI (nuN (ρ 0) k)) 9 17))) + ((nI (ρ 0 (19 + i)))).toInt64) + ((nI (rdN (ρ 0) i))).toInt64)) → va_S A s.heap H locs → ∀ (ls : Array Slot), lv_has ls 3 [(1, .int (nI i)), (0, .ref h)] → W p l e (rmK 6 137) s m args below meth c H locs 0 0 (MQ below (QcM D (some (.long (hsF (ρ 0)))) (wMd h a cI (rwF ρ) sv (nF (wvG (ρ 0) wv (nW (ρ 0)))) (nF nw) (nF b) ln at0 wd (hsF (ρ 0))) A) args s 0 0 A) (F0 m 110 ls [.int (nI ((paB (ρ 0) i).toNat)), .ref h]) := by
                      intro H locs hP hD hS ls hl
                      refine mu_call (ws' := (wMd h a cI (rwF ρ) sv (nF ((((wvG (ρ 0) wv (nW (ρ 0))))))) (nF nw) (nF b) ln at0 wd (31 * (31 * (31 * (hq (ρ 0) i (hs (fun r => nI (ρ 0 (3 + r))) (ρ 0 0) (hs (fun k => nI (nuN (ρ 0) k)) 9 17))) + ((nI (ρ 0 (19 + i)))).toInt64) + ((nI (rdN (ρ 0) i))).toInt64) + ((nI ((paB (ρ 0) i).toNat))).toInt64))) [0, 1, 2, 3, 4] [] [0, 1, 2, 3, 4] [.int (nI ((paB (ρ 0) i).toNat))] [] hx hb hml hown hts k_RX4_139 (fun sz => c_X4_note l D cI cR h a ρ sv ((((wvG (ρ 0) wv (nW (ρ 0)))))) nw b ln at0 wd (31 * (31 * (hq (ρ 0) i (hs (fun r => nI (ρ 0 (3 + r))) (ρ 0 0) (hs (fun k => nI (nuN (ρ 0) k)) 9 17))) + ((nI (ρ 0 (19 + i)))).toInt64) + ((nI (rdN (ρ 0) i))).toInt64) (nI ((paB (ρ 0) i).toNat))  sz) ⟨rfl, rfl, Nat.le_of_ble_eq_true rfl, Nat.le_of_ble_eq_true rfl⟩ hP hD hS hA hK 4 rfl rfl rfl rfl rfl rfl rfl (by decide) rfl rfl rfl hl rfl (Nat.le_of_ble_eq_true rfl) dX4_digest_110 ⟨Nat.zero_le _, Nat.zero_le _⟩ (fun H locs hP hD hS => ?_)
                      refine W.eq (g2 := F0 m 113 ls []) rfl ?_
                      refine lv_aload_n hx hb dX4_digest_113 rfl (lv_at hl 1 rfl) ?_
                      refine lv_aload_n hx hb dX4_digest_114 rfl (lv_at hl 1 rfl) ?_
                      refine va_get (D := D) (ci := 4) (v := .ref (a 0)) (C := RX4) (T := TX4) (N := 9) hx hb hts inX4 hown hK hP 0 rfl rfl 0 (by decide) (hts _ fl_RX4_7) (fun _ h9 => h9) rfl dX4_digest_115 ?_
                      refine lv_sipush (v := nI 141) hx hb dX4_digest_118 (by decide) ?_
                      refine lv_iload_n hx hb dX4_digest_121 rfl (lv_at hl 0 rfl) ?_
                      refine nv_iadd hx hb dX4_digest_122 ?_
                      refine nv_iald (D := D) (v := ptF (ρ 0) i) hx hb hK hP 1 0 rfl rfl (k := 141 + i) (by omega) (by decide) (rw_pt (by omega)) dX4_digest_123 ?_
                      refine mu_call (ws' := (wMd h a cI (rwF ρ) sv (nF (((((wvG (ρ 0) wv (nW (ρ 0)))))))) (nF nw) (nF b) ln at0 wd (31 * (31 * (31 * (31 * (hq (ρ 0) i (hs (fun r => nI (ρ 0 (3 + r))) (ρ 0 0) (hs (fun k => nI (nuN (ρ 0) k)) 9 17))) + ((nI (ρ 0 (19 + i)))).toInt64) + ((nI (rdN (ρ 0) i))).toInt64) + ((nI ((paB (ρ 0) i).toNat))).toInt64) + ((ptF (ρ 0) i)).toInt64))) [0, 1, 2, 3, 4] [] [0, 1, 2, 3, 4] [.int (ptF (ρ 0) i)] [] hx hb hml hown hts k_RX4_139 (fun sz => c_X4_note l D cI cR h a ρ sv (((((wvG (ρ 0) wv (nW (ρ 0))))))) nw b ln at0 wd (31 * (31 * (31 * (hq (ρ 0) i (hs (fun r => nI (ρ 0 (3 + r))) (ρ 0 0) (hs (fun k => nI (nuN (ρ 0) k)) 9 17))) + ((nI (ρ 0 (19 + i)))).toInt64) + ((nI (rdN (ρ 0) i))).toInt64) + ((nI ((paB (ρ 0) i).toNat))).toInt64) (ptF (ρ 0) i)  sz) ⟨rfl, rfl, Nat.le_of_ble_eq_true rfl, Nat.le_of_ble_eq_true rfl⟩ hP hD hS hA hK 4 rfl rfl rfl rfl rfl rfl rfl (by decide) rfl rfl rfl hl rfl (Nat.le_of_ble_eq_true rfl) dX4_digest_124 ⟨Nat.zero_le _, Nat.zero_le _⟩ (fun H locs hP hD hS => ?_)
                      refine W.eq (g2 := F0 m 127 ls []) rfl ?_
                      have eH : (31 * (31 * (31 * (31 * (hq (ρ 0) i (hs (fun r => nI (ρ 0 (3 + r))) (ρ 0 0) (hs (fun k => nI (nuN (ρ 0) k)) 9 17))) + ((nI (ρ 0 (19 + i)))).toInt64) + ((nI (rdN (ρ 0) i))).toInt64) + ((nI ((paB (ρ 0) i).toNat))).toInt64) + ((ptF (ρ 0) i)).toInt64 : Int64) = (hq (ρ 0) (i + 1) (hs (fun r => nI (ρ 0 (3 + r))) (ρ 0 0) (hs (fun k => nI (nuN (ρ 0) k)) 9 17))) := rfl
                      rw [eH] at hP hD
                      have hP : va_P D vwCl (wMd h a cI (rwF ρ) sv (nF (((((wvG (ρ 0) wv (nW (ρ 0)))))))) (nF nw) (nF b) ln at0 wd (hq (ρ 0) (i + 1) (hs (fun r => nI (ρ 0 (3 + r))) (ρ 0 0) (hs (fun k => nI (nuN (ρ 0) k)) 9 17)))) H := hP
                      have hD : va_D A (wMd h a cI (rwF ρ) sv (nF (((((wvG (ρ 0) wv (nW (ρ 0)))))))) (nF nw) (nF b) ln at0 wd (hq (ρ 0) (i + 1) (hs (fun r => nI (ρ 0 (3 + r))) (ρ 0 0) (hs (fun k => nI (nuN (ρ 0) k)) 9 17)))) := hD
                      refine nv_inc (k := 0) (lv' := [(1, .int (nI (i + 1))), (0, .ref h)]) hx hb dX4_digest_127 hl rfl (by decide) rfl (fun ls hl => ?_)
                      refine lv_goto (tgt := 66) hx hb dX4_digest_130 (by decide) ?_
                      exact ih66 (i + 1) (by omega) (by omega)  _ _ hP hD hS ls (lv_sub hl [0, 1] rfl)
                    refine lv_if_eq (tgt := 109) hx hb dX4_digest_102 (by decide) (fun q_102 => ?_) (fun q_102 => ?_)
                    · refine lv_iconst (v := nI 1) hx hb dX4_digest_109 (by decide) ?_
                      refine nv_top ((paB (ρ 0) i).toNat) (by rw [show paB (ρ 0) i = true by have := zB_eq0 q_102; simpa using this]; rfl) ?_
                      exact J102 _ _ hP hD hS ls (lv_sub hl [0, 1] rfl)
                    · refine lv_iconst (v := nI 0) hx hb dX4_digest_105 (by decide) ?_
                      refine lv_goto (tgt := 110) hx hb dX4_digest_106 (by decide) ?_
                      refine nv_top ((paB (ρ 0) i).toNat) (by rw [show paB (ρ 0) i = false by have := zB_ne0 q_102; simpa using this]; rfl) ?_
                      exact J102 _ _ hP hD hS ls (lv_sub hl [0, 1] rfl)
              have eH : (hs (fun r => nI (ρ 0 (3 + r))) i (hs (fun k => nI (nuN (ρ 0) k)) 9 17) : Int64) = (hq (ρ 0) 0 (hs (fun r => nI (ρ 0 (3 + r))) (ρ 0 0) (hs (fun k => nI (nuN (ρ 0) k)) 9 17))) := by rw [show i = ρ 0 0 by omega]; rfl
              rw [eH] at hP hD
              have hP : va_P D vwCl (wMd h a cI (rwF ρ) sv (nF (wvG (ρ 0) wv (nW (ρ 0)))) (nF nw) (nF b) ln at0 wd (hq (ρ 0) 0 (hs (fun r => nI (ρ 0 (3 + r))) (ρ 0 0) (hs (fun k => nI (nuN (ρ 0) k)) 9 17)))) H := hP
              have hD : va_D A (wMd h a cI (rwF ρ) sv (nF (wvG (ρ 0) wv (nW (ρ 0)))) (nF nw) (nF b) ln at0 wd (hq (ρ 0) 0 (hs (fun r => nI (ρ 0 (3 + r))) (ρ 0 0) (hs (fun k => nI (nuN (ρ 0) k)) 9 17)))) := hD
              exact L66 (nA (ρ 0) + 1) 0 (by omega) (by omega)  _ _ hP hD hS ls (lv_sub hl [0, 1] rfl)
            · refine lv_aload_n hx hb dX4_digest_42 rfl (lv_at hl 1 rfl) ?_
              refine lv_aload_n hx hb dX4_digest_43 rfl (lv_at hl 1 rfl) ?_
              refine va_get (D := D) (ci := 4) (v := .ref (a 0)) (C := RX4) (T := TX4) (N := 9) hx hb hts inX4 hown hK hP 0 rfl rfl 0 (by decide) (hts _ fl_RX4_7) (fun _ h9 => h9) rfl dX4_digest_44 ?_
              refine lv_iconst (v := nI 3) hx hb dX4_digest_47 (by decide) ?_
              refine lv_iload_n hx hb dX4_digest_48 rfl (lv_at hl 0 rfl) ?_
              refine nv_iadd hx hb dX4_digest_49 ?_
              refine nv_iald (D := D) (v := nI (ρ 0 (3 + i))) hx hb hK hP 1 0 rfl rfl (k := 3 + i) (by omega) (by decide) (rw_lo (by omega)) dX4_digest_50 ?_
              refine mu_call (ws' := (wMd h a cI (rwF ρ) sv (nF wv) (nF nw) (nF b) ln at0 wd (31 * (hs (fun r => nI (ρ 0 (3 + r))) i (hs (fun k => nI (nuN (ρ 0) k)) 9 17)) + ((nI (ρ 0 (3 + i)))).toInt64))) [0, 1, 2, 3, 4] [] [0, 1, 2, 3, 4] [.int (nI (ρ 0 (3 + i)))] [] hx hb hml hown hts k_RX4_139 (fun sz => c_X4_note l D cI cR h a ρ sv wv nw b ln at0 wd (hs (fun r => nI (ρ 0 (3 + r))) i (hs (fun k => nI (nuN (ρ 0) k)) 9 17)) (nI (ρ 0 (3 + i)))  sz) ⟨rfl, rfl, Nat.le_of_ble_eq_true rfl, Nat.le_of_ble_eq_true rfl⟩ hP hD hS hA hK 4 rfl rfl rfl rfl rfl rfl rfl (by decide) rfl rfl rfl hl rfl (Nat.le_of_ble_eq_true rfl) dX4_digest_51 ⟨Nat.zero_le _, Nat.zero_le _⟩ (fun H locs hP hD hS => ?_)
              refine W.eq (g2 := F0 m 54 ls []) rfl ?_
              have eH : (31 * (hs (fun r => nI (ρ 0 (3 + r))) i (hs (fun k => nI (nuN (ρ 0) k)) 9 17)) + ((nI (ρ 0 (3 + i)))).toInt64 : Int64) = (hs (fun r => nI (ρ 0 (3 + r))) (i + 1) (hs (fun k => nI (nuN (ρ 0) k)) 9 17)) := rfl
              rw [eH] at hP hD
              have hP : va_P D vwCl (wMd h a cI (rwF ρ) sv (nF wv) (nF nw) (nF b) ln at0 wd (hs (fun r => nI (ρ 0 (3 + r))) (i + 1) (hs (fun k => nI (nuN (ρ 0) k)) 9 17))) H := hP
              have hD : va_D A (wMd h a cI (rwF ρ) sv (nF wv) (nF nw) (nF b) ln at0 wd (hs (fun r => nI (ρ 0 (3 + r))) (i + 1) (hs (fun k => nI (nuN (ρ 0) k)) 9 17))) := hD
              refine nv_inc (k := 0) (lv' := [(1, .int (nI (i + 1))), (0, .ref h)]) hx hb dX4_digest_54 hl rfl (by decide) rfl (fun ls hl => ?_)
              refine lv_goto (tgt := 32) hx hb dX4_digest_57 (by decide) ?_
              exact ih32 (i + 1) (by omega) (by omega)  _ _ hP hD hS ls (lv_sub hl [0, 1] rfl)
        have eH : (hs (fun k => nI (nuN (ρ 0) k)) i 17 : Int64) = (hs (fun r => nI (ρ 0 (3 + r))) 0 (hs (fun k => nI (nuN (ρ 0) k)) 9 17)) := by rw [show i = 9 by omega]; rfl
        rw [eH] at hP hD
        have hP : va_P D vwCl (wMd h a cI (rwF ρ) sv (nF wv) (nF nw) (nF b) ln at0 wd (hs (fun r => nI (ρ 0 (3 + r))) 0 (hs (fun k => nI (nuN (ρ 0) k)) 9 17))) H := hP
        have hD : va_D A (wMd h a cI (rwF ρ) sv (nF wv) (nF nw) (nF b) ln at0 wd (hs (fun r => nI (ρ 0 (3 + r))) 0 (hs (fun k => nI (nuN (ρ 0) k)) 9 17))) := hD
        exact L32 (ρ 0 0 + 1) 0 (by omega) (by omega)  _ _ hP hD hS ls (lv_sub hl [0, 1] rfl)
      · refine lv_aload_n hx hb dX4_digest_15 rfl (lv_at hl 1 rfl) ?_
        refine lv_aload_n hx hb dX4_digest_16 rfl (lv_at hl 1 rfl) ?_
        refine lv_iload_n hx hb dX4_digest_17 rfl (lv_at hl 0 rfl) ?_
        refine nv_callV [.int (nI i)] [.ref h] hx hb hml hown hts k_RX4_136 (c_X4_count l D cI cR h a ρ sv wv nw b ln at0 wd (hs (fun k => nI (nuN (ρ 0) k)) i 17) (nI (i)) hw) ⟨rfl, rfl, Nat.le_of_ble_eq_true rfl, Nat.le_of_ble_eq_true rfl⟩ hP hK 4 rfl rfl rfl rfl hl rfl (Nat.le_of_ble_eq_true rfl) dX4_digest_18 ⟨Nat.zero_le _, Nat.zero_le _⟩ ?_
        refine nv_tope (nI (nuN (ρ 0) i)) (aCount_nI q_12) ?_
        refine mu_call (ws' := (wMd h a cI (rwF ρ) sv (nF wv) (nF nw) (nF b) ln at0 wd (31 * (hs (fun k => nI (nuN (ρ 0) k)) i 17) + ((nI (nuN (ρ 0) i))).toInt64))) [0, 1, 2, 3, 4] [] [0, 1, 2, 3, 4] [.int (nI (nuN (ρ 0) i))] [] hx hb hml hown hts k_RX4_139 (fun sz => c_X4_note l D cI cR h a ρ sv wv nw b ln at0 wd (hs (fun k => nI (nuN (ρ 0) k)) i 17) (nI (nuN (ρ 0) i))  sz) ⟨rfl, rfl, Nat.le_of_ble_eq_true rfl, Nat.le_of_ble_eq_true rfl⟩ hP hD hS hA hK 4 rfl rfl rfl rfl rfl rfl rfl (by decide) rfl rfl rfl hl rfl (Nat.le_of_ble_eq_true rfl) dX4_digest_21 ⟨Nat.zero_le _, Nat.zero_le _⟩ (fun H locs hP hD hS => ?_)
        refine W.eq (g2 := F0 m 24 ls []) rfl ?_
        have eH : (31 * (hs (fun k => nI (nuN (ρ 0) k)) i 17) + ((nI (nuN (ρ 0) i))).toInt64 : Int64) = (hs (fun k => nI (nuN (ρ 0) k)) (i + 1) 17) := rfl
        rw [eH] at hP hD
        have hP : va_P D vwCl (wMd h a cI (rwF ρ) sv (nF wv) (nF nw) (nF b) ln at0 wd (hs (fun k => nI (nuN (ρ 0) k)) (i + 1) 17)) H := hP
        have hD : va_D A (wMd h a cI (rwF ρ) sv (nF wv) (nF nw) (nF b) ln at0 wd (hs (fun k => nI (nuN (ρ 0) k)) (i + 1) 17)) := hD
        refine nv_inc (k := 0) (lv' := [(1, .int (nI (i + 1))), (0, .ref h)]) hx hb dX4_digest_24 hl rfl (by decide) rfl (fun ls hl => ?_)
        refine lv_goto (tgt := 9) hx hb dX4_digest_27 (by decide) ?_
        exact ih9 (i + 1) (by omega) (by omega)  _ _ hP hD hS ls (lv_sub hl [0, 1] rfl)
  have eH : (17 : Int64) = (hs (fun k => nI (nuN (ρ 0) k)) 0 17) := rfl
  rw [eH] at hP hD
  have hP : va_P D vwCl (wMd h a cI (rwF ρ) sv (nF wv) (nF nw) (nF b) ln at0 wd (hs (fun k => nI (nuN (ρ 0) k)) 0 17)) H := hP
  have hD : va_D A (wMd h a cI (rwF ρ) sv (nF wv) (nF nw) (nF b) ln at0 wd (hs (fun k => nI (nuN (ρ 0) k)) 0 17)) := hD
  exact L9 (9 + 1) 0 (by omega) (by omega)  _ _ hP hD hS ls (lv_sub hl [0, 1] rfl)
