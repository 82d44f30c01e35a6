set_option maxHeartbeats 4000000 in
set_option maxRecDepth 100000 in
theorem c_X4_readsText (l : Launch) (D : va_G) (cI cR : ClassId) (h : Nat) (a : Nat → Nat) (ρ : Nat → Nat → Nat) (sv : Nat) (wv : Nat → Nat) (nw : Nat → Nat) (b : Nat → Nat) (ln : Nat) (at0 : Nat) (wd : Nat) (hh : Int64) (rl : Nat)  (hw : wf (ρ 0)) (hb0 : ∀ i, i < ln → b i < 256) (hln : ln ≤ 100) (hrl : rl < 2 ^ 31) (sz : Nat) : Met l yX4_readsText (wsC yX4_readsText cX4_readsText 4 (some .boolean)) (rmK 3 67) (nPreM D (nTy cI cR) [.ref h, .int (nI rl)] (wMd h a cI (rwF ρ) sv (nF wv) (nF nw) (nF b) ln at0 wd hh) sz) (QcM D (some (.int (zB (rtN b ln (nA (ρ 0)) (ρ 0 1) rl ρ ln).1))) (wMd h a cI (rwF (rtN b ln (nA (ρ 0)) (ρ 0 1) rl ρ ln).2.2.2) sv (nF wv) (nF nw) (nF b) ln ((rtN b ln (nA (ρ 0)) (ρ 0 1) rl ρ ln).2.1) ((rtN b ln (nA (ρ 0)) (ρ 0 1) rl ρ ln).2.2.1) hh) (va_A (wMd h a cI (rwF ρ) sv (nF wv) (nF nw) (nF b) ln at0 wd hh) sz)) 0 0 (va_A (wMd h a cI (rwF ρ) sv (nF wv) (nF nw) (nF b) ln at0 wd hh) sz) := by
  refine met_mut (Qc := fun A => QcM D (some (.int (zB (rtN b ln (nA (ρ 0)) (ρ 0 1) rl ρ ln).1))) (wMd h a cI (rwF (rtN b ln (nA (ρ 0)) (ρ 0 1) rl ρ ln).2.2.2) sv (nF wv) (nF nw) (nF b) ln ((rtN b ln (nA (ρ 0)) (ρ 0 1) rl ρ ln).2.1) ((rtN b ln (nA (ρ 0)) (ρ 0 1) rl ρ ln).2.2.1) hh) A) rfl (Nat.le_of_ble_eq_true rfl) ?_
  intro p e s m args below meth c ls A H locs hx hb hml hr hlocks hown hts hP hK hD hA hS hl
  have hl : lv_has ls 4 [(0, .ref h), (1, .int (nI rl))] := hl
  have hA41 := hw.w41
  have hA33 := hw.a33
  have hA48 := hw.a48
  obtain ⟨hR2, hR, hB1, hB, hSa, hSb, -⟩ := id hw
  have h1024 := p2_10 hB
  refine lv_aload_n hx hb dX4_readsText_0 rfl (lv_at hl 0 rfl) ?_
  refine lv_iconst (v := nI 0) hx hb dX4_readsText_1 (by decide) ?_
  refine va_put (D := D) (ci := 4) (v := .int (nI 0)) (ty := .int) (C := RX4) (T := TX4) (N := 9) hx hb hts inX4 tyX4 tyX4_ok nmX4 hown hK hP hD hS 0 rfl rfl 6 (by decide) (hts _ fl_RX4_112) (fun _ h9 => h9) rfl (by decide +kernel) rfl rfl (Nat.le_of_ble_eq_true rfl) dX4_readsText_2 (fun H locs hP hD hS => ?_)
  have hP : va_P D vwCl (wMd h a cI (rwF ρ) sv (nF wv) (nF nw) (nF b) ln 0 wd hh) H := hP
  have hD : va_D A (wMd h a cI (rwF ρ) sv (nF wv) (nF nw) (nF b) ln 0 wd hh) := hD
  refine lv_aload_n hx hb dX4_readsText_5 rfl (lv_at hl 0 rfl) ?_
  refine lv_iconst (v := nI 0) hx hb dX4_readsText_6 (by decide) ?_
  refine va_put (D := D) (ci := 4) (v := .int (nI 0)) (ty := .int) (C := RX4) (T := TX4) (N := 9) hx hb hts inX4 tyX4 tyX4_ok nmX4 hown hK hP hD hS 0 rfl rfl 7 (by decide) (hts _ fl_RX4_118) (fun _ h9 => h9) rfl (by decide +kernel) rfl rfl (Nat.le_of_ble_eq_true rfl) dX4_readsText_7 (fun H locs hP hD hS => ?_)
  have hP : va_P D vwCl (wMd h a cI (rwF ρ) sv (nF wv) (nF nw) (nF b) ln 0 0 hh) H := hP
  have hD : va_D A (wMd h a cI (rwF ρ) sv (nF wv) (nF nw) (nF b) ln 0 0 hh) := hD
  refine lv_aload_n hx hb dX4_readsText_10 rfl (lv_at hl 0 rfl) ?_
  refine lv_iload_n hx hb dX4_readsText_11 rfl (lv_at hl 1 rfl) ?_
  refine mu_call (ws' := (wMd h a cI (rwF (rdR b ln (nA (ρ 0)) (ρ 0 1) 0 0 rl ρ)) sv (nF wv) (nF nw) (nF b) ln (rdA b ln (nA (ρ 0)) (ρ 0 1) 0 0) (rdM b ln (nA (ρ 0)) (ρ 0 1) 0 0) hh)) [0, 1, 2, 3, 4] [] [0, 1, 2, 3, 4] [.int (nI rl)] [] hx hb hml hown hts k_RX4_121 (fun sz => c_X4_readsWord l D cI cR h a ρ sv wv nw b ln 0 0 hh rl hw hb0 hln (Nat.zero_le _) (Nat.zero_le _) hrl sz) ⟨rfl, rfl, Nat.le_of_ble_eq_true rfl, Nat.le_of_ble_eq_true rfl⟩ hP hD hS hA hK 4 rfl rfl rfl rfl rfl rfl rfl (by decide) rfl rfl rfl hl rfl (Nat.le_of_ble_eq_true rfl) dX4_readsText_12 ⟨Nat.zero_le _, Nat.zero_le _⟩ (fun H locs hP hD hS => ?_)
  refine W.eq (g2 := F0 m 15 ls [.int (zB (rdO b ln (nA (ρ 0)) (ρ 0 1) 0 0))]) rfl ?_
  refine lv_istore_n (lv' := [(2, .int (zB (rdO b ln (nA (ρ 0)) (ρ 0 1) 0 0))), (0, .ref h), (1, .int (nI rl))]) hx hb dX4_readsText_15 rfl hl (by decide) rfl (fun ls hl => ?_)
  refine lv_aload_n hx hb dX4_readsText_16 rfl (lv_at hl 1 rfl) ?_
  refine mu_call (ws' := (wMd h a cI (rwF ((rdR b ln (nA (ρ 0)) (ρ 0 1) 0 0 rl ρ))) sv (nF wv) (nF nw) (nF b) ln (skb b ln (rdA b ln (nA (ρ 0)) (ρ 0 1) 0 0)) (rdM b ln (nA (ρ 0)) (ρ 0 1) 0 0) hh)) [0, 1, 2, 3, 4] [] [0, 1, 2, 3, 4] [] [] hx hb hml hown hts k_RX4_115 (fun sz => c_X4_here l D cI cR h a ((rdR b ln (nA (ρ 0)) (ρ 0 1) 0 0 rl ρ)) sv wv nw b ln (rdA b ln (nA (ρ 0)) (ρ 0 1) 0 0) (rdM b ln (nA (ρ 0)) (ρ 0 1) 0 0) hh hb0 hln (rdA_le (Nat.zero_le _)).2 sz) ⟨rfl, rfl, Nat.le_of_ble_eq_true rfl, Nat.le_of_ble_eq_true rfl⟩ hP hD hS hA hK 4 rfl rfl rfl rfl rfl rfl rfl (by decide) rfl rfl rfl hl rfl (Nat.le_of_ble_eq_true rfl) dX4_readsText_17 ⟨Nat.zero_le _, Nat.zero_le _⟩ (fun H locs hP hD hS => ?_)
  refine W.eq (g2 := F0 m 20 ls [.int (hrF b ln (skb b ln (rdA b ln (nA (ρ 0)) (ρ 0 1) 0 0)))]) rfl ?_
  refine lv_istore_n (lv' := [(3, .int (hrF b ln (skb b ln (rdA b ln (nA (ρ 0)) (ρ 0 1) 0 0)))), (2, .int (zB (rdO b ln (nA (ρ 0)) (ρ 0 1) 0 0))), (0, .ref h), (1, .int (nI rl))]) hx hb dX4_readsText_20 rfl hl (by decide) rfl (fun ls hl => ?_)
  have L21 : ∀ (n21 i : Nat) (iz : Bool) (pa : Nat) (m9 : Nat) (r : Nat → Nat → Nat), ln + 1 ≤ i + n21 → i ≤ ln → (rtN b ln (nA (ρ 0)) (ρ 0 1) rl ρ i = (iz, pa, m9, r)) → (wf (r 0)) → (∀ k, k < 19 → r 0 k = ρ 0 k) → (m9 ≤ nA (ρ 0)) → (pa ≤ ln) → (skb b ln pa = pa) → (iz = true → i ≤ pa) → ∀ (H : Heap) (locs : List Loc), va_P D vwCl (wMd h a cI (rwF r) sv (nF wv) (nF nw) (nF b) ln pa m9 hh) H → va_D A (wMd h a cI (rwF r) sv (nF wv) (nF nw) (nF b) ln pa m9 hh) → va_S A s.heap H locs → ∀ (ls : Array Slot), lv_has ls 4 [(3, .int (hrF b ln pa)), (2, .int (zB iz)), (0, .ref h), (1, .int (nI rl))] → W p l e (rmK 3 67) s m args below meth c H locs 0 0 (MQ below (QcM D (some (.int (zB (rtN b ln (nA (ρ 0)) (ρ 0 1) rl ρ ln).1))) (wMd h a cI (rwF (rtN b ln (nA (ρ 0)) (ρ 0 1) rl ρ ln).2.2.2) sv (nF wv) (nF nw) (nF b) ln ((rtN b ln (nA (ρ 0)) (ρ 0 1) rl ρ ln).2.1) ((rtN b ln (nA (ρ 0)) (ρ 0 1) rl ρ ln).2.2.1) hh) A) args s 0 0 A) (F0 m 21 ls []) := by
    intro n21
    induction n21 with
    | zero =>
      intro i iz pa m9 r h1_21 h2_21
      exact False.elim (by omega)
    | succ n21 ih21 =>
      intro i iz pa m9 r h1_21 h2_21 hrt hwr hlo hmA hpa hsk hip H locs hP hD hS ls hl
      have hA9 : nA (r 0) = nA (ρ 0) := by unfold nA; rw [hlo 0 (by omega), hlo 2 (by omega)]
      have hB9 : r 0 1 = ρ 0 1 := hlo 1 (by omega)
      refine lv_iload_n hx hb dX4_readsText_21 rfl (lv_at hl 1 rfl) ?_
      refine lv_if_eq (tgt := 70) hx hb dX4_readsText_22 (by decide) (fun q_22 => ?_) (fun q_22 => ?_)
      · refine lv_iload_n hx hb dX4_readsText_70 rfl (lv_at hl 1 rfl) ?_
        have e9 : rtN b ln (nA (ρ 0)) (ρ 0 1) rl ρ ln = (iz, pa, m9, r) := rt_at hrt (fun z => absurd z.1 (by rw [zB_eq0 q_22]; decide)) h2_21
        have hP : va_P D vwCl (wMd h a cI (rwF (rtN b ln (nA (ρ 0)) (ρ 0 1) rl ρ ln).2.2.2) sv (nF wv) (nF nw) (nF b) ln ((rtN b ln (nA (ρ 0)) (ρ 0 1) rl ρ ln).2.1) ((rtN b ln (nA (ρ 0)) (ρ 0 1) rl ρ ln).2.2.1) hh) H := by rw [e9]; exact hP
        have hD : va_D A (wMd h a cI (rwF (rtN b ln (nA (ρ 0)) (ρ 0 1) rl ρ ln).2.2.2) sv (nF wv) (nF nw) (nF b) ln ((rtN b ln (nA (ρ 0)) (ρ 0 1) rl ρ ln).2.1) ((rtN b ln (nA (ρ 0)) (ρ 0 1) rl ρ ln).2.2.1) hh) := by rw [e9]; exact hD
        exact mu_retz hx hb hr hlocks (zB_z _) (by rw [e9]) hP hD hS dX4_readsText_71
      · refine lv_iload_n hx hb dX4_readsText_25 rfl (lv_at hl 0 rfl) ?_
        refine lv_iconst (v := -1) hx hb dX4_readsText_26 (by decide) ?_
        refine lv_icmp_eq (tgt := 70) hx hb dX4_readsText_27 (by decide) (fun q_27 => ?_) (fun q_27 => ?_)
        · refine lv_iload_n hx hb dX4_readsText_70 rfl (lv_at hl 1 rfl) ?_
          have e9 : rtN b ln (nA (ρ 0)) (ρ 0 1) rl ρ ln = (iz, pa, m9, r) := rt_at hrt (fun z => absurd z.2 (hr_ge (fun z9 => hb0 pa z9) q_27)) h2_21
          have hP : va_P D vwCl (wMd h a cI (rwF (rtN b ln (nA (ρ 0)) (ρ 0 1) rl ρ ln).2.2.2) sv (nF wv) (nF nw) (nF b) ln ((rtN b ln (nA (ρ 0)) (ρ 0 1) rl ρ ln).2.1) ((rtN b ln (nA (ρ 0)) (ρ 0 1) rl ρ ln).2.2.1) hh) H := by rw [e9]; exact hP
          have hD : va_D A (wMd h a cI (rwF (rtN b ln (nA (ρ 0)) (ρ 0 1) rl ρ ln).2.2.2) sv (nF wv) (nF nw) (nF b) ln ((rtN b ln (nA (ρ 0)) (ρ 0 1) rl ρ ln).2.1) ((rtN b ln (nA (ρ 0)) (ρ 0 1) rl ρ ln).2.2.1) hh) := by rw [e9]; exact hD
          exact mu_retz hx hb hr hlocks (zB_z _) (by rw [e9]) hP hD hS dX4_readsText_71
        · have hpl := hr_lt q_27
          have hiz := zB_ne0 q_22
          have hbp := hb0 pa hpl.1
          have hip9 := hip hiz
          refine lv_iload_n hx hb dX4_readsText_30 rfl (lv_at hl 0 rfl) ?_
          refine lv_bipush (v := nI 44) hx hb dX4_readsText_31 (by decide) ?_
          refine nv_stk (st' := [.int (nI 44), .int (nI (b pa))]) (by rw [hpl.2]) ?_
          refine nv_icmp_ne (tgt := 40) hx hb dX4_readsText_33 (by decide) (by omega) (by omega) (fun q_33 => ?_) (fun q_33 => ?_)
          · have h44 : ¬ b pa = 44 := by omega
            refine lv_iconst (v := nI 0) hx hb dX4_readsText_40 (by decide) ?_
            refine lv_istore_n (lv' := [(2, .int (nI 0)), (3, .int (hrF b ln pa)), (0, .ref h), (1, .int (nI rl))]) hx hb dX4_readsText_41 rfl hl (by decide) rfl (fun ls hl => ?_)
            refine lv_iload_n hx hb dX4_readsText_42 rfl (lv_at hl 0 rfl) ?_
            refine nv_if_eq (tgt := 21) hx hb dX4_readsText_43 (by decide) (by omega) (fun q_43 => ?_) (fun q_43 => False.elim (by omega))
            have hl := lv_repl [(2, .int (zB false)), (3, .int (hrF b ln pa)), (0, .ref h), (1, .int (nI rl))] 0 rfl (congrArg (fun z : Int32 => Value.int z) (show (nI (0)) = zB false from rfl)) rfl hl
            exact ih21 (i + 1) false pa m9 r (by omega) (by omega) (rt_no hrt hiz hpl.1 h44) (hwr) (hlo) (hmA) (hpa) (hsk) (fun z => by cases z) _ _ hP hD hS ls (lv_sub hl [1, 0, 2, 3] rfl)
          · have h44 : b pa = 44 := by omega
            refine lv_iconst (v := nI 1) hx hb dX4_readsText_36 (by decide) ?_
            refine lv_goto (tgt := 41) hx hb dX4_readsText_37 (by decide) ?_
            refine lv_istore_n (lv' := [(2, .int (nI 1)), (3, .int (hrF b ln pa)), (0, .ref h), (1, .int (nI rl))]) hx hb dX4_readsText_41 rfl hl (by decide) rfl (fun ls hl => ?_)
            refine lv_iload_n hx hb dX4_readsText_42 rfl (lv_at hl 0 rfl) ?_
            refine nv_if_eq (tgt := 21) hx hb dX4_readsText_43 (by decide) (by omega) (fun q_43 => False.elim (by omega)) (fun q_43 => ?_)
            refine lv_aload_n hx hb dX4_readsText_46 rfl (lv_at hl 2 rfl) ?_
            refine lv_dup hx hb dX4_readsText_47 rfl ?_
            refine va_get (D := D) (ci := 4) (v := .int (nI pa)) (C := RX4) (T := TX4) (N := 9) hx hb hts inX4 hown hK hP 0 rfl rfl 6 (by decide) (hts _ fl_RX4_112) (fun _ h9 => h9) rfl dX4_readsText_48 ?_
            refine lv_iconst (v := nI 1) hx hb dX4_readsText_51 (by decide) ?_
            refine nv_iadd hx hb dX4_readsText_52 ?_
            refine va_put (D := D) (ci := 4) (v := .int (nI (pa + 1))) (ty := .int) (C := RX4) (T := TX4) (N := 9) hx hb hts inX4 tyX4 tyX4_ok nmX4 hown hK hP hD hS 0 rfl rfl 6 (by decide) (hts _ fl_RX4_112) (fun _ h9 => h9) rfl (by decide +kernel) rfl rfl (Nat.le_of_ble_eq_true rfl) dX4_readsText_53 (fun H locs hP hD hS => ?_)
            have hP : va_P D vwCl (wMd h a cI (rwF r) sv (nF wv) (nF nw) (nF b) ln (pa + 1) m9 hh) H := hP
            have hD : va_D A (wMd h a cI (rwF r) sv (nF wv) (nF nw) (nF b) ln (pa + 1) m9 hh) := hD
            refine lv_aload_n hx hb dX4_readsText_56 rfl (lv_at hl 2 rfl) ?_
            refine lv_iload_n hx hb dX4_readsText_57 rfl (lv_at hl 3 rfl) ?_
            refine mu_call (ws' := (wMd h a cI (rwF (rdR b ln (nA (r 0)) (r 0 1) (pa + 1) m9 rl r)) sv (nF wv) (nF nw) (nF b) ln (rdA b ln (nA (r 0)) (r 0 1) (pa + 1) m9) (rdM b ln (nA (r 0)) (r 0 1) (pa + 1) m9) hh)) [0, 1, 2, 3, 4] [] [0, 1, 2, 3, 4] [.int (nI rl)] [] hx hb hml hown hts k_RX4_121 (fun sz => c_X4_readsWord l D cI cR h a r sv wv nw b ln (pa + 1) m9 hh rl hwr hb0 hln (by omega) (by rw [hA9]; omega) hrl sz) ⟨rfl, rfl, Nat.le_of_ble_eq_true rfl, Nat.le_of_ble_eq_true rfl⟩ hP hD hS hA hK 4 rfl rfl rfl rfl rfl rfl rfl (by decide) rfl rfl rfl hl rfl (Nat.le_of_ble_eq_true rfl) dX4_readsText_58 ⟨Nat.zero_le _, Nat.zero_le _⟩ (fun H locs hP hD hS => ?_)
            refine W.eq (g2 := F0 m 61 ls [.int (zB (rdO b ln (nA (r 0)) (r 0 1) (pa + 1) m9))]) rfl ?_
            refine nv_tope (zB (rdO b ln (nA (ρ 0)) (ρ 0 1) (pa + 1) m9)) (by rw [hA9, hB9]) ?_
            have eR : (rwF (rdR b ln (nA (r 0)) (r 0 1) (pa + 1) m9 rl r)) = (rwF (rdR b ln (nA (ρ 0)) (ρ 0 1) (pa + 1) m9 rl r)) := by rw [hA9, hB9]
            rw [eR] at hP hD
            have hP : va_P D vwCl (wMd h a cI (rwF (rdR b ln (nA (ρ 0)) (ρ 0 1) (pa + 1) m9 rl r)) sv (nF wv) (nF nw) (nF b) ln (rdA b ln (nA (r 0)) (r 0 1) (pa + 1) m9) (rdM b ln (nA (r 0)) (r 0 1) (pa + 1) m9) hh) H := hP
            have hD : va_D A (wMd h a cI (rwF (rdR b ln (nA (ρ 0)) (ρ 0 1) (pa + 1) m9 rl r)) sv (nF wv) (nF nw) (nF b) ln (rdA b ln (nA (r 0)) (r 0 1) (pa + 1) m9) (rdM b ln (nA (r 0)) (r 0 1) (pa + 1) m9) hh) := hD
            have eF : (rdA b ln (nA (r 0)) (r 0 1) (pa + 1) m9 : Nat) = (rdA b ln (nA (ρ 0)) (ρ 0 1) (pa + 1) m9) := by rw [hA9, hB9]
            rw [eF] at hP hD
            have hP : va_P D vwCl (wMd h a cI (rwF (rdR b ln (nA (ρ 0)) (ρ 0 1) (pa + 1) m9 rl r)) sv (nF wv) (nF nw) (nF b) ln (rdA b ln (nA (ρ 0)) (ρ 0 1) (pa + 1) m9) (rdM b ln (nA (r 0)) (r 0 1) (pa + 1) m9) hh) H := hP
            have hD : va_D A (wMd h a cI (rwF (rdR b ln (nA (ρ 0)) (ρ 0 1) (pa + 1) m9 rl r)) sv (nF wv) (nF nw) (nF b) ln (rdA b ln (nA (ρ 0)) (ρ 0 1) (pa + 1) m9) (rdM b ln (nA (r 0)) (r 0 1) (pa + 1) m9) hh) := hD
            have eF : (rdM b ln (nA (r 0)) (r 0 1) (pa + 1) m9 : Nat) = (rdM b ln (nA (ρ 0)) (ρ 0 1) (pa + 1) m9) := by rw [hA9, hB9]
            rw [eF] at hP hD
            have hP : va_P D vwCl (wMd h a cI (rwF (rdR b ln (nA (ρ 0)) (ρ 0 1) (pa + 1) m9 rl r)) sv (nF wv) (nF nw) (nF b) ln (rdA b ln (nA (ρ 0)) (ρ 0 1) (pa + 1) m9) (rdM b ln (nA (ρ 0)) (ρ 0 1) (pa + 1) m9) hh) H := hP
            have hD : va_D A (wMd h a cI (rwF (rdR b ln (nA (ρ 0)) (ρ 0 1) (pa + 1) m9 rl r)) sv (nF wv) (nF nw) (nF b) ln (rdA b ln (nA (ρ 0)) (ρ 0 1) (pa + 1) m9) (rdM b ln (nA (ρ 0)) (ρ 0 1) (pa + 1) m9) hh) := hD
            refine lv_istore_n (lv' := [(2, .int (zB (rdO b ln (nA (ρ 0)) (ρ 0 1) (pa + 1) m9))), (3, .int (hrF b ln pa)), (0, .ref h), (1, .int (nI rl))]) hx hb dX4_readsText_61 rfl hl (by decide) rfl (fun ls hl => ?_)
            refine lv_aload_n hx hb dX4_readsText_62 rfl (lv_at hl 2 rfl) ?_
            refine mu_call (ws' := (wMd h a cI (rwF ((rdR b ln (nA (ρ 0)) (ρ 0 1) (pa + 1) m9 rl r))) sv (nF wv) (nF nw) (nF b) ln (skb b ln (rdA b ln (nA (ρ 0)) (ρ 0 1) (pa + 1) m9)) (rdM b ln (nA (ρ 0)) (ρ 0 1) (pa + 1) m9) hh)) [0, 1, 2, 3, 4] [] [0, 1, 2, 3, 4] [] [] hx hb hml hown hts k_RX4_115 (fun sz => c_X4_here l D cI cR h a ((rdR b ln (nA (ρ 0)) (ρ 0 1) (pa + 1) m9 rl r)) sv wv nw b ln (rdA b ln (nA (ρ 0)) (ρ 0 1) (pa + 1) m9) (rdM b ln (nA (ρ 0)) (ρ 0 1) (pa + 1) m9) hh hb0 hln (rdA_le (by omega)).2 sz) ⟨rfl, rfl, Nat.le_of_ble_eq_true rfl, Nat.le_of_ble_eq_true rfl⟩ hP hD hS hA hK 4 rfl rfl rfl rfl rfl rfl rfl (by decide) rfl rfl rfl hl rfl (Nat.le_of_ble_eq_true rfl) dX4_readsText_63 ⟨Nat.zero_le _, Nat.zero_le _⟩ (fun H locs hP hD hS => ?_)
            refine W.eq (g2 := F0 m 66 ls [.int (hrF b ln (skb b ln (rdA b ln (nA (ρ 0)) (ρ 0 1) (pa + 1) m9)))]) rfl ?_
            refine lv_istore_n (lv' := [(3, .int (hrF b ln (skb b ln (rdA b ln (nA (ρ 0)) (ρ 0 1) (pa + 1) m9)))), (2, .int (zB (rdO b ln (nA (ρ 0)) (ρ 0 1) (pa + 1) m9))), (0, .ref h), (1, .int (nI rl))]) hx hb dX4_readsText_66 rfl hl (by decide) rfl (fun ls hl => ?_)
            refine lv_goto (tgt := 21) hx hb dX4_readsText_67 (by decide) ?_
            exact ih21 (i + 1) (rdO b ln (nA (ρ 0)) (ρ 0 1) (pa + 1) m9) (skb b ln (rdA b ln (nA (ρ 0)) (ρ 0 1) (pa + 1) m9)) (rdM b ln (nA (ρ 0)) (ρ 0 1) (pa + 1) m9) (rdR b ln (nA (ρ 0)) (ρ 0 1) (pa + 1) m9 rl r) (by omega) (by omega) (rt_44 hrt hiz hpl.1 h44) (by have h9 := wf_rd (b := b) (ln := ln) (i := pa + 1) (m := m9) (rl := rl) hwr (by rw [hA9]; exact hmA); rw [hA9, hB9] at h9; exact h9) (fun k hk => (rd_lo hk).trans (hlo k hk)) (rdM_le hmA) ((sk_le (rdA_le (by omega)).2).2) (sk_id (rdA_le (by omega)).2) (fun _ => by have h8 := rdA_le (b := b) (ln := ln) (A := nA (ρ 0)) (B := ρ 0 1) (i := pa + 1) (m := m9) (by omega); have h9 := sk_le (b := b) h8.2; have h7 := hip hiz; omega) _ _ hP hD hS ls (lv_sub hl [0, 1, 2, 3] rfl)
  exact L21 (ln + 1) 0 (rdO b ln (nA (ρ 0)) (ρ 0 1) 0 0) (skb b ln (rdA b ln (nA (ρ 0)) (ρ 0 1) 0 0)) (rdM b ln (nA (ρ 0)) (ρ 0 1) 0 0) (rdR b ln (nA (ρ 0)) (ρ 0 1) 0 0 rl ρ) (by omega) (by omega) (rfl) (wf_rd hw (Nat.zero_le _)) (fun k hk => rd_lo hk) (rdM_le (Nat.zero_le _)) ((sk_le (rdA_le (Nat.zero_le _)).2).2) (sk_id (rdA_le (Nat.zero_le _)).2) (fun _ => Nat.zero_le _) _ _ hP hD hS ls (lv_sub hl [0, 1, 2, 3] rfl)
set_option maxHeartbeats 4000000 in
set_option maxRecDepth 100000 in
theorem c_X4_textFault (l : Launch) (D : va_G) (cI cR : ClassId) (h : Nat) (a : Nat → Nat) (ρ : Nat → Nat → Nat) (sv : Nat) (wv : Nat → Nat) (nw : Nat → Nat) (b : Nat → Nat) (ln : Nat) (at0 : Nat) (wd : Nat) (hh : Int64)   (hw : wf (ρ 0)) (hb0 : ∀ i, i < ln → b i < 256) (hln : ln ≤ 100) (sz : Nat) : Met l yX4_textFault (wsC yX4_textFault cX4_textFault 1 (some .int)) (rmK 4 90) (nPreM D (nTy cI cR) [.ref h] (wMd h a cI (rwF ρ) sv (nF wv) (nF nw) (nF b) ln at0 wd hh) sz) (QcM D (some (.int (rtF b ln (nA (ρ 0)) (ρ 0 1) ρ))) (wMd h a cI (rwF ρ) sv (nF wv) (nF nw) (nF b) ln ((rtN b ln (nA (ρ 0)) (ρ 0 1) 0 ρ ln).2.1) ((rtN b ln (nA (ρ 0)) (ρ 0 1) 0 ρ ln).2.2.1) hh) (va_A (wMd h a cI (rwF ρ) sv (nF wv) (nF nw) (nF b) ln at0 wd hh) sz)) 0 0 (va_A (wMd h a cI (rwF ρ) sv (nF wv) (nF nw) (nF b) ln at0 wd hh) sz) := by
  refine met_mut (Qc := fun A => QcM D (some (.int (rtF b ln (nA (ρ 0)) (ρ 0 1) ρ))) (wMd h a cI (rwF ρ) sv (nF wv) (nF nw) (nF b) ln ((rtN b ln (nA (ρ 0)) (ρ 0 1) 0 ρ ln).2.1) ((rtN b ln (nA (ρ 0)) (ρ 0 1) 0 ρ ln).2.2.1) hh) A) rfl (Nat.le_of_ble_eq_true rfl) ?_
  intro p e s m args below meth c ls A H locs hx hb hml hr hlocks hown hts hP hK hD hA hS hl
  have hl : lv_has ls 1 [(0, .ref h)] := hl
  have hA41 := hw.w41
  have hA33 := hw.a33
  have hA48 := hw.a48
  obtain ⟨hR2, hR, hB1, hB, hSa, hSb, -⟩ := id hw
  have h1024 := p2_10 hB
  refine lv_aload_n hx hb dX4_textFault_0 rfl (lv_at hl 0 rfl) ?_
  refine lv_iconst (v := nI 0) hx hb dX4_textFault_1 (by decide) ?_
  refine mu_call (ws' := (wMd h a cI (rwF (rtN b ln (nA (ρ 0)) (ρ 0 1) 0 ρ ln).2.2.2) sv (nF wv) (nF nw) (nF b) ln ((rtN b ln (nA (ρ 0)) (ρ 0 1) 0 ρ ln).2.1) ((rtN b ln (nA (ρ 0)) (ρ 0 1) 0 ρ ln).2.2.1) hh)) [0, 1, 2, 3, 4] [] [0, 1, 2, 3, 4] [.int (nI 0)] [] hx hb hml hown hts k_RX4_125 (fun sz => c_X4_readsText l D cI cR h a ρ sv wv nw b ln at0 wd hh 0 hw hb0 hln (by decide) sz) ⟨rfl, rfl, Nat.le_of_ble_eq_true rfl, Nat.le_of_ble_eq_true rfl⟩ hP hD hS hA hK 4 rfl rfl rfl rfl rfl rfl rfl (by decide) rfl rfl rfl hl rfl (Nat.le_of_ble_eq_true rfl) dX4_textFault_2 ⟨Nat.zero_le _, Nat.zero_le _⟩ (fun H locs hP hD hS => ?_)
  refine W.eq (g2 := F0 m 5 ls [.int (zB (rtN b ln (nA (ρ 0)) (ρ 0 1) 0 ρ ln).1)]) rfl ?_
  have eR : (rwF (rtN b ln (nA (ρ 0)) (ρ 0 1) 0 ρ ln).2.2.2) = (rwF ρ) := by rw [rt_r0]
  rw [eR] at hP hD
  have hP : va_P D vwCl (wMd h a cI (rwF ρ) sv (nF wv) (nF nw) (nF b) ln ((rtN b ln (nA (ρ 0)) (ρ 0 1) 0 ρ ln).2.1) ((rtN b ln (nA (ρ 0)) (ρ 0 1) 0 ρ ln).2.2.1) hh) H := hP
  have hD : va_D A (wMd h a cI (rwF ρ) sv (nF wv) (nF nw) (nF b) ln ((rtN b ln (nA (ρ 0)) (ρ 0 1) 0 ρ ln).2.1) ((rtN b ln (nA (ρ 0)) (ρ 0 1) 0 ρ ln).2.2.1) hh) := hD
  refine lv_if_eq (tgt := 12) hx hb dX4_textFault_5 (by decide) (fun q_5 => ?_) (fun q_5 => ?_)
  · refine lv_aload_n hx hb dX4_textFault_12 rfl (lv_at hl 0 rfl) ?_
    refine va_get (D := D) (ci := 4) (v := .int (nI ((rtN b ln (nA (ρ 0)) (ρ 0 1) 0 ρ ln).2.1))) (C := RX4) (T := TX4) (N := 9) hx hb hts inX4 hown hK hP 0 rfl rfl 6 (by decide) (hts _ fl_RX4_112) (fun _ h9 => h9) rfl dX4_textFault_13 ?_
    exact mu_reti hx hb hr hlocks (by unfold rtF; rw [zB_eq0 q_5]; rfl) hP hD hS dX4_textFault_16
  · refine lv_iconst (v := -1) hx hb dX4_textFault_8 (by decide) ?_
    refine lv_goto (tgt := 16) hx hb dX4_textFault_9 (by decide) ?_
    exact mu_reti hx hb hr hlocks (by unfold rtF; rw [zB_ne0 q_5]; rfl) hP hD hS dX4_textFault_16
set_option maxHeartbeats 4000000 in
set_option maxRecDepth 100000 in
theorem c_X4_load (l : Launch) (D : va_G) (cI cR : ClassId) (h : Nat) (a : Nat → Nat) (ρ : Nat → Nat → Nat) (sv : Nat) (wv : Nat → Nat) (nw : Nat → Nat) (b : Nat → Nat) (ln : Nat) (at0 : Nat) (wd : Nat) (hh : Int64)   (hw : wf (ρ 0)) (hb0 : ∀ i, i < ln → b i < 256) (hln : ln ≤ 100) (hs : sv ≤ 5) (sz : Nat) : Met l yX4_load (wsC yX4_load cX4_load 2 (some .int)) (rmK 4 90) (nPreM D (nTy cI cR) [.ref h] (wMd h a cI (rwF ρ) sv (nF wv) (nF nw) (nF b) ln at0 wd hh) sz) (QcM D (some (.int (lmX b ln ρ sv))) (wMd h a cI (rwF (lmS b ln ρ sv)) (lmV b ln ρ sv) (nF wv) (nF nw) (nF b) ln (lmA b ln ρ sv) (lmW b ln ρ sv) hh) (va_A (wMd h a cI (rwF ρ) sv (nF wv) (nF nw) (nF b) ln at0 wd hh) sz)) 0 0 (va_A (wMd h a cI (rwF ρ) sv (nF wv) (nF nw) (nF b) ln at0 wd hh) sz) := by
  refine met_mut (Qc := fun A => QcM D (some (.int (lmX b ln ρ sv))) (wMd h a cI (rwF (lmS b ln ρ sv)) (lmV b ln ρ sv) (nF wv) (nF nw) (nF b) ln (lmA b ln ρ sv) (lmW b ln ρ sv) hh) A) rfl (Nat.le_of_ble_eq_true rfl) ?_
  intro p e s m args below meth c ls A H locs hx hb hml hr hlocks hown hts hP hK hD hA hS hl
  have hl : lv_has ls 2 [(0, .ref h)] := hl
  have hA41 := hw.w41
  have hA33 := hw.a33
  have hA48 := hw.a48
  obtain ⟨hR2, hR, hB1, hB, hSa, hSb, -⟩ := id hw
  have h1024 := p2_10 hB
  have hv0 := sv_0 ρ sv
  have hvA : nA (svR ρ sv 0) = nA (ρ 0) := by rw [hv0]
  have hvB : svR ρ sv 0 1 = ρ 0 1 := by rw [hv0]
  have hwv : wf (svR ρ sv 0) := by rw [hv0]; exact hw
  refine lv_aload_n hx hb dX4_load_0 rfl (lv_at hl 0 rfl) ?_
  refine lv_iconst (v := nI 0) hx hb dX4_load_1 (by decide) ?_
  refine mu_call (ws' := (wMd h a cI (rwF (rtN b ln (nA (ρ 0)) (ρ 0 1) 0 ρ ln).2.2.2) sv (nF wv) (nF nw) (nF b) ln ((rtN b ln (nA (ρ 0)) (ρ 0 1) 0 ρ ln).2.1) ((rtN b ln (nA (ρ 0)) (ρ 0 1) 0 ρ ln).2.2.1) hh)) [0, 1, 2, 3, 4] [] [0, 1, 2, 3, 4] [.int (nI 0)] [] hx hb hml hown hts k_RX4_125 (fun sz => c_X4_readsText l D cI cR h a ρ sv wv nw b ln at0 wd hh 0 hw hb0 hln (by decide) sz) ⟨rfl, rfl, Nat.le_of_ble_eq_true rfl, Nat.le_of_ble_eq_true rfl⟩ hP hD hS hA hK 4 rfl rfl rfl rfl rfl rfl rfl (by decide) rfl rfl rfl hl rfl (Nat.le_of_ble_eq_true rfl) dX4_load_2 ⟨Nat.zero_le _, Nat.zero_le _⟩ (fun H locs hP hD hS => ?_)
  refine W.eq (g2 := F0 m 5 ls [.int (zB (rtN b ln (nA (ρ 0)) (ρ 0 1) 0 ρ ln).1)]) rfl ?_
  have eR : (rwF (rtN b ln (nA (ρ 0)) (ρ 0 1) 0 ρ ln).2.2.2) = (rwF ρ) := by rw [rt_r0]
  rw [eR] at hP hD
  have hP : va_P D vwCl (wMd h a cI (rwF ρ) sv (nF wv) (nF nw) (nF b) ln ((rtN b ln (nA (ρ 0)) (ρ 0 1) 0 ρ ln).2.1) ((rtN b ln (nA (ρ 0)) (ρ 0 1) 0 ρ ln).2.2.1) hh) H := hP
  have hD : va_D A (wMd h a cI (rwF ρ) sv (nF wv) (nF nw) (nF b) ln ((rtN b ln (nA (ρ 0)) (ρ 0 1) 0 ρ ln).2.1) ((rtN b ln (nA (ρ 0)) (ρ 0 1) 0 ρ ln).2.2.1) hh) := hD
  refine lv_if_ne (tgt := 11) hx hb dX4_load_5 (by decide) (fun q_5 => ?_) (fun q_5 => ?_)
  · refine lv_aload_n hx hb dX4_load_11 rfl (lv_at hl 0 rfl) ?_
    refine mu_call (ws' := (wMd h a cI (rwF (svR ρ sv)) (kpN sv) (nF wv) (nF nw) (nF b) ln ((rtN b ln (nA (ρ 0)) (ρ 0 1) 0 ρ ln).2.1) ((rtN b ln (nA (ρ 0)) (ρ 0 1) 0 ρ ln).2.2.1) hh)) [0, 1, 2, 3, 4] [] [0, 1, 2, 3, 4] [] [] hx hb hml hown hts k_RX4_62 (fun sz => c_X4_saves l D cI cR h a ρ sv wv nw b ln ((rtN b ln (nA (ρ 0)) (ρ 0 1) 0 ρ ln).2.1) ((rtN b ln (nA (ρ 0)) (ρ 0 1) 0 ρ ln).2.2.1) hh hs sz) ⟨rfl, rfl, Nat.le_of_ble_eq_true rfl, Nat.le_of_ble_eq_true rfl⟩ hP hD hS hA hK 4 rfl rfl rfl rfl rfl rfl rfl (by decide) rfl rfl rfl hl rfl (Nat.le_of_ble_eq_true rfl) dX4_load_12 ⟨Nat.zero_le _, Nat.zero_le _⟩ (fun H locs hP hD hS => ?_)
    refine W.eq (g2 := F0 m 15 ls []) rfl ?_
    refine lv_aload_n hx hb dX4_load_15 rfl (lv_at hl 0 rfl) ?_
    refine lv_iconst (v := nI 1) hx hb dX4_load_16 (by decide) ?_
    refine mu_call (ws' := (wMd h a cI (rwF (rtN b ln (nA (((svR ρ sv)) 0)) (((svR ρ sv)) 0 1) 1 ((svR ρ sv)) ln).2.2.2) (kpN sv) (nF wv) (nF nw) (nF b) ln ((rtN b ln (nA (((svR ρ sv)) 0)) (((svR ρ sv)) 0 1) 1 ((svR ρ sv)) ln).2.1) ((rtN b ln (nA (((svR ρ sv)) 0)) (((svR ρ sv)) 0 1) 1 ((svR ρ sv)) ln).2.2.1) hh)) [0, 1, 2, 3, 4] [] [0, 1, 2, 3, 4] [.int (nI 1)] [] hx hb hml hown hts k_RX4_125 (fun sz => c_X4_readsText l D cI cR h a ((svR ρ sv)) (kpN sv) wv nw b ln ((rtN b ln (nA (ρ 0)) (ρ 0 1) 0 ρ ln).2.1) ((rtN b ln (nA (ρ 0)) (ρ 0 1) 0 ρ ln).2.2.1) hh 1 hwv hb0 hln (by decide) sz) ⟨rfl, rfl, Nat.le_of_ble_eq_true rfl, Nat.le_of_ble_eq_true rfl⟩ hP hD hS hA hK 4 rfl rfl rfl rfl rfl rfl rfl (by decide) rfl rfl rfl hl rfl (Nat.le_of_ble_eq_true rfl) dX4_load_17 ⟨Nat.zero_le _, Nat.zero_le _⟩ (fun H locs hP hD hS => ?_)
    refine W.eq (g2 := F0 m 20 ls [.int (zB (rtN b ln (nA (((svR ρ sv)) 0)) (((svR ρ sv)) 0 1) 1 ((svR ρ sv)) ln).1)]) rfl ?_
    have eR : (rwF (rtN b ln (nA (((svR ρ sv)) 0)) (((svR ρ sv)) 0 1) 1 ((svR ρ sv)) ln).2.2.2) = (rwF (rtN b ln (nA (ρ 0)) (ρ 0 1) 1 (svR ρ sv) ln).2.2.2) := by rw [hvA, hvB]
    rw [eR] at hP hD
    have hP : va_P D vwCl (wMd h a cI (rwF (rtN b ln (nA (ρ 0)) (ρ 0 1) 1 (svR ρ sv) ln).2.2.2) (kpN sv) (nF wv) (nF nw) (nF b) ln ((rtN b ln (nA (((svR ρ sv)) 0)) (((svR ρ sv)) 0 1) 1 ((svR ρ sv)) ln).2.1) ((rtN b ln (nA (((svR ρ sv)) 0)) (((svR ρ sv)) 0 1) 1 ((svR ρ sv)) ln).2.2.1) hh) H := hP
    have hD : va_D A (wMd h a cI (rwF (rtN b ln (nA (ρ 0)) (ρ 0 1) 1 (svR ρ sv) ln).2.2.2) (kpN sv) (nF wv) (nF nw) (nF b) ln ((rtN b ln (nA (((svR ρ sv)) 0)) (((svR ρ sv)) 0 1) 1 ((svR ρ sv)) ln).2.1) ((rtN b ln (nA (((svR ρ sv)) 0)) (((svR ρ sv)) 0 1) 1 ((svR ρ sv)) ln).2.2.1) hh) := hD
    have eF : ((rtN b ln (nA (((svR ρ sv)) 0)) (((svR ρ sv)) 0 1) 1 ((svR ρ sv)) ln).2.1 : Nat) = ((rtN b ln (nA (ρ 0)) (ρ 0 1) 1 (svR ρ sv) ln).2.1) := by rw [hvA, hvB]
    rw [eF] at hP hD
    have hP : va_P D vwCl (wMd h a cI (rwF (rtN b ln (nA (ρ 0)) (ρ 0 1) 1 (svR ρ sv) ln).2.2.2) (kpN sv) (nF wv) (nF nw) (nF b) ln ((rtN b ln (nA (ρ 0)) (ρ 0 1) 1 (svR ρ sv) ln).2.1) ((rtN b ln (nA (((svR ρ sv)) 0)) (((svR ρ sv)) 0 1) 1 ((svR ρ sv)) ln).2.2.1) hh) H := hP
    have hD : va_D A (wMd h a cI (rwF (rtN b ln (nA (ρ 0)) (ρ 0 1) 1 (svR ρ sv) ln).2.2.2) (kpN sv) (nF wv) (nF nw) (nF b) ln ((rtN b ln (nA (ρ 0)) (ρ 0 1) 1 (svR ρ sv) ln).2.1) ((rtN b ln (nA (((svR ρ sv)) 0)) (((svR ρ sv)) 0 1) 1 ((svR ρ sv)) ln).2.2.1) hh) := hD
    have eF : ((rtN b ln (nA (((svR ρ sv)) 0)) (((svR ρ sv)) 0 1) 1 ((svR ρ sv)) ln).2.2.1 : Nat) = ((rtN b ln (nA (ρ 0)) (ρ 0 1) 1 (svR ρ sv) ln).2.2.1) := by rw [hvA, hvB]
    rw [eF] at hP hD
    have hP : va_P D vwCl (wMd h a cI (rwF (rtN b ln (nA (ρ 0)) (ρ 0 1) 1 (svR ρ sv) ln).2.2.2) (kpN sv) (nF wv) (nF nw) (nF b) ln ((rtN b ln (nA (ρ 0)) (ρ 0 1) 1 (svR ρ sv) ln).2.1) ((rtN b ln (nA (ρ 0)) (ρ 0 1) 1 (svR ρ sv) ln).2.2.1) hh) H := hP
    have hD : va_D A (wMd h a cI (rwF (rtN b ln (nA (ρ 0)) (ρ 0 1) 1 (svR ρ sv) ln).2.2.2) (kpN sv) (nF wv) (nF nw) (nF b) ln ((rtN b ln (nA (ρ 0)) (ρ 0 1) 1 (svR ρ sv) ln).2.1) ((rtN b ln (nA (ρ 0)) (ρ 0 1) 1 (svR ρ sv) ln).2.2.1) hh) := hD
    refine lv_istore_n (lv' := [(1, .int (zB (rtN b ln (nA (((svR ρ sv)) 0)) (((svR ρ sv)) 0 1) 1 ((svR ρ sv)) ln).1)), (0, .ref h)]) hx hb dX4_load_20 rfl hl (by decide) rfl (fun ls hl => ?_)
    refine lv_aload_n hx hb dX4_load_21 rfl (lv_at hl 1 rfl) ?_
    refine va_get (D := D) (ci := 4) (v := .int (nI ((rtN b ln (nA (ρ 0)) (ρ 0 1) 1 (svR ρ sv) ln).2.2.1))) (C := RX4) (T := TX4) (N := 9) hx hb hts inX4 hown hK hP 0 rfl rfl 7 (by decide) (hts _ fl_RX4_118) (fun _ h9 => h9) rfl dX4_load_22 ?_
    have E0 : (rtN b ln (nA (ρ 0)) (ρ 0 1) 0 ρ ln).1 = true := zB_ne0 q_5
    have e1 : lmS b ln ρ sv = (rtN b ln (nA (ρ 0)) (ρ 0 1) 1 (svR ρ sv) ln).2.2.2 := by unfold lmS; rw [E0]; rfl
    have e2 : lmV b ln ρ sv = kpN sv := by unfold lmV; rw [E0]; rfl
    have e3 : lmA b ln ρ sv = (rtN b ln (nA (ρ 0)) (ρ 0 1) 1 (svR ρ sv) ln).2.1 := by unfold lmA; rw [E0]; rfl
    have e4 : lmW b ln ρ sv = (rtN b ln (nA (ρ 0)) (ρ 0 1) 1 (svR ρ sv) ln).2.2.1 := by unfold lmW; rw [E0]; rfl
    have hP : va_P D vwCl (wMd h a cI (rwF (lmS b ln ρ sv)) (lmV b ln ρ sv) (nF wv) (nF nw) (nF b) ln (lmA b ln ρ sv) (lmW b ln ρ sv) hh) H := by rw [e1, e2, e3, e4]; exact hP
    have hD : va_D A (wMd h a cI (rwF (lmS b ln ρ sv)) (lmV b ln ρ sv) (nF wv) (nF nw) (nF b) ln (lmA b ln ρ sv) (lmW b ln ρ sv) hh) := by rw [e1, e2, e3, e4]; exact hD
    exact mu_reti hx hb hr hlocks (by unfold lmX; rw [E0]; rfl) hP hD hS dX4_load_25
  · refine lv_bipush (v := -4) hx hb dX4_load_8 (by decide) ?_
    have E0 : (rtN b ln (nA (ρ 0)) (ρ 0 1) 0 ρ ln).1 = false := zB_eq0 q_5
    have e1 : lmS b ln ρ sv = ρ := by unfold lmS; rw [E0]; rfl
    have e2 : lmV b ln ρ sv = sv := by unfold lmV; rw [E0]; rfl
    have e3 : lmA b ln ρ sv = (rtN b ln (nA (ρ 0)) (ρ 0 1) 0 ρ ln).2.1 := by unfold lmA; rw [E0]; rfl
    have e4 : lmW b ln ρ sv = (rtN b ln (nA (ρ 0)) (ρ 0 1) 0 ρ ln).2.2.1 := by unfold lmW; rw [E0]; rfl
    have hP : va_P D vwCl (wMd h a cI (rwF (lmS b ln ρ sv)) (lmV b ln ρ sv) (nF wv) (nF nw) (nF b) ln (lmA b ln ρ sv) (lmW b ln ρ sv) hh) H := by rw [e1, e2, e3, e4]; exact hP
    have hD : va_D A (wMd h a cI (rwF (lmS b ln ρ sv)) (lmV b ln ρ sv) (nF wv) (nF nw) (nF b) ln (lmA b ln ρ sv) (lmW b ln ρ sv) hh) := by rw [e1, e2, e3, e4]; exact hD
    exact mu_reti hx hb hr hlocks (by unfold lmX; rw [E0]; rfl) hP hD hS dX4_load_10
