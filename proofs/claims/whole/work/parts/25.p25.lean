set_option maxHeartbeats 4000000 in
set_option maxRecDepth 100000 in
theorem c_X4_here (l : Launch) (D : va_G) (cI cR : ClassId) (h : Nat) (a : Nat → Nat) (ρ : Nat → Nat → Nat) (sv : Nat) (wv : Nat → Nat) (nw : Nat → Nat) (b : Nat → Nat) (ln : Nat) (at0 : Nat) (wd : Nat) (hh : Int64)   (hb0 : ∀ i, i < ln → b i < 256) (hln : ln ≤ 100) (ha0 : at0 ≤ ln) (sz : Nat) : Met l yX4_here (wsC yX4_here cX4_here 1 (some .int)) (rmK 0 0) (nPreM D (nTy cI cR) [.ref h] (wMd h a cI (rwF ρ) sv (nF wv) (nF nw) (nF b) ln at0 wd hh) sz) (QcM D (some (.int (hrF b ln (skb b ln at0)))) (wMd h a cI (rwF ρ) sv (nF wv) (nF nw) (nF b) ln (skb b ln at0) wd hh) (va_A (wMd h a cI (rwF ρ) sv (nF wv) (nF nw) (nF b) ln at0 wd hh) sz)) 0 0 (va_A (wMd h a cI (rwF ρ) sv (nF wv) (nF nw) (nF b) ln at0 wd hh) sz) := by
  refine met_mut (Qc := fun A => QcM D (some (.int (hrF b ln (skb b ln at0)))) (wMd h a cI (rwF ρ) sv (nF wv) (nF nw) (nF b) ln (skb b ln at0) wd hh) A) rfl (Nat.le_of_ble_eq_true rfl) ?_
  intro p e s m args below meth c ls A H locs hx hb hml hr hlocks hown hts hP hK hD hA hS hl
  have hl : lv_has ls 1 [(0, .ref h)] := hl
  have L0 : ∀ (n0 i : Nat), ln + 1 ≤ i + n0 → i ≤ ln → (skb b ln i = skb b ln at0) → ∀ (H : Heap) (locs : List Loc), va_P D vwCl (wMd h a cI (rwF ρ) sv (nF wv) (nF nw) (nF b) ln i wd hh) H → va_D A (wMd h a cI (rwF ρ) sv (nF wv) (nF nw) (nF b) ln i wd hh) → va_S A s.heap H locs → ∀ (ls : Array Slot), lv_has ls 1 [(0, .ref h)] → W p l e (rmK 0 0) s m args below meth c H locs 0 0 (MQ below (QcM D (some (.int (hrF b ln (skb b ln at0)))) (wMd h a cI (rwF ρ) sv (nF wv) (nF nw) (nF b) ln (skb b ln at0) wd hh) A) args s 0 0 A) (F0 m 0 ls []) := by
    intro n0
    induction n0 with
    | zero =>
      intro i h1_0 h2_0
      exact False.elim (by omega)
    | succ n0 ih0 =>
      intro i h1_0 h2_0 hsk H locs hP hD hS ls hl
      refine lv_aload_n hx hb dX4_here_0 rfl (lv_at hl 0 rfl) ?_
      refine va_get (D := D) (ci := 4) (v := .int (nI i)) (C := RX4) (T := TX4) (N := 9) hx hb hts inX4 hown hK hP 0 rfl rfl 6 (by decide) (hts _ fl_RX4_112) (fun _ h9 => h9) rfl dX4_here_1 ?_
      refine lv_aload_n hx hb dX4_here_4 rfl (lv_at hl 0 rfl) ?_
      refine va_get (D := D) (ci := 4) (v := .int (nI ln)) (C := RX4) (T := TX4) (N := 9) hx hb hts inX4 hown hK hP 0 rfl rfl 5 (by decide) (hts _ fl_RX4_109) (fun _ h9 => h9) rfl dX4_here_5 ?_
      refine nv_icmp_ge (tgt := 38) hx hb dX4_here_8 (by decide) (by omega) (by omega) (fun q_8 => ?_) (fun q_8 => ?_)
      · refine lv_aload_n hx hb dX4_here_38 rfl (lv_at hl 0 rfl) ?_
        refine va_get (D := D) (ci := 4) (v := .int (nI i)) (C := RX4) (T := TX4) (N := 9) hx hb hts inX4 hown hK hP 0 rfl rfl 6 (by decide) (hts _ fl_RX4_112) (fun _ h9 => h9) rfl dX4_here_39 ?_
        refine lv_aload_n hx hb dX4_here_42 rfl (lv_at hl 0 rfl) ?_
        refine va_get (D := D) (ci := 4) (v := .int (nI ln)) (C := RX4) (T := TX4) (N := 9) hx hb hts inX4 hown hK hP 0 rfl rfl 5 (by decide) (hts _ fl_RX4_109) (fun _ h9 => h9) rfl dX4_here_43 ?_
        refine nv_icmp_ge (tgt := 61) hx hb dX4_here_46 (by decide) (by omega) (by omega) (fun q_46 => ?_) (fun q_46 => ?_)
        · refine lv_iconst (v := -1) hx hb dX4_here_61 (by decide) ?_
          have e1 : skb b ln at0 = i := hsk.symm.trans (sk_stop (fun z => by omega))
          have hP : va_P D vwCl (wMd h a cI (rwF ρ) sv (nF wv) (nF nw) (nF b) ln (skb b ln at0) wd hh) H := by rw [e1]; exact hP
          have hD : va_D A (wMd h a cI (rwF ρ) sv (nF wv) (nF nw) (nF b) ln (skb b ln at0) wd hh) := by rw [e1]; exact hD
          exact mu_reti hx hb hr hlocks (by rw [e1]; unfold hrF; rw [if_neg (by omega)]) hP hD hS dX4_here_62
        · have hbj := hb0 i (by omega)
          refine lv_aload_n hx hb dX4_here_49 rfl (lv_at hl 0 rfl) ?_
          refine va_get (D := D) (ci := 4) (v := .ref (a 3)) (C := RX4) (T := TX4) (N := 9) hx hb hts inX4 hown hK hP 0 rfl rfl 4 (by decide) (hts _ fl_RX4_19) (fun _ h9 => h9) rfl dX4_here_50 ?_
          refine lv_aload_n hx hb dX4_here_53 rfl (lv_at hl 0 rfl) ?_
          refine va_get (D := D) (ci := 4) (v := .int (nI i)) (C := RX4) (T := TX4) (N := 9) hx hb hts inX4 hown hK hP 0 rfl rfl 6 (by decide) (hts _ fl_RX4_112) (fun _ h9 => h9) rfl dX4_here_54 ?_
          refine nv_iald (D := D) (v := nI (b i)) hx hb hK hP 4 0 rfl rfl (k := i) (by omega) (by decide) (rfl) dX4_here_57 ?_
          refine lv_goto (tgt := 62) hx hb dX4_here_58 (by decide) ?_
          have e1 : skb b ln at0 = i := hsk.symm.trans (sk_stop (fun z => by omega))
          have hP : va_P D vwCl (wMd h a cI (rwF ρ) sv (nF wv) (nF nw) (nF b) ln (skb b ln at0) wd hh) H := by rw [e1]; exact hP
          have hD : va_D A (wMd h a cI (rwF ρ) sv (nF wv) (nF nw) (nF b) ln (skb b ln at0) wd hh) := by rw [e1]; exact hD
          exact mu_reti hx hb hr hlocks (by rw [e1]; unfold hrF; rw [if_pos (by omega)]) hP hD hS dX4_here_62
      · have hbi := hb0 i (by omega)
        refine lv_aload_n hx hb dX4_here_11 rfl (lv_at hl 0 rfl) ?_
        refine va_get (D := D) (ci := 4) (v := .ref (a 3)) (C := RX4) (T := TX4) (N := 9) hx hb hts inX4 hown hK hP 0 rfl rfl 4 (by decide) (hts _ fl_RX4_19) (fun _ h9 => h9) rfl dX4_here_12 ?_
        refine lv_aload_n hx hb dX4_here_15 rfl (lv_at hl 0 rfl) ?_
        refine va_get (D := D) (ci := 4) (v := .int (nI i)) (C := RX4) (T := TX4) (N := 9) hx hb hts inX4 hown hK hP 0 rfl rfl 6 (by decide) (hts _ fl_RX4_112) (fun _ h9 => h9) rfl dX4_here_16 ?_
        refine nv_iald (D := D) (v := nI (b i)) hx hb hK hP 4 0 rfl rfl (k := i) (by omega) (by decide) (rfl) dX4_here_19 ?_
        refine lv_bipush (v := nI 32) hx hb dX4_here_20 (by decide) ?_
        refine nv_icmp_ne (tgt := 38) hx hb dX4_here_22 (by decide) (by omega) (by omega) (fun q_22 => ?_) (fun q_22 => ?_)
        · refine lv_aload_n hx hb dX4_here_38 rfl (lv_at hl 0 rfl) ?_
          refine va_get (D := D) (ci := 4) (v := .int (nI i)) (C := RX4) (T := TX4) (N := 9) hx hb hts inX4 hown hK hP 0 rfl rfl 6 (by decide) (hts _ fl_RX4_112) (fun _ h9 => h9) rfl dX4_here_39 ?_
          refine lv_aload_n hx hb dX4_here_42 rfl (lv_at hl 0 rfl) ?_
          refine va_get (D := D) (ci := 4) (v := .int (nI ln)) (C := RX4) (T := TX4) (N := 9) hx hb hts inX4 hown hK hP 0 rfl rfl 5 (by decide) (hts _ fl_RX4_109) (fun _ h9 => h9) rfl dX4_here_43 ?_
          refine nv_icmp_ge (tgt := 61) hx hb dX4_here_46 (by decide) (by omega) (by omega) (fun q_46 => ?_) (fun q_46 => ?_)
          · refine lv_iconst (v := -1) hx hb dX4_here_61 (by decide) ?_
            have e1 : skb b ln at0 = i := hsk.symm.trans (sk_stop (fun z => by omega))
            have hP : va_P D vwCl (wMd h a cI (rwF ρ) sv (nF wv) (nF nw) (nF b) ln (skb b ln at0) wd hh) H := by rw [e1]; exact hP
            have hD : va_D A (wMd h a cI (rwF ρ) sv (nF wv) (nF nw) (nF b) ln (skb b ln at0) wd hh) := by rw [e1]; exact hD
            exact mu_reti hx hb hr hlocks (by rw [e1]; unfold hrF; rw [if_neg (by omega)]) hP hD hS dX4_here_62
          · have hbj := hb0 i (by omega)
            refine lv_aload_n hx hb dX4_here_49 rfl (lv_at hl 0 rfl) ?_
            refine va_get (D := D) (ci := 4) (v := .ref (a 3)) (C := RX4) (T := TX4) (N := 9) hx hb hts inX4 hown hK hP 0 rfl rfl 4 (by decide) (hts _ fl_RX4_19) (fun _ h9 => h9) rfl dX4_here_50 ?_
            refine lv_aload_n hx hb dX4_here_53 rfl (lv_at hl 0 rfl) ?_
            refine va_get (D := D) (ci := 4) (v := .int (nI i)) (C := RX4) (T := TX4) (N := 9) hx hb hts inX4 hown hK hP 0 rfl rfl 6 (by decide) (hts _ fl_RX4_112) (fun _ h9 => h9) rfl dX4_here_54 ?_
            refine nv_iald (D := D) (v := nI (b i)) hx hb hK hP 4 0 rfl rfl (k := i) (by omega) (by decide) (rfl) dX4_here_57 ?_
            refine lv_goto (tgt := 62) hx hb dX4_here_58 (by decide) ?_
            have e1 : skb b ln at0 = i := hsk.symm.trans (sk_stop (fun z => by omega))
            have hP : va_P D vwCl (wMd h a cI (rwF ρ) sv (nF wv) (nF nw) (nF b) ln (skb b ln at0) wd hh) H := by rw [e1]; exact hP
            have hD : va_D A (wMd h a cI (rwF ρ) sv (nF wv) (nF nw) (nF b) ln (skb b ln at0) wd hh) := by rw [e1]; exact hD
            exact mu_reti hx hb hr hlocks (by rw [e1]; unfold hrF; rw [if_pos (by omega)]) hP hD hS dX4_here_62
        · refine lv_aload_n hx hb dX4_here_25 rfl (lv_at hl 0 rfl) ?_
          refine lv_dup hx hb dX4_here_26 rfl ?_
          refine va_get (D := D) (ci := 4) (v := .int (nI i)) (C := RX4) (T := TX4) (N := 9) hx hb hts inX4 hown hK hP 0 rfl rfl 6 (by decide) (hts _ fl_RX4_112) (fun _ h9 => h9) rfl dX4_here_27 ?_
          refine lv_iconst (v := nI 1) hx hb dX4_here_30 (by decide) ?_
          refine nv_iadd hx hb dX4_here_31 ?_
          refine va_put (D := D) (ci := 4) (v := .int (nI (i + 1))) (ty := .int) (C := RX4) (T := TX4) (N := 9) hx hb hts inX4 tyX4 tyX4_ok nmX4 hown hK hP hD hS 0 rfl rfl 6 (by decide) (hts _ fl_RX4_112) (fun _ h9 => h9) rfl (by decide +kernel) rfl rfl (Nat.le_of_ble_eq_true rfl) dX4_here_32 (fun H locs hP hD hS => ?_)
          have hP : va_P D vwCl (wMd h a cI (rwF ρ) sv (nF wv) (nF nw) (nF b) ln (i + 1) wd hh) H := hP
          have hD : va_D A (wMd h a cI (rwF ρ) sv (nF wv) (nF nw) (nF b) ln (i + 1) wd hh) := hD
          refine lv_goto (tgt := 0) hx hb dX4_here_35 (by decide) ?_
          exact ih0 (i + 1) (by omega) (by omega) ((sk_step q_8 q_22).symm.trans hsk) _ _ hP hD hS ls (lv_sub hl [0] rfl)
  exact L0 (ln + 1) at0 (by omega) (by omega) (rfl) _ _ hP hD hS ls (lv_sub hl [0] rfl)
set_option maxHeartbeats 4000000 in
set_option maxRecDepth 100000 in
theorem c_X4_readsWord (l : Launch) (D : va_G) (cI cR : ClassId) (h : Nat) (a : Nat → Nat) (ρ : Nat → Nat → Nat) (sv : Nat) (wv : Nat → Nat) (nw : Nat → Nat) (b : Nat → Nat) (ln : Nat) (at0 : Nat) (wd : Nat) (hh : Int64) (rl : Nat)  (hw : wf (ρ 0)) (hb0 : ∀ i, i < ln → b i < 256) (hln : ln ≤ 100) (ha0 : at0 ≤ ln) (hm0 : wd ≤ nA (ρ 0)) (hrl : rl < 2 ^ 31) (sz : Nat) : Met l yX4_readsWord (wsC yX4_readsWord cX4_readsWord 5 (some .boolean)) (rmK 2 43) (nPreM D (nTy cI cR) [.ref h, .int (nI rl)] (wMd h a cI (rwF ρ) sv (nF wv) (nF nw) (nF b) ln at0 wd hh) sz) (QcM D (some (.int (zB (rdO b ln (nA (ρ 0)) (ρ 0 1) at0 wd)))) (wMd h a cI (rwF (rdR b ln (nA (ρ 0)) (ρ 0 1) at0 wd rl ρ)) sv (nF wv) (nF nw) (nF b) ln (rdA b ln (nA (ρ 0)) (ρ 0 1) at0 wd) (rdM b ln (nA (ρ 0)) (ρ 0 1) at0 wd) hh) (va_A (wMd h a cI (rwF ρ) sv (nF wv) (nF nw) (nF b) ln at0 wd hh) sz)) 0 0 (va_A (wMd h a cI (rwF ρ) sv (nF wv) (nF nw) (nF b) ln at0 wd hh) sz) := by
  refine met_mut (Qc := fun A => QcM D (some (.int (zB (rdO b ln (nA (ρ 0)) (ρ 0 1) at0 wd)))) (wMd h a cI (rwF (rdR b ln (nA (ρ 0)) (ρ 0 1) at0 wd rl ρ)) sv (nF wv) (nF nw) (nF b) ln (rdA b ln (nA (ρ 0)) (ρ 0 1) at0 wd) (rdM b ln (nA (ρ 0)) (ρ 0 1) at0 wd) hh) A) rfl (Nat.le_of_ble_eq_true rfl) ?_
  intro p e s m args below meth c ls A H locs hx hb hml hr hlocks hown hts hP hK hD hA hS hl
  have hl : lv_has ls 5 [(0, .ref h), (1, .int (nI rl))] := hl
  have hA41 := hw.w41
  have hA33 := hw.a33
  have hA48 := hw.a48
  obtain ⟨hR2, hR, hB1, hB, hSa, hSb, -⟩ := id hw
  have h1024 := p2_10 hB
  obtain ⟨s0, hs0⟩ : ∃ q, q = skb b ln at0 := ⟨_, rfl⟩
  obtain ⟨hs1, hs2⟩ := sk_le (b := b) ha0
  rw [← hs0] at hs1 hs2
  refine lv_aload_n hx hb dX4_readsWord_0 rfl (lv_at hl 0 rfl) ?_
  refine mu_call (ws' := (wMd h a cI (rwF ρ) sv (nF wv) (nF nw) (nF b) ln (skb b ln at0) wd hh)) [0, 1, 2, 3, 4] [] [0, 1, 2, 3, 4] [] [] hx hb hml hown hts k_RX4_115 (fun sz => c_X4_here l D cI cR h a ρ sv wv nw b ln at0 wd hh hb0 hln ha0 sz) ⟨rfl, rfl, Nat.le_of_ble_eq_true rfl, Nat.le_of_ble_eq_true rfl⟩ hP hD hS hA hK 4 rfl rfl rfl rfl rfl rfl rfl (by decide) rfl rfl rfl hl rfl (Nat.le_of_ble_eq_true rfl) dX4_readsWord_1 ⟨Nat.zero_le _, Nat.zero_le _⟩ (fun H locs hP hD hS => ?_)
  refine W.eq (g2 := F0 m 4 ls [.int (hrF b ln (skb b ln at0))]) rfl ?_
  have eF : (skb b ln at0 : Nat) = (s0) := hs0.symm
  rw [eF] at hP hD
  have hP : va_P D vwCl (wMd h a cI (rwF ρ) sv (nF wv) (nF nw) (nF b) ln s0 wd hh) H := hP
  have hD : va_D A (wMd h a cI (rwF ρ) sv (nF wv) (nF nw) (nF b) ln s0 wd hh) := hD
  by_cases hs : s0 < ln
  · refine nv_tope (nI (b s0)) (by rw [← hs0]; unfold hrF; rw [if_pos hs]) ?_
    have hbs := hb0 s0 hs
    refine lv_istore_n (lv' := [(2, .int (nI (b s0))), (0, .ref h), (1, .int (nI rl))]) hx hb dX4_readsWord_4 rfl hl (by decide) rfl (fun ls hl => ?_)
    refine lv_aload_n hx hb dX4_readsWord_5 rfl (lv_at hl 1 rfl) ?_
    refine va_get (D := D) (ci := 4) (v := .int (nI s0)) (C := RX4) (T := TX4) (N := 9) hx hb hts inX4 hown hK hP 0 rfl rfl 6 (by decide) (hts _ fl_RX4_112) (fun _ h9 => h9) rfl dX4_readsWord_6 ?_
    refine lv_istore_n (lv' := [(3, .int (nI s0)), (2, .int (nI (b s0))), (0, .ref h), (1, .int (nI rl))]) hx hb dX4_readsWord_9 rfl hl (by decide) rfl (fun ls hl => ?_)
    refine lv_iconst (v := nI 0) hx hb dX4_readsWord_10 (by decide) ?_
    refine lv_istore (lv' := [(4, .int (nI 0)), (3, .int (nI s0)), (2, .int (nI (b s0))), (0, .ref h), (1, .int (nI rl))]) hx hb dX4_readsWord_11 hl (by decide) rfl (fun ls hl => ?_)
    have L13 : ∀ (n13 j : Nat), ln + 1 ≤ j + n13 → j ≤ ln → (s0 ≤ j) → (dge b ln j = dge b ln s0) → (∀ q, q < j - s0 → b (s0 + q) ≤ 55) → ∀ (H : Heap) (locs : List Loc), va_P D vwCl (wMd h a cI (rwF ρ) sv (nF wv) (nF nw) (nF b) ln s0 wd hh) H → va_D A (wMd h a cI (rwF ρ) sv (nF wv) (nF nw) (nF b) ln s0 wd hh) → va_S A s.heap H locs → ∀ (ls : Array Slot), lv_has ls 5 [(4, .int (nI (vlN b s0 (j - s0)))), (3, .int (nI j)), (2, .int (nI (b s0))), (0, .ref h), (1, .int (nI rl))] → W p l e (rmK 2 43) s m args below meth c H locs 0 0 (MQ below (QcM D (some (.int (zB (rdO b ln (nA (ρ 0)) (ρ 0 1) at0 wd)))) (wMd h a cI (rwF (rdR b ln (nA (ρ 0)) (ρ 0 1) at0 wd rl ρ)) sv (nF wv) (nF nw) (nF b) ln (rdA b ln (nA (ρ 0)) (ρ 0 1) at0 wd) (rdM b ln (nA (ρ 0)) (ρ 0 1) at0 wd) hh) A) args s 0 0 A) (F0 m 13 ls []) := by
      intro n13
      induction n13 with
      | zero =>
        intro j h1_13 h2_13
        exact False.elim (by omega)
      | succ n13 ih13 =>
        intro j h1_13 h2_13 hsj hdg hdd H locs hP hD hS ls hl
        refine lv_iload_n hx hb dX4_readsWord_13 rfl (lv_at hl 2 rfl) ?_
        refine nv_if_lt (tgt := 79) hx hb dX4_readsWord_14 (by decide) (by omega) ?_
        refine lv_iload_n hx hb dX4_readsWord_17 rfl (lv_at hl 1 rfl) ?_
        refine lv_aload_n hx hb dX4_readsWord_18 rfl (lv_at hl 3 rfl) ?_
        refine va_get (D := D) (ci := 4) (v := .int (nI ln)) (C := RX4) (T := TX4) (N := 9) hx hb hts inX4 hown hK hP 0 rfl rfl 5 (by decide) (hts _ fl_RX4_109) (fun _ h9 => h9) rfl dX4_readsWord_19 ?_
        refine nv_icmp_ge (tgt := 79) hx hb dX4_readsWord_22 (by decide) (by omega) (by omega) (fun q_22 => ?_) (fun q_22 => ?_)
        · have hS9 : rdS b ln at0 = s0 := hs0.symm
          have hE9 : rdE b ln at0 = j := by unfold rdE; rw [← hs0, ← hdg]; exact dg_stop (fun z => by omega)
          have hV9 : rdV b ln at0 = vlN b s0 (j - s0) := by unfold rdV; rw [hE9, ← hs0]
          refine lv_iload_n hx hb dX4_readsWord_79 rfl (lv_at hl 1 rfl) ?_
          refine lv_aload_n hx hb dX4_readsWord_80 rfl (lv_at hl 3 rfl) ?_
          refine va_get (D := D) (ci := 4) (v := .int (nI s0)) (C := RX4) (T := TX4) (N := 9) hx hb hts inX4 hown hK hP 0 rfl rfl 6 (by decide) (hts _ fl_RX4_112) (fun _ h9 => h9) rfl dX4_readsWord_81 ?_
          refine nv_icmp_eq (tgt := 117) hx hb dX4_readsWord_84 (by decide) (by omega) (by omega) (fun q_84 => ?_) (fun q_84 => ?_)
          · refine lv_iconst (v := nI 0) hx hb dX4_readsWord_117 (by decide) ?_
            have E0 : rdO b ln (nA (ρ 0)) (ρ 0 1) at0 wd = false := rdO_1 (by rw [hE9, hS9] <;> exact q_84)
            have hA9 : rdA b ln (nA (ρ 0)) (ρ 0 1) at0 wd = s0 := by unfold rdA; rw [E0]; exact hs0.symm
            have hM9 : rdM b ln (nA (ρ 0)) (ρ 0 1) at0 wd = wd := by unfold rdM; rw [E0]; rfl
            have hR9 : rdR b ln (nA (ρ 0)) (ρ 0 1) at0 wd rl ρ = ρ := by unfold rdR; rw [E0]; rfl
            have hP : va_P D vwCl (wMd h a cI (rwF (rdR b ln (nA (ρ 0)) (ρ 0 1) at0 wd rl ρ)) sv (nF wv) (nF nw) (nF b) ln (rdA b ln (nA (ρ 0)) (ρ 0 1) at0 wd) (rdM b ln (nA (ρ 0)) (ρ 0 1) at0 wd) hh) H := by rw [hA9, hM9, hR9]; exact hP
            have hD : va_D A (wMd h a cI (rwF (rdR b ln (nA (ρ 0)) (ρ 0 1) at0 wd rl ρ)) sv (nF wv) (nF nw) (nF b) ln (rdA b ln (nA (ρ 0)) (ρ 0 1) at0 wd) (rdM b ln (nA (ρ 0)) (ρ 0 1) at0 wd) hh) := by rw [hA9, hM9, hR9]; exact hD
            exact mu_retz hx hb hr hlocks (by decide) (zB_0 E0) hP hD hS dX4_readsWord_118
          · refine lv_iload_n hx hb dX4_readsWord_87 rfl (lv_at hl 1 rfl) ?_
            refine lv_aload_n hx hb dX4_readsWord_88 rfl (lv_at hl 3 rfl) ?_
            refine va_get (D := D) (ci := 4) (v := .int (nI s0)) (C := RX4) (T := TX4) (N := 9) hx hb hts inX4 hown hK hP 0 rfl rfl 6 (by decide) (hts _ fl_RX4_112) (fun _ h9 => h9) rfl dX4_readsWord_89 ?_
            refine nv_isub hx hb dX4_readsWord_92 (by omega) ?_
            refine lv_iconst (v := nI 4) hx hb dX4_readsWord_93 (by decide) ?_
            refine nv_icmp_gt (tgt := 117) hx hb dX4_readsWord_94 (by decide) (by omega) (by omega) (fun q_94 => ?_) (fun q_94 => ?_)
            · refine lv_iconst (v := nI 0) hx hb dX4_readsWord_117 (by decide) ?_
              have E0 : rdO b ln (nA (ρ 0)) (ρ 0 1) at0 wd = false := rdO_2 (by rw [hE9, hS9]; omega)
              have hA9 : rdA b ln (nA (ρ 0)) (ρ 0 1) at0 wd = s0 := by unfold rdA; rw [E0]; exact hs0.symm
              have hM9 : rdM b ln (nA (ρ 0)) (ρ 0 1) at0 wd = wd := by unfold rdM; rw [E0]; rfl
              have hR9 : rdR b ln (nA (ρ 0)) (ρ 0 1) at0 wd rl ρ = ρ := by unfold rdR; rw [E0]; rfl
              have hP : va_P D vwCl (wMd h a cI (rwF (rdR b ln (nA (ρ 0)) (ρ 0 1) at0 wd rl ρ)) sv (nF wv) (nF nw) (nF b) ln (rdA b ln (nA (ρ 0)) (ρ 0 1) at0 wd) (rdM b ln (nA (ρ 0)) (ρ 0 1) at0 wd) hh) H := by rw [hA9, hM9, hR9]; exact hP
              have hD : va_D A (wMd h a cI (rwF (rdR b ln (nA (ρ 0)) (ρ 0 1) at0 wd rl ρ)) sv (nF wv) (nF nw) (nF b) ln (rdA b ln (nA (ρ 0)) (ρ 0 1) at0 wd) (rdM b ln (nA (ρ 0)) (ρ 0 1) at0 wd) hh) := by rw [hA9, hM9, hR9]; exact hD
              exact mu_retz hx hb hr hlocks (by decide) (zB_0 E0) hP hD hS dX4_readsWord_118
            · have hvs : vlN b s0 (j - s0) < 32768 := vl_small hdd
              refine lv_aload_n hx hb dX4_readsWord_97 rfl (lv_at hl 3 rfl) ?_
              refine lv_iload hx hb dX4_readsWord_98 (lv_at hl 0 rfl) ?_
              refine nv_callV [.int (nI (vlN b s0 (j - s0)))] [] hx hb hml hown hts k_RX4_78 (c_X4_isWord l D cI cR h a ρ sv wv nw b ln s0 wd hh (nI (vlN b s0 (j - s0))) hw) ⟨rfl, rfl, Nat.le_of_ble_eq_true rfl, Nat.le_of_ble_eq_true rfl⟩ hP hK 4 rfl rfl rfl rfl hl rfl (Nat.le_of_ble_eq_true rfl) dX4_readsWord_100 ⟨Nat.zero_le _, Nat.zero_le _⟩ ?_
              refine nv_tope (zB (decide (vlN b s0 (j - s0) < 2 ^ ρ 0 1))) (by rw [inB_k (by omega) (by omega)]) ?_
              refine lv_if_eq (tgt := 117) hx hb dX4_readsWord_103 (by decide) (fun q_103 => ?_) (fun q_103 => ?_)
              · refine lv_iconst (v := nI 0) hx hb dX4_readsWord_117 (by decide) ?_
                have E0 : rdO b ln (nA (ρ 0)) (ρ 0 1) at0 wd = false := rdO_3 (by rw [hV9]; have h7 := zB_eq0 q_103; exact of_decide_eq_false h7)
                have hA9 : rdA b ln (nA (ρ 0)) (ρ 0 1) at0 wd = s0 := by unfold rdA; rw [E0]; exact hs0.symm
                have hM9 : rdM b ln (nA (ρ 0)) (ρ 0 1) at0 wd = wd := by unfold rdM; rw [E0]; rfl
                have hR9 : rdR b ln (nA (ρ 0)) (ρ 0 1) at0 wd rl ρ = ρ := by unfold rdR; rw [E0]; rfl
                have hP : va_P D vwCl (wMd h a cI (rwF (rdR b ln (nA (ρ 0)) (ρ 0 1) at0 wd rl ρ)) sv (nF wv) (nF nw) (nF b) ln (rdA b ln (nA (ρ 0)) (ρ 0 1) at0 wd) (rdM b ln (nA (ρ 0)) (ρ 0 1) at0 wd) hh) H := by rw [hA9, hM9, hR9]; exact hP
                have hD : va_D A (wMd h a cI (rwF (rdR b ln (nA (ρ 0)) (ρ 0 1) at0 wd rl ρ)) sv (nF wv) (nF nw) (nF b) ln (rdA b ln (nA (ρ 0)) (ρ 0 1) at0 wd) (rdM b ln (nA (ρ 0)) (ρ 0 1) at0 wd) hh) := by rw [hA9, hM9, hR9]; exact hD
                exact mu_retz hx hb hr hlocks (by decide) (zB_0 E0) hP hD hS dX4_readsWord_118
              · have hv9 := zB_ne0 q_103
                refine lv_aload_n hx hb dX4_readsWord_106 rfl (lv_at hl 3 rfl) ?_
                refine va_get (D := D) (ci := 4) (v := .int (nI wd)) (C := RX4) (T := TX4) (N := 9) hx hb hts inX4 hown hK hP 0 rfl rfl 7 (by decide) (hts _ fl_RX4_118) (fun _ h9 => h9) rfl dX4_readsWord_107 ?_
                refine lv_aload_n hx hb dX4_readsWord_110 rfl (lv_at hl 3 rfl) ?_
                refine nv_callV [] [.int (nI wd)] hx hb hml hown hts k_RX4_42 (c_X4_addresses l D cI cR h a ρ sv wv nw b ln s0 wd hh ) ⟨rfl, rfl, Nat.le_of_ble_eq_true rfl, Nat.le_of_ble_eq_true rfl⟩ hP hK 4 rfl rfl rfl rfl hl rfl (Nat.le_of_ble_eq_true rfl) dX4_readsWord_111 ⟨Nat.zero_le _, Nat.zero_le _⟩ ?_
                refine nv_icmp_ne (tgt := 119) hx hb dX4_readsWord_114 (by decide) (by omega) (by omega) (fun q_114 => ?_) (fun q_114 => ?_)
                · refine lv_aload_n hx hb dX4_readsWord_119 rfl (lv_at hl 3 rfl) ?_
                  refine lv_iload_n hx hb dX4_readsWord_120 rfl (lv_at hl 1 rfl) ?_
                  refine va_put (D := D) (ci := 4) (v := .int (nI j)) (ty := .int) (C := RX4) (T := TX4) (N := 9) hx hb hts inX4 tyX4 tyX4_ok nmX4 hown hK hP hD hS 0 rfl rfl 6 (by decide) (hts _ fl_RX4_112) (fun _ h9 => h9) rfl (by decide +kernel) rfl rfl (Nat.le_of_ble_eq_true rfl) dX4_readsWord_121 (fun H locs hP hD hS => ?_)
                  have hP : va_P D vwCl (wMd h a cI (rwF ρ) sv (nF wv) (nF nw) (nF b) ln j wd hh) H := hP
                  have hD : va_D A (wMd h a cI (rwF ρ) sv (nF wv) (nF nw) (nF b) ln j wd hh) := hD
                  refine lv_aload_n hx hb dX4_readsWord_124 rfl (lv_at hl 3 rfl) ?_
                  refine va_get (D := D) (ci := 4) (v := .ref (a 0)) (C := RX4) (T := TX4) (N := 9) hx hb hts inX4 hown hK hP 0 rfl rfl 0 (by decide) (hts _ fl_RX4_7) (fun _ h9 => h9) rfl dX4_readsWord_125 ?_
                  refine lv_bipush (v := nI 19) hx hb dX4_readsWord_128 (by decide) ?_
                  refine lv_aload_n hx hb dX4_readsWord_130 rfl (lv_at hl 3 rfl) ?_
                  refine va_get (D := D) (ci := 4) (v := .int (nI wd)) (C := RX4) (T := TX4) (N := 9) hx hb hts inX4 hown hK hP 0 rfl rfl 7 (by decide) (hts _ fl_RX4_118) (fun _ h9 => h9) rfl dX4_readsWord_131 ?_
                  refine nv_iadd hx hb dX4_readsWord_134 ?_
                  refine lv_iload_n hx hb dX4_readsWord_135 rfl (lv_at hl 4 rfl) ?_
                  refine nv_if_eq (tgt := 144) hx hb dX4_readsWord_136 (by decide) (by omega) (fun q_136 => ?_) (fun q_136 => ?_)
                  · refine lv_aload_n hx hb dX4_readsWord_144 rfl (lv_at hl 3 rfl) ?_
                    refine va_get (D := D) (ci := 4) (v := .ref (a 0)) (C := RX4) (T := TX4) (N := 9) hx hb hts inX4 hown hK hP 0 rfl rfl 0 (by decide) (hts _ fl_RX4_7) (fun _ h9 => h9) rfl dX4_readsWord_145 ?_
                    refine lv_bipush (v := nI 19) hx hb dX4_readsWord_148 (by decide) ?_
                    refine lv_aload_n hx hb dX4_readsWord_150 rfl (lv_at hl 3 rfl) ?_
                    refine va_get (D := D) (ci := 4) (v := .int (nI wd)) (C := RX4) (T := TX4) (N := 9) hx hb hts inX4 hown hK hP 0 rfl rfl 7 (by decide) (hts _ fl_RX4_118) (fun _ h9 => h9) rfl dX4_readsWord_151 ?_
                    refine nv_iadd hx hb dX4_readsWord_154 ?_
                    refine nv_iald (D := D) (v := nI (ρ 0 (19 + wd))) hx hb hK hP 1 0 rfl rfl (k := 19 + wd) (by omega) (by decide) (rw_lo (by omega)) dX4_readsWord_155 ?_
                    refine nv_iast (D := D) (ws' := (wMd h a cI (upd (rwF ρ) (19 + wd) (nI (ρ 0 (19 + wd)))) sv (nF wv) (nF nw) (nF b) ln j wd hh)) hx hb hK hP hD hS 1 0 rfl rfl (k := 19 + wd) (by omega) (by decide) rfl dX4_readsWord_156 (fun H locs hP hD hS => ?_)
                    have eR : (upd (rwF ρ) (19 + wd) (nI (ρ 0 (19 + wd)))) = (rwF ρ) := upd_rw0 (by omega)
                    rw [eR] at hP hD
                    have hP : va_P D vwCl (wMd h a cI (rwF ρ) sv (nF wv) (nF nw) (nF b) ln j wd hh) H := hP
                    have hD : va_D A (wMd h a cI (rwF ρ) sv (nF wv) (nF nw) (nF b) ln j wd hh) := hD
                    refine lv_aload_n hx hb dX4_readsWord_157 rfl (lv_at hl 3 rfl) ?_
                    refine lv_dup hx hb dX4_readsWord_158 rfl ?_
                    refine va_get (D := D) (ci := 4) (v := .int (nI wd)) (C := RX4) (T := TX4) (N := 9) hx hb hts inX4 hown hK hP 0 rfl rfl 7 (by decide) (hts _ fl_RX4_118) (fun _ h9 => h9) rfl dX4_readsWord_159 ?_
                    refine lv_iconst (v := nI 1) hx hb dX4_readsWord_162 (by decide) ?_
                    refine nv_iadd hx hb dX4_readsWord_163 ?_
                    refine va_put (D := D) (ci := 4) (v := .int (nI (wd + 1))) (ty := .int) (C := RX4) (T := TX4) (N := 9) hx hb hts inX4 tyX4 tyX4_ok nmX4 hown hK hP hD hS 0 rfl rfl 7 (by decide) (hts _ fl_RX4_118) (fun _ h9 => h9) rfl (by decide +kernel) rfl rfl (Nat.le_of_ble_eq_true rfl) dX4_readsWord_164 (fun H locs hP hD hS => ?_)
                    have hP : va_P D vwCl (wMd h a cI (rwF ρ) sv (nF wv) (nF nw) (nF b) ln j (wd + 1) hh) H := hP
                    have hD : va_D A (wMd h a cI (rwF ρ) sv (nF wv) (nF nw) (nF b) ln j (wd + 1) hh) := hD
                    refine lv_iconst (v := nI 1) hx hb dX4_readsWord_167 (by decide) ?_
                    have E0 : rdO b ln (nA (ρ 0)) (ρ 0 1) at0 wd = true := rdO_t (by rw [hE9, hS9]; exact q_84) (by rw [hE9, hS9]; exact q_94) (by rw [hV9]; exact of_decide_eq_true hv9) q_114
                    have hA9 : rdA b ln (nA (ρ 0)) (ρ 0 1) at0 wd = j := by unfold rdA; rw [E0]; exact hE9
                    have hM9 : rdM b ln (nA (ρ 0)) (ρ 0 1) at0 wd = wd + 1 := by unfold rdM; rw [E0]; rfl
                    have hR9 : rdR b ln (nA (ρ 0)) (ρ 0 1) at0 wd rl ρ = ρ := by unfold rdR; rw [E0, q_136]; rfl
                    have hP : va_P D vwCl (wMd h a cI (rwF (rdR b ln (nA (ρ 0)) (ρ 0 1) at0 wd rl ρ)) sv (nF wv) (nF nw) (nF b) ln (rdA b ln (nA (ρ 0)) (ρ 0 1) at0 wd) (rdM b ln (nA (ρ 0)) (ρ 0 1) at0 wd) hh) H := by rw [hA9, hM9, hR9]; exact hP
                    have hD : va_D A (wMd h a cI (rwF (rdR b ln (nA (ρ 0)) (ρ 0 1) at0 wd rl ρ)) sv (nF wv) (nF nw) (nF b) ln (rdA b ln (nA (ρ 0)) (ρ 0 1) at0 wd) (rdM b ln (nA (ρ 0)) (ρ 0 1) at0 wd) hh) := by rw [hA9, hM9, hR9]; exact hD
                    exact mu_retz hx hb hr hlocks (by decide) (zB_1 E0) hP hD hS dX4_readsWord_168
                  · refine lv_iload hx hb dX4_readsWord_139 (lv_at hl 0 rfl) ?_
                    refine lv_goto (tgt := 156) hx hb dX4_readsWord_141 (by decide) ?_
                    refine nv_iast (D := D) (ws' := (wMd h a cI (upd (rwF ρ) (19 + wd) (nI (vlN b s0 (j - s0)))) sv (nF wv) (nF nw) (nF b) ln j wd hh)) hx hb hK hP hD hS 1 0 rfl rfl (k := 19 + wd) (by omega) (by decide) rfl dX4_readsWord_156 (fun H locs hP hD hS => ?_)
                    have eR : (upd (rwF ρ) (19 + wd) (nI (vlN b s0 (j - s0)))) = (rwF (rs ρ (19 + wd) (vlN b s0 (j - s0)))) := upd_rw (by omega)
                    rw [eR] at hP hD
                    have hP : va_P D vwCl (wMd h a cI (rwF (rs ρ (19 + wd) (vlN b s0 (j - s0)))) sv (nF wv) (nF nw) (nF b) ln j wd hh) H := hP
                    have hD : va_D A (wMd h a cI (rwF (rs ρ (19 + wd) (vlN b s0 (j - s0)))) sv (nF wv) (nF nw) (nF b) ln j wd hh) := hD
                    refine lv_aload_n hx hb dX4_readsWord_157 rfl (lv_at hl 3 rfl) ?_
                    refine lv_dup hx hb dX4_readsWord_158 rfl ?_
                    refine va_get (D := D) (ci := 4) (v := .int (nI wd)) (C := RX4) (T := TX4) (N := 9) hx hb hts inX4 hown hK hP 0 rfl rfl 7 (by decide) (hts _ fl_RX4_118) (fun _ h9 => h9) rfl dX4_readsWord_159 ?_
                    refine lv_iconst (v := nI 1) hx hb dX4_readsWord_162 (by decide) ?_
                    refine nv_iadd hx hb dX4_readsWord_163 ?_
                    refine va_put (D := D) (ci := 4) (v := .int (nI (wd + 1))) (ty := .int) (C := RX4) (T := TX4) (N := 9) hx hb hts inX4 tyX4 tyX4_ok nmX4 hown hK hP hD hS 0 rfl rfl 7 (by decide) (hts _ fl_RX4_118) (fun _ h9 => h9) rfl (by decide +kernel) rfl rfl (Nat.le_of_ble_eq_true rfl) dX4_readsWord_164 (fun H locs hP hD hS => ?_)
                    have hP : va_P D vwCl (wMd h a cI (rwF (rs ρ (19 + wd) (vlN b s0 (j - s0)))) sv (nF wv) (nF nw) (nF b) ln j (wd + 1) hh) H := hP
                    have hD : va_D A (wMd h a cI (rwF (rs ρ (19 + wd) (vlN b s0 (j - s0)))) sv (nF wv) (nF nw) (nF b) ln j (wd + 1) hh) := hD
                    refine lv_iconst (v := nI 1) hx hb dX4_readsWord_167 (by decide) ?_
                    have E0 : rdO b ln (nA (ρ 0)) (ρ 0 1) at0 wd = true := rdO_t (by rw [hE9, hS9]; exact q_84) (by rw [hE9, hS9]; exact q_94) (by rw [hV9]; exact of_decide_eq_true hv9) q_114
                    have hA9 : rdA b ln (nA (ρ 0)) (ρ 0 1) at0 wd = j := by unfold rdA; rw [E0]; exact hE9
                    have hM9 : rdM b ln (nA (ρ 0)) (ρ 0 1) at0 wd = wd + 1 := by unfold rdM; rw [E0]; rfl
                    have hR9 : rdR b ln (nA (ρ 0)) (ρ 0 1) at0 wd rl ρ = rs ρ (19 + wd) (vlN b s0 (j - s0)) := by unfold rdR; rw [E0, bne_iff_ne.mpr q_136, hV9]; rfl
                    have hP : va_P D vwCl (wMd h a cI (rwF (rdR b ln (nA (ρ 0)) (ρ 0 1) at0 wd rl ρ)) sv (nF wv) (nF nw) (nF b) ln (rdA b ln (nA (ρ 0)) (ρ 0 1) at0 wd) (rdM b ln (nA (ρ 0)) (ρ 0 1) at0 wd) hh) H := by rw [hA9, hM9, hR9]; exact hP
                    have hD : va_D A (wMd h a cI (rwF (rdR b ln (nA (ρ 0)) (ρ 0 1) at0 wd rl ρ)) sv (nF wv) (nF nw) (nF b) ln (rdA b ln (nA (ρ 0)) (ρ 0 1) at0 wd) (rdM b ln (nA (ρ 0)) (ρ 0 1) at0 wd) hh) := by rw [hA9, hM9, hR9]; exact hD
                    exact mu_retz hx hb hr hlocks (by decide) (zB_1 E0) hP hD hS dX4_readsWord_168
                · refine lv_iconst (v := nI 0) hx hb dX4_readsWord_117 (by decide) ?_
                  have E0 : rdO b ln (nA (ρ 0)) (ρ 0 1) at0 wd = false := rdO_4 q_114
                  have hA9 : rdA b ln (nA (ρ 0)) (ρ 0 1) at0 wd = s0 := by unfold rdA; rw [E0]; exact hs0.symm
                  have hM9 : rdM b ln (nA (ρ 0)) (ρ 0 1) at0 wd = wd := by unfold rdM; rw [E0]; rfl
                  have hR9 : rdR b ln (nA (ρ 0)) (ρ 0 1) at0 wd rl ρ = ρ := by unfold rdR; rw [E0]; rfl
                  have hP : va_P D vwCl (wMd h a cI (rwF (rdR b ln (nA (ρ 0)) (ρ 0 1) at0 wd rl ρ)) sv (nF wv) (nF nw) (nF b) ln (rdA b ln (nA (ρ 0)) (ρ 0 1) at0 wd) (rdM b ln (nA (ρ 0)) (ρ 0 1) at0 wd) hh) H := by rw [hA9, hM9, hR9]; exact hP
                  have hD : va_D A (wMd h a cI (rwF (rdR b ln (nA (ρ 0)) (ρ 0 1) at0 wd rl ρ)) sv (nF wv) (nF nw) (nF b) ln (rdA b ln (nA (ρ 0)) (ρ 0 1) at0 wd) (rdM b ln (nA (ρ 0)) (ρ 0 1) at0 wd) hh) := by rw [hA9, hM9, hR9]; exact hD
                  exact mu_retz hx hb hr hlocks (by decide) (zB_0 E0) hP hD hS dX4_readsWord_118
        · have hbj := hb0 j (by omega)
          refine lv_aload_n hx hb dX4_readsWord_25 rfl (lv_at hl 3 rfl) ?_
          refine va_get (D := D) (ci := 4) (v := .ref (a 3)) (C := RX4) (T := TX4) (N := 9) hx hb hts inX4 hown hK hP 0 rfl rfl 4 (by decide) (hts _ fl_RX4_19) (fun _ h9 => h9) rfl dX4_readsWord_26 ?_
          refine lv_iload_n hx hb dX4_readsWord_29 rfl (lv_at hl 1 rfl) ?_
          refine nv_iald (D := D) (v := nI (b j)) hx hb hK hP 4 0 rfl rfl (k := j) (by omega) (by decide) (rfl) dX4_readsWord_30 ?_
          refine lv_bipush (v := nI 48) hx hb dX4_readsWord_31 (by decide) ?_
          refine lv_bipush (v := nI 55) hx hb dX4_readsWord_33 (by decide) ?_
          refine nv_callS [.int (nI (b j)), .int (nI 48), .int (nI 55)] [] hx hb hml hown hts k_RX4_34 (c_X4_in l D cI cR (nI (b j)) 48 55 (by decide) (by decide)) ⟨rfl, rfl, Nat.le_of_ble_eq_true rfl, Nat.le_of_ble_eq_true rfl⟩ (va_P_nil) hK rfl hl rfl (Nat.le_of_ble_eq_true rfl) dX4_readsWord_35 ⟨Nat.zero_le _, Nat.zero_le _⟩ ?_
          refine nv_tope (zB (decide (48 ≤ b j ∧ b j ≤ 55))) (by rw [btw_nI (by omega)]) ?_
          refine lv_if_eq (tgt := 79) hx hb dX4_readsWord_38 (by decide) (fun q_38 => ?_) (fun q_38 => ?_)
          · have hS9 : rdS b ln at0 = s0 := hs0.symm
            have hE9 : rdE b ln at0 = j := by unfold rdE; rw [← hs0, ← hdg]; exact dg_stop (fun z => absurd z.2 (of_decide_eq_false (zB_eq0 q_38)))
            have hV9 : rdV b ln at0 = vlN b s0 (j - s0) := by unfold rdV; rw [hE9, ← hs0]
            refine lv_iload_n hx hb dX4_readsWord_79 rfl (lv_at hl 1 rfl) ?_
            refine lv_aload_n hx hb dX4_readsWord_80 rfl (lv_at hl 3 rfl) ?_
            refine va_get (D := D) (ci := 4) (v := .int (nI s0)) (C := RX4) (T := TX4) (N := 9) hx hb hts inX4 hown hK hP 0 rfl rfl 6 (by decide) (hts _ fl_RX4_112) (fun _ h9 => h9) rfl dX4_readsWord_81 ?_
            refine nv_icmp_eq (tgt := 117) hx hb dX4_readsWord_84 (by decide) (by omega) (by omega) (fun q_84 => ?_) (fun q_84 => ?_)
            · refine lv_iconst (v := nI 0) hx hb dX4_readsWord_117 (by decide) ?_
              have E0 : rdO b ln (nA (ρ 0)) (ρ 0 1) at0 wd = false := rdO_1 (by rw [hE9, hS9] <;> exact q_84)
              have hA9 : rdA b ln (nA (ρ 0)) (ρ 0 1) at0 wd = s0 := by unfold rdA; rw [E0]; exact hs0.symm
              have hM9 : rdM b ln (nA (ρ 0)) (ρ 0 1) at0 wd = wd := by unfold rdM; rw [E0]; rfl
              have hR9 : rdR b ln (nA (ρ 0)) (ρ 0 1) at0 wd rl ρ = ρ := by unfold rdR; rw [E0]; rfl
              have hP : va_P D vwCl (wMd h a cI (rwF (rdR b ln (nA (ρ 0)) (ρ 0 1) at0 wd rl ρ)) sv (nF wv) (nF nw) (nF b) ln (rdA b ln (nA (ρ 0)) (ρ 0 1) at0 wd) (rdM b ln (nA (ρ 0)) (ρ 0 1) at0 wd) hh) H := by rw [hA9, hM9, hR9]; exact hP
              have hD : va_D A (wMd h a cI (rwF (rdR b ln (nA (ρ 0)) (ρ 0 1) at0 wd rl ρ)) sv (nF wv) (nF nw) (nF b) ln (rdA b ln (nA (ρ 0)) (ρ 0 1) at0 wd) (rdM b ln (nA (ρ 0)) (ρ 0 1) at0 wd) hh) := by rw [hA9, hM9, hR9]; exact hD
              exact mu_retz hx hb hr hlocks (by decide) (zB_0 E0) hP hD hS dX4_readsWord_118
            · refine lv_iload_n hx hb dX4_readsWord_87 rfl (lv_at hl 1 rfl) ?_
              refine lv_aload_n hx hb dX4_readsWord_88 rfl (lv_at hl 3 rfl) ?_
              refine va_get (D := D) (ci := 4) (v := .int (nI s0)) (C := RX4) (T := TX4) (N := 9) hx hb hts inX4 hown hK hP 0 rfl rfl 6 (by decide) (hts _ fl_RX4_112) (fun _ h9 => h9) rfl dX4_readsWord_89 ?_
              refine nv_isub hx hb dX4_readsWord_92 (by omega) ?_
              refine lv_iconst (v := nI 4) hx hb dX4_readsWord_93 (by decide) ?_
              refine nv_icmp_gt (tgt := 117) hx hb dX4_readsWord_94 (by decide) (by omega) (by omega) (fun q_94 => ?_) (fun q_94 => ?_)
              · refine lv_iconst (v := nI 0) hx hb dX4_readsWord_117 (by decide) ?_
                have E0 : rdO b ln (nA (ρ 0)) (ρ 0 1) at0 wd = false := rdO_2 (by rw [hE9, hS9]; omega)
                have hA9 : rdA b ln (nA (ρ 0)) (ρ 0 1) at0 wd = s0 := by unfold rdA; rw [E0]; exact hs0.symm
                have hM9 : rdM b ln (nA (ρ 0)) (ρ 0 1) at0 wd = wd := by unfold rdM; rw [E0]; rfl
                have hR9 : rdR b ln (nA (ρ 0)) (ρ 0 1) at0 wd rl ρ = ρ := by unfold rdR; rw [E0]; rfl
                have hP : va_P D vwCl (wMd h a cI (rwF (rdR b ln (nA (ρ 0)) (ρ 0 1) at0 wd rl ρ)) sv (nF wv) (nF nw) (nF b) ln (rdA b ln (nA (ρ 0)) (ρ 0 1) at0 wd) (rdM b ln (nA (ρ 0)) (ρ 0 1) at0 wd) hh) H := by rw [hA9, hM9, hR9]; exact hP
                have hD : va_D A (wMd h a cI (rwF (rdR b ln (nA (ρ 0)) (ρ 0 1) at0 wd rl ρ)) sv (nF wv) (nF nw) (nF b) ln (rdA b ln (nA (ρ 0)) (ρ 0 1) at0 wd) (rdM b ln (nA (ρ 0)) (ρ 0 1) at0 wd) hh) := by rw [hA9, hM9, hR9]; exact hD
                exact mu_retz hx hb hr hlocks (by decide) (zB_0 E0) hP hD hS dX4_readsWord_118
              · have hvs : vlN b s0 (j - s0) < 32768 := vl_small hdd
                refine lv_aload_n hx hb dX4_readsWord_97 rfl (lv_at hl 3 rfl) ?_
                refine lv_iload hx hb dX4_readsWord_98 (lv_at hl 0 rfl) ?_
                refine nv_callV [.int (nI (vlN b s0 (j - s0)))] [] hx hb hml hown hts k_RX4_78 (c_X4_isWord l D cI cR h a ρ sv wv nw b ln s0 wd hh (nI (vlN b s0 (j - s0))) hw) ⟨rfl, rfl, Nat.le_of_ble_eq_true rfl, Nat.le_of_ble_eq_true rfl⟩ hP hK 4 rfl rfl rfl rfl hl rfl (Nat.le_of_ble_eq_true rfl) dX4_readsWord_100 ⟨Nat.zero_le _, Nat.zero_le _⟩ ?_
                refine nv_tope (zB (decide (vlN b s0 (j - s0) < 2 ^ ρ 0 1))) (by rw [inB_k (by omega) (by omega)]) ?_
                refine lv_if_eq (tgt := 117) hx hb dX4_readsWord_103 (by decide) (fun q_103 => ?_) (fun q_103 => ?_)
                · refine lv_iconst (v := nI 0) hx hb dX4_readsWord_117 (by decide) ?_
                  have E0 : rdO b ln (nA (ρ 0)) (ρ 0 1) at0 wd = false := rdO_3 (by rw [hV9]; have h7 := zB_eq0 q_103; exact of_decide_eq_false h7)
                  have hA9 : rdA b ln (nA (ρ 0)) (ρ 0 1) at0 wd = s0 := by unfold rdA; rw [E0]; exact hs0.symm
                  have hM9 : rdM b ln (nA (ρ 0)) (ρ 0 1) at0 wd = wd := by unfold rdM; rw [E0]; rfl
                  have hR9 : rdR b ln (nA (ρ 0)) (ρ 0 1) at0 wd rl ρ = ρ := by unfold rdR; rw [E0]; rfl
                  have hP : va_P D vwCl (wMd h a cI (rwF (rdR b ln (nA (ρ 0)) (ρ 0 1) at0 wd rl ρ)) sv (nF wv) (nF nw) (nF b) ln (rdA b ln (nA (ρ 0)) (ρ 0 1) at0 wd) (rdM b ln (nA (ρ 0)) (ρ 0 1) at0 wd) hh) H := by rw [hA9, hM9, hR9]; exact hP
                  have hD : va_D A (wMd h a cI (rwF (rdR b ln (nA (ρ 0)) (ρ 0 1) at0 wd rl ρ)) sv (nF wv) (nF nw) (nF b) ln (rdA b ln (nA (ρ 0)) (ρ 0 1) at0 wd) (rdM b ln (nA (ρ 0)) (ρ 0 1) at0 wd) hh) := by rw [hA9, hM9, hR9]; exact hD
                  exact mu_retz hx hb hr hlocks (by decide) (zB_0 E0) hP hD hS dX4_readsWord_118
                · have hv9 := zB_ne0 q_103
                  refine lv_aload_n hx hb dX4_readsWord_106 rfl (lv_at hl 3 rfl) ?_
                  refine va_get (D := D) (ci := 4) (v := .int (nI wd)) (C := RX4) (T := TX4) (N := 9) hx hb hts inX4 hown hK hP 0 rfl rfl 7 (by decide) (hts _ fl_RX4_118) (fun _ h9 => h9) rfl dX4_readsWord_107 ?_
                  refine lv_aload_n hx hb dX4_readsWord_110 rfl (lv_at hl 3 rfl) ?_
                  refine nv_callV [] [.int (nI wd)] hx hb hml hown hts k_RX4_42 (c_X4_addresses l D cI cR h a ρ sv wv nw b ln s0 wd hh ) ⟨rfl, rfl, Nat.le_of_ble_eq_true rfl, Nat.le_of_ble_eq_true rfl⟩ hP hK 4 rfl rfl rfl rfl hl rfl (Nat.le_of_ble_eq_true rfl) dX4_readsWord_111 ⟨Nat.zero_le _, Nat.zero_le _⟩ ?_
                  refine nv_icmp_ne (tgt := 119) hx hb dX4_readsWord_114 (by decide) (by omega) (by omega) (fun q_114 => ?_) (fun q_114 => ?_)
                  · refine lv_aload_n hx hb dX4_readsWord_119 rfl (lv_at hl 3 rfl) ?_
                    refine lv_iload_n hx hb dX4_readsWord_120 rfl (lv_at hl 1 rfl) ?_
                    refine va_put (D := D) (ci := 4) (v := .int (nI j)) (ty := .int) (C := RX4) (T := TX4) (N := 9) hx hb hts inX4 tyX4 tyX4_ok nmX4 hown hK hP hD hS 0 rfl rfl 6 (by decide) (hts _ fl_RX4_112) (fun _ h9 => h9) rfl (by decide +kernel) rfl rfl (Nat.le_of_ble_eq_true rfl) dX4_readsWord_121 (fun H locs hP hD hS => ?_)
                    have hP : va_P D vwCl (wMd h a cI (rwF ρ) sv (nF wv) (nF nw) (nF b) ln j wd hh) H := hP
                    have hD : va_D A (wMd h a cI (rwF ρ) sv (nF wv) (nF nw) (nF b) ln j wd hh) := hD
                    refine lv_aload_n hx hb dX4_readsWord_124 rfl (lv_at hl 3 rfl) ?_
                    refine va_get (D := D) (ci := 4) (v := .ref (a 0)) (C := RX4) (T := TX4) (N := 9) hx hb hts inX4 hown hK hP 0 rfl rfl 0 (by decide) (hts _ fl_RX4_7) (fun _ h9 => h9) rfl dX4_readsWord_125 ?_
                    refine lv_bipush (v := nI 19) hx hb dX4_readsWord_128 (by decide) ?_
                    refine lv_aload_n hx hb dX4_readsWord_130 rfl (lv_at hl 3 rfl) ?_
                    refine va_get (D := D) (ci := 4) (v := .int (nI wd)) (C := RX4) (T := TX4) (N := 9) hx hb hts inX4 hown hK hP 0 rfl rfl 7 (by decide) (hts _ fl_RX4_118) (fun _ h9 => h9) rfl dX4_readsWord_131 ?_
                    refine nv_iadd hx hb dX4_readsWord_134 ?_
                    refine lv_iload_n hx hb dX4_readsWord_135 rfl (lv_at hl 4 rfl) ?_
                    refine nv_if_eq (tgt := 144) hx hb dX4_readsWord_136 (by decide) (by omega) (fun q_136 => ?_) (fun q_136 => ?_)
                    · refine lv_aload_n hx hb dX4_readsWord_144 rfl (lv_at hl 3 rfl) ?_
                      refine va_get (D := D) (ci := 4) (v := .ref (a 0)) (C := RX4) (T := TX4) (N := 9) hx hb hts inX4 hown hK hP 0 rfl rfl 0 (by decide) (hts _ fl_RX4_7) (fun _ h9 => h9) rfl dX4_readsWord_145 ?_
                      refine lv_bipush (v := nI 19) hx hb dX4_readsWord_148 (by decide) ?_
                      refine lv_aload_n hx hb dX4_readsWord_150 rfl (lv_at hl 3 rfl) ?_
                      refine va_get (D := D) (ci := 4) (v := .int (nI wd)) (C := RX4) (T := TX4) (N := 9) hx hb hts inX4 hown hK hP 0 rfl rfl 7 (by decide) (hts _ fl_RX4_118) (fun _ h9 => h9) rfl dX4_readsWord_151 ?_
                      refine nv_iadd hx hb dX4_readsWord_154 ?_
                      refine nv_iald (D := D) (v := nI (ρ 0 (19 + wd))) hx hb hK hP 1 0 rfl rfl (k := 19 + wd) (by omega) (by decide) (rw_lo (by omega)) dX4_readsWord_155 ?_
                      refine nv_iast (D := D) (ws' := (wMd h a cI (upd (rwF ρ) (19 + wd) (nI (ρ 0 (19 + wd)))) sv (nF wv) (nF nw) (nF b) ln j wd hh)) hx hb hK hP hD hS 1 0 rfl rfl (k := 19 + wd) (by omega) (by decide) rfl dX4_readsWord_156 (fun H locs hP hD hS => ?_)
                      have eR : (upd (rwF ρ) (19 + wd) (nI (ρ 0 (19 + wd)))) = (rwF ρ) := upd_rw0 (by omega)
                      rw [eR] at hP hD
                      have hP : va_P D vwCl (wMd h a cI (rwF ρ) sv (nF wv) (nF nw) (nF b) ln j wd hh) H := hP
                      have hD : va_D A (wMd h a cI (rwF ρ) sv (nF wv) (nF nw) (nF b) ln j wd hh) := hD
                      refine lv_aload_n hx hb dX4_readsWord_157 rfl (lv_at hl 3 rfl) ?_
                      refine lv_dup hx hb dX4_readsWord_158 rfl ?_
                      refine va_get (D := D) (ci := 4) (v := .int (nI wd)) (C := RX4) (T := TX4) (N := 9) hx hb hts inX4 hown hK hP 0 rfl rfl 7 (by decide) (hts _ fl_RX4_118) (fun _ h9 => h9) rfl dX4_readsWord_159 ?_
                      refine lv_iconst (v := nI 1) hx hb dX4_readsWord_162 (by decide) ?_
                      refine nv_iadd hx hb dX4_readsWord_163 ?_
                      refine va_put (D := D) (ci := 4) (v := .int (nI (wd + 1))) (ty := .int) (C := RX4) (T := TX4) (N := 9) hx hb hts inX4 tyX4 tyX4_ok nmX4 hown hK hP hD hS 0 rfl rfl 7 (by decide) (hts _ fl_RX4_118) (fun _ h9 => h9) rfl (by decide +kernel) rfl rfl (Nat.le_of_ble_eq_true rfl) dX4_readsWord_164 (fun H locs hP hD hS => ?_)
                      have hP : va_P D vwCl (wMd h a cI (rwF ρ) sv (nF wv) (nF nw) (nF b) ln j (wd + 1) hh) H := hP
                      have hD : va_D A (wMd h a cI (rwF ρ) sv (nF wv) (nF nw) (nF b) ln j (wd + 1) hh) := hD
                      refine lv_iconst (v := nI 1) hx hb dX4_readsWord_167 (by decide) ?_
                      have E0 : rdO b ln (nA (ρ 0)) (ρ 0 1) at0 wd = true := rdO_t (by rw [hE9, hS9]; exact q_84) (by rw [hE9, hS9]; exact q_94) (by rw [hV9]; exact of_decide_eq_true hv9) q_114
                      have hA9 : rdA b ln (nA (ρ 0)) (ρ 0 1) at0 wd = j := by unfold rdA; rw [E0]; exact hE9
                      have hM9 : rdM b ln (nA (ρ 0)) (ρ 0 1) at0 wd = wd + 1 := by unfold rdM; rw [E0]; rfl
                      have hR9 : rdR b ln (nA (ρ 0)) (ρ 0 1) at0 wd rl ρ = ρ := by unfold rdR; rw [E0, q_136]; rfl
                      have hP : va_P D vwCl (wMd h a cI (rwF (rdR b ln (nA (ρ 0)) (ρ 0 1) at0 wd rl ρ)) sv (nF wv) (nF nw) (nF b) ln (rdA b ln (nA (ρ 0)) (ρ 0 1) at0 wd) (rdM b ln (nA (ρ 0)) (ρ 0 1) at0 wd) hh) H := by rw [hA9, hM9, hR9]; exact hP
                      have hD : va_D A (wMd h a cI (rwF (rdR b ln (nA (ρ 0)) (ρ 0 1) at0 wd rl ρ)) sv (nF wv) (nF nw) (nF b) ln (rdA b ln (nA (ρ 0)) (ρ 0 1) at0 wd) (rdM b ln (nA (ρ 0)) (ρ 0 1) at0 wd) hh) := by rw [hA9, hM9, hR9]; exact hD
                      exact mu_retz hx hb hr hlocks (by decide) (zB_1 E0) hP hD hS dX4_readsWord_168
                    · refine lv_iload hx hb dX4_readsWord_139 (lv_at hl 0 rfl) ?_
                      refine lv_goto (tgt := 156) hx hb dX4_readsWord_141 (by decide) ?_
                      refine nv_iast (D := D) (ws' := (wMd h a cI (upd (rwF ρ) (19 + wd) (nI (vlN b s0 (j - s0)))) sv (nF wv) (nF nw) (nF b) ln j wd hh)) hx hb hK hP hD hS 1 0 rfl rfl (k := 19 + wd) (by omega) (by decide) rfl dX4_readsWord_156 (fun H locs hP hD hS => ?_)
                      have eR : (upd (rwF ρ) (19 + wd) (nI (vlN b s0 (j - s0)))) = (rwF (rs ρ (19 + wd) (vlN b s0 (j - s0)))) := upd_rw (by omega)
                      rw [eR] at hP hD
                      have hP : va_P D vwCl (wMd h a cI (rwF (rs ρ (19 + wd) (vlN b s0 (j - s0)))) sv (nF wv) (nF nw) (nF b) ln j wd hh) H := hP
                      have hD : va_D A (wMd h a cI (rwF (rs ρ (19 + wd) (vlN b s0 (j - s0)))) sv (nF wv) (nF nw) (nF b) ln j wd hh) := hD
                      refine lv_aload_n hx hb dX4_readsWord_157 rfl (lv_at hl 3 rfl) ?_
                      refine lv_dup hx hb dX4_readsWord_158 rfl ?_
                      refine va_get (D := D) (ci := 4) (v := .int (nI wd)) (C := RX4) (T := TX4) (N := 9) hx hb hts inX4 hown hK hP 0 rfl rfl 7 (by decide) (hts _ fl_RX4_118) (fun _ h9 => h9) rfl dX4_readsWord_159 ?_
                      refine lv_iconst (v := nI 1) hx hb dX4_readsWord_162 (by decide) ?_
                      refine nv_iadd hx hb dX4_readsWord_163 ?_
                      refine va_put (D := D) (ci := 4) (v := .int (nI (wd + 1))) (ty := .int) (C := RX4) (T := TX4) (N := 9) hx hb hts inX4 tyX4 tyX4_ok nmX4 hown hK hP hD hS 0 rfl rfl 7 (by decide) (hts _ fl_RX4_118) (fun _ h9 => h9) rfl (by decide +kernel) rfl rfl (Nat.le_of_ble_eq_true rfl) dX4_readsWord_164 (fun H locs hP hD hS => ?_)
                      have hP : va_P D vwCl (wMd h a cI (rwF (rs ρ (19 + wd) (vlN b s0 (j - s0)))) sv (nF wv) (nF nw) (nF b) ln j (wd + 1) hh) H := hP
                      have hD : va_D A (wMd h a cI (rwF (rs ρ (19 + wd) (vlN b s0 (j - s0)))) sv (nF wv) (nF nw) (nF b) ln j (wd + 1) hh) := hD
                      refine lv_iconst (v := nI 1) hx hb dX4_readsWord_167 (by decide) ?_
                      have E0 : rdO b ln (nA (ρ 0)) (ρ 0 1) at0 wd = true := rdO_t (by rw [hE9, hS9]; exact q_84) (by rw [hE9, hS9]; exact q_94) (by rw [hV9]; exact of_decide_eq_true hv9) q_114
                      have hA9 : rdA b ln (nA (ρ 0)) (ρ 0 1) at0 wd = j := by unfold rdA; rw [E0]; exact hE9
                      have hM9 : rdM b ln (nA (ρ 0)) (ρ 0 1) at0 wd = wd + 1 := by unfold rdM; rw [E0]; rfl
                      have hR9 : rdR b ln (nA (ρ 0)) (ρ 0 1) at0 wd rl ρ = rs ρ (19 + wd) (vlN b s0 (j - s0)) := by unfold rdR; rw [E0, bne_iff_ne.mpr q_136, hV9]; rfl
                      have hP : va_P D vwCl (wMd h a cI (rwF (rdR b ln (nA (ρ 0)) (ρ 0 1) at0 wd rl ρ)) sv (nF wv) (nF nw) (nF b) ln (rdA b ln (nA (ρ 0)) (ρ 0 1) at0 wd) (rdM b ln (nA (ρ 0)) (ρ 0 1) at0 wd) hh) H := by rw [hA9, hM9, hR9]; exact hP
                      have hD : va_D A (wMd h a cI (rwF (rdR b ln (nA (ρ 0)) (ρ 0 1) at0 wd rl ρ)) sv (nF wv) (nF nw) (nF b) ln (rdA b ln (nA (ρ 0)) (ρ 0 1) at0 wd) (rdM b ln (nA (ρ 0)) (ρ 0 1) at0 wd) hh) := by rw [hA9, hM9, hR9]; exact hD
                      exact mu_retz hx hb hr hlocks (by decide) (zB_1 E0) hP hD hS dX4_readsWord_168
                  · refine lv_iconst (v := nI 0) hx hb dX4_readsWord_117 (by decide) ?_
                    have E0 : rdO b ln (nA (ρ 0)) (ρ 0 1) at0 wd = false := rdO_4 q_114
                    have hA9 : rdA b ln (nA (ρ 0)) (ρ 0 1) at0 wd = s0 := by unfold rdA; rw [E0]; exact hs0.symm
                    have hM9 : rdM b ln (nA (ρ 0)) (ρ 0 1) at0 wd = wd := by unfold rdM; rw [E0]; rfl
                    have hR9 : rdR b ln (nA (ρ 0)) (ρ 0 1) at0 wd rl ρ = ρ := by unfold rdR; rw [E0]; rfl
                    have hP : va_P D vwCl (wMd h a cI (rwF (rdR b ln (nA (ρ 0)) (ρ 0 1) at0 wd rl ρ)) sv (nF wv) (nF nw) (nF b) ln (rdA b ln (nA (ρ 0)) (ρ 0 1) at0 wd) (rdM b ln (nA (ρ 0)) (ρ 0 1) at0 wd) hh) H := by rw [hA9, hM9, hR9]; exact hP
                    have hD : va_D A (wMd h a cI (rwF (rdR b ln (nA (ρ 0)) (ρ 0 1) at0 wd rl ρ)) sv (nF wv) (nF nw) (nF b) ln (rdA b ln (nA (ρ 0)) (ρ 0 1) at0 wd) (rdM b ln (nA (ρ 0)) (ρ 0 1) at0 wd) hh) := by rw [hA9, hM9, hR9]; exact hD
                    exact mu_retz hx hb hr hlocks (by decide) (zB_0 E0) hP hD hS dX4_readsWord_118
          · obtain ⟨hd1, hd2⟩ := of_decide_eq_true (zB_ne0 q_38)
            refine lv_iload_n hx hb dX4_readsWord_41 rfl (lv_at hl 1 rfl) ?_
            refine lv_aload_n hx hb dX4_readsWord_42 rfl (lv_at hl 3 rfl) ?_
            refine va_get (D := D) (ci := 4) (v := .int (nI s0)) (C := RX4) (T := TX4) (N := 9) hx hb hts inX4 hown hK hP 0 rfl rfl 6 (by decide) (hts _ fl_RX4_112) (fun _ h9 => h9) rfl dX4_readsWord_43 ?_
            refine nv_isub hx hb dX4_readsWord_46 (by omega) ?_
            refine lv_iconst (v := nI 5) hx hb dX4_readsWord_47 (by decide) ?_
            have J48 : ∀ (H : Heap) (locs : List Loc), va_P D vwCl (wMd h a cI (rwF ρ) sv (nF wv) (nF nw) (nF b) ln s0 wd hh) H → va_D A (wMd h a cI (rwF ρ) sv (nF wv) (nF nw) (nF b) ln s0 wd hh) → va_S A s.heap H locs → ∀ (ls : Array Slot), lv_has ls 5 [(4, .int (nI (vlN b s0 (j - s0)))), (3, .int (nI j)), (2, .int (nI (b s0))), (0, .ref h), (1, .int (nI rl))] → W p l e (rmK 2 43) s m args below meth c H locs 0 0 (MQ below (QcM D (some (.int (zB (rdO b ln (nA (ρ 0)) (ρ 0 1) at0 wd)))) (wMd h a cI (rwF (rdR b ln (nA (ρ 0)) (ρ 0 1) at0 wd rl ρ)) sv (nF wv) (nF nw) (nF b) ln (rdA b ln (nA (ρ 0)) (ρ 0 1) at0 wd) (rdM b ln (nA (ρ 0)) (ρ 0 1) at0 wd) hh) A) args s 0 0 A) (F0 m 71 ls [.int (nI (vlN b s0 (j + 1 - s0)))]) := by
              intro H locs hP hD hS ls hl
              refine lv_istore (lv' := [(4, .int (nI (vlN b s0 (j + 1 - s0)))), (3, .int (nI j)), (2, .int (nI (b s0))), (0, .ref h), (1, .int (nI rl))]) hx hb dX4_readsWord_71 hl (by decide) rfl (fun ls hl => ?_)
              refine nv_inc (k := 1) (lv' := [(3, .int (nI (j + 1))), (4, .int (nI (vlN b s0 (j + 1 - s0)))), (2, .int (nI (b s0))), (0, .ref h), (1, .int (nI rl))]) hx hb dX4_readsWord_73 hl rfl (by decide) rfl (fun ls hl => ?_)
              refine lv_goto (tgt := 13) hx hb dX4_readsWord_76 (by decide) ?_
              exact ih13 (j + 1) (by omega) (by omega) (by omega) ((dg_step q_22 ⟨hd1, hd2⟩).symm.trans hdg) (fun q hq => by rcases Nat.lt_or_ge q (j - s0) with z | z; exact hdd q z; rw [show s0 + q = j by omega]; exact hd2) _ _ hP hD hS ls (lv_sub hl [1, 0, 2, 3, 4] rfl)
            refine nv_icmp_ge (tgt := 69) hx hb dX4_readsWord_48 (by decide) (by omega) (by omega) (fun q_48 => ?_) (fun q_48 => ?_)
            · refine lv_iload hx hb dX4_readsWord_69 (lv_at hl 0 rfl) ?_
              refine nv_top (vlN b s0 (j + 1 - s0)) (by rw [show j + 1 - s0 = (j - s0) + 1 by omega, vlN, if_neg (by omega)]) ?_
              exact J48 _ _ hP hD hS ls (lv_sub hl [0, 1, 2, 3, 4] rfl)
            · refine lv_bipush (v := nI 8) hx hb dX4_readsWord_51 (by decide) ?_
              refine lv_iload hx hb dX4_readsWord_53 (lv_at hl 0 rfl) ?_
              refine nv_imul hx hb dX4_readsWord_55 ?_
              refine lv_aload_n hx hb dX4_readsWord_56 rfl (lv_at hl 3 rfl) ?_
              refine va_get (D := D) (ci := 4) (v := .ref (a 3)) (C := RX4) (T := TX4) (N := 9) hx hb hts inX4 hown hK hP 0 rfl rfl 4 (by decide) (hts _ fl_RX4_19) (fun _ h9 => h9) rfl dX4_readsWord_57 ?_
              refine lv_iload_n hx hb dX4_readsWord_60 rfl (lv_at hl 1 rfl) ?_
              refine nv_iald (D := D) (v := nI (b j)) hx hb hK hP 4 0 rfl rfl (k := j) (by omega) (by decide) (rfl) dX4_readsWord_61 ?_
              refine nv_iadd hx hb dX4_readsWord_62 ?_
              refine lv_bipush (v := nI 48) hx hb dX4_readsWord_63 (by decide) ?_
              refine nv_isub hx hb dX4_readsWord_65 (by omega) ?_
              refine lv_goto (tgt := 71) hx hb dX4_readsWord_66 (by decide) ?_
              refine nv_top (vlN b s0 (j + 1 - s0)) (by rw [show j + 1 - s0 = (j - s0) + 1 by omega, vlN, if_pos (by omega), show s0 + (j - s0) = j by omega]) ?_
              exact J48 _ _ hP hD hS ls (lv_sub hl [0, 1, 2, 3, 4] rfl)
    have hl := lv_repl [(4, .int (nI (vlN b s0 (s0 - s0)))), (3, .int (nI s0)), (2, .int (nI (b s0))), (0, .ref h), (1, .int (nI rl))] 0 rfl (congrArg (fun z : Nat => Value.int (nI z)) (show 0 = (vlN b s0 (s0 - s0)) from by rw [Nat.sub_self]; rfl)) rfl hl
    exact L13 (ln + 1) s0 (by omega) (by omega) (Nat.le_refl _) (rfl) (fun q hq => absurd hq (by omega)) _ _ hP hD hS ls (lv_sub hl [0, 1, 2, 3, 4] rfl)
  · refine nv_tope (-1) (by rw [← hs0]; unfold hrF; rw [if_neg hs]) ?_
    refine lv_istore_n (lv' := [(2, .int (-1)), (0, .ref h), (1, .int (nI rl))]) hx hb dX4_readsWord_4 rfl hl (by decide) rfl (fun ls hl => ?_)
    refine lv_aload_n hx hb dX4_readsWord_5 rfl (lv_at hl 1 rfl) ?_
    refine va_get (D := D) (ci := 4) (v := .int (nI s0)) (C := RX4) (T := TX4) (N := 9) hx hb hts inX4 hown hK hP 0 rfl rfl 6 (by decide) (hts _ fl_RX4_112) (fun _ h9 => h9) rfl dX4_readsWord_6 ?_
    refine lv_istore_n (lv' := [(3, .int (nI s0)), (2, .int (-1)), (0, .ref h), (1, .int (nI rl))]) hx hb dX4_readsWord_9 rfl hl (by decide) rfl (fun ls hl => ?_)
    refine lv_iconst (v := nI 0) hx hb dX4_readsWord_10 (by decide) ?_
    refine lv_istore (lv' := [(4, .int (nI 0)), (3, .int (nI s0)), (2, .int (-1)), (0, .ref h), (1, .int (nI rl))]) hx hb dX4_readsWord_11 hl (by decide) rfl (fun ls hl => ?_)
    refine lv_iload_n hx hb dX4_readsWord_13 rfl (lv_at hl 2 rfl) ?_
    refine lv_if_lt (tgt := 79) hx hb dX4_readsWord_14 (by decide) (fun q_14 => ?_) (fun q_14 => False.elim (q_14 (by decide)))
    have hS9 : rdS b ln at0 = s0 := hs0.symm
    have hE9 : rdE b ln at0 = s0 := by unfold rdE; rw [← hs0]; exact dg_stop (fun z => by omega)
    have hV9 : rdV b ln at0 = 0 := by unfold rdV; rw [hE9, ← hs0, Nat.sub_self]; rfl
    refine lv_iload_n hx hb dX4_readsWord_79 rfl (lv_at hl 1 rfl) ?_
    refine lv_aload_n hx hb dX4_readsWord_80 rfl (lv_at hl 3 rfl) ?_
    refine va_get (D := D) (ci := 4) (v := .int (nI s0)) (C := RX4) (T := TX4) (N := 9) hx hb hts inX4 hown hK hP 0 rfl rfl 6 (by decide) (hts _ fl_RX4_112) (fun _ h9 => h9) rfl dX4_readsWord_81 ?_
    refine nv_icmp_eq (tgt := 117) hx hb dX4_readsWord_84 (by decide) (by omega) (by omega) (fun q_84 => ?_) (fun q_84 => False.elim (q_84 rfl))
    refine lv_iconst (v := nI 0) hx hb dX4_readsWord_117 (by decide) ?_
    have E0 : rdO b ln (nA (ρ 0)) (ρ 0 1) at0 wd = false := rdO_1 (by rw [hE9, hS9] <;> exact q_84)
    have hA9 : rdA b ln (nA (ρ 0)) (ρ 0 1) at0 wd = s0 := by unfold rdA; rw [E0]; exact hs0.symm
    have hM9 : rdM b ln (nA (ρ 0)) (ρ 0 1) at0 wd = wd := by unfold rdM; rw [E0]; rfl
    have hR9 : rdR b ln (nA (ρ 0)) (ρ 0 1) at0 wd rl ρ = ρ := by unfold rdR; rw [E0]; rfl
    have hP : va_P D vwCl (wMd h a cI (rwF (rdR b ln (nA (ρ 0)) (ρ 0 1) at0 wd rl ρ)) sv (nF wv) (nF nw) (nF b) ln (rdA b ln (nA (ρ 0)) (ρ 0 1) at0 wd) (rdM b ln (nA (ρ 0)) (ρ 0 1) at0 wd) hh) H := by rw [hA9, hM9, hR9]; exact hP
    have hD : va_D A (wMd h a cI (rwF (rdR b ln (nA (ρ 0)) (ρ 0 1) at0 wd rl ρ)) sv (nF wv) (nF nw) (nF b) ln (rdA b ln (nA (ρ 0)) (ρ 0 1) at0 wd) (rdM b ln (nA (ρ 0)) (ρ 0 1) at0 wd) hh) := by rw [hA9, hM9, hR9]; exact hD
    exact mu_retz hx hb hr hlocks (by decide) (zB_0 E0) hP hD hS dX4_readsWord_118
