set_option maxHeartbeats 4000000 in
set_option maxRecDepth 100000 in
theorem c_X4_economize (l : Launch) (D : va_G) (cI cR : ClassId) (h : Nat) (a : Nat → Nat) (ρ : Nat → Nat → Nat) (sv : Nat) (wv : Nat → Nat) (nw : Nat → Nat) (b : Nat → Nat) (ln : Nat) (at0 : Nat) (wd : Nat) (hh : Int64)   (hw : wf (ρ 0)) (hs : sv ≤ 5) (sz : Nat) : Met l yX4_economize (wsC yX4_economize cX4_economize 6 (some .int)) (rmK 3 70) (nPreM D (nTy cI cR) [.ref h] (wMd h a cI (rwF ρ) sv (nF wv) (nF nw) (nF b) ln at0 wd hh) sz) (QcM D (some (.int (nI (mcC (ρ 0) (nW (ρ 0)))))) (wMd h a cI (rwF (recR ρ sv (ecS (ρ 0)))) (kpN sv) (nF wv) (nF nw) (nF b) ln at0 wd hh) (va_A (wMd h a cI (rwF ρ) sv (nF wv) (nF nw) (nF b) ln at0 wd hh) sz)) 0 0 (va_A (wMd h a cI (rwF ρ) sv (nF wv) (nF nw) (nF b) ln at0 wd hh) sz) := by
  refine met_mut (Qc := fun A => QcM D (some (.int (nI (mcC (ρ 0) (nW (ρ 0)))))) (wMd h a cI (rwF (recR ρ sv (ecS (ρ 0)))) (kpN sv) (nF wv) (nF nw) (nF b) ln at0 wd hh) A) rfl (Nat.le_of_ble_eq_true rfl) ?_
  intro p e s m args below meth c ls A H locs hx hb hml hr hlocks hown hts hP hK hD hA hS hl
  have hl : lv_has ls 6 [(0, .ref h)] := hl
  have hA41 := hw.w41
  have hA33 := hw.a33
  have hA48 := hw.a48
  obtain ⟨hR2, hR, hB1, hB, hSa, hSb, -⟩ := id hw
  have h1024 := p2_10 hB
  have h8 : 8 ≤ nW (ρ 0) := by unfold nW; omega
  refine lv_aload_n hx hb dX4_economize_0 rfl (lv_at hl 0 rfl) ?_
  refine mu_call (ws' := (wMd h a cI (rwF (svR ρ sv)) (kpN sv) (nF wv) (nF nw) (nF b) ln at0 wd hh)) [0, 1, 2, 3, 4] [] [0, 1, 2, 3, 4] [] [] hx hb hml hown hts k_RX4_62 (fun sz => c_X4_saves l D cI cR h a ρ sv wv nw b ln at0 wd hh hs sz) ⟨rfl, rfl, Nat.le_of_ble_eq_true rfl, Nat.le_of_ble_eq_true rfl⟩ hP hD hS hA hK 4 rfl rfl rfl rfl rfl rfl rfl (by decide) rfl rfl rfl hl rfl (Nat.le_of_ble_eq_true rfl) dX4_economize_1 ⟨Nat.zero_le _, Nat.zero_le _⟩ (fun H locs hP hD hS => ?_)
  refine W.eq (g2 := F0 m 4 ls []) rfl ?_
  have eR : (rwF (svR ρ sv)) = (rwF (recR ρ sv (ρ 0))) := by rw [sv_rec]
  rw [eR] at hP hD
  have hP : va_P D vwCl (wMd h a cI (rwF (recR ρ sv (ρ 0))) (kpN sv) (nF wv) (nF nw) (nF b) ln at0 wd hh) H := hP
  have hD : va_D A (wMd h a cI (rwF (recR ρ sv (ρ 0))) (kpN sv) (nF wv) (nF nw) (nF b) ln at0 wd hh) := hD
  refine lv_iconst (v := nI 0) hx hb dX4_economize_4 (by decide) ?_
  refine lv_istore_n (lv' := [(1, .int (nI 0)), (0, .ref h)]) hx hb dX4_economize_5 rfl hl (by decide) rfl (fun ls hl => ?_)
  refine lv_bipush (v := nI 8) hx hb dX4_economize_6 (by decide) ?_
  refine lv_istore_n (lv' := [(2, .int (nI 8)), (1, .int (nI 0)), (0, .ref h)]) hx hb dX4_economize_8 rfl hl (by decide) rfl (fun ls hl => ?_)
  have L9 : ∀ (n9 i : Nat), nW (ρ 0) + 1 ≤ i + n9 → i ≤ nW (ρ 0) → (8 ≤ i) → ∀ (H : Heap) (locs : List Loc), va_P D vwCl (wMd h a cI (rwF (recR ρ sv (ecG (ρ 0) i))) (kpN sv) (nF wv) (nF nw) (nF b) ln at0 wd hh) H → va_D A (wMd h a cI (rwF (recR ρ sv (ecG (ρ 0) i))) (kpN sv) (nF wv) (nF nw) (nF b) ln at0 wd hh) → va_S A s.heap H locs → ∀ (ls : Array Slot), lv_has ls 6 [(2, .int (nI i)), (1, .int (nI (mcC (ρ 0) i))), (0, .ref h)] → W p l e (rmK 3 70) s m args below meth c H locs 0 0 (MQ below (QcM D (some (.int (nI (mcC (ρ 0) (nW (ρ 0)))))) (wMd h a cI (rwF (recR ρ sv (ecS (ρ 0)))) (kpN sv) (nF wv) (nF nw) (nF b) ln at0 wd hh) A) args s 0 0 A) (F0 m 9 ls []) := by
    intro n9
    induction n9 with
    | zero =>
      intro i h1_9 h2_9
      exact False.elim (by omega)
    | succ n9 ih9 =>
      intro i h1_9 h2_9 hi8 H locs hP hD hS ls hl
      refine lv_iload_n hx hb dX4_economize_9 rfl (lv_at hl 0 rfl) ?_
      refine lv_aload_n hx hb dX4_economize_10 rfl (lv_at hl 2 rfl) ?_
      refine nv_callV [] [.int (nI i)] hx hb hml hown hts k_RX4_38 (c_X4_wires l D cI cR h a ((recR ρ sv (ecG (ρ 0) i))) (kpN sv) wv nw b ln at0 wd hh ) ⟨rfl, rfl, Nat.le_of_ble_eq_true rfl, Nat.le_of_ble_eq_true rfl⟩ hP hK 4 rfl rfl rfl rfl hl rfl (Nat.le_of_ble_eq_true rfl) dX4_economize_11 ⟨Nat.zero_le _, Nat.zero_le _⟩ ?_
      refine nv_top (nW (ρ 0)) (by rw [rec_0]; unfold nW; rw [ecG_lo _ _ (by omega), ecG_lo _ _ (by omega)]) ?_
      refine nv_icmp_ge (tgt := 96) hx hb dX4_economize_14 (by decide) (by omega) (by omega) (fun q_14 => ?_) (fun q_14 => ?_)
      · have ei : i = nW (ρ 0) := by omega
        have eR : (rwF (recR ρ sv (ecG (ρ 0) i))) = (rwF (recR ρ sv (ecS (ρ 0)))) := by rw [ei, ecG_e]
        rw [eR] at hP hD
        have hP : va_P D vwCl (wMd h a cI (rwF (recR ρ sv (ecS (ρ 0)))) (kpN sv) (nF wv) (nF nw) (nF b) ln at0 wd hh) H := hP
        have hD : va_D A (wMd h a cI (rwF (recR ρ sv (ecS (ρ 0)))) (kpN sv) (nF wv) (nF nw) (nF b) ln at0 wd hh) := hD
        refine lv_iload_n hx hb dX4_economize_96 rfl (lv_at hl 1 rfl) ?_
        exact mu_reti hx hb hr hlocks (by rw [ei]) hP hD hS dX4_economize_97
      · refine lv_aload_n hx hb dX4_economize_17 rfl (lv_at hl 2 rfl) ?_
        refine lv_iload_n hx hb dX4_economize_18 rfl (lv_at hl 0 rfl) ?_
        refine nv_callV [.int (nI i)] [] hx hb hml hown hts k_RX4_56 (c_X4_told l D cI cR h a ((recR ρ sv (ecG (ρ 0) i))) (kpN sv) wv nw b ln at0 wd hh i (by rw [rec_0]; exact wf_ecG hw (by omega)) hi8 (by rw [rec_0]; unfold nW; rw [ecG_lo _ _ (by omega), ecG_lo _ _ (by omega)]; exact q_14)) ⟨rfl, rfl, Nat.le_of_ble_eq_true rfl, Nat.le_of_ble_eq_true rfl⟩ hP hK 4 rfl rfl rfl rfl hl rfl (Nat.le_of_ble_eq_true rfl) dX4_economize_19 ⟨Nat.zero_le _, Nat.zero_le _⟩ ?_
        refine nv_top (onM (ρ 0) i) (by rw [rec_0, td_on hi8 (by unfold nW; rw [ecG_lo _ _ (by omega), ecG_lo _ _ (by omega)]; exact q_14)]; exact on_eq67 hw (fun k hk => ecG_lo _ _ hk) i) ?_
        refine nv_callS [.int (nI (onM (ρ 0) i))] [] hx hb hml hown hts k_RX4_45 (c_X4_ones l D cI cR (onM (ρ 0) i) (onM_lt hw _)) ⟨rfl, rfl, Nat.le_of_ble_eq_true rfl, Nat.le_of_ble_eq_true rfl⟩ (va_P_nil) hK rfl hl rfl (Nat.le_of_ble_eq_true rfl) dX4_economize_22 ⟨Nat.zero_le _, Nat.zero_le _⟩ ?_
        refine lv_istore_n (lv' := [(3, .int (nI (pop (onM (ρ 0) i)))), (2, .int (nI i)), (1, .int (nI (mcC (ρ 0) i))), (0, .ref h)]) hx hb dX4_economize_25 rfl hl (by decide) rfl (fun ls hl => ?_)
        have hpo := pop_on hw i
        refine lv_aload_n hx hb dX4_economize_26 rfl (lv_at hl 3 rfl) ?_
        refine va_get (D := D) (ci := 4) (v := .ref (a 0)) (C := RX4) (T := TX4) (N := 9) hx hb hts inX4 hown hK hP 0 rfl rfl 0 (by decide) (hts _ fl_RX4_7) (fun _ h9 => h9) rfl dX4_economize_27 ?_
        refine lv_iconst (v := nI 0) hx hb dX4_economize_30 (by decide) ?_
        refine nv_iald (D := D) (v := nI ((recR ρ sv (ecG (ρ 0) i)) 0 0)) hx hb hK hP 1 0 rfl rfl (k := 0) (by omega) (by decide) (rw_lo (by omega)) dX4_economize_31 ?_
        refine nv_top (ρ 0 0) (by rw [rec_0, ecG_lo _ _ (by omega)]) ?_
        refine lv_iload_n hx hb dX4_economize_32 rfl (lv_at hl 0 rfl) ?_
        refine nv_isub hx hb dX4_economize_33 (by omega) ?_
        refine lv_iconst (v := nI 1) hx hb dX4_economize_34 (by decide) ?_
        refine nv_iadd hx hb dX4_economize_35 ?_
        refine lv_istore (lv' := [(4, .int (nI (((ρ 0 0) - (pop (onM (ρ 0) i))) + 1))), (3, .int (nI (pop (onM (ρ 0) i)))), (2, .int (nI i)), (1, .int (nI (mcC (ρ 0) i))), (0, .ref h)]) hx hb dX4_economize_36 hl (by decide) rfl (fun ls hl => ?_)
        refine lv_iload hx hb dX4_economize_38 (lv_at hl 0 rfl) ?_
        refine lv_iload_n hx hb dX4_economize_40 rfl (lv_at hl 1 rfl) ?_
        have J41 : ∀ (H : Heap) (locs : List Loc), va_P D vwCl (wMd h a cI (rwF (recR ρ sv (ecG (ρ 0) i))) (kpN sv) (nF wv) (nF nw) (nF b) ln at0 wd hh) H → va_D A (wMd h a cI (rwF (recR ρ sv (ecG (ρ 0) i))) (kpN sv) (nF wv) (nF nw) (nF b) ln at0 wd hh) → va_S A s.heap H locs → ∀ (ls : Array Slot), lv_has ls 6 [(4, .int (nI (((ρ 0 0) - (pop (onM (ρ 0) i))) + 1))), (3, .int (nI (pop (onM (ρ 0) i)))), (2, .int (nI i)), (1, .int (nI (mcC (ρ 0) i))), (0, .ref h)] → W p l e (rmK 3 70) s m args below meth c H locs 0 0 (MQ below (QcM D (some (.int (nI (mcC (ρ 0) (nW (ρ 0)))))) (wMd h a cI (rwF (recR ρ sv (ecS (ρ 0)))) (kpN sv) (nF wv) (nF nw) (nF b) ln at0 wd hh) A) args s 0 0 A) (F0 m 49 ls [.int (nI (bst (ρ 0) i))]) := by
          intro H locs hP hD hS ls hl
          refine lv_istore (lv' := [(5, .int (nI (bst (ρ 0) i))), (4, .int (nI (((ρ 0 0) - (pop (onM (ρ 0) i))) + 1))), (3, .int (nI (pop (onM (ρ 0) i)))), (2, .int (nI i)), (1, .int (nI (mcC (ρ 0) i))), (0, .ref h)]) hx hb dX4_economize_49 hl (by decide) rfl (fun ls hl => ?_)
          refine lv_iload_n hx hb dX4_economize_51 rfl (lv_at hl 4 rfl) ?_
          refine lv_aload_n hx hb dX4_economize_52 rfl (lv_at hl 5 rfl) ?_
          refine va_get (D := D) (ci := 4) (v := .ref (a 0)) (C := RX4) (T := TX4) (N := 9) hx hb hts inX4 hown hK hP 0 rfl rfl 0 (by decide) (hts _ fl_RX4_7) (fun _ h9 => h9) rfl dX4_economize_53 ?_
          refine lv_bipush (v := nI 67) hx hb dX4_economize_56 (by decide) ?_
          refine lv_iload_n hx hb dX4_economize_58 rfl (lv_at hl 3 rfl) ?_
          refine nv_iadd hx hb dX4_economize_59 ?_
          refine lv_bipush (v := nI 8) hx hb dX4_economize_60 (by decide) ?_
          refine nv_isub hx hb dX4_economize_62 (by omega) ?_
          refine nv_iald (D := D) (v := nI ((recR ρ sv (ecG (ρ 0) i)) 0 ((67 + i) - 8))) hx hb hK hP 1 0 rfl rfl (k := (67 + i) - 8) (by omega) (by decide) (rw_lo (by omega)) dX4_economize_63 ?_
          refine nv_top (crN (ρ 0) i) (by rw [rec_0]; exact ecG_at _ hi8) ?_
          have hcr := crN_le hw (show i < nW (ρ 0) by omega)
          have hbs := bst_le (ρ 0) i
          refine lv_iload hx hb dX4_economize_64 (lv_at hl 0 rfl) ?_
          have J66 : ∀ (H : Heap) (locs : List Loc), va_P D vwCl (wMd h a cI (rwF (recR ρ sv (ecG (ρ 0) i))) (kpN sv) (nF wv) (nF nw) (nF b) ln at0 wd hh) H → va_D A (wMd h a cI (rwF (recR ρ sv (ecG (ρ 0) i))) (kpN sv) (nF wv) (nF nw) (nF b) ln at0 wd hh) → va_S A s.heap H locs → ∀ (ls : Array Slot), lv_has ls 6 [(5, .int (nI (bst (ρ 0) i))), (4, .int (nI (((ρ 0 0) - (pop (onM (ρ 0) i))) + 1))), (3, .int (nI (pop (onM (ρ 0) i)))), (2, .int (nI i)), (1, .int (nI (mcC (ρ 0) i))), (0, .ref h)] → W p l e (rmK 3 70) s m args below meth c H locs 0 0 (MQ below (QcM D (some (.int (nI (mcC (ρ 0) (nW (ρ 0)))))) (wMd h a cI (rwF (recR ρ sv (ecS (ρ 0)))) (kpN sv) (nF wv) (nF nw) (nF b) ln at0 wd hh) A) args s 0 0 A) (F0 m 74 ls [.int (nI ((crN (ρ 0) i != bst (ρ 0) i).toNat)), .int (nI (mcC (ρ 0) i))]) := by
            intro H locs hP hD hS ls hl
            refine nv_iadd hx hb dX4_economize_74 ?_
            refine nv_top (mcC (ρ 0) (i + 1)) ((mcC_s hi8).symm) ?_
            refine lv_istore_n (lv' := [(1, .int (nI (mcC (ρ 0) (i + 1)))), (5, .int (nI (bst (ρ 0) i))), (4, .int (nI (((ρ 0 0) - (pop (onM (ρ 0) i))) + 1))), (3, .int (nI (pop (onM (ρ 0) i)))), (2, .int (nI i)), (0, .ref h)]) hx hb dX4_economize_75 rfl hl (by decide) rfl (fun ls hl => ?_)
            refine lv_aload_n hx hb dX4_economize_76 rfl (lv_at hl 5 rfl) ?_
            refine va_get (D := D) (ci := 4) (v := .ref (a 0)) (C := RX4) (T := TX4) (N := 9) hx hb hts inX4 hown hK hP 0 rfl rfl 0 (by decide) (hts _ fl_RX4_7) (fun _ h9 => h9) rfl dX4_economize_77 ?_
            refine lv_bipush (v := nI 67) hx hb dX4_economize_80 (by decide) ?_
            refine lv_iload_n hx hb dX4_economize_82 rfl (lv_at hl 4 rfl) ?_
            refine nv_iadd hx hb dX4_economize_83 ?_
            refine lv_bipush (v := nI 8) hx hb dX4_economize_84 (by decide) ?_
            refine nv_isub hx hb dX4_economize_86 (by omega) ?_
            refine lv_iload hx hb dX4_economize_87 (lv_at hl 1 rfl) ?_
            refine nv_iast (D := D) (ws' := (wMd h a cI (upd (rwF (recR ρ sv (ecG (ρ 0) i))) ((67 + i) - 8) (nI (bst (ρ 0) i))) (kpN sv) (nF wv) (nF nw) (nF b) ln at0 wd hh)) hx hb hK hP hD hS 1 0 rfl rfl (k := (67 + i) - 8) (by omega) (by decide) rfl dX4_economize_89 (fun H locs hP hD hS => ?_)
            have eR : (upd (rwF (recR ρ sv (ecG (ρ 0) i))) ((67 + i) - 8) (nI (bst (ρ 0) i))) = (rwF (recR ρ sv (ecG (ρ 0) (i + 1)))) := by rw [upd_rec (by omega), ecG_s _ hi8]
            rw [eR] at hP hD
            have hP : va_P D vwCl (wMd h a cI (rwF (recR ρ sv (ecG (ρ 0) (i + 1)))) (kpN sv) (nF wv) (nF nw) (nF b) ln at0 wd hh) H := hP
            have hD : va_D A (wMd h a cI (rwF (recR ρ sv (ecG (ρ 0) (i + 1)))) (kpN sv) (nF wv) (nF nw) (nF b) ln at0 wd hh) := hD
            refine nv_inc (k := 4) (lv' := [(2, .int (nI (i + 1))), (1, .int (nI (mcC (ρ 0) (i + 1)))), (5, .int (nI (bst (ρ 0) i))), (4, .int (nI (((ρ 0 0) - (pop (onM (ρ 0) i))) + 1))), (3, .int (nI (pop (onM (ρ 0) i)))), (0, .ref h)]) hx hb dX4_economize_90 hl rfl (by decide) rfl (fun ls hl => ?_)
            refine lv_goto (tgt := 9) hx hb dX4_economize_93 (by decide) ?_
            exact ih9 (i + 1) (by omega) (by omega) (by omega) _ _ hP hD hS ls (lv_sub hl [0, 1, 5] rfl)
          refine nv_icmp_ne (tgt := 73) hx hb dX4_economize_66 (by decide) (by omega) (by omega) (fun q_66 => ?_) (fun q_66 => ?_)
          · refine lv_iconst (v := nI 1) hx hb dX4_economize_73 (by decide) ?_
            refine nv_top ((crN (ρ 0) i != bst (ρ 0) i).toNat) (by rw [bne_iff_ne.mpr q_66]; rfl) ?_
            exact J66 _ _ hP hD hS ls (lv_sub hl [0, 1, 2, 3, 4, 5] rfl)
          · refine lv_iconst (v := nI 0) hx hb dX4_economize_69 (by decide) ?_
            refine lv_goto (tgt := 74) hx hb dX4_economize_70 (by decide) ?_
            refine nv_top ((crN (ρ 0) i != bst (ρ 0) i).toNat) (by rw [q_66]; simp) ?_
            exact J66 _ _ hP hD hS ls (lv_sub hl [0, 1, 2, 3, 4, 5] rfl)
        refine nv_icmp_ge (tgt := 48) hx hb dX4_economize_41 (by decide) (by omega) (by omega) (fun q_41 => ?_) (fun q_41 => ?_)
        · refine lv_iconst (v := nI 0) hx hb dX4_economize_48 (by decide) ?_
          refine nv_top (bst (ρ 0) i) (by unfold bst; rw [if_neg (Nat.not_lt.mpr q_41)]) ?_
          exact J41 _ _ hP hD hS ls (lv_sub hl [0, 1, 2, 3, 4] rfl)
        · refine lv_iconst (v := nI 1) hx hb dX4_economize_44 (by decide) ?_
          refine lv_goto (tgt := 49) hx hb dX4_economize_45 (by decide) ?_
          refine nv_top (bst (ρ 0) i) (by unfold bst; rw [if_pos q_41]) ?_
          exact J41 _ _ hP hD hS ls (lv_sub hl [0, 1, 2, 3, 4] rfl)
  have eR : (rwF (recR ρ sv (ρ 0))) = (rwF (recR ρ sv (ecG (ρ 0) 8))) := by rw [ecG_8]
  rw [eR] at hP hD
  have hP : va_P D vwCl (wMd h a cI (rwF (recR ρ sv (ecG (ρ 0) 8))) (kpN sv) (nF wv) (nF nw) (nF b) ln at0 wd hh) H := hP
  have hD : va_D A (wMd h a cI (rwF (recR ρ sv (ecG (ρ 0) 8))) (kpN sv) (nF wv) (nF nw) (nF b) ln at0 wd hh) := hD
  have hl := lv_repl [(2, .int (nI 8)), (1, .int (nI (mcC (ρ 0) 8))), (0, .ref h)] 1 rfl (congrArg (fun z : Nat => Value.int (nI z)) (show 0 = (mcC (ρ 0) 8) from mcC_8 _)) rfl hl
  exact L9 (nW (ρ 0) + 1) 8 (by omega) (by omega) (Nat.le_refl 8) _ _ hP hD hS ls (lv_sub hl [0, 1, 2] rfl)
set_option maxHeartbeats 4000000 in
set_option maxRecDepth 100000 in
theorem c_X4_patchAll (l : Launch) (D : va_G) (cI cR : ClassId) (h : Nat) (a : Nat → Nat) (ρ : Nat → Nat → Nat) (sv : Nat) (wv : Nat → Nat) (nw : Nat → Nat) (b : Nat → Nat) (ln : Nat) (at0 : Nat) (wd : Nat) (hh : Int64)   (hw : wf (ρ 0)) (hs : sv ≤ 5) (h4 : pcN (ρ 0) ≤ 4) (sz : Nat) : Met l yX4_patchAll (wsC yX4_patchAll cX4_patchAll 3 (some .int)) (rmK 6 139) (nPreM D (nTy cI cR) [.ref h] (wMd h a cI (rwF ρ) sv (nF wv) (nF nw) (nF b) ln at0 wd hh) sz) (QcM D (some (.int (aPatchAll (ρ 0)))) (wMd h a cI (rwF (recR ρ sv (paS (ρ 0)))) (kpN sv) (nF (wvG (paS (ρ 0)) (wvG (ρ 0) wv (nW (ρ 0))) (nW (paS (ρ 0))))) (nF nw) (nF b) ln at0 wd hh) (va_A (wMd h a cI (rwF ρ) sv (nF wv) (nF nw) (nF b) ln at0 wd hh) sz)) 0 0 (va_A (wMd h a cI (rwF ρ) sv (nF wv) (nF nw) (nF b) ln at0 wd hh) sz) := by
  refine met_mut (Qc := fun A => QcM D (some (.int (aPatchAll (ρ 0)))) (wMd h a cI (rwF (recR ρ sv (paS (ρ 0)))) (kpN sv) (nF (wvG (paS (ρ 0)) (wvG (ρ 0) wv (nW (ρ 0))) (nW (paS (ρ 0))))) (nF nw) (nF b) ln at0 wd hh) A) rfl (Nat.le_of_ble_eq_true rfl) ?_
  intro p e s m args below meth c ls A H locs hx hb hml hr hlocks hown hts hP hK hD hA hS hl
  have hl : lv_has ls 3 [(0, .ref h)] := hl
  have hA41 := hw.w41
  have hA33 := hw.a33
  have hA48 := hw.a48
  obtain ⟨hR2, hR, hB1, hB, hSa, hSb, -⟩ := id hw
  have h1024 := p2_10 hB
  refine lv_aload_n hx hb dX4_patchAll_0 rfl (lv_at hl 0 rfl) ?_
  refine mu_call (ws' := (wMd h a cI (rwF (svR ρ sv)) (kpN sv) (nF wv) (nF nw) (nF b) ln at0 wd hh)) [0, 1, 2, 3, 4] [] [0, 1, 2, 3, 4] [] [] hx hb hml hown hts k_RX4_62 (fun sz => c_X4_saves l D cI cR h a ρ sv wv nw b ln at0 wd hh hs sz) ⟨rfl, rfl, Nat.le_of_ble_eq_true rfl, Nat.le_of_ble_eq_true rfl⟩ hP hD hS hA hK 4 rfl rfl rfl rfl rfl rfl rfl (by decide) rfl rfl rfl hl rfl (Nat.le_of_ble_eq_true rfl) dX4_patchAll_1 ⟨Nat.zero_le _, Nat.zero_le _⟩ (fun H locs hP hD hS => ?_)
  refine W.eq (g2 := F0 m 4 ls []) rfl ?_
  have eR : (rwF (svR ρ sv)) = (rwF (recR ρ sv (ρ 0))) := by rw [sv_rec]
  rw [eR] at hP hD
  have hP : va_P D vwCl (wMd h a cI (rwF (recR ρ sv (ρ 0))) (kpN sv) (nF wv) (nF nw) (nF b) ln at0 wd hh) H := hP
  have hD : va_D A (wMd h a cI (rwF (recR ρ sv (ρ 0))) (kpN sv) (nF wv) (nF nw) (nF b) ln at0 wd hh) := hD
  refine lv_aload_n hx hb dX4_patchAll_4 rfl (lv_at hl 0 rfl) ?_
  refine mu_call (ws' := (wMd h a cI (rwF ((recR ρ sv (ρ 0)))) (kpN sv) (nF (wvG (((recR ρ sv (ρ 0))) 0) wv (nW (((recR ρ sv (ρ 0))) 0)))) (nF nw) (nF b) ln at0 wd hh)) [0, 1, 2, 3, 4] [] [0, 1, 2, 3, 4] [] [] hx hb hml hown hts k_RX4_84 (fun sz => c_X4_weaves l D cI cR h a ((recR ρ sv (ρ 0))) (kpN sv) wv nw b ln at0 wd hh (by rw [rec_0]; exact hw) sz) ⟨rfl, rfl, Nat.le_of_ble_eq_true rfl, Nat.le_of_ble_eq_true rfl⟩ hP hD hS hA hK 4 rfl rfl rfl rfl rfl rfl rfl (by decide) rfl rfl rfl hl rfl (Nat.le_of_ble_eq_true rfl) dX4_patchAll_5 ⟨Nat.zero_le _, Nat.zero_le _⟩ (fun H locs hP hD hS => ?_)
  refine W.eq (g2 := F0 m 8 ls []) rfl ?_
  have eR : (nF (wvG (((recR ρ sv (ρ 0))) 0) wv (nW (((recR ρ sv (ρ 0))) 0)))) = (nF (wvG (ρ 0) wv (nW (ρ 0)))) := by rw [rec_0]
  rw [eR] at hP hD
  have hP : va_P D vwCl (wMd h a cI (rwF ((recR ρ sv (ρ 0)))) (kpN sv) (nF (wvG (ρ 0) wv (nW (ρ 0)))) (nF nw) (nF b) ln at0 wd hh) H := hP
  have hD : va_D A (wMd h a cI (rwF ((recR ρ sv (ρ 0)))) (kpN sv) (nF (wvG (ρ 0) wv (nW (ρ 0)))) (nF nw) (nF b) ln at0 wd hh) := hD
  refine lv_iconst (v := nI 0) hx hb dX4_patchAll_8 (by decide) ?_
  refine lv_istore_n (lv' := [(1, .int (nI 0)), (0, .ref h)]) hx hb dX4_patchAll_9 rfl hl (by decide) rfl (fun ls hl => ?_)
  have L10 : ∀ (n10 i : Nat), nA (ρ 0) + 1 ≤ i + n10 → i ≤ nA (ρ 0) → ∀ (H : Heap) (locs : List Loc), va_P D vwCl (wMd h a cI (rwF (recR ρ sv (mdS (ρ 0) i))) (kpN sv) (nF (wvG (ρ 0) wv (nW (ρ 0)))) (nF nw) (nF b) ln at0 wd hh) H → va_D A (wMd h a cI (rwF (recR ρ sv (mdS (ρ 0) i))) (kpN sv) (nF (wvG (ρ 0) wv (nW (ρ 0)))) (nF nw) (nF b) ln at0 wd hh) → va_S A s.heap H locs → ∀ (ls : Array Slot), lv_has ls 3 [(1, .int (nI i)), (0, .ref h)] → W p l e (rmK 6 139) s m args below meth c H locs 0 0 (MQ below (QcM D (some (.int (aPatchAll (ρ 0)))) (wMd h a cI (rwF (recR ρ sv (paS (ρ 0)))) (kpN sv) (nF (wvG (paS (ρ 0)) (wvG (ρ 0) wv (nW (ρ 0))) (nW (paS (ρ 0))))) (nF nw) (nF b) ln at0 wd hh) A) args s 0 0 A) (F0 m 10 ls []) := by
    intro n10
    induction n10 with
    | zero =>
      intro i h1_10 h2_10
      exact False.elim (by omega)
    | succ n10 ih10 =>
      intro i h1_10 h2_10  H locs hP hD hS ls hl
      refine lv_iload_n hx hb dX4_patchAll_10 rfl (lv_at hl 0 rfl) ?_
      refine lv_aload_n hx hb dX4_patchAll_11 rfl (lv_at hl 1 rfl) ?_
      refine nv_callV [] [.int (nI i)] hx hb hml hown hts k_RX4_42 (c_X4_addresses l D cI cR h a ((recR ρ sv (mdS (ρ 0) i))) (kpN sv) ((wvG (ρ 0) wv (nW (ρ 0)))) nw b ln at0 wd hh ) ⟨rfl, rfl, Nat.le_of_ble_eq_true rfl, Nat.le_of_ble_eq_true rfl⟩ hP hK 4 rfl rfl rfl rfl hl rfl (Nat.le_of_ble_eq_true rfl) dX4_patchAll_12 ⟨Nat.zero_le _, Nat.zero_le _⟩ ?_
      refine nv_top (nA (ρ 0)) (by rw [rec_0]; exact nA_lo (fun k hk => md_lo _ _ hk)) ?_
      refine nv_icmp_ge (tgt := 61) hx hb dX4_patchAll_15 (by decide) (by omega) (by omega) (fun q_15 => ?_) (fun q_15 => ?_)
      · have ei : i = nA (ρ 0) := by omega
        have eR : (rwF (recR ρ sv (mdS (ρ 0) i))) = (rwF (recR ρ sv (mdS (ρ 0) (nA (ρ 0))))) := by rw [ei]
        rw [eR] at hP hD
        have hP : va_P D vwCl (wMd h a cI (rwF (recR ρ sv (mdS (ρ 0) (nA (ρ 0))))) (kpN sv) (nF (wvG (ρ 0) wv (nW (ρ 0)))) (nF nw) (nF b) ln at0 wd hh) H := hP
        have hD : va_D A (wMd h a cI (rwF (recR ρ sv (mdS (ρ 0) (nA (ρ 0))))) (kpN sv) (nF (wvG (ρ 0) wv (nW (ρ 0)))) (nF nw) (nF b) ln at0 wd hh) := hD
        refine lv_aload_n hx hb dX4_patchAll_61 rfl (lv_at hl 1 rfl) ?_
        refine nv_callV [] [] hx hb hml hown hts k_RX4_68 (c_X4_patches l D cI cR h a ((recR ρ sv (mdS (ρ 0) (nA (ρ 0))))) (kpN sv) ((wvG (ρ 0) wv (nW (ρ 0)))) nw b ln at0 wd hh (by rw [rec_0]; exact wf_md hw _)) ⟨rfl, rfl, Nat.le_of_ble_eq_true rfl, Nat.le_of_ble_eq_true rfl⟩ hP hK 4 rfl rfl rfl rfl hl rfl (Nat.le_of_ble_eq_true rfl) dX4_patchAll_62 ⟨Nat.zero_le _, Nat.zero_le _⟩ ?_
        refine nv_top ((adP (mdS (ρ 0) (nA (ρ 0))) 0).2) (by rw [rec_0]; rfl) ?_
        refine lv_istore_n (lv' := [(1, .int (nI ((adP (mdS (ρ 0) (nA (ρ 0))) 0).2))), (0, .ref h)]) hx hb dX4_patchAll_65 rfl hl (by decide) rfl (fun ls hl => ?_)
        refine lv_iconst (v := nI 0) hx hb dX4_patchAll_66 (by decide) ?_
        refine lv_istore_n (lv' := [(2, .int (nI 0)), (1, .int (nI ((adP (mdS (ρ 0) (nA (ρ 0))) 0).2))), (0, .ref h)]) hx hb dX4_patchAll_67 rfl hl (by decide) rfl (fun ls hl => ?_)
        have L68 : ∀ (n68 i : Nat), nA (ρ 0) + 1 ≤ i + n68 → i ≤ nA (ρ 0) → ∀ (H : Heap) (locs : List Loc), va_P D vwCl (wMd h a cI (rwF (recR ρ sv (adP (mdS (ρ 0) (nA (ρ 0))) i).1)) (kpN sv) (nF (wvG (ρ 0) wv (nW (ρ 0)))) (nF nw) (nF b) ln at0 wd hh) H → va_D A (wMd h a cI (rwF (recR ρ sv (adP (mdS (ρ 0) (nA (ρ 0))) i).1)) (kpN sv) (nF (wvG (ρ 0) wv (nW (ρ 0)))) (nF nw) (nF b) ln at0 wd hh) → va_S A s.heap H locs → ∀ (ls : Array Slot), lv_has ls 3 [(2, .int (nI i)), (1, .int (nI ((adP (mdS (ρ 0) (nA (ρ 0))) i).2))), (0, .ref h)] → W p l e (rmK 6 139) s m args below meth c H locs 0 0 (MQ below (QcM D (some (.int (aPatchAll (ρ 0)))) (wMd h a cI (rwF (recR ρ sv (paS (ρ 0)))) (kpN sv) (nF (wvG (paS (ρ 0)) (wvG (ρ 0) wv (nW (ρ 0))) (nW (paS (ρ 0))))) (nF nw) (nF b) ln at0 wd hh) A) args s 0 0 A) (F0 m 68 ls []) := by
          intro n68
          induction n68 with
          | zero =>
            intro i h1_68 h2_68
            exact False.elim (by omega)
          | succ n68 ih68 =>
            intro i h1_68 h2_68  H locs hP hD hS ls hl
            have hle := ad_le (σ := (mdS (ρ 0) (nA (ρ 0)))) (by show pcN (mdS (ρ 0) (nA (ρ 0))) ≤ 4; rw [pcN_md]; exact h4) i
            have hwA : wf (adP (mdS (ρ 0) (nA (ρ 0))) i).1 := wf_ad (wf_md hw _) i
            have hAi : nA (adP (mdS (ρ 0) (nA (ρ 0))) i).1 = nA (ρ 0) := nA_lo (fun k hk => (ad_lo (mdS (ρ 0) (nA (ρ 0))) hk i).trans (md_lo _ _ hk))
            have hWi : nW (adP (mdS (ρ 0) (nA (ρ 0))) i).1 = nW (ρ 0) := nW_lo (fun k hk => (ad_lo (mdS (ρ 0) (nA (ρ 0))) hk i).trans (md_lo _ _ hk))
            refine lv_iload_n hx hb dX4_patchAll_68 rfl (lv_at hl 0 rfl) ?_
            refine lv_aload_n hx hb dX4_patchAll_69 rfl (lv_at hl 2 rfl) ?_
            refine nv_callV [] [.int (nI i)] hx hb hml hown hts k_RX4_42 (c_X4_addresses l D cI cR h a ((recR ρ sv (adP (mdS (ρ 0) (nA (ρ 0))) i).1)) (kpN sv) ((wvG (ρ 0) wv (nW (ρ 0)))) nw b ln at0 wd hh ) ⟨rfl, rfl, Nat.le_of_ble_eq_true rfl, Nat.le_of_ble_eq_true rfl⟩ hP hK 4 rfl rfl rfl rfl hl rfl (Nat.le_of_ble_eq_true rfl) dX4_patchAll_70 ⟨Nat.zero_le _, Nat.zero_le _⟩ ?_
            refine nv_top (nA (ρ 0)) (by rw [rec_0]; exact hAi) ?_
            refine nv_icmp_ge (tgt := 126) hx hb dX4_patchAll_73 (by decide) (by omega) (by omega) (fun q_73 => ?_) (fun q_73 => ?_)
            · have eR : (rwF (recR ρ sv (adP (mdS (ρ 0) (nA (ρ 0))) i).1)) = (rwF (recR ρ sv (paS (ρ 0)))) := by unfold paS; rw [nA_lo (fun k hk => md_lo (ρ 0) _ hk)]; rw [show i = nA (ρ 0) by omega]
              rw [eR] at hP hD
              have hP : va_P D vwCl (wMd h a cI (rwF (recR ρ sv (paS (ρ 0)))) (kpN sv) (nF (wvG (ρ 0) wv (nW (ρ 0)))) (nF nw) (nF b) ln at0 wd hh) H := hP
              have hD : va_D A (wMd h a cI (rwF (recR ρ sv (paS (ρ 0)))) (kpN sv) (nF (wvG (ρ 0) wv (nW (ρ 0)))) (nF nw) (nF b) ln at0 wd hh) := hD
              refine lv_aload_n hx hb dX4_patchAll_126 rfl (lv_at hl 2 rfl) ?_
              refine lv_iconst (v := nI 0) hx hb dX4_patchAll_127 (by decide) ?_
              refine mu_call (ws' := (wMd h a cI (rwF ((recR ρ sv (paS (ρ 0))))) (kpN sv) (nF (wvG (((recR ρ sv (paS (ρ 0)))) 0) ((wvG (ρ 0) wv (nW (ρ 0)))) (nW (((recR ρ sv (paS (ρ 0)))) 0)))) (nF nw) (nF b) ln at0 wd hh)) [0, 1, 2, 3, 4] [] [0, 1, 2, 3, 4] [.int (nI 0)] [] hx hb hml hown hts k_RX4_102 (fun sz => c_X4_wrongs l D cI cR h a ((recR ρ sv (paS (ρ 0)))) (kpN sv) ((wvG (ρ 0) wv (nW (ρ 0)))) nw b ln at0 wd hh 0 (by rw [rec_0]; exact wf_ad (wf_md hw _) _) (by decide) sz) ⟨rfl, rfl, Nat.le_of_ble_eq_true rfl, Nat.le_of_ble_eq_true rfl⟩ hP hD hS hA hK 4 rfl rfl rfl rfl rfl rfl rfl (by decide) rfl rfl rfl hl rfl (Nat.le_of_ble_eq_true rfl) dX4_patchAll_128 ⟨Nat.zero_le _, Nat.zero_le _⟩ (fun H locs hP hD hS => ?_)
              refine W.eq (g2 := F0 m 131 ls [.int (nI (ct (iwB (((recR ρ sv (paS (ρ 0)))) 0) 0) (nA (((recR ρ sv (paS (ρ 0)))) 0))))]) rfl ?_
              refine nv_top (ct (iwB (paS (ρ 0)) 0) (nA (paS (ρ 0)))) (by rw [rec_0]) ?_
              have eR : (nF (wvG (((recR ρ sv (paS (ρ 0)))) 0) ((wvG (ρ 0) wv (nW (ρ 0)))) (nW (((recR ρ sv (paS (ρ 0)))) 0)))) = (nF (wvG (paS (ρ 0)) (wvG (ρ 0) wv (nW (ρ 0))) (nW (paS (ρ 0))))) := by rw [rec_0]
              rw [eR] at hP hD
              have hP : va_P D vwCl (wMd h a cI (rwF ((recR ρ sv (paS (ρ 0))))) (kpN sv) (nF (wvG (paS (ρ 0)) (wvG (ρ 0) wv (nW (ρ 0))) (nW (paS (ρ 0))))) (nF nw) (nF b) ln at0 wd hh) H := hP
              have hD : va_D A (wMd h a cI (rwF ((recR ρ sv (paS (ρ 0))))) (kpN sv) (nF (wvG (paS (ρ 0)) (wvG (ρ 0) wv (nW (ρ 0))) (nW (paS (ρ 0))))) (nF nw) (nF b) ln at0 wd hh) := hD
              exact mu_reti hx hb hr hlocks (rfl) hP hD hS dX4_patchAll_131
            · refine lv_iload_n hx hb dX4_patchAll_76 rfl (lv_at hl 1 rfl) ?_
              refine lv_iconst (v := nI 4) hx hb dX4_patchAll_77 (by decide) ?_
              refine nv_icmp_ge (tgt := 126) hx hb dX4_patchAll_78 (by decide) (by omega) (by omega) (fun q_78 => ?_) (fun q_78 => ?_)
              · have eR : (rwF (recR ρ sv (adP (mdS (ρ 0) (nA (ρ 0))) i).1)) = (rwF (recR ρ sv (paS (ρ 0)))) := by unfold paS; rw [nA_lo (fun k hk => md_lo (ρ 0) _ hk)]; rw [show nA (ρ 0) = i + (nA (ρ 0) - i) by omega]; first | rw [ad_stop (by rw [show i + (nA (ρ 0) - i) = nA (ρ 0) by omega]; exact q_78)] | rw [ad_stop q_78]
                rw [eR] at hP hD
                have hP : va_P D vwCl (wMd h a cI (rwF (recR ρ sv (paS (ρ 0)))) (kpN sv) (nF (wvG (ρ 0) wv (nW (ρ 0)))) (nF nw) (nF b) ln at0 wd hh) H := hP
                have hD : va_D A (wMd h a cI (rwF (recR ρ sv (paS (ρ 0)))) (kpN sv) (nF (wvG (ρ 0) wv (nW (ρ 0)))) (nF nw) (nF b) ln at0 wd hh) := hD
                refine lv_aload_n hx hb dX4_patchAll_126 rfl (lv_at hl 2 rfl) ?_
                refine lv_iconst (v := nI 0) hx hb dX4_patchAll_127 (by decide) ?_
                refine mu_call (ws' := (wMd h a cI (rwF ((recR ρ sv (paS (ρ 0))))) (kpN sv) (nF (wvG (((recR ρ sv (paS (ρ 0)))) 0) ((wvG (ρ 0) wv (nW (ρ 0)))) (nW (((recR ρ sv (paS (ρ 0)))) 0)))) (nF nw) (nF b) ln at0 wd hh)) [0, 1, 2, 3, 4] [] [0, 1, 2, 3, 4] [.int (nI 0)] [] hx hb hml hown hts k_RX4_102 (fun sz => c_X4_wrongs l D cI cR h a ((recR ρ sv (paS (ρ 0)))) (kpN sv) ((wvG (ρ 0) wv (nW (ρ 0)))) nw b ln at0 wd hh 0 (by rw [rec_0]; exact wf_ad (wf_md hw _) _) (by decide) sz) ⟨rfl, rfl, Nat.le_of_ble_eq_true rfl, Nat.le_of_ble_eq_true rfl⟩ hP hD hS hA hK 4 rfl rfl rfl rfl rfl rfl rfl (by decide) rfl rfl rfl hl rfl (Nat.le_of_ble_eq_true rfl) dX4_patchAll_128 ⟨Nat.zero_le _, Nat.zero_le _⟩ (fun H locs hP hD hS => ?_)
                refine W.eq (g2 := F0 m 131 ls [.int (nI (ct (iwB (((recR ρ sv (paS (ρ 0)))) 0) 0) (nA (((recR ρ sv (paS (ρ 0)))) 0))))]) rfl ?_
                refine nv_top (ct (iwB (paS (ρ 0)) 0) (nA (paS (ρ 0)))) (by rw [rec_0]) ?_
                have eR : (nF (wvG (((recR ρ sv (paS (ρ 0)))) 0) ((wvG (ρ 0) wv (nW (ρ 0)))) (nW (((recR ρ sv (paS (ρ 0)))) 0)))) = (nF (wvG (paS (ρ 0)) (wvG (ρ 0) wv (nW (ρ 0))) (nW (paS (ρ 0))))) := by rw [rec_0]
                rw [eR] at hP hD
                have hP : va_P D vwCl (wMd h a cI (rwF ((recR ρ sv (paS (ρ 0))))) (kpN sv) (nF (wvG (paS (ρ 0)) (wvG (ρ 0) wv (nW (ρ 0))) (nW (paS (ρ 0))))) (nF nw) (nF b) ln at0 wd hh) H := hP
                have hD : va_D A (wMd h a cI (rwF ((recR ρ sv (paS (ρ 0))))) (kpN sv) (nF (wvG (paS (ρ 0)) (wvG (ρ 0) wv (nW (ρ 0))) (nW (paS (ρ 0))))) (nF nw) (nF b) ln at0 wd hh) := hD
                exact mu_reti hx hb hr hlocks (rfl) hP hD hS dX4_patchAll_131
              · refine lv_aload_n hx hb dX4_patchAll_81 rfl (lv_at hl 2 rfl) ?_
                refine lv_iload_n hx hb dX4_patchAll_82 rfl (lv_at hl 0 rfl) ?_
                refine nv_callV [.int (nI i)] [] hx hb hml hown hts k_RX4_96 (c_X4_reads l D cI cR h a ((recR ρ sv (adP (mdS (ρ 0) (nA (ρ 0))) i).1)) (kpN sv) ((wvG (ρ 0) wv (nW (ρ 0)))) nw b ln at0 wd hh i (by rw [rec_0]; exact hwA) (by rw [rec_0, hAi]; exact q_73) (fun w hw9 => by rw [rec_0, hWi] at hw9; rw [wvG_in hw9, rec_0]; exact (wv_lo hw (fun k hk => (ad_lo (mdS (ρ 0) (nA (ρ 0))) hk i).trans (md_lo _ _ hk)) hw9).symm)) ⟨rfl, rfl, Nat.le_of_ble_eq_true rfl, Nat.le_of_ble_eq_true rfl⟩ hP hK 4 rfl rfl rfl rfl hl rfl (Nat.le_of_ble_eq_true rfl) dX4_patchAll_83 ⟨Nat.zero_le _, Nat.zero_le _⟩ ?_
                refine nv_top (rdN (adP (mdS (ρ 0) (nA (ρ 0))) i).1 i) (by rw [rec_0]) ?_
                refine lv_aload_n hx hb dX4_patchAll_86 rfl (lv_at hl 2 rfl) ?_
                refine va_get (D := D) (ci := 4) (v := .ref (a 0)) (C := RX4) (T := TX4) (N := 9) hx hb hts inX4 hown hK hP 0 rfl rfl 0 (by decide) (hts _ fl_RX4_7) (fun _ h9 => h9) rfl dX4_patchAll_87 ?_
                refine lv_bipush (v := nI 19) hx hb dX4_patchAll_90 (by decide) ?_
                refine lv_iload_n hx hb dX4_patchAll_92 rfl (lv_at hl 0 rfl) ?_
                refine nv_iadd hx hb dX4_patchAll_93 ?_
                refine nv_iald (D := D) (v := nI ((recR ρ sv (adP (mdS (ρ 0) (nA (ρ 0))) i).1) 0 (19 + i))) hx hb hK hP 1 0 rfl rfl (k := 19 + i) (by omega) (by decide) (rw_lo (by omega)) dX4_patchAll_94 ?_
                refine nv_top ((adP (mdS (ρ 0) (nA (ρ 0))) i).1 (19 + i)) (by rw [rec_0]) ?_
                have hrl := rdN_lt hwA (a := i) (by omega)
                have hwl := hwA.wd (a := i) (by omega)
                refine nv_icmp_eq (tgt := 120) hx hb dX4_patchAll_95 (by decide) (by omega) (by omega) (fun q_95 => ?_) (fun q_95 => ?_)
                · have hms : msB (adP (mdS (ρ 0) (nA (ρ 0))) i).1 i = false := by unfold msB; rw [q_95]; simp
                  have eR : (rwF (recR ρ sv (adP (mdS (ρ 0) (nA (ρ 0))) i).1)) = (rwF (recR ρ sv (adP (mdS (ρ 0) (nA (ρ 0))) (i + 1)).1)) := by rw [ad_skip hms]
                  rw [eR] at hP hD
                  have hP : va_P D vwCl (wMd h a cI (rwF (recR ρ sv (adP (mdS (ρ 0) (nA (ρ 0))) (i + 1)).1)) (kpN sv) (nF (wvG (ρ 0) wv (nW (ρ 0)))) (nF nw) (nF b) ln at0 wd hh) H := hP
                  have hD : va_D A (wMd h a cI (rwF (recR ρ sv (adP (mdS (ρ 0) (nA (ρ 0))) (i + 1)).1)) (kpN sv) (nF (wvG (ρ 0) wv (nW (ρ 0)))) (nF nw) (nF b) ln at0 wd hh) := hD
                  have hl := lv_repl [(2, .int (nI i)), (1, .int (nI ((adP (mdS (ρ 0) (nA (ρ 0))) (i + 1)).2))), (0, .ref h)] 1 rfl (congrArg (fun z : Nat => Value.int (nI z)) (show ((adP (mdS (ρ 0) (nA (ρ 0))) i).2) = ((adP (mdS (ρ 0) (nA (ρ 0))) (i + 1)).2) from by rw [ad_skip hms])) rfl hl
                  refine nv_inc (k := 0) (lv' := [(2, .int (nI (i + 1))), (1, .int (nI ((adP (mdS (ρ 0) (nA (ρ 0))) (i + 1)).2))), (0, .ref h)]) hx hb dX4_patchAll_120 hl rfl (by decide) rfl (fun ls hl => ?_)
                  refine lv_goto (tgt := 68) hx hb dX4_patchAll_123 (by decide) ?_
                  exact ih68 (i + 1) (by omega) (by omega)  _ _ hP hD hS ls (lv_sub hl [0, 1, 2] rfl)
                · have hms : msB (adP (mdS (ρ 0) (nA (ρ 0))) i).1 i = true := by unfold msB; exact bne_iff_ne.mpr q_95
                  refine lv_aload_n hx hb dX4_patchAll_98 rfl (lv_at hl 2 rfl) ?_
                  refine va_get (D := D) (ci := 4) (v := .ref (a 0)) (C := RX4) (T := TX4) (N := 9) hx hb hts inX4 hown hK hP 0 rfl rfl 0 (by decide) (hts _ fl_RX4_7) (fun _ h9 => h9) rfl dX4_patchAll_99 ?_
                  refine lv_sipush (v := nI 141) hx hb dX4_patchAll_102 (by decide) ?_
                  refine lv_iload_n hx hb dX4_patchAll_105 rfl (lv_at hl 0 rfl) ?_
                  refine nv_iadd hx hb dX4_patchAll_106 ?_
                  refine lv_aload_n hx hb dX4_patchAll_107 rfl (lv_at hl 2 rfl) ?_
                  refine va_get (D := D) (ci := 4) (v := .ref (a 0)) (C := RX4) (T := TX4) (N := 9) hx hb hts inX4 hown hK hP 0 rfl rfl 0 (by decide) (hts _ fl_RX4_7) (fun _ h9 => h9) rfl dX4_patchAll_108 ?_
                  refine lv_bipush (v := nI 19) hx hb dX4_patchAll_111 (by decide) ?_
                  refine lv_iload_n hx hb dX4_patchAll_113 rfl (lv_at hl 0 rfl) ?_
                  refine nv_iadd hx hb dX4_patchAll_114 ?_
                  refine nv_iald (D := D) (v := nI ((recR ρ sv (adP (mdS (ρ 0) (nA (ρ 0))) i).1) 0 (19 + i))) hx hb hK hP 1 0 rfl rfl (k := 19 + i) (by omega) (by decide) (rw_lo (by omega)) dX4_patchAll_115 ?_
                  refine nv_top ((mdS (ρ 0) (nA (ρ 0))) (19 + i)) (by rw [rec_0]; exact ad_lo _ (by omega) i) ?_
                  refine nv_iast (D := D) (ws' := (wMd h a cI (upd (rwF (recR ρ sv (adP (mdS (ρ 0) (nA (ρ 0))) i).1)) (141 + i) (nI ((mdS (ρ 0) (nA (ρ 0))) (19 + i)))) (kpN sv) (nF (wvG (ρ 0) wv (nW (ρ 0)))) (nF nw) (nF b) ln at0 wd hh)) hx hb hK hP hD hS 1 0 rfl rfl (k := 141 + i) (by omega) (by decide) rfl dX4_patchAll_116 (fun H locs hP hD hS => ?_)
                  refine nv_inc (k := 1) (lv' := [(1, .int (nI (((adP (mdS (ρ 0) (nA (ρ 0))) i).2) + 1))), (2, .int (nI i)), (0, .ref h)]) hx hb dX4_patchAll_117 hl rfl (by decide) rfl (fun ls hl => ?_)
                  have eR : (upd (rwF (recR ρ sv (adP (mdS (ρ 0) (nA (ρ 0))) i).1)) (141 + i) (nI ((mdS (ρ 0) (nA (ρ 0))) (19 + i)))) = (rwF (recR ρ sv (adP (mdS (ρ 0) (nA (ρ 0))) (i + 1)).1)) := by rw [upd_recp (by omega), ad_put (by omega) hms]
                  rw [eR] at hP hD
                  have hP : va_P D vwCl (wMd h a cI (rwF (recR ρ sv (adP (mdS (ρ 0) (nA (ρ 0))) (i + 1)).1)) (kpN sv) (nF (wvG (ρ 0) wv (nW (ρ 0)))) (nF nw) (nF b) ln at0 wd hh) H := hP
                  have hD : va_D A (wMd h a cI (rwF (recR ρ sv (adP (mdS (ρ 0) (nA (ρ 0))) (i + 1)).1)) (kpN sv) (nF (wvG (ρ 0) wv (nW (ρ 0)))) (nF nw) (nF b) ln at0 wd hh) := hD
                  have hl := lv_repl [(1, .int (nI ((adP (mdS (ρ 0) (nA (ρ 0))) (i + 1)).2))), (2, .int (nI i)), (0, .ref h)] 0 rfl (congrArg (fun z : Nat => Value.int (nI z)) (show (((adP (mdS (ρ 0) (nA (ρ 0))) i).2) + 1) = ((adP (mdS (ρ 0) (nA (ρ 0))) (i + 1)).2) from by rw [ad_put (by omega) hms])) rfl hl
                  refine nv_inc (k := 1) (lv' := [(2, .int (nI (i + 1))), (1, .int (nI ((adP (mdS (ρ 0) (nA (ρ 0))) (i + 1)).2))), (0, .ref h)]) hx hb dX4_patchAll_120 hl rfl (by decide) rfl (fun ls hl => ?_)
                  refine lv_goto (tgt := 68) hx hb dX4_patchAll_123 (by decide) ?_
                  exact ih68 (i + 1) (by omega) (by omega)  _ _ hP hD hS ls (lv_sub hl [0, 1, 2] rfl)
        have eR : (rwF (recR ρ sv (mdS (ρ 0) (nA (ρ 0))))) = (rwF (recR ρ sv (adP (mdS (ρ 0) (nA (ρ 0))) 0).1)) := rfl
        rw [eR] at hP hD
        have hP : va_P D vwCl (wMd h a cI (rwF (recR ρ sv (adP (mdS (ρ 0) (nA (ρ 0))) 0).1)) (kpN sv) (nF (wvG (ρ 0) wv (nW (ρ 0)))) (nF nw) (nF b) ln at0 wd hh) H := hP
        have hD : va_D A (wMd h a cI (rwF (recR ρ sv (adP (mdS (ρ 0) (nA (ρ 0))) 0).1)) (kpN sv) (nF (wvG (ρ 0) wv (nW (ρ 0)))) (nF nw) (nF b) ln at0 wd hh) := hD
        exact L68 (nA (ρ 0) + 1) 0 (by omega) (by omega)  _ _ hP hD hS ls (lv_sub hl [0, 1, 2] rfl)
      · refine lv_aload_n hx hb dX4_patchAll_18 rfl (lv_at hl 1 rfl) ?_
        refine va_get (D := D) (ci := 4) (v := .ref (a 0)) (C := RX4) (T := TX4) (N := 9) hx hb hts inX4 hown hK hP 0 rfl rfl 0 (by decide) (hts _ fl_RX4_7) (fun _ h9 => h9) rfl dX4_patchAll_19 ?_
        refine lv_sipush (v := nI 141) hx hb dX4_patchAll_22 (by decide) ?_
        refine lv_iload_n hx hb dX4_patchAll_25 rfl (lv_at hl 0 rfl) ?_
        refine nv_iadd hx hb dX4_patchAll_26 ?_
        refine lv_aload_n hx hb dX4_patchAll_27 rfl (lv_at hl 1 rfl) ?_
        refine va_get (D := D) (ci := 4) (v := .ref (a 0)) (C := RX4) (T := TX4) (N := 9) hx hb hts inX4 hown hK hP 0 rfl rfl 0 (by decide) (hts _ fl_RX4_7) (fun _ h9 => h9) rfl dX4_patchAll_28 ?_
        refine lv_sipush (v := nI 141) hx hb dX4_patchAll_31 (by decide) ?_
        refine lv_iload_n hx hb dX4_patchAll_34 rfl (lv_at hl 0 rfl) ?_
        refine nv_iadd hx hb dX4_patchAll_35 ?_
        refine nv_iald (D := D) (v := ptF ((recR ρ sv (mdS (ρ 0) i)) 0) i) hx hb hK hP 1 0 rfl rfl (k := 141 + i) (by omega) (by decide) (rw_pt (by omega)) dX4_patchAll_36 ?_
        refine lv_iconst (v := -1) hx hb dX4_patchAll_37 (by decide) ?_
        refine lv_icmp_ne (tgt := 45) hx hb dX4_patchAll_38 (by decide) (fun q_38 => ?_) (fun q_38 => ?_)
        · refine lv_aload_n hx hb dX4_patchAll_45 rfl (lv_at hl 1 rfl) ?_
          refine va_get (D := D) (ci := 4) (v := .ref (a 0)) (C := RX4) (T := TX4) (N := 9) hx hb hts inX4 hown hK hP 0 rfl rfl 0 (by decide) (hts _ fl_RX4_7) (fun _ h9 => h9) rfl dX4_patchAll_46 ?_
          refine lv_bipush (v := nI 19) hx hb dX4_patchAll_49 (by decide) ?_
          refine lv_iload_n hx hb dX4_patchAll_51 rfl (lv_at hl 0 rfl) ?_
          refine nv_iadd hx hb dX4_patchAll_52 ?_
          refine nv_iald (D := D) (v := nI ((recR ρ sv (mdS (ρ 0) i)) 0 (19 + i))) hx hb hK hP 1 0 rfl rfl (k := 19 + i) (by omega) (by decide) (rw_lo (by omega)) dX4_patchAll_53 ?_
          refine nv_top (ρ 0 (19 + i)) (by rw [rec_0]; exact md_lo _ _ (by omega)) ?_
          refine nv_iast (D := D) (ws' := (wMd h a cI (upd (rwF (recR ρ sv (mdS (ρ 0) i))) (141 + i) (nI (ρ 0 (19 + i)))) (kpN sv) (nF (wvG (ρ 0) wv (nW (ρ 0)))) (nF nw) (nF b) ln at0 wd hh)) hx hb hK hP hD hS 1 0 rfl rfl (k := 141 + i) (by omega) (by decide) rfl dX4_patchAll_54 (fun H locs hP hD hS => ?_)
          have eR : (upd (rwF (recR ρ sv (mdS (ρ 0) i))) (141 + i) (nI (ρ 0 (19 + i)))) = (rwF (recR ρ sv (mdS (ρ 0) (i + 1)))) := by rw [upd_recp (by omega), md_up1 (fun z => q_38 (by rw [rec_0]; exact (md_z hw q_15).mpr z))]
          rw [eR] at hP hD
          have hP : va_P D vwCl (wMd h a cI (rwF (recR ρ sv (mdS (ρ 0) (i + 1)))) (kpN sv) (nF (wvG (ρ 0) wv (nW (ρ 0)))) (nF nw) (nF b) ln at0 wd hh) H := hP
          have hD : va_D A (wMd h a cI (rwF (recR ρ sv (mdS (ρ 0) (i + 1)))) (kpN sv) (nF (wvG (ρ 0) wv (nW (ρ 0)))) (nF nw) (nF b) ln at0 wd hh) := hD
          refine nv_inc (k := 0) (lv' := [(1, .int (nI (i + 1))), (0, .ref h)]) hx hb dX4_patchAll_55 hl rfl (by decide) rfl (fun ls hl => ?_)
          refine lv_goto (tgt := 10) hx hb dX4_patchAll_58 (by decide) ?_
          exact ih10 (i + 1) (by omega) (by omega)  _ _ hP hD hS ls (lv_sub hl [0, 1] rfl)
        · refine lv_iconst (v := -1) hx hb dX4_patchAll_41 (by decide) ?_
          refine lv_goto (tgt := 54) hx hb dX4_patchAll_42 (by decide) ?_
          refine nv_iast (D := D) (ws' := (wMd h a cI (upd (rwF (recR ρ sv (mdS (ρ 0) i))) (141 + i) (-1)) (kpN sv) (nF (wvG (ρ 0) wv (nW (ρ 0)))) (nF nw) (nF b) ln at0 wd hh)) hx hb hK hP hD hS 1 0 rfl rfl (k := 141 + i) (by omega) (by decide) rfl dX4_patchAll_54 (fun H locs hP hD hS => ?_)
          have eR : (upd (rwF (recR ρ sv (mdS (ρ 0) i))) (141 + i) (-1)) = (rwF (recR ρ sv (mdS (ρ 0) (i + 1)))) := by rw [upd_recm (by omega), md_up0 ((md_z hw q_15).mp (by have := q_38; rw [rec_0] at this; exact this))]
          rw [eR] at hP hD
          have hP : va_P D vwCl (wMd h a cI (rwF (recR ρ sv (mdS (ρ 0) (i + 1)))) (kpN sv) (nF (wvG (ρ 0) wv (nW (ρ 0)))) (nF nw) (nF b) ln at0 wd hh) H := hP
          have hD : va_D A (wMd h a cI (rwF (recR ρ sv (mdS (ρ 0) (i + 1)))) (kpN sv) (nF (wvG (ρ 0) wv (nW (ρ 0)))) (nF nw) (nF b) ln at0 wd hh) := hD
          refine nv_inc (k := 0) (lv' := [(1, .int (nI (i + 1))), (0, .ref h)]) hx hb dX4_patchAll_55 hl rfl (by decide) rfl (fun ls hl => ?_)
          refine lv_goto (tgt := 10) hx hb dX4_patchAll_58 (by decide) ?_
          exact ih10 (i + 1) (by omega) (by omega)  _ _ hP hD hS ls (lv_sub hl [0, 1] rfl)
  have eR : (rwF ((recR ρ sv (ρ 0)))) = (rwF (recR ρ sv (mdS (ρ 0) 0))) := by rw [md_00]
  rw [eR] at hP hD
  have hP : va_P D vwCl (wMd h a cI (rwF (recR ρ sv (mdS (ρ 0) 0))) (kpN sv) (nF (wvG (ρ 0) wv (nW (ρ 0)))) (nF nw) (nF b) ln at0 wd hh) H := hP
  have hD : va_D A (wMd h a cI (rwF (recR ρ sv (mdS (ρ 0) 0))) (kpN sv) (nF (wvG (ρ 0) wv (nW (ρ 0)))) (nF nw) (nF b) ln at0 wd hh) := hD
  exact L10 (nA (ρ 0) + 1) 0 (by omega) (by omega)  _ _ hP hD hS ls (lv_sub hl [0, 1] rfl)
set_option maxHeartbeats 4000000 in
set_option maxRecDepth 100000 in
theorem c_X4_note (l : Launch) (D : va_G) (cI cR : ClassId) (h : Nat) (a : Nat → Nat) (ρ : Nat → Nat → Nat) (sv : Nat) (wv : Nat → Nat) (nw : Nat → Nat) (b : Nat → Nat) (ln : Nat) (at0 : Nat) (wd : Nat) (hh : Int64) (v : Int32)   (sz : Nat) : Met l yX4_note (wsC yX4_note cX4_note 2 none) (rmK 0 0) (nPreM D (nTy cI cR) [.ref h, .int v] (wMd h a cI (rwF ρ) sv (nF wv) (nF nw) (nF b) ln at0 wd hh) sz) (QcM D none (wMd h a cI (rwF ρ) sv (nF wv) (nF nw) (nF b) ln at0 wd (31 * hh + (v).toInt64)) (va_A (wMd h a cI (rwF ρ) sv (nF wv) (nF nw) (nF b) ln at0 wd hh) sz)) 0 0 (va_A (wMd h a cI (rwF ρ) sv (nF wv) (nF nw) (nF b) ln at0 wd hh) sz) := by
  refine met_mut (Qc := fun A => QcM D none (wMd h a cI (rwF ρ) sv (nF wv) (nF nw) (nF b) ln at0 wd (31 * hh + (v).toInt64)) A) rfl (Nat.le_of_ble_eq_true rfl) ?_
  intro p e s m args below meth c ls A H locs hx hb hml hr hlocks hown hts hP hK hD hA hS hl
  have hl : lv_has ls 2 [(0, .ref h), (1, .int v)] := hl
  refine lv_aload_n hx hb dX4_note_0 rfl (lv_at hl 0 rfl) ?_
  refine lv_ldc2 (v := 31) hx hb hown (hts _ ct_RX4_128) dX4_note_1 ?_
  refine lv_aload_n hx hb dX4_note_4 rfl (lv_at hl 0 rfl) ?_
  refine va_get (D := D) (ci := 4) (v := .long hh) (C := RX4) (T := TX4) (N := 9) hx hb hts inX4 hown hK hP 0 rfl rfl 8 (by decide) (hts _ fl_RX4_130) (fun _ h9 => h9) rfl dX4_note_5 ?_
  refine lv_lmul hx hb dX4_note_8 ?_
  refine lv_iload_n hx hb dX4_note_9 rfl (lv_at hl 1 rfl) ?_
  refine lv_i2l (v := (v).toInt64) hx hb dX4_note_10 rfl ?_
  refine lv_ladd hx hb dX4_note_11 ?_
  refine va_put (D := D) (ci := 4) (v := .long ((31 * hh) + ((v).toInt64))) (ty := .long) (C := RX4) (T := TX4) (N := 9) hx hb hts inX4 tyX4 tyX4_ok nmX4 hown hK hP hD hS 0 rfl rfl 8 (by decide) (hts _ fl_RX4_130) (fun _ h9 => h9) rfl (by decide +kernel) rfl rfl (Nat.le_of_ble_eq_true rfl) dX4_note_12 (fun H locs hP hD hS => ?_)
  have hP : va_P D vwCl (wMd h a cI (rwF ρ) sv (nF wv) (nF nw) (nF b) ln at0 wd ((31 * hh) + ((v).toInt64))) H := hP
  have hD : va_D A (wMd h a cI (rwF ρ) sv (nF wv) (nF nw) (nF b) ln at0 wd ((31 * hh) + ((v).toInt64))) := hD
  exact mu_retv hx hb hr hlocks hP hD hS dX4_note_15
set_option maxHeartbeats 4000000 in
set_option maxRecDepth 100000 in
theorem c_X4_explains (l : Launch) (D : va_G) (cI cR : ClassId) (h : Nat) (a : Nat → Nat) (ρ : Nat → Nat → Nat) (sv : Nat) (wv : Nat → Nat) (nw : Nat → Nat) (b : Nat → Nat) (ln : Nat) (at0 : Nat) (wd : Nat) (hh : Int64) (x : Int32)  (hw : wf (ρ 0)) (sz : Nat) : Met l yX4_explains (wsC yX4_explains cX4_explains 7 (some .int)) (rmK 5 114) (nPreM D (nTy cI cR) [.ref h, .int x] (wMd h a cI (rwF ρ) sv (nF wv) (nF nw) (nF b) ln at0 wd hh) sz) (QcM D (some (.int (aExplains (ρ 0) x))) (wMd h a cI (rwF ρ) sv (nF (cond (decide (0 ≤ (x).toInt)) (rtG (ρ 0) (wvG (ρ 0) wv (nW (ρ 0))) (nW (ρ 0))) wv)) (nF (cond (decide (0 ≤ (x).toInt)) (nwG (ρ 0) nw (nA (ρ 0))) nw)) (nF b) ln at0 wd hh) (va_A (wMd h a cI (rwF ρ) sv (nF wv) (nF nw) (nF b) ln at0 wd hh) sz)) 0 0 (va_A (wMd h a cI (rwF ρ) sv (nF wv) (nF nw) (nF b) ln at0 wd hh) sz) := by
  refine met_mut (Qc := fun A => QcM D (some (.int (aExplains (ρ 0) x))) (wMd h a cI (rwF ρ) sv (nF (cond (decide (0 ≤ (x).toInt)) (rtG (ρ 0) (wvG (ρ 0) wv (nW (ρ 0))) (nW (ρ 0))) wv)) (nF (cond (decide (0 ≤ (x).toInt)) (nwG (ρ 0) nw (nA (ρ 0))) nw)) (nF b) ln at0 wd hh) A) rfl (Nat.le_of_ble_eq_true rfl) ?_
  intro p e s m args below meth c ls A H locs hx hb hml hr hlocks hown hts hP hK hD hA hS hl
  have hl : lv_has ls 7 [(0, .ref h), (1, .int x)] := hl
  have hA41 := hw.w41
  have hA33 := hw.a33
  have hA48 := hw.a48
  obtain ⟨hR2, hR, hB1, hB, hSa, hSb, -⟩ := id hw
  have h1024 := p2_10 hB
  refine lv_iload_n hx hb dX4_explains_0 rfl (lv_at hl 1 rfl) ?_
  refine lv_if_ge (tgt := 7) hx hb dX4_explains_1 (by decide) (fun q_1 => ?_) (fun q_1 => ?_)
  · obtain ⟨k9, hk9, hx9⟩ := nI_of (x := x) (fun z => by have h1 := i_neg.mp z; have h2 := Int32.le_iff_toInt_le.mp q_1; have h3 : (0 : Int32).toInt = 0 := rfl; omega)
    have hx1 : x = nI (cl x) := by rw [show cl x = k9 by rw [hx9]; exact cl_nI hk9]; exact hx9
    have hk1 : cl x < 2 ^ 31 := by rw [show cl x = k9 by rw [hx9]; exact cl_nI hk9]; exact hk9
    have hl := lv_repl [(0, .ref h), (1, .int (nI (cl x)))] 1 rfl (congrArg (fun z : Int32 => Value.int z) (show x = nI (cl x) from hx1)) rfl hl
    refine lv_aload_n hx hb dX4_explains_7 rfl (lv_at hl 0 rfl) ?_
    refine mu_call (ws' := (wMd h a cI (rwF ρ) sv (nF (wvG (ρ 0) wv (nW (ρ 0)))) (nF nw) (nF b) ln at0 wd hh)) [0, 1, 2, 3, 4] [] [0, 1, 2, 3, 4] [] [] hx hb hml hown hts k_RX4_84 (fun sz => c_X4_weaves l D cI cR h a ρ sv wv nw b ln at0 wd hh hw sz) ⟨rfl, rfl, Nat.le_of_ble_eq_true rfl, Nat.le_of_ble_eq_true rfl⟩ hP hD hS hA hK 4 rfl rfl rfl rfl rfl rfl rfl (by decide) rfl rfl rfl hl rfl (Nat.le_of_ble_eq_true rfl) dX4_explains_8 ⟨Nat.zero_le _, Nat.zero_le _⟩ (fun H locs hP hD hS => ?_)
    refine W.eq (g2 := F0 m 11 ls []) rfl ?_
    refine lv_iconst (v := nI 0) hx hb dX4_explains_11 (by decide) ?_
    refine lv_istore_n (lv' := [(2, .int (nI 0)), (0, .ref h), (1, .int (nI (cl x)))]) hx hb dX4_explains_12 rfl hl (by decide) rfl (fun ls hl => ?_)
    have L13 : ∀ (n13 i : Nat), nA (ρ 0) + 1 ≤ i + n13 → i ≤ nA (ρ 0) → ∀ (H : Heap) (locs : List Loc), va_P D vwCl (wMd h a cI (rwF ρ) sv (nF (wvG (ρ 0) wv (nW (ρ 0)))) (nF (nwG (ρ 0) nw i)) (nF b) ln at0 wd hh) H → va_D A (wMd h a cI (rwF ρ) sv (nF (wvG (ρ 0) wv (nW (ρ 0)))) (nF (nwG (ρ 0) nw i)) (nF b) ln at0 wd hh) → va_S A s.heap H locs → ∀ (ls : Array Slot), lv_has ls 7 [(2, .int (nI i)), (0, .ref h), (1, .int (nI (cl x)))] → W p l e (rmK 5 114) s m args below meth c H locs 0 0 (MQ below (QcM D (some (.int (aExplains (ρ 0) x))) (wMd h a cI (rwF ρ) sv (nF (cond (decide (0 ≤ (x).toInt)) (rtG (ρ 0) (wvG (ρ 0) wv (nW (ρ 0))) (nW (ρ 0))) wv)) (nF (cond (decide (0 ≤ (x).toInt)) (nwG (ρ 0) nw (nA (ρ 0))) nw)) (nF b) ln at0 wd hh) A) args s 0 0 A) (F0 m 13 ls []) := by
      intro n13
      induction n13 with
      | zero =>
        intro i h1_13 h2_13
        exact False.elim (by omega)
      | succ n13 ih13 =>
        intro i h1_13 h2_13  H locs hP hD hS ls hl
        refine lv_iload_n hx hb dX4_explains_13 rfl (lv_at hl 0 rfl) ?_
        refine lv_aload_n hx hb dX4_explains_14 rfl (lv_at hl 1 rfl) ?_
        refine nv_callV [] [.int (nI i)] hx hb hml hown hts k_RX4_42 (c_X4_addresses l D cI cR h a ρ sv ((wvG (ρ 0) wv (nW (ρ 0)))) ((nwG (ρ 0) nw i)) b ln at0 wd hh ) ⟨rfl, rfl, Nat.le_of_ble_eq_true rfl, Nat.le_of_ble_eq_true rfl⟩ hP hK 4 rfl rfl rfl rfl hl rfl (Nat.le_of_ble_eq_true rfl) dX4_explains_15 ⟨Nat.zero_le _, Nat.zero_le _⟩ ?_
        refine nv_icmp_ge (tgt := 38) hx hb dX4_explains_18 (by decide) (by omega) (by omega) (fun q_18 => ?_) (fun q_18 => ?_)
        · have ei : i = nA (ρ 0) := by omega
          have eR : (nF (nwG (ρ 0) nw i)) = (nF (nwG (ρ 0) nw (nA (ρ 0)))) := by rw [ei]
          rw [eR] at hP hD
          have hP : va_P D vwCl (wMd h a cI (rwF ρ) sv (nF (wvG (ρ 0) wv (nW (ρ 0)))) (nF (nwG (ρ 0) nw (nA (ρ 0)))) (nF b) ln at0 wd hh) H := hP
          have hD : va_D A (wMd h a cI (rwF ρ) sv (nF (wvG (ρ 0) wv (nW (ρ 0)))) (nF (nwG (ρ 0) nw (nA (ρ 0)))) (nF b) ln at0 wd hh) := hD
          refine lv_iconst (v := nI 0) hx hb dX4_explains_38 (by decide) ?_
          refine lv_istore_n (lv' := [(2, .int (nI 0)), (0, .ref h), (1, .int (nI (cl x)))]) hx hb dX4_explains_39 rfl hl (by decide) rfl (fun ls hl => ?_)
          have L40 : ∀ (n40 i : Nat), nW (ρ 0) + 1 ≤ i + n40 → i ≤ nW (ρ 0) → ∀ (H : Heap) (locs : List Loc), va_P D vwCl (wMd h a cI (rwF ρ) sv (nF (rtG (ρ 0) (wvG (ρ 0) wv (nW (ρ 0))) i)) (nF (nwG (ρ 0) nw (nA (ρ 0)))) (nF b) ln at0 wd hh) H → va_D A (wMd h a cI (rwF ρ) sv (nF (rtG (ρ 0) (wvG (ρ 0) wv (nW (ρ 0))) i)) (nF (nwG (ρ 0) nw (nA (ρ 0)))) (nF b) ln at0 wd hh) → va_S A s.heap H locs → ∀ (ls : Array Slot), lv_has ls 7 [(2, .int (nI i)), (0, .ref h), (1, .int (nI (cl x)))] → W p l e (rmK 5 114) s m args below meth c H locs 0 0 (MQ below (QcM D (some (.int (aExplains (ρ 0) x))) (wMd h a cI (rwF ρ) sv (nF (cond (decide (0 ≤ (x).toInt)) (rtG (ρ 0) (wvG (ρ 0) wv (nW (ρ 0))) (nW (ρ 0))) wv)) (nF (cond (decide (0 ≤ (x).toInt)) (nwG (ρ 0) nw (nA (ρ 0))) nw)) (nF b) ln at0 wd hh) A) args s 0 0 A) (F0 m 40 ls []) := by
            intro n40
            induction n40 with
            | zero =>
              intro i h1_40 h2_40
              exact False.elim (by omega)
            | succ n40 ih40 =>
              intro i h1_40 h2_40  H locs hP hD hS ls hl
              refine lv_iload_n hx hb dX4_explains_40 rfl (lv_at hl 0 rfl) ?_
              refine lv_aload_n hx hb dX4_explains_41 rfl (lv_at hl 1 rfl) ?_
              refine nv_callV [] [.int (nI i)] hx hb hml hown hts k_RX4_38 (c_X4_wires l D cI cR h a ρ sv ((rtG (ρ 0) (wvG (ρ 0) wv (nW (ρ 0))) i)) ((nwG (ρ 0) nw (nA (ρ 0)))) b ln at0 wd hh ) ⟨rfl, rfl, Nat.le_of_ble_eq_true rfl, Nat.le_of_ble_eq_true rfl⟩ hP hK 4 rfl rfl rfl rfl hl rfl (Nat.le_of_ble_eq_true rfl) dX4_explains_42 ⟨Nat.zero_le _, Nat.zero_le _⟩ ?_
              refine nv_icmp_ge (tgt := 65) hx hb dX4_explains_45 (by decide) (by omega) (by omega) (fun q_45 => ?_) (fun q_45 => ?_)
              · have ej : i = nW (ρ 0) := by omega
                have eR : (nF (rtG (ρ 0) (wvG (ρ 0) wv (nW (ρ 0))) i)) = (nF (rtG (ρ 0) (wvG (ρ 0) wv (nW (ρ 0))) (nW (ρ 0)))) := by rw [ej]
                rw [eR] at hP hD
                have hP : va_P D vwCl (wMd h a cI (rwF ρ) sv (nF (rtG (ρ 0) (wvG (ρ 0) wv (nW (ρ 0))) (nW (ρ 0)))) (nF (nwG (ρ 0) nw (nA (ρ 0)))) (nF b) ln at0 wd hh) H := hP
                have hD : va_D A (wMd h a cI (rwF ρ) sv (nF (rtG (ρ 0) (wvG (ρ 0) wv (nW (ρ 0))) (nW (ρ 0)))) (nF (nwG (ρ 0) nw (nA (ρ 0)))) (nF b) ln at0 wd hh) := hD
                refine lv_iload_n hx hb dX4_explains_65 rfl (lv_at hl 2 rfl) ?_
                refine lv_istore_n (lv' := [(2, .int (nI (cl x))), (0, .ref h), (1, .int (nI (cl x)))]) hx hb dX4_explains_66 rfl hl (by decide) rfl (fun ls hl => ?_)
                refine lv_iconst (v := -1) hx hb dX4_explains_67 (by decide) ?_
                refine lv_istore_n (lv' := [(3, .int (-1)), (2, .int (nI (cl x))), (0, .ref h), (1, .int (nI (cl x)))]) hx hb dX4_explains_68 rfl hl (by decide) rfl (fun ls hl => ?_)
                refine lv_iconst (v := nI 0) hx hb dX4_explains_69 (by decide) ?_
                refine lv_istore (lv' := [(4, .int (nI 0)), (3, .int (-1)), (2, .int (nI (cl x))), (0, .ref h), (1, .int (nI (cl x)))]) hx hb dX4_explains_70 hl (by decide) rfl (fun ls hl => ?_)
                have L72 : ∀ (n72 w : Nat), nW (ρ 0) + 1 ≤ w + n72 → w ≤ nW (ρ 0) → (ct (exP (ρ 0)) (w * ρ 0 0) ≤ cl x) → ∀ (H : Heap) (locs : List Loc), va_P D vwCl (wMd h a cI (rwF ρ) sv (nF (rtG (ρ 0) (wvG (ρ 0) wv (nW (ρ 0))) (nW (ρ 0)))) (nF (nwG (ρ 0) nw (nA (ρ 0)))) (nF b) ln at0 wd hh) H → va_D A (wMd h a cI (rwF ρ) sv (nF (rtG (ρ 0) (wvG (ρ 0) wv (nW (ρ 0))) (nW (ρ 0)))) (nF (nwG (ρ 0) nw (nA (ρ 0)))) (nF b) ln at0 wd hh) → va_S A s.heap H locs → ∀ (ls : Array Slot), lv_has ls 7 [(4, .int (nI w)), (3, .int (-1)), (2, .int (nI (cl x - ct (exP (ρ 0)) (w * ρ 0 0)))), (0, .ref h), (1, .int (nI (cl x)))] → W p l e (rmK 5 114) s m args below meth c H locs 0 0 (MQ below (QcM D (some (.int (aExplains (ρ 0) x))) (wMd h a cI (rwF ρ) sv (nF (cond (decide (0 ≤ (x).toInt)) (rtG (ρ 0) (wvG (ρ 0) wv (nW (ρ 0))) (nW (ρ 0))) wv)) (nF (cond (decide (0 ≤ (x).toInt)) (nwG (ρ 0) nw (nA (ρ 0))) nw)) (nF b) ln at0 wd hh) A) args s 0 0 A) (F0 m 72 ls []) := by
                  intro n72
                  induction n72 with
                  | zero =>
                    intro w h1_72 h2_72
                    exact False.elim (by omega)
                  | succ n72 ih72 =>
                    intro w h1_72 h2_72 hle H locs hP hD hS ls hl
                    refine lv_iload hx hb dX4_explains_72 (lv_at hl 0 rfl) ?_
                    refine lv_aload_n hx hb dX4_explains_74 rfl (lv_at hl 3 rfl) ?_
                    refine nv_callV [] [.int (nI w)] hx hb hml hown hts k_RX4_38 (c_X4_wires l D cI cR h a ρ sv ((rtG (ρ 0) (wvG (ρ 0) wv (nW (ρ 0))) (nW (ρ 0)))) ((nwG (ρ 0) nw (nA (ρ 0)))) b ln at0 wd hh ) ⟨rfl, rfl, Nat.le_of_ble_eq_true rfl, Nat.le_of_ble_eq_true rfl⟩ hP hK 4 rfl rfl rfl rfl hl rfl (Nat.le_of_ble_eq_true rfl) dX4_explains_75 ⟨Nat.zero_le _, Nat.zero_le _⟩ ?_
                    refine nv_icmp_ge (tgt := 186) hx hb dX4_explains_78 (by decide) (by omega) (by omega) (fun q_78 => ?_) (fun q_78 => ?_)
                    · refine lv_iload_n hx hb dX4_explains_186 rfl (lv_at hl 1 rfl) ?_
                      have E0 : decide (0 ≤ x.toInt) = true := decide_eq_true (Int32.le_iff_toInt_le.mp q_1)
                      have hP : va_P D vwCl (wMd h a cI (rwF ρ) sv (nF (cond (decide (0 ≤ (x).toInt)) (rtG (ρ 0) (wvG (ρ 0) wv (nW (ρ 0))) (nW (ρ 0))) wv)) (nF (cond (decide (0 ≤ (x).toInt)) (nwG (ρ 0) nw (nA (ρ 0))) nw)) (nF b) ln at0 wd hh) H := by rw [E0]; exact hP
                      have hD : va_D A (wMd h a cI (rwF ρ) sv (nF (cond (decide (0 ≤ (x).toInt)) (rtG (ρ 0) (wvG (ρ 0) wv (nW (ρ 0))) (nW (ρ 0))) wv)) (nF (cond (decide (0 ≤ (x).toInt)) (nwG (ρ 0) nw (nA (ρ 0))) nw)) (nF b) ln at0 wd hh) := by rw [E0]; exact hD
                      exact mu_reti hx hb hr hlocks (by unfold aExplains; rw [E0]; show _ = exF (ρ 0) (cl x); exact exF_none (by rw [← show w = nW (ρ 0) by omega]; exact hle)) hP hD hS dX4_explains_187
                    · refine lv_iload_n hx hb dX4_explains_81 rfl (lv_at hl 1 rfl) ?_
                      refine lv_iconst (v := -1) hx hb dX4_explains_82 (by decide) ?_
                      refine lv_icmp_ne (tgt := 186) hx hb dX4_explains_83 (by decide) (fun q_83 => False.elim (q_83 rfl)) (fun q_83 => ?_)
                      refine lv_iconst (v := nI 0) hx hb dX4_explains_86 (by decide) ?_
                      refine lv_istore (lv' := [(5, .int (nI 0)), (4, .int (nI w)), (3, .int (-1)), (2, .int (nI (cl x - ct (exP (ρ 0)) (w * ρ 0 0)))), (0, .ref h), (1, .int (nI (cl x)))]) hx hb dX4_explains_87 hl (by decide) rfl (fun ls hl => ?_)
                      have L89 : ∀ (n89 i : Nat), ρ 0 0 + 1 ≤ i + n89 → i ≤ ρ 0 0 → (ct (exP (ρ 0)) (w * ρ 0 0 + i) ≤ cl x) → ∀ (H : Heap) (locs : List Loc), va_P D vwCl (wMd h a cI (rwF ρ) sv (nF (rtG (ρ 0) (wvG (ρ 0) wv (nW (ρ 0))) (nW (ρ 0)))) (nF (nwG (ρ 0) nw (nA (ρ 0)))) (nF b) ln at0 wd hh) H → va_D A (wMd h a cI (rwF ρ) sv (nF (rtG (ρ 0) (wvG (ρ 0) wv (nW (ρ 0))) (nW (ρ 0)))) (nF (nwG (ρ 0) nw (nA (ρ 0)))) (nF b) ln at0 wd hh) → va_S A s.heap H locs → ∀ (ls : Array Slot), lv_has ls 7 [(5, .int (nI i)), (4, .int (nI w)), (3, .int (-1)), (2, .int (nI (cl x - ct (exP (ρ 0)) (w * ρ 0 0 + i)))), (0, .ref h), (1, .int (nI (cl x)))] → W p l e (rmK 5 114) s m args below meth c H locs 0 0 (MQ below (QcM D (some (.int (aExplains (ρ 0) x))) (wMd h a cI (rwF ρ) sv (nF (cond (decide (0 ≤ (x).toInt)) (rtG (ρ 0) (wvG (ρ 0) wv (nW (ρ 0))) (nW (ρ 0))) wv)) (nF (cond (decide (0 ≤ (x).toInt)) (nwG (ρ 0) nw (nA (ρ 0))) nw)) (nF b) ln at0 wd hh) A) args s 0 0 A) (F0 m 89 ls []) := by
                        intro n89
                        induction n89 with
                        | zero =>
                          intro i h1_89 h2_89
                          exact False.elim (by omega)
                        | succ n89 ih89 =>
                          intro i h1_89 h2_89 hle2 H locs hP hD hS ls hl
                          refine lv_iload hx hb dX4_explains_89 (lv_at hl 0 rfl) ?_
                          refine lv_aload_n hx hb dX4_explains_91 rfl (lv_at hl 4 rfl) ?_
                          refine va_get (D := D) (ci := 4) (v := .ref (a 0)) (C := RX4) (T := TX4) (N := 9) hx hb hts inX4 hown hK hP 0 rfl rfl 0 (by decide) (hts _ fl_RX4_7) (fun _ h9 => h9) rfl dX4_explains_92 ?_
                          refine lv_iconst (v := nI 0) hx hb dX4_explains_95 (by decide) ?_
                          refine nv_iald (D := D) (v := nI (ρ 0 0)) hx hb hK hP 1 0 rfl rfl (k := 0) (by omega) (by decide) (rw_lo (by omega)) dX4_explains_96 ?_
                          refine nv_icmp_ge (tgt := 180) hx hb dX4_explains_97 (by decide) (by omega) (by omega) (fun q_97 => ?_) (fun q_97 => ?_)
                          · refine nv_inc (k := 1) (lv' := [(4, .int (nI (w + 1))), (5, .int (nI i)), (3, .int (-1)), (2, .int (nI (cl x - ct (exP (ρ 0)) (w * ρ 0 0 + i)))), (0, .ref h), (1, .int (nI (cl x)))]) hx hb dX4_explains_180 hl rfl (by decide) rfl (fun ls hl => ?_)
                            refine lv_goto (tgt := 72) hx hb dX4_explains_183 (by decide) ?_
                            have hl := lv_repl [(4, .int (nI (w + 1))), (5, .int (nI i)), (3, .int (-1)), (2, .int (nI (cl x - ct (exP (ρ 0)) ((w + 1) * ρ 0 0)))), (0, .ref h), (1, .int (nI (cl x)))] 3 rfl (congrArg (fun z : Nat => Value.int (nI z)) (show (cl x - ct (exP (ρ 0)) (w * ρ 0 0 + i)) = (cl x - ct (exP (ρ 0)) ((w + 1) * ρ 0 0)) from by rw [show (w + 1) * ρ 0 0 = w * ρ 0 0 + i by rw [Nat.succ_mul]; omega])) rfl hl
                            exact ih72 (w + 1) (by omega) (by omega) (by rw [show (w + 1) * ρ 0 0 = w * ρ 0 0 + i by rw [Nat.succ_mul]; omega]; exact hle2) _ _ hP hD hS ls (lv_sub hl [0, 2, 3, 4, 5] rfl)
                          · refine lv_iload_n hx hb dX4_explains_100 rfl (lv_at hl 2 rfl) ?_
                            refine lv_iconst (v := -1) hx hb dX4_explains_101 (by decide) ?_
                            refine lv_icmp_ne (tgt := 180) hx hb dX4_explains_102 (by decide) (fun q_102 => False.elim (q_102 rfl)) (fun q_102 => ?_)
                            refine lv_aload_n hx hb dX4_explains_105 rfl (lv_at hl 4 rfl) ?_
                            refine va_get (D := D) (ci := 4) (v := .ref (a 1)) (C := RX4) (T := TX4) (N := 9) hx hb hts inX4 hown hK hP 0 rfl rfl 2 (by decide) (hts _ fl_RX4_13) (fun _ h9 => h9) rfl dX4_explains_106 ?_
                            refine lv_iload hx hb dX4_explains_109 (lv_at hl 1 rfl) ?_
                            refine lv_dup2_11 hx hb dX4_explains_111 rfl rfl ?_
                            refine nv_iald (D := D) (v := nI ((rtG (ρ 0) (wvG (ρ 0) wv (nW (ρ 0))) (nW (ρ 0))) w)) hx hb hK hP 2 0 rfl rfl (k := w) (by omega) (by decide) (rfl) dX4_explains_112 ?_
                            refine lv_iconst (v := nI 1) hx hb dX4_explains_113 (by decide) ?_
                            refine lv_iload hx hb dX4_explains_114 (lv_at hl 0 rfl) ?_
                            refine nv_ishl hx hb dX4_explains_116 (by omega) ?_
                            refine nv_ixor hx hb dX4_explains_117 ?_
                            refine nv_iast (D := D) (ws' := (wMd h a cI (rwF ρ) sv (upd (nF (rtG (ρ 0) (wvG (ρ 0) wv (nW (ρ 0))) (nW (ρ 0)))) w (nI (((rtG (ρ 0) (wvG (ρ 0) wv (nW (ρ 0))) (nW (ρ 0))) w) ^^^ (1 <<< i)))) (nF (nwG (ρ 0) nw (nA (ρ 0)))) (nF b) ln at0 wd hh)) hx hb hK hP hD hS 2 0 rfl rfl (k := w) (by omega) (by decide) rfl dX4_explains_118 (fun H locs hP hD hS => ?_)
                            have eR : (upd (nF (rtG (ρ 0) (wvG (ρ 0) wv (nW (ρ 0))) (nW (ρ 0)))) w (nI (((rtG (ρ 0) (wvG (ρ 0) wv (nW (ρ 0))) (nW (ρ 0))) w) ^^^ (1 <<< i)))) = (nF (va_up (rtG (ρ 0) (wvG (ρ 0) wv (nW (ρ 0))) (nW (ρ 0))) w ((rtG (ρ 0) (wvG (ρ 0) wv (nW (ρ 0))) (nW (ρ 0))) w ^^^ 1 <<< i))) := upd_nF _ _ _
                            rw [eR] at hP hD
                            have hP : va_P D vwCl (wMd h a cI (rwF ρ) sv (nF (va_up (rtG (ρ 0) (wvG (ρ 0) wv (nW (ρ 0))) (nW (ρ 0))) w ((rtG (ρ 0) (wvG (ρ 0) wv (nW (ρ 0))) (nW (ρ 0))) w ^^^ 1 <<< i))) (nF (nwG (ρ 0) nw (nA (ρ 0)))) (nF b) ln at0 wd hh) H := hP
                            have hD : va_D A (wMd h a cI (rwF ρ) sv (nF (va_up (rtG (ρ 0) (wvG (ρ 0) wv (nW (ρ 0))) (nW (ρ 0))) w ((rtG (ρ 0) (wvG (ρ 0) wv (nW (ρ 0))) (nW (ρ 0))) w ^^^ 1 <<< i))) (nF (nwG (ρ 0) nw (nA (ρ 0)))) (nF b) ln at0 wd hh) := hD
                            refine lv_aload_n hx hb dX4_explains_119 rfl (lv_at hl 4 rfl) ?_
                            refine nv_callV [] [] hx hb hml hown hts k_RX4_105 (c_X4_isAsNow l D cI cR h a ρ sv ((va_up (rtG (ρ 0) (wvG (ρ 0) wv (nW (ρ 0))) (nW (ρ 0))) w ((rtG (ρ 0) (wvG (ρ 0) wv (nW (ρ 0))) (nW (ρ 0))) w ^^^ 1 <<< i))) ((nwG (ρ 0) nw (nA (ρ 0)))) b ln at0 wd hh hw (fun a ha => by unfold nwG; rw [if_pos ha]; exact Nat.lt_trans (rwM_lt hw _ _) (by decide))) ⟨rfl, rfl, Nat.le_of_ble_eq_true rfl, Nat.le_of_ble_eq_true rfl⟩ hP hK 4 rfl rfl rfl rfl hl rfl (Nat.le_of_ble_eq_true rfl) dX4_explains_120 ⟨Nat.zero_le _, Nat.zero_le _⟩ ?_
                            refine nv_tope (zB (exE (ρ 0) w i)) (by rw [ex_main hw (by omega) (by omega)]) ?_
                            refine lv_istore (lv' := [(6, .int (zB (exE (ρ 0) w i))), (5, .int (nI i)), (4, .int (nI w)), (3, .int (-1)), (2, .int (nI (cl x - ct (exP (ρ 0)) (w * ρ 0 0 + i)))), (0, .ref h), (1, .int (nI (cl x)))]) hx hb dX4_explains_123 hl (by decide) rfl (fun ls hl => ?_)
                            refine lv_aload_n hx hb dX4_explains_125 rfl (lv_at hl 5 rfl) ?_
                            refine va_get (D := D) (ci := 4) (v := .ref (a 1)) (C := RX4) (T := TX4) (N := 9) hx hb hts inX4 hown hK hP 0 rfl rfl 2 (by decide) (hts _ fl_RX4_13) (fun _ h9 => h9) rfl dX4_explains_126 ?_
                            refine lv_iload hx hb dX4_explains_129 (lv_at hl 2 rfl) ?_
                            refine lv_dup2_11 hx hb dX4_explains_131 rfl rfl ?_
                            refine nv_iald (D := D) (v := nI ((va_up (rtG (ρ 0) (wvG (ρ 0) wv (nW (ρ 0))) (nW (ρ 0))) w ((rtG (ρ 0) (wvG (ρ 0) wv (nW (ρ 0))) (nW (ρ 0))) w ^^^ 1 <<< i)) w)) hx hb hK hP 2 0 rfl rfl (k := w) (by omega) (by decide) (rfl) dX4_explains_132 ?_
                            refine lv_iconst (v := nI 1) hx hb dX4_explains_133 (by decide) ?_
                            refine lv_iload hx hb dX4_explains_134 (lv_at hl 1 rfl) ?_
                            refine nv_ishl hx hb dX4_explains_136 (by omega) ?_
                            refine nv_ixor hx hb dX4_explains_137 ?_
                            refine nv_iast (D := D) (ws' := (wMd h a cI (rwF ρ) sv (upd (nF (va_up (rtG (ρ 0) (wvG (ρ 0) wv (nW (ρ 0))) (nW (ρ 0))) w ((rtG (ρ 0) (wvG (ρ 0) wv (nW (ρ 0))) (nW (ρ 0))) w ^^^ 1 <<< i))) w (nI (((va_up (rtG (ρ 0) (wvG (ρ 0) wv (nW (ρ 0))) (nW (ρ 0))) w ((rtG (ρ 0) (wvG (ρ 0) wv (nW (ρ 0))) (nW (ρ 0))) w ^^^ 1 <<< i)) w) ^^^ (1 <<< i)))) (nF (nwG (ρ 0) nw (nA (ρ 0)))) (nF b) ln at0 wd hh)) hx hb hK hP hD hS 2 0 rfl rfl (k := w) (by omega) (by decide) rfl dX4_explains_138 (fun H locs hP hD hS => ?_)
                            have eR : (upd (nF (va_up (rtG (ρ 0) (wvG (ρ 0) wv (nW (ρ 0))) (nW (ρ 0))) w ((rtG (ρ 0) (wvG (ρ 0) wv (nW (ρ 0))) (nW (ρ 0))) w ^^^ 1 <<< i))) w (nI (((va_up (rtG (ρ 0) (wvG (ρ 0) wv (nW (ρ 0))) (nW (ρ 0))) w ((rtG (ρ 0) (wvG (ρ 0) wv (nW (ρ 0))) (nW (ρ 0))) w ^^^ 1 <<< i)) w) ^^^ (1 <<< i)))) = (nF (rtG (ρ 0) (wvG (ρ 0) wv (nW (ρ 0))) (nW (ρ 0)))) := by rw [upd_nF, xor_back]
                            rw [eR] at hP hD
                            have hP : va_P D vwCl (wMd h a cI (rwF ρ) sv (nF (rtG (ρ 0) (wvG (ρ 0) wv (nW (ρ 0))) (nW (ρ 0)))) (nF (nwG (ρ 0) nw (nA (ρ 0)))) (nF b) ln at0 wd hh) H := hP
                            have hD : va_D A (wMd h a cI (rwF ρ) sv (nF (rtG (ρ 0) (wvG (ρ 0) wv (nW (ρ 0))) (nW (ρ 0)))) (nF (nwG (ρ 0) nw (nA (ρ 0)))) (nF b) ln at0 wd hh) := hD
                            refine lv_iload hx hb dX4_explains_139 (lv_at hl 0 rfl) ?_
                            refine lv_if_eq (tgt := 159) hx hb dX4_explains_141 (by decide) (fun q_141 => ?_) (fun q_141 => ?_)
                            · refine lv_iconst (v := -1) hx hb dX4_explains_159 (by decide) ?_
                              refine lv_istore_n (lv' := [(3, .int (-1)), (6, .int (zB (exE (ρ 0) w i))), (5, .int (nI i)), (4, .int (nI w)), (2, .int (nI (cl x - ct (exP (ρ 0)) (w * ρ 0 0 + i)))), (0, .ref h), (1, .int (nI (cl x)))]) hx hb dX4_explains_160 rfl hl (by decide) rfl (fun ls hl => ?_)
                              refine lv_iload_n hx hb dX4_explains_161 rfl (lv_at hl 4 rfl) ?_
                              refine lv_iload hx hb dX4_explains_162 (lv_at hl 1 rfl) ?_
                              refine lv_if_eq (tgt := 171) hx hb dX4_explains_164 (by decide) (fun q_164 => ?_) (fun q_164 => False.elim (q_164 q_141))
                              refine lv_iconst (v := nI 0) hx hb dX4_explains_171 (by decide) ?_
                              refine nv_isub hx hb dX4_explains_172 (by omega) ?_
                              refine lv_istore_n (lv' := [(2, .int (nI ((cl x - ct (exP (ρ 0)) (w * ρ 0 0 + i)) - 0))), (3, .int (-1)), (6, .int (zB (exE (ρ 0) w i))), (5, .int (nI i)), (4, .int (nI w)), (0, .ref h), (1, .int (nI (cl x)))]) hx hb dX4_explains_173 rfl hl (by decide) rfl (fun ls hl => ?_)
                              refine nv_inc (k := 3) (lv' := [(5, .int (nI (i + 1))), (2, .int (nI ((cl x - ct (exP (ρ 0)) (w * ρ 0 0 + i)) - 0))), (3, .int (-1)), (6, .int (zB (exE (ρ 0) w i))), (4, .int (nI w)), (0, .ref h), (1, .int (nI (cl x)))]) hx hb dX4_explains_174 hl rfl (by decide) rfl (fun ls hl => ?_)
                              refine lv_goto (tgt := 89) hx hb dX4_explains_177 (by decide) ?_
                              have hl := lv_repl [(5, .int (nI (i + 1))), (2, .int (nI (cl x - ct (exP (ρ 0)) (w * ρ 0 0 + (i + 1))))), (3, .int (-1)), (6, .int (zB (exE (ρ 0) w i))), (4, .int (nI w)), (0, .ref h), (1, .int (nI (cl x)))] 1 rfl (congrArg (fun z : Nat => Value.int (nI z)) (show ((cl x - ct (exP (ρ 0)) (w * ρ 0 0 + i)) - 0) = (cl x - ct (exP (ρ 0)) (w * ρ 0 0 + (i + 1))) from by rw [← Nat.add_assoc, ct_s, exP_at (by omega)]; rw [zB_eq0 q_141]; simp only [Bool.toNat_false]; omega)) rfl hl
                              exact ih89 (i + 1) (by omega) (by omega) (by rw [← Nat.add_assoc, ct_s, exP_at (by omega)]; rw [zB_eq0 q_141]; exact hle2) _ _ hP hD hS ls (lv_sub hl [0, 4, 2, 1, 5, 6] rfl)
                            · refine lv_iload_n hx hb dX4_explains_144 rfl (lv_at hl 4 rfl) ?_
                              refine nv_if_ne (tgt := 159) hx hb dX4_explains_145 (by decide) (by omega) (fun q_145 => ?_) (fun q_145 => ?_)
                              · refine lv_iconst (v := -1) hx hb dX4_explains_159 (by decide) ?_
                                refine lv_istore_n (lv' := [(3, .int (-1)), (6, .int (zB (exE (ρ 0) w i))), (5, .int (nI i)), (4, .int (nI w)), (2, .int (nI (cl x - ct (exP (ρ 0)) (w * ρ 0 0 + i)))), (0, .ref h), (1, .int (nI (cl x)))]) hx hb dX4_explains_160 rfl hl (by decide) rfl (fun ls hl => ?_)
                                refine lv_iload_n hx hb dX4_explains_161 rfl (lv_at hl 4 rfl) ?_
                                refine lv_iload hx hb dX4_explains_162 (lv_at hl 1 rfl) ?_
                                refine lv_if_eq (tgt := 171) hx hb dX4_explains_164 (by decide) (fun q_164 => False.elim (q_141 q_164)) (fun q_164 => ?_)
                                refine lv_iconst (v := nI 1) hx hb dX4_explains_167 (by decide) ?_
                                refine lv_goto (tgt := 172) hx hb dX4_explains_168 (by decide) ?_
                                refine nv_isub hx hb dX4_explains_172 (by omega) ?_
                                refine lv_istore_n (lv' := [(2, .int (nI ((cl x - ct (exP (ρ 0)) (w * ρ 0 0 + i)) - 1))), (3, .int (-1)), (6, .int (zB (exE (ρ 0) w i))), (5, .int (nI i)), (4, .int (nI w)), (0, .ref h), (1, .int (nI (cl x)))]) hx hb dX4_explains_173 rfl hl (by decide) rfl (fun ls hl => ?_)
                                refine nv_inc (k := 3) (lv' := [(5, .int (nI (i + 1))), (2, .int (nI ((cl x - ct (exP (ρ 0)) (w * ρ 0 0 + i)) - 1))), (3, .int (-1)), (6, .int (zB (exE (ρ 0) w i))), (4, .int (nI w)), (0, .ref h), (1, .int (nI (cl x)))]) hx hb dX4_explains_174 hl rfl (by decide) rfl (fun ls hl => ?_)
                                refine lv_goto (tgt := 89) hx hb dX4_explains_177 (by decide) ?_
                                have hl := lv_repl [(5, .int (nI (i + 1))), (2, .int (nI (cl x - ct (exP (ρ 0)) (w * ρ 0 0 + (i + 1))))), (3, .int (-1)), (6, .int (zB (exE (ρ 0) w i))), (4, .int (nI w)), (0, .ref h), (1, .int (nI (cl x)))] 1 rfl (congrArg (fun z : Nat => Value.int (nI z)) (show ((cl x - ct (exP (ρ 0)) (w * ρ 0 0 + i)) - 1) = (cl x - ct (exP (ρ 0)) (w * ρ 0 0 + (i + 1))) from by rw [← Nat.add_assoc, ct_s, exP_at (by omega)]; rw [zB_ne0 q_141]; simp only [Bool.toNat_true]; omega)) rfl hl
                                exact ih89 (i + 1) (by omega) (by omega) (by rw [← Nat.add_assoc, ct_s, exP_at (by omega)]; rw [zB_ne0 q_141]; simp only [Bool.toNat_true]; omega) _ _ hP hD hS ls (lv_sub hl [0, 4, 2, 1, 5, 6] rfl)
                              · refine lv_bipush (v := nI 16) hx hb dX4_explains_148 (by decide) ?_
                                refine lv_iload hx hb dX4_explains_150 (lv_at hl 2 rfl) ?_
                                refine nv_imul hx hb dX4_explains_152 ?_
                                refine lv_iload hx hb dX4_explains_153 (lv_at hl 1 rfl) ?_
                                refine nv_iadd hx hb dX4_explains_155 ?_
                                refine lv_goto (tgt := 160) hx hb dX4_explains_156 (by decide) ?_
                                refine lv_istore_n (lv' := [(3, .int (nI ((16 * w) + i))), (6, .int (zB (exE (ρ 0) w i))), (5, .int (nI i)), (4, .int (nI w)), (2, .int (nI (cl x - ct (exP (ρ 0)) (w * ρ 0 0 + i)))), (0, .ref h), (1, .int (nI (cl x)))]) hx hb dX4_explains_160 rfl hl (by decide) rfl (fun ls hl => ?_)
                                refine lv_iload_n hx hb dX4_explains_161 rfl (lv_at hl 4 rfl) ?_
                                refine lv_iload hx hb dX4_explains_162 (lv_at hl 1 rfl) ?_
                                refine lv_if_eq (tgt := 171) hx hb dX4_explains_164 (by decide) (fun q_164 => False.elim (q_141 q_164)) (fun q_164 => ?_)
                                refine lv_iconst (v := nI 1) hx hb dX4_explains_167 (by decide) ?_
                                refine lv_goto (tgt := 172) hx hb dX4_explains_168 (by decide) ?_
                                refine lv_isub hx hb dX4_explains_172 ?_
                                refine lv_istore_n (lv' := [(2, .int ((nI (cl x - ct (exP (ρ 0)) (w * ρ 0 0 + i))) - (nI (1)))), (3, .int (nI ((16 * w) + i))), (6, .int (zB (exE (ρ 0) w i))), (5, .int (nI i)), (4, .int (nI w)), (0, .ref h), (1, .int (nI (cl x)))]) hx hb dX4_explains_173 rfl hl (by decide) rfl (fun ls hl => ?_)
                                refine nv_inc (k := 3) (lv' := [(5, .int (nI (i + 1))), (2, .int ((nI (cl x - ct (exP (ρ 0)) (w * ρ 0 0 + i))) - (nI (1)))), (3, .int (nI ((16 * w) + i))), (6, .int (zB (exE (ρ 0) w i))), (4, .int (nI w)), (0, .ref h), (1, .int (nI (cl x)))]) hx hb dX4_explains_174 hl rfl (by decide) rfl (fun ls hl => ?_)
                                refine lv_goto (tgt := 89) hx hb dX4_explains_177 (by decide) ?_
                                refine lv_iload hx hb dX4_explains_89 (lv_at hl 0 rfl) ?_
                                refine lv_aload_n hx hb dX4_explains_91 rfl (lv_at hl 5 rfl) ?_
                                refine va_get (D := D) (ci := 4) (v := .ref (a 0)) (C := RX4) (T := TX4) (N := 9) hx hb hts inX4 hown hK hP 0 rfl rfl 0 (by decide) (hts _ fl_RX4_7) (fun _ h9 => h9) rfl dX4_explains_92 ?_
                                refine lv_iconst (v := nI 0) hx hb dX4_explains_95 (by decide) ?_
                                refine nv_iald (D := D) (v := nI (ρ 0 0)) hx hb hK hP 1 0 rfl rfl (k := 0) (by omega) (by decide) (rw_lo (by omega)) dX4_explains_96 ?_
                                refine nv_icmp_ge (tgt := 180) hx hb dX4_explains_97 (by decide) (by omega) (by omega) (fun q_97 => ?_) (fun q_97 => ?_)
                                · refine nv_inc (k := 4) (lv' := [(4, .int (nI (w + 1))), (5, .int (nI (i + 1))), (2, .int ((nI (cl x - ct (exP (ρ 0)) (w * ρ 0 0 + i))) - (nI (1)))), (3, .int (nI ((16 * w) + i))), (6, .int (zB (exE (ρ 0) w i))), (0, .ref h), (1, .int (nI (cl x)))]) hx hb dX4_explains_180 hl rfl (by decide) rfl (fun ls hl => ?_)
                                  refine lv_goto (tgt := 72) hx hb dX4_explains_183 (by decide) ?_
                                  refine lv_iload hx hb dX4_explains_72 (lv_at hl 0 rfl) ?_
                                  refine lv_aload_n hx hb dX4_explains_74 rfl (lv_at hl 5 rfl) ?_
                                  refine nv_callV [] [.int (nI (w + 1))] hx hb hml hown hts k_RX4_38 (c_X4_wires l D cI cR h a ρ sv ((rtG (ρ 0) (wvG (ρ 0) wv (nW (ρ 0))) (nW (ρ 0)))) ((nwG (ρ 0) nw (nA (ρ 0)))) b ln at0 wd hh ) ⟨rfl, rfl, Nat.le_of_ble_eq_true rfl, Nat.le_of_ble_eq_true rfl⟩ hP hK 4 rfl rfl rfl rfl hl rfl (Nat.le_of_ble_eq_true rfl) dX4_explains_75 ⟨Nat.zero_le _, Nat.zero_le _⟩ ?_
                                  refine nv_icmp_ge (tgt := 186) hx hb dX4_explains_78 (by decide) (by omega) (by omega) (fun q_78 => ?_) (fun q_78 => ?_)
                                  · refine lv_iload_n hx hb dX4_explains_186 rfl (lv_at hl 3 rfl) ?_
                                    have E0 : decide (0 ≤ x.toInt) = true := decide_eq_true (Int32.le_iff_toInt_le.mp q_1)
                                    have hP : va_P D vwCl (wMd h a cI (rwF ρ) sv (nF (cond (decide (0 ≤ (x).toInt)) (rtG (ρ 0) (wvG (ρ 0) wv (nW (ρ 0))) (nW (ρ 0))) wv)) (nF (cond (decide (0 ≤ (x).toInt)) (nwG (ρ 0) nw (nA (ρ 0))) nw)) (nF b) ln at0 wd hh) H := by rw [E0]; exact hP
                                    have hD : va_D A (wMd h a cI (rwF ρ) sv (nF (cond (decide (0 ≤ (x).toInt)) (rtG (ρ 0) (wvG (ρ 0) wv (nW (ρ 0))) (nW (ρ 0))) wv)) (nF (cond (decide (0 ≤ (x).toInt)) (nwG (ρ 0) nw (nA (ρ 0))) nw)) (nF b) ln at0 wd hh) := by rw [E0]; exact hD
                                    exact mu_reti hx hb hr hlocks (by unfold aExplains; rw [E0]; show _ = exF (ρ 0) (cl x); exact exF_at (by omega) (by omega) (zB_ne0 q_141) hle2 q_145) hP hD hS dX4_explains_187
                                  · have hb1 : 16 * w + i < 2 ^ 31 := by omega
                                    refine lv_iload_n hx hb dX4_explains_81 rfl (lv_at hl 3 rfl) ?_
                                    refine lv_iconst (v := -1) hx hb dX4_explains_82 (by decide) ?_
                                    refine lv_icmp_ne (tgt := 186) hx hb dX4_explains_83 (by decide) (fun q_83 => ?_) (fun q_83 => False.elim (nI_m1 (by omega) q_83))
                                    refine lv_iload_n hx hb dX4_explains_186 rfl (lv_at hl 3 rfl) ?_
                                    have E0 : decide (0 ≤ x.toInt) = true := decide_eq_true (Int32.le_iff_toInt_le.mp q_1)
                                    have hP : va_P D vwCl (wMd h a cI (rwF ρ) sv (nF (cond (decide (0 ≤ (x).toInt)) (rtG (ρ 0) (wvG (ρ 0) wv (nW (ρ 0))) (nW (ρ 0))) wv)) (nF (cond (decide (0 ≤ (x).toInt)) (nwG (ρ 0) nw (nA (ρ 0))) nw)) (nF b) ln at0 wd hh) H := by rw [E0]; exact hP
                                    have hD : va_D A (wMd h a cI (rwF ρ) sv (nF (cond (decide (0 ≤ (x).toInt)) (rtG (ρ 0) (wvG (ρ 0) wv (nW (ρ 0))) (nW (ρ 0))) wv)) (nF (cond (decide (0 ≤ (x).toInt)) (nwG (ρ 0) nw (nA (ρ 0))) nw)) (nF b) ln at0 wd hh) := by rw [E0]; exact hD
                                    exact mu_reti hx hb hr hlocks (by unfold aExplains; rw [E0]; show _ = exF (ρ 0) (cl x); exact exF_at (by omega) (by omega) (zB_ne0 q_141) hle2 q_145) hP hD hS dX4_explains_187
                                · refine lv_iload_n hx hb dX4_explains_100 rfl (lv_at hl 2 rfl) ?_
                                  refine lv_iconst (v := -1) hx hb dX4_explains_101 (by decide) ?_
                                  refine lv_icmp_ne (tgt := 180) hx hb dX4_explains_102 (by decide) (fun q_102 => ?_) (fun q_102 => False.elim (nI_m1 (by omega) q_102))
                                  refine nv_inc (k := 4) (lv' := [(4, .int (nI (w + 1))), (5, .int (nI (i + 1))), (2, .int ((nI (cl x - ct (exP (ρ 0)) (w * ρ 0 0 + i))) - (nI (1)))), (3, .int (nI ((16 * w) + i))), (6, .int (zB (exE (ρ 0) w i))), (0, .ref h), (1, .int (nI (cl x)))]) hx hb dX4_explains_180 hl rfl (by decide) rfl (fun ls hl => ?_)
                                  refine lv_goto (tgt := 72) hx hb dX4_explains_183 (by decide) ?_
                                  refine lv_iload hx hb dX4_explains_72 (lv_at hl 0 rfl) ?_
                                  refine lv_aload_n hx hb dX4_explains_74 rfl (lv_at hl 5 rfl) ?_
                                  refine nv_callV [] [.int (nI (w + 1))] hx hb hml hown hts k_RX4_38 (c_X4_wires l D cI cR h a ρ sv ((rtG (ρ 0) (wvG (ρ 0) wv (nW (ρ 0))) (nW (ρ 0)))) ((nwG (ρ 0) nw (nA (ρ 0)))) b ln at0 wd hh ) ⟨rfl, rfl, Nat.le_of_ble_eq_true rfl, Nat.le_of_ble_eq_true rfl⟩ hP hK 4 rfl rfl rfl rfl hl rfl (Nat.le_of_ble_eq_true rfl) dX4_explains_75 ⟨Nat.zero_le _, Nat.zero_le _⟩ ?_
                                  refine nv_icmp_ge (tgt := 186) hx hb dX4_explains_78 (by decide) (by omega) (by omega) (fun q_78 => ?_) (fun q_78 => ?_)
                                  · refine lv_iload_n hx hb dX4_explains_186 rfl (lv_at hl 3 rfl) ?_
                                    have E0 : decide (0 ≤ x.toInt) = true := decide_eq_true (Int32.le_iff_toInt_le.mp q_1)
                                    have hP : va_P D vwCl (wMd h a cI (rwF ρ) sv (nF (cond (decide (0 ≤ (x).toInt)) (rtG (ρ 0) (wvG (ρ 0) wv (nW (ρ 0))) (nW (ρ 0))) wv)) (nF (cond (decide (0 ≤ (x).toInt)) (nwG (ρ 0) nw (nA (ρ 0))) nw)) (nF b) ln at0 wd hh) H := by rw [E0]; exact hP
                                    have hD : va_D A (wMd h a cI (rwF ρ) sv (nF (cond (decide (0 ≤ (x).toInt)) (rtG (ρ 0) (wvG (ρ 0) wv (nW (ρ 0))) (nW (ρ 0))) wv)) (nF (cond (decide (0 ≤ (x).toInt)) (nwG (ρ 0) nw (nA (ρ 0))) nw)) (nF b) ln at0 wd hh) := by rw [E0]; exact hD
                                    exact mu_reti hx hb hr hlocks (by unfold aExplains; rw [E0]; show _ = exF (ρ 0) (cl x); exact exF_at (by omega) (by omega) (zB_ne0 q_141) hle2 q_145) hP hD hS dX4_explains_187
                                  · have hb1 : 16 * w + i < 2 ^ 31 := by omega
                                    refine lv_iload_n hx hb dX4_explains_81 rfl (lv_at hl 3 rfl) ?_
                                    refine lv_iconst (v := -1) hx hb dX4_explains_82 (by decide) ?_
                                    refine lv_icmp_ne (tgt := 186) hx hb dX4_explains_83 (by decide) (fun q_83 => ?_) (fun q_83 => False.elim (nI_m1 (by omega) q_83))
                                    refine lv_iload_n hx hb dX4_explains_186 rfl (lv_at hl 3 rfl) ?_
                                    have E0 : decide (0 ≤ x.toInt) = true := decide_eq_true (Int32.le_iff_toInt_le.mp q_1)
                                    have hP : va_P D vwCl (wMd h a cI (rwF ρ) sv (nF (cond (decide (0 ≤ (x).toInt)) (rtG (ρ 0) (wvG (ρ 0) wv (nW (ρ 0))) (nW (ρ 0))) wv)) (nF (cond (decide (0 ≤ (x).toInt)) (nwG (ρ 0) nw (nA (ρ 0))) nw)) (nF b) ln at0 wd hh) H := by rw [E0]; exact hP
                                    have hD : va_D A (wMd h a cI (rwF ρ) sv (nF (cond (decide (0 ≤ (x).toInt)) (rtG (ρ 0) (wvG (ρ 0) wv (nW (ρ 0))) (nW (ρ 0))) wv)) (nF (cond (decide (0 ≤ (x).toInt)) (nwG (ρ 0) nw (nA (ρ 0))) nw)) (nF b) ln at0 wd hh) := by rw [E0]; exact hD
                                    exact mu_reti hx hb hr hlocks (by unfold aExplains; rw [E0]; show _ = exF (ρ 0) (cl x); exact exF_at (by omega) (by omega) (zB_ne0 q_141) hle2 q_145) hP hD hS dX4_explains_187
                      exact L89 (ρ 0 0 + 1) 0 (by omega) (by omega) (hle) _ _ hP hD hS ls (lv_sub hl [0, 1, 2, 3, 4, 5] rfl)
                have hl := lv_repl [(4, .int (nI 0)), (3, .int (-1)), (2, .int (nI (cl x - ct (exP (ρ 0)) (0 * ρ 0 0)))), (0, .ref h), (1, .int (nI (cl x)))] 2 rfl (congrArg (fun z : Nat => Value.int (nI z)) (show (cl x) = (cl x - ct (exP (ρ 0)) (0 * ρ 0 0)) from by rw [Nat.zero_mul]; rfl)) rfl hl
                exact L72 (nW (ρ 0) + 1) 0 (by omega) (by omega) (by rw [Nat.zero_mul]; exact Nat.zero_le _) _ _ hP hD hS ls (lv_sub hl [0, 1, 2, 3, 4] rfl)
              · refine lv_aload_n hx hb dX4_explains_48 rfl (lv_at hl 1 rfl) ?_
                refine va_get (D := D) (ci := 4) (v := .ref (a 1)) (C := RX4) (T := TX4) (N := 9) hx hb hts inX4 hown hK hP 0 rfl rfl 2 (by decide) (hts _ fl_RX4_13) (fun _ h9 => h9) rfl dX4_explains_49 ?_
                refine lv_iload_n hx hb dX4_explains_52 rfl (lv_at hl 0 rfl) ?_
                refine lv_aload_n hx hb dX4_explains_53 rfl (lv_at hl 1 rfl) ?_
                refine lv_iload_n hx hb dX4_explains_54 rfl (lv_at hl 0 rfl) ?_
                refine nv_callV [.int (nI i)] [.int (nI i), .ref (a 1)] hx hb hml hown hts k_RX4_59 (c_X4_right l D cI cR h a ρ sv ((rtG (ρ 0) (wvG (ρ 0) wv (nW (ρ 0))) i)) ((nwG (ρ 0) nw (nA (ρ 0)))) b ln at0 wd hh i hw (by omega)) ⟨rfl, rfl, Nat.le_of_ble_eq_true rfl, Nat.le_of_ble_eq_true rfl⟩ hP hK 4 rfl rfl rfl rfl hl rfl (Nat.le_of_ble_eq_true rfl) dX4_explains_55 ⟨Nat.zero_le _, Nat.zero_le _⟩ ?_
                refine nv_iast (D := D) (ws' := (wMd h a cI (rwF ρ) sv (upd (nF (rtG (ρ 0) (wvG (ρ 0) wv (nW (ρ 0))) i)) i (nI (rtM (ρ 0) i))) (nF (nwG (ρ 0) nw (nA (ρ 0)))) (nF b) ln at0 wd hh)) hx hb hK hP hD hS 2 0 rfl rfl (k := i) (by omega) (by decide) rfl dX4_explains_58 (fun H locs hP hD hS => ?_)
                have eR : (upd (nF (rtG (ρ 0) (wvG (ρ 0) wv (nW (ρ 0))) i)) i (nI (rtM (ρ 0) i))) = (nF (rtG (ρ 0) (wvG (ρ 0) wv (nW (ρ 0))) (i + 1))) := rtG_s _ _ _
                rw [eR] at hP hD
                have hP : va_P D vwCl (wMd h a cI (rwF ρ) sv (nF (rtG (ρ 0) (wvG (ρ 0) wv (nW (ρ 0))) (i + 1))) (nF (nwG (ρ 0) nw (nA (ρ 0)))) (nF b) ln at0 wd hh) H := hP
                have hD : va_D A (wMd h a cI (rwF ρ) sv (nF (rtG (ρ 0) (wvG (ρ 0) wv (nW (ρ 0))) (i + 1))) (nF (nwG (ρ 0) nw (nA (ρ 0)))) (nF b) ln at0 wd hh) := hD
                refine nv_inc (k := 0) (lv' := [(2, .int (nI (i + 1))), (0, .ref h), (1, .int (nI (cl x)))]) hx hb dX4_explains_59 hl rfl (by decide) rfl (fun ls hl => ?_)
                refine lv_goto (tgt := 40) hx hb dX4_explains_62 (by decide) ?_
                exact ih40 (i + 1) (by omega) (by omega)  _ _ hP hD hS ls (lv_sub hl [0, 1, 2] rfl)
          have eR : (nF (wvG (ρ 0) wv (nW (ρ 0)))) = (nF (rtG (ρ 0) (wvG (ρ 0) wv (nW (ρ 0))) 0)) := rtG_0 _ _
          rw [eR] at hP hD
          have hP : va_P D vwCl (wMd h a cI (rwF ρ) sv (nF (rtG (ρ 0) (wvG (ρ 0) wv (nW (ρ 0))) 0)) (nF (nwG (ρ 0) nw (nA (ρ 0)))) (nF b) ln at0 wd hh) H := hP
          have hD : va_D A (wMd h a cI (rwF ρ) sv (nF (rtG (ρ 0) (wvG (ρ 0) wv (nW (ρ 0))) 0)) (nF (nwG (ρ 0) nw (nA (ρ 0)))) (nF b) ln at0 wd hh) := hD
          exact L40 (nW (ρ 0) + 1) 0 (by omega) (by omega)  _ _ hP hD hS ls (lv_sub hl [0, 1, 2] rfl)
        · refine lv_aload_n hx hb dX4_explains_21 rfl (lv_at hl 1 rfl) ?_
          refine va_get (D := D) (ci := 4) (v := .ref (a 2)) (C := RX4) (T := TX4) (N := 9) hx hb hts inX4 hown hK hP 0 rfl rfl 3 (by decide) (hts _ fl_RX4_16) (fun _ h9 => h9) rfl dX4_explains_22 ?_
          refine lv_iload_n hx hb dX4_explains_25 rfl (lv_at hl 0 rfl) ?_
          refine lv_aload_n hx hb dX4_explains_26 rfl (lv_at hl 1 rfl) ?_
          refine lv_iload_n hx hb dX4_explains_27 rfl (lv_at hl 0 rfl) ?_
          refine nv_callV [.int (nI i)] [.int (nI i), .ref (a 2)] hx hb hml hown hts k_RX4_90 (c_X4_raw l D cI cR h a ρ sv ((wvG (ρ 0) wv (nW (ρ 0)))) ((nwG (ρ 0) nw i)) b ln at0 wd hh i hw (by omega)) ⟨rfl, rfl, Nat.le_of_ble_eq_true rfl, Nat.le_of_ble_eq_true rfl⟩ hP hK 4 rfl rfl rfl rfl hl rfl (Nat.le_of_ble_eq_true rfl) dX4_explains_28 ⟨Nat.zero_le _, Nat.zero_le _⟩ ?_
          refine nv_top (rwM (wvM (ρ 0)) (ρ 0) i) (rwM_congr hw (by omega) (fun w hw9 => wvG_in hw9)) ?_
          refine nv_iast (D := D) (ws' := (wMd h a cI (rwF ρ) sv (nF (wvG (ρ 0) wv (nW (ρ 0)))) (upd (nF (nwG (ρ 0) nw i)) i (nI (rwM (wvM (ρ 0)) (ρ 0) i))) (nF b) ln at0 wd hh)) hx hb hK hP hD hS 3 0 rfl rfl (k := i) (by omega) (by decide) rfl dX4_explains_31 (fun H locs hP hD hS => ?_)
          have eR : (upd (nF (nwG (ρ 0) nw i)) i (nI (rwM (wvM (ρ 0)) (ρ 0) i))) = (nF (nwG (ρ 0) nw (i + 1))) := nwG_s _ _ _
          rw [eR] at hP hD
          have hP : va_P D vwCl (wMd h a cI (rwF ρ) sv (nF (wvG (ρ 0) wv (nW (ρ 0)))) (nF (nwG (ρ 0) nw (i + 1))) (nF b) ln at0 wd hh) H := hP
          have hD : va_D A (wMd h a cI (rwF ρ) sv (nF (wvG (ρ 0) wv (nW (ρ 0)))) (nF (nwG (ρ 0) nw (i + 1))) (nF b) ln at0 wd hh) := hD
          refine nv_inc (k := 0) (lv' := [(2, .int (nI (i + 1))), (0, .ref h), (1, .int (nI (cl x)))]) hx hb dX4_explains_32 hl rfl (by decide) rfl (fun ls hl => ?_)
          refine lv_goto (tgt := 13) hx hb dX4_explains_35 (by decide) ?_
          exact ih13 (i + 1) (by omega) (by omega)  _ _ hP hD hS ls (lv_sub hl [0, 1, 2] rfl)
    have eR : (nF nw) = (nF (nwG (ρ 0) nw 0)) := nwG_0 _ _
    rw [eR] at hP hD
    have hP : va_P D vwCl (wMd h a cI (rwF ρ) sv (nF (wvG (ρ 0) wv (nW (ρ 0)))) (nF (nwG (ρ 0) nw 0)) (nF b) ln at0 wd hh) H := hP
    have hD : va_D A (wMd h a cI (rwF ρ) sv (nF (wvG (ρ 0) wv (nW (ρ 0)))) (nF (nwG (ρ 0) nw 0)) (nF b) ln at0 wd hh) := hD
    exact L13 (nA (ρ 0) + 1) 0 (by omega) (by omega)  _ _ hP hD hS ls (lv_sub hl [0, 1, 2] rfl)
  · refine lv_bipush (v := -3) hx hb dX4_explains_4 (by decide) ?_
    have E0 : decide (0 ≤ x.toInt) = false := decide_eq_false (fun z => q_1 (Int32.le_iff_toInt_le.mpr z))
    have hP : va_P D vwCl (wMd h a cI (rwF ρ) sv (nF (cond (decide (0 ≤ (x).toInt)) (rtG (ρ 0) (wvG (ρ 0) wv (nW (ρ 0))) (nW (ρ 0))) wv)) (nF (cond (decide (0 ≤ (x).toInt)) (nwG (ρ 0) nw (nA (ρ 0))) nw)) (nF b) ln at0 wd hh) H := by rw [E0]; exact hP
    have hD : va_D A (wMd h a cI (rwF ρ) sv (nF (cond (decide (0 ≤ (x).toInt)) (rtG (ρ 0) (wvG (ρ 0) wv (nW (ρ 0))) (nW (ρ 0))) wv)) (nF (cond (decide (0 ≤ (x).toInt)) (nwG (ρ 0) nw (nA (ρ 0))) nw)) (nF b) ln at0 wd hh) := by rw [E0]; exact hD
    exact mu_reti hx hb hr hlocks (by unfold aExplains; rw [E0]; rfl) hP hD hS dX4_explains_6
