theorem c_X3_beginN (l : Launch) (D : va_G) (cI cR : ClassId) (h : Nat) (ad : Nat → Nat) (aa : Nat → Nat → Nat) (σ : Nat → Nat) (o : Nat) (n : Nat) (τ : Nat → Nat → Nat) (x : Nat) (y : Nat) (z : Nat)  (hw : wf σ) (ho : o < 5) (hn : n ≤ 5) (h1 : 2 ≤ x) (h2 : x ≤ 16) (h3 : 1 ≤ y) (h4 : y ≤ 10) (h5 : 1 ≤ z) (h6 : z ≤ 3) (sz : Nat) : Met l yX3_begin (wsC yX3_begin cX3_begin 5 (some .int)) (rmK 3 82) (nPreM D (nTy cI cR) [.ref h, .int (nI x), .int (nI y), .int (nI z)] (wS h ad aa cI cR σ o n τ) sz) (QcM D (some (.int (nI (nA σ)))) (wS h ad aa cI cR (bgS x y z) (kpO o n) (kpN n) (va_up τ (kpS o n) σ)) (va_A (wS h ad aa cI cR σ o n τ) sz)) 0 0 (va_A (wS h ad aa cI cR σ o n τ) sz) := by
  have q := c_X3_begin l D cI cR h ad aa σ o n τ (fun _ => 0) 0 (fun _ => 0) 0 (nI (x)) (nI (y)) (nI (z)) hw ho hn sz
  rw [show ok3 (nI x) (nI y) (nI z) = true from ok3_nI h1 h2 h3 h4 h5 h6] at q
  rw [show cl (nI x) = x from cl_nI (by omega)] at q
  rw [show cl (nI y) = y from cl_nI (by omega)] at q
  rw [show cl (nI z) = z from cl_nI (by omega)] at q
  exact q
set_option maxHeartbeats 4000000 in
set_option maxRecDepth 100000 in
/-- a new object; a rope is begun -/
theorem lw_8 {p : Program} {e : Env} {s : State} {m : MethodId} {below : List Frame} {meth : Method} {c : Code} (l : Launch) {D : va_G} {cI cR : ClassId} {sb h : Nat} {ad : Nat → Nat} {aa : Nat → Nat → Nat} {L : Nat} {xs : Nat → Int32} (hL : L ≤ 260) (C0 : lw_At p s m meth c sb L xs) (hK : va_K D vwCl (nTy cI cR) s)   : LG p l e s m below meth c D cI cR sb h ad aa 8 [(0, .ref sb), (1, .ref h)] σ0 0 0 ((fun _ => σ0)) := by
  obtain ⟨hx, hb, hr, hml, hown0, hts0, hX, hbl, hlocks, hgv⟩ := id C0
  have hts : ∀ w ∈ nT, w.before #[Value.ref sb] s = true := fun w q => hts0 w (List.mem_filter.mp q).1
  have hown : s.vm.findClass RL = some m.cls := hown0
  have hA : ∀ q : Nat, s.heap.size ≤ q → lwA s q := fun _ q => q
  have hbA : ¬ lwA s sb := Nat.not_le.mpr hbl
  have hw := wf_0
  have ho : 0 < 5 := by decide
  have hn : 0 ≤ 5 := by decide
  intro H locs hP hD hS ls hl
  refine lv_aload_n hx hb dL_law_8 rfl (lv_at hl 0 rfl) ?_
  refine lv_iconst (v := nI 0) hx hb dL_law_9 (by decide) ?_
  refine nx_cell hx hb hml hown hts k_RL_77 (c_L_cell l sb L xs 0 (by decide) (Nat.lt_of_le_of_lt hL (by decide))) ⟨rfl, rfl, Nat.le_of_ble_eq_true rfl, Nat.le_of_ble_eq_true rfl⟩ hX hbl hbA hS hl (Nat.le_of_ble_eq_true rfl) dL_law_10 ⟨Nat.le_of_ble_eq_true rfl, Nat.le_of_ble_eq_true rfl⟩ ?_
  obtain ⟨z, ez⟩ : ∃ v : Int32, v = ceF L xs 0 := ⟨_, rfl⟩
  refine nv_tope (z) (ez.symm) ?_
  have hz1 := loN_lt z (show 0 < 15 by decide)
  have hz2 := loN_lt (z >>> (nI 4 &&& 31)) (show 0 < 10 by decide)
  have hz3 := loN_lt (z >>> (nI 8 &&& 31)) (show 0 < 3 by decide)
  refine lv_istore_n (lv' := [(2, .int z), (0, .ref sb), (1, .ref h)]) hx hb dL_law_13 rfl hl (by decide) rfl (fun ls hl => ?_)
  refine lv_aload_n hx hb dL_law_14 rfl (lv_at hl 2 rfl) ?_
  refine mu_allV (ws2 := (wS h ad aa cI cR σ0 0 0 ((fun _ => σ0)))) [] [] hx hb hml hown hts k_RL_81 (fun sz => c_X3_undo0 l D cI cR h ad aa σ0 0 ((fun _ => σ0)) hw ho sz) ⟨rfl, rfl, Nat.le_of_ble_eq_true rfl, Nat.le_of_ble_eq_true rfl⟩ hP hD hS hA hK 3 rfl rfl rfl rfl hl rfl (Nat.le_of_ble_eq_true rfl) dL_law_15 ⟨Nat.le_of_ble_eq_true rfl, Nat.le_of_ble_eq_true rfl⟩ (fun H locs hP hD hS => ?_)
  refine W.eq (g2 := F0 m 18 ls [.int (-4)]) rfl ?_
  refine lv_bipush (v := -4) hx hb dL_law_18 (by decide) ?_
  refine lv_icmp_ne (tgt := 81) hx hb dL_law_20 (by decide) (fun q_20 => False.elim (q_20 rfl)) (fun q_20 => ?_)
  refine lv_aload_n hx hb dL_law_23 rfl (lv_at hl 2 rfl) ?_
  refine mu_allV (ws2 := (wS h ad aa cI cR σ0 0 0 ((fun _ => σ0)))) [] [] hx hb hml hown hts k_RL_84 (fun sz => c_X3_load0 l D cI cR h ad aa σ0 0 0 ((fun _ => σ0)) hw ho hn sz) ⟨rfl, rfl, Nat.le_of_ble_eq_true rfl, Nat.le_of_ble_eq_true rfl⟩ hP hD hS hA hK 3 rfl rfl rfl rfl hl rfl (Nat.le_of_ble_eq_true rfl) dL_law_24 ⟨Nat.le_of_ble_eq_true rfl, Nat.le_of_ble_eq_true rfl⟩ (fun H locs hP hD hS => ?_)
  refine W.eq (g2 := F0 m 27 ls [.int (-4)]) rfl ?_
  refine lv_bipush (v := -4) hx hb dL_law_27 (by decide) ?_
  refine lv_icmp_ne (tgt := 81) hx hb dL_law_29 (by decide) (fun q_29 => False.elim (q_29 rfl)) (fun q_29 => ?_)
  refine lv_aload_n hx hb dL_law_32 rfl (lv_at hl 2 rfl) ?_
  refine lv_iconst (v := nI 3) hx hb dL_law_33 (by decide) ?_
  refine nv_callV [.int (nI 3)] [] hx hb hml hown hts k_RL_8 (c_X3_count3 l D cI cR h ad aa σ0 0 0 ((fun _ => σ0)) 3 hw rfl) ⟨rfl, rfl, Nat.le_of_ble_eq_true rfl, Nat.le_of_ble_eq_true rfl⟩ hP hK 3 rfl rfl rfl rfl hl rfl (Nat.le_of_ble_eq_true rfl) dL_law_34 ⟨Nat.le_of_ble_eq_true rfl, Nat.le_of_ble_eq_true rfl⟩ ?_
  refine nv_top (16) (rfl) ?_
  refine lv_bipush (v := nI 16) hx hb dL_law_37 (by decide) ?_
  refine nv_icmp_ne (tgt := 81) hx hb dL_law_39 (by decide) (by omega) (by omega) (fun q_39 => False.elim (q_39 rfl)) (fun q_39 => ?_)
  refine lv_aload_n hx hb dL_law_42 rfl (lv_at hl 2 rfl) ?_
  refine lv_iconst (v := nI 4) hx hb dL_law_43 (by decide) ?_
  refine nv_callV [.int (nI 4)] [] hx hb hml hown hts k_RL_8 (c_X3_count4 l D cI cR h ad aa σ0 0 0 ((fun _ => σ0)) 4 hw rfl) ⟨rfl, rfl, Nat.le_of_ble_eq_true rfl, Nat.le_of_ble_eq_true rfl⟩ hP hK 3 rfl rfl rfl rfl hl rfl (Nat.le_of_ble_eq_true rfl) dL_law_44 ⟨Nat.le_of_ble_eq_true rfl, Nat.le_of_ble_eq_true rfl⟩ ?_
  refine nv_top (22) (rfl) ?_
  refine lv_bipush (v := nI 22) hx hb dL_law_47 (by decide) ?_
  refine nv_icmp_ne (tgt := 81) hx hb dL_law_49 (by decide) (by omega) (by omega) (fun q_49 => False.elim (q_49 rfl)) (fun q_49 => ?_)
  refine lv_aload_n hx hb dL_law_52 rfl (lv_at hl 2 rfl) ?_
  refine lv_iconst (v := nI 0) hx hb dL_law_53 (by decide) ?_
  refine nv_callV [.int (nI 0)] [] hx hb hml hown hts k_RL_38 (c_X3_wrongN l D cI cR h ad aa σ0 0 0 ((fun _ => σ0)) 0 hw (by omega)) ⟨rfl, rfl, Nat.le_of_ble_eq_true rfl, Nat.le_of_ble_eq_true rfl⟩ hP hK 3 rfl rfl rfl rfl hl rfl (Nat.le_of_ble_eq_true rfl) dL_law_54 ⟨Nat.le_of_ble_eq_true rfl, Nat.le_of_ble_eq_true rfl⟩ ?_
  refine nv_top (0) (wr_0) ?_
  refine nv_if_ne (tgt := 81) hx hb dL_law_57 (by decide) (by omega) (fun q_57 => False.elim (by omega)) (fun q_57 => ?_)
  refine lv_aload_n hx hb dL_law_60 rfl (lv_at hl 2 rfl) ?_
  refine lv_iconst (v := nI 0) hx hb dL_law_61 (by decide) ?_
  refine mu_allV (ws2 := (wS h ad aa cI cR σ0 0 0 ((fun _ => σ0)))) [.int (nI 0)] [] hx hb hml hown hts k_RL_66 (fun sz => c_X3_unpatchE l D cI cR h ad aa σ0 0 0 ((fun _ => σ0)) 0 hw ho hn (by decide) rfl sz) ⟨rfl, rfl, Nat.le_of_ble_eq_true rfl, Nat.le_of_ble_eq_true rfl⟩ hP hD hS hA hK 3 rfl rfl rfl rfl hl rfl (Nat.le_of_ble_eq_true rfl) dL_law_62 ⟨Nat.le_of_ble_eq_true rfl, Nat.le_of_ble_eq_true rfl⟩ (fun H locs hP hD hS => ?_)
  refine W.eq (g2 := F0 m 65 ls [.int (-4)]) rfl ?_
  refine lv_bipush (v := -4) hx hb dL_law_65 (by decide) ?_
  refine lv_icmp_ne (tgt := 81) hx hb dL_law_67 (by decide) (fun q_67 => False.elim (q_67 rfl)) (fun q_67 => ?_)
  refine lv_aload_n hx hb dL_law_70 rfl (lv_at hl 2 rfl) ?_
  refine lv_bipush (v := nI 7) hx hb dL_law_71 (by decide) ?_
  refine mu_allV (ws2 := (wS h ad aa cI cR σ0 0 0 ((fun _ => σ0)))) [.int (nI 7)] [] hx hb hml hown hts k_RL_53 (fun sz => c_X3_crossE2 l D cI cR h ad aa σ0 0 0 ((fun _ => σ0)) 7 hw ho hn (by decide) sz) ⟨rfl, rfl, Nat.le_of_ble_eq_true rfl, Nat.le_of_ble_eq_true rfl⟩ hP hD hS hA hK 3 rfl rfl rfl rfl hl rfl (Nat.le_of_ble_eq_true rfl) dL_law_73 ⟨Nat.le_of_ble_eq_true rfl, Nat.le_of_ble_eq_true rfl⟩ (fun H locs hP hD hS => ?_)
  refine W.eq (g2 := F0 m 76 ls [.int (-4)]) rfl ?_
  refine lv_bipush (v := -4) hx hb dL_law_76 (by decide) ?_
  refine lv_icmp_eq (tgt := 83) hx hb dL_law_78 (by decide) (fun q_78 => ?_) (fun q_78 => False.elim (q_78 rfl))
  refine lv_aload_n hx hb dL_law_83 rfl (lv_at hl 2 rfl) ?_
  refine lv_iconst (v := nI 2) hx hb dL_law_84 (by decide) ?_
  refine lv_iload_n hx hb dL_law_85 rfl (lv_at hl 0 rfl) ?_
  refine lv_bipush (v := nI 15) hx hb dL_law_86 (by decide) ?_
  refine nv_callS [.int z, .int (nI 15)] [.int (nI 2), .ref h] hx hb hml hown hts k_RL_41 (c_L_low l D cI cR z 15 (by omega) (by omega)) ⟨rfl, rfl, Nat.le_of_ble_eq_true rfl, Nat.le_of_ble_eq_true rfl⟩ (va_P_nil) hK rfl hl rfl (Nat.le_of_ble_eq_true rfl) dL_law_88 ⟨Nat.le_of_ble_eq_true rfl, Nat.le_of_ble_eq_true rfl⟩ ?_
  refine nv_iadd hx hb dL_law_91 ?_
  refine lv_iconst (v := nI 1) hx hb dL_law_92 (by decide) ?_
  refine lv_iload_n hx hb dL_law_93 rfl (lv_at hl 0 rfl) ?_
  refine lv_iconst (v := nI 4) hx hb dL_law_94 (by decide) ?_
  refine lv_ishr hx hb dL_law_95 ?_
  refine lv_bipush (v := nI 10) hx hb dL_law_96 (by decide) ?_
  refine nv_callS [.int (z >>> ((nI (4)) &&& 31)), .int (nI 10)] [.int (nI 1), .int (nI (2 + (loN z 15))), .ref h] hx hb hml hown hts k_RL_41 (c_L_low l D cI cR (z >>> ((nI (4)) &&& 31)) 10 (by omega) (by omega)) ⟨rfl, rfl, Nat.le_of_ble_eq_true rfl, Nat.le_of_ble_eq_true rfl⟩ (va_P_nil) hK rfl hl rfl (Nat.le_of_ble_eq_true rfl) dL_law_98 ⟨Nat.le_of_ble_eq_true rfl, Nat.le_of_ble_eq_true rfl⟩ ?_
  refine nv_iadd hx hb dL_law_101 ?_
  refine lv_iconst (v := nI 1) hx hb dL_law_102 (by decide) ?_
  refine lv_iload_n hx hb dL_law_103 rfl (lv_at hl 0 rfl) ?_
  refine lv_bipush (v := nI 8) hx hb dL_law_104 (by decide) ?_
  refine lv_ishr hx hb dL_law_106 ?_
  refine lv_iconst (v := nI 3) hx hb dL_law_107 (by decide) ?_
  refine nv_callS [.int (z >>> ((nI (8)) &&& 31)), .int (nI 3)] [.int (nI 1), .int (nI (1 + (loN (z >>> ((nI (4)) &&& 31)) 10))), .int (nI (2 + (loN z 15))), .ref h] hx hb hml hown hts k_RL_41 (c_L_low l D cI cR (z >>> ((nI (8)) &&& 31)) 3 (by omega) (by omega)) ⟨rfl, rfl, Nat.le_of_ble_eq_true rfl, Nat.le_of_ble_eq_true rfl⟩ (va_P_nil) hK rfl hl rfl (Nat.le_of_ble_eq_true rfl) dL_law_108 ⟨Nat.le_of_ble_eq_true rfl, Nat.le_of_ble_eq_true rfl⟩ ?_
  refine nv_iadd hx hb dL_law_111 ?_
  refine mu_allV (ws2 := (wS h ad aa cI cR (bgS (2 + (loN z 15)) (1 + (loN (z >>> ((nI (4)) &&& 31)) 10)) (1 + (loN (z >>> ((nI (8)) &&& 31)) 3))) (kpO 0 0) (kpN 0) (va_up ((fun _ => σ0)) (kpS 0 0) σ0))) [.int (nI (2 + (loN z 15))), .int (nI (1 + (loN (z >>> ((nI (4)) &&& 31)) 10))), .int (nI (1 + (loN (z >>> ((nI (8)) &&& 31)) 3)))] [] hx hb hml hown hts k_RL_72 (fun sz => c_X3_beginN l D cI cR h ad aa σ0 0 0 ((fun _ => σ0)) (2 + (loN z 15)) (1 + (loN (z >>> ((nI (4)) &&& 31)) 10)) (1 + (loN (z >>> ((nI (8)) &&& 31)) 3)) hw ho hn (by omega) (by omega) (by omega) (by omega) (by omega) (by omega) sz) ⟨rfl, rfl, Nat.le_of_ble_eq_true rfl, Nat.le_of_ble_eq_true rfl⟩ hP hD hS hA hK 3 rfl rfl rfl rfl hl rfl (Nat.le_of_ble_eq_true rfl) dL_law_112 ⟨Nat.le_of_ble_eq_true rfl, Nat.le_of_ble_eq_true rfl⟩ (fun H locs hP hD hS => ?_)
  refine W.eq (g2 := F0 m 115 ls [.int (nI (nA σ0))]) rfl ?_
  refine nv_top (16) (rfl) ?_
  refine lv_bipush (v := nI 16) hx hb dL_law_115 (by decide) ?_
  refine nv_icmp_eq (tgt := 122) hx hb dL_law_117 (by decide) (by omega) (by omega) (fun q_117 => ?_) (fun q_117 => False.elim (q_117 rfl))
  refine lv_iconst (v := nI 0) hx hb dL_law_122 (by decide) ?_
  refine lv_istore_n (lv' := [(3, .int (nI 0)), (2, .int z), (0, .ref sb), (1, .ref h)]) hx hb dL_law_123 rfl hl (by decide) rfl (fun ls hl => ?_)
  exact lw_124 l hL C0 hK z (bgS (2 + (loN z 15)) (1 + (loN (z >>> ((nI (4)) &&& 31)) 10)) (1 + (loN (z >>> ((nI (8)) &&& 31)) 3))) (kpO 0 0) (kpN 0) (va_up ((fun _ => σ0)) (kpS 0 0) σ0) (lwI.bg (by omega) (by omega) (by omega) (by omega) (by omega) (by omega) (by decide) (by decide)) _ _ hP hD hS ls (lv_sub hl [2, 3, 1, 0] rfl)
