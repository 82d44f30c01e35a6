set_option maxHeartbeats 4000000 in
set_option maxRecDepth 100000 in
/-- refused calls, and the end -/
theorem lw_1010 {p : Program} {e : Env} {s : State} {m : MethodId} {below : List Frame} {meth : Method} {c : Code} (l : Launch) {D : va_G} {cI cR : ClassId} {sb h : Nat} {ad : Nat → Nat} {aa : Nat → Nat → Nat} {L : Nat} {xs : Nat → Int32} (hL : L ≤ 260) (C0 : lw_At p s m meth c sb L xs) (hK : va_K D vwCl (nTy cI cR) s) (σ : Nat → Nat) (o : Nat) (n : Nat) (τ : Nat → Nat → Nat) (hi : lwI σ o n) : LG p l e s m below meth c D cI cR sb h ad aa 1010 [(1, .ref h)] σ o n τ := by
  obtain ⟨hx, hb, hr, hml, hown0, hts0, hX, hbl, hlocks, hgv⟩ := id C0
  have hts : ∀ w ∈ nT, w.before #[Value.ref sb] s = true := fun w q => hts0 w (List.mem_filter.mp q).1
  have hown : s.vm.findClass RL = some m.cls := hown0
  have hA : ∀ q : Nat, s.heap.size ≤ q → lwA s q := fun _ q => q
  have hbA : ¬ lwA s sb := Nat.not_le.mpr hbl
  obtain ⟨hw, h4, ho, hn⟩ := id hi
  have hA41 := hw.w41
  have hA33 := hw.a33
  have hA48 := hw.a48
  obtain ⟨hR2, hR, hB1, hB, hSa, hSb, -⟩ := id hw
  have hA0 := nA_pos hw
  intro H locs hP hD hS ls hl
  refine lv_aload_n hx hb dL_law_1010 rfl (lv_at hl 0 rfl) ?_
  refine nv_callVL [] [] hx hb hml hown hts k_RL_87 (c_X3_digestW l D cI cR h ad aa σ o n τ hw) ⟨rfl, rfl, Nat.le_of_ble_eq_true rfl, Nat.le_of_ble_eq_true rfl⟩ hP hK 3 rfl rfl rfl rfl hl rfl (Nat.le_of_ble_eq_true rfl) dL_law_1011 ⟨Nat.le_of_ble_eq_true rfl, Nat.le_of_ble_eq_true rfl⟩ ?_
  refine lv_lstore (lv' := [(11, .long (hsF σ)), (1, .ref h)]) hx hb dL_law_1014 hl (by decide) rfl (fun ls hl => ?_)
  refine lv_aload_n hx hb dL_law_1016 rfl (lv_at hl 1 rfl) ?_
  refine lv_iconst (v := nI 1) hx hb dL_law_1017 (by decide) ?_
  refine lv_iconst (v := nI 1) hx hb dL_law_1018 (by decide) ?_
  refine lv_iconst (v := nI 1) hx hb dL_law_1019 (by decide) ?_
  refine mu_allV (ws2 := (wS h ad aa cI cR σ o n τ)) [.int (nI 1), .int (nI 1), .int (nI 1)] [] hx hb hml hown hts k_RL_72 (fun sz => c_X3_beginE l D cI cR h ad aa σ o n τ 1 1 1 hw ho hn rfl sz) ⟨rfl, rfl, Nat.le_of_ble_eq_true rfl, Nat.le_of_ble_eq_true rfl⟩ hP hD hS hA hK 3 rfl rfl rfl rfl hl rfl (Nat.le_of_ble_eq_true rfl) dL_law_1020 ⟨Nat.le_of_ble_eq_true rfl, Nat.le_of_ble_eq_true rfl⟩ (fun H locs hP hD hS => ?_)
  refine W.eq (g2 := F0 m 1023 ls [.int (-3)]) rfl ?_
  refine lv_bipush (v := -3) hx hb dL_law_1023 (by decide) ?_
  refine lv_icmp_ne (tgt := 1168) hx hb dL_law_1025 (by decide) (fun q_1025 => False.elim (q_1025 rfl)) (fun q_1025 => ?_)
  refine lv_aload_n hx hb dL_law_1028 rfl (lv_at hl 1 rfl) ?_
  refine lv_aload_n hx hb dL_law_1029 rfl (lv_at hl 1 rfl) ?_
  refine lv_iconst (v := nI 0) hx hb dL_law_1030 (by decide) ?_
  refine nv_callV [.int (nI 0)] [.ref h] hx hb hml hown hts k_RL_8 (c_X3_count0 l D cI cR h ad aa σ o n τ 0 hw rfl) ⟨rfl, rfl, Nat.le_of_ble_eq_true rfl, Nat.le_of_ble_eq_true rfl⟩ hP hK 3 rfl rfl rfl rfl hl rfl (Nat.le_of_ble_eq_true rfl) dL_law_1031 ⟨Nat.le_of_ble_eq_true rfl, Nat.le_of_ble_eq_true rfl⟩ ?_
  refine lv_iconst (v := nI 0) hx hb dL_law_1034 (by decide) ?_
  refine mu_allV (ws2 := (wS h ad aa cI cR σ o n τ)) [.int (nI (σ 0)), .int (nI 0)] [] hx hb hml hown hts k_RL_47 (fun sz => c_X3_setCodeE1 l D cI cR h ad aa σ o n τ (σ 0) 0 hw ho hn rfl sz) ⟨rfl, rfl, Nat.le_of_ble_eq_true rfl, Nat.le_of_ble_eq_true rfl⟩ hP hD hS hA hK 3 rfl rfl rfl rfl hl rfl (Nat.le_of_ble_eq_true rfl) dL_law_1035 ⟨Nat.le_of_ble_eq_true rfl, Nat.le_of_ble_eq_true rfl⟩ (fun H locs hP hD hS => ?_)
  refine W.eq (g2 := F0 m 1038 ls [.int (-2)]) rfl ?_
  refine lv_bipush (v := -2) hx hb dL_law_1038 (by decide) ?_
  refine lv_icmp_ne (tgt := 1168) hx hb dL_law_1040 (by decide) (fun q_1040 => False.elim (q_1040 rfl)) (fun q_1040 => ?_)
  refine lv_aload_n hx hb dL_law_1043 rfl (lv_at hl 1 rfl) ?_
  refine lv_iconst (v := nI 0) hx hb dL_law_1044 (by decide) ?_
  refine lv_bipush (v := nI 16) hx hb dL_law_1045 (by decide) ?_
  refine mu_allV (ws2 := (wS h ad aa cI cR σ o n τ)) [.int (nI 0), .int (nI 16)] [] hx hb hml hown hts k_RL_47 (fun sz => c_X3_setCodeE2 l D cI cR h ad aa σ o n τ 0 16 hw ho hn rfl rfl sz) ⟨rfl, rfl, Nat.le_of_ble_eq_true rfl, Nat.le_of_ble_eq_true rfl⟩ hP hD hS hA hK 3 rfl rfl rfl rfl hl rfl (Nat.le_of_ble_eq_true rfl) dL_law_1047 ⟨Nat.le_of_ble_eq_true rfl, Nat.le_of_ble_eq_true rfl⟩ (fun H locs hP hD hS => ?_)
  refine W.eq (g2 := F0 m 1050 ls [.int (-3)]) rfl ?_
  refine lv_bipush (v := -3) hx hb dL_law_1050 (by decide) ?_
  refine lv_icmp_ne (tgt := 1168) hx hb dL_law_1052 (by decide) (fun q_1052 => False.elim (q_1052 rfl)) (fun q_1052 => ?_)
  refine lv_aload_n hx hb dL_law_1055 rfl (lv_at hl 1 rfl) ?_
  refine lv_aload_n hx hb dL_law_1056 rfl (lv_at hl 1 rfl) ?_
  refine lv_iconst (v := nI 3) hx hb dL_law_1057 (by decide) ?_
  refine nv_callV [.int (nI 3)] [.ref h] hx hb hml hown hts k_RL_8 (c_X3_count3 l D cI cR h ad aa σ o n τ 3 hw rfl) ⟨rfl, rfl, Nat.le_of_ble_eq_true rfl, Nat.le_of_ble_eq_true rfl⟩ hP hK 3 rfl rfl rfl rfl hl rfl (Nat.le_of_ble_eq_true rfl) dL_law_1058 ⟨Nat.le_of_ble_eq_true rfl, Nat.le_of_ble_eq_true rfl⟩ ?_
  refine lv_iconst (v := nI 0) hx hb dL_law_1061 (by decide) ?_
  refine mu_allV (ws2 := (wS h ad aa cI cR σ o n τ)) [.int (nI (nA σ)), .int (nI 0)] [] hx hb hml hown hts k_RL_50 (fun sz => c_X3_weaveE1 l D cI cR h ad aa σ o n τ (nA σ) 0 hw ho hn rfl sz) ⟨rfl, rfl, Nat.le_of_ble_eq_true rfl, Nat.le_of_ble_eq_true rfl⟩ hP hD hS hA hK 3 rfl rfl rfl rfl hl rfl (Nat.le_of_ble_eq_true rfl) dL_law_1062 ⟨Nat.le_of_ble_eq_true rfl, Nat.le_of_ble_eq_true rfl⟩ (fun H locs hP hD hS => ?_)
  refine W.eq (g2 := F0 m 1065 ls [.int (-2)]) rfl ?_
  refine lv_bipush (v := -2) hx hb dL_law_1065 (by decide) ?_
  refine lv_icmp_ne (tgt := 1168) hx hb dL_law_1067 (by decide) (fun q_1067 => False.elim (q_1067 rfl)) (fun q_1067 => ?_)
  refine lv_aload_n hx hb dL_law_1070 rfl (lv_at hl 1 rfl) ?_
  refine lv_iconst (v := nI 0) hx hb dL_law_1071 (by decide) ?_
  refine lv_iconst (v := nI 1) hx hb dL_law_1072 (by decide) ?_
  refine lv_aload_n hx hb dL_law_1073 rfl (lv_at hl 1 rfl) ?_
  refine lv_iconst (v := nI 1) hx hb dL_law_1074 (by decide) ?_
  refine nv_callV [.int (nI 1)] [.int (nI 1), .int (nI 0), .ref h] hx hb hml hown hts k_RL_8 (c_X3_count1 l D cI cR h ad aa σ o n τ 1 hw rfl) ⟨rfl, rfl, Nat.le_of_ble_eq_true rfl, Nat.le_of_ble_eq_true rfl⟩ hP hK 3 rfl rfl rfl rfl hl rfl (Nat.le_of_ble_eq_true rfl) dL_law_1075 ⟨Nat.le_of_ble_eq_true rfl, Nat.le_of_ble_eq_true rfl⟩ ?_
  refine nv_ishl hx hb dL_law_1078 (by omega) ?_
  refine mu_allV (ws2 := (wS h ad aa cI cR σ o n τ)) [.int (nI 0), .int (nI (1 <<< (σ 1)))] [] hx hb hml hown hts k_RL_50 (fun sz => c_X3_weaveE2 l D cI cR h ad aa σ o n τ 0 (1 <<< (σ 1)) hw ho hn hA0 rfl sz) ⟨rfl, rfl, Nat.le_of_ble_eq_true rfl, Nat.le_of_ble_eq_true rfl⟩ hP hD hS hA hK 3 rfl rfl rfl rfl hl rfl (Nat.le_of_ble_eq_true rfl) dL_law_1079 ⟨Nat.le_of_ble_eq_true rfl, Nat.le_of_ble_eq_true rfl⟩ (fun H locs hP hD hS => ?_)
  refine W.eq (g2 := F0 m 1082 ls [.int (-3)]) rfl ?_
  refine lv_bipush (v := -3) hx hb dL_law_1082 (by decide) ?_
  refine lv_icmp_ne (tgt := 1168) hx hb dL_law_1084 (by decide) (fun q_1084 => False.elim (q_1084 rfl)) (fun q_1084 => ?_)
  refine lv_aload_n hx hb dL_law_1087 rfl (lv_at hl 1 rfl) ?_
  refine lv_aload_n hx hb dL_law_1088 rfl (lv_at hl 1 rfl) ?_
  refine lv_iconst (v := nI 4) hx hb dL_law_1089 (by decide) ?_
  refine nv_callV [.int (nI 4)] [.ref h] hx hb hml hown hts k_RL_8 (c_X3_count4 l D cI cR h ad aa σ o n τ 4 hw rfl) ⟨rfl, rfl, Nat.le_of_ble_eq_true rfl, Nat.le_of_ble_eq_true rfl⟩ hP hK 3 rfl rfl rfl rfl hl rfl (Nat.le_of_ble_eq_true rfl) dL_law_1090 ⟨Nat.le_of_ble_eq_true rfl, Nat.le_of_ble_eq_true rfl⟩ ?_
  refine mu_allV (ws2 := (wS h ad aa cI cR σ o n τ)) [.int (nI (nW σ))] [] hx hb hml hown hts k_RL_53 (fun sz => c_X3_crossE1 l D cI cR h ad aa σ o n τ (nW σ) hw ho hn rfl sz) ⟨rfl, rfl, Nat.le_of_ble_eq_true rfl, Nat.le_of_ble_eq_true rfl⟩ hP hD hS hA hK 3 rfl rfl rfl rfl hl rfl (Nat.le_of_ble_eq_true rfl) dL_law_1093 ⟨Nat.le_of_ble_eq_true rfl, Nat.le_of_ble_eq_true rfl⟩ (fun H locs hP hD hS => ?_)
  refine W.eq (g2 := F0 m 1096 ls [.int (-2)]) rfl ?_
  refine lv_bipush (v := -2) hx hb dL_law_1096 (by decide) ?_
  refine lv_icmp_ne (tgt := 1168) hx hb dL_law_1098 (by decide) (fun q_1098 => False.elim (q_1098 rfl)) (fun q_1098 => ?_)
  refine lv_aload_n hx hb dL_law_1101 rfl (lv_at hl 1 rfl) ?_
  refine lv_bipush (v := nI 16) hx hb dL_law_1102 (by decide) ?_
  refine nv_callV [.int (nI 16)] [] hx hb hml hown hts k_RL_32 (c_X3_pickedE l D cI cR h ad aa σ o n τ 16 hw rfl) ⟨rfl, rfl, Nat.le_of_ble_eq_true rfl, Nat.le_of_ble_eq_true rfl⟩ hP hK 3 rfl rfl rfl rfl hl rfl (Nat.le_of_ble_eq_true rfl) dL_law_1104 ⟨Nat.le_of_ble_eq_true rfl, Nat.le_of_ble_eq_true rfl⟩ ?_
  refine lv_bipush (v := -3) hx hb dL_law_1107 (by decide) ?_
  refine lv_icmp_ne (tgt := 1168) hx hb dL_law_1109 (by decide) (fun q_1109 => False.elim (q_1109 rfl)) (fun q_1109 => ?_)
  refine lv_aload_n hx hb dL_law_1112 rfl (lv_at hl 1 rfl) ?_
  refine lv_iconst (v := nI 4) hx hb dL_law_1113 (by decide) ?_
  refine nv_callV [.int (nI 4)] [] hx hb hml hown hts k_RL_38 (c_X3_wrongE l D cI cR h ad aa σ o n τ 4 hw rfl) ⟨rfl, rfl, Nat.le_of_ble_eq_true rfl, Nat.le_of_ble_eq_true rfl⟩ hP hK 3 rfl rfl rfl rfl hl rfl (Nat.le_of_ble_eq_true rfl) dL_law_1114 ⟨Nat.le_of_ble_eq_true rfl, Nat.le_of_ble_eq_true rfl⟩ ?_
  refine lv_bipush (v := -3) hx hb dL_law_1117 (by decide) ?_
  refine lv_icmp_ne (tgt := 1168) hx hb dL_law_1119 (by decide) (fun q_1119 => False.elim (q_1119 rfl)) (fun q_1119 => ?_)
  refine lv_aload_n hx hb dL_law_1122 rfl (lv_at hl 1 rfl) ?_
  refine lv_iconst (v := -1) hx hb dL_law_1123 (by decide) ?_
  refine nv_callV [.int (-1)] [] hx hb hml hown hts k_RL_109 (c_X3_explainsE l D cI cR h ad aa σ o n τ (-1) hw rfl) ⟨rfl, rfl, Nat.le_of_ble_eq_true rfl, Nat.le_of_ble_eq_true rfl⟩ hP hK 3 rfl rfl rfl rfl hl rfl (Nat.le_of_ble_eq_true rfl) dL_law_1124 ⟨Nat.le_of_ble_eq_true rfl, Nat.le_of_ble_eq_true rfl⟩ ?_
  refine lv_bipush (v := -3) hx hb dL_law_1127 (by decide) ?_
  refine lv_icmp_ne (tgt := 1168) hx hb dL_law_1129 (by decide) (fun q_1129 => False.elim (q_1129 rfl)) (fun q_1129 => ?_)
  refine lv_aload_n hx hb dL_law_1132 rfl (lv_at hl 1 rfl) ?_
  refine lv_bipush (v := nI 9) hx hb dL_law_1133 (by decide) ?_
  refine nv_callV [.int (nI 9)] [] hx hb hml hown hts k_RL_8 (c_X3_count9 l D cI cR h ad aa σ o n τ 9 hw rfl) ⟨rfl, rfl, Nat.le_of_ble_eq_true rfl, Nat.le_of_ble_eq_true rfl⟩ hP hK 3 rfl rfl rfl rfl hl rfl (Nat.le_of_ble_eq_true rfl) dL_law_1135 ⟨Nat.le_of_ble_eq_true rfl, Nat.le_of_ble_eq_true rfl⟩ ?_
  refine lv_bipush (v := -3) hx hb dL_law_1138 (by decide) ?_
  refine lv_icmp_ne (tgt := 1168) hx hb dL_law_1140 (by decide) (fun q_1140 => False.elim (q_1140 rfl)) (fun q_1140 => ?_)
  refine lv_aload_n hx hb dL_law_1143 rfl (lv_at hl 1 rfl) ?_
  refine lv_iconst (v := nI 0) hx hb dL_law_1144 (by decide) ?_
  refine lv_iconst (v := -1) hx hb dL_law_1145 (by decide) ?_
  refine mu_allV (ws2 := (wS h ad aa cI cR σ o n τ)) [.int (nI 0), .int (-1)] [] hx hb hml hown hts k_RL_63 (fun sz => c_X3_patchE l D cI cR h ad aa σ o n τ 0 (-1) hw ho hn h4 hA0 rfl sz) ⟨rfl, rfl, Nat.le_of_ble_eq_true rfl, Nat.le_of_ble_eq_true rfl⟩ hP hD hS hA hK 3 rfl rfl rfl rfl hl rfl (Nat.le_of_ble_eq_true rfl) dL_law_1146 ⟨Nat.le_of_ble_eq_true rfl, Nat.le_of_ble_eq_true rfl⟩ (fun H locs hP hD hS => ?_)
  refine W.eq (g2 := F0 m 1149 ls [.int (-3)]) rfl ?_
  refine lv_bipush (v := -3) hx hb dL_law_1149 (by decide) ?_
  refine lv_icmp_ne (tgt := 1168) hx hb dL_law_1151 (by decide) (fun q_1151 => False.elim (q_1151 rfl)) (fun q_1151 => ?_)
  refine lv_aload_n hx hb dL_law_1154 rfl (lv_at hl 1 rfl) ?_
  refine nv_callVL [] [] hx hb hml hown hts k_RL_87 (c_X3_digestW l D cI cR h ad aa σ o n τ hw) ⟨rfl, rfl, Nat.le_of_ble_eq_true rfl, Nat.le_of_ble_eq_true rfl⟩ hP hK 3 rfl rfl rfl rfl hl rfl (Nat.le_of_ble_eq_true rfl) dL_law_1155 ⟨Nat.le_of_ble_eq_true rfl, Nat.le_of_ble_eq_true rfl⟩ ?_
  refine lv_lload hx hb dL_law_1158 (lv_at hl 0 rfl) ?_
  refine W.lcmp hx hb dL_law_1160 ?_
  refine nv_tope (nI 0) (cmp_same (rfl)) ?_
  refine nv_if_ne (tgt := 1168) hx hb dL_law_1161 (by decide) (by omega) (fun q_1161 => False.elim (by omega)) (fun q_1161 => ?_)
  refine lv_iconst (v := nI 1) hx hb dL_law_1164 (by decide) ?_
  refine lv_goto (tgt := 1169) hx hb dL_law_1165 (by decide) ?_
  refine va_forget (fun z hz => hS.2.2 z hz) ?_
  refine W.widen (k := 600000) (n := 7302250) (Nat.le_of_ble_eq_true rfl) (Nat.le_of_ble_eq_true rfl) ?_
  exact lw_ret hx hb hr hlocks dL_law_1169
