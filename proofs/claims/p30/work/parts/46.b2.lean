set_option maxHeartbeats 4000000 in
set_option maxRecDepth 100000 in
/-- spoilt twice all is as it was; economized -/
theorem lw_361 {p : Program} {e : Env} {s : State} {m : MethodId} {below : List Frame} {meth : Method} {c : Code} (l : Launch) {D : va_G} {cI cR : ClassId} {sb h : Nat} {ad : Nat → Nat} {aa : Nat → Nat → Nat} {L : Nat} {xs : Nat → Int32} (hL : L ≤ 260) (C0 : lw_At p s m meth c sb L xs) (hK : va_K D vwCl (nTy cI cR) s) (z : Int32) (σ : Nat → Nat) (o : Nat) (n : Nat) (τ : Nat → Nat → Nat) (r : Nat) (hi : lwI σ o n) (hrl : r < σ 0) : LG p l e s m below meth c D cI cR sb h ad aa 361 [(1, .ref h), (2, .int z), (3, .long (hsF σ)), (6, .int (nI r))] σ o n τ := by
  obtain ⟨hx, hb, hr, hml, hown0, hts0, hX, hbl, hlocks, hgv⟩ := id C0
  have hts : ∀ w ∈ nT, w.before #[Value.ref sb] s = true := fun w q => hts0 w (List.mem_filter.mp q).1
  have hown : s.vm.findClass RL = some m.cls := hown0
  have hA : ∀ q : Nat, s.heap.size ≤ q → lwA s q := fun _ q => q
  have hbA : ¬ lwA s sb := Nat.not_le.mpr hbl
  obtain ⟨hw, h4, ho, hn⟩ := id hi
  have hA41 := hw.w41
  have hA33 := hw.a33
  have hA48 := hw.a48
  obtain ⟨hR2, hR, hB1, hB, hSa, hSb, -⟩ := id hw
  have hn8 := nW8 σ
  intro H locs hP hD hS ls hl
  refine lv_iload_n hx hb dL_law_361 rfl (lv_at hl 1 rfl) ?_
  refine lv_bipush (v := nI 20) hx hb dL_law_362 (by decide) ?_
  refine lv_ishr hx hb dL_law_364 ?_
  refine lv_aload_n hx hb dL_law_365 rfl (lv_at hl 0 rfl) ?_
  refine lv_iconst (v := nI 4) hx hb dL_law_366 (by decide) ?_
  refine nv_callV [.int (nI 4)] [.int (z >>> ((nI (20)) &&& 31))] hx hb hml hown hts k_RL_8 (c_X3_count4 l D cI cR h ad aa σ o n τ 4 hw rfl) ⟨rfl, rfl, Nat.le_of_ble_eq_true rfl, Nat.le_of_ble_eq_true rfl⟩ hP hK 3 rfl rfl rfl rfl hl rfl (Nat.le_of_ble_eq_true rfl) dL_law_367 ⟨Nat.le_of_ble_eq_true rfl, Nat.le_of_ble_eq_true rfl⟩ ?_
  refine nv_callS [.int (z >>> ((nI (20)) &&& 31)), .int (nI (nW σ))] [] hx hb hml hown hts k_RL_41 (c_L_low l D cI cR (z >>> ((nI (20)) &&& 31)) (nW σ) (by omega) (by omega)) ⟨rfl, rfl, Nat.le_of_ble_eq_true rfl, Nat.le_of_ble_eq_true rfl⟩ (va_P_nil) hK rfl hl rfl (Nat.le_of_ble_eq_true rfl) dL_law_370 ⟨Nat.le_of_ble_eq_true rfl, Nat.le_of_ble_eq_true rfl⟩ ?_
  obtain ⟨w, ew⟩ : ∃ w, w = loN (z >>> (nI 20 &&& 31)) (nW σ) := ⟨_, rfl⟩
  have hwl : w < nW σ := by rw [ew]; exact loN_lt _ (by omega)
  have hb1 := toNat_le ((σ (100 + w) ^^^ 1 <<< r).testBit r)
  refine nv_top (w) (ew.symm) ?_
  refine lv_istore (lv' := [(8, .int (nI w)), (1, .ref h), (2, .int z), (3, .long (hsF σ)), (6, .int (nI r))]) hx hb dL_law_373 hl (by decide) rfl (fun ls hl => ?_)
  refine lv_aload_n hx hb dL_law_375 rfl (lv_at hl 1 rfl) ?_
  refine lv_iload hx hb dL_law_376 (lv_at hl 0 rfl) ?_
  refine lv_iload hx hb dL_law_378 (lv_at hl 4 rfl) ?_
  refine mu_allV (ws2 := (wS h ad aa cI cR (spS σ w r) (kpO o n) (kpN n) (va_up τ (kpS o n) σ))) [.int (nI w), .int (nI r)] [] hx hb hml hown hts k_RL_60 (fun sz => c_X3_spoilN l D cI cR h ad aa σ o n τ w r hw ho hn hwl hrl sz) ⟨rfl, rfl, Nat.le_of_ble_eq_true rfl, Nat.le_of_ble_eq_true rfl⟩ hP hD hS hA hK 3 rfl rfl rfl rfl hl rfl (Nat.le_of_ble_eq_true rfl) dL_law_380 ⟨Nat.le_of_ble_eq_true rfl, Nat.le_of_ble_eq_true rfl⟩ (fun H locs hP hD hS => ?_)
  refine W.eq (g2 := F0 m 383 ls [.int (nI (((σ (100 + w) ^^^ 1 <<< r).testBit r).toNat))]) rfl ?_
  refine lv_istore (lv' := [(9, .int (nI (((σ (100 + w) ^^^ 1 <<< r).testBit r).toNat))), (8, .int (nI w)), (1, .ref h), (2, .int z), (3, .long (hsF σ)), (6, .int (nI r))]) hx hb dL_law_383 hl (by decide) rfl (fun ls hl => ?_)
  refine lv_iload hx hb dL_law_385 (lv_at hl 0 rfl) ?_
  refine nv_if_lt (tgt := 414) hx hb dL_law_387 (by decide) (by omega) ?_
  refine lv_aload_n hx hb dL_law_390 rfl (lv_at hl 2 rfl) ?_
  refine lv_iload hx hb dL_law_391 (lv_at hl 1 rfl) ?_
  refine lv_iload hx hb dL_law_393 (lv_at hl 5 rfl) ?_
  refine mu_allV (ws2 := (wS h ad aa cI cR (spS (spS σ w r) w r) (kpO (kpO o n) (kpN n)) (kpN (kpN n)) (va_up (va_up τ (kpS o n) σ) (kpS (kpO o n) (kpN n)) (spS σ w r)))) [.int (nI w), .int (nI r)] [] hx hb hml hown hts k_RL_60 (fun sz => c_X3_spoilN l D cI cR h ad aa (spS σ w r) (kpO o n) (kpN n) (va_up τ (kpS o n) σ) w r (sp_wf hw hwl hrl) (kpO_lt ho) (kpN_le hn) (by rw [nW_sp]; exact hwl) (by rw [sp_ne (by omega)]; exact hrl) sz) ⟨rfl, rfl, Nat.le_of_ble_eq_true rfl, Nat.le_of_ble_eq_true rfl⟩ hP hD hS hA hK 3 rfl rfl rfl rfl hl rfl (Nat.le_of_ble_eq_true rfl) dL_law_395 ⟨Nat.le_of_ble_eq_true rfl, Nat.le_of_ble_eq_true rfl⟩ (fun H locs hP hD hS => ?_)
  refine W.eq (g2 := F0 m 398 ls [.int (nI ((((spS σ w r) (100 + w) ^^^ 1 <<< r).testBit r).toNat))]) rfl ?_
  have eW : spS (spS σ w r) w r = σ := sp_sp σ w r
  rw [eW] at hP
  rw [eW] at hD
  have hP : va_P D vwCl (wS h ad aa cI cR σ (kpO (kpO o n) (kpN n)) (kpN (kpN n)) (va_up (va_up τ (kpS o n) σ) (kpS (kpO o n) (kpN n)) (spS σ w r))) H := hP
  have hD : va_D (lwA s) (wS h ad aa cI cR σ (kpO (kpO o n) (kpN n)) (kpN (kpN n)) (va_up (va_up τ (kpS o n) σ) (kpS (kpO o n) (kpN n)) (spS σ w r))) := hD
  refine nv_top (1 - ((σ (100 + w) ^^^ 1 <<< r).testBit r).toNat) (sp_two σ w r) ?_
  refine lv_iconst (v := nI 1) hx hb dL_law_398 (by decide) ?_
  refine lv_iload hx hb dL_law_399 (lv_at hl 0 rfl) ?_
  refine nv_isub hx hb dL_law_401 (by omega) ?_
  refine nv_icmp_ne (tgt := 414) hx hb dL_law_402 (by decide) (by omega) (by omega) (fun q_402 => False.elim (q_402 rfl)) (fun q_402 => ?_)
  refine lv_aload_n hx hb dL_law_405 rfl (lv_at hl 2 rfl) ?_
  refine nv_callVL [] [] hx hb hml hown hts k_RL_87 (c_X3_digestW l D cI cR h ad aa σ (kpO (kpO o n) (kpN n)) (kpN (kpN n)) (va_up (va_up τ (kpS o n) σ) (kpS (kpO o n) (kpN n)) (spS σ w r)) hw) ⟨rfl, rfl, Nat.le_of_ble_eq_true rfl, Nat.le_of_ble_eq_true rfl⟩ hP hK 3 rfl rfl rfl rfl hl rfl (Nat.le_of_ble_eq_true rfl) dL_law_406 ⟨Nat.le_of_ble_eq_true rfl, Nat.le_of_ble_eq_true rfl⟩ ?_
  refine lv_lload_n hx hb dL_law_409 rfl (lv_at hl 4 rfl) ?_
  refine W.lcmp hx hb dL_law_410 ?_
  refine nv_tope (nI 0) (cmp_same (rfl)) ?_
  refine nv_if_eq (tgt := 416) hx hb dL_law_411 (by decide) (by omega) (fun q_411 => ?_) (fun q_411 => False.elim (by omega))
  refine lv_aload_n hx hb dL_law_416 rfl (lv_at hl 2 rfl) ?_
  refine mu_allV (ws2 := (wS h ad aa cI cR (ecS σ) (kpO (kpO (kpO o n) (kpN n)) (kpN (kpN n))) (kpN (kpN (kpN n))) (va_up (va_up (va_up τ (kpS o n) σ) (kpS (kpO o n) (kpN n)) (spS σ w r)) (kpS (kpO (kpO o n) (kpN n)) (kpN (kpN n))) σ))) [] [] hx hb hml hown hts k_RL_56 (fun sz => c_X3_economizeW l D cI cR h ad aa σ (kpO (kpO o n) (kpN n)) (kpN (kpN n)) (va_up (va_up τ (kpS o n) σ) (kpS (kpO o n) (kpN n)) (spS σ w r)) hw (kpO_lt (kpO_lt ho)) (kpN_le (kpN_le hn)) sz) ⟨rfl, rfl, Nat.le_of_ble_eq_true rfl, Nat.le_of_ble_eq_true rfl⟩ hP hD hS hA hK 3 rfl rfl rfl rfl hl rfl (Nat.le_of_ble_eq_true rfl) dL_law_417 ⟨Nat.le_of_ble_eq_true rfl, Nat.le_of_ble_eq_true rfl⟩ (fun H locs hP hD hS => ?_)
  refine W.eq (g2 := F0 m 420 ls [.int (nI (mcC σ (nW σ)))]) rfl ?_
  refine lv_pop hx hb dL_law_420 rfl ?_
  refine lv_bipush (v := nI 8) hx hb dL_law_421 (by decide) ?_
  refine lv_istore (lv' := [(10, .int (nI 8)), (9, .int (nI (((σ (100 + w) ^^^ 1 <<< r).testBit r).toNat))), (8, .int (nI w)), (1, .ref h), (2, .int z), (3, .long (hsF σ)), (6, .int (nI r))]) hx hb dL_law_423 hl (by decide) rfl (fun ls hl => ?_)
  exact lw_425 l hL C0 hK (ecS σ) (kpO (kpO (kpO o n) (kpN n)) (kpN (kpN n))) (kpN (kpN (kpN n))) (va_up (va_up (va_up τ (kpS o n) σ) (kpS (kpO o n) (kpN n)) (spS σ w r)) (kpS (kpO (kpO o n) (kpN n)) (kpN (kpN n))) σ) w r (hi.kp.kp.ec) (eco_ec hw) (ec_w hwl) (ec_r hrl) _ _ hP hD hS ls (lv_sub hl [3, 6, 2, 0] rfl)
