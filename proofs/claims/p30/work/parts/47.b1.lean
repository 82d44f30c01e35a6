set_option maxHeartbeats 4000000 in
set_option maxRecDepth 100000 in
/-- crossed twice all is as it was -/
theorem lw_285 {p : Program} {e : Env} {s : State} {m : MethodId} {below : List Frame} {meth : Method} {c : Code} (l : Launch) {D : va_G} {cI cR : ClassId} {sb h : Nat} {ad : Nat → Nat} {aa : Nat → Nat → Nat} {L : Nat} {xs : Nat → Int32} (hL : L ≤ 260) (C0 : lw_At p s m meth c sb L xs) (hK : va_K D vwCl (nTy cI cR) s) (z : Int32) (σ : Nat → Nat) (o : Nat) (n : Nat) (τ : Nat → Nat → Nat) (hi : lwI σ o n) : LG p l e s m below meth c D cI cR sb h ad aa 285 [(1, .ref h), (2, .int z)] σ o n τ := by
  obtain ⟨hx, hb, hr, hml, hown0, hts0, hX, hbl, hlocks, hgv⟩ := id C0
  have hts : ∀ w ∈ nT, w.before #[Value.ref sb] s = true := fun w q => hts0 w (List.mem_filter.mp q).1
  have hown : s.vm.findClass RL = some m.cls := hown0
  have hA : ∀ q : Nat, s.heap.size ≤ q → lwA s q := fun _ q => q
  have hbA : ¬ lwA s sb := Nat.not_le.mpr hbl
  obtain ⟨hw, h4, ho, hn⟩ := id hi
  have hA41 := hw.w41
  have hA33 := hw.a33
  have hA48 := hw.a48
  obtain ⟨hR2, hR, hB1, hB, hSa, hSb, -⟩ := id hw
  have hn8 := nW_10 hw
  intro H locs hP hD hS ls hl
  refine lv_aload_n hx hb dL_law_285 rfl (lv_at hl 0 rfl) ?_
  refine nv_callVL [] [] hx hb hml hown hts k_RL_87 (c_X3_digestW l D cI cR h ad aa σ o n τ hw) ⟨rfl, rfl, Nat.le_of_ble_eq_true rfl, Nat.le_of_ble_eq_true rfl⟩ hP hK 3 rfl rfl rfl rfl hl rfl (Nat.le_of_ble_eq_true rfl) dL_law_286 ⟨Nat.le_of_ble_eq_true rfl, Nat.le_of_ble_eq_true rfl⟩ ?_
  refine lv_lstore_n (lv' := [(3, .long (hsF σ)), (1, .ref h), (2, .int z)]) hx hb dL_law_289 rfl hl (by decide) rfl (fun ls hl => ?_)
  refine lv_bipush (v := nI 8) hx hb dL_law_290 (by decide) ?_
  refine lv_iload_n hx hb dL_law_292 rfl (lv_at hl 2 rfl) ?_
  refine lv_bipush (v := nI 10) hx hb dL_law_293 (by decide) ?_
  refine lv_ishr hx hb dL_law_295 ?_
  refine lv_aload_n hx hb dL_law_296 rfl (lv_at hl 1 rfl) ?_
  refine lv_iconst (v := nI 4) hx hb dL_law_297 (by decide) ?_
  refine nv_callV [.int (nI 4)] [.int (z >>> ((nI (10)) &&& 31)), .int (nI 8)] hx hb hml hown hts k_RL_8 (c_X3_count4 l D cI cR h ad aa σ o n τ 4 hw rfl) ⟨rfl, rfl, Nat.le_of_ble_eq_true rfl, Nat.le_of_ble_eq_true rfl⟩ hP hK 3 rfl rfl rfl rfl hl rfl (Nat.le_of_ble_eq_true rfl) dL_law_298 ⟨Nat.le_of_ble_eq_true rfl, Nat.le_of_ble_eq_true rfl⟩ ?_
  refine lv_bipush (v := nI 8) hx hb dL_law_301 (by decide) ?_
  refine nv_isub hx hb dL_law_303 (by omega) ?_
  refine nv_callS [.int (z >>> ((nI (10)) &&& 31)), .int (nI ((nW σ) - 8))] [.int (nI 8)] hx hb hml hown hts k_RL_41 (c_L_low l D cI cR (z >>> ((nI (10)) &&& 31)) ((nW σ) - 8) (by omega) (by omega)) ⟨rfl, rfl, Nat.le_of_ble_eq_true rfl, Nat.le_of_ble_eq_true rfl⟩ (va_P_nil) hK rfl hl rfl (Nat.le_of_ble_eq_true rfl) dL_law_304 ⟨Nat.le_of_ble_eq_true rfl, Nat.le_of_ble_eq_true rfl⟩ ?_
  refine nv_iadd hx hb dL_law_307 ?_
  obtain ⟨v, ev⟩ : ∃ v, v = 8 + loN (z >>> (nI 10 &&& 31)) (nW σ - 8) := ⟨_, rfl⟩
  have hlo := loN_lt (z >>> (nI 10 &&& 31)) (show 0 < nW σ - 8 by omega)
  have hv8 : 8 ≤ v := by omega
  have hvl : v < nW σ := by omega
  have hcv := crN_le hw hvl
  refine nv_top (v) (ev.symm) ?_
  refine lv_istore (lv' := [(5, .int (nI v)), (3, .long (hsF σ)), (1, .ref h), (2, .int z)]) hx hb dL_law_308 hl (by decide) rfl (fun ls hl => ?_)
  refine lv_iload_n hx hb dL_law_310 rfl (lv_at hl 3 rfl) ?_
  refine lv_bipush (v := nI 16) hx hb dL_law_311 (by decide) ?_
  refine lv_ishr hx hb dL_law_313 ?_
  refine lv_aload_n hx hb dL_law_314 rfl (lv_at hl 2 rfl) ?_
  refine lv_iconst (v := nI 0) hx hb dL_law_315 (by decide) ?_
  refine nv_callV [.int (nI 0)] [.int (z >>> ((nI (16)) &&& 31))] hx hb hml hown hts k_RL_8 (c_X3_count0 l D cI cR h ad aa σ o n τ 0 hw rfl) ⟨rfl, rfl, Nat.le_of_ble_eq_true rfl, Nat.le_of_ble_eq_true rfl⟩ hP hK 3 rfl rfl rfl rfl hl rfl (Nat.le_of_ble_eq_true rfl) dL_law_316 ⟨Nat.le_of_ble_eq_true rfl, Nat.le_of_ble_eq_true rfl⟩ ?_
  refine nv_callS [.int (z >>> ((nI (16)) &&& 31)), .int (nI (σ 0))] [] hx hb hml hown hts k_RL_41 (c_L_low l D cI cR (z >>> ((nI (16)) &&& 31)) (σ 0) (by omega) (by omega)) ⟨rfl, rfl, Nat.le_of_ble_eq_true rfl, Nat.le_of_ble_eq_true rfl⟩ (va_P_nil) hK rfl hl rfl (Nat.le_of_ble_eq_true rfl) dL_law_319 ⟨Nat.le_of_ble_eq_true rfl, Nat.le_of_ble_eq_true rfl⟩ ?_
  obtain ⟨r, er⟩ : ∃ r, r = loN (z >>> (nI 16 &&& 31)) (σ 0) := ⟨_, rfl⟩
  have hrl : r < σ 0 := by rw [er]; exact loN_lt _ (by omega)
  refine nv_top (r) (er.symm) ?_
  refine lv_istore (lv' := [(6, .int (nI r)), (5, .int (nI v)), (3, .long (hsF σ)), (1, .ref h), (2, .int z)]) hx hb dL_law_322 hl (by decide) rfl (fun ls hl => ?_)
  refine lv_aload_n hx hb dL_law_324 rfl (lv_at hl 3 rfl) ?_
  refine lv_iload hx hb dL_law_325 (lv_at hl 1 rfl) ?_
  refine mu_allV (ws2 := (wS h ad aa cI cR (flS σ v) (kpO o n) (kpN n) (va_up τ (kpS o n) σ))) [.int (nI v)] [] hx hb hml hown hts k_RL_53 (fun sz => c_X3_crossN l D cI cR h ad aa σ o n τ v hw ho hn hv8 hvl sz) ⟨rfl, rfl, Nat.le_of_ble_eq_true rfl, Nat.le_of_ble_eq_true rfl⟩ hP hD hS hA hK 3 rfl rfl rfl rfl hl rfl (Nat.le_of_ble_eq_true rfl) dL_law_327 ⟨Nat.le_of_ble_eq_true rfl, Nat.le_of_ble_eq_true rfl⟩ (fun H locs hP hD hS => ?_)
  refine W.eq (g2 := F0 m 330 ls [.int (nI (1 - crN σ v))]) rfl ?_
  refine lv_istore (lv' := [(7, .int (nI (1 - crN σ v))), (6, .int (nI r)), (5, .int (nI v)), (3, .long (hsF σ)), (1, .ref h), (2, .int z)]) hx hb dL_law_330 hl (by decide) rfl (fun ls hl => ?_)
  refine lv_iload hx hb dL_law_332 (lv_at hl 0 rfl) ?_
  refine nv_if_lt (tgt := 359) hx hb dL_law_334 (by decide) (by omega) ?_
  refine lv_aload_n hx hb dL_law_337 rfl (lv_at hl 4 rfl) ?_
  refine lv_iload hx hb dL_law_338 (lv_at hl 2 rfl) ?_
  refine mu_allV (ws2 := (wS h ad aa cI cR (flS (flS σ v) v) (kpO (kpO o n) (kpN n)) (kpN (kpN n)) (va_up (va_up τ (kpS o n) σ) (kpS (kpO o n) (kpN n)) (flS σ v)))) [.int (nI v)] [] hx hb hml hown hts k_RL_53 (fun sz => c_X3_crossN l D cI cR h ad aa (flS σ v) (kpO o n) (kpN n) (va_up τ (kpS o n) σ) v (fl_wf hw hv8 hvl) (kpO_lt ho) (kpN_le hn) hv8 (by rw [nW_fl]; exact hvl) sz) ⟨rfl, rfl, Nat.le_of_ble_eq_true rfl, Nat.le_of_ble_eq_true rfl⟩ hP hD hS hA hK 3 rfl rfl rfl rfl hl rfl (Nat.le_of_ble_eq_true rfl) dL_law_340 ⟨Nat.le_of_ble_eq_true rfl, Nat.le_of_ble_eq_true rfl⟩ (fun H locs hP hD hS => ?_)
  refine W.eq (g2 := F0 m 343 ls [.int (nI (1 - crN (flS σ v) v))]) rfl ?_
  have eW : flS (flS σ v) v = σ := fl_fl hw hv8 hvl
  rw [eW] at hP
  rw [eW] at hD
  have hP : va_P D vwCl (wS h ad aa cI cR σ (kpO (kpO o n) (kpN n)) (kpN (kpN n)) (va_up (va_up τ (kpS o n) σ) (kpS (kpO o n) (kpN n)) (flS σ v))) H := hP
  have hD : va_D (lwA s) (wS h ad aa cI cR σ (kpO (kpO o n) (kpN n)) (kpN (kpN n)) (va_up (va_up τ (kpS o n) σ) (kpS (kpO o n) (kpN n)) (flS σ v))) := hD
  refine nv_top (1 - (1 - crN σ v)) (by rw [show crN (flS σ v) v = 1 - crN σ v from cr_up hv8]) ?_
  refine lv_iconst (v := nI 1) hx hb dL_law_343 (by decide) ?_
  refine lv_iload hx hb dL_law_344 (lv_at hl 0 rfl) ?_
  refine nv_isub hx hb dL_law_346 (by omega) ?_
  refine nv_icmp_ne (tgt := 359) hx hb dL_law_347 (by decide) (by omega) (by omega) (fun q_347 => False.elim (q_347 rfl)) (fun q_347 => ?_)
  refine lv_aload_n hx hb dL_law_350 rfl (lv_at hl 4 rfl) ?_
  refine nv_callVL [] [] hx hb hml hown hts k_RL_87 (c_X3_digestW l D cI cR h ad aa σ (kpO (kpO o n) (kpN n)) (kpN (kpN n)) (va_up (va_up τ (kpS o n) σ) (kpS (kpO o n) (kpN n)) (flS σ v)) hw) ⟨rfl, rfl, Nat.le_of_ble_eq_true rfl, Nat.le_of_ble_eq_true rfl⟩ hP hK 3 rfl rfl rfl rfl hl rfl (Nat.le_of_ble_eq_true rfl) dL_law_351 ⟨Nat.le_of_ble_eq_true rfl, Nat.le_of_ble_eq_true rfl⟩ ?_
  refine lv_lload_n hx hb dL_law_354 rfl (lv_at hl 3 rfl) ?_
  refine W.lcmp hx hb dL_law_355 ?_
  refine nv_tope (nI 0) (cmp_same (rfl)) ?_
  refine nv_if_eq (tgt := 361) hx hb dL_law_356 (by decide) (by omega) (fun q_356 => ?_) (fun q_356 => False.elim (by omega))
  exact lw_361 l hL C0 hK z σ (kpO (kpO o n) (kpN n)) (kpN (kpN n)) (va_up (va_up τ (kpS o n) σ) (kpS (kpO o n) (kpN n)) (flS σ v)) r (hi.kp.kp) hrl _ _ hP hD hS ls (lv_sub hl [4, 5, 3, 1] rfl)
