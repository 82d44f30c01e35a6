set_option maxHeartbeats 4000000 in
set_option maxRecDepth 100000 in
theorem lw_through {p : Program} {e : Env} {s : State} {m : MethodId} {below : List Frame} {meth : Method} {c : Code} (l : Launch) {D : va_G} {cI cR : ClassId} {sb h h2 : Nat} {ad : Nat → Nat} {aa : Nat → Nat → Nat} {a2 : Nat → Nat} {i L : Nat} {xs : Nat → Int32} (hL : L ≤ 2048) (C0 : lw_At p s m meth c sb L xs) (hK : va_K D vwCl (nTy cI cR) s) (hi : i + 4 ≤ L) (kk : LK p l e s m below meth c D cI cR sb h h2 ad aa a2 i 778) : LK p l e s m below meth c D cI cR sb h h2 ad aa a2 i 357 := by
  obtain ⟨hx, hb, hr, hml, hown0, hts0, hX, hbl, hlocks, hgv⟩ := id C0
  have hts : ∀ w ∈ nT, w.before #[Value.ref sb] s = true := fun w q => hts0 w (List.mem_filter.mp q).1
  have hown : s.vm.findClass RL = some m.cls := hown0
  have hA : ∀ q : Nat, s.heap.size ≤ q → lwA s q := fun _ q => q
  have hbA : ¬ lwA s sb := Nat.not_le.mpr hbl
  obtain ⟨x, ex⟩ : ∃ v : Int32, v = xs (nI (i + 1)).toNatClampNeg := ⟨_, rfl⟩
  obtain ⟨y, ey⟩ : ∃ v : Int32, v = xs (nI (i + 2)).toNatClampNeg := ⟨_, rfl⟩
  intro ρ τ σ o n b ln g fo0 wv nw at0 wd hh eσ hI H locs hP hD hS ls hl
  subst eσ
  obtain ⟨hw, h4, ho, hn, -, hln, hb0⟩ := id hI
  refine lv_aload_n hx hb dL_law_357 rfl (lv_at hl 2 rfl) ?_
  refine lv_aload_n hx hb dL_law_358 rfl (lv_at hl 3 rfl) ?_
  refine lv_iload_n hx hb dL_law_359 rfl (lv_at hl 0 rfl) ?_
  refine lv_iconst (v := nI 1) hx hb dL_law_360 (by decide) ?_
  refine nv_iadd hx hb dL_law_361 ?_
  refine va_sld hx hb hX hbl hbA hS (vp_in_nI (by omega) (by omega)) dL_law_362 ?_
  refine nv_tope x ex.symm ?_
  refine lv_aload_n hx hb dL_law_363 rfl (lv_at hl 3 rfl) ?_
  refine lv_iload_n hx hb dL_law_364 rfl (lv_at hl 0 rfl) ?_
  refine lv_iconst (v := nI 2) hx hb dL_law_365 (by decide) ?_
  refine nv_iadd hx hb dL_law_366 ?_
  refine va_sld hx hb hX hbl hbA hS (vp_in_nI (by omega) (by omega)) dL_law_367 ?_
  refine nv_tope y ey.symm ?_
  refine nv_callV [.int x, .int y] [] hx hb hml hown hts k_RL_44 (c_X3_through l D cI cR h ad aa (ρ 0) o n τ b ln g fo0 x y hw) ⟨rfl, rfl, Nat.le_of_ble_eq_true rfl, Nat.le_of_ble_eq_true rfl⟩ (hP.sub [0, 1, 2, 3, 4, 5, 6, 7, 8, 9, 10, 11, 12, 13, 14, 15, 16, 17, 18, 19, 20, 21, 22, 23, 24, 25, 26, 27, 28, 29, 30, 31, 32, 33, 34, 35] rfl) hK 3 rfl rfl rfl rfl hl rfl (Nat.le_of_ble_eq_true rfl) dL_law_368 ⟨Nat.le_of_ble_eq_true rfl, Nat.le_of_ble_eq_true rfl⟩ ?_
  refine lv_aload_n hx hb dL_law_371 rfl (lv_at hl 1 rfl) ?_
  refine lv_aload_n hx hb dL_law_372 rfl (lv_at hl 3 rfl) ?_
  refine lv_iload_n hx hb dL_law_373 rfl (lv_at hl 0 rfl) ?_
  refine lv_iconst (v := nI 1) hx hb dL_law_374 (by decide) ?_
  refine nv_iadd hx hb dL_law_375 ?_
  refine va_sld hx hb hX hbl hbA hS (vp_in_nI (by omega) (by omega)) dL_law_376 ?_
  refine nv_tope x ex.symm ?_
  refine lv_aload_n hx hb dL_law_377 rfl (lv_at hl 3 rfl) ?_
  refine lv_iload_n hx hb dL_law_378 rfl (lv_at hl 0 rfl) ?_
  refine lv_iconst (v := nI 2) hx hb dL_law_379 (by decide) ?_
  refine nv_iadd hx hb dL_law_380 ?_
  refine va_sld hx hb hX hbl hbA hS (vp_in_nI (by omega) (by omega)) dL_law_381 ?_
  refine nv_tope y ey.symm ?_
  refine nv_callV [.int x, .int y] [.int (aThrough (ρ 0) x y)] hx hb hml hown hts k_RL_47 (c_X4_through l D cI cR h2 a2 ρ n wv nw b ln at0 wd hh x y hw) ⟨rfl, rfl, Nat.le_of_ble_eq_true rfl, Nat.le_of_ble_eq_true rfl⟩ (hP.sub [36, 37, 38, 39, 40] rfl) hK 4 rfl rfl rfl rfl hl rfl (Nat.le_of_ble_eq_true rfl) dL_law_382 ⟨Nat.le_of_ble_eq_true rfl, Nat.le_of_ble_eq_true rfl⟩ ?_
  refine lv_icmp_eq (tgt := 778) hx hb dL_law_385 (by decide) (fun _ => ?_) (fun q => absurd (rfl) q)
  exact kk _ _ _ _ _ _ _ _ _ _ _ _ _ _ rfl hI H locs hP hD hS ls (lv_sub hl [0, 1, 2, 3] rfl)
set_option maxHeartbeats 4000000 in
set_option maxRecDepth 100000 in
theorem lw_cost {p : Program} {e : Env} {s : State} {m : MethodId} {below : List Frame} {meth : Method} {c : Code} (l : Launch) {D : va_G} {cI cR : ClassId} {sb h h2 : Nat} {ad : Nat → Nat} {aa : Nat → Nat → Nat} {a2 : Nat → Nat} {i L : Nat} {xs : Nat → Int32} (hL : L ≤ 2048) (C0 : lw_At p s m meth c sb L xs) (hK : va_K D vwCl (nTy cI cR) s) (hi : i + 4 ≤ L) (kk : LK p l e s m below meth c D cI cR sb h h2 ad aa a2 i 778) : LK p l e s m below meth c D cI cR sb h h2 ad aa a2 i 390 := by
  obtain ⟨hx, hb, hr, hml, hown0, hts0, hX, hbl, hlocks, hgv⟩ := id C0
  have hts : ∀ w ∈ nT, w.before #[Value.ref sb] s = true := fun w q => hts0 w (List.mem_filter.mp q).1
  have hown : s.vm.findClass RL = some m.cls := hown0
  have hA : ∀ q : Nat, s.heap.size ≤ q → lwA s q := fun _ q => q
  have hbA : ¬ lwA s sb := Nat.not_le.mpr hbl
  obtain ⟨x, ex⟩ : ∃ v : Int32, v = xs (nI (i + 1)).toNatClampNeg := ⟨_, rfl⟩
  intro ρ τ σ o n b ln g fo0 wv nw at0 wd hh eσ hI H locs hP hD hS ls hl
  subst eσ
  obtain ⟨hw, h4, ho, hn, -, hln, hb0⟩ := id hI
  refine lv_aload_n hx hb dL_law_390 rfl (lv_at hl 2 rfl) ?_
  refine lv_aload_n hx hb dL_law_391 rfl (lv_at hl 3 rfl) ?_
  refine lv_iload_n hx hb dL_law_392 rfl (lv_at hl 0 rfl) ?_
  refine lv_iconst (v := nI 1) hx hb dL_law_393 (by decide) ?_
  refine nv_iadd hx hb dL_law_394 ?_
  refine va_sld hx hb hX hbl hbA hS (vp_in_nI (by omega) (by omega)) dL_law_395 ?_
  refine nv_tope x ex.symm ?_
  refine nv_callV [.int x] [] hx hb hml hown hts k_RL_48 (c_X3_cost l D cI cR h ad aa (ρ 0) o n τ b ln g fo0 x hw) ⟨rfl, rfl, Nat.le_of_ble_eq_true rfl, Nat.le_of_ble_eq_true rfl⟩ (hP.sub [0, 1, 2, 3, 4, 5, 6, 7, 8, 9, 10, 11, 12, 13, 14, 15, 16, 17, 18, 19, 20, 21, 22, 23, 24, 25, 26, 27, 28, 29, 30, 31, 32, 33, 34, 35] rfl) hK 3 rfl rfl rfl rfl hl rfl (Nat.le_of_ble_eq_true rfl) dL_law_396 ⟨Nat.le_of_ble_eq_true rfl, Nat.le_of_ble_eq_true rfl⟩ ?_
  refine lv_aload_n hx hb dL_law_399 rfl (lv_at hl 1 rfl) ?_
  refine lv_aload_n hx hb dL_law_400 rfl (lv_at hl 3 rfl) ?_
  refine lv_iload_n hx hb dL_law_401 rfl (lv_at hl 0 rfl) ?_
  refine lv_iconst (v := nI 1) hx hb dL_law_402 (by decide) ?_
  refine nv_iadd hx hb dL_law_403 ?_
  refine va_sld hx hb hX hbl hbA hS (vp_in_nI (by omega) (by omega)) dL_law_404 ?_
  refine nv_tope x ex.symm ?_
  refine nv_callV [.int x] [.int (aCost (ρ 0) x)] hx hb hml hown hts k_RL_51 (c_X4_cost l D cI cR h2 a2 ρ n wv nw b ln at0 wd hh x hw) ⟨rfl, rfl, Nat.le_of_ble_eq_true rfl, Nat.le_of_ble_eq_true rfl⟩ (hP.sub [36, 37, 38, 39, 40] rfl) hK 4 rfl rfl rfl rfl hl rfl (Nat.le_of_ble_eq_true rfl) dL_law_405 ⟨Nat.le_of_ble_eq_true rfl, Nat.le_of_ble_eq_true rfl⟩ ?_
  refine lv_icmp_eq (tgt := 778) hx hb dL_law_408 (by decide) (fun _ => ?_) (fun q => absurd (rfl) q)
  exact kk _ _ _ _ _ _ _ _ _ _ _ _ _ _ rfl hI H locs hP hD hS ls (lv_sub hl [0, 1, 2, 3] rfl)
set_option maxHeartbeats 4000000 in
set_option maxRecDepth 100000 in
theorem lw_economize {p : Program} {e : Env} {s : State} {m : MethodId} {below : List Frame} {meth : Method} {c : Code} (l : Launch) {D : va_G} {cI cR : ClassId} {sb h h2 : Nat} {ad : Nat → Nat} {aa : Nat → Nat → Nat} {a2 : Nat → Nat} {i L : Nat} {xs : Nat → Int32} (hL : L ≤ 2048) (C0 : lw_At p s m meth c sb L xs) (hK : va_K D vwCl (nTy cI cR) s) (hi : i + 4 ≤ L) (kk : LK p l e s m below meth c D cI cR sb h h2 ad aa a2 i 778) : LK p l e s m below meth c D cI cR sb h h2 ad aa a2 i 413 := by
  obtain ⟨hx, hb, hr, hml, hown0, hts0, hX, hbl, hlocks, hgv⟩ := id C0
  have hts : ∀ w ∈ nT, w.before #[Value.ref sb] s = true := fun w q => hts0 w (List.mem_filter.mp q).1
  have hown : s.vm.findClass RL = some m.cls := hown0
  have hA : ∀ q : Nat, s.heap.size ≤ q → lwA s q := fun _ q => q
  have hbA : ¬ lwA s sb := Nat.not_le.mpr hbl
  intro ρ τ σ o n b ln g fo0 wv nw at0 wd hh eσ hI H locs hP hD hS ls hl
  subst eσ
  obtain ⟨hw, h4, ho, hn, -, hln, hb0⟩ := id hI
  refine lv_aload_n hx hb dL_law_413 rfl (lv_at hl 2 rfl) ?_
  refine mu_call (ws' := wCR h ad aa cI cR (ecS (ρ 0)) (kpO o n) (kpN n) (va_up τ (kpS o n) (ρ 0)) b ln g fo0 ++ wMd h2 a2 cI (rwF ρ) n (nF wv) (nF nw) (nF b) ln at0 wd hh) [0, 1, 2, 3, 4, 5, 6, 7, 8, 9, 10, 11, 12, 13, 14, 15, 16, 17, 18, 19, 20, 21, 22, 23, 24, 25, 26, 27, 28, 29, 30, 31, 32, 33, 34, 35] [36, 37, 38, 39, 40] [5, 6, 7, 8, 9, 10, 11, 12, 13, 14, 15, 16, 17, 18, 19, 20, 21, 22, 23, 24, 25, 26, 27, 28, 29, 30, 31, 32, 33, 34, 35, 36, 37, 38, 39, 40, 0, 1, 2, 3, 4] [] [] hx hb hml hown hts k_RL_52 (fun sz => c_X3_economize l D cI cR h ad aa (ρ 0) o n τ b ln g fo0 hw ho hn sz) ⟨rfl, rfl, Nat.le_of_ble_eq_true rfl, Nat.le_of_ble_eq_true rfl⟩ hP hD hS hA hK 3 rfl rfl rfl rfl rfl rfl rfl (by decide) rfl rfl rfl hl rfl (Nat.le_of_ble_eq_true rfl) dL_law_414 ⟨Nat.le_of_ble_eq_true rfl, Nat.le_of_ble_eq_true rfl⟩ (fun H locs hP hD hS => ?_)
  refine W.eq (g2 := F0 m 417 ls [.int (nI (mcC (ρ 0) (nW (ρ 0))))]) rfl ?_
  refine lv_aload_n hx hb dL_law_417 rfl (lv_at hl 1 rfl) ?_
  refine mu_call (ws' := wCR h ad aa cI cR (ecS (ρ 0)) (kpO o n) (kpN n) (va_up τ (kpS o n) (ρ 0)) b ln g fo0 ++ wMd h2 a2 cI (rwF (recR ρ n (ecS (ρ 0)))) (kpN n) (nF wv) (nF nw) (nF b) ln at0 wd hh) [36, 37, 38, 39, 40] [0, 1, 2, 3, 4, 5, 6, 7, 8, 9, 10, 11, 12, 13, 14, 15, 16, 17, 18, 19, 20, 21, 22, 23, 24, 25, 26, 27, 28, 29, 30, 31, 32, 33, 34, 35] [0, 1, 2, 3, 4, 5, 6, 7, 8, 9, 10, 11, 12, 13, 14, 15, 16, 17, 18, 19, 20, 21, 22, 23, 24, 25, 26, 27, 28, 29, 30, 31, 32, 33, 34, 35, 36, 37, 38, 39, 40] [] [.int (nI (mcC (ρ 0) (nW (ρ 0))))] hx hb hml hown hts k_RL_56 (fun sz => c_X4_economize l D cI cR h2 a2 ρ n wv nw b ln at0 wd hh hw hn sz) ⟨rfl, rfl, Nat.le_of_ble_eq_true rfl, Nat.le_of_ble_eq_true rfl⟩ hP hD hS hA hK 4 rfl rfl rfl rfl rfl rfl rfl (by decide) rfl rfl rfl hl rfl (Nat.le_of_ble_eq_true rfl) dL_law_418 ⟨Nat.le_of_ble_eq_true rfl, Nat.le_of_ble_eq_true rfl⟩ (fun H locs hP hD hS => ?_)
  refine W.eq (g2 := F0 m 421 ls [.int (nI (mcC (ρ 0) (nW (ρ 0)))), .int (nI (mcC (ρ 0) (nW (ρ 0))))]) rfl ?_
  refine lv_icmp_eq (tgt := 778) hx hb dL_law_421 (by decide) (fun _ => ?_) (fun q => absurd (rfl) q)
  obtain ⟨q1, q2⟩ := hI.rec1 (st_ec hw h4)
  exact kk _ _ _ _ _ _ _ _ _ _ _ _ _ _ q1 q2 H locs hP hD hS ls (lv_sub hl [0, 1, 2, 3] rfl)
set_option maxHeartbeats 4000000 in
set_option maxRecDepth 100000 in
theorem lw_picked {p : Program} {e : Env} {s : State} {m : MethodId} {below : List Frame} {meth : Method} {c : Code} (l : Launch) {D : va_G} {cI cR : ClassId} {sb h h2 : Nat} {ad : Nat → Nat} {aa : Nat → Nat → Nat} {a2 : Nat → Nat} {i L : Nat} {xs : Nat → Int32} (hL : L ≤ 2048) (C0 : lw_At p s m meth c sb L xs) (hK : va_K D vwCl (nTy cI cR) s) (hi : i + 4 ≤ L) (kk : LK p l e s m below meth c D cI cR sb h h2 ad aa a2 i 778) : LK p l e s m below meth c D cI cR sb h h2 ad aa a2 i 426 := by
  obtain ⟨hx, hb, hr, hml, hown0, hts0, hX, hbl, hlocks, hgv⟩ := id C0
  have hts : ∀ w ∈ nT, w.before #[Value.ref sb] s = true := fun w q => hts0 w (List.mem_filter.mp q).1
  have hown : s.vm.findClass RL = some m.cls := hown0
  have hA : ∀ q : Nat, s.heap.size ≤ q → lwA s q := fun _ q => q
  have hbA : ¬ lwA s sb := Nat.not_le.mpr hbl
  obtain ⟨x, ex⟩ : ∃ v : Int32, v = xs (nI (i + 1)).toNatClampNeg := ⟨_, rfl⟩
  intro ρ τ σ o n b ln g fo0 wv nw at0 wd hh eσ hI H locs hP hD hS ls hl
  subst eσ
  obtain ⟨hw, h4, ho, hn, -, hln, hb0⟩ := id hI
  refine lv_aload_n hx hb dL_law_426 rfl (lv_at hl 2 rfl) ?_
  refine lv_aload_n hx hb dL_law_427 rfl (lv_at hl 3 rfl) ?_
  refine lv_iload_n hx hb dL_law_428 rfl (lv_at hl 0 rfl) ?_
  refine lv_iconst (v := nI 1) hx hb dL_law_429 (by decide) ?_
  refine nv_iadd hx hb dL_law_430 ?_
  refine va_sld hx hb hX hbl hbA hS (vp_in_nI (by omega) (by omega)) dL_law_431 ?_
  refine nv_tope x ex.symm ?_
  refine nv_callV [.int x] [] hx hb hml hown hts k_RL_57 (c_X3_picked l D cI cR h ad aa (ρ 0) o n τ b ln g fo0 x hw) ⟨rfl, rfl, Nat.le_of_ble_eq_true rfl, Nat.le_of_ble_eq_true rfl⟩ (hP.sub [0, 1, 2, 3, 4, 5, 6, 7, 8, 9, 10, 11, 12, 13, 14, 15, 16, 17, 18, 19, 20, 21, 22, 23, 24, 25, 26, 27, 28, 29, 30, 31, 32, 33, 34, 35] rfl) hK 3 rfl rfl rfl rfl hl rfl (Nat.le_of_ble_eq_true rfl) dL_law_432 ⟨Nat.le_of_ble_eq_true rfl, Nat.le_of_ble_eq_true rfl⟩ ?_
  refine lv_aload_n hx hb dL_law_435 rfl (lv_at hl 1 rfl) ?_
  refine lv_aload_n hx hb dL_law_436 rfl (lv_at hl 3 rfl) ?_
  refine lv_iload_n hx hb dL_law_437 rfl (lv_at hl 0 rfl) ?_
  refine lv_iconst (v := nI 1) hx hb dL_law_438 (by decide) ?_
  refine nv_iadd hx hb dL_law_439 ?_
  refine va_sld hx hb hX hbl hbA hS (vp_in_nI (by omega) (by omega)) dL_law_440 ?_
  refine nv_tope x ex.symm ?_
  refine mu_call (ws' := wCR h ad aa cI cR (ρ 0) o n τ b ln g fo0 ++ wMd h2 a2 cI (rwF ρ) n (nF (cond (inB x 16) (wvG (ρ 0) wv (nW (ρ 0))) wv)) (nF nw) (nF b) ln at0 wd hh) [36, 37, 38, 39, 40] [0, 1, 2, 3, 4, 5, 6, 7, 8, 9, 10, 11, 12, 13, 14, 15, 16, 17, 18, 19, 20, 21, 22, 23, 24, 25, 26, 27, 28, 29, 30, 31, 32, 33, 34, 35] [0, 1, 2, 3, 4, 5, 6, 7, 8, 9, 10, 11, 12, 13, 14, 15, 16, 17, 18, 19, 20, 21, 22, 23, 24, 25, 26, 27, 28, 29, 30, 31, 32, 33, 34, 35, 36, 37, 38, 39, 40] [.int x] [.int (aPicked (ρ 0) x)] hx hb hml hown hts k_RL_60 (fun sz => c_X4_picked l D cI cR h2 a2 ρ n wv nw b ln at0 wd hh x hw sz) ⟨rfl, rfl, Nat.le_of_ble_eq_true rfl, Nat.le_of_ble_eq_true rfl⟩ hP hD hS hA hK 4 rfl rfl rfl rfl rfl rfl rfl (by decide) rfl rfl rfl hl rfl (Nat.le_of_ble_eq_true rfl) dL_law_441 ⟨Nat.le_of_ble_eq_true rfl, Nat.le_of_ble_eq_true rfl⟩ (fun H locs hP hD hS => ?_)
  refine W.eq (g2 := F0 m 444 ls [.int (aPicked (ρ 0) x), .int (aPicked (ρ 0) x)]) rfl ?_
  refine lv_icmp_eq (tgt := 778) hx hb dL_law_444 (by decide) (fun _ => ?_) (fun q => absurd (rfl) q)
  exact kk _ _ _ _ _ _ _ _ _ _ _ _ _ _ rfl hI H locs hP hD hS ls (lv_sub hl [0, 1, 2, 3] rfl)
set_option maxHeartbeats 4000000 in
set_option maxRecDepth 100000 in
theorem lw_read {p : Program} {e : Env} {s : State} {m : MethodId} {below : List Frame} {meth : Method} {c : Code} (l : Launch) {D : va_G} {cI cR : ClassId} {sb h h2 : Nat} {ad : Nat → Nat} {aa : Nat → Nat → Nat} {a2 : Nat → Nat} {i L : Nat} {xs : Nat → Int32} (hL : L ≤ 2048) (C0 : lw_At p s m meth c sb L xs) (hK : va_K D vwCl (nTy cI cR) s) (hi : i + 4 ≤ L) (kk : LK p l e s m below meth c D cI cR sb h h2 ad aa a2 i 778) : LK p l e s m below meth c D cI cR sb h h2 ad aa a2 i 449 := by
  obtain ⟨hx, hb, hr, hml, hown0, hts0, hX, hbl, hlocks, hgv⟩ := id C0
  have hts : ∀ w ∈ nT, w.before #[Value.ref sb] s = true := fun w q => hts0 w (List.mem_filter.mp q).1
  have hown : s.vm.findClass RL = some m.cls := hown0
  have hA : ∀ q : Nat, s.heap.size ≤ q → lwA s q := fun _ q => q
  have hbA : ¬ lwA s sb := Nat.not_le.mpr hbl
  obtain ⟨x, ex⟩ : ∃ v : Int32, v = xs (nI (i + 1)).toNatClampNeg := ⟨_, rfl⟩
  intro ρ τ σ o n b ln g fo0 wv nw at0 wd hh eσ hI H locs hP hD hS ls hl
  subst eσ
  obtain ⟨hw, h4, ho, hn, -, hln, hb0⟩ := id hI
  refine lv_aload_n hx hb dL_law_449 rfl (lv_at hl 2 rfl) ?_
  refine lv_aload_n hx hb dL_law_450 rfl (lv_at hl 3 rfl) ?_
  refine lv_iload_n hx hb dL_law_451 rfl (lv_at hl 0 rfl) ?_
  refine lv_iconst (v := nI 1) hx hb dL_law_452 (by decide) ?_
  refine nv_iadd hx hb dL_law_453 ?_
  refine va_sld hx hb hX hbl hbA hS (vp_in_nI (by omega) (by omega)) dL_law_454 ?_
  refine nv_tope x ex.symm ?_
  refine nv_callV [.int x] [] hx hb hml hown hts k_RL_61 (c_X3_read l D cI cR h ad aa (ρ 0) o n τ b ln g fo0 x hw) ⟨rfl, rfl, Nat.le_of_ble_eq_true rfl, Nat.le_of_ble_eq_true rfl⟩ (hP.sub [0, 1, 2, 3, 4, 5, 6, 7, 8, 9, 10, 11, 12, 13, 14, 15, 16, 17, 18, 19, 20, 21, 22, 23, 24, 25, 26, 27, 28, 29, 30, 31, 32, 33, 34, 35] rfl) hK 3 rfl rfl rfl rfl hl rfl (Nat.le_of_ble_eq_true rfl) dL_law_455 ⟨Nat.le_of_ble_eq_true rfl, Nat.le_of_ble_eq_true rfl⟩ ?_
  refine lv_aload_n hx hb dL_law_458 rfl (lv_at hl 1 rfl) ?_
  refine lv_aload_n hx hb dL_law_459 rfl (lv_at hl 3 rfl) ?_
  refine lv_iload_n hx hb dL_law_460 rfl (lv_at hl 0 rfl) ?_
  refine lv_iconst (v := nI 1) hx hb dL_law_461 (by decide) ?_
  refine nv_iadd hx hb dL_law_462 ?_
  refine va_sld hx hb hX hbl hbA hS (vp_in_nI (by omega) (by omega)) dL_law_463 ?_
  refine nv_tope x ex.symm ?_
  refine mu_call (ws' := wCR h ad aa cI cR (ρ 0) o n τ b ln g fo0 ++ wMd h2 a2 cI (rwF ρ) n (nF (cond (inB x (nA (ρ 0))) (wvG (ρ 0) wv (nW (ρ 0))) wv)) (nF nw) (nF b) ln at0 wd hh) [36, 37, 38, 39, 40] [0, 1, 2, 3, 4, 5, 6, 7, 8, 9, 10, 11, 12, 13, 14, 15, 16, 17, 18, 19, 20, 21, 22, 23, 24, 25, 26, 27, 28, 29, 30, 31, 32, 33, 34, 35] [0, 1, 2, 3, 4, 5, 6, 7, 8, 9, 10, 11, 12, 13, 14, 15, 16, 17, 18, 19, 20, 21, 22, 23, 24, 25, 26, 27, 28, 29, 30, 31, 32, 33, 34, 35, 36, 37, 38, 39, 40] [.int x] [.int (aRead (ρ 0) x)] hx hb hml hown hts k_RL_64 (fun sz => c_X4_read l D cI cR h2 a2 ρ n wv nw b ln at0 wd hh x hw sz) ⟨rfl, rfl, Nat.le_of_ble_eq_true rfl, Nat.le_of_ble_eq_true rfl⟩ hP hD hS hA hK 4 rfl rfl rfl rfl rfl rfl rfl (by decide) rfl rfl rfl hl rfl (Nat.le_of_ble_eq_true rfl) dL_law_464 ⟨Nat.le_of_ble_eq_true rfl, Nat.le_of_ble_eq_true rfl⟩ (fun H locs hP hD hS => ?_)
  refine W.eq (g2 := F0 m 467 ls [.int (aRead (ρ 0) x), .int (aRead (ρ 0) x)]) rfl ?_
  refine lv_icmp_eq (tgt := 778) hx hb dL_law_467 (by decide) (fun _ => ?_) (fun q => absurd (rfl) q)
  exact kk _ _ _ _ _ _ _ _ _ _ _ _ _ _ rfl hI H locs hP hD hS ls (lv_sub hl [0, 1, 2, 3] rfl)
set_option maxHeartbeats 4000000 in
set_option maxRecDepth 100000 in
theorem lw_readRaw {p : Program} {e : Env} {s : State} {m : MethodId} {below : List Frame} {meth : Method} {c : Code} (l : Launch) {D : va_G} {cI cR : ClassId} {sb h h2 : Nat} {ad : Nat → Nat} {aa : Nat → Nat → Nat} {a2 : Nat → Nat} {i L : Nat} {xs : Nat → Int32} (hL : L ≤ 2048) (C0 : lw_At p s m meth c sb L xs) (hK : va_K D vwCl (nTy cI cR) s) (hi : i + 4 ≤ L) (kk : LK p l e s m below meth c D cI cR sb h h2 ad aa a2 i 778) : LK p l e s m below meth c D cI cR sb h h2 ad aa a2 i 472 := by
  obtain ⟨hx, hb, hr, hml, hown0, hts0, hX, hbl, hlocks, hgv⟩ := id C0
  have hts : ∀ w ∈ nT, w.before #[Value.ref sb] s = true := fun w q => hts0 w (List.mem_filter.mp q).1
  have hown : s.vm.findClass RL = some m.cls := hown0
  have hA : ∀ q : Nat, s.heap.size ≤ q → lwA s q := fun _ q => q
  have hbA : ¬ lwA s sb := Nat.not_le.mpr hbl
  obtain ⟨x, ex⟩ : ∃ v : Int32, v = xs (nI (i + 1)).toNatClampNeg := ⟨_, rfl⟩
  intro ρ τ σ o n b ln g fo0 wv nw at0 wd hh eσ hI H locs hP hD hS ls hl
  subst eσ
  obtain ⟨hw, h4, ho, hn, -, hln, hb0⟩ := id hI
  refine lv_aload_n hx hb dL_law_472 rfl (lv_at hl 2 rfl) ?_
  refine lv_aload_n hx hb dL_law_473 rfl (lv_at hl 3 rfl) ?_
  refine lv_iload_n hx hb dL_law_474 rfl (lv_at hl 0 rfl) ?_
  refine lv_iconst (v := nI 1) hx hb dL_law_475 (by decide) ?_
  refine nv_iadd hx hb dL_law_476 ?_
  refine va_sld hx hb hX hbl hbA hS (vp_in_nI (by omega) (by omega)) dL_law_477 ?_
  refine nv_tope x ex.symm ?_
  refine nv_callV [.int x] [] hx hb hml hown hts k_RL_65 (c_X3_readRaw l D cI cR h ad aa (ρ 0) o n τ b ln g fo0 x hw) ⟨rfl, rfl, Nat.le_of_ble_eq_true rfl, Nat.le_of_ble_eq_true rfl⟩ (hP.sub [0, 1, 2, 3, 4, 5, 6, 7, 8, 9, 10, 11, 12, 13, 14, 15, 16, 17, 18, 19, 20, 21, 22, 23, 24, 25, 26, 27, 28, 29, 30, 31, 32, 33, 34, 35] rfl) hK 3 rfl rfl rfl rfl hl rfl (Nat.le_of_ble_eq_true rfl) dL_law_478 ⟨Nat.le_of_ble_eq_true rfl, Nat.le_of_ble_eq_true rfl⟩ ?_
  refine lv_aload_n hx hb dL_law_481 rfl (lv_at hl 1 rfl) ?_
  refine lv_aload_n hx hb dL_law_482 rfl (lv_at hl 3 rfl) ?_
  refine lv_iload_n hx hb dL_law_483 rfl (lv_at hl 0 rfl) ?_
  refine lv_iconst (v := nI 1) hx hb dL_law_484 (by decide) ?_
  refine nv_iadd hx hb dL_law_485 ?_
  refine va_sld hx hb hX hbl hbA hS (vp_in_nI (by omega) (by omega)) dL_law_486 ?_
  refine nv_tope x ex.symm ?_
  refine mu_call (ws' := wCR h ad aa cI cR (ρ 0) o n τ b ln g fo0 ++ wMd h2 a2 cI (rwF ρ) n (nF (cond (inB x (nA (ρ 0))) (wvG (ρ 0) wv (nW (ρ 0))) wv)) (nF nw) (nF b) ln at0 wd hh) [36, 37, 38, 39, 40] [0, 1, 2, 3, 4, 5, 6, 7, 8, 9, 10, 11, 12, 13, 14, 15, 16, 17, 18, 19, 20, 21, 22, 23, 24, 25, 26, 27, 28, 29, 30, 31, 32, 33, 34, 35] [0, 1, 2, 3, 4, 5, 6, 7, 8, 9, 10, 11, 12, 13, 14, 15, 16, 17, 18, 19, 20, 21, 22, 23, 24, 25, 26, 27, 28, 29, 30, 31, 32, 33, 34, 35, 36, 37, 38, 39, 40] [.int x] [.int (aRaw (ρ 0) x)] hx hb hml hown hts k_RL_68 (fun sz => c_X4_readRaw l D cI cR h2 a2 ρ n wv nw b ln at0 wd hh x hw sz) ⟨rfl, rfl, Nat.le_of_ble_eq_true rfl, Nat.le_of_ble_eq_true rfl⟩ hP hD hS hA hK 4 rfl rfl rfl rfl rfl rfl rfl (by decide) rfl rfl rfl hl rfl (Nat.le_of_ble_eq_true rfl) dL_law_487 ⟨Nat.le_of_ble_eq_true rfl, Nat.le_of_ble_eq_true rfl⟩ (fun H locs hP hD hS => ?_)
  refine W.eq (g2 := F0 m 490 ls [.int (aRaw (ρ 0) x), .int (aRaw (ρ 0) x)]) rfl ?_
  refine lv_icmp_eq (tgt := 778) hx hb dL_law_490 (by decide) (fun _ => ?_) (fun q => absurd (rfl) q)
  exact kk _ _ _ _ _ _ _ _ _ _ _ _ _ _ rfl hI H locs hP hD hS ls (lv_sub hl [0, 1, 2, 3] rfl)
set_option maxHeartbeats 4000000 in
set_option maxRecDepth 100000 in
theorem lw_parity {p : Program} {e : Env} {s : State} {m : MethodId} {below : List Frame} {meth : Method} {c : Code} (l : Launch) {D : va_G} {cI cR : ClassId} {sb h h2 : Nat} {ad : Nat → Nat} {aa : Nat → Nat → Nat} {a2 : Nat → Nat} {i L : Nat} {xs : Nat → Int32} (hL : L ≤ 2048) (C0 : lw_At p s m meth c sb L xs) (hK : va_K D vwCl (nTy cI cR) s) (hi : i + 4 ≤ L) (kk : LK p l e s m below meth c D cI cR sb h h2 ad aa a2 i 778) : LK p l e s m below meth c D cI cR sb h h2 ad aa a2 i 495 := by
  obtain ⟨hx, hb, hr, hml, hown0, hts0, hX, hbl, hlocks, hgv⟩ := id C0
  have hts : ∀ w ∈ nT, w.before #[Value.ref sb] s = true := fun w q => hts0 w (List.mem_filter.mp q).1
  have hown : s.vm.findClass RL = some m.cls := hown0
  have hA : ∀ q : Nat, s.heap.size ≤ q → lwA s q := fun _ q => q
  have hbA : ¬ lwA s sb := Nat.not_le.mpr hbl
  obtain ⟨x, ex⟩ : ∃ v : Int32, v = xs (nI (i + 1)).toNatClampNeg := ⟨_, rfl⟩
  intro ρ τ σ o n b ln g fo0 wv nw at0 wd hh eσ hI H locs hP hD hS ls hl
  subst eσ
  obtain ⟨hw, h4, ho, hn, -, hln, hb0⟩ := id hI
  refine lv_aload_n hx hb dL_law_495 rfl (lv_at hl 2 rfl) ?_
  refine lv_aload_n hx hb dL_law_496 rfl (lv_at hl 3 rfl) ?_
  refine lv_iload_n hx hb dL_law_497 rfl (lv_at hl 0 rfl) ?_
  refine lv_iconst (v := nI 1) hx hb dL_law_498 (by decide) ?_
  refine nv_iadd hx hb dL_law_499 ?_
  refine va_sld hx hb hX hbl hbA hS (vp_in_nI (by omega) (by omega)) dL_law_500 ?_
  refine nv_tope x ex.symm ?_
  refine nv_callV [.int x] [] hx hb hml hown hts k_RL_69 (c_X3_parity l D cI cR h ad aa (ρ 0) o n τ b ln g fo0 x hw) ⟨rfl, rfl, Nat.le_of_ble_eq_true rfl, Nat.le_of_ble_eq_true rfl⟩ (hP.sub [0, 1, 2, 3, 4, 5, 6, 7, 8, 9, 10, 11, 12, 13, 14, 15, 16, 17, 18, 19, 20, 21, 22, 23, 24, 25, 26, 27, 28, 29, 30, 31, 32, 33, 34, 35] rfl) hK 3 rfl rfl rfl rfl hl rfl (Nat.le_of_ble_eq_true rfl) dL_law_501 ⟨Nat.le_of_ble_eq_true rfl, Nat.le_of_ble_eq_true rfl⟩ ?_
  refine lv_aload_n hx hb dL_law_504 rfl (lv_at hl 1 rfl) ?_
  refine lv_aload_n hx hb dL_law_505 rfl (lv_at hl 3 rfl) ?_
  refine lv_iload_n hx hb dL_law_506 rfl (lv_at hl 0 rfl) ?_
  refine lv_iconst (v := nI 1) hx hb dL_law_507 (by decide) ?_
  refine nv_iadd hx hb dL_law_508 ?_
  refine va_sld hx hb hX hbl hbA hS (vp_in_nI (by omega) (by omega)) dL_law_509 ?_
  refine nv_tope x ex.symm ?_
  refine mu_call (ws' := wCR h ad aa cI cR (ρ 0) o n τ b ln g fo0 ++ wMd h2 a2 cI (rwF ρ) n (nF (cond (inB x (nA (ρ 0))) (wvG (ρ 0) wv (nW (ρ 0))) wv)) (nF nw) (nF b) ln at0 wd hh) [36, 37, 38, 39, 40] [0, 1, 2, 3, 4, 5, 6, 7, 8, 9, 10, 11, 12, 13, 14, 15, 16, 17, 18, 19, 20, 21, 22, 23, 24, 25, 26, 27, 28, 29, 30, 31, 32, 33, 34, 35] [0, 1, 2, 3, 4, 5, 6, 7, 8, 9, 10, 11, 12, 13, 14, 15, 16, 17, 18, 19, 20, 21, 22, 23, 24, 25, 26, 27, 28, 29, 30, 31, 32, 33, 34, 35, 36, 37, 38, 39, 40] [.int x] [.int (aParity (ρ 0) x)] hx hb hml hown hts k_RL_72 (fun sz => c_X4_parity l D cI cR h2 a2 ρ n wv nw b ln at0 wd hh x hw sz) ⟨rfl, rfl, Nat.le_of_ble_eq_true rfl, Nat.le_of_ble_eq_true rfl⟩ hP hD hS hA hK 4 rfl rfl rfl rfl rfl rfl rfl (by decide) rfl rfl rfl hl rfl (Nat.le_of_ble_eq_true rfl) dL_law_510 ⟨Nat.le_of_ble_eq_true rfl, Nat.le_of_ble_eq_true rfl⟩ (fun H locs hP hD hS => ?_)
  refine W.eq (g2 := F0 m 513 ls [.int (aParity (ρ 0) x), .int (aParity (ρ 0) x)]) rfl ?_
  refine lv_icmp_eq (tgt := 778) hx hb dL_law_513 (by decide) (fun _ => ?_) (fun q => absurd (rfl) q)
  exact kk _ _ _ _ _ _ _ _ _ _ _ _ _ _ rfl hI H locs hP hD hS ls (lv_sub hl [0, 1, 2, 3] rfl)
