set_option maxHeartbeats 4000000 in
set_option maxRecDepth 100000 in
theorem lw_wrong {p : Program} {e : Env} {s : State} {m : MethodId} {below : List Frame} {meth : Method} {c : Code} (l : Launch) {D : va_G} {cI cR : ClassId} {sb h h2 : Nat} {ad : Nat → Nat} {aa : Nat → Nat → Nat} {a2 : Nat → Nat} {i L : Nat} {xs : Nat → Int32} (hL : L ≤ 2048) (C0 : lw_At p s m meth c sb L xs) (hK : va_K D vwCl (nTy cI cR) s) (hi : i + 4 ≤ L) (kk : LK p l e s m below meth c D cI cR sb h h2 ad aa a2 i 778) : LK p l e s m below meth c D cI cR sb h h2 ad aa a2 i 518 := by
  obtain ⟨hx, hb, hr, hml, hown0, hts0, hX, hbl, hlocks, hgv⟩ := id C0
  have hts : ∀ w ∈ nT, w.before #[Value.ref sb] s = true := fun w q => hts0 w (List.mem_filter.mp q).1
  have hown : s.vm.findClass RL = some m.cls := hown0
  have hA : ∀ q : Nat, s.heap.size ≤ q → lwA s q := fun _ q => q
  have hbA : ¬ lwA s sb := Nat.not_le.mpr hbl
  obtain ⟨x, ex⟩ : ∃ v : Int32, v = xs (nI (i + 1)).toNatClampNeg := ⟨_, rfl⟩
  intro ρ τ σ o n b ln g fo0 wv nw at0 wd hh eσ hI H locs hP hD hS ls hl
  subst eσ
  obtain ⟨hw, h4, ho, hn, -, hln, hb0⟩ := id hI
  refine lv_aload_n hx hb dL_law_518 rfl (lv_at hl 2 rfl) ?_
  refine lv_aload_n hx hb dL_law_519 rfl (lv_at hl 3 rfl) ?_
  refine lv_iload_n hx hb dL_law_520 rfl (lv_at hl 0 rfl) ?_
  refine lv_iconst (v := nI 1) hx hb dL_law_521 (by decide) ?_
  refine nv_iadd hx hb dL_law_522 ?_
  refine va_sld hx hb hX hbl hbA hS (vp_in_nI (by omega) (by omega)) dL_law_523 ?_
  refine nv_tope x ex.symm ?_
  refine nv_callV [.int x] [] hx hb hml hown hts k_RL_73 (c_X3_wrong l D cI cR h ad aa (ρ 0) o n τ b ln g fo0 x hw) ⟨rfl, rfl, Nat.le_of_ble_eq_true rfl, Nat.le_of_ble_eq_true rfl⟩ (hP.sub [0, 1, 2, 3, 4, 5, 6, 7, 8, 9, 10, 11, 12, 13, 14, 15, 16, 17, 18, 19, 20, 21, 22, 23, 24, 25, 26, 27, 28, 29, 30, 31, 32, 33, 34, 35] rfl) hK 3 rfl rfl rfl rfl hl rfl (Nat.le_of_ble_eq_true rfl) dL_law_524 ⟨Nat.le_of_ble_eq_true rfl, Nat.le_of_ble_eq_true rfl⟩ ?_
  refine lv_aload_n hx hb dL_law_527 rfl (lv_at hl 1 rfl) ?_
  refine lv_aload_n hx hb dL_law_528 rfl (lv_at hl 3 rfl) ?_
  refine lv_iload_n hx hb dL_law_529 rfl (lv_at hl 0 rfl) ?_
  refine lv_iconst (v := nI 1) hx hb dL_law_530 (by decide) ?_
  refine nv_iadd hx hb dL_law_531 ?_
  refine va_sld hx hb hX hbl hbA hS (vp_in_nI (by omega) (by omega)) dL_law_532 ?_
  refine nv_tope x ex.symm ?_
  refine mu_call (ws' := wCR h ad aa cI cR (ρ 0) o n τ b ln g fo0 ++ wMd h2 a2 cI (rwF ρ) n (nF (cond (inB x 4) (wvG (ρ 0) wv (nW (ρ 0))) wv)) (nF nw) (nF b) ln at0 wd hh) [36, 37, 38, 39, 40] [0, 1, 2, 3, 4, 5, 6, 7, 8, 9, 10, 11, 12, 13, 14, 15, 16, 17, 18, 19, 20, 21, 22, 23, 24, 25, 26, 27, 28, 29, 30, 31, 32, 33, 34, 35] [0, 1, 2, 3, 4, 5, 6, 7, 8, 9, 10, 11, 12, 13, 14, 15, 16, 17, 18, 19, 20, 21, 22, 23, 24, 25, 26, 27, 28, 29, 30, 31, 32, 33, 34, 35, 36, 37, 38, 39, 40] [.int x] [.int (aWrong (ρ 0) x)] hx hb hml hown hts k_RL_76 (fun sz => c_X4_wrong l D cI cR h2 a2 ρ n wv nw b ln at0 wd hh x hw sz) ⟨rfl, rfl, Nat.le_of_ble_eq_true rfl, Nat.le_of_ble_eq_true rfl⟩ hP hD hS hA hK 4 rfl rfl rfl rfl rfl rfl rfl (by decide) rfl rfl rfl hl rfl (Nat.le_of_ble_eq_true rfl) dL_law_533 ⟨Nat.le_of_ble_eq_true rfl, Nat.le_of_ble_eq_true rfl⟩ (fun H locs hP hD hS => ?_)
  refine W.eq (g2 := F0 m 536 ls [.int (aWrong (ρ 0) x), .int (aWrong (ρ 0) x)]) rfl ?_
  refine lv_icmp_eq (tgt := 778) hx hb dL_law_536 (by decide) (fun _ => ?_) (fun q => absurd (rfl) q)
  exact kk _ _ _ _ _ _ _ _ _ _ _ _ _ _ rfl hI H locs hP hD hS ls (lv_sub hl [0, 1, 2, 3] rfl)
set_option maxHeartbeats 4000000 in
set_option maxRecDepth 100000 in
theorem lw_spoil {p : Program} {e : Env} {s : State} {m : MethodId} {below : List Frame} {meth : Method} {c : Code} (l : Launch) {D : va_G} {cI cR : ClassId} {sb h h2 : Nat} {ad : Nat → Nat} {aa : Nat → Nat → Nat} {a2 : Nat → Nat} {i L : Nat} {xs : Nat → Int32} (hL : L ≤ 2048) (C0 : lw_At p s m meth c sb L xs) (hK : va_K D vwCl (nTy cI cR) s) (hi : i + 4 ≤ L) (kk : LK p l e s m below meth c D cI cR sb h h2 ad aa a2 i 778) : LK p l e s m below meth c D cI cR sb h h2 ad aa a2 i 541 := by
  obtain ⟨hx, hb, hr, hml, hown0, hts0, hX, hbl, hlocks, hgv⟩ := id C0
  have hts : ∀ w ∈ nT, w.before #[Value.ref sb] s = true := fun w q => hts0 w (List.mem_filter.mp q).1
  have hown : s.vm.findClass RL = some m.cls := hown0
  have hA : ∀ q : Nat, s.heap.size ≤ q → lwA s q := fun _ q => q
  have hbA : ¬ lwA s sb := Nat.not_le.mpr hbl
  obtain ⟨x, ex⟩ : ∃ v : Int32, v = xs (nI (i + 1)).toNatClampNeg := ⟨_, rfl⟩
  obtain ⟨y, ey⟩ : ∃ v : Int32, v = xs (nI (i + 2)).toNatClampNeg := ⟨_, rfl⟩
  intro ρ τ σ o n b ln g fo0 wv nw at0 wd hh eσ hI H locs hP hD hS ls hl
  subst eσ
  obtain ⟨hw, h4, ho, hn, -, hln, hb0⟩ := id hI
  refine lv_aload_n hx hb dL_law_541 rfl (lv_at hl 2 rfl) ?_
  refine lv_aload_n hx hb dL_law_542 rfl (lv_at hl 3 rfl) ?_
  refine lv_iload_n hx hb dL_law_543 rfl (lv_at hl 0 rfl) ?_
  refine lv_iconst (v := nI 1) hx hb dL_law_544 (by decide) ?_
  refine nv_iadd hx hb dL_law_545 ?_
  refine va_sld hx hb hX hbl hbA hS (vp_in_nI (by omega) (by omega)) dL_law_546 ?_
  refine nv_tope x ex.symm ?_
  refine lv_aload_n hx hb dL_law_547 rfl (lv_at hl 3 rfl) ?_
  refine lv_iload_n hx hb dL_law_548 rfl (lv_at hl 0 rfl) ?_
  refine lv_iconst (v := nI 2) hx hb dL_law_549 (by decide) ?_
  refine nv_iadd hx hb dL_law_550 ?_
  refine va_sld hx hb hX hbl hbA hS (vp_in_nI (by omega) (by omega)) dL_law_551 ?_
  refine nv_tope y ey.symm ?_
  refine mu_call (ws' := wCR h ad aa cI cR (cond (inB x (nW (ρ 0)) && inB y ((ρ 0) 0)) (va_up (ρ 0) (100 + cl x) ((ρ 0) (100 + cl x) ^^^ 1 <<< cl y)) (ρ 0)) (cond (inB x (nW (ρ 0)) && inB y ((ρ 0) 0)) (kpO o n) o) (cond (inB x (nW (ρ 0)) && inB y ((ρ 0) 0)) (kpN n) n) (cond (inB x (nW (ρ 0)) && inB y ((ρ 0) 0)) (va_up τ (kpS o n) (ρ 0)) τ) b ln g fo0 ++ wMd h2 a2 cI (rwF ρ) n (nF wv) (nF nw) (nF b) ln at0 wd hh) [0, 1, 2, 3, 4, 5, 6, 7, 8, 9, 10, 11, 12, 13, 14, 15, 16, 17, 18, 19, 20, 21, 22, 23, 24, 25, 26, 27, 28, 29, 30, 31, 32, 33, 34, 35] [36, 37, 38, 39, 40] [5, 6, 7, 8, 9, 10, 11, 12, 13, 14, 15, 16, 17, 18, 19, 20, 21, 22, 23, 24, 25, 26, 27, 28, 29, 30, 31, 32, 33, 34, 35, 36, 37, 38, 39, 40, 0, 1, 2, 3, 4] [.int x, .int y] [] hx hb hml hown hts k_RL_77 (fun sz => c_X3_spoil l D cI cR h ad aa (ρ 0) o n τ b ln g fo0 x y hw ho hn sz) ⟨rfl, rfl, Nat.le_of_ble_eq_true rfl, Nat.le_of_ble_eq_true rfl⟩ hP hD hS hA hK 3 rfl rfl rfl rfl rfl rfl rfl (by decide) rfl rfl rfl hl rfl (Nat.le_of_ble_eq_true rfl) dL_law_552 ⟨Nat.le_of_ble_eq_true rfl, Nat.le_of_ble_eq_true rfl⟩ (fun H locs hP hD hS => ?_)
  refine W.eq (g2 := F0 m 555 ls [.int (aSpoil (ρ 0) x y)]) rfl ?_
  refine lv_aload_n hx hb dL_law_555 rfl (lv_at hl 1 rfl) ?_
  refine lv_aload_n hx hb dL_law_556 rfl (lv_at hl 3 rfl) ?_
  refine lv_iload_n hx hb dL_law_557 rfl (lv_at hl 0 rfl) ?_
  refine lv_iconst (v := nI 1) hx hb dL_law_558 (by decide) ?_
  refine nv_iadd hx hb dL_law_559 ?_
  refine va_sld hx hb hX hbl hbA hS (vp_in_nI (by omega) (by omega)) dL_law_560 ?_
  refine nv_tope x ex.symm ?_
  refine lv_aload_n hx hb dL_law_561 rfl (lv_at hl 3 rfl) ?_
  refine lv_iload_n hx hb dL_law_562 rfl (lv_at hl 0 rfl) ?_
  refine lv_iconst (v := nI 2) hx hb dL_law_563 (by decide) ?_
  refine nv_iadd hx hb dL_law_564 ?_
  refine va_sld hx hb hX hbl hbA hS (vp_in_nI (by omega) (by omega)) dL_law_565 ?_
  refine nv_tope y ey.symm ?_
  refine mu_call (ws' := wCR h ad aa cI cR (cond (inB x (nW (ρ 0)) && inB y ((ρ 0) 0)) (va_up (ρ 0) (100 + cl x) ((ρ 0) (100 + cl x) ^^^ 1 <<< cl y)) (ρ 0)) (cond (inB x (nW (ρ 0)) && inB y ((ρ 0) 0)) (kpO o n) o) (cond (inB x (nW (ρ 0)) && inB y ((ρ 0) 0)) (kpN n) n) (cond (inB x (nW (ρ 0)) && inB y ((ρ 0) 0)) (va_up τ (kpS o n) (ρ 0)) τ) b ln g fo0 ++ wMd h2 a2 cI (rwF (cond (inB x (nW (ρ 0)) && inB y (ρ 0 0)) (recR ρ n (va_up (ρ 0) (100 + cl x) (ρ 0 (100 + cl x) ^^^ 1 <<< cl y))) ρ)) (cond (inB x (nW (ρ 0)) && inB y (ρ 0 0)) (kpN n) n) (nF wv) (nF nw) (nF b) ln at0 wd hh) [36, 37, 38, 39, 40] [0, 1, 2, 3, 4, 5, 6, 7, 8, 9, 10, 11, 12, 13, 14, 15, 16, 17, 18, 19, 20, 21, 22, 23, 24, 25, 26, 27, 28, 29, 30, 31, 32, 33, 34, 35] [0, 1, 2, 3, 4, 5, 6, 7, 8, 9, 10, 11, 12, 13, 14, 15, 16, 17, 18, 19, 20, 21, 22, 23, 24, 25, 26, 27, 28, 29, 30, 31, 32, 33, 34, 35, 36, 37, 38, 39, 40] [.int x, .int y] [.int (aSpoil (ρ 0) x y)] hx hb hml hown hts k_RL_80 (fun sz => c_X4_spoil l D cI cR h2 a2 ρ n wv nw b ln at0 wd hh x y hw hn sz) ⟨rfl, rfl, Nat.le_of_ble_eq_true rfl, Nat.le_of_ble_eq_true rfl⟩ hP hD hS hA hK 4 rfl rfl rfl rfl rfl rfl rfl (by decide) rfl rfl rfl hl rfl (Nat.le_of_ble_eq_true rfl) dL_law_566 ⟨Nat.le_of_ble_eq_true rfl, Nat.le_of_ble_eq_true rfl⟩ (fun H locs hP hD hS => ?_)
  refine W.eq (g2 := F0 m 569 ls [.int (aSpoil (ρ 0) x y), .int (aSpoil (ρ 0) x y)]) rfl ?_
  refine lv_icmp_eq (tgt := 778) hx hb dL_law_569 (by decide) (fun _ => ?_) (fun q => absurd (rfl) q)
  obtain ⟨q1, q2⟩ := hI.opt (inB x (nW (ρ 0)) && inB y (ρ 0 0)) (fun q => st_spoil hw h4 q)
  exact kk _ _ _ _ _ _ _ _ _ _ _ _ _ _ q1 q2 H locs hP hD hS ls (lv_sub hl [0, 1, 2, 3] rfl)
set_option maxHeartbeats 4000000 in
set_option maxRecDepth 100000 in
theorem lw_explains {p : Program} {e : Env} {s : State} {m : MethodId} {below : List Frame} {meth : Method} {c : Code} (l : Launch) {D : va_G} {cI cR : ClassId} {sb h h2 : Nat} {ad : Nat → Nat} {aa : Nat → Nat → Nat} {a2 : Nat → Nat} {i L : Nat} {xs : Nat → Int32} (hL : L ≤ 2048) (C0 : lw_At p s m meth c sb L xs) (hK : va_K D vwCl (nTy cI cR) s) (hi : i + 4 ≤ L) (kk : LK p l e s m below meth c D cI cR sb h h2 ad aa a2 i 778) : LK p l e s m below meth c D cI cR sb h h2 ad aa a2 i 574 := by
  obtain ⟨hx, hb, hr, hml, hown0, hts0, hX, hbl, hlocks, hgv⟩ := id C0
  have hts : ∀ w ∈ nT, w.before #[Value.ref sb] s = true := fun w q => hts0 w (List.mem_filter.mp q).1
  have hown : s.vm.findClass RL = some m.cls := hown0
  have hA : ∀ q : Nat, s.heap.size ≤ q → lwA s q := fun _ q => q
  have hbA : ¬ lwA s sb := Nat.not_le.mpr hbl
  obtain ⟨x, ex⟩ : ∃ v : Int32, v = xs (nI (i + 1)).toNatClampNeg := ⟨_, rfl⟩
  intro ρ τ σ o n b ln g fo0 wv nw at0 wd hh eσ hI H locs hP hD hS ls hl
  subst eσ
  obtain ⟨hw, h4, ho, hn, -, hln, hb0⟩ := id hI
  refine lv_aload_n hx hb dL_law_574 rfl (lv_at hl 2 rfl) ?_
  refine lv_aload_n hx hb dL_law_575 rfl (lv_at hl 3 rfl) ?_
  refine lv_iload_n hx hb dL_law_576 rfl (lv_at hl 0 rfl) ?_
  refine lv_iconst (v := nI 1) hx hb dL_law_577 (by decide) ?_
  refine nv_iadd hx hb dL_law_578 ?_
  refine va_sld hx hb hX hbl hbA hS (vp_in_nI (by omega) (by omega)) dL_law_579 ?_
  refine nv_tope x ex.symm ?_
  refine nv_callV [.int x] [] hx hb hml hown hts k_RL_81 (c_X3_explains l D cI cR h ad aa (ρ 0) o n τ b ln g fo0 x hw) ⟨rfl, rfl, Nat.le_of_ble_eq_true rfl, Nat.le_of_ble_eq_true rfl⟩ (hP.sub [0, 1, 2, 3, 4, 5, 6, 7, 8, 9, 10, 11, 12, 13, 14, 15, 16, 17, 18, 19, 20, 21, 22, 23, 24, 25, 26, 27, 28, 29, 30, 31, 32, 33, 34, 35] rfl) hK 3 rfl rfl rfl rfl hl rfl (Nat.le_of_ble_eq_true rfl) dL_law_580 ⟨Nat.le_of_ble_eq_true rfl, Nat.le_of_ble_eq_true rfl⟩ ?_
  refine lv_aload_n hx hb dL_law_583 rfl (lv_at hl 1 rfl) ?_
  refine lv_aload_n hx hb dL_law_584 rfl (lv_at hl 3 rfl) ?_
  refine lv_iload_n hx hb dL_law_585 rfl (lv_at hl 0 rfl) ?_
  refine lv_iconst (v := nI 1) hx hb dL_law_586 (by decide) ?_
  refine nv_iadd hx hb dL_law_587 ?_
  refine va_sld hx hb hX hbl hbA hS (vp_in_nI (by omega) (by omega)) dL_law_588 ?_
  refine nv_tope x ex.symm ?_
  refine mu_call (ws' := wCR h ad aa cI cR (ρ 0) o n τ b ln g fo0 ++ wMd h2 a2 cI (rwF ρ) n (nF (cond (decide (0 ≤ (x).toInt)) (rtG (ρ 0) (wvG (ρ 0) wv (nW (ρ 0))) (nW (ρ 0))) wv)) (nF (cond (decide (0 ≤ (x).toInt)) (nwG (ρ 0) nw (nA (ρ 0))) nw)) (nF b) ln at0 wd hh) [36, 37, 38, 39, 40] [0, 1, 2, 3, 4, 5, 6, 7, 8, 9, 10, 11, 12, 13, 14, 15, 16, 17, 18, 19, 20, 21, 22, 23, 24, 25, 26, 27, 28, 29, 30, 31, 32, 33, 34, 35] [0, 1, 2, 3, 4, 5, 6, 7, 8, 9, 10, 11, 12, 13, 14, 15, 16, 17, 18, 19, 20, 21, 22, 23, 24, 25, 26, 27, 28, 29, 30, 31, 32, 33, 34, 35, 36, 37, 38, 39, 40] [.int x] [.int (aExplains (ρ 0) x)] hx hb hml hown hts k_RL_84 (fun sz => c_X4_explains l D cI cR h2 a2 ρ n wv nw b ln at0 wd hh x hw sz) ⟨rfl, rfl, Nat.le_of_ble_eq_true rfl, Nat.le_of_ble_eq_true rfl⟩ hP hD hS hA hK 4 rfl rfl rfl rfl rfl rfl rfl (by decide) rfl rfl rfl hl rfl (Nat.le_of_ble_eq_true rfl) dL_law_589 ⟨Nat.le_of_ble_eq_true rfl, Nat.le_of_ble_eq_true rfl⟩ (fun H locs hP hD hS => ?_)
  refine W.eq (g2 := F0 m 592 ls [.int (aExplains (ρ 0) x), .int (aExplains (ρ 0) x)]) rfl ?_
  refine lv_icmp_eq (tgt := 778) hx hb dL_law_592 (by decide) (fun _ => ?_) (fun q => absurd (rfl) q)
  exact kk _ _ _ _ _ _ _ _ _ _ _ _ _ _ rfl hI H locs hP hD hS ls (lv_sub hl [0, 1, 2, 3] rfl)
set_option maxHeartbeats 4000000 in
set_option maxRecDepth 100000 in
theorem lw_patch {p : Program} {e : Env} {s : State} {m : MethodId} {below : List Frame} {meth : Method} {c : Code} (l : Launch) {D : va_G} {cI cR : ClassId} {sb h h2 : Nat} {ad : Nat → Nat} {aa : Nat → Nat → Nat} {a2 : Nat → Nat} {i L : Nat} {xs : Nat → Int32} (hL : L ≤ 2048) (C0 : lw_At p s m meth c sb L xs) (hK : va_K D vwCl (nTy cI cR) s) (hi : i + 4 ≤ L) (kk : LK p l e s m below meth c D cI cR sb h h2 ad aa a2 i 778) : LK p l e s m below meth c D cI cR sb h h2 ad aa a2 i 597 := by
  obtain ⟨hx, hb, hr, hml, hown0, hts0, hX, hbl, hlocks, hgv⟩ := id C0
  have hts : ∀ w ∈ nT, w.before #[Value.ref sb] s = true := fun w q => hts0 w (List.mem_filter.mp q).1
  have hown : s.vm.findClass RL = some m.cls := hown0
  have hA : ∀ q : Nat, s.heap.size ≤ q → lwA s q := fun _ q => q
  have hbA : ¬ lwA s sb := Nat.not_le.mpr hbl
  obtain ⟨x, ex⟩ : ∃ v : Int32, v = xs (nI (i + 1)).toNatClampNeg := ⟨_, rfl⟩
  obtain ⟨y, ey⟩ : ∃ v : Int32, v = xs (nI (i + 2)).toNatClampNeg := ⟨_, rfl⟩
  intro ρ τ σ o n b ln g fo0 wv nw at0 wd hh eσ hI H locs hP hD hS ls hl
  subst eσ
  obtain ⟨hw, h4, ho, hn, -, hln, hb0⟩ := id hI
  refine lv_aload_n hx hb dL_law_597 rfl (lv_at hl 2 rfl) ?_
  refine lv_aload_n hx hb dL_law_598 rfl (lv_at hl 3 rfl) ?_
  refine lv_iload_n hx hb dL_law_599 rfl (lv_at hl 0 rfl) ?_
  refine lv_iconst (v := nI 1) hx hb dL_law_600 (by decide) ?_
  refine nv_iadd hx hb dL_law_601 ?_
  refine va_sld hx hb hX hbl hbA hS (vp_in_nI (by omega) (by omega)) dL_law_602 ?_
  refine nv_tope x ex.symm ?_
  refine lv_aload_n hx hb dL_law_603 rfl (lv_at hl 3 rfl) ?_
  refine lv_iload_n hx hb dL_law_604 rfl (lv_at hl 0 rfl) ?_
  refine lv_iconst (v := nI 2) hx hb dL_law_605 (by decide) ?_
  refine nv_iadd hx hb dL_law_606 ?_
  refine va_sld hx hb hX hbl hbA hS (vp_in_nI (by omega) (by omega)) dL_law_607 ?_
  refine nv_tope y ey.symm ?_
  refine mu_call (ws' := wCR h ad aa cI cR (cond (inB x (nA (ρ 0)) && inB y (2 ^ (ρ 0) 1) && okP (ρ 0) x) (ptS (ρ 0) x (cl y + 1)) (ρ 0)) (cond (inB x (nA (ρ 0)) && inB y (2 ^ (ρ 0) 1) && okP (ρ 0) x) (kpO o n) o) (cond (inB x (nA (ρ 0)) && inB y (2 ^ (ρ 0) 1) && okP (ρ 0) x) (kpN n) n) (cond (inB x (nA (ρ 0)) && inB y (2 ^ (ρ 0) 1) && okP (ρ 0) x) (va_up τ (kpS o n) (ρ 0)) τ) b ln g fo0 ++ wMd h2 a2 cI (rwF ρ) n (nF wv) (nF nw) (nF b) ln at0 wd hh) [0, 1, 2, 3, 4, 5, 6, 7, 8, 9, 10, 11, 12, 13, 14, 15, 16, 17, 18, 19, 20, 21, 22, 23, 24, 25, 26, 27, 28, 29, 30, 31, 32, 33, 34, 35] [36, 37, 38, 39, 40] [5, 6, 7, 8, 9, 10, 11, 12, 13, 14, 15, 16, 17, 18, 19, 20, 21, 22, 23, 24, 25, 26, 27, 28, 29, 30, 31, 32, 33, 34, 35, 36, 37, 38, 39, 40, 0, 1, 2, 3, 4] [.int x, .int y] [] hx hb hml hown hts k_RL_85 (fun sz => c_X3_patch l D cI cR h ad aa (ρ 0) o n τ b ln g fo0 x y hw ho hn h4 sz) ⟨rfl, rfl, Nat.le_of_ble_eq_true rfl, Nat.le_of_ble_eq_true rfl⟩ hP hD hS hA hK 3 rfl rfl rfl rfl rfl rfl rfl (by decide) rfl rfl rfl hl rfl (Nat.le_of_ble_eq_true rfl) dL_law_608 ⟨Nat.le_of_ble_eq_true rfl, Nat.le_of_ble_eq_true rfl⟩ (fun H locs hP hD hS => ?_)
  refine W.eq (g2 := F0 m 611 ls [.int (aPatch (ρ 0) x y)]) rfl ?_
  refine lv_aload_n hx hb dL_law_611 rfl (lv_at hl 1 rfl) ?_
  refine lv_aload_n hx hb dL_law_612 rfl (lv_at hl 3 rfl) ?_
  refine lv_iload_n hx hb dL_law_613 rfl (lv_at hl 0 rfl) ?_
  refine lv_iconst (v := nI 1) hx hb dL_law_614 (by decide) ?_
  refine nv_iadd hx hb dL_law_615 ?_
  refine va_sld hx hb hX hbl hbA hS (vp_in_nI (by omega) (by omega)) dL_law_616 ?_
  refine nv_tope x ex.symm ?_
  refine lv_aload_n hx hb dL_law_617 rfl (lv_at hl 3 rfl) ?_
  refine lv_iload_n hx hb dL_law_618 rfl (lv_at hl 0 rfl) ?_
  refine lv_iconst (v := nI 2) hx hb dL_law_619 (by decide) ?_
  refine nv_iadd hx hb dL_law_620 ?_
  refine va_sld hx hb hX hbl hbA hS (vp_in_nI (by omega) (by omega)) dL_law_621 ?_
  refine nv_tope y ey.symm ?_
  refine mu_call (ws' := wCR h ad aa cI cR (cond (inB x (nA (ρ 0)) && inB y (2 ^ (ρ 0) 1) && okP (ρ 0) x) (ptS (ρ 0) x (cl y + 1)) (ρ 0)) (cond (inB x (nA (ρ 0)) && inB y (2 ^ (ρ 0) 1) && okP (ρ 0) x) (kpO o n) o) (cond (inB x (nA (ρ 0)) && inB y (2 ^ (ρ 0) 1) && okP (ρ 0) x) (kpN n) n) (cond (inB x (nA (ρ 0)) && inB y (2 ^ (ρ 0) 1) && okP (ρ 0) x) (va_up τ (kpS o n) (ρ 0)) τ) b ln g fo0 ++ wMd h2 a2 cI (rwF (cond (inB x (nA (ρ 0)) && inB y (2 ^ ρ 0 1) && okP (ρ 0) x) (recR ρ n (ptS (ρ 0) x (cl y + 1))) ρ)) (cond (inB x (nA (ρ 0)) && inB y (2 ^ ρ 0 1) && okP (ρ 0) x) (kpN n) n) (nF wv) (nF nw) (nF b) ln at0 wd hh) [36, 37, 38, 39, 40] [0, 1, 2, 3, 4, 5, 6, 7, 8, 9, 10, 11, 12, 13, 14, 15, 16, 17, 18, 19, 20, 21, 22, 23, 24, 25, 26, 27, 28, 29, 30, 31, 32, 33, 34, 35] [0, 1, 2, 3, 4, 5, 6, 7, 8, 9, 10, 11, 12, 13, 14, 15, 16, 17, 18, 19, 20, 21, 22, 23, 24, 25, 26, 27, 28, 29, 30, 31, 32, 33, 34, 35, 36, 37, 38, 39, 40] [.int x, .int y] [.int (aPatch (ρ 0) x y)] hx hb hml hown hts k_RL_88 (fun sz => c_X4_patch l D cI cR h2 a2 ρ n wv nw b ln at0 wd hh x y hw hn h4 sz) ⟨rfl, rfl, Nat.le_of_ble_eq_true rfl, Nat.le_of_ble_eq_true rfl⟩ hP hD hS hA hK 4 rfl rfl rfl rfl rfl rfl rfl (by decide) rfl rfl rfl hl rfl (Nat.le_of_ble_eq_true rfl) dL_law_622 ⟨Nat.le_of_ble_eq_true rfl, Nat.le_of_ble_eq_true rfl⟩ (fun H locs hP hD hS => ?_)
  refine W.eq (g2 := F0 m 625 ls [.int (aPatch (ρ 0) x y), .int (aPatch (ρ 0) x y)]) rfl ?_
  refine lv_icmp_eq (tgt := 778) hx hb dL_law_625 (by decide) (fun _ => ?_) (fun q => absurd (rfl) q)
  obtain ⟨q1, q2⟩ := hI.opt (inB x (nA (ρ 0)) && inB y (2 ^ ρ 0 1) && okP (ρ 0) x) (fun q => st_patch hw h4 q)
  exact kk _ _ _ _ _ _ _ _ _ _ _ _ _ _ q1 q2 H locs hP hD hS ls (lv_sub hl [0, 1, 2, 3] rfl)
set_option maxHeartbeats 4000000 in
set_option maxRecDepth 100000 in
theorem lw_unpatch {p : Program} {e : Env} {s : State} {m : MethodId} {below : List Frame} {meth : Method} {c : Code} (l : Launch) {D : va_G} {cI cR : ClassId} {sb h h2 : Nat} {ad : Nat → Nat} {aa : Nat → Nat → Nat} {a2 : Nat → Nat} {i L : Nat} {xs : Nat → Int32} (hL : L ≤ 2048) (C0 : lw_At p s m meth c sb L xs) (hK : va_K D vwCl (nTy cI cR) s) (hi : i + 4 ≤ L) (kk : LK p l e s m below meth c D cI cR sb h h2 ad aa a2 i 778) : LK p l e s m below meth c D cI cR sb h h2 ad aa a2 i 630 := by
  obtain ⟨hx, hb, hr, hml, hown0, hts0, hX, hbl, hlocks, hgv⟩ := id C0
  have hts : ∀ w ∈ nT, w.before #[Value.ref sb] s = true := fun w q => hts0 w (List.mem_filter.mp q).1
  have hown : s.vm.findClass RL = some m.cls := hown0
  have hA : ∀ q : Nat, s.heap.size ≤ q → lwA s q := fun _ q => q
  have hbA : ¬ lwA s sb := Nat.not_le.mpr hbl
  obtain ⟨x, ex⟩ : ∃ v : Int32, v = xs (nI (i + 1)).toNatClampNeg := ⟨_, rfl⟩
  intro ρ τ σ o n b ln g fo0 wv nw at0 wd hh eσ hI H locs hP hD hS ls hl
  subst eσ
  obtain ⟨hw, h4, ho, hn, -, hln, hb0⟩ := id hI
  refine lv_aload_n hx hb dL_law_630 rfl (lv_at hl 2 rfl) ?_
  refine lv_aload_n hx hb dL_law_631 rfl (lv_at hl 3 rfl) ?_
  refine lv_iload_n hx hb dL_law_632 rfl (lv_at hl 0 rfl) ?_
  refine lv_iconst (v := nI 1) hx hb dL_law_633 (by decide) ?_
  refine nv_iadd hx hb dL_law_634 ?_
  refine va_sld hx hb hX hbl hbA hS (vp_in_nI (by omega) (by omega)) dL_law_635 ?_
  refine nv_tope x ex.symm ?_
  refine mu_call (ws' := wCR h ad aa cI cR (cond (inB x (nA (ρ 0)) && (ρ 0) (141 + cl x) != 0) (ptS (ρ 0) x 0) (ρ 0)) (cond (inB x (nA (ρ 0)) && (ρ 0) (141 + cl x) != 0) (kpO o n) o) (cond (inB x (nA (ρ 0)) && (ρ 0) (141 + cl x) != 0) (kpN n) n) (cond (inB x (nA (ρ 0)) && (ρ 0) (141 + cl x) != 0) (va_up τ (kpS o n) (ρ 0)) τ) b ln g fo0 ++ wMd h2 a2 cI (rwF ρ) n (nF wv) (nF nw) (nF b) ln at0 wd hh) [0, 1, 2, 3, 4, 5, 6, 7, 8, 9, 10, 11, 12, 13, 14, 15, 16, 17, 18, 19, 20, 21, 22, 23, 24, 25, 26, 27, 28, 29, 30, 31, 32, 33, 34, 35] [36, 37, 38, 39, 40] [5, 6, 7, 8, 9, 10, 11, 12, 13, 14, 15, 16, 17, 18, 19, 20, 21, 22, 23, 24, 25, 26, 27, 28, 29, 30, 31, 32, 33, 34, 35, 36, 37, 38, 39, 40, 0, 1, 2, 3, 4] [.int x] [] hx hb hml hown hts k_RL_89 (fun sz => c_X3_unpatch l D cI cR h ad aa (ρ 0) o n τ b ln g fo0 x hw ho hn sz) ⟨rfl, rfl, Nat.le_of_ble_eq_true rfl, Nat.le_of_ble_eq_true rfl⟩ hP hD hS hA hK 3 rfl rfl rfl rfl rfl rfl rfl (by decide) rfl rfl rfl hl rfl (Nat.le_of_ble_eq_true rfl) dL_law_636 ⟨Nat.le_of_ble_eq_true rfl, Nat.le_of_ble_eq_true rfl⟩ (fun H locs hP hD hS => ?_)
  refine W.eq (g2 := F0 m 639 ls [.int (aUnpatch (ρ 0) x)]) rfl ?_
  refine lv_aload_n hx hb dL_law_639 rfl (lv_at hl 1 rfl) ?_
  refine lv_aload_n hx hb dL_law_640 rfl (lv_at hl 3 rfl) ?_
  refine lv_iload_n hx hb dL_law_641 rfl (lv_at hl 0 rfl) ?_
  refine lv_iconst (v := nI 1) hx hb dL_law_642 (by decide) ?_
  refine nv_iadd hx hb dL_law_643 ?_
  refine va_sld hx hb hX hbl hbA hS (vp_in_nI (by omega) (by omega)) dL_law_644 ?_
  refine nv_tope x ex.symm ?_
  refine mu_call (ws' := wCR h ad aa cI cR (cond (inB x (nA (ρ 0)) && (ρ 0) (141 + cl x) != 0) (ptS (ρ 0) x 0) (ρ 0)) (cond (inB x (nA (ρ 0)) && (ρ 0) (141 + cl x) != 0) (kpO o n) o) (cond (inB x (nA (ρ 0)) && (ρ 0) (141 + cl x) != 0) (kpN n) n) (cond (inB x (nA (ρ 0)) && (ρ 0) (141 + cl x) != 0) (va_up τ (kpS o n) (ρ 0)) τ) b ln g fo0 ++ wMd h2 a2 cI (rwF (cond (inB x (nA (ρ 0)) && ρ 0 (141 + cl x) != 0) (recR ρ n (ptS (ρ 0) x 0)) ρ)) (cond (inB x (nA (ρ 0)) && ρ 0 (141 + cl x) != 0) (kpN n) n) (nF wv) (nF nw) (nF b) ln at0 wd hh) [36, 37, 38, 39, 40] [0, 1, 2, 3, 4, 5, 6, 7, 8, 9, 10, 11, 12, 13, 14, 15, 16, 17, 18, 19, 20, 21, 22, 23, 24, 25, 26, 27, 28, 29, 30, 31, 32, 33, 34, 35] [0, 1, 2, 3, 4, 5, 6, 7, 8, 9, 10, 11, 12, 13, 14, 15, 16, 17, 18, 19, 20, 21, 22, 23, 24, 25, 26, 27, 28, 29, 30, 31, 32, 33, 34, 35, 36, 37, 38, 39, 40] [.int x] [.int (aUnpatch (ρ 0) x)] hx hb hml hown hts k_RL_92 (fun sz => c_X4_unpatch l D cI cR h2 a2 ρ n wv nw b ln at0 wd hh x hw hn sz) ⟨rfl, rfl, Nat.le_of_ble_eq_true rfl, Nat.le_of_ble_eq_true rfl⟩ hP hD hS hA hK 4 rfl rfl rfl rfl rfl rfl rfl (by decide) rfl rfl rfl hl rfl (Nat.le_of_ble_eq_true rfl) dL_law_645 ⟨Nat.le_of_ble_eq_true rfl, Nat.le_of_ble_eq_true rfl⟩ (fun H locs hP hD hS => ?_)
  refine W.eq (g2 := F0 m 648 ls [.int (aUnpatch (ρ 0) x), .int (aUnpatch (ρ 0) x)]) rfl ?_
  refine lv_icmp_eq (tgt := 778) hx hb dL_law_648 (by decide) (fun _ => ?_) (fun q => absurd (rfl) q)
  obtain ⟨q1, q2⟩ := hI.opt (inB x (nA (ρ 0)) && ρ 0 (141 + cl x) != 0) (fun q => st_unpatch hw h4 q)
  exact kk _ _ _ _ _ _ _ _ _ _ _ _ _ _ q1 q2 H locs hP hD hS ls (lv_sub hl [0, 1, 2, 3] rfl)
set_option maxHeartbeats 4000000 in
set_option maxRecDepth 100000 in
theorem lw_patchAll {p : Program} {e : Env} {s : State} {m : MethodId} {below : List Frame} {meth : Method} {c : Code} (l : Launch) {D : va_G} {cI cR : ClassId} {sb h h2 : Nat} {ad : Nat → Nat} {aa : Nat → Nat → Nat} {a2 : Nat → Nat} {i L : Nat} {xs : Nat → Int32} (hL : L ≤ 2048) (C0 : lw_At p s m meth c sb L xs) (hK : va_K D vwCl (nTy cI cR) s) (hi : i + 4 ≤ L) (kk : LK p l e s m below meth c D cI cR sb h h2 ad aa a2 i 778) : LK p l e s m below meth c D cI cR sb h h2 ad aa a2 i 653 := by
  obtain ⟨hx, hb, hr, hml, hown0, hts0, hX, hbl, hlocks, hgv⟩ := id C0
  have hts : ∀ w ∈ nT, w.before #[Value.ref sb] s = true := fun w q => hts0 w (List.mem_filter.mp q).1
  have hown : s.vm.findClass RL = some m.cls := hown0
  have hA : ∀ q : Nat, s.heap.size ≤ q → lwA s q := fun _ q => q
  have hbA : ¬ lwA s sb := Nat.not_le.mpr hbl
  intro ρ τ σ o n b ln g fo0 wv nw at0 wd hh eσ hI H locs hP hD hS ls hl
  subst eσ
  obtain ⟨hw, h4, ho, hn, -, hln, hb0⟩ := id hI
  refine lv_aload_n hx hb dL_law_653 rfl (lv_at hl 2 rfl) ?_
  refine mu_call (ws' := wCR h ad aa cI cR (paS (ρ 0)) (kpO o n) (kpN n) (va_up τ (kpS o n) (ρ 0)) b ln g fo0 ++ wMd h2 a2 cI (rwF ρ) n (nF wv) (nF nw) (nF b) ln at0 wd hh) [0, 1, 2, 3, 4, 5, 6, 7, 8, 9, 10, 11, 12, 13, 14, 15, 16, 17, 18, 19, 20, 21, 22, 23, 24, 25, 26, 27, 28, 29, 30, 31, 32, 33, 34, 35] [36, 37, 38, 39, 40] [5, 6, 7, 8, 9, 10, 11, 12, 13, 14, 15, 16, 17, 18, 19, 20, 21, 22, 23, 24, 25, 26, 27, 28, 29, 30, 31, 32, 33, 34, 35, 36, 37, 38, 39, 40, 0, 1, 2, 3, 4] [] [] hx hb hml hown hts k_RL_93 (fun sz => c_X3_patchAll l D cI cR h ad aa (ρ 0) o n τ b ln g fo0 hw ho hn h4 sz) ⟨rfl, rfl, Nat.le_of_ble_eq_true rfl, Nat.le_of_ble_eq_true rfl⟩ hP hD hS hA hK 3 rfl rfl rfl rfl rfl rfl rfl (by decide) rfl rfl rfl hl rfl (Nat.le_of_ble_eq_true rfl) dL_law_654 ⟨Nat.le_of_ble_eq_true rfl, Nat.le_of_ble_eq_true rfl⟩ (fun H locs hP hD hS => ?_)
  refine W.eq (g2 := F0 m 657 ls [.int (aPatchAll (ρ 0))]) rfl ?_
  refine lv_aload_n hx hb dL_law_657 rfl (lv_at hl 1 rfl) ?_
  refine mu_call (ws' := wCR h ad aa cI cR (paS (ρ 0)) (kpO o n) (kpN n) (va_up τ (kpS o n) (ρ 0)) b ln g fo0 ++ wMd h2 a2 cI (rwF (recR ρ n (paS (ρ 0)))) (kpN n) (nF (wvG (paS (ρ 0)) (wvG (ρ 0) wv (nW (ρ 0))) (nW (paS (ρ 0))))) (nF nw) (nF b) ln at0 wd hh) [36, 37, 38, 39, 40] [0, 1, 2, 3, 4, 5, 6, 7, 8, 9, 10, 11, 12, 13, 14, 15, 16, 17, 18, 19, 20, 21, 22, 23, 24, 25, 26, 27, 28, 29, 30, 31, 32, 33, 34, 35] [0, 1, 2, 3, 4, 5, 6, 7, 8, 9, 10, 11, 12, 13, 14, 15, 16, 17, 18, 19, 20, 21, 22, 23, 24, 25, 26, 27, 28, 29, 30, 31, 32, 33, 34, 35, 36, 37, 38, 39, 40] [] [.int (aPatchAll (ρ 0))] hx hb hml hown hts k_RL_96 (fun sz => c_X4_patchAll l D cI cR h2 a2 ρ n wv nw b ln at0 wd hh hw hn h4 sz) ⟨rfl, rfl, Nat.le_of_ble_eq_true rfl, Nat.le_of_ble_eq_true rfl⟩ hP hD hS hA hK 4 rfl rfl rfl rfl rfl rfl rfl (by decide) rfl rfl rfl hl rfl (Nat.le_of_ble_eq_true rfl) dL_law_658 ⟨Nat.le_of_ble_eq_true rfl, Nat.le_of_ble_eq_true rfl⟩ (fun H locs hP hD hS => ?_)
  refine W.eq (g2 := F0 m 661 ls [.int (aPatchAll (ρ 0)), .int (aPatchAll (ρ 0))]) rfl ?_
  refine lv_icmp_eq (tgt := 778) hx hb dL_law_661 (by decide) (fun _ => ?_) (fun q => absurd (rfl) q)
  obtain ⟨q1, q2⟩ := hI.rec1 (st_pa hw h4)
  exact kk _ _ _ _ _ _ _ _ _ _ _ _ _ _ q1 q2 H locs hP hD hS ls (lv_sub hl [0, 1, 2, 3] rfl)
set_option maxHeartbeats 4000000 in
set_option maxRecDepth 100000 in
theorem lw_patchOf {p : Program} {e : Env} {s : State} {m : MethodId} {below : List Frame} {meth : Method} {c : Code} (l : Launch) {D : va_G} {cI cR : ClassId} {sb h h2 : Nat} {ad : Nat → Nat} {aa : Nat → Nat → Nat} {a2 : Nat → Nat} {i L : Nat} {xs : Nat → Int32} (hL : L ≤ 2048) (C0 : lw_At p s m meth c sb L xs) (hK : va_K D vwCl (nTy cI cR) s) (hi : i + 4 ≤ L) (kk : LK p l e s m below meth c D cI cR sb h h2 ad aa a2 i 778) : LK p l e s m below meth c D cI cR sb h h2 ad aa a2 i 666 := by
  obtain ⟨hx, hb, hr, hml, hown0, hts0, hX, hbl, hlocks, hgv⟩ := id C0
  have hts : ∀ w ∈ nT, w.before #[Value.ref sb] s = true := fun w q => hts0 w (List.mem_filter.mp q).1
  have hown : s.vm.findClass RL = some m.cls := hown0
  have hA : ∀ q : Nat, s.heap.size ≤ q → lwA s q := fun _ q => q
  have hbA : ¬ lwA s sb := Nat.not_le.mpr hbl
  obtain ⟨x, ex⟩ : ∃ v : Int32, v = xs (nI (i + 1)).toNatClampNeg := ⟨_, rfl⟩
  intro ρ τ σ o n b ln g fo0 wv nw at0 wd hh eσ hI H locs hP hD hS ls hl
  subst eσ
  obtain ⟨hw, h4, ho, hn, -, hln, hb0⟩ := id hI
  refine lv_aload_n hx hb dL_law_666 rfl (lv_at hl 2 rfl) ?_
  refine lv_aload_n hx hb dL_law_667 rfl (lv_at hl 3 rfl) ?_
  refine lv_iload_n hx hb dL_law_668 rfl (lv_at hl 0 rfl) ?_
  refine lv_iconst (v := nI 1) hx hb dL_law_669 (by decide) ?_
  refine nv_iadd hx hb dL_law_670 ?_
  refine va_sld hx hb hX hbl hbA hS (vp_in_nI (by omega) (by omega)) dL_law_671 ?_
  refine nv_tope x ex.symm ?_
  refine nv_callV [.int x] [] hx hb hml hown hts k_RL_97 (c_X3_patchOf l D cI cR h ad aa (ρ 0) o n τ b ln g fo0 x hw) ⟨rfl, rfl, Nat.le_of_ble_eq_true rfl, Nat.le_of_ble_eq_true rfl⟩ (hP.sub [0, 1, 2, 3, 4, 5, 6, 7, 8, 9, 10, 11, 12, 13, 14, 15, 16, 17, 18, 19, 20, 21, 22, 23, 24, 25, 26, 27, 28, 29, 30, 31, 32, 33, 34, 35] rfl) hK 3 rfl rfl rfl rfl hl rfl (Nat.le_of_ble_eq_true rfl) dL_law_672 ⟨Nat.le_of_ble_eq_true rfl, Nat.le_of_ble_eq_true rfl⟩ ?_
  refine lv_aload_n hx hb dL_law_675 rfl (lv_at hl 1 rfl) ?_
  refine lv_aload_n hx hb dL_law_676 rfl (lv_at hl 3 rfl) ?_
  refine lv_iload_n hx hb dL_law_677 rfl (lv_at hl 0 rfl) ?_
  refine lv_iconst (v := nI 1) hx hb dL_law_678 (by decide) ?_
  refine nv_iadd hx hb dL_law_679 ?_
  refine va_sld hx hb hX hbl hbA hS (vp_in_nI (by omega) (by omega)) dL_law_680 ?_
  refine nv_tope x ex.symm ?_
  refine nv_callV [.int x] [.int (aPatchOf (ρ 0) x)] hx hb hml hown hts k_RL_100 (c_X4_patchOf l D cI cR h2 a2 ρ n wv nw b ln at0 wd hh x hw) ⟨rfl, rfl, Nat.le_of_ble_eq_true rfl, Nat.le_of_ble_eq_true rfl⟩ (hP.sub [36, 37, 38, 39, 40] rfl) hK 4 rfl rfl rfl rfl hl rfl (Nat.le_of_ble_eq_true rfl) dL_law_681 ⟨Nat.le_of_ble_eq_true rfl, Nat.le_of_ble_eq_true rfl⟩ ?_
  refine lv_icmp_eq (tgt := 778) hx hb dL_law_684 (by decide) (fun _ => ?_) (fun q => absurd (rfl) q)
  exact kk _ _ _ _ _ _ _ _ _ _ _ _ _ _ rfl hI H locs hP hD hS ls (lv_sub hl [0, 1, 2, 3] rfl)
