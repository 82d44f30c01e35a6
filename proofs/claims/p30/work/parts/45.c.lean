set_option maxHeartbeats 4000000 in
set_option maxRecDepth 100000 in
/-- no economized wire costs less the other way round -/
theorem lw_425 {p : Program} {e : Env} {s : State} {m : MethodId} {below : List Frame} {meth : Method} {c : Code} (l : Launch) {D : va_G} {cI cR : ClassId} {sb h : Nat} {ad : Nat → Nat} {aa : Nat → Nat → Nat} {L : Nat} {xs : Nat → Int32} (hL : L ≤ 260) (C0 : lw_At p s m meth c sb L xs) (hK : va_K D vwCl (nTy cI cR) s) (σ : Nat → Nat) (ob : Nat) (nb : Nat) (τb : Nat → Nat → Nat) (w : Nat) (r : Nat) (hi : lwI σ ob nb) (he : eco σ) (hwl : w < nW σ) (hrl : r < σ 0) : LG p l e s m below meth c D cI cR sb h ad aa 425 [(1, .ref h), (6, .int (nI r)), (8, .int (nI w)), (10, .int (nI 8))] σ ob nb τb := by
  obtain ⟨hx, hb, hr, hml, hown0, hts0, hX, hbl, hlocks, hgv⟩ := id C0
  have hts : ∀ w ∈ nT, w.before #[Value.ref sb] s = true := fun w q => hts0 w (List.mem_filter.mp q).1
  have hown : s.vm.findClass RL = some m.cls := hown0
  have hA : ∀ q : Nat, s.heap.size ≤ q → lwA s q := fun _ q => q
  have hbA : ¬ lwA s sb := Nat.not_le.mpr hbl
  have hw := hi.1
  have hn8 := nW8 σ
  have hA41 := hw.w41
  have hA33 := hw.a33
  have hA48 := hw.a48
  obtain ⟨hR2, hR, hB1, hB, hSa, hSb, -⟩ := id hw
  intro H locs hP hD hS ls hl
  have L425 : ∀ (n425 k : Nat) (o : Nat) (n : Nat) (τ : Nat → Nat → Nat), nW σ + 1 ≤ k + n425 → k ≤ nW σ → (lwI σ o n) → (8 ≤ k) → ∀ (H : Heap) (locs : List Loc), va_P D vwCl (wS h ad aa cI cR σ o n τ) H → va_D (lwA s) (wS h ad aa cI cR σ o n τ) → va_S (lwA s) s.heap H locs → ∀ (ls : Array Slot), lv_has ls 18 [(1, .ref h), (6, .int (nI r)), (8, .int (nI w)), (10, .int (nI k))] → W p l e room_1 s m #[Value.ref sb] below meth c H locs 36 1231 (lw_Z below #[Value.ref sb] s) (F0 m 425 ls []) := by
    intro n425
    induction n425 with
    | zero =>
      intro k o n τ h1_425 h2_425
      exact False.elim (by omega)
    | succ n425 ih425 =>
      intro k o n τ h1_425 h2_425 hi h8k H locs hP hD hS ls hl
      have ho := hi.2.2.1
      have hn := hi.2.2.2
      refine lv_iload hx hb dL_law_425 (lv_at hl 3 rfl) ?_
      refine lv_aload_n hx hb dL_law_427 rfl (lv_at hl 0 rfl) ?_
      refine lv_iconst (v := nI 4) hx hb dL_law_428 (by decide) ?_
      refine nv_callV [.int (nI 4)] [.int (nI k)] hx hb hml hown hts k_RL_8 (c_X3_count4 l D cI cR h ad aa σ o n τ 4 hw rfl) ⟨rfl, rfl, Nat.le_of_ble_eq_true rfl, Nat.le_of_ble_eq_true rfl⟩ hP hK 3 rfl rfl rfl rfl hl rfl (Nat.le_of_ble_eq_true rfl) dL_law_429 ⟨Nat.le_of_ble_eq_true rfl, Nat.le_of_ble_eq_true rfl⟩ ?_
      refine nv_icmp_ge (tgt := 487) hx hb dL_law_432 (by decide) (by omega) (by omega) (fun q_432 => ?_) (fun q_432 => ?_)
      · refine lv_iconst (v := nI 0) hx hb dL_law_487 (by decide) ?_
        refine lv_istore (lv' := [(10, .int (nI 0)), (1, .ref h), (6, .int (nI r)), (8, .int (nI w))]) hx hb dL_law_488 hl (by decide) rfl (fun ls hl => ?_)
        exact lw_490 l hL C0 hK σ o n τ w r hi hwl hrl _ _ hP hD hS ls (lv_sub hl [1, 2, 3, 0] rfl)
      · have hkl : k < nW σ := q_432
        have hec := he k h8k hkl
        have hc1 := cs_le hw hkl
        have hfw := fl_wf hw h8k hkl
        have hc2 := cs_le hfw (show k < nW (flS σ k) by rw [nW_fl]; exact hkl)
        refine lv_aload_n hx hb dL_law_435 rfl (lv_at hl 0 rfl) ?_
        refine lv_iload hx hb dL_law_436 (lv_at hl 3 rfl) ?_
        refine nv_callV [.int (nI k)] [] hx hb hml hown hts k_RL_35 (c_X3_costN l D cI cR h ad aa σ o n τ k hw hkl) ⟨rfl, rfl, Nat.le_of_ble_eq_true rfl, Nat.le_of_ble_eq_true rfl⟩ hP hK 3 rfl rfl rfl rfl hl rfl (Nat.le_of_ble_eq_true rfl) dL_law_438 ⟨Nat.le_of_ble_eq_true rfl, Nat.le_of_ble_eq_true rfl⟩ ?_
        refine lv_istore (lv' := [(11, .int (nI (csN σ k))), (1, .ref h), (6, .int (nI r)), (8, .int (nI w)), (10, .int (nI k))]) hx hb dL_law_441 hl (by decide) rfl (fun ls hl => ?_)
        refine lv_aload_n hx hb dL_law_443 rfl (lv_at hl 1 rfl) ?_
        refine lv_iload hx hb dL_law_444 (lv_at hl 4 rfl) ?_
        refine mu_allV (ws2 := (wS h ad aa cI cR (flS σ k) (kpO o n) (kpN n) (va_up τ (kpS o n) σ))) [.int (nI k)] [] hx hb hml hown hts k_RL_53 (fun sz => c_X3_crossN l D cI cR h ad aa σ o n τ k hw ho hn h8k hkl sz) ⟨rfl, rfl, Nat.le_of_ble_eq_true rfl, Nat.le_of_ble_eq_true rfl⟩ hP hD hS hA hK 3 rfl rfl rfl rfl hl rfl (Nat.le_of_ble_eq_true rfl) dL_law_446 ⟨Nat.le_of_ble_eq_true rfl, Nat.le_of_ble_eq_true rfl⟩ (fun H locs hP hD hS => ?_)
        refine W.eq (g2 := F0 m 449 ls [.int (nI (1 - crN σ k))]) rfl ?_
        refine lv_pop hx hb dL_law_449 rfl ?_
        refine lv_aload_n hx hb dL_law_450 rfl (lv_at hl 1 rfl) ?_
        refine lv_iload hx hb dL_law_451 (lv_at hl 4 rfl) ?_
        refine nv_callV [.int (nI k)] [] hx hb hml hown hts k_RL_35 (c_X3_costN l D cI cR h ad aa (flS σ k) (kpO o n) (kpN n) (va_up τ (kpS o n) σ) k hfw (by rw [nW_fl]; exact hkl)) ⟨rfl, rfl, Nat.le_of_ble_eq_true rfl, Nat.le_of_ble_eq_true rfl⟩ hP hK 3 rfl rfl rfl rfl hl rfl (Nat.le_of_ble_eq_true rfl) dL_law_453 ⟨Nat.le_of_ble_eq_true rfl, Nat.le_of_ble_eq_true rfl⟩ ?_
        refine lv_iload hx hb dL_law_456 (lv_at hl 0 rfl) ?_
        refine nv_icmp_lt (tgt := 479) hx hb dL_law_458 (by decide) (by omega) (by omega) (fun q_458 => False.elim (by omega)) (fun q_458 => ?_)
        refine lv_aload_n hx hb dL_law_461 rfl (lv_at hl 1 rfl) ?_
        refine mu_allV (ws2 := (wS h ad aa cI cR σ (kpO o n) (kpN n - 1) (va_up τ (kpS o n) σ))) [] [] hx hb hml hown hts k_RL_81 (fun sz => c_X3_undoK l D cI cR h ad aa (flS σ k) o n τ σ hfw ho hn sz) ⟨rfl, rfl, Nat.le_of_ble_eq_true rfl, Nat.le_of_ble_eq_true rfl⟩ hP hD hS hA hK 3 rfl rfl rfl rfl hl rfl (Nat.le_of_ble_eq_true rfl) dL_law_462 ⟨Nat.le_of_ble_eq_true rfl, Nat.le_of_ble_eq_true rfl⟩ (fun H locs hP hD hS => ?_)
        refine W.eq (g2 := F0 m 465 ls [.int (nI (kpN n - 1))]) rfl ?_
        refine nv_if_lt (tgt := 479) hx hb dL_law_465 (by decide) (by have := kpN_le hn; omega) ?_
        refine lv_aload_n hx hb dL_law_468 rfl (lv_at hl 1 rfl) ?_
        refine lv_iload hx hb dL_law_469 (lv_at hl 4 rfl) ?_
        refine nv_callV [.int (nI k)] [] hx hb hml hown hts k_RL_35 (c_X3_costN l D cI cR h ad aa σ (kpO o n) (kpN n - 1) (va_up τ (kpS o n) σ) k hw hkl) ⟨rfl, rfl, Nat.le_of_ble_eq_true rfl, Nat.le_of_ble_eq_true rfl⟩ hP hK 3 rfl rfl rfl rfl hl rfl (Nat.le_of_ble_eq_true rfl) dL_law_471 ⟨Nat.le_of_ble_eq_true rfl, Nat.le_of_ble_eq_true rfl⟩ ?_
        refine lv_iload hx hb dL_law_474 (lv_at hl 0 rfl) ?_
        refine nv_icmp_eq (tgt := 481) hx hb dL_law_476 (by decide) (by omega) (by omega) (fun q_476 => ?_) (fun q_476 => False.elim (q_476 rfl))
        refine nv_inc (k := 4) (lv' := [(10, .int (nI (k + 1))), (11, .int (nI (csN σ k))), (1, .ref h), (6, .int (nI r)), (8, .int (nI w))]) hx hb dL_law_481 hl rfl (by decide) rfl (fun ls hl => ?_)
        refine lv_goto (tgt := 425) hx hb dL_law_484 (by decide) ?_
        exact ih425 (k + 1) (kpO o n) (kpN n - 1) (va_up τ (kpS o n) σ) (by omega) (by omega) (hi.back) (by omega) _ _ hP hD hS ls (lv_sub hl [2, 3, 4, 0] rfl)
  exact L425 (nW σ + 1) 8 ob nb τb (by omega) (by omega) (hi) (Nat.le_refl 8) _ _ hP hD hS ls (lv_sub hl [0, 1, 2, 3] rfl)
