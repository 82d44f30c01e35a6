set_option maxHeartbeats 4000000 in
set_option maxRecDepth 100000 in
theorem lw_undo {p : Program} {e : Env} {s : State} {m : MethodId} {below : List Frame} {meth : Method} {c : Code} (l : Launch) {D : va_G} {cI cR : ClassId} {sb h h2 : Nat} {ad : Nat → Nat} {aa : Nat → Nat → Nat} {a2 : Nat → Nat} {i L : Nat} {xs : Nat → Int32} (hL : L ≤ 2048) (C0 : lw_At p s m meth c sb L xs) (hK : va_K D vwCl (nTy cI cR) s) (hi : i + 4 ≤ L) (kk : LK p l e s m below meth c D cI cR sb h h2 ad aa a2 i 778) : LK p l e s m below meth c D cI cR sb h h2 ad aa a2 i 689 := by
  obtain ⟨hx, hb, hr, hml, hown0, hts0, hX, hbl, hlocks, hgv⟩ := id C0
  have hts : ∀ w ∈ nT, w.before #[Value.ref sb] s = true := fun w q => hts0 w (List.mem_filter.mp q).1
  have hown : s.vm.findClass RL = some m.cls := hown0
  have hA : ∀ q : Nat, s.heap.size ≤ q → lwA s q := fun _ q => q
  have hbA : ¬ lwA s sb := Nat.not_le.mpr hbl
  intro ρ τ σ o n b ln g fo0 wv nw at0 wd hh eσ hI H locs hP hD hS ls hl
  subst eσ
  obtain ⟨hw, h4, ho, hn, -, hln, hb0⟩ := id hI
  refine lv_aload_n hx hb dL_law_689 rfl (lv_at hl 2 rfl) ?_
  refine mu_call (ws' := wCR h ad aa cI cR (cond (n == 0) (ρ 0) (τ ((o + (n - 1)) % 5))) o (cond (n == 0) n (n - 1)) τ b ln g fo0 ++ wMd h2 a2 cI (rwF ρ) n (nF wv) (nF nw) (nF b) ln at0 wd hh) [0, 1, 2, 3, 4, 5, 6, 7, 8, 9, 10, 11, 12, 13, 14, 15, 16, 17, 18, 19, 20, 21, 22, 23, 24, 25, 26, 27, 28, 29, 30, 31, 32, 33, 34, 35] [36, 37, 38, 39, 40] [5, 6, 7, 8, 9, 10, 11, 12, 13, 14, 15, 16, 17, 18, 19, 20, 21, 22, 23, 24, 25, 26, 27, 28, 29, 30, 31, 32, 33, 34, 35, 36, 37, 38, 39, 40, 0, 1, 2, 3, 4] [] [] hx hb hml hown hts k_RL_101 (fun sz => c_X3_undo l D cI cR h ad aa (ρ 0) o n τ b ln g fo0 hw ho hn sz) ⟨rfl, rfl, Nat.le_of_ble_eq_true rfl, Nat.le_of_ble_eq_true rfl⟩ hP hD hS hA hK 3 rfl rfl rfl rfl rfl rfl rfl (by decide) rfl rfl rfl hl rfl (Nat.le_of_ble_eq_true rfl) dL_law_690 ⟨Nat.le_of_ble_eq_true rfl, Nat.le_of_ble_eq_true rfl⟩ (fun H locs hP hD hS => ?_)
  refine W.eq (g2 := F0 m 693 ls [.int (cond (n == 0) (-4) (nI (n - 1)))]) rfl ?_
  refine lv_aload_n hx hb dL_law_693 rfl (lv_at hl 1 rfl) ?_
  refine mu_call (ws' := wCR h ad aa cI cR (cond (n == 0) (ρ 0) (τ ((o + (n - 1)) % 5))) o (cond (n == 0) n (n - 1)) τ b ln g fo0 ++ wMd h2 a2 cI (rwF (cond (n == 0) ρ (va_up ρ 0 (ρ n)))) (cond (n == 0) n (n - 1)) (nF wv) (nF nw) (nF b) ln at0 wd hh) [36, 37, 38, 39, 40] [0, 1, 2, 3, 4, 5, 6, 7, 8, 9, 10, 11, 12, 13, 14, 15, 16, 17, 18, 19, 20, 21, 22, 23, 24, 25, 26, 27, 28, 29, 30, 31, 32, 33, 34, 35] [0, 1, 2, 3, 4, 5, 6, 7, 8, 9, 10, 11, 12, 13, 14, 15, 16, 17, 18, 19, 20, 21, 22, 23, 24, 25, 26, 27, 28, 29, 30, 31, 32, 33, 34, 35, 36, 37, 38, 39, 40] [] [.int (cond (n == 0) (-4) (nI (n - 1)))] hx hb hml hown hts k_RL_104 (fun sz => c_X4_undo l D cI cR h2 a2 ρ n wv nw b ln at0 wd hh hw hn sz) ⟨rfl, rfl, Nat.le_of_ble_eq_true rfl, Nat.le_of_ble_eq_true rfl⟩ hP hD hS hA hK 4 rfl rfl rfl rfl rfl rfl rfl (by decide) rfl rfl rfl hl rfl (Nat.le_of_ble_eq_true rfl) dL_law_694 ⟨Nat.le_of_ble_eq_true rfl, Nat.le_of_ble_eq_true rfl⟩ (fun H locs hP hD hS => ?_)
  refine W.eq (g2 := F0 m 697 ls [.int (cond (n == 0) (-4) (nI (n - 1))), .int (cond (n == 0) (-4) (nI (n - 1)))]) rfl ?_
  refine lv_icmp_eq (tgt := 778) hx hb dL_law_697 (by decide) (fun _ => ?_) (fun q => absurd (rfl) q)
  obtain ⟨q1, q2⟩ := hI.und
  exact kk _ _ _ _ _ _ _ _ _ _ _ _ _ _ q1 q2 H locs hP hD hS ls (lv_sub hl [0, 1, 2, 3] rfl)
set_option maxHeartbeats 4000000 in
set_option maxRecDepth 100000 in
theorem lw_type {p : Program} {e : Env} {s : State} {m : MethodId} {below : List Frame} {meth : Method} {c : Code} (l : Launch) {D : va_G} {cI cR : ClassId} {sb h h2 : Nat} {ad : Nat → Nat} {aa : Nat → Nat → Nat} {a2 : Nat → Nat} {i L : Nat} {xs : Nat → Int32} (hL : L ≤ 2048) (C0 : lw_At p s m meth c sb L xs) (hK : va_K D vwCl (nTy cI cR) s) (hi : i + 4 ≤ L) (kk : LK p l e s m below meth c D cI cR sb h h2 ad aa a2 i 778) : LK p l e s m below meth c D cI cR sb h h2 ad aa a2 i 702 := by
  obtain ⟨hx, hb, hr, hml, hown0, hts0, hX, hbl, hlocks, hgv⟩ := id C0
  have hts : ∀ w ∈ nT, w.before #[Value.ref sb] s = true := fun w q => hts0 w (List.mem_filter.mp q).1
  have hown : s.vm.findClass RL = some m.cls := hown0
  have hA : ∀ q : Nat, s.heap.size ≤ q → lwA s q := fun _ q => q
  have hbA : ¬ lwA s sb := Nat.not_le.mpr hbl
  obtain ⟨x, ex⟩ : ∃ v : Int32, v = xs (nI (i + 1)).toNatClampNeg := ⟨_, rfl⟩
  intro ρ τ σ o n b ln g fo0 wv nw at0 wd hh eσ hI H locs hP hD hS ls hl
  subst eσ
  obtain ⟨hw, h4, ho, hn, -, hln, hb0⟩ := id hI
  refine lv_aload_n hx hb dL_law_702 rfl (lv_at hl 2 rfl) ?_
  refine lv_aload_n hx hb dL_law_703 rfl (lv_at hl 3 rfl) ?_
  refine lv_iload_n hx hb dL_law_704 rfl (lv_at hl 0 rfl) ?_
  refine lv_iconst (v := nI 1) hx hb dL_law_705 (by decide) ?_
  refine nv_iadd hx hb dL_law_706 ?_
  refine va_sld hx hb hX hbl hbA hS (vp_in_nI (by omega) (by omega)) dL_law_707 ?_
  refine nv_tope x ex.symm ?_
  refine mu_call (ws' := wCR h ad aa cI cR (ρ 0) o n τ (cond (inB x 256 && !(ln == 100)) (va_up b ln (cl x)) b) (cond (inB x 256 && !(ln == 100)) (ln + 1) ln) g fo0 ++ wMd h2 a2 cI (rwF ρ) n (nF wv) (nF nw) (nF b) ln at0 wd hh) [0, 1, 2, 3, 4, 5, 6, 7, 8, 9, 10, 11, 12, 13, 14, 15, 16, 17, 18, 19, 20, 21, 22, 23, 24, 25, 26, 27, 28, 29, 30, 31, 32, 33, 34, 35] [36, 37, 38, 39, 40] [5, 6, 7, 8, 9, 10, 11, 12, 13, 14, 15, 16, 17, 18, 19, 20, 21, 22, 23, 24, 25, 26, 27, 28, 29, 30, 31, 32, 33, 34, 35, 36, 37, 38, 39, 40, 0, 1, 2, 3, 4] [.int x] [] hx hb hml hown hts k_RL_105 (fun sz => c_X3_type l D cI cR h ad aa (ρ 0) o n τ b ln g fo0 x hw hln sz) ⟨rfl, rfl, Nat.le_of_ble_eq_true rfl, Nat.le_of_ble_eq_true rfl⟩ hP hD hS hA hK 3 rfl rfl rfl rfl rfl rfl rfl (by decide) rfl rfl rfl hl rfl (Nat.le_of_ble_eq_true rfl) dL_law_708 ⟨Nat.le_of_ble_eq_true rfl, Nat.le_of_ble_eq_true rfl⟩ (fun H locs hP hD hS => ?_)
  refine W.eq (g2 := F0 m 711 ls [.int (cond (inB x 256) (cond (ln == 100) (-5) (nI (ln + 1))) (-3))]) rfl ?_
  refine lv_aload_n hx hb dL_law_711 rfl (lv_at hl 1 rfl) ?_
  refine lv_aload_n hx hb dL_law_712 rfl (lv_at hl 3 rfl) ?_
  refine lv_iload_n hx hb dL_law_713 rfl (lv_at hl 0 rfl) ?_
  refine lv_iconst (v := nI 1) hx hb dL_law_714 (by decide) ?_
  refine nv_iadd hx hb dL_law_715 ?_
  refine va_sld hx hb hX hbl hbA hS (vp_in_nI (by omega) (by omega)) dL_law_716 ?_
  refine nv_tope x ex.symm ?_
  refine mu_call (ws' := wCR h ad aa cI cR (ρ 0) o n τ (cond (inB x 256 && !(ln == 100)) (va_up b ln (cl x)) b) (cond (inB x 256 && !(ln == 100)) (ln + 1) ln) g fo0 ++ wMd h2 a2 cI (rwF ρ) n (nF wv) (nF nw) (nF (cond (inB x 256 && !(ln == 100)) (va_up b ln (cl x)) b)) (cond (inB x 256 && !(ln == 100)) (ln + 1) ln) at0 wd hh) [36, 37, 38, 39, 40] [0, 1, 2, 3, 4, 5, 6, 7, 8, 9, 10, 11, 12, 13, 14, 15, 16, 17, 18, 19, 20, 21, 22, 23, 24, 25, 26, 27, 28, 29, 30, 31, 32, 33, 34, 35] [0, 1, 2, 3, 4, 5, 6, 7, 8, 9, 10, 11, 12, 13, 14, 15, 16, 17, 18, 19, 20, 21, 22, 23, 24, 25, 26, 27, 28, 29, 30, 31, 32, 33, 34, 35, 36, 37, 38, 39, 40] [.int x] [.int (cond (inB x 256) (cond (ln == 100) (-5) (nI (ln + 1))) (-3))] hx hb hml hown hts k_RL_108 (fun sz => c_X4_type l D cI cR h2 a2 ρ n wv nw b ln at0 wd hh x hw hln sz) ⟨rfl, rfl, Nat.le_of_ble_eq_true rfl, Nat.le_of_ble_eq_true rfl⟩ hP hD hS hA hK 4 rfl rfl rfl rfl rfl rfl rfl (by decide) rfl rfl rfl hl rfl (Nat.le_of_ble_eq_true rfl) dL_law_717 ⟨Nat.le_of_ble_eq_true rfl, Nat.le_of_ble_eq_true rfl⟩ (fun H locs hP hD hS => ?_)
  refine W.eq (g2 := F0 m 720 ls [.int (cond (inB x 256) (cond (ln == 100) (-5) (nI (ln + 1))) (-3)), .int (cond (inB x 256) (cond (ln == 100) (-5) (nI (ln + 1))) (-3))]) rfl ?_
  refine lv_icmp_eq (tgt := 778) hx hb dL_law_720 (by decide) (fun _ => ?_) (fun q => absurd (rfl) q)
  exact kk _ _ _ _ _ _ _ _ _ _ _ _ _ _ rfl (hI.typ x) H locs hP hD hS ls (lv_sub hl [0, 1, 2, 3] rfl)
set_option maxHeartbeats 4000000 in
set_option maxRecDepth 100000 in
theorem lw_clearText {p : Program} {e : Env} {s : State} {m : MethodId} {below : List Frame} {meth : Method} {c : Code} (l : Launch) {D : va_G} {cI cR : ClassId} {sb h h2 : Nat} {ad : Nat → Nat} {aa : Nat → Nat → Nat} {a2 : Nat → Nat} {i L : Nat} {xs : Nat → Int32} (hL : L ≤ 2048) (C0 : lw_At p s m meth c sb L xs) (hK : va_K D vwCl (nTy cI cR) s) (hi : i + 4 ≤ L) (kk : LK p l e s m below meth c D cI cR sb h h2 ad aa a2 i 778) : LK p l e s m below meth c D cI cR sb h h2 ad aa a2 i 725 := by
  obtain ⟨hx, hb, hr, hml, hown0, hts0, hX, hbl, hlocks, hgv⟩ := id C0
  have hts : ∀ w ∈ nT, w.before #[Value.ref sb] s = true := fun w q => hts0 w (List.mem_filter.mp q).1
  have hown : s.vm.findClass RL = some m.cls := hown0
  have hA : ∀ q : Nat, s.heap.size ≤ q → lwA s q := fun _ q => q
  have hbA : ¬ lwA s sb := Nat.not_le.mpr hbl
  intro ρ τ σ o n b ln g fo0 wv nw at0 wd hh eσ hI H locs hP hD hS ls hl
  subst eσ
  obtain ⟨hw, h4, ho, hn, -, hln, hb0⟩ := id hI
  refine lv_aload_n hx hb dL_law_725 rfl (lv_at hl 2 rfl) ?_
  refine mu_call (ws' := wCR h ad aa cI cR (ρ 0) o n τ b 0 g fo0 ++ wMd h2 a2 cI (rwF ρ) n (nF wv) (nF nw) (nF b) ln at0 wd hh) [0, 1, 2, 3, 4, 5, 6, 7, 8, 9, 10, 11, 12, 13, 14, 15, 16, 17, 18, 19, 20, 21, 22, 23, 24, 25, 26, 27, 28, 29, 30, 31, 32, 33, 34, 35] [36, 37, 38, 39, 40] [5, 6, 7, 8, 9, 10, 11, 12, 13, 14, 15, 16, 17, 18, 19, 20, 21, 22, 23, 24, 25, 26, 27, 28, 29, 30, 31, 32, 33, 34, 35, 36, 37, 38, 39, 40, 0, 1, 2, 3, 4] [] [] hx hb hml hown hts k_RL_109 (fun sz => c_X3_clearText l D cI cR h ad aa (ρ 0) o n τ b ln g fo0 hw sz) ⟨rfl, rfl, Nat.le_of_ble_eq_true rfl, Nat.le_of_ble_eq_true rfl⟩ hP hD hS hA hK 3 rfl rfl rfl rfl rfl rfl rfl (by decide) rfl rfl rfl hl rfl (Nat.le_of_ble_eq_true rfl) dL_law_726 ⟨Nat.le_of_ble_eq_true rfl, Nat.le_of_ble_eq_true rfl⟩ (fun H locs hP hD hS => ?_)
  refine W.eq (g2 := F0 m 729 ls [.int (nI (ln))]) rfl ?_
  refine lv_aload_n hx hb dL_law_729 rfl (lv_at hl 1 rfl) ?_
  refine mu_call (ws' := wCR h ad aa cI cR (ρ 0) o n τ b 0 g fo0 ++ wMd h2 a2 cI (rwF ρ) n (nF wv) (nF nw) (nF b) 0 at0 wd hh) [36, 37, 38, 39, 40] [0, 1, 2, 3, 4, 5, 6, 7, 8, 9, 10, 11, 12, 13, 14, 15, 16, 17, 18, 19, 20, 21, 22, 23, 24, 25, 26, 27, 28, 29, 30, 31, 32, 33, 34, 35] [0, 1, 2, 3, 4, 5, 6, 7, 8, 9, 10, 11, 12, 13, 14, 15, 16, 17, 18, 19, 20, 21, 22, 23, 24, 25, 26, 27, 28, 29, 30, 31, 32, 33, 34, 35, 36, 37, 38, 39, 40] [] [.int (nI (ln))] hx hb hml hown hts k_RL_112 (fun sz => c_X4_clearText l D cI cR h2 a2 ρ n wv nw b ln at0 wd hh hw sz) ⟨rfl, rfl, Nat.le_of_ble_eq_true rfl, Nat.le_of_ble_eq_true rfl⟩ hP hD hS hA hK 4 rfl rfl rfl rfl rfl rfl rfl (by decide) rfl rfl rfl hl rfl (Nat.le_of_ble_eq_true rfl) dL_law_730 ⟨Nat.le_of_ble_eq_true rfl, Nat.le_of_ble_eq_true rfl⟩ (fun H locs hP hD hS => ?_)
  refine W.eq (g2 := F0 m 733 ls [.int (nI (ln)), .int (nI (ln))]) rfl ?_
  refine lv_icmp_eq (tgt := 778) hx hb dL_law_733 (by decide) (fun _ => ?_) (fun q => absurd (rfl) q)
  exact kk _ _ _ _ _ _ _ _ _ _ _ _ _ _ rfl hI.clear H locs hP hD hS ls (lv_sub hl [0, 1, 2, 3] rfl)
set_option maxHeartbeats 4000000 in
set_option maxRecDepth 100000 in
theorem lw_textFault {p : Program} {e : Env} {s : State} {m : MethodId} {below : List Frame} {meth : Method} {c : Code} (l : Launch) {D : va_G} {cI cR : ClassId} {sb h h2 : Nat} {ad : Nat → Nat} {aa : Nat → Nat → Nat} {a2 : Nat → Nat} {i L : Nat} {xs : Nat → Int32} (hL : L ≤ 2048) (C0 : lw_At p s m meth c sb L xs) (hK : va_K D vwCl (nTy cI cR) s) (hi : i + 4 ≤ L) (kk : LK p l e s m below meth c D cI cR sb h h2 ad aa a2 i 778) : LK p l e s m below meth c D cI cR sb h h2 ad aa a2 i 738 := by
  obtain ⟨hx, hb, hr, hml, hown0, hts0, hX, hbl, hlocks, hgv⟩ := id C0
  have hts : ∀ w ∈ nT, w.before #[Value.ref sb] s = true := fun w q => hts0 w (List.mem_filter.mp q).1
  have hown : s.vm.findClass RL = some m.cls := hown0
  have hA : ∀ q : Nat, s.heap.size ≤ q → lwA s q := fun _ q => q
  have hbA : ¬ lwA s sb := Nat.not_le.mpr hbl
  intro ρ τ σ o n b ln g fo0 wv nw at0 wd hh eσ hI H locs hP hD hS ls hl
  subst eσ
  obtain ⟨hw, h4, ho, hn, -, hln, hb0⟩ := id hI
  refine lv_aload_n hx hb dL_law_738 rfl (lv_at hl 2 rfl) ?_
  refine mu_call (ws' := wCR h ad aa cI cR (ρ 0) o n τ b ln ((scRun b (nA (ρ 0)) (1 <<< (ρ 0) 1 - 1) g ln).2.2.2.2.2) ((scRun b (nA (ρ 0)) (1 <<< (ρ 0) 1 - 1) g ln).2.2.2.2.1) ++ wMd h2 a2 cI (rwF ρ) n (nF wv) (nF nw) (nF b) ln at0 wd hh) [0, 1, 2, 3, 4, 5, 6, 7, 8, 9, 10, 11, 12, 13, 14, 15, 16, 17, 18, 19, 20, 21, 22, 23, 24, 25, 26, 27, 28, 29, 30, 31, 32, 33, 34, 35] [36, 37, 38, 39, 40] [5, 6, 7, 8, 9, 10, 11, 12, 13, 14, 15, 16, 17, 18, 19, 20, 21, 22, 23, 24, 25, 26, 27, 28, 29, 30, 31, 32, 33, 34, 35, 36, 37, 38, 39, 40, 0, 1, 2, 3, 4] [] [] hx hb hml hown hts k_RL_113 (fun sz => c_X3_textFault l D cI cR h ad aa (ρ 0) o n τ b ln g fo0 hw hb0 hln sz) ⟨rfl, rfl, Nat.le_of_ble_eq_true rfl, Nat.le_of_ble_eq_true rfl⟩ hP hD hS hA hK 3 rfl rfl rfl rfl rfl rfl rfl (by decide) rfl rfl rfl hl rfl (Nat.le_of_ble_eq_true rfl) dL_law_739 ⟨Nat.le_of_ble_eq_true rfl, Nat.le_of_ble_eq_true rfl⟩ (fun H locs hP hD hS => ?_)
  refine W.eq (g2 := F0 m 742 ls [.int (scRes b (nA (ρ 0)) (1 <<< (ρ 0) 1 - 1) g ln)]) rfl ?_
  refine lv_aload_n hx hb dL_law_742 rfl (lv_at hl 1 rfl) ?_
  refine mu_call (ws' := wCR h ad aa cI cR (ρ 0) o n τ b ln ((scRun b (nA (ρ 0)) (1 <<< (ρ 0) 1 - 1) g ln).2.2.2.2.2) ((scRun b (nA (ρ 0)) (1 <<< (ρ 0) 1 - 1) g ln).2.2.2.2.1) ++ wMd h2 a2 cI (rwF ρ) n (nF wv) (nF nw) (nF b) ln ((rtN b ln (nA (ρ 0)) (ρ 0 1) 0 ρ ln).2.1) ((rtN b ln (nA (ρ 0)) (ρ 0 1) 0 ρ ln).2.2.1) hh) [36, 37, 38, 39, 40] [0, 1, 2, 3, 4, 5, 6, 7, 8, 9, 10, 11, 12, 13, 14, 15, 16, 17, 18, 19, 20, 21, 22, 23, 24, 25, 26, 27, 28, 29, 30, 31, 32, 33, 34, 35] [0, 1, 2, 3, 4, 5, 6, 7, 8, 9, 10, 11, 12, 13, 14, 15, 16, 17, 18, 19, 20, 21, 22, 23, 24, 25, 26, 27, 28, 29, 30, 31, 32, 33, 34, 35, 36, 37, 38, 39, 40] [] [.int (scRes b (nA (ρ 0)) (1 <<< (ρ 0) 1 - 1) g ln)] hx hb hml hown hts k_RL_116 (fun sz => c_X4_textFault l D cI cR h2 a2 ρ n wv nw b ln at0 wd hh hw hb0 hln sz) ⟨rfl, rfl, Nat.le_of_ble_eq_true rfl, Nat.le_of_ble_eq_true rfl⟩ hP hD hS hA hK 4 rfl rfl rfl rfl rfl rfl rfl (by decide) rfl rfl rfl hl rfl (Nat.le_of_ble_eq_true rfl) dL_law_743 ⟨Nat.le_of_ble_eq_true rfl, Nat.le_of_ble_eq_true rfl⟩ (fun H locs hP hD hS => ?_)
  refine W.eq (g2 := F0 m 746 ls [.int (rtF b ln (nA (ρ 0)) (ρ 0 1) ρ), .int (scRes b (nA (ρ 0)) (1 <<< (ρ 0) 1 - 1) g ln)]) rfl ?_
  refine lv_icmp_eq (tgt := 778) hx hb dL_law_746 (by decide) (fun _ => ?_) (fun q => absurd (tf_same _ _ _ _ _ _) q)
  exact kk _ _ _ _ _ _ _ _ _ _ _ _ _ _ rfl hI H locs hP hD hS ls (lv_sub hl [0, 1, 2, 3] rfl)
set_option maxHeartbeats 4000000 in
set_option maxRecDepth 100000 in
theorem lw_load {p : Program} {e : Env} {s : State} {m : MethodId} {below : List Frame} {meth : Method} {c : Code} (l : Launch) {D : va_G} {cI cR : ClassId} {sb h h2 : Nat} {ad : Nat → Nat} {aa : Nat → Nat → Nat} {a2 : Nat → Nat} {i L : Nat} {xs : Nat → Int32} (hL : L ≤ 2048) (C0 : lw_At p s m meth c sb L xs) (hK : va_K D vwCl (nTy cI cR) s) (hi : i + 4 ≤ L) (kk : LK p l e s m below meth c D cI cR sb h h2 ad aa a2 i 778) : LK p l e s m below meth c D cI cR sb h h2 ad aa a2 i 751 := by
  obtain ⟨hx, hb, hr, hml, hown0, hts0, hX, hbl, hlocks, hgv⟩ := id C0
  have hts : ∀ w ∈ nT, w.before #[Value.ref sb] s = true := fun w q => hts0 w (List.mem_filter.mp q).1
  have hown : s.vm.findClass RL = some m.cls := hown0
  have hA : ∀ q : Nat, s.heap.size ≤ q → lwA s q := fun _ q => q
  have hbA : ¬ lwA s sb := Nat.not_le.mpr hbl
  intro ρ τ σ o n b ln g fo0 wv nw at0 wd hh eσ hI H locs hP hD hS ls hl
  subst eσ
  obtain ⟨hw, h4, ho, hn, -, hln, hb0⟩ := id hI
  refine lv_aload_n hx hb dL_law_751 rfl (lv_at hl 2 rfl) ?_
  refine mu_call (ws' := wCR h ad aa cI cR (cond (scRes b (nA (ρ 0)) (1 <<< (ρ 0) 1 - 1) g ln == -1) (ldS (ρ 0) (scRun b (nA (ρ 0)) (1 <<< (ρ 0) 1 - 1) g ln).2.2.2.2.2 (scRun b (nA (ρ 0)) (1 <<< (ρ 0) 1 - 1) g ln).2.2.2.2.1) (ρ 0)) (cond (scRes b (nA (ρ 0)) (1 <<< (ρ 0) 1 - 1) g ln == -1) (kpO o n) o) (cond (scRes b (nA (ρ 0)) (1 <<< (ρ 0) 1 - 1) g ln == -1) (kpN n) n) (cond (scRes b (nA (ρ 0)) (1 <<< (ρ 0) 1 - 1) g ln == -1) (va_up τ (kpS o n) (ρ 0)) τ) b ln ((scRun b (nA (ρ 0)) (1 <<< (ρ 0) 1 - 1) g ln).2.2.2.2.2) ((scRun b (nA (ρ 0)) (1 <<< (ρ 0) 1 - 1) g ln).2.2.2.2.1) ++ wMd h2 a2 cI (rwF ρ) n (nF wv) (nF nw) (nF b) ln at0 wd hh) [0, 1, 2, 3, 4, 5, 6, 7, 8, 9, 10, 11, 12, 13, 14, 15, 16, 17, 18, 19, 20, 21, 22, 23, 24, 25, 26, 27, 28, 29, 30, 31, 32, 33, 34, 35] [36, 37, 38, 39, 40] [5, 6, 7, 8, 9, 10, 11, 12, 13, 14, 15, 16, 17, 18, 19, 20, 21, 22, 23, 24, 25, 26, 27, 28, 29, 30, 31, 32, 33, 34, 35, 36, 37, 38, 39, 40, 0, 1, 2, 3, 4] [] [] hx hb hml hown hts k_RL_117 (fun sz => c_X3_load l D cI cR h ad aa (ρ 0) o n τ b ln g fo0 hw ho hn hb0 hln sz) ⟨rfl, rfl, Nat.le_of_ble_eq_true rfl, Nat.le_of_ble_eq_true rfl⟩ hP hD hS hA hK 3 rfl rfl rfl rfl rfl rfl rfl (by decide) rfl rfl rfl hl rfl (Nat.le_of_ble_eq_true rfl) dL_law_752 ⟨Nat.le_of_ble_eq_true rfl, Nat.le_of_ble_eq_true rfl⟩ (fun H locs hP hD hS => ?_)
  refine W.eq (g2 := F0 m 755 ls [.int (cond (scRes b (nA (ρ 0)) (1 <<< (ρ 0) 1 - 1) g ln == -1) (nI ((scRun b (nA (ρ 0)) (1 <<< (ρ 0) 1 - 1) g ln).2.2.2.2.1)) (-4))]) rfl ?_
  refine lv_aload_n hx hb dL_law_755 rfl (lv_at hl 1 rfl) ?_
  refine mu_call (ws' := wCR h ad aa cI cR (cond (scRes b (nA (ρ 0)) (1 <<< (ρ 0) 1 - 1) g ln == -1) (ldS (ρ 0) (scRun b (nA (ρ 0)) (1 <<< (ρ 0) 1 - 1) g ln).2.2.2.2.2 (scRun b (nA (ρ 0)) (1 <<< (ρ 0) 1 - 1) g ln).2.2.2.2.1) (ρ 0)) (cond (scRes b (nA (ρ 0)) (1 <<< (ρ 0) 1 - 1) g ln == -1) (kpO o n) o) (cond (scRes b (nA (ρ 0)) (1 <<< (ρ 0) 1 - 1) g ln == -1) (kpN n) n) (cond (scRes b (nA (ρ 0)) (1 <<< (ρ 0) 1 - 1) g ln == -1) (va_up τ (kpS o n) (ρ 0)) τ) b ln ((scRun b (nA (ρ 0)) (1 <<< (ρ 0) 1 - 1) g ln).2.2.2.2.2) ((scRun b (nA (ρ 0)) (1 <<< (ρ 0) 1 - 1) g ln).2.2.2.2.1) ++ wMd h2 a2 cI (rwF (lmS b ln ρ n)) (lmV b ln ρ n) (nF wv) (nF nw) (nF b) ln (lmA b ln ρ n) (lmW b ln ρ n) hh) [36, 37, 38, 39, 40] [0, 1, 2, 3, 4, 5, 6, 7, 8, 9, 10, 11, 12, 13, 14, 15, 16, 17, 18, 19, 20, 21, 22, 23, 24, 25, 26, 27, 28, 29, 30, 31, 32, 33, 34, 35] [0, 1, 2, 3, 4, 5, 6, 7, 8, 9, 10, 11, 12, 13, 14, 15, 16, 17, 18, 19, 20, 21, 22, 23, 24, 25, 26, 27, 28, 29, 30, 31, 32, 33, 34, 35, 36, 37, 38, 39, 40] [] [.int (cond (scRes b (nA (ρ 0)) (1 <<< (ρ 0) 1 - 1) g ln == -1) (nI ((scRun b (nA (ρ 0)) (1 <<< (ρ 0) 1 - 1) g ln).2.2.2.2.1)) (-4))] hx hb hml hown hts k_RL_120 (fun sz => c_X4_load l D cI cR h2 a2 ρ n wv nw b ln at0 wd hh hw hb0 hln hn sz) ⟨rfl, rfl, Nat.le_of_ble_eq_true rfl, Nat.le_of_ble_eq_true rfl⟩ hP hD hS hA hK 4 rfl rfl rfl rfl rfl rfl rfl (by decide) rfl rfl rfl hl rfl (Nat.le_of_ble_eq_true rfl) dL_law_756 ⟨Nat.le_of_ble_eq_true rfl, Nat.le_of_ble_eq_true rfl⟩ (fun H locs hP hD hS => ?_)
  refine W.eq (g2 := F0 m 759 ls [.int (lmX b ln ρ n), .int (cond (scRes b (nA (ρ 0)) (1 <<< (ρ 0) 1 - 1) g ln == -1) (nI ((scRun b (nA (ρ 0)) (1 <<< (ρ 0) 1 - 1) g ln).2.2.2.2.1)) (-4))]) rfl ?_
  refine lv_icmp_eq (tgt := 778) hx hb dL_law_759 (by decide) (fun _ => ?_) (fun q => absurd ((ld_same hI g).1) q)
  obtain ⟨-, q1, q3, q2⟩ := ld_same hI g
  rw [← q3] at hP hD
  exact kk _ _ _ _ _ _ _ _ _ _ _ _ _ _ q1 q2 H locs hP hD hS ls (lv_sub hl [0, 1, 2, 3] rfl)
set_option maxHeartbeats 4000000 in
set_option maxRecDepth 100000 in
theorem lw_digest {p : Program} {e : Env} {s : State} {m : MethodId} {below : List Frame} {meth : Method} {c : Code} (l : Launch) {D : va_G} {cI cR : ClassId} {sb h h2 : Nat} {ad : Nat → Nat} {aa : Nat → Nat → Nat} {a2 : Nat → Nat} {i L : Nat} {xs : Nat → Int32} (hL : L ≤ 2048) (C0 : lw_At p s m meth c sb L xs) (hK : va_K D vwCl (nTy cI cR) s) (hi : i + 4 ≤ L) (kk : LK p l e s m below meth c D cI cR sb h h2 ad aa a2 i 778) : LK p l e s m below meth c D cI cR sb h h2 ad aa a2 i 764 := by
  obtain ⟨hx, hb, hr, hml, hown0, hts0, hX, hbl, hlocks, hgv⟩ := id C0
  have hts : ∀ w ∈ nT, w.before #[Value.ref sb] s = true := fun w q => hts0 w (List.mem_filter.mp q).1
  have hown : s.vm.findClass RL = some m.cls := hown0
  have hA : ∀ q : Nat, s.heap.size ≤ q → lwA s q := fun _ q => q
  have hbA : ¬ lwA s sb := Nat.not_le.mpr hbl
  intro ρ τ σ o n b ln g fo0 wv nw at0 wd hh eσ hI H locs hP hD hS ls hl
  subst eσ
  obtain ⟨hw, h4, ho, hn, -, hln, hb0⟩ := id hI
  refine lv_aload_n hx hb dL_law_764 rfl (lv_at hl 2 rfl) ?_
  refine nv_callVL [] [] hx hb hml hown hts k_RL_121 (c_X3_digest l D cI cR h ad aa (ρ 0) o n τ b ln g fo0 hw) ⟨rfl, rfl, Nat.le_of_ble_eq_true rfl, Nat.le_of_ble_eq_true rfl⟩ (hP.sub [0, 1, 2, 3, 4, 5, 6, 7, 8, 9, 10, 11, 12, 13, 14, 15, 16, 17, 18, 19, 20, 21, 22, 23, 24, 25, 26, 27, 28, 29, 30, 31, 32, 33, 34, 35] rfl) hK 3 rfl rfl rfl rfl hl rfl (Nat.le_of_ble_eq_true rfl) dL_law_765 ⟨Nat.le_of_ble_eq_true rfl, Nat.le_of_ble_eq_true rfl⟩ ?_
  refine lv_aload_n hx hb dL_law_768 rfl (lv_at hl 1 rfl) ?_
  refine mu_call (ws' := wCR h ad aa cI cR (ρ 0) o n τ b ln g fo0 ++ wMd h2 a2 cI (rwF ρ) n (nF (wvG (ρ 0) wv (nW (ρ 0)))) (nF nw) (nF b) ln at0 wd (hsF (ρ 0))) [36, 37, 38, 39, 40] [0, 1, 2, 3, 4, 5, 6, 7, 8, 9, 10, 11, 12, 13, 14, 15, 16, 17, 18, 19, 20, 21, 22, 23, 24, 25, 26, 27, 28, 29, 30, 31, 32, 33, 34, 35] [0, 1, 2, 3, 4, 5, 6, 7, 8, 9, 10, 11, 12, 13, 14, 15, 16, 17, 18, 19, 20, 21, 22, 23, 24, 25, 26, 27, 28, 29, 30, 31, 32, 33, 34, 35, 36, 37, 38, 39, 40] [] [.long (hsF (ρ 0))] hx hb hml hown hts k_RL_125 (fun sz => c_X4_digest l D cI cR h2 a2 ρ n wv nw b ln at0 wd hh hw sz) ⟨rfl, rfl, Nat.le_of_ble_eq_true rfl, Nat.le_of_ble_eq_true rfl⟩ hP hD hS hA hK 4 rfl rfl rfl rfl rfl rfl rfl (by decide) rfl rfl rfl hl rfl (Nat.le_of_ble_eq_true rfl) dL_law_769 ⟨Nat.le_of_ble_eq_true rfl, Nat.le_of_ble_eq_true rfl⟩ (fun H locs hP hD hS => ?_)
  refine W.eq (g2 := F0 m 772 ls [.long (hsF (ρ 0)), .long (hsF (ρ 0))]) rfl ?_
  refine W.lcmp hx hb dL_law_772 ?_
  refine lv_if_eq (tgt := 778) hx hb dL_law_773 (by decide) (fun _ => ?_) (fun q => absurd ((lg_cmp_eq _ _).mpr rfl) q)
  exact kk _ _ _ _ _ _ _ _ _ _ _ _ _ _ rfl hI H locs hP hD hS ls (lv_sub hl [0, 1, 2, 3] rfl)
