set_option maxHeartbeats 4000000 in
set_option maxRecDepth 100000 in
/-- all is mended; one wrong weave is made -/
theorem lw_758 {p : Program} {e : Env} {s : State} {m : MethodId} {below : List Frame} {meth : Method} {c : Code} (l : Launch) {D : va_G} {cI cR : ClassId} {sb h : Nat} {ad : Nat → Nat} {aa : Nat → Nat → Nat} {L : Nat} {xs : Nat → Int32} (hL : L ≤ 260) (C0 : lw_At p s m meth c sb L xs) (hK : va_K D vwCl (nTy cI cR) s) (σ : Nat → Nat) (o : Nat) (n : Nat) (τ : Nat → Nat → Nat) (w : Nat) (r : Nat) (hi : lwI σ o n) (hz : ∀ v, v < nW σ → σ (100 + v) = 0) (hwl : w < nW σ) (hrl : r < σ 0) : LG p l e s m below meth c D cI cR sb h ad aa 758 [(1, .ref h), (6, .int (nI r)), (8, .int (nI w))] σ o n τ := by
  obtain ⟨hx, hb, hr, hml, hown0, hts0, hX, hbl, hlocks, hgv⟩ := id C0
  have hts : ∀ w ∈ nT, w.before #[Value.ref sb] s = true := fun w q => hts0 w (List.mem_filter.mp q).1
  have hown : s.vm.findClass RL = some m.cls := hown0
  have hA : ∀ q : Nat, s.heap.size ≤ q → lwA s q := fun _ q => q
  have hbA : ¬ lwA s sb := Nat.not_le.mpr hbl
  obtain ⟨hw, h4, ho, hn⟩ := id hi
  have hA41 := hw.w41
  have hA33 := hw.a33
  have hA48 := hw.a48
  obtain ⟨hR2, hR, hB1, hB, hSa, hSb, -⟩ := id hw
  intro H locs hP hD hS ls hl
  refine lv_aload_n hx hb dL_law_758 rfl (lv_at hl 0 rfl) ?_
  refine lv_bipush (v := nI 6) hx hb dL_law_759 (by decide) ?_
  refine nv_callV [.int (nI 6)] [] hx hb hml hown hts k_RL_8 (c_X3_count6 l D cI cR h ad aa σ o n τ 6 hw rfl) ⟨rfl, rfl, Nat.le_of_ble_eq_true rfl, Nat.le_of_ble_eq_true rfl⟩ hP hK 3 rfl rfl rfl rfl hl rfl (Nat.le_of_ble_eq_true rfl) dL_law_761 ⟨Nat.le_of_ble_eq_true rfl, Nat.le_of_ble_eq_true rfl⟩ ?_
  refine nv_top (0) (cw_of hz) ?_
  refine nv_if_ne (tgt := 782) hx hb dL_law_764 (by decide) (by omega) (fun q_764 => False.elim (by omega)) (fun q_764 => ?_)
  refine lv_aload_n hx hb dL_law_767 rfl (lv_at hl 0 rfl) ?_
  refine lv_iconst (v := nI 3) hx hb dL_law_768 (by decide) ?_
  refine nv_callV [.int (nI 3)] [] hx hb hml hown hts k_RL_38 (c_X3_wrongN l D cI cR h ad aa σ o n τ 3 hw (by omega)) ⟨rfl, rfl, Nat.le_of_ble_eq_true rfl, Nat.le_of_ble_eq_true rfl⟩ hP hK 3 rfl rfl rfl rfl hl rfl (Nat.le_of_ble_eq_true rfl) dL_law_769 ⟨Nat.le_of_ble_eq_true rfl, Nat.le_of_ble_eq_true rfl⟩ ?_
  refine nv_top (0) (wr_none hw hz) ?_
  refine nv_if_ne (tgt := 782) hx hb dL_law_772 (by decide) (by omega) (fun q_772 => False.elim (by omega)) (fun q_772 => ?_)
  refine lv_aload_n hx hb dL_law_775 rfl (lv_at hl 0 rfl) ?_
  refine nv_callS [.ref h] [] hx hb hml hown hts k_RL_95 (c_L_isSound l D cI cR h ad aa σ o n τ hw h4) ⟨rfl, rfl, Nat.le_of_ble_eq_true rfl, Nat.le_of_ble_eq_true rfl⟩ hP hK rfl hl rfl (Nat.le_of_ble_eq_true rfl) dL_law_776 ⟨Nat.le_of_ble_eq_true rfl, Nat.le_of_ble_eq_true rfl⟩ ?_
  refine nv_if_ne (tgt := 784) hx hb dL_law_779 (by decide) (by omega) (fun q_779 => ?_) (fun q_779 => False.elim (by omega))
  refine lv_aload_n hx hb dL_law_784 rfl (lv_at hl 0 rfl) ?_
  refine lv_iload hx hb dL_law_785 (lv_at hl 2 rfl) ?_
  refine lv_iload hx hb dL_law_787 (lv_at hl 1 rfl) ?_
  refine mu_allV (ws2 := (wS h ad aa cI cR (spS σ w r) (kpO o n) (kpN n) (va_up τ (kpS o n) σ))) [.int (nI w), .int (nI r)] [] hx hb hml hown hts k_RL_60 (fun sz => c_X3_spoilN l D cI cR h ad aa σ o n τ w r hw ho hn hwl hrl sz) ⟨rfl, rfl, Nat.le_of_ble_eq_true rfl, Nat.le_of_ble_eq_true rfl⟩ hP hD hS hA hK 3 rfl rfl rfl rfl hl rfl (Nat.le_of_ble_eq_true rfl) dL_law_789 ⟨Nat.le_of_ble_eq_true rfl, Nat.le_of_ble_eq_true rfl⟩ (fun H locs hP hD hS => ?_)
  refine W.eq (g2 := F0 m 792 ls [.int (nI (((σ (100 + w) ^^^ 1 <<< r).testBit r).toNat))]) rfl ?_
  refine nv_top (1) (by rw [sp_bit, hz w hwl, Nat.zero_testBit]; rfl) ?_
  refine lv_iconst (v := nI 1) hx hb dL_law_792 (by decide) ?_
  refine nv_icmp_eq (tgt := 798) hx hb dL_law_793 (by decide) (by omega) (by omega) (fun q_793 => ?_) (fun q_793 => False.elim (q_793 rfl))
  refine lv_iconst (v := nI 0) hx hb dL_law_798 (by decide) ?_
  refine lv_istore (lv' := [(10, .int (nI 0)), (1, .ref h), (6, .int (nI r)), (8, .int (nI w))]) hx hb dL_law_799 hl (by decide) rfl (fun ls hl => ?_)
  exact lw_801 l hL C0 hK (spS σ w r) (kpO o n) (kpN n) (va_up τ (kpS o n) σ) w r (hi.sp hwl hrl) (one_sp hz hwl hrl) _ _ hP hD hS ls (lv_sub hl [1, 2, 3, 0] rfl)
