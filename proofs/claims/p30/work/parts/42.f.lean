set_option maxHeartbeats 4000000 in
set_option maxRecDepth 100000 in
/-- the weaves that explain, in ascending order -/
theorem lw_801 {p : Program} {e : Env} {s : State} {m : MethodId} {below : List Frame} {meth : Method} {c : Code} (l : Launch) {D : va_G} {cI cR : ClassId} {sb h : Nat} {ad : Nat → Nat} {aa : Nat → Nat → Nat} {L : Nat} {xs : Nat → Int32} (hL : L ≤ 260) (C0 : lw_At p s m meth c sb L xs) (hK : va_K D vwCl (nTy cI cR) s) (σ : Nat → Nat) (o : Nat) (n : Nat) (τ : Nat → Nat → Nat) (w : Nat) (r : Nat) (hi : lwI σ o n) (h1w : oneW σ w r) : LG p l e s m below meth c D cI cR sb h ad aa 801 [(1, .ref h), (6, .int (nI r)), (8, .int (nI w)), (10, .int (nI 0))] σ o n τ := by
  obtain ⟨hx, hb, hr, hml, hown0, hts0, hX, hbl, hlocks, hgv⟩ := id C0
  have hts : ∀ w ∈ nT, w.before #[Value.ref sb] s = true := fun w q => hts0 w (List.mem_filter.mp q).1
  have hown : s.vm.findClass RL = some m.cls := hown0
  have hA : ∀ q : Nat, s.heap.size ≤ q → lwA s q := fun _ q => q
  have hbA : ¬ lwA s sb := Nat.not_le.mpr hbl
  obtain ⟨hw, h4, ho, hn⟩ := id hi
  have hA41 := hw.w41
  have hA33 := hw.a33
  have hA48 := hw.a48
  obtain ⟨hR2, hR, hB1, hB, hSa, hSb, -⟩ := id hw
  have hk2 := exK_lt hw h1w
  have hwl := h1w.1
  have hrl := h1w.2.1
  intro H locs hP hD hS ls hl
  have L801 : ∀ (n801 k : Nat), exK σ w r + 1 ≤ k + n801 → k ≤ exK σ w r → ∀ (H : Heap) (locs : List Loc), va_P D vwCl (wS h ad aa cI cR σ o n τ) H → va_D (lwA s) (wS h ad aa cI cR σ o n τ) → va_S (lwA s) s.heap H locs → ∀ (ls : Array Slot), lv_has ls 18 [(1, .ref h), (6, .int (nI r)), (8, .int (nI w)), (10, .int (nI k))] → W p l e room_1 s m #[Value.ref sb] below meth c H locs 36 1231 (lw_Z below #[Value.ref sb] s) (F0 m 801 ls []) := by
    intro n801
    induction n801 with
    | zero =>
      intro k h1_801 h2_801
      exact False.elim (by omega)
    | succ n801 ih801 =>
      intro k h1_801 h2_801  H locs hP hD hS ls hl
      refine lv_aload_n hx hb dL_law_801 rfl (lv_at hl 0 rfl) ?_
      refine lv_iload hx hb dL_law_802 (lv_at hl 3 rfl) ?_
      refine nv_callV [.int (nI k)] [] hx hb hml hown hts k_RL_109 (c_X3_explainsN l D cI cR h ad aa σ o n τ k hw (by omega)) ⟨rfl, rfl, Nat.le_of_ble_eq_true rfl, Nat.le_of_ble_eq_true rfl⟩ hP hK 3 rfl rfl rfl rfl hl rfl (Nat.le_of_ble_eq_true rfl) dL_law_804 ⟨Nat.le_of_ble_eq_true rfl, Nat.le_of_ble_eq_true rfl⟩ ?_
      refine lv_iconst (v := -1) hx hb dL_law_807 (by decide) ?_
      refine lv_icmp_eq (tgt := 858) hx hb dL_law_808 (by decide) (fun q_808 => False.elim (ex_m1 hw h1w h2_801 q_808)) (fun q_808 => ?_)
      refine lv_aload_n hx hb dL_law_811 rfl (lv_at hl 0 rfl) ?_
      refine lv_iload hx hb dL_law_812 (lv_at hl 3 rfl) ?_
      refine nv_callV [.int (nI k)] [] hx hb hml hown hts k_RL_109 (c_X3_explainsN l D cI cR h ad aa σ o n τ k hw (by omega)) ⟨rfl, rfl, Nat.le_of_ble_eq_true rfl, Nat.le_of_ble_eq_true rfl⟩ hP hK 3 rfl rfl rfl rfl hl rfl (Nat.le_of_ble_eq_true rfl) dL_law_814 ⟨Nat.le_of_ble_eq_true rfl, Nat.le_of_ble_eq_true rfl⟩ ?_
      refine lv_bipush (v := nI 16) hx hb dL_law_817 (by decide) ?_
      refine lv_iload hx hb dL_law_819 (lv_at hl 2 rfl) ?_
      refine nv_imul hx hb dL_law_821 ?_
      refine lv_iload hx hb dL_law_822 (lv_at hl 1 rfl) ?_
      refine nv_iadd hx hb dL_law_824 ?_
      refine lv_icmp_eq (tgt := 858) hx hb dL_law_825 (by decide) (fun q_825 => ?_) (fun q_825 => ?_)
      · exact lw_858 l hL C0 hK σ o n τ w r k hi h1w h2_801 q_825 _ _ hP hD hS ls (lv_sub hl [0, 1, 2, 3] rfl)
      · refine lv_iload hx hb dL_law_828 (lv_at hl 3 rfl) ?_
        refine nv_if_le (tgt := 852) hx hb dL_law_830 (by decide) (by omega) (fun q_830 => ?_) (fun q_830 => ?_)
        · have hnx := ex_nxt hw h1w h2_801 q_825
          refine nv_inc (k := 3) (lv' := [(10, .int (nI (k + 1))), (1, .ref h), (6, .int (nI r)), (8, .int (nI w))]) hx hb dL_law_852 hl rfl (by decide) rfl (fun ls hl => ?_)
          refine lv_goto (tgt := 801) hx hb dL_law_855 (by decide) ?_
          exact ih801 (k + 1) (by omega) (by omega)  _ _ hP hD hS ls (lv_sub hl [1, 2, 3, 0] rfl)
        · refine lv_aload_n hx hb dL_law_833 rfl (lv_at hl 0 rfl) ?_
          refine lv_iload hx hb dL_law_834 (lv_at hl 3 rfl) ?_
          refine nv_callV [.int (nI k)] [] hx hb hml hown hts k_RL_109 (c_X3_explainsN l D cI cR h ad aa σ o n τ k hw (by omega)) ⟨rfl, rfl, Nat.le_of_ble_eq_true rfl, Nat.le_of_ble_eq_true rfl⟩ hP hK 3 rfl rfl rfl rfl hl rfl (Nat.le_of_ble_eq_true rfl) dL_law_836 ⟨Nat.le_of_ble_eq_true rfl, Nat.le_of_ble_eq_true rfl⟩ ?_
          refine lv_aload_n hx hb dL_law_839 rfl (lv_at hl 0 rfl) ?_
          refine lv_iload hx hb dL_law_840 (lv_at hl 3 rfl) ?_
          refine lv_iconst (v := nI 1) hx hb dL_law_842 (by decide) ?_
          refine nv_isub hx hb dL_law_843 (by omega) ?_
          refine nv_callV [.int (nI (k - 1))] [.int (exF σ k)] hx hb hml hown hts k_RL_109 (c_X3_explainsN l D cI cR h ad aa σ o n τ (k - 1) hw (by omega)) ⟨rfl, rfl, Nat.le_of_ble_eq_true rfl, Nat.le_of_ble_eq_true rfl⟩ hP hK 3 rfl rfl rfl rfl hl rfl (Nat.le_of_ble_eq_true rfl) dL_law_844 ⟨Nat.le_of_ble_eq_true rfl, Nat.le_of_ble_eq_true rfl⟩ ?_
          refine lv_icmp_gt (tgt := 852) hx hb dL_law_847 (by decide) (fun q_847 => ?_) (fun q_847 => False.elim (q_847 (ex_up hw h1w (by omega) h2_801)))
          have hnx := ex_nxt hw h1w h2_801 q_825
          refine nv_inc (k := 3) (lv' := [(10, .int (nI (k + 1))), (1, .ref h), (6, .int (nI r)), (8, .int (nI w))]) hx hb dL_law_852 hl rfl (by decide) rfl (fun ls hl => ?_)
          refine lv_goto (tgt := 801) hx hb dL_law_855 (by decide) ?_
          exact ih801 (k + 1) (by omega) (by omega)  _ _ hP hD hS ls (lv_sub hl [1, 2, 3, 0] rfl)
  exact L801 (exK σ w r + 1) 0 (by omega) (by omega)  _ _ hP hD hS ls (lv_sub hl [0, 1, 2, 3] rfl)
