set_option maxHeartbeats 4000000 in
set_option maxRecDepth 100000 in
/-- the wrong weave is among those that explain; what it spoils -/
theorem lw_858 {p : Program} {e : Env} {s : State} {m : MethodId} {below : List Frame} {meth : Method} {c : Code} (l : Launch) {D : va_G} {cI cR : ClassId} {sb h : Nat} {ad : Nat → Nat} {aa : Nat → Nat → Nat} {L : Nat} {xs : Nat → Int32} (hL : L ≤ 260) (C0 : lw_At p s m meth c sb L xs) (hK : va_K D vwCl (nTy cI cR) s) (σ : Nat → Nat) (o : Nat) (n : Nat) (τ : Nat → Nat → Nat) (w : Nat) (r : Nat) (k : Nat) (hi : lwI σ o n) (h1w : oneW σ w r) (hk : k ≤ exK σ w r) (he : exF σ k = nI (16 * w + r)) : LG p l e s m below meth c D cI cR sb h ad aa 858 [(1, .ref h), (6, .int (nI r)), (8, .int (nI w)), (10, .int (nI k))] σ o n τ := by
  obtain ⟨hx, hb, hr, hml, hown0, hts0, hX, hbl, hlocks, hgv⟩ := id C0
  have hts : ∀ w ∈ nT, w.before #[Value.ref sb] s = true := fun w q => hts0 w (List.mem_filter.mp q).1
  have hown : s.vm.findClass RL = some m.cls := hown0
  have hA : ∀ q : Nat, s.heap.size ≤ q → lwA s q := fun _ q => q
  have hbA : ¬ lwA s sb := Nat.not_le.mpr hbl
  obtain ⟨hw, h4, ho, hn⟩ := id hi
  have hA41 := hw.w41
  have hA33 := hw.a33
  have hA48 := hw.a48
  obtain ⟨hR2, hR, hB1, hB, hSa, hSb, -⟩ := id hw
  have hk2 := exK_lt hw h1w
  have hwl := h1w.1
  have hrl := h1w.2.1
  have hsb := swB_lt (σ := σ) w
  have hc3 := ct_le48 hw (iwB σ 3)
  intro H locs hP hD hS ls hl
  refine lv_aload_n hx hb dL_law_858 rfl (lv_at hl 0 rfl) ?_
  refine lv_iload hx hb dL_law_859 (lv_at hl 3 rfl) ?_
  refine nv_callV [.int (nI k)] [] hx hb hml hown hts k_RL_109 (c_X3_explainsN l D cI cR h ad aa σ o n τ k hw (by omega)) ⟨rfl, rfl, Nat.le_of_ble_eq_true rfl, Nat.le_of_ble_eq_true rfl⟩ hP hK 3 rfl rfl rfl rfl hl rfl (Nat.le_of_ble_eq_true rfl) dL_law_861 ⟨Nat.le_of_ble_eq_true rfl, Nat.le_of_ble_eq_true rfl⟩ ?_
  refine lv_bipush (v := nI 16) hx hb dL_law_864 (by decide) ?_
  refine lv_iload hx hb dL_law_866 (lv_at hl 2 rfl) ?_
  refine nv_imul hx hb dL_law_868 ?_
  refine lv_iload hx hb dL_law_869 (lv_at hl 1 rfl) ?_
  refine nv_iadd hx hb dL_law_871 ?_
  refine lv_icmp_eq (tgt := 877) hx hb dL_law_872 (by decide) (fun q_872 => ?_) (fun q_872 => False.elim (q_872 he))
  refine lv_iload hx hb dL_law_877 (lv_at hl 2 rfl) ?_
  refine lv_bipush (v := nI 8) hx hb dL_law_879 (by decide) ?_
  refine nv_icmp_lt (tgt := 1010) hx hb dL_law_881 (by decide) (by omega) (by omega) (fun q_881 => ?_) (fun q_881 => ?_)
  · exact lw_1010 l hL C0 hK σ o n τ hi _ _ hP hD hS ls (lv_sub hl [0] rfl)
  · have hwa := swA_lt hw h1w q_881
    have hr1 := rrN_lt hw (swA σ w r)
    have hwd := hw.wd hwa
    have hpt := hw.pt hwa
    have hbp := toNat_le (paB σ (swA σ w r))
    refine lv_iload hx hb dL_law_884 (lv_at hl 2 rfl) ?_
    refine lv_bipush (v := nI 8) hx hb dL_law_886 (by decide) ?_
    refine nv_isub hx hb dL_law_888 (by omega) ?_
    refine lv_aload_n hx hb dL_law_889 rfl (lv_at hl 0 rfl) ?_
    refine lv_iconst (v := nI 1) hx hb dL_law_890 (by decide) ?_
    refine nv_callV [.int (nI 1)] [.int (nI (w - 8))] hx hb hml hown hts k_RL_8 (c_X3_count1 l D cI cR h ad aa σ o n τ 1 hw rfl) ⟨rfl, rfl, Nat.le_of_ble_eq_true rfl, Nat.le_of_ble_eq_true rfl⟩ hP hK 3 rfl rfl rfl rfl hl rfl (Nat.le_of_ble_eq_true rfl) dL_law_891 ⟨Nat.le_of_ble_eq_true rfl, Nat.le_of_ble_eq_true rfl⟩ ?_
    refine lv_iconst (v := nI 1) hx hb dL_law_894 (by decide) ?_
    refine nv_iadd hx hb dL_law_895 ?_
    refine nv_irem hx hb dL_law_896 (by omega) (by omega) (by omega) ?_
    refine nv_top (swB σ w) (rfl) ?_
    refine lv_istore (lv' := [(11, .int (nI (swB σ w))), (1, .ref h), (6, .int (nI r)), (8, .int (nI w)), (10, .int (nI k))]) hx hb dL_law_897 hl (by decide) rfl (fun ls hl => ?_)
    refine lv_aload_n hx hb dL_law_899 rfl (lv_at hl 1 rfl) ?_
    refine lv_iconst (v := nI 2) hx hb dL_law_900 (by decide) ?_
    refine nv_callV [.int (nI 2)] [] hx hb hml hown hts k_RL_8 (c_X3_count2 l D cI cR h ad aa σ o n τ 2 hw rfl) ⟨rfl, rfl, Nat.le_of_ble_eq_true rfl, Nat.le_of_ble_eq_true rfl⟩ hP hK 3 rfl rfl rfl rfl hl rfl (Nat.le_of_ble_eq_true rfl) dL_law_901 ⟨Nat.le_of_ble_eq_true rfl, Nat.le_of_ble_eq_true rfl⟩ ?_
    refine lv_iload hx hb dL_law_904 (lv_at hl 2 rfl) ?_
    refine nv_imul hx hb dL_law_906 ?_
    refine lv_iload hx hb dL_law_907 (lv_at hl 3 rfl) ?_
    refine lv_bipush (v := nI 8) hx hb dL_law_909 (by decide) ?_
    refine nv_isub hx hb dL_law_911 (by omega) ?_
    refine lv_aload_n hx hb dL_law_912 rfl (lv_at hl 1 rfl) ?_
    refine lv_iconst (v := nI 1) hx hb dL_law_913 (by decide) ?_
    refine nv_callV [.int (nI 1)] [.int (nI (w - 8)), .int (nI ((σ 2) * r))] hx hb hml hown hts k_RL_8 (c_X3_count1 l D cI cR h ad aa σ o n τ 1 hw rfl) ⟨rfl, rfl, Nat.le_of_ble_eq_true rfl, Nat.le_of_ble_eq_true rfl⟩ hP hK 3 rfl rfl rfl rfl hl rfl (Nat.le_of_ble_eq_true rfl) dL_law_914 ⟨Nat.le_of_ble_eq_true rfl, Nat.le_of_ble_eq_true rfl⟩ ?_
    refine lv_iconst (v := nI 1) hx hb dL_law_917 (by decide) ?_
    refine nv_iadd hx hb dL_law_918 ?_
    refine nv_idiv hx hb dL_law_919 (by omega) (by omega) (by omega) ?_
    refine nv_iadd hx hb dL_law_920 ?_
    refine nv_top (swA σ w r) (rfl) ?_
    refine lv_istore (lv' := [(12, .int (nI (swA σ w r))), (11, .int (nI (swB σ w))), (1, .ref h), (6, .int (nI r)), (8, .int (nI w)), (10, .int (nI k))]) hx hb dL_law_921 hl (by decide) rfl (fun ls hl => ?_)
    refine lv_iload hx hb dL_law_923 (lv_at hl 1 rfl) ?_
    refine lv_aload_n hx hb dL_law_925 rfl (lv_at hl 2 rfl) ?_
    refine lv_iconst (v := nI 1) hx hb dL_law_926 (by decide) ?_
    refine nv_callV [.int (nI 1)] [.int (nI (swB σ w))] hx hb hml hown hts k_RL_8 (c_X3_count1 l D cI cR h ad aa σ o n τ 1 hw rfl) ⟨rfl, rfl, Nat.le_of_ble_eq_true rfl, Nat.le_of_ble_eq_true rfl⟩ hP hK 3 rfl rfl rfl rfl hl rfl (Nat.le_of_ble_eq_true rfl) dL_law_927 ⟨Nat.le_of_ble_eq_true rfl, Nat.le_of_ble_eq_true rfl⟩ ?_
    refine nv_icmp_ge (tgt := 947) hx hb dL_law_930 (by decide) (by omega) (by omega) (fun q_930 => ?_) (fun q_930 => ?_)
    · refine lv_aload_n hx hb dL_law_947 rfl (lv_at hl 2 rfl) ?_
      refine lv_iload hx hb dL_law_948 (lv_at hl 0 rfl) ?_
      refine nv_callV [.int (nI (swA σ w r))] [] hx hb hml hown hts k_RL_26 (c_X3_wordN l D cI cR h ad aa σ o n τ (swA σ w r) hw hwa) ⟨rfl, rfl, Nat.le_of_ble_eq_true rfl, Nat.le_of_ble_eq_true rfl⟩ hP hK 3 rfl rfl rfl rfl hl rfl (Nat.le_of_ble_eq_true rfl) dL_law_950 ⟨Nat.le_of_ble_eq_true rfl, Nat.le_of_ble_eq_true rfl⟩ ?_
      refine lv_istore (lv' := [(13, .int (nI (σ (19 + (swA σ w r))))), (12, .int (nI (swA σ w r))), (11, .int (nI (swB σ w))), (1, .ref h), (6, .int (nI r)), (8, .int (nI w)), (10, .int (nI k))]) hx hb dL_law_953 hl (by decide) rfl (fun ls hl => ?_)
      refine lv_aload_n hx hb dL_law_955 rfl (lv_at hl 3 rfl) ?_
      refine lv_iconst (v := nI 3) hx hb dL_law_956 (by decide) ?_
      refine nv_callV [.int (nI 3)] [] hx hb hml hown hts k_RL_38 (c_X3_wrongN l D cI cR h ad aa σ o n τ 3 hw (by omega)) ⟨rfl, rfl, Nat.le_of_ble_eq_true rfl, Nat.le_of_ble_eq_true rfl⟩ hP hK 3 rfl rfl rfl rfl hl rfl (Nat.le_of_ble_eq_true rfl) dL_law_957 ⟨Nat.le_of_ble_eq_true rfl, Nat.le_of_ble_eq_true rfl⟩ ?_
      refine nv_top (0) (wr_one0 hw h1w q_881 (by omega)) ?_
      refine lv_iload hx hb dL_law_960 (lv_at hl 2 rfl) ?_
      refine lv_aload_n hx hb dL_law_962 rfl (lv_at hl 3 rfl) ?_
      refine lv_iconst (v := nI 1) hx hb dL_law_963 (by decide) ?_
      refine nv_callV [.int (nI 1)] [.int (nI (swB σ w)), .int (nI 0)] hx hb hml hown hts k_RL_8 (c_X3_count1 l D cI cR h ad aa σ o n τ 1 hw rfl) ⟨rfl, rfl, Nat.le_of_ble_eq_true rfl, Nat.le_of_ble_eq_true rfl⟩ hP hK 3 rfl rfl rfl rfl hl rfl (Nat.le_of_ble_eq_true rfl) dL_law_964 ⟨Nat.le_of_ble_eq_true rfl, Nat.le_of_ble_eq_true rfl⟩ ?_
      refine nv_icmp_ge (tgt := 974) hx hb dL_law_967 (by decide) (by omega) (by omega) (fun q_967 => ?_) (fun q_967 => False.elim (by omega))
      refine lv_iconst (v := nI 0) hx hb dL_law_974 (by decide) ?_
      refine nv_icmp_ne (tgt := 1008) hx hb dL_law_975 (by decide) (by omega) (by omega) (fun q_975 => False.elim (q_975 rfl)) (fun q_975 => ?_)
      refine lv_aload_n hx hb dL_law_978 rfl (lv_at hl 3 rfl) ?_
      refine lv_iload hx hb dL_law_979 (lv_at hl 1 rfl) ?_
      refine nv_callV [.int (nI (swA σ w r))] [] hx hb hml hown hts k_RL_23 (c_X3_readRawN l D cI cR h ad aa σ o n τ (swA σ w r) hw hwa) ⟨rfl, rfl, Nat.le_of_ble_eq_true rfl, Nat.le_of_ble_eq_true rfl⟩ hP hK 3 rfl rfl rfl rfl hl rfl (Nat.le_of_ble_eq_true rfl) dL_law_981 ⟨Nat.le_of_ble_eq_true rfl, Nat.le_of_ble_eq_true rfl⟩ ?_
      refine nv_top (σ (19 + swA σ w r)) (rr_due0 hw h1w q_881 (by omega)) ?_
      refine lv_iload hx hb dL_law_984 (lv_at hl 0 rfl) ?_
      refine nv_icmp_ne (tgt := 1008) hx hb dL_law_986 (by decide) (by omega) (by omega) (fun q_986 => False.elim (q_986 rfl)) (fun q_986 => ?_)
      refine lv_aload_n hx hb dL_law_989 rfl (lv_at hl 3 rfl) ?_
      refine lv_iload hx hb dL_law_990 (lv_at hl 1 rfl) ?_
      refine nv_callV [.int (nI (swA σ w r))] [] hx hb hml hown hts k_RL_14 (c_X3_patchOfN l D cI cR h ad aa σ o n τ (swA σ w r) hw hwa) ⟨rfl, rfl, Nat.le_of_ble_eq_true rfl, Nat.le_of_ble_eq_true rfl⟩ hP hK 3 rfl rfl rfl rfl hl rfl (Nat.le_of_ble_eq_true rfl) dL_law_992 ⟨Nat.le_of_ble_eq_true rfl, Nat.le_of_ble_eq_true rfl⟩ ?_
      refine lv_iconst (v := -1) hx hb dL_law_995 (by decide) ?_
      refine lv_icmp_ne (tgt := 1010) hx hb dL_law_996 (by decide) (fun q_996 => ?_) (fun q_996 => ?_)
      · exact lw_1010 l hL C0 hK σ o n τ hi _ _ hP hD hS ls (lv_sub hl [3] rfl)
      · refine lv_aload_n hx hb dL_law_999 rfl (lv_at hl 3 rfl) ?_
        refine lv_iload hx hb dL_law_1000 (lv_at hl 1 rfl) ?_
        refine nv_callV [.int (nI (swA σ w r))] [] hx hb hml hown hts k_RL_20 (c_X3_parityN l D cI cR h ad aa σ o n τ (swA σ w r) hw hwa) ⟨rfl, rfl, Nat.le_of_ble_eq_true rfl, Nat.le_of_ble_eq_true rfl⟩ hP hK 3 rfl rfl rfl rfl hl rfl (Nat.le_of_ble_eq_true rfl) dL_law_1002 ⟨Nat.le_of_ble_eq_true rfl, Nat.le_of_ble_eq_true rfl⟩ ?_
        refine nv_if_eq (tgt := 1010) hx hb dL_law_1005 (by decide) (by omega) (fun q_1005 => ?_) (fun q_1005 => False.elim (q_1005 (by rw [pa_one hw h1w q_881 ((ptF_m1 hpt).mp q_996)]; rfl)))
        exact lw_1010 l hL C0 hK σ o n τ hi _ _ hP hD hS ls (lv_sub hl [3] rfl)
    · refine lv_aload_n hx hb dL_law_933 rfl (lv_at hl 2 rfl) ?_
      refine lv_iload hx hb dL_law_934 (lv_at hl 0 rfl) ?_
      refine nv_callV [.int (nI (swA σ w r))] [] hx hb hml hown hts k_RL_26 (c_X3_wordN l D cI cR h ad aa σ o n τ (swA σ w r) hw hwa) ⟨rfl, rfl, Nat.le_of_ble_eq_true rfl, Nat.le_of_ble_eq_true rfl⟩ hP hK 3 rfl rfl rfl rfl hl rfl (Nat.le_of_ble_eq_true rfl) dL_law_936 ⟨Nat.le_of_ble_eq_true rfl, Nat.le_of_ble_eq_true rfl⟩ ?_
      refine lv_iconst (v := nI 1) hx hb dL_law_939 (by decide) ?_
      refine lv_iload hx hb dL_law_940 (lv_at hl 1 rfl) ?_
      refine nv_ishl hx hb dL_law_942 (by omega) ?_
      refine nv_ixor hx hb dL_law_943 ?_
      refine lv_goto (tgt := 953) hx hb dL_law_944 (by decide) ?_
      refine lv_istore (lv' := [(13, .int (nI ((σ (19 + (swA σ w r))) ^^^ (1 <<< (swB σ w))))), (12, .int (nI (swA σ w r))), (11, .int (nI (swB σ w))), (1, .ref h), (6, .int (nI r)), (8, .int (nI w)), (10, .int (nI k))]) hx hb dL_law_953 hl (by decide) rfl (fun ls hl => ?_)
      refine lv_aload_n hx hb dL_law_955 rfl (lv_at hl 3 rfl) ?_
      refine lv_iconst (v := nI 3) hx hb dL_law_956 (by decide) ?_
      refine nv_callV [.int (nI 3)] [] hx hb hml hown hts k_RL_38 (c_X3_wrongN l D cI cR h ad aa σ o n τ 3 hw (by omega)) ⟨rfl, rfl, Nat.le_of_ble_eq_true rfl, Nat.le_of_ble_eq_true rfl⟩ hP hK 3 rfl rfl rfl rfl hl rfl (Nat.le_of_ble_eq_true rfl) dL_law_957 ⟨Nat.le_of_ble_eq_true rfl, Nat.le_of_ble_eq_true rfl⟩ ?_
      refine nv_top (1) (wr_one1 hw h1w q_881 q_930) ?_
      refine lv_iload hx hb dL_law_960 (lv_at hl 2 rfl) ?_
      refine lv_aload_n hx hb dL_law_962 rfl (lv_at hl 3 rfl) ?_
      refine lv_iconst (v := nI 1) hx hb dL_law_963 (by decide) ?_
      refine nv_callV [.int (nI 1)] [.int (nI (swB σ w)), .int (nI 1)] hx hb hml hown hts k_RL_8 (c_X3_count1 l D cI cR h ad aa σ o n τ 1 hw rfl) ⟨rfl, rfl, Nat.le_of_ble_eq_true rfl, Nat.le_of_ble_eq_true rfl⟩ hP hK 3 rfl rfl rfl rfl hl rfl (Nat.le_of_ble_eq_true rfl) dL_law_964 ⟨Nat.le_of_ble_eq_true rfl, Nat.le_of_ble_eq_true rfl⟩ ?_
      refine nv_icmp_ge (tgt := 974) hx hb dL_law_967 (by decide) (by omega) (by omega) (fun q_967 => False.elim (by omega)) (fun q_967 => ?_)
      refine lv_iconst (v := nI 1) hx hb dL_law_970 (by decide) ?_
      refine lv_goto (tgt := 975) hx hb dL_law_971 (by decide) ?_
      refine nv_icmp_ne (tgt := 1008) hx hb dL_law_975 (by decide) (by omega) (by omega) (fun q_975 => False.elim (q_975 rfl)) (fun q_975 => ?_)
      refine lv_aload_n hx hb dL_law_978 rfl (lv_at hl 3 rfl) ?_
      refine lv_iload hx hb dL_law_979 (lv_at hl 1 rfl) ?_
      refine nv_callV [.int (nI (swA σ w r))] [] hx hb hml hown hts k_RL_23 (c_X3_readRawN l D cI cR h ad aa σ o n τ (swA σ w r) hw hwa) ⟨rfl, rfl, Nat.le_of_ble_eq_true rfl, Nat.le_of_ble_eq_true rfl⟩ hP hK 3 rfl rfl rfl rfl hl rfl (Nat.le_of_ble_eq_true rfl) dL_law_981 ⟨Nat.le_of_ble_eq_true rfl, Nat.le_of_ble_eq_true rfl⟩ ?_
      refine nv_top (σ (19 + swA σ w r) ^^^ 1 <<< swB σ w) (rr_due1 hw h1w q_881 q_930) ?_
      refine lv_iload hx hb dL_law_984 (lv_at hl 0 rfl) ?_
      have hdu := rr_due1 hw h1w q_881 q_930
      refine nv_icmp_ne (tgt := 1008) hx hb dL_law_986 (by decide) (by omega) (by omega) (fun q_986 => False.elim (q_986 rfl)) (fun q_986 => ?_)
      refine lv_aload_n hx hb dL_law_989 rfl (lv_at hl 3 rfl) ?_
      refine lv_iload hx hb dL_law_990 (lv_at hl 1 rfl) ?_
      refine nv_callV [.int (nI (swA σ w r))] [] hx hb hml hown hts k_RL_14 (c_X3_patchOfN l D cI cR h ad aa σ o n τ (swA σ w r) hw hwa) ⟨rfl, rfl, Nat.le_of_ble_eq_true rfl, Nat.le_of_ble_eq_true rfl⟩ hP hK 3 rfl rfl rfl rfl hl rfl (Nat.le_of_ble_eq_true rfl) dL_law_992 ⟨Nat.le_of_ble_eq_true rfl, Nat.le_of_ble_eq_true rfl⟩ ?_
      refine lv_iconst (v := -1) hx hb dL_law_995 (by decide) ?_
      refine lv_icmp_ne (tgt := 1010) hx hb dL_law_996 (by decide) (fun q_996 => ?_) (fun q_996 => ?_)
      · exact lw_1010 l hL C0 hK σ o n τ hi _ _ hP hD hS ls (lv_sub hl [3] rfl)
      · refine lv_aload_n hx hb dL_law_999 rfl (lv_at hl 3 rfl) ?_
        refine lv_iload hx hb dL_law_1000 (lv_at hl 1 rfl) ?_
        refine nv_callV [.int (nI (swA σ w r))] [] hx hb hml hown hts k_RL_20 (c_X3_parityN l D cI cR h ad aa σ o n τ (swA σ w r) hw hwa) ⟨rfl, rfl, Nat.le_of_ble_eq_true rfl, Nat.le_of_ble_eq_true rfl⟩ hP hK 3 rfl rfl rfl rfl hl rfl (Nat.le_of_ble_eq_true rfl) dL_law_1002 ⟨Nat.le_of_ble_eq_true rfl, Nat.le_of_ble_eq_true rfl⟩ ?_
        refine nv_if_eq (tgt := 1010) hx hb dL_law_1005 (by decide) (by omega) (fun q_1005 => ?_) (fun q_1005 => False.elim (q_1005 (by rw [pa_one hw h1w q_881 ((ptF_m1 hpt).mp q_996)]; rfl)))
        exact lw_1010 l hL C0 hK σ o n τ hi _ _ hP hD hS ls (lv_sub hl [3] rfl)
