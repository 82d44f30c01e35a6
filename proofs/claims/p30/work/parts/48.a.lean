set_option maxHeartbeats 4000000 in
set_option maxRecDepth 100000 in
/-- twenty calls -/
theorem lw_124 {p : Program} {e : Env} {s : State} {m : MethodId} {below : List Frame} {meth : Method} {c : Code} (l : Launch) {D : va_G} {cI cR : ClassId} {sb h : Nat} {ad : Nat → Nat} {aa : Nat → Nat → Nat} {L : Nat} {xs : Nat → Int32} (hL : L ≤ 260) (C0 : lw_At p s m meth c sb L xs) (hK : va_K D vwCl (nTy cI cR) s) (z : Int32) (σb : Nat → Nat) (ob : Nat) (nb : Nat) (τb : Nat → Nat → Nat) (hi : lwI σb ob nb) : LG p l e s m below meth c D cI cR sb h ad aa 124 [(0, .ref sb), (1, .ref h), (2, .int z), (3, .int (nI 0))] σb ob nb τb := by
  obtain ⟨hx, hb, hr, hml, hown0, hts0, hX, hbl, hlocks, hgv⟩ := id C0
  have hts : ∀ w ∈ nT, w.before #[Value.ref sb] s = true := fun w q => hts0 w (List.mem_filter.mp q).1
  have hown : s.vm.findClass RL = some m.cls := hown0
  have hA : ∀ q : Nat, s.heap.size ≤ q → lwA s q := fun _ q => q
  have hbA : ¬ lwA s sb := Nat.not_le.mpr hbl
  intro H locs hP hD hS ls hl
  have L124 : ∀ (n124 t : Nat) (σ : Nat → Nat) (o : Nat) (n : Nat) (τ : Nat → Nat → Nat), 20 + 1 ≤ t + n124 → t ≤ 20 → (lwI σ o n) → ∀ (H : Heap) (locs : List Loc), va_P D vwCl (wS h ad aa cI cR σ o n τ) H → va_D (lwA s) (wS h ad aa cI cR σ o n τ) → va_S (lwA s) s.heap H locs → ∀ (ls : Array Slot), lv_has ls 18 [(0, .ref sb), (1, .ref h), (2, .int z), (3, .int (nI t))] → W p l e room_1 s m #[Value.ref sb] below meth c H locs 36 1231 (lw_Z below #[Value.ref sb] s) (F0 m 124 ls []) := by
    intro n124
    induction n124 with
    | zero =>
      intro t σ o n τ h1_124 h2_124
      exact False.elim (by omega)
    | succ n124 ih124 =>
      intro t σ o n τ h1_124 h2_124 hi H locs hP hD hS ls hl
      obtain ⟨hw, h4, ho, hn⟩ := id hi
      have hA41 := hw.w41
      have hA33 := hw.a33
      have hA48 := hw.a48
      obtain ⟨hR2, hR, hB1, hB, hSa, hSb, -⟩ := id hw
      have hs0 := sc_le hw (Nat.le_refl (nW σ))
      have hc0 := ct_le48 hw (iwB σ 0)
      refine lv_iload_n hx hb dL_law_124 rfl (lv_at hl 3 rfl) ?_
      refine lv_bipush (v := nI 20) hx hb dL_law_125 (by decide) ?_
      refine nv_icmp_ge (tgt := 285) hx hb dL_law_127 (by decide) (by omega) (by omega) (fun q_127 => ?_) (fun q_127 => ?_)
      · exact lw_285 l hL C0 hK z σ o n τ hi _ _ hP hD hS ls (lv_sub hl [1, 2] rfl)
      · refine lv_aload_n hx hb dL_law_130 rfl (lv_at hl 0 rfl) ?_
        refine lv_iconst (v := nI 1) hx hb dL_law_131 (by decide) ?_
        refine lv_iload_n hx hb dL_law_132 rfl (lv_at hl 3 rfl) ?_
        refine nv_iadd hx hb dL_law_133 ?_
        refine nx_cell hx hb hml hown hts k_RL_77 (c_L_cell l sb L xs (1 + t) (by omega) (Nat.lt_of_le_of_lt hL (by decide))) ⟨rfl, rfl, Nat.le_of_ble_eq_true rfl, Nat.le_of_ble_eq_true rfl⟩ hX hbl hbA hS hl (Nat.le_of_ble_eq_true rfl) dL_law_134 ⟨Nat.le_of_ble_eq_true rfl, Nat.le_of_ble_eq_true rfl⟩ ?_
        obtain ⟨y, ey⟩ : ∃ v : Int32, v = ceF L xs (1 + t) := ⟨_, rfl⟩
        refine nv_tope (y) (ey.symm) ?_
        refine lv_istore (lv' := [(4, .int y), (0, .ref sb), (1, .ref h), (2, .int z), (3, .int (nI t))]) hx hb dL_law_137 hl (by decide) rfl (fun ls hl => ?_)
        refine lv_aload_n hx hb dL_law_139 rfl (lv_at hl 2 rfl) ?_
        refine nv_callVL [] [] hx hb hml hown hts k_RL_87 (c_X3_digestW l D cI cR h ad aa σ o n τ hw) ⟨rfl, rfl, Nat.le_of_ble_eq_true rfl, Nat.le_of_ble_eq_true rfl⟩ hP hK 3 rfl rfl rfl rfl hl rfl (Nat.le_of_ble_eq_true rfl) dL_law_140 ⟨Nat.le_of_ble_eq_true rfl, Nat.le_of_ble_eq_true rfl⟩ ?_
        refine lv_lstore (lv' := [(5, .long (hsF σ)), (4, .int y), (0, .ref sb), (1, .ref h), (2, .int z), (3, .int (nI t))]) hx hb dL_law_143 hl (by decide) rfl (fun ls hl => ?_)
        refine lv_aload_n hx hb dL_law_145 rfl (lv_at hl 3 rfl) ?_
        refine lv_bipush (v := nI 8) hx hb dL_law_146 (by decide) ?_
        refine nv_callV [.int (nI 8)] [] hx hb hml hown hts k_RL_8 (c_X3_count8 l D cI cR h ad aa σ o n τ 8 hw rfl) ⟨rfl, rfl, Nat.le_of_ble_eq_true rfl, Nat.le_of_ble_eq_true rfl⟩ hP hK 3 rfl rfl rfl rfl hl rfl (Nat.le_of_ble_eq_true rfl) dL_law_148 ⟨Nat.le_of_ble_eq_true rfl, Nat.le_of_ble_eq_true rfl⟩ ?_
        refine lv_istore (lv' := [(7, .int (nI (sm (csN σ) (nW σ)))), (5, .long (hsF σ)), (4, .int y), (0, .ref sb), (1, .ref h), (2, .int z), (3, .int (nI t))]) hx hb dL_law_151 hl (by decide) rfl (fun ls hl => ?_)
        refine lv_aload_n hx hb dL_law_153 rfl (lv_at hl 4 rfl) ?_
        refine lv_iconst (v := nI 0) hx hb dL_law_154 (by decide) ?_
        refine nv_callV [.int (nI 0)] [] hx hb hml hown hts k_RL_38 (c_X3_wrongN l D cI cR h ad aa σ o n τ 0 hw (by omega)) ⟨rfl, rfl, Nat.le_of_ble_eq_true rfl, Nat.le_of_ble_eq_true rfl⟩ hP hK 3 rfl rfl rfl rfl hl rfl (Nat.le_of_ble_eq_true rfl) dL_law_155 ⟨Nat.le_of_ble_eq_true rfl, Nat.le_of_ble_eq_true rfl⟩ ?_
        refine lv_istore (lv' := [(8, .int (nI (ct (iwB σ 0) (nA σ)))), (7, .int (nI (sm (csN σ) (nW σ)))), (5, .long (hsF σ)), (4, .int y), (0, .ref sb), (1, .ref h), (2, .int z), (3, .int (nI t))]) hx hb dL_law_158 hl (by decide) rfl (fun ls hl => ?_)
        refine lv_aload_n hx hb dL_law_160 rfl (lv_at hl 5 rfl) ?_
        refine lv_iload hx hb dL_law_161 (lv_at hl 3 rfl) ?_
        refine mu_allS (ws2 := (wS h ad aa cI cR (cond (chT σ y).1 (chT σ y).2.1 σ) (cond (chT σ y).1 (kpO o n) o) (cond (chT σ y).1 (kpN n) n) (cond (chT σ y).1 (va_up τ (kpS o n) σ) τ))) [.ref h, .int y] [] hx hb hml hown hts k_RL_91 (fun sz => c_L_changes l D cI cR h ad aa σ o n τ y hw ho hn h4 sz) ⟨rfl, rfl, Nat.le_of_ble_eq_true rfl, Nat.le_of_ble_eq_true rfl⟩ hP hD hS hA hK rfl hl rfl (Nat.le_of_ble_eq_true rfl) dL_law_163 ⟨Nat.le_of_ble_eq_true rfl, Nat.le_of_ble_eq_true rfl⟩ (fun H locs hP hD hS => ?_)
        refine W.eq (g2 := F0 m 166 ls [.int ((chT σ y).2.2)]) rfl ?_
        obtain ⟨σ1, o1, n1, τ1, g, e1, e2, e3, e4, e5, hF1, hF2, hF3, hF4, hF5⟩ := ch_gen hi τ y
        rw [e1, e2, e3, e4] at hP hD
        have hP : va_P D vwCl (wS h ad aa cI cR σ1 o1 n1 τ1) H := hP
        have hD : va_D (lwA s) (wS h ad aa cI cR σ1 o1 n1 τ1) := hD
        refine nv_tope (g) (e5) ?_
        obtain ⟨hw1, h41, ho1, hn1⟩ := id hF1
        have hs1 := sc_le hw1 (Nat.le_refl (nW σ1))
        have hc1 := ct_le48 hw1 (iwB σ1 0)
        refine lv_istore (lv' := [(9, .int g), (8, .int (nI (ct (iwB σ 0) (nA σ)))), (7, .int (nI (sm (csN σ) (nW σ)))), (5, .long (hsF σ)), (4, .int y), (0, .ref sb), (1, .ref h), (2, .int z), (3, .int (nI t))]) hx hb dL_law_166 hl (by decide) rfl (fun ls hl => ?_)
        refine lv_iload hx hb dL_law_168 (lv_at hl 0 rfl) ?_
        have J170 : ∀ (H : Heap) (locs : List Loc), va_P D vwCl (wS h ad aa cI cR σ1 o1 n1 τ1) H → va_D (lwA s) (wS h ad aa cI cR σ1 o1 n1 τ1) → va_S (lwA s) s.heap H locs → ∀ (ls : Array Slot), lv_has ls 18 [(9, .int g), (8, .int (nI (ct (iwB σ 0) (nA σ)))), (7, .int (nI (sm (csN σ) (nW σ)))), (5, .long (hsF σ)), (4, .int y), (0, .ref sb), (1, .ref h), (2, .int z), (3, .int (nI t))] → W p l e room_1 s m #[Value.ref sb] below meth c H locs 36 1231 (lw_Z below #[Value.ref sb] s) (F0 m 183 ls []) := by
          intro H locs hP hD hS ls hl
          refine lv_aload_n hx hb dL_law_183 rfl (lv_at hl 6 rfl) ?_
          refine nv_callS [.ref h] [] hx hb hml hown hts k_RL_95 (c_L_isSound l D cI cR h ad aa σ1 o1 n1 τ1 hw1 h41) ⟨rfl, rfl, Nat.le_of_ble_eq_true rfl, Nat.le_of_ble_eq_true rfl⟩ hP hK rfl hl rfl (Nat.le_of_ble_eq_true rfl) dL_law_184 ⟨Nat.le_of_ble_eq_true rfl, Nat.le_of_ble_eq_true rfl⟩ ?_
          refine nv_if_ne (tgt := 192) hx hb dL_law_187 (by decide) (by omega) (fun q_187 => ?_) (fun q_187 => False.elim (by omega))
          refine lv_iload hx hb dL_law_192 (lv_at hl 4 rfl) ?_
          refine lv_bipush (v := nI 14) hx hb dL_law_194 (by decide) ?_
          refine nv_callS [.int y, .int (nI 14)] [] hx hb hml hown hts k_RL_41 (c_L_low l D cI cR y 14 (by omega) (by omega)) ⟨rfl, rfl, Nat.le_of_ble_eq_true rfl, Nat.le_of_ble_eq_true rfl⟩ (va_P_nil) hK rfl hl rfl (Nat.le_of_ble_eq_true rfl) dL_law_196 ⟨Nat.le_of_ble_eq_true rfl, Nat.le_of_ble_eq_true rfl⟩ ?_
          have hl14 := loN_lt y (show 0 < 14 by decide)
          refine lv_iconst (v := nI 5) hx hb dL_law_199 (by decide) ?_
          have J200 : ∀ (H : Heap) (locs : List Loc), va_P D vwCl (wS h ad aa cI cR σ1 o1 n1 τ1) H → va_D (lwA s) (wS h ad aa cI cR σ1 o1 n1 τ1) → va_S (lwA s) s.heap H locs → ∀ (ls : Array Slot), lv_has ls 18 [(9, .int g), (8, .int (nI (ct (iwB σ 0) (nA σ)))), (7, .int (nI (sm (csN σ) (nW σ)))), (5, .long (hsF σ)), (4, .int y), (0, .ref sb), (1, .ref h), (2, .int z), (3, .int (nI t))] → W p l e room_1 s m #[Value.ref sb] below meth c H locs 36 1231 (lw_Z below #[Value.ref sb] s) (F0 m 214 ls []) := by
            intro H locs hP hD hS ls hl
            refine lv_iload hx hb dL_law_214 (lv_at hl 4 rfl) ?_
            refine lv_bipush (v := nI 14) hx hb dL_law_216 (by decide) ?_
            refine nv_callS [.int y, .int (nI 14)] [] hx hb hml hown hts k_RL_41 (c_L_low l D cI cR y 14 (by omega) (by omega)) ⟨rfl, rfl, Nat.le_of_ble_eq_true rfl, Nat.le_of_ble_eq_true rfl⟩ (va_P_nil) hK rfl hl rfl (Nat.le_of_ble_eq_true rfl) dL_law_218 ⟨Nat.le_of_ble_eq_true rfl, Nat.le_of_ble_eq_true rfl⟩ ?_
            refine lv_bipush (v := nI 11) hx hb dL_law_221 (by decide) ?_
            have J223 : ∀ (H : Heap) (locs : List Loc), va_P D vwCl (wS h ad aa cI cR σ1 o1 n1 τ1) H → va_D (lwA s) (wS h ad aa cI cR σ1 o1 n1 τ1) → va_S (lwA s) s.heap H locs → ∀ (ls : Array Slot), lv_has ls 18 [(9, .int g), (8, .int (nI (ct (iwB σ 0) (nA σ)))), (7, .int (nI (sm (csN σ) (nW σ)))), (5, .long (hsF σ)), (4, .int y), (0, .ref sb), (1, .ref h), (2, .int z), (3, .int (nI t))] → W p l e room_1 s m #[Value.ref sb] below meth c H locs 36 1231 (lw_Z below #[Value.ref sb] s) (F0 m 245 ls []) := by
              intro H locs hP hD hS ls hl
              refine lv_iload hx hb dL_law_245 (lv_at hl 0 rfl) ?_
              refine lv_if_lt (tgt := 279) hx hb dL_law_247 (by decide) (fun q_247 => ?_) (fun q_247 => ?_)
              · refine nv_inc (k := 8) (lv' := [(3, .int (nI (t + 1))), (9, .int g), (8, .int (nI (ct (iwB σ 0) (nA σ)))), (7, .int (nI (sm (csN σ) (nW σ)))), (5, .long (hsF σ)), (4, .int y), (0, .ref sb), (1, .ref h), (2, .int z)]) hx hb dL_law_279 hl rfl (by decide) rfl (fun ls hl => ?_)
                refine lv_goto (tgt := 124) hx hb dL_law_282 (by decide) ?_
                exact ih124 (t + 1) σ1 o1 n1 τ1 (by omega) (by omega) (hF1) _ _ hP hD hS ls (lv_sub hl [6, 7, 8, 0] rfl)
              · refine lv_iload hx hb dL_law_250 (lv_at hl 4 rfl) ?_
                refine lv_bipush (v := nI 27) hx hb dL_law_252 (by decide) ?_
                refine lv_ishr hx hb dL_law_254 ?_
                refine lv_iconst (v := nI 3) hx hb dL_law_255 (by decide) ?_
                refine lv_iand hx hb dL_law_256 ?_
                refine lv_if_ne (tgt := 279) hx hb dL_law_257 (by decide) (fun q_257 => ?_) (fun q_257 => ?_)
                · refine nv_inc (k := 8) (lv' := [(3, .int (nI (t + 1))), (9, .int g), (8, .int (nI (ct (iwB σ 0) (nA σ)))), (7, .int (nI (sm (csN σ) (nW σ)))), (5, .long (hsF σ)), (4, .int y), (0, .ref sb), (1, .ref h), (2, .int z)]) hx hb dL_law_279 hl rfl (by decide) rfl (fun ls hl => ?_)
                  refine lv_goto (tgt := 124) hx hb dL_law_282 (by decide) ?_
                  exact ih124 (t + 1) σ1 o1 n1 τ1 (by omega) (by omega) (hF1) _ _ hP hD hS ls (lv_sub hl [6, 7, 8, 0] rfl)
                · obtain ⟨k1, k2⟩ := hF3 q_247
                  refine lv_aload_n hx hb dL_law_260 rfl (lv_at hl 6 rfl) ?_
                  refine mu_allV (ws2 := (wS h ad aa cI cR (τ1 ((o1 + (n1 - 1)) % 5)) o1 (n1 - 1) τ1)) [] [] hx hb hml hown hts k_RL_81 (fun sz => c_X3_undoN l D cI cR h ad aa σ1 o1 n1 τ1 hw1 ho1 hn1 k1 sz) ⟨rfl, rfl, Nat.le_of_ble_eq_true rfl, Nat.le_of_ble_eq_true rfl⟩ hP hD hS hA hK 3 rfl rfl rfl rfl hl rfl (Nat.le_of_ble_eq_true rfl) dL_law_261 ⟨Nat.le_of_ble_eq_true rfl, Nat.le_of_ble_eq_true rfl⟩ (fun H locs hP hD hS => ?_)
                  refine W.eq (g2 := F0 m 264 ls [.int (nI (n1 - 1))]) rfl ?_
                  have eW : τ1 ((o1 + (n1 - 1)) % 5) = σ := k2
                  rw [eW] at hP
                  rw [eW] at hD
                  have hP : va_P D vwCl (wS h ad aa cI cR σ o1 (n1 - 1) τ1) H := hP
                  have hD : va_D (lwA s) (wS h ad aa cI cR σ o1 (n1 - 1) τ1) := hD
                  refine nv_if_lt (tgt := 277) hx hb dL_law_264 (by decide) (by omega) ?_
                  refine lv_aload_n hx hb dL_law_267 rfl (lv_at hl 6 rfl) ?_
                  refine nv_callVL [] [] hx hb hml hown hts k_RL_87 (c_X3_digestW l D cI cR h ad aa σ o1 (n1 - 1) τ1 hw) ⟨rfl, rfl, Nat.le_of_ble_eq_true rfl, Nat.le_of_ble_eq_true rfl⟩ hP hK 3 rfl rfl rfl rfl hl rfl (Nat.le_of_ble_eq_true rfl) dL_law_268 ⟨Nat.le_of_ble_eq_true rfl, Nat.le_of_ble_eq_true rfl⟩ ?_
                  refine lv_lload hx hb dL_law_271 (lv_at hl 3 rfl) ?_
                  refine W.lcmp hx hb dL_law_273 ?_
                  refine nv_tope (nI 0) (cmp_same (rfl)) ?_
                  refine nv_if_eq (tgt := 279) hx hb dL_law_274 (by decide) (by omega) (fun q_274 => ?_) (fun q_274 => False.elim (by omega))
                  refine nv_inc (k := 8) (lv' := [(3, .int (nI (t + 1))), (9, .int g), (8, .int (nI (ct (iwB σ 0) (nA σ)))), (7, .int (nI (sm (csN σ) (nW σ)))), (5, .long (hsF σ)), (4, .int y), (0, .ref sb), (1, .ref h), (2, .int z)]) hx hb dL_law_279 hl rfl (by decide) rfl (fun ls hl => ?_)
                  refine lv_goto (tgt := 124) hx hb dL_law_282 (by decide) ?_
                  exact ih124 (t + 1) σ o1 (n1 - 1) τ1 (by omega) (by omega) (show lwI σ o1 (n1 - 1) from ⟨hw, h4, ho1, by omega⟩) _ _ hP hD hS ls (lv_sub hl [6, 7, 8, 0] rfl)
            refine nv_icmp_ne (tgt := 245) hx hb dL_law_223 (by decide) (by omega) (by omega) (fun q_223 => ?_) (fun q_223 => ?_)
            · exact J223 _ _ hP hD hS ls (lv_sub hl [0, 1, 2, 3, 4, 5, 6, 7, 8] rfl)
            · refine lv_iload hx hb dL_law_226 (lv_at hl 0 rfl) ?_
              refine nv_tope (nI (ct (iwB σ1 0) (nA σ1))) ((hF5 q_223).1) ?_
              refine lv_iload hx hb dL_law_228 (lv_at hl 1 rfl) ?_
              refine nv_icmp_gt (tgt := 243) hx hb dL_law_230 (by decide) (by omega) (by omega) (fun q_230 => False.elim (by have := (hF5 q_223).2; omega)) (fun q_230 => ?_)
              refine lv_iload hx hb dL_law_233 (lv_at hl 0 rfl) ?_
              refine nv_tope (nI (ct (iwB σ1 0) (nA σ1))) ((hF5 q_223).1) ?_
              refine lv_aload_n hx hb dL_law_235 rfl (lv_at hl 6 rfl) ?_
              refine lv_iconst (v := nI 0) hx hb dL_law_236 (by decide) ?_
              refine nv_callV [.int (nI 0)] [.int (nI (ct (iwB σ1 0) (nA σ1)))] hx hb hml hown hts k_RL_38 (c_X3_wrongN l D cI cR h ad aa σ1 o1 n1 τ1 0 hw1 (by decide)) ⟨rfl, rfl, Nat.le_of_ble_eq_true rfl, Nat.le_of_ble_eq_true rfl⟩ hP hK 3 rfl rfl rfl rfl hl rfl (Nat.le_of_ble_eq_true rfl) dL_law_237 ⟨Nat.le_of_ble_eq_true rfl, Nat.le_of_ble_eq_true rfl⟩ ?_
              refine nv_icmp_eq (tgt := 245) hx hb dL_law_240 (by decide) (by omega) (by omega) (fun q_240 => ?_) (fun q_240 => False.elim (q_240 rfl))
              exact J223 _ _ hP hD hS ls (lv_sub hl [0, 1, 2, 3, 4, 5, 6, 7, 8] rfl)
          refine nv_icmp_ne (tgt := 214) hx hb dL_law_200 (by decide) (by omega) (by omega) (fun q_200 => ?_) (fun q_200 => ?_)
          · exact J200 _ _ hP hD hS ls (lv_sub hl [0, 1, 2, 3, 4, 5, 6, 7, 8] rfl)
          · refine lv_aload_n hx hb dL_law_203 rfl (lv_at hl 6 rfl) ?_
            refine lv_bipush (v := nI 8) hx hb dL_law_204 (by decide) ?_
            refine nv_callV [.int (nI 8)] [] hx hb hml hown hts k_RL_8 (c_X3_count8 l D cI cR h ad aa σ1 o1 n1 τ1 8 hw1 rfl) ⟨rfl, rfl, Nat.le_of_ble_eq_true rfl, Nat.le_of_ble_eq_true rfl⟩ hP hK 3 rfl rfl rfl rfl hl rfl (Nat.le_of_ble_eq_true rfl) dL_law_206 ⟨Nat.le_of_ble_eq_true rfl, Nat.le_of_ble_eq_true rfl⟩ ?_
            refine lv_iload hx hb dL_law_209 (lv_at hl 2 rfl) ?_
            refine nv_icmp_gt (tgt := 243) hx hb dL_law_211 (by decide) (by omega) (by omega) (fun q_211 => False.elim (by have := hF4 q_200; omega)) (fun q_211 => ?_)
            exact J200 _ _ hP hD hS ls (lv_sub hl [0, 1, 2, 3, 4, 5, 6, 7, 8] rfl)
        refine lv_if_ge (tgt := 183) hx hb dL_law_170 (by decide) (fun q_170 => ?_) (fun q_170 => ?_)
        · exact J170 _ _ hP hD hS ls (lv_sub hl [0, 1, 2, 3, 4, 5, 6, 7, 8] rfl)
        · refine lv_aload_n hx hb dL_law_173 rfl (lv_at hl 6 rfl) ?_
          refine nv_callVL [] [] hx hb hml hown hts k_RL_87 (c_X3_digestW l D cI cR h ad aa σ1 o1 n1 τ1 hw1) ⟨rfl, rfl, Nat.le_of_ble_eq_true rfl, Nat.le_of_ble_eq_true rfl⟩ hP hK 3 rfl rfl rfl rfl hl rfl (Nat.le_of_ble_eq_true rfl) dL_law_174 ⟨Nat.le_of_ble_eq_true rfl, Nat.le_of_ble_eq_true rfl⟩ ?_
          refine lv_lload hx hb dL_law_177 (lv_at hl 3 rfl) ?_
          refine W.lcmp hx hb dL_law_179 ?_
          refine nv_tope (nI 0) (cmp_same (by rw [hF2 (Int32.not_le.mp q_170)])) ?_
          refine nv_if_ne (tgt := 190) hx hb dL_law_180 (by decide) (by omega) (fun q_180 => False.elim (by omega)) (fun q_180 => ?_)
          exact J170 _ _ hP hD hS ls (lv_sub hl [0, 1, 2, 3, 4, 5, 6, 7, 8] rfl)
  exact L124 21 0 σb ob nb τb (by omega) (by omega) (hi) _ _ hP hD hS ls (lv_sub hl [0, 1, 2, 3] rfl)
