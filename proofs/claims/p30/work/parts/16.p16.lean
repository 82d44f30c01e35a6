set_option maxHeartbeats 4000000 in
set_option maxRecDepth 100000 in
theorem c_X2_scan (l : Launch) (D : va_G) (cI cR : ClassId) (h : Nat) (a : Nat → Nat) (b : Nat → Nat) (ln : Nat) (g : Nat → Nat) (fo0 : Nat) (na : Nat) (hw : Nat)  (hb0 : ∀ i, i < ln → b i < 256) (hln : ln ≤ 100) (hA1 : na ≤ 48) (hh1 : hw ≤ 1023) (sz : Nat) : Met l yX2_scan (wsC yX2_scan cX2_scan 8 (some .int)) (rmK 0 0) (nPreM D (nTy cI cR) [.ref h, .int (nI na), .int (nI hw)] (wTx h a cI (nF b) ln (nF g) fo0) sz) (QcM D (some (.int (scRes b na hw g ln))) (wTx h a cI (nF b) ln (nF (scRun b na hw g ln).2.2.2.2.2) ((scRun b na hw g ln).2.2.2.2.1)) (va_A (wTx h a cI (nF b) ln (nF g) fo0) sz)) 0 0 (va_A (wTx h a cI (nF b) ln (nF g) fo0) sz) := by
  refine met_mut (Qc := fun A => QcM D (some (.int (scRes b na hw g ln))) (wTx h a cI (nF b) ln (nF (scRun b na hw g ln).2.2.2.2.2) ((scRun b na hw g ln).2.2.2.2.1)) A) rfl (Nat.le_of_ble_eq_true rfl) ?_
  intro p e s m args below meth c ls A H locs hx hb hml hr hlocks hown hts hP hK hD hA hS hl
  have hl : lv_has ls 8 [(0, .ref h), (1, .int (nI na)), (2, .int (nI hw))] := hl
  refine lv_iconst (v := nI 0) hx hb dX2_scan_0 (by decide) ?_
  refine lv_istore_n (lv' := [(3, .int (nI 0)), (0, .ref h), (1, .int (nI na)), (2, .int (nI hw))]) hx hb dX2_scan_1 rfl hl (by decide) rfl (fun ls hl => ?_)
  refine lv_iconst (v := nI 0) hx hb dX2_scan_2 (by decide) ?_
  refine lv_istore (lv' := [(4, .int (nI 0)), (3, .int (nI 0)), (0, .ref h), (1, .int (nI na)), (2, .int (nI hw))]) hx hb dX2_scan_3 hl (by decide) rfl (fun ls hl => ?_)
  refine lv_iconst (v := nI 0) hx hb dX2_scan_5 (by decide) ?_
  refine lv_istore (lv' := [(5, .int (nI 0)), (4, .int (nI 0)), (3, .int (nI 0)), (0, .ref h), (1, .int (nI na)), (2, .int (nI hw))]) hx hb dX2_scan_6 hl (by decide) rfl (fun ls hl => ?_)
  refine lv_aload_n hx hb dX2_scan_8 rfl (lv_at hl 3 rfl) ?_
  refine lv_iconst (v := nI 0) hx hb dX2_scan_9 (by decide) ?_
  refine va_put (D := D) (ci := 2) (v := .int (nI 0)) (ty := .int) (C := RX2) (T := TX2) (N := 4) hx hb hts inX2 tyX2 tyX2_ok nmX2 hown hK hP hD hS 0 rfl rfl 3 (by decide) (hts _ fl_RX2_22) (fun _ h9 => h9) rfl (by decide +kernel) rfl rfl (Nat.le_of_ble_eq_true rfl) dX2_scan_10 (fun H locs hP hD hS => ?_)
  have hP : va_P D vwCl (wTx h a cI (nF b) ln (nF g) 0) H := hP
  have hD : va_D A (wTx h a cI (nF b) ln (nF g) 0) := hD
  refine lv_iconst (v := nI 0) hx hb dX2_scan_13 (by decide) ?_
  refine lv_istore (lv' := [(6, .int (nI 0)), (5, .int (nI 0)), (4, .int (nI 0)), (3, .int (nI 0)), (0, .ref h), (1, .int (nI na)), (2, .int (nI hw))]) hx hb dX2_scan_14 hl (by decide) rfl (fun ls hl => ?_)
  have L16 : ∀ (n16 i : Nat) (pl : Nat) (st : Nat) (wd : Nat) (fo : Nat) (gg : Nat → Nat), ln + 1 ≤ i + n16 → i ≤ ln → (scRun b na hw g i = (none, pl, st, wd, fo, gg)) → (pl ≤ 2) → (st ≤ i) → (fo ≤ na) → (¬ pl = 0 → 1 ≤ fo) → (wd ≤ hw) → ∀ (H : Heap) (locs : List Loc), va_P D vwCl (wTx h a cI (nF b) ln (nF gg) fo) H → va_D A (wTx h a cI (nF b) ln (nF gg) fo) → va_S A s.heap H locs → ∀ (ls : Array Slot), lv_has ls 8 [(0, .ref h), (1, .int (nI na)), (2, .int (nI hw)), (3, .int (nI pl)), (4, .int (nI st)), (5, .int (nI wd)), (6, .int (nI i))] → W p l e (rmK 0 0) s m args below meth c H locs 0 0 (MQ below (QcM D (some (.int (scRes b na hw g ln))) (wTx h a cI (nF b) ln (nF (scRun b na hw g ln).2.2.2.2.2) ((scRun b na hw g ln).2.2.2.2.1)) A) args s 0 0 A) (F0 m 16 ls []) := by
    intro n16
    induction n16 with
    | zero =>
      intro i pl st wd fo gg h1_16 h2_16
      exact False.elim (by omega)
    | succ n16 ih16 =>
      intro i pl st wd fo gg h1_16 h2_16 hrun hpl hst hfo hf1 hwd H locs hP hD hS ls hl
      refine lv_iload hx hb dX2_scan_16 (lv_at hl 6 rfl) ?_
      refine lv_aload_n hx hb dX2_scan_18 rfl (lv_at hl 0 rfl) ?_
      refine va_get (D := D) (ci := 2) (v := .int (nI ln)) (C := RX2) (T := TX2) (N := 4) hx hb hts inX2 hown hK hP 0 rfl rfl 1 (by decide) (hts _ fl_RX2_18) (fun _ h9 => h9) rfl dX2_scan_19 ?_
      refine nv_icmp_ge (tgt := 184) hx hb dX2_scan_22 (by decide) (by omega) (by omega) (fun q_22 => ?_) (fun q_22 => ?_)
      · refine lv_iload_n hx hb dX2_scan_184 rfl (lv_at hl 3 rfl) ?_
        refine nv_if_ne (tgt := 195) hx hb dX2_scan_185 (by decide) (by omega) (fun q_185 => ?_) (fun q_185 => ?_)
        · refine lv_iconst (v := -1) hx hb dX2_scan_195 (by decide) ?_
          have hr2 : scRun b na hw g ln = (none, pl, st, wd, fo, gg) := by rw [← show i = ln by omega]; exact hrun
          have hP : va_P D vwCl (wTx h a cI (nF b) ln (nF (scRun b na hw g ln).2.2.2.2.2) ((scRun b na hw g ln).2.2.2.2.1)) H := by rw [hr2]; exact hP
          have hD : va_D A (wTx h a cI (nF b) ln (nF (scRun b na hw g ln).2.2.2.2.2) ((scRun b na hw g ln).2.2.2.2.1)) := by rw [hr2]; exact hD
          exact mu_reti hx hb hr hlocks (scRes_n hr2 q_185) hP hD hS dX2_scan_196
        · refine lv_aload_n hx hb dX2_scan_188 rfl (lv_at hl 0 rfl) ?_
          refine va_get (D := D) (ci := 2) (v := .int (nI ln)) (C := RX2) (T := TX2) (N := 4) hx hb hts inX2 hown hK hP 0 rfl rfl 1 (by decide) (hts _ fl_RX2_18) (fun _ h9 => h9) rfl dX2_scan_189 ?_
          refine lv_goto (tgt := 196) hx hb dX2_scan_192 (by decide) ?_
          have hr2 : scRun b na hw g ln = (none, pl, st, wd, fo, gg) := by rw [← show i = ln by omega]; exact hrun
          have hP : va_P D vwCl (wTx h a cI (nF b) ln (nF (scRun b na hw g ln).2.2.2.2.2) ((scRun b na hw g ln).2.2.2.2.1)) H := by rw [hr2]; exact hP
          have hD : va_D A (wTx h a cI (nF b) ln (nF (scRun b na hw g ln).2.2.2.2.2) ((scRun b na hw g ln).2.2.2.2.1)) := by rw [hr2]; exact hD
          exact mu_reti hx hb hr hlocks (scRes_0 hr2 q_185) hP hD hS dX2_scan_196
      · refine lv_aload_n hx hb dX2_scan_25 rfl (lv_at hl 0 rfl) ?_
        refine va_get (D := D) (ci := 2) (v := .ref (a 0)) (C := RX2) (T := TX2) (N := 4) hx hb hts inX2 hown hK hP 0 rfl rfl 0 (by decide) (hts _ fl_RX2_9) (fun _ h9 => h9) rfl dX2_scan_26 ?_
        refine lv_iload hx hb dX2_scan_29 (lv_at hl 6 rfl) ?_
        refine nv_iald (D := D) (v := nI (b i)) hx hb hK hP 1 0 rfl rfl (k := i) (by omega) (by decide) (rfl) dX2_scan_31 ?_
        refine lv_istore (lv' := [(7, .int (nI (b i))), (0, .ref h), (1, .int (nI na)), (2, .int (nI hw)), (3, .int (nI pl)), (4, .int (nI st)), (5, .int (nI wd)), (6, .int (nI i))]) hx hb dX2_scan_32 hl (by decide) rfl (fun ls hl => ?_)
        have hbi := hb0 i (by omega)
        refine lv_iload hx hb dX2_scan_34 (lv_at hl 0 rfl) ?_
        refine lv_bipush (v := nI 48) hx hb dX2_scan_36 (by decide) ?_
        refine nv_icmp_lt (tgt := 138) hx hb dX2_scan_38 (by decide) (by omega) (by omega) (fun q_38 => ?_) (fun q_38 => ?_)
        · refine lv_iload hx hb dX2_scan_138 (lv_at hl 0 rfl) ?_
          refine lv_bipush (v := nI 44) hx hb dX2_scan_140 (by decide) ?_
          refine nv_icmp_ne (tgt := 154) hx hb dX2_scan_142 (by decide) (by omega) (by omega) (fun q_142 => ?_) (fun q_142 => ?_)
          · refine lv_iload hx hb dX2_scan_154 (lv_at hl 0 rfl) ?_
            refine lv_bipush (v := nI 32) hx hb dX2_scan_156 (by decide) ?_
            refine nv_icmp_ne (tgt := 175) hx hb dX2_scan_158 (by decide) (by omega) (by omega) (fun q_158 => ?_) (fun q_158 => ?_)
            · refine lv_iload hx hb dX2_scan_175 (lv_at hl 7 rfl) ?_
              have hr1 : scRun b na hw g (i + 1) = (some (i), pl, st, wd, fo, gg) := sc_one hrun (by unfold scStep; rw [if_neg (by omega), if_neg (by omega), if_neg (by omega)])
              have hr2 : scRun b na hw g ln = (some (i), pl, st, wd, fo, gg) := sc_stop hr1 (by omega)
              have hP : va_P D vwCl (wTx h a cI (nF b) ln (nF (scRun b na hw g ln).2.2.2.2.2) ((scRun b na hw g ln).2.2.2.2.1)) H := by rw [hr2]; exact hP
              have hD : va_D A (wTx h a cI (nF b) ln (nF (scRun b na hw g ln).2.2.2.2.2) ((scRun b na hw g ln).2.2.2.2.1)) := by rw [hr2]; exact hD
              exact mu_reti hx hb hr hlocks (scRes_some hr2) hP hD hS dX2_scan_177
            · refine lv_iload_n hx hb dX2_scan_161 rfl (lv_at hl 4 rfl) ?_
              refine lv_iconst (v := nI 1) hx hb dX2_scan_162 (by decide) ?_
              refine nv_icmp_ne (tgt := 170) hx hb dX2_scan_163 (by decide) (by omega) (by omega) (fun q_163 => ?_) (fun q_163 => ?_)
              · refine lv_iload_n hx hb dX2_scan_170 rfl (lv_at hl 4 rfl) ?_
                refine lv_istore_n (lv' := [(3, .int (nI pl)), (7, .int (nI (b i))), (0, .ref h), (1, .int (nI na)), (2, .int (nI hw)), (4, .int (nI st)), (5, .int (nI wd)), (6, .int (nI i))]) hx hb dX2_scan_171 rfl hl (by decide) rfl (fun ls hl => ?_)
                refine lv_goto (tgt := 178) hx hb dX2_scan_172 (by decide) ?_
                refine nv_inc (k := 7) (lv' := [(6, .int (nI (i + 1))), (3, .int (nI pl)), (7, .int (nI (b i))), (0, .ref h), (1, .int (nI na)), (2, .int (nI hw)), (4, .int (nI st)), (5, .int (nI wd))]) hx hb dX2_scan_178 hl rfl (by decide) rfl (fun ls hl => ?_)
                refine lv_goto (tgt := 16) hx hb dX2_scan_181 (by decide) ?_
                exact ih16 (i + 1) pl st wd fo gg (by omega) (by omega) (sc_one hrun (by unfold scStep; rw [if_neg (by omega), if_neg (by omega), if_pos (by omega), if_neg (by omega)])) (by omega) (by omega) (by omega) (by omega) (by omega) _ _ hP hD hS ls (lv_sub hl [3, 4, 5, 1, 6, 7, 0] rfl)
              · refine lv_iconst (v := nI 2) hx hb dX2_scan_166 (by decide) ?_
                refine lv_goto (tgt := 171) hx hb dX2_scan_167 (by decide) ?_
                refine lv_istore_n (lv' := [(3, .int (nI 2)), (7, .int (nI (b i))), (0, .ref h), (1, .int (nI na)), (2, .int (nI hw)), (4, .int (nI st)), (5, .int (nI wd)), (6, .int (nI i))]) hx hb dX2_scan_171 rfl hl (by decide) rfl (fun ls hl => ?_)
                refine lv_goto (tgt := 178) hx hb dX2_scan_172 (by decide) ?_
                refine nv_inc (k := 7) (lv' := [(6, .int (nI (i + 1))), (3, .int (nI 2)), (7, .int (nI (b i))), (0, .ref h), (1, .int (nI na)), (2, .int (nI hw)), (4, .int (nI st)), (5, .int (nI wd))]) hx hb dX2_scan_178 hl rfl (by decide) rfl (fun ls hl => ?_)
                refine lv_goto (tgt := 16) hx hb dX2_scan_181 (by decide) ?_
                exact ih16 (i + 1) 2 st wd fo gg (by omega) (by omega) (sc_one hrun (by unfold scStep; rw [if_neg (by omega), if_neg (by omega), if_pos (by omega), if_pos (by omega)])) (by omega) (by omega) (by omega) (by omega) (by omega) _ _ hP hD hS ls (lv_sub hl [3, 4, 5, 1, 6, 7, 0] rfl)
          · refine lv_iload_n hx hb dX2_scan_145 rfl (lv_at hl 4 rfl) ?_
            refine nv_if_eq (tgt := 154) hx hb dX2_scan_146 (by decide) (by omega) (fun q_146 => ?_) (fun q_146 => ?_)
            · refine lv_iload hx hb dX2_scan_154 (lv_at hl 0 rfl) ?_
              refine lv_bipush (v := nI 32) hx hb dX2_scan_156 (by decide) ?_
              refine nv_icmp_ne (tgt := 175) hx hb dX2_scan_158 (by decide) (by omega) (by omega) (fun q_158 => ?_) (fun q_158 => ?_)
              · refine lv_iload hx hb dX2_scan_175 (lv_at hl 7 rfl) ?_
                have hr1 : scRun b na hw g (i + 1) = (some (i), pl, st, wd, fo, gg) := sc_one hrun (by unfold scStep; rw [if_neg (by omega), if_neg (by omega), if_neg (by omega)])
                have hr2 : scRun b na hw g ln = (some (i), pl, st, wd, fo, gg) := sc_stop hr1 (by omega)
                have hP : va_P D vwCl (wTx h a cI (nF b) ln (nF (scRun b na hw g ln).2.2.2.2.2) ((scRun b na hw g ln).2.2.2.2.1)) H := by rw [hr2]; exact hP
                have hD : va_D A (wTx h a cI (nF b) ln (nF (scRun b na hw g ln).2.2.2.2.2) ((scRun b na hw g ln).2.2.2.2.1)) := by rw [hr2]; exact hD
                exact mu_reti hx hb hr hlocks (scRes_some hr2) hP hD hS dX2_scan_177
              · refine lv_iload_n hx hb dX2_scan_161 rfl (lv_at hl 4 rfl) ?_
                refine lv_iconst (v := nI 1) hx hb dX2_scan_162 (by decide) ?_
                refine nv_icmp_ne (tgt := 170) hx hb dX2_scan_163 (by decide) (by omega) (by omega) (fun q_163 => ?_) (fun q_163 => ?_)
                · refine lv_iload_n hx hb dX2_scan_170 rfl (lv_at hl 4 rfl) ?_
                  refine lv_istore_n (lv' := [(3, .int (nI pl)), (7, .int (nI (b i))), (0, .ref h), (1, .int (nI na)), (2, .int (nI hw)), (4, .int (nI st)), (5, .int (nI wd)), (6, .int (nI i))]) hx hb dX2_scan_171 rfl hl (by decide) rfl (fun ls hl => ?_)
                  refine lv_goto (tgt := 178) hx hb dX2_scan_172 (by decide) ?_
                  refine nv_inc (k := 7) (lv' := [(6, .int (nI (i + 1))), (3, .int (nI pl)), (7, .int (nI (b i))), (0, .ref h), (1, .int (nI na)), (2, .int (nI hw)), (4, .int (nI st)), (5, .int (nI wd))]) hx hb dX2_scan_178 hl rfl (by decide) rfl (fun ls hl => ?_)
                  refine lv_goto (tgt := 16) hx hb dX2_scan_181 (by decide) ?_
                  exact ih16 (i + 1) pl st wd fo gg (by omega) (by omega) (sc_one hrun (by unfold scStep; rw [if_neg (by omega), if_neg (by omega), if_pos (by omega), if_neg (by omega)])) (by omega) (by omega) (by omega) (by omega) (by omega) _ _ hP hD hS ls (lv_sub hl [3, 4, 5, 1, 6, 7, 0] rfl)
                · refine lv_iconst (v := nI 2) hx hb dX2_scan_166 (by decide) ?_
                  refine lv_goto (tgt := 171) hx hb dX2_scan_167 (by decide) ?_
                  refine lv_istore_n (lv' := [(3, .int (nI 2)), (7, .int (nI (b i))), (0, .ref h), (1, .int (nI na)), (2, .int (nI hw)), (4, .int (nI st)), (5, .int (nI wd)), (6, .int (nI i))]) hx hb dX2_scan_171 rfl hl (by decide) rfl (fun ls hl => ?_)
                  refine lv_goto (tgt := 178) hx hb dX2_scan_172 (by decide) ?_
                  refine nv_inc (k := 7) (lv' := [(6, .int (nI (i + 1))), (3, .int (nI 2)), (7, .int (nI (b i))), (0, .ref h), (1, .int (nI na)), (2, .int (nI hw)), (4, .int (nI st)), (5, .int (nI wd))]) hx hb dX2_scan_178 hl rfl (by decide) rfl (fun ls hl => ?_)
                  refine lv_goto (tgt := 16) hx hb dX2_scan_181 (by decide) ?_
                  exact ih16 (i + 1) 2 st wd fo gg (by omega) (by omega) (sc_one hrun (by unfold scStep; rw [if_neg (by omega), if_neg (by omega), if_pos (by omega), if_pos (by omega)])) (by omega) (by omega) (by omega) (by omega) (by omega) _ _ hP hD hS ls (lv_sub hl [3, 4, 5, 1, 6, 7, 0] rfl)
            · refine lv_iconst (v := nI 0) hx hb dX2_scan_149 (by decide) ?_
              refine lv_istore_n (lv' := [(3, .int (nI 0)), (7, .int (nI (b i))), (0, .ref h), (1, .int (nI na)), (2, .int (nI hw)), (4, .int (nI st)), (5, .int (nI wd)), (6, .int (nI i))]) hx hb dX2_scan_150 rfl hl (by decide) rfl (fun ls hl => ?_)
              refine lv_goto (tgt := 178) hx hb dX2_scan_151 (by decide) ?_
              refine nv_inc (k := 7) (lv' := [(6, .int (nI (i + 1))), (3, .int (nI 0)), (7, .int (nI (b i))), (0, .ref h), (1, .int (nI na)), (2, .int (nI hw)), (4, .int (nI st)), (5, .int (nI wd))]) hx hb dX2_scan_178 hl rfl (by decide) rfl (fun ls hl => ?_)
              refine lv_goto (tgt := 16) hx hb dX2_scan_181 (by decide) ?_
              exact ih16 (i + 1) 0 st wd fo gg (by omega) (by omega) (sc_one hrun (by unfold scStep; rw [if_neg (by omega), if_pos (by omega)])) (by omega) (by omega) (by omega) (by omega) (by omega) _ _ hP hD hS ls (lv_sub hl [3, 4, 5, 1, 6, 7, 0] rfl)
        · refine lv_iload hx hb dX2_scan_41 (lv_at hl 0 rfl) ?_
          refine lv_bipush (v := nI 56) hx hb dX2_scan_43 (by decide) ?_
          refine nv_icmp_ge (tgt := 138) hx hb dX2_scan_45 (by decide) (by omega) (by omega) (fun q_45 => ?_) (fun q_45 => ?_)
          · refine lv_iload hx hb dX2_scan_138 (lv_at hl 0 rfl) ?_
            refine lv_bipush (v := nI 44) hx hb dX2_scan_140 (by decide) ?_
            refine nv_icmp_ne (tgt := 154) hx hb dX2_scan_142 (by decide) (by omega) (by omega) (fun q_142 => ?_) (fun q_142 => ?_)
            · refine lv_iload hx hb dX2_scan_154 (lv_at hl 0 rfl) ?_
              refine lv_bipush (v := nI 32) hx hb dX2_scan_156 (by decide) ?_
              refine nv_icmp_ne (tgt := 175) hx hb dX2_scan_158 (by decide) (by omega) (by omega) (fun q_158 => ?_) (fun q_158 => ?_)
              · refine lv_iload hx hb dX2_scan_175 (lv_at hl 7 rfl) ?_
                have hr1 : scRun b na hw g (i + 1) = (some (i), pl, st, wd, fo, gg) := sc_one hrun (by unfold scStep; rw [if_neg (by omega), if_neg (by omega), if_neg (by omega)])
                have hr2 : scRun b na hw g ln = (some (i), pl, st, wd, fo, gg) := sc_stop hr1 (by omega)
                have hP : va_P D vwCl (wTx h a cI (nF b) ln (nF (scRun b na hw g ln).2.2.2.2.2) ((scRun b na hw g ln).2.2.2.2.1)) H := by rw [hr2]; exact hP
                have hD : va_D A (wTx h a cI (nF b) ln (nF (scRun b na hw g ln).2.2.2.2.2) ((scRun b na hw g ln).2.2.2.2.1)) := by rw [hr2]; exact hD
                exact mu_reti hx hb hr hlocks (scRes_some hr2) hP hD hS dX2_scan_177
              · refine lv_iload_n hx hb dX2_scan_161 rfl (lv_at hl 4 rfl) ?_
                refine lv_iconst (v := nI 1) hx hb dX2_scan_162 (by decide) ?_
                refine nv_icmp_ne (tgt := 170) hx hb dX2_scan_163 (by decide) (by omega) (by omega) (fun q_163 => ?_) (fun q_163 => ?_)
                · refine lv_iload_n hx hb dX2_scan_170 rfl (lv_at hl 4 rfl) ?_
                  refine lv_istore_n (lv' := [(3, .int (nI pl)), (7, .int (nI (b i))), (0, .ref h), (1, .int (nI na)), (2, .int (nI hw)), (4, .int (nI st)), (5, .int (nI wd)), (6, .int (nI i))]) hx hb dX2_scan_171 rfl hl (by decide) rfl (fun ls hl => ?_)
                  refine lv_goto (tgt := 178) hx hb dX2_scan_172 (by decide) ?_
                  refine nv_inc (k := 7) (lv' := [(6, .int (nI (i + 1))), (3, .int (nI pl)), (7, .int (nI (b i))), (0, .ref h), (1, .int (nI na)), (2, .int (nI hw)), (4, .int (nI st)), (5, .int (nI wd))]) hx hb dX2_scan_178 hl rfl (by decide) rfl (fun ls hl => ?_)
                  refine lv_goto (tgt := 16) hx hb dX2_scan_181 (by decide) ?_
                  exact ih16 (i + 1) pl st wd fo gg (by omega) (by omega) (sc_one hrun (by unfold scStep; rw [if_neg (by omega), if_neg (by omega), if_pos (by omega), if_neg (by omega)])) (by omega) (by omega) (by omega) (by omega) (by omega) _ _ hP hD hS ls (lv_sub hl [3, 4, 5, 1, 6, 7, 0] rfl)
                · refine lv_iconst (v := nI 2) hx hb dX2_scan_166 (by decide) ?_
                  refine lv_goto (tgt := 171) hx hb dX2_scan_167 (by decide) ?_
                  refine lv_istore_n (lv' := [(3, .int (nI 2)), (7, .int (nI (b i))), (0, .ref h), (1, .int (nI na)), (2, .int (nI hw)), (4, .int (nI st)), (5, .int (nI wd)), (6, .int (nI i))]) hx hb dX2_scan_171 rfl hl (by decide) rfl (fun ls hl => ?_)
                  refine lv_goto (tgt := 178) hx hb dX2_scan_172 (by decide) ?_
                  refine nv_inc (k := 7) (lv' := [(6, .int (nI (i + 1))), (3, .int (nI 2)), (7, .int (nI (b i))), (0, .ref h), (1, .int (nI na)), (2, .int (nI hw)), (4, .int (nI st)), (5, .int (nI wd))]) hx hb dX2_scan_178 hl rfl (by decide) rfl (fun ls hl => ?_)
                  refine lv_goto (tgt := 16) hx hb dX2_scan_181 (by decide) ?_
                  exact ih16 (i + 1) 2 st wd fo gg (by omega) (by omega) (sc_one hrun (by unfold scStep; rw [if_neg (by omega), if_neg (by omega), if_pos (by omega), if_pos (by omega)])) (by omega) (by omega) (by omega) (by omega) (by omega) _ _ hP hD hS ls (lv_sub hl [3, 4, 5, 1, 6, 7, 0] rfl)
            · refine lv_iload_n hx hb dX2_scan_145 rfl (lv_at hl 4 rfl) ?_
              refine nv_if_eq (tgt := 154) hx hb dX2_scan_146 (by decide) (by omega) (fun q_146 => ?_) (fun q_146 => ?_)
              · refine lv_iload hx hb dX2_scan_154 (lv_at hl 0 rfl) ?_
                refine lv_bipush (v := nI 32) hx hb dX2_scan_156 (by decide) ?_
                refine nv_icmp_ne (tgt := 175) hx hb dX2_scan_158 (by decide) (by omega) (by omega) (fun q_158 => ?_) (fun q_158 => ?_)
                · refine lv_iload hx hb dX2_scan_175 (lv_at hl 7 rfl) ?_
                  have hr1 : scRun b na hw g (i + 1) = (some (i), pl, st, wd, fo, gg) := sc_one hrun (by unfold scStep; rw [if_neg (by omega), if_neg (by omega), if_neg (by omega)])
                  have hr2 : scRun b na hw g ln = (some (i), pl, st, wd, fo, gg) := sc_stop hr1 (by omega)
                  have hP : va_P D vwCl (wTx h a cI (nF b) ln (nF (scRun b na hw g ln).2.2.2.2.2) ((scRun b na hw g ln).2.2.2.2.1)) H := by rw [hr2]; exact hP
                  have hD : va_D A (wTx h a cI (nF b) ln (nF (scRun b na hw g ln).2.2.2.2.2) ((scRun b na hw g ln).2.2.2.2.1)) := by rw [hr2]; exact hD
                  exact mu_reti hx hb hr hlocks (scRes_some hr2) hP hD hS dX2_scan_177
                · refine lv_iload_n hx hb dX2_scan_161 rfl (lv_at hl 4 rfl) ?_
                  refine lv_iconst (v := nI 1) hx hb dX2_scan_162 (by decide) ?_
                  refine nv_icmp_ne (tgt := 170) hx hb dX2_scan_163 (by decide) (by omega) (by omega) (fun q_163 => ?_) (fun q_163 => ?_)
                  · refine lv_iload_n hx hb dX2_scan_170 rfl (lv_at hl 4 rfl) ?_
                    refine lv_istore_n (lv' := [(3, .int (nI pl)), (7, .int (nI (b i))), (0, .ref h), (1, .int (nI na)), (2, .int (nI hw)), (4, .int (nI st)), (5, .int (nI wd)), (6, .int (nI i))]) hx hb dX2_scan_171 rfl hl (by decide) rfl (fun ls hl => ?_)
                    refine lv_goto (tgt := 178) hx hb dX2_scan_172 (by decide) ?_
                    refine nv_inc (k := 7) (lv' := [(6, .int (nI (i + 1))), (3, .int (nI pl)), (7, .int (nI (b i))), (0, .ref h), (1, .int (nI na)), (2, .int (nI hw)), (4, .int (nI st)), (5, .int (nI wd))]) hx hb dX2_scan_178 hl rfl (by decide) rfl (fun ls hl => ?_)
                    refine lv_goto (tgt := 16) hx hb dX2_scan_181 (by decide) ?_
                    exact ih16 (i + 1) pl st wd fo gg (by omega) (by omega) (sc_one hrun (by unfold scStep; rw [if_neg (by omega), if_neg (by omega), if_pos (by omega), if_neg (by omega)])) (by omega) (by omega) (by omega) (by omega) (by omega) _ _ hP hD hS ls (lv_sub hl [3, 4, 5, 1, 6, 7, 0] rfl)
                  · refine lv_iconst (v := nI 2) hx hb dX2_scan_166 (by decide) ?_
                    refine lv_goto (tgt := 171) hx hb dX2_scan_167 (by decide) ?_
                    refine lv_istore_n (lv' := [(3, .int (nI 2)), (7, .int (nI (b i))), (0, .ref h), (1, .int (nI na)), (2, .int (nI hw)), (4, .int (nI st)), (5, .int (nI wd)), (6, .int (nI i))]) hx hb dX2_scan_171 rfl hl (by decide) rfl (fun ls hl => ?_)
                    refine lv_goto (tgt := 178) hx hb dX2_scan_172 (by decide) ?_
                    refine nv_inc (k := 7) (lv' := [(6, .int (nI (i + 1))), (3, .int (nI 2)), (7, .int (nI (b i))), (0, .ref h), (1, .int (nI na)), (2, .int (nI hw)), (4, .int (nI st)), (5, .int (nI wd))]) hx hb dX2_scan_178 hl rfl (by decide) rfl (fun ls hl => ?_)
                    refine lv_goto (tgt := 16) hx hb dX2_scan_181 (by decide) ?_
                    exact ih16 (i + 1) 2 st wd fo gg (by omega) (by omega) (sc_one hrun (by unfold scStep; rw [if_neg (by omega), if_neg (by omega), if_pos (by omega), if_pos (by omega)])) (by omega) (by omega) (by omega) (by omega) (by omega) _ _ hP hD hS ls (lv_sub hl [3, 4, 5, 1, 6, 7, 0] rfl)
              · refine lv_iconst (v := nI 0) hx hb dX2_scan_149 (by decide) ?_
                refine lv_istore_n (lv' := [(3, .int (nI 0)), (7, .int (nI (b i))), (0, .ref h), (1, .int (nI na)), (2, .int (nI hw)), (4, .int (nI st)), (5, .int (nI wd)), (6, .int (nI i))]) hx hb dX2_scan_150 rfl hl (by decide) rfl (fun ls hl => ?_)
                refine lv_goto (tgt := 178) hx hb dX2_scan_151 (by decide) ?_
                refine nv_inc (k := 7) (lv' := [(6, .int (nI (i + 1))), (3, .int (nI 0)), (7, .int (nI (b i))), (0, .ref h), (1, .int (nI na)), (2, .int (nI hw)), (4, .int (nI st)), (5, .int (nI wd))]) hx hb dX2_scan_178 hl rfl (by decide) rfl (fun ls hl => ?_)
                refine lv_goto (tgt := 16) hx hb dX2_scan_181 (by decide) ?_
                exact ih16 (i + 1) 0 st wd fo gg (by omega) (by omega) (sc_one hrun (by unfold scStep; rw [if_neg (by omega), if_pos (by omega)])) (by omega) (by omega) (by omega) (by omega) (by omega) _ _ hP hD hS ls (lv_sub hl [3, 4, 5, 1, 6, 7, 0] rfl)
          · refine lv_iload_n hx hb dX2_scan_48 rfl (lv_at hl 4 rfl) ?_
            refine lv_iconst (v := nI 2) hx hb dX2_scan_49 (by decide) ?_
            refine nv_icmp_eq (tgt := 65) hx hb dX2_scan_50 (by decide) (by omega) (by omega) (fun q_50 => ?_) (fun q_50 => ?_)
            · refine lv_iload hx hb dX2_scan_65 (lv_at hl 7 rfl) ?_
              have hr1 : scRun b na hw g (i + 1) = (some (i), pl, st, wd, fo, gg) := sc_one hrun (by unfold scStep; rw [if_pos (by omega), if_pos (by omega)])
              have hr2 : scRun b na hw g ln = (some (i), pl, st, wd, fo, gg) := sc_stop hr1 (by omega)
              have hP : va_P D vwCl (wTx h a cI (nF b) ln (nF (scRun b na hw g ln).2.2.2.2.2) ((scRun b na hw g ln).2.2.2.2.1)) H := by rw [hr2]; exact hP
              have hD : va_D A (wTx h a cI (nF b) ln (nF (scRun b na hw g ln).2.2.2.2.2) ((scRun b na hw g ln).2.2.2.2.1)) := by rw [hr2]; exact hD
              exact mu_reti hx hb hr hlocks (scRes_some hr2) hP hD hS dX2_scan_67
            · refine lv_iload_n hx hb dX2_scan_53 rfl (lv_at hl 4 rfl) ?_
              refine nv_if_ne (tgt := 68) hx hb dX2_scan_54 (by decide) (by omega) (fun q_54 => ?_) (fun q_54 => ?_)
              · refine lv_iload_n hx hb dX2_scan_68 rfl (lv_at hl 4 rfl) ?_
                refine nv_if_ne (tgt := 91) hx hb dX2_scan_69 (by decide) (by omega) (fun q_69 => ?_) (fun q_69 => ?_)
                · refine lv_bipush (v := nI 8) hx hb dX2_scan_91 (by decide) ?_
                  refine lv_iload hx hb dX2_scan_93 (lv_at hl 6 rfl) ?_
                  refine nv_imul hx hb dX2_scan_95 ?_
                  refine lv_iload hx hb dX2_scan_96 (lv_at hl 0 rfl) ?_
                  refine nv_iadd hx hb dX2_scan_98 ?_
                  refine lv_bipush (v := nI 48) hx hb dX2_scan_99 (by decide) ?_
                  refine nv_isub hx hb dX2_scan_101 (by omega) ?_
                  refine lv_istore (lv' := [(5, .int (nI (((8 * wd) + (b i)) - 48))), (7, .int (nI (b i))), (0, .ref h), (1, .int (nI na)), (2, .int (nI hw)), (3, .int (nI pl)), (4, .int (nI st)), (6, .int (nI i))]) hx hb dX2_scan_102 hl (by decide) rfl (fun ls hl => ?_)
                  refine lv_iload hx hb dX2_scan_104 (lv_at hl 7 rfl) ?_
                  refine lv_iload hx hb dX2_scan_106 (lv_at hl 6 rfl) ?_
                  refine nv_isub hx hb dX2_scan_108 (by omega) ?_
                  refine lv_iconst (v := nI 4) hx hb dX2_scan_109 (by decide) ?_
                  refine nv_icmp_ge (tgt := 119) hx hb dX2_scan_110 (by decide) (by omega) (by omega) (fun q_110 => ?_) (fun q_110 => ?_)
                  · refine lv_iload hx hb dX2_scan_119 (lv_at hl 6 rfl) ?_
                    have hr1 : scRun b na hw g (i + 1) = (some (st), pl, st, ((8 * wd) + (b i)) - 48, fo, gg) := sc_one hrun (by unfold scStep; rw [if_pos (by omega), if_neg (by omega), if_neg (by omega), if_pos (by omega)])
                    have hr2 : scRun b na hw g ln = (some (st), pl, st, ((8 * wd) + (b i)) - 48, fo, gg) := sc_stop hr1 (by omega)
                    have hP : va_P D vwCl (wTx h a cI (nF b) ln (nF (scRun b na hw g ln).2.2.2.2.2) ((scRun b na hw g ln).2.2.2.2.1)) H := by rw [hr2]; exact hP
                    have hD : va_D A (wTx h a cI (nF b) ln (nF (scRun b na hw g ln).2.2.2.2.2) ((scRun b na hw g ln).2.2.2.2.1)) := by rw [hr2]; exact hD
                    exact mu_reti hx hb hr hlocks (scRes_some hr2) hP hD hS dX2_scan_121
                  · refine lv_iload hx hb dX2_scan_113 (lv_at hl 0 rfl) ?_
                    refine lv_iload_n hx hb dX2_scan_115 rfl (lv_at hl 4 rfl) ?_
                    refine nv_icmp_le (tgt := 122) hx hb dX2_scan_116 (by decide) (by omega) (by omega) (fun q_116 => ?_) (fun q_116 => ?_)
                    · refine lv_aload_n hx hb dX2_scan_122 rfl (lv_at hl 2 rfl) ?_
                      refine va_get (D := D) (ci := 2) (v := .ref (a 1)) (C := RX2) (T := TX2) (N := 4) hx hb hts inX2 hown hK hP 0 rfl rfl 2 (by decide) (hts _ fl_RX2_15) (fun _ h9 => h9) rfl dX2_scan_123 ?_
                      refine lv_aload_n hx hb dX2_scan_126 rfl (lv_at hl 2 rfl) ?_
                      refine va_get (D := D) (ci := 2) (v := .int (nI fo)) (C := RX2) (T := TX2) (N := 4) hx hb hts inX2 hown hK hP 0 rfl rfl 3 (by decide) (hts _ fl_RX2_22) (fun _ h9 => h9) rfl dX2_scan_127 ?_
                      refine lv_iconst (v := nI 1) hx hb dX2_scan_130 (by decide) ?_
                      refine nv_isub hx hb dX2_scan_131 (by omega) ?_
                      refine lv_iload hx hb dX2_scan_132 (lv_at hl 0 rfl) ?_
                      refine nv_iast (D := D) (ws' := (wTx h a cI (nF b) ln (upd (nF gg) (fo - 1) (nI (((8 * wd) + (b i)) - 48))) fo)) hx hb hK hP hD hS 2 0 rfl rfl (k := fo - 1) (by omega) (by decide) rfl dX2_scan_134 (fun H locs hP hD hS => ?_)
                      have eR : (upd (nF gg) (fo - 1) (nI (((8 * wd) + (b i)) - 48))) = (nF (va_up gg (fo - 1) (((8 * wd) + (b i)) - 48))) := upd_nF _ _ _
                      rw [eR] at hP hD
                      have hP : va_P D vwCl (wTx h a cI (nF b) ln (nF (va_up gg (fo - 1) (((8 * wd) + (b i)) - 48))) fo) H := hP
                      have hD : va_D A (wTx h a cI (nF b) ln (nF (va_up gg (fo - 1) (((8 * wd) + (b i)) - 48))) fo) := hD
                      refine lv_goto (tgt := 178) hx hb dX2_scan_135 (by decide) ?_
                      refine nv_inc (k := 7) (lv' := [(6, .int (nI (i + 1))), (5, .int (nI (((8 * wd) + (b i)) - 48))), (7, .int (nI (b i))), (0, .ref h), (1, .int (nI na)), (2, .int (nI hw)), (3, .int (nI pl)), (4, .int (nI st))]) hx hb dX2_scan_178 hl rfl (by decide) rfl (fun ls hl => ?_)
                      refine lv_goto (tgt := 16) hx hb dX2_scan_181 (by decide) ?_
                      exact ih16 (i + 1) pl st (((8 * wd) + (b i)) - 48) fo ((va_up gg (fo - 1) (((8 * wd) + (b i)) - 48))) (by omega) (by omega) (sc_one hrun (by unfold scStep; rw [if_pos (by omega), if_neg (by omega), if_neg (by omega), if_neg (by omega)])) (by omega) (by omega) (by omega) (by omega) (by omega) _ _ hP hD hS ls (lv_sub hl [3, 4, 5, 6, 7, 1, 0] rfl)
                    · refine lv_iload hx hb dX2_scan_119 (lv_at hl 6 rfl) ?_
                      have hr1 : scRun b na hw g (i + 1) = (some (st), pl, st, ((8 * wd) + (b i)) - 48, fo, gg) := sc_one hrun (by unfold scStep; rw [if_pos (by omega), if_neg (by omega), if_neg (by omega), if_pos (by omega)])
                      have hr2 : scRun b na hw g ln = (some (st), pl, st, ((8 * wd) + (b i)) - 48, fo, gg) := sc_stop hr1 (by omega)
                      have hP : va_P D vwCl (wTx h a cI (nF b) ln (nF (scRun b na hw g ln).2.2.2.2.2) ((scRun b na hw g ln).2.2.2.2.1)) H := by rw [hr2]; exact hP
                      have hD : va_D A (wTx h a cI (nF b) ln (nF (scRun b na hw g ln).2.2.2.2.2) ((scRun b na hw g ln).2.2.2.2.1)) := by rw [hr2]; exact hD
                      exact mu_reti hx hb hr hlocks (scRes_some hr2) hP hD hS dX2_scan_121
                · refine lv_iconst (v := nI 1) hx hb dX2_scan_72 (by decide) ?_
                  refine lv_istore_n (lv' := [(3, .int (nI 1)), (7, .int (nI (b i))), (0, .ref h), (1, .int (nI na)), (2, .int (nI hw)), (4, .int (nI st)), (5, .int (nI wd)), (6, .int (nI i))]) hx hb dX2_scan_73 rfl hl (by decide) rfl (fun ls hl => ?_)
                  refine lv_iload hx hb dX2_scan_74 (lv_at hl 7 rfl) ?_
                  refine lv_istore (lv' := [(4, .int (nI i)), (3, .int (nI 1)), (7, .int (nI (b i))), (0, .ref h), (1, .int (nI na)), (2, .int (nI hw)), (5, .int (nI wd)), (6, .int (nI i))]) hx hb dX2_scan_76 hl (by decide) rfl (fun ls hl => ?_)
                  refine lv_iconst (v := nI 0) hx hb dX2_scan_78 (by decide) ?_
                  refine lv_istore (lv' := [(5, .int (nI 0)), (4, .int (nI i)), (3, .int (nI 1)), (7, .int (nI (b i))), (0, .ref h), (1, .int (nI na)), (2, .int (nI hw)), (6, .int (nI i))]) hx hb dX2_scan_79 hl (by decide) rfl (fun ls hl => ?_)
                  refine lv_aload_n hx hb dX2_scan_81 rfl (lv_at hl 4 rfl) ?_
                  refine lv_dup hx hb dX2_scan_82 rfl ?_
                  refine va_get (D := D) (ci := 2) (v := .int (nI fo)) (C := RX2) (T := TX2) (N := 4) hx hb hts inX2 hown hK hP 0 rfl rfl 3 (by decide) (hts _ fl_RX2_22) (fun _ h9 => h9) rfl dX2_scan_83 ?_
                  refine lv_iconst (v := nI 1) hx hb dX2_scan_86 (by decide) ?_
                  refine nv_iadd hx hb dX2_scan_87 ?_
                  refine va_put (D := D) (ci := 2) (v := .int (nI (fo + 1))) (ty := .int) (C := RX2) (T := TX2) (N := 4) hx hb hts inX2 tyX2 tyX2_ok nmX2 hown hK hP hD hS 0 rfl rfl 3 (by decide) (hts _ fl_RX2_22) (fun _ h9 => h9) rfl (by decide +kernel) rfl rfl (Nat.le_of_ble_eq_true rfl) dX2_scan_88 (fun H locs hP hD hS => ?_)
                  have hP : va_P D vwCl (wTx h a cI (nF b) ln (nF gg) (fo + 1)) H := hP
                  have hD : va_D A (wTx h a cI (nF b) ln (nF gg) (fo + 1)) := hD
                  refine lv_bipush (v := nI 8) hx hb dX2_scan_91 (by decide) ?_
                  refine lv_iload hx hb dX2_scan_93 (lv_at hl 0 rfl) ?_
                  refine nv_imul hx hb dX2_scan_95 ?_
                  refine lv_iload hx hb dX2_scan_96 (lv_at hl 3 rfl) ?_
                  refine nv_iadd hx hb dX2_scan_98 ?_
                  refine lv_bipush (v := nI 48) hx hb dX2_scan_99 (by decide) ?_
                  refine nv_isub hx hb dX2_scan_101 (by omega) ?_
                  refine lv_istore (lv' := [(5, .int (nI (((8 * 0) + (b i)) - 48))), (4, .int (nI i)), (3, .int (nI 1)), (7, .int (nI (b i))), (0, .ref h), (1, .int (nI na)), (2, .int (nI hw)), (6, .int (nI i))]) hx hb dX2_scan_102 hl (by decide) rfl (fun ls hl => ?_)
                  refine lv_iload hx hb dX2_scan_104 (lv_at hl 7 rfl) ?_
                  refine lv_iload hx hb dX2_scan_106 (lv_at hl 1 rfl) ?_
                  refine nv_isub hx hb dX2_scan_108 (by omega) ?_
                  refine lv_iconst (v := nI 4) hx hb dX2_scan_109 (by decide) ?_
                  refine nv_icmp_ge (tgt := 119) hx hb dX2_scan_110 (by decide) (by omega) (by omega) (fun q_110 => ?_) (fun q_110 => ?_)
                  · refine lv_iload hx hb dX2_scan_119 (lv_at hl 1 rfl) ?_
                    have hr1 : scRun b na hw g (i + 1) = (some (i), 1, i, ((8 * 0) + (b i)) - 48, fo + 1, gg) := sc_one hrun (by unfold scStep; rw [if_pos (by omega), if_neg (by omega), if_pos (by omega), if_pos (by omega)])
                    have hr2 : scRun b na hw g ln = (some (i), 1, i, ((8 * 0) + (b i)) - 48, fo + 1, gg) := sc_stop hr1 (by omega)
                    have hP : va_P D vwCl (wTx h a cI (nF b) ln (nF (scRun b na hw g ln).2.2.2.2.2) ((scRun b na hw g ln).2.2.2.2.1)) H := by rw [hr2]; exact hP
                    have hD : va_D A (wTx h a cI (nF b) ln (nF (scRun b na hw g ln).2.2.2.2.2) ((scRun b na hw g ln).2.2.2.2.1)) := by rw [hr2]; exact hD
                    exact mu_reti hx hb hr hlocks (scRes_some hr2) hP hD hS dX2_scan_121
                  · refine lv_iload hx hb dX2_scan_113 (lv_at hl 0 rfl) ?_
                    refine lv_iload_n hx hb dX2_scan_115 rfl (lv_at hl 6 rfl) ?_
                    refine nv_icmp_le (tgt := 122) hx hb dX2_scan_116 (by decide) (by omega) (by omega) (fun q_116 => ?_) (fun q_116 => ?_)
                    · refine lv_aload_n hx hb dX2_scan_122 rfl (lv_at hl 4 rfl) ?_
                      refine va_get (D := D) (ci := 2) (v := .ref (a 1)) (C := RX2) (T := TX2) (N := 4) hx hb hts inX2 hown hK hP 0 rfl rfl 2 (by decide) (hts _ fl_RX2_15) (fun _ h9 => h9) rfl dX2_scan_123 ?_
                      refine lv_aload_n hx hb dX2_scan_126 rfl (lv_at hl 4 rfl) ?_
                      refine va_get (D := D) (ci := 2) (v := .int (nI (fo + 1))) (C := RX2) (T := TX2) (N := 4) hx hb hts inX2 hown hK hP 0 rfl rfl 3 (by decide) (hts _ fl_RX2_22) (fun _ h9 => h9) rfl dX2_scan_127 ?_
                      refine lv_iconst (v := nI 1) hx hb dX2_scan_130 (by decide) ?_
                      refine nv_isub hx hb dX2_scan_131 (by omega) ?_
                      refine lv_iload hx hb dX2_scan_132 (lv_at hl 0 rfl) ?_
                      refine nv_iast (D := D) (ws' := (wTx h a cI (nF b) ln (upd (nF gg) ((fo + 1) - 1) (nI (((8 * 0) + (b i)) - 48))) (fo + 1))) hx hb hK hP hD hS 2 0 rfl rfl (k := (fo + 1) - 1) (by omega) (by decide) rfl dX2_scan_134 (fun H locs hP hD hS => ?_)
                      have eR : (upd (nF gg) ((fo + 1) - 1) (nI (((8 * 0) + (b i)) - 48))) = (nF (va_up gg ((fo + 1) - 1) (((8 * 0) + (b i)) - 48))) := upd_nF _ _ _
                      rw [eR] at hP hD
                      have hP : va_P D vwCl (wTx h a cI (nF b) ln (nF (va_up gg ((fo + 1) - 1) (((8 * 0) + (b i)) - 48))) (fo + 1)) H := hP
                      have hD : va_D A (wTx h a cI (nF b) ln (nF (va_up gg ((fo + 1) - 1) (((8 * 0) + (b i)) - 48))) (fo + 1)) := hD
                      refine lv_goto (tgt := 178) hx hb dX2_scan_135 (by decide) ?_
                      refine nv_inc (k := 7) (lv' := [(6, .int (nI (i + 1))), (5, .int (nI (((8 * 0) + (b i)) - 48))), (4, .int (nI i)), (3, .int (nI 1)), (7, .int (nI (b i))), (0, .ref h), (1, .int (nI na)), (2, .int (nI hw))]) hx hb dX2_scan_178 hl rfl (by decide) rfl (fun ls hl => ?_)
                      refine lv_goto (tgt := 16) hx hb dX2_scan_181 (by decide) ?_
                      exact ih16 (i + 1) 1 i (((8 * 0) + (b i)) - 48) (fo + 1) ((va_up gg ((fo + 1) - 1) (((8 * 0) + (b i)) - 48))) (by omega) (by omega) (sc_one hrun (by unfold scStep; rw [if_pos (by omega), if_neg (by omega), if_pos (by omega), if_neg (by omega)])) (by omega) (by omega) (by omega) (by omega) (by omega) _ _ hP hD hS ls (lv_sub hl [5, 6, 7, 3, 2, 1, 0] rfl)
                    · refine lv_iload hx hb dX2_scan_119 (lv_at hl 1 rfl) ?_
                      have hr1 : scRun b na hw g (i + 1) = (some (i), 1, i, ((8 * 0) + (b i)) - 48, fo + 1, gg) := sc_one hrun (by unfold scStep; rw [if_pos (by omega), if_neg (by omega), if_pos (by omega), if_pos (by omega)])
                      have hr2 : scRun b na hw g ln = (some (i), 1, i, ((8 * 0) + (b i)) - 48, fo + 1, gg) := sc_stop hr1 (by omega)
                      have hP : va_P D vwCl (wTx h a cI (nF b) ln (nF (scRun b na hw g ln).2.2.2.2.2) ((scRun b na hw g ln).2.2.2.2.1)) H := by rw [hr2]; exact hP
                      have hD : va_D A (wTx h a cI (nF b) ln (nF (scRun b na hw g ln).2.2.2.2.2) ((scRun b na hw g ln).2.2.2.2.1)) := by rw [hr2]; exact hD
                      exact mu_reti hx hb hr hlocks (scRes_some hr2) hP hD hS dX2_scan_121
              · refine lv_aload_n hx hb dX2_scan_57 rfl (lv_at hl 1 rfl) ?_
                refine va_get (D := D) (ci := 2) (v := .int (nI fo)) (C := RX2) (T := TX2) (N := 4) hx hb hts inX2 hown hK hP 0 rfl rfl 3 (by decide) (hts _ fl_RX2_22) (fun _ h9 => h9) rfl dX2_scan_58 ?_
                refine lv_iload_n hx hb dX2_scan_61 rfl (lv_at hl 2 rfl) ?_
                refine nv_icmp_ne (tgt := 68) hx hb dX2_scan_62 (by decide) (by omega) (by omega) (fun q_62 => ?_) (fun q_62 => ?_)
                · refine lv_iload_n hx hb dX2_scan_68 rfl (lv_at hl 4 rfl) ?_
                  refine nv_if_ne (tgt := 91) hx hb dX2_scan_69 (by decide) (by omega) (fun q_69 => ?_) (fun q_69 => ?_)
                  · refine lv_bipush (v := nI 8) hx hb dX2_scan_91 (by decide) ?_
                    refine lv_iload hx hb dX2_scan_93 (lv_at hl 6 rfl) ?_
                    refine nv_imul hx hb dX2_scan_95 ?_
                    refine lv_iload hx hb dX2_scan_96 (lv_at hl 0 rfl) ?_
                    refine nv_iadd hx hb dX2_scan_98 ?_
                    refine lv_bipush (v := nI 48) hx hb dX2_scan_99 (by decide) ?_
                    refine nv_isub hx hb dX2_scan_101 (by omega) ?_
                    refine lv_istore (lv' := [(5, .int (nI (((8 * wd) + (b i)) - 48))), (7, .int (nI (b i))), (0, .ref h), (1, .int (nI na)), (2, .int (nI hw)), (3, .int (nI pl)), (4, .int (nI st)), (6, .int (nI i))]) hx hb dX2_scan_102 hl (by decide) rfl (fun ls hl => ?_)
                    refine lv_iload hx hb dX2_scan_104 (lv_at hl 7 rfl) ?_
                    refine lv_iload hx hb dX2_scan_106 (lv_at hl 6 rfl) ?_
                    refine nv_isub hx hb dX2_scan_108 (by omega) ?_
                    refine lv_iconst (v := nI 4) hx hb dX2_scan_109 (by decide) ?_
                    refine nv_icmp_ge (tgt := 119) hx hb dX2_scan_110 (by decide) (by omega) (by omega) (fun q_110 => ?_) (fun q_110 => ?_)
                    · refine lv_iload hx hb dX2_scan_119 (lv_at hl 6 rfl) ?_
                      have hr1 : scRun b na hw g (i + 1) = (some (st), pl, st, ((8 * wd) + (b i)) - 48, fo, gg) := sc_one hrun (by unfold scStep; rw [if_pos (by omega), if_neg (by omega), if_neg (by omega), if_pos (by omega)])
                      have hr2 : scRun b na hw g ln = (some (st), pl, st, ((8 * wd) + (b i)) - 48, fo, gg) := sc_stop hr1 (by omega)
                      have hP : va_P D vwCl (wTx h a cI (nF b) ln (nF (scRun b na hw g ln).2.2.2.2.2) ((scRun b na hw g ln).2.2.2.2.1)) H := by rw [hr2]; exact hP
                      have hD : va_D A (wTx h a cI (nF b) ln (nF (scRun b na hw g ln).2.2.2.2.2) ((scRun b na hw g ln).2.2.2.2.1)) := by rw [hr2]; exact hD
                      exact mu_reti hx hb hr hlocks (scRes_some hr2) hP hD hS dX2_scan_121
                    · refine lv_iload hx hb dX2_scan_113 (lv_at hl 0 rfl) ?_
                      refine lv_iload_n hx hb dX2_scan_115 rfl (lv_at hl 4 rfl) ?_
                      refine nv_icmp_le (tgt := 122) hx hb dX2_scan_116 (by decide) (by omega) (by omega) (fun q_116 => ?_) (fun q_116 => ?_)
                      · refine lv_aload_n hx hb dX2_scan_122 rfl (lv_at hl 2 rfl) ?_
                        refine va_get (D := D) (ci := 2) (v := .ref (a 1)) (C := RX2) (T := TX2) (N := 4) hx hb hts inX2 hown hK hP 0 rfl rfl 2 (by decide) (hts _ fl_RX2_15) (fun _ h9 => h9) rfl dX2_scan_123 ?_
                        refine lv_aload_n hx hb dX2_scan_126 rfl (lv_at hl 2 rfl) ?_
                        refine va_get (D := D) (ci := 2) (v := .int (nI fo)) (C := RX2) (T := TX2) (N := 4) hx hb hts inX2 hown hK hP 0 rfl rfl 3 (by decide) (hts _ fl_RX2_22) (fun _ h9 => h9) rfl dX2_scan_127 ?_
                        refine lv_iconst (v := nI 1) hx hb dX2_scan_130 (by decide) ?_
                        refine nv_isub hx hb dX2_scan_131 (by omega) ?_
                        refine lv_iload hx hb dX2_scan_132 (lv_at hl 0 rfl) ?_
                        refine nv_iast (D := D) (ws' := (wTx h a cI (nF b) ln (upd (nF gg) (fo - 1) (nI (((8 * wd) + (b i)) - 48))) fo)) hx hb hK hP hD hS 2 0 rfl rfl (k := fo - 1) (by omega) (by decide) rfl dX2_scan_134 (fun H locs hP hD hS => ?_)
                        have eR : (upd (nF gg) (fo - 1) (nI (((8 * wd) + (b i)) - 48))) = (nF (va_up gg (fo - 1) (((8 * wd) + (b i)) - 48))) := upd_nF _ _ _
                        rw [eR] at hP hD
                        have hP : va_P D vwCl (wTx h a cI (nF b) ln (nF (va_up gg (fo - 1) (((8 * wd) + (b i)) - 48))) fo) H := hP
                        have hD : va_D A (wTx h a cI (nF b) ln (nF (va_up gg (fo - 1) (((8 * wd) + (b i)) - 48))) fo) := hD
                        refine lv_goto (tgt := 178) hx hb dX2_scan_135 (by decide) ?_
                        refine nv_inc (k := 7) (lv' := [(6, .int (nI (i + 1))), (5, .int (nI (((8 * wd) + (b i)) - 48))), (7, .int (nI (b i))), (0, .ref h), (1, .int (nI na)), (2, .int (nI hw)), (3, .int (nI pl)), (4, .int (nI st))]) hx hb dX2_scan_178 hl rfl (by decide) rfl (fun ls hl => ?_)
                        refine lv_goto (tgt := 16) hx hb dX2_scan_181 (by decide) ?_
                        exact ih16 (i + 1) pl st (((8 * wd) + (b i)) - 48) fo ((va_up gg (fo - 1) (((8 * wd) + (b i)) - 48))) (by omega) (by omega) (sc_one hrun (by unfold scStep; rw [if_pos (by omega), if_neg (by omega), if_neg (by omega), if_neg (by omega)])) (by omega) (by omega) (by omega) (by omega) (by omega) _ _ hP hD hS ls (lv_sub hl [3, 4, 5, 6, 7, 1, 0] rfl)
                      · refine lv_iload hx hb dX2_scan_119 (lv_at hl 6 rfl) ?_
                        have hr1 : scRun b na hw g (i + 1) = (some (st), pl, st, ((8 * wd) + (b i)) - 48, fo, gg) := sc_one hrun (by unfold scStep; rw [if_pos (by omega), if_neg (by omega), if_neg (by omega), if_pos (by omega)])
                        have hr2 : scRun b na hw g ln = (some (st), pl, st, ((8 * wd) + (b i)) - 48, fo, gg) := sc_stop hr1 (by omega)
                        have hP : va_P D vwCl (wTx h a cI (nF b) ln (nF (scRun b na hw g ln).2.2.2.2.2) ((scRun b na hw g ln).2.2.2.2.1)) H := by rw [hr2]; exact hP
                        have hD : va_D A (wTx h a cI (nF b) ln (nF (scRun b na hw g ln).2.2.2.2.2) ((scRun b na hw g ln).2.2.2.2.1)) := by rw [hr2]; exact hD
                        exact mu_reti hx hb hr hlocks (scRes_some hr2) hP hD hS dX2_scan_121
                  · refine lv_iconst (v := nI 1) hx hb dX2_scan_72 (by decide) ?_
                    refine lv_istore_n (lv' := [(3, .int (nI 1)), (7, .int (nI (b i))), (0, .ref h), (1, .int (nI na)), (2, .int (nI hw)), (4, .int (nI st)), (5, .int (nI wd)), (6, .int (nI i))]) hx hb dX2_scan_73 rfl hl (by decide) rfl (fun ls hl => ?_)
                    refine lv_iload hx hb dX2_scan_74 (lv_at hl 7 rfl) ?_
                    refine lv_istore (lv' := [(4, .int (nI i)), (3, .int (nI 1)), (7, .int (nI (b i))), (0, .ref h), (1, .int (nI na)), (2, .int (nI hw)), (5, .int (nI wd)), (6, .int (nI i))]) hx hb dX2_scan_76 hl (by decide) rfl (fun ls hl => ?_)
                    refine lv_iconst (v := nI 0) hx hb dX2_scan_78 (by decide) ?_
                    refine lv_istore (lv' := [(5, .int (nI 0)), (4, .int (nI i)), (3, .int (nI 1)), (7, .int (nI (b i))), (0, .ref h), (1, .int (nI na)), (2, .int (nI hw)), (6, .int (nI i))]) hx hb dX2_scan_79 hl (by decide) rfl (fun ls hl => ?_)
                    refine lv_aload_n hx hb dX2_scan_81 rfl (lv_at hl 4 rfl) ?_
                    refine lv_dup hx hb dX2_scan_82 rfl ?_
                    refine va_get (D := D) (ci := 2) (v := .int (nI fo)) (C := RX2) (T := TX2) (N := 4) hx hb hts inX2 hown hK hP 0 rfl rfl 3 (by decide) (hts _ fl_RX2_22) (fun _ h9 => h9) rfl dX2_scan_83 ?_
                    refine lv_iconst (v := nI 1) hx hb dX2_scan_86 (by decide) ?_
                    refine nv_iadd hx hb dX2_scan_87 ?_
                    refine va_put (D := D) (ci := 2) (v := .int (nI (fo + 1))) (ty := .int) (C := RX2) (T := TX2) (N := 4) hx hb hts inX2 tyX2 tyX2_ok nmX2 hown hK hP hD hS 0 rfl rfl 3 (by decide) (hts _ fl_RX2_22) (fun _ h9 => h9) rfl (by decide +kernel) rfl rfl (Nat.le_of_ble_eq_true rfl) dX2_scan_88 (fun H locs hP hD hS => ?_)
                    have hP : va_P D vwCl (wTx h a cI (nF b) ln (nF gg) (fo + 1)) H := hP
                    have hD : va_D A (wTx h a cI (nF b) ln (nF gg) (fo + 1)) := hD
                    refine lv_bipush (v := nI 8) hx hb dX2_scan_91 (by decide) ?_
                    refine lv_iload hx hb dX2_scan_93 (lv_at hl 0 rfl) ?_
                    refine nv_imul hx hb dX2_scan_95 ?_
                    refine lv_iload hx hb dX2_scan_96 (lv_at hl 3 rfl) ?_
                    refine nv_iadd hx hb dX2_scan_98 ?_
                    refine lv_bipush (v := nI 48) hx hb dX2_scan_99 (by decide) ?_
                    refine nv_isub hx hb dX2_scan_101 (by omega) ?_
                    refine lv_istore (lv' := [(5, .int (nI (((8 * 0) + (b i)) - 48))), (4, .int (nI i)), (3, .int (nI 1)), (7, .int (nI (b i))), (0, .ref h), (1, .int (nI na)), (2, .int (nI hw)), (6, .int (nI i))]) hx hb dX2_scan_102 hl (by decide) rfl (fun ls hl => ?_)
                    refine lv_iload hx hb dX2_scan_104 (lv_at hl 7 rfl) ?_
                    refine lv_iload hx hb dX2_scan_106 (lv_at hl 1 rfl) ?_
                    refine nv_isub hx hb dX2_scan_108 (by omega) ?_
                    refine lv_iconst (v := nI 4) hx hb dX2_scan_109 (by decide) ?_
                    refine nv_icmp_ge (tgt := 119) hx hb dX2_scan_110 (by decide) (by omega) (by omega) (fun q_110 => ?_) (fun q_110 => ?_)
                    · refine lv_iload hx hb dX2_scan_119 (lv_at hl 1 rfl) ?_
                      have hr1 : scRun b na hw g (i + 1) = (some (i), 1, i, ((8 * 0) + (b i)) - 48, fo + 1, gg) := sc_one hrun (by unfold scStep; rw [if_pos (by omega), if_neg (by omega), if_pos (by omega), if_pos (by omega)])
                      have hr2 : scRun b na hw g ln = (some (i), 1, i, ((8 * 0) + (b i)) - 48, fo + 1, gg) := sc_stop hr1 (by omega)
                      have hP : va_P D vwCl (wTx h a cI (nF b) ln (nF (scRun b na hw g ln).2.2.2.2.2) ((scRun b na hw g ln).2.2.2.2.1)) H := by rw [hr2]; exact hP
                      have hD : va_D A (wTx h a cI (nF b) ln (nF (scRun b na hw g ln).2.2.2.2.2) ((scRun b na hw g ln).2.2.2.2.1)) := by rw [hr2]; exact hD
                      exact mu_reti hx hb hr hlocks (scRes_some hr2) hP hD hS dX2_scan_121
                    · refine lv_iload hx hb dX2_scan_113 (lv_at hl 0 rfl) ?_
                      refine lv_iload_n hx hb dX2_scan_115 rfl (lv_at hl 6 rfl) ?_
                      refine nv_icmp_le (tgt := 122) hx hb dX2_scan_116 (by decide) (by omega) (by omega) (fun q_116 => ?_) (fun q_116 => ?_)
                      · refine lv_aload_n hx hb dX2_scan_122 rfl (lv_at hl 4 rfl) ?_
                        refine va_get (D := D) (ci := 2) (v := .ref (a 1)) (C := RX2) (T := TX2) (N := 4) hx hb hts inX2 hown hK hP 0 rfl rfl 2 (by decide) (hts _ fl_RX2_15) (fun _ h9 => h9) rfl dX2_scan_123 ?_
                        refine lv_aload_n hx hb dX2_scan_126 rfl (lv_at hl 4 rfl) ?_
                        refine va_get (D := D) (ci := 2) (v := .int (nI (fo + 1))) (C := RX2) (T := TX2) (N := 4) hx hb hts inX2 hown hK hP 0 rfl rfl 3 (by decide) (hts _ fl_RX2_22) (fun _ h9 => h9) rfl dX2_scan_127 ?_
                        refine lv_iconst (v := nI 1) hx hb dX2_scan_130 (by decide) ?_
                        refine nv_isub hx hb dX2_scan_131 (by omega) ?_
                        refine lv_iload hx hb dX2_scan_132 (lv_at hl 0 rfl) ?_
                        refine nv_iast (D := D) (ws' := (wTx h a cI (nF b) ln (upd (nF gg) ((fo + 1) - 1) (nI (((8 * 0) + (b i)) - 48))) (fo + 1))) hx hb hK hP hD hS 2 0 rfl rfl (k := (fo + 1) - 1) (by omega) (by decide) rfl dX2_scan_134 (fun H locs hP hD hS => ?_)
                        have eR : (upd (nF gg) ((fo + 1) - 1) (nI (((8 * 0) + (b i)) - 48))) = (nF (va_up gg ((fo + 1) - 1) (((8 * 0) + (b i)) - 48))) := upd_nF _ _ _
                        rw [eR] at hP hD
                        have hP : va_P D vwCl (wTx h a cI (nF b) ln (nF (va_up gg ((fo + 1) - 1) (((8 * 0) + (b i)) - 48))) (fo + 1)) H := hP
                        have hD : va_D A (wTx h a cI (nF b) ln (nF (va_up gg ((fo + 1) - 1) (((8 * 0) + (b i)) - 48))) (fo + 1)) := hD
                        refine lv_goto (tgt := 178) hx hb dX2_scan_135 (by decide) ?_
                        refine nv_inc (k := 7) (lv' := [(6, .int (nI (i + 1))), (5, .int (nI (((8 * 0) + (b i)) - 48))), (4, .int (nI i)), (3, .int (nI 1)), (7, .int (nI (b i))), (0, .ref h), (1, .int (nI na)), (2, .int (nI hw))]) hx hb dX2_scan_178 hl rfl (by decide) rfl (fun ls hl => ?_)
                        refine lv_goto (tgt := 16) hx hb dX2_scan_181 (by decide) ?_
                        exact ih16 (i + 1) 1 i (((8 * 0) + (b i)) - 48) (fo + 1) ((va_up gg ((fo + 1) - 1) (((8 * 0) + (b i)) - 48))) (by omega) (by omega) (sc_one hrun (by unfold scStep; rw [if_pos (by omega), if_neg (by omega), if_pos (by omega), if_neg (by omega)])) (by omega) (by omega) (by omega) (by omega) (by omega) _ _ hP hD hS ls (lv_sub hl [5, 6, 7, 3, 2, 1, 0] rfl)
                      · refine lv_iload hx hb dX2_scan_119 (lv_at hl 1 rfl) ?_
                        have hr1 : scRun b na hw g (i + 1) = (some (i), 1, i, ((8 * 0) + (b i)) - 48, fo + 1, gg) := sc_one hrun (by unfold scStep; rw [if_pos (by omega), if_neg (by omega), if_pos (by omega), if_pos (by omega)])
                        have hr2 : scRun b na hw g ln = (some (i), 1, i, ((8 * 0) + (b i)) - 48, fo + 1, gg) := sc_stop hr1 (by omega)
                        have hP : va_P D vwCl (wTx h a cI (nF b) ln (nF (scRun b na hw g ln).2.2.2.2.2) ((scRun b na hw g ln).2.2.2.2.1)) H := by rw [hr2]; exact hP
                        have hD : va_D A (wTx h a cI (nF b) ln (nF (scRun b na hw g ln).2.2.2.2.2) ((scRun b na hw g ln).2.2.2.2.1)) := by rw [hr2]; exact hD
                        exact mu_reti hx hb hr hlocks (scRes_some hr2) hP hD hS dX2_scan_121
                · refine lv_iload hx hb dX2_scan_65 (lv_at hl 7 rfl) ?_
                  have hr1 : scRun b na hw g (i + 1) = (some (i), pl, st, wd, fo, gg) := sc_one hrun (by unfold scStep; rw [if_pos (by omega), if_pos (by omega)])
                  have hr2 : scRun b na hw g ln = (some (i), pl, st, wd, fo, gg) := sc_stop hr1 (by omega)
                  have hP : va_P D vwCl (wTx h a cI (nF b) ln (nF (scRun b na hw g ln).2.2.2.2.2) ((scRun b na hw g ln).2.2.2.2.1)) H := by rw [hr2]; exact hP
                  have hD : va_D A (wTx h a cI (nF b) ln (nF (scRun b na hw g ln).2.2.2.2.2) ((scRun b na hw g ln).2.2.2.2.1)) := by rw [hr2]; exact hD
                  exact mu_reti hx hb hr hlocks (scRes_some hr2) hP hD hS dX2_scan_67
  exact L16 (ln + 1) 0 0 0 0 0 g (by omega) (by omega) (rfl) (by omega) (by omega) (by omega) (by omega) (by omega) _ _ hP hD hS ls (lv_sub hl [4, 5, 6, 3, 2, 1, 0] rfl)
