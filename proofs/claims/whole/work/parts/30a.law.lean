set_option maxHeartbeats 4000000 in
set_option maxRecDepth 100000 in
theorem lw_begin {p : Program} {e : Env} {s : State} {m : MethodId} {below : List Frame} {meth : Method} {c : Code} (l : Launch) {D : va_G} {cI cR : ClassId} {sb h h2 : Nat} {ad : Nat → Nat} {aa : Nat → Nat → Nat} {a2 : Nat → Nat} {i L : Nat} {xs : Nat → Int32} (hL : L ≤ 2048) (C0 : lw_At p s m meth c sb L xs) (hK : va_K D vwCl (nTy cI cR) s) (hi : i + 4 ≤ L) (kk : LK p l e s m below meth c D cI cR sb h h2 ad aa a2 i 778) : LK p l e s m below meth c D cI cR sb h h2 ad aa a2 i 156 := by
  obtain ⟨hx, hb, hr, hml, hown0, hts0, hX, hbl, hlocks, hgv⟩ := id C0
  have hts : ∀ w ∈ nT, w.before #[Value.ref sb] s = true := fun w q => hts0 w (List.mem_filter.mp q).1
  have hown : s.vm.findClass RL = some m.cls := hown0
  have hA : ∀ q : Nat, s.heap.size ≤ q → lwA s q := fun _ q => q
  have hbA : ¬ lwA s sb := Nat.not_le.mpr hbl
  obtain ⟨x, ex⟩ : ∃ v : Int32, v = xs (nI (i + 1)).toNatClampNeg := ⟨_, rfl⟩
  obtain ⟨y, ey⟩ : ∃ v : Int32, v = xs (nI (i + 2)).toNatClampNeg := ⟨_, rfl⟩
  obtain ⟨z, ez⟩ : ∃ v : Int32, v = xs (nI (i + 3)).toNatClampNeg := ⟨_, rfl⟩
  intro ρ τ σ o n b ln g fo0 wv nw at0 wd hh eσ hI H locs hP hD hS ls hl
  subst eσ
  obtain ⟨hw, h4, ho, hn, -, hln, hb0⟩ := id hI
  refine lv_aload_n hx hb dL_law_156 rfl (lv_at hl 2 rfl) ?_
  refine lv_aload_n hx hb dL_law_157 rfl (lv_at hl 3 rfl) ?_
  refine lv_iload_n hx hb dL_law_158 rfl (lv_at hl 0 rfl) ?_
  refine lv_iconst (v := nI 1) hx hb dL_law_159 (by decide) ?_
  refine nv_iadd hx hb dL_law_160 ?_
  refine va_sld hx hb hX hbl hbA hS (vp_in_nI (by omega) (by omega)) dL_law_161 ?_
  refine nv_tope x ex.symm ?_
  refine lv_aload_n hx hb dL_law_162 rfl (lv_at hl 3 rfl) ?_
  refine lv_iload_n hx hb dL_law_163 rfl (lv_at hl 0 rfl) ?_
  refine lv_iconst (v := nI 2) hx hb dL_law_164 (by decide) ?_
  refine nv_iadd hx hb dL_law_165 ?_
  refine va_sld hx hb hX hbl hbA hS (vp_in_nI (by omega) (by omega)) dL_law_166 ?_
  refine nv_tope y ey.symm ?_
  refine lv_aload_n hx hb dL_law_167 rfl (lv_at hl 3 rfl) ?_
  refine lv_iload_n hx hb dL_law_168 rfl (lv_at hl 0 rfl) ?_
  refine lv_iconst (v := nI 3) hx hb dL_law_169 (by decide) ?_
  refine nv_iadd hx hb dL_law_170 ?_
  refine va_sld hx hb hX hbl hbA hS (vp_in_nI (by omega) (by omega)) dL_law_171 ?_
  refine nv_tope z ez.symm ?_
  refine mu_call (ws' := wCR h ad aa cI cR (cond (ok3 x y z) (bgS (cl x) (cl y) (cl z)) (ρ 0)) (cond (ok3 x y z) (kpO o n) o) (cond (ok3 x y z) (kpN n) n) (cond (ok3 x y z) (va_up τ (kpS o n) (ρ 0)) τ) b ln g fo0 ++ wMd h2 a2 cI (rwF ρ) n (nF wv) (nF nw) (nF b) ln at0 wd hh) [0, 1, 2, 3, 4, 5, 6, 7, 8, 9, 10, 11, 12, 13, 14, 15, 16, 17, 18, 19, 20, 21, 22, 23, 24, 25, 26, 27, 28, 29, 30, 31, 32, 33, 34, 35] [36, 37, 38, 39, 40] [5, 6, 7, 8, 9, 10, 11, 12, 13, 14, 15, 16, 17, 18, 19, 20, 21, 22, 23, 24, 25, 26, 27, 28, 29, 30, 31, 32, 33, 34, 35, 36, 37, 38, 39, 40, 0, 1, 2, 3, 4] [.int x, .int y, .int z] [] hx hb hml hown hts k_RL_13 (fun sz => c_X3_begin l D cI cR h ad aa (ρ 0) o n τ b ln g fo0 x y z hw ho hn sz) ⟨rfl, rfl, Nat.le_of_ble_eq_true rfl, Nat.le_of_ble_eq_true rfl⟩ hP hD hS hA hK 3 rfl rfl rfl rfl rfl rfl rfl (by decide) rfl rfl rfl hl rfl (Nat.le_of_ble_eq_true rfl) dL_law_172 ⟨Nat.le_of_ble_eq_true rfl, Nat.le_of_ble_eq_true rfl⟩ (fun H locs hP hD hS => ?_)
  refine W.eq (g2 := F0 m 175 ls [.int (cond (ok3 x y z) (nI (nA (ρ 0))) (-3))]) rfl ?_
  refine lv_aload_n hx hb dL_law_175 rfl (lv_at hl 1 rfl) ?_
  refine lv_aload_n hx hb dL_law_176 rfl (lv_at hl 3 rfl) ?_
  refine lv_iload_n hx hb dL_law_177 rfl (lv_at hl 0 rfl) ?_
  refine lv_iconst (v := nI 1) hx hb dL_law_178 (by decide) ?_
  refine nv_iadd hx hb dL_law_179 ?_
  refine va_sld hx hb hX hbl hbA hS (vp_in_nI (by omega) (by omega)) dL_law_180 ?_
  refine nv_tope x ex.symm ?_
  refine lv_aload_n hx hb dL_law_181 rfl (lv_at hl 3 rfl) ?_
  refine lv_iload_n hx hb dL_law_182 rfl (lv_at hl 0 rfl) ?_
  refine lv_iconst (v := nI 2) hx hb dL_law_183 (by decide) ?_
  refine nv_iadd hx hb dL_law_184 ?_
  refine va_sld hx hb hX hbl hbA hS (vp_in_nI (by omega) (by omega)) dL_law_185 ?_
  refine nv_tope y ey.symm ?_
  refine lv_aload_n hx hb dL_law_186 rfl (lv_at hl 3 rfl) ?_
  refine lv_iload_n hx hb dL_law_187 rfl (lv_at hl 0 rfl) ?_
  refine lv_iconst (v := nI 3) hx hb dL_law_188 (by decide) ?_
  refine nv_iadd hx hb dL_law_189 ?_
  refine va_sld hx hb hX hbl hbA hS (vp_in_nI (by omega) (by omega)) dL_law_190 ?_
  refine nv_tope z ez.symm ?_
  refine mu_call (ws' := wCR h ad aa cI cR (cond (ok3 x y z) (bgS (cl x) (cl y) (cl z)) (ρ 0)) (cond (ok3 x y z) (kpO o n) o) (cond (ok3 x y z) (kpN n) n) (cond (ok3 x y z) (va_up τ (kpS o n) (ρ 0)) τ) b ln g fo0 ++ wMd h2 a2 cI (rwF (cond (ok3 x y z) (recR ρ n (bgS (cl x) (cl y) (cl z))) ρ)) (cond (ok3 x y z) (kpN n) n) (nF wv) (nF nw) (nF b) ln at0 wd hh) [36, 37, 38, 39, 40] [0, 1, 2, 3, 4, 5, 6, 7, 8, 9, 10, 11, 12, 13, 14, 15, 16, 17, 18, 19, 20, 21, 22, 23, 24, 25, 26, 27, 28, 29, 30, 31, 32, 33, 34, 35] [0, 1, 2, 3, 4, 5, 6, 7, 8, 9, 10, 11, 12, 13, 14, 15, 16, 17, 18, 19, 20, 21, 22, 23, 24, 25, 26, 27, 28, 29, 30, 31, 32, 33, 34, 35, 36, 37, 38, 39, 40] [.int x, .int y, .int z] [.int (cond (ok3 x y z) (nI (nA (ρ 0))) (-3))] hx hb hml hown hts k_RL_17 (fun sz => c_X4_begin l D cI cR h2 a2 ρ n wv nw b ln at0 wd hh x y z hw hn sz) ⟨rfl, rfl, Nat.le_of_ble_eq_true rfl, Nat.le_of_ble_eq_true rfl⟩ hP hD hS hA hK 4 rfl rfl rfl rfl rfl rfl rfl (by decide) rfl rfl rfl hl rfl (Nat.le_of_ble_eq_true rfl) dL_law_191 ⟨Nat.le_of_ble_eq_true rfl, Nat.le_of_ble_eq_true rfl⟩ (fun H locs hP hD hS => ?_)
  refine W.eq (g2 := F0 m 194 ls [.int (cond (ok3 x y z) (nI (nA (ρ 0))) (-3)), .int (cond (ok3 x y z) (nI (nA (ρ 0))) (-3))]) rfl ?_
  refine lv_icmp_eq (tgt := 778) hx hb dL_law_194 (by decide) (fun _ => ?_) (fun q => absurd (rfl) q)
  obtain ⟨q1, q2⟩ := hI.opt (ok3 x y z) (fun q => st_begin q)
  exact kk _ _ _ _ _ _ _ _ _ _ _ _ _ _ q1 q2 H locs hP hD hS ls (lv_sub hl [0, 1, 2, 3] rfl)
set_option maxHeartbeats 4000000 in
set_option maxRecDepth 100000 in
theorem lw_count {p : Program} {e : Env} {s : State} {m : MethodId} {below : List Frame} {meth : Method} {c : Code} (l : Launch) {D : va_G} {cI cR : ClassId} {sb h h2 : Nat} {ad : Nat → Nat} {aa : Nat → Nat → Nat} {a2 : Nat → Nat} {i L : Nat} {xs : Nat → Int32} (hL : L ≤ 2048) (C0 : lw_At p s m meth c sb L xs) (hK : va_K D vwCl (nTy cI cR) s) (hi : i + 4 ≤ L) (kk : LK p l e s m below meth c D cI cR sb h h2 ad aa a2 i 778) : LK p l e s m below meth c D cI cR sb h h2 ad aa a2 i 199 := by
  obtain ⟨hx, hb, hr, hml, hown0, hts0, hX, hbl, hlocks, hgv⟩ := id C0
  have hts : ∀ w ∈ nT, w.before #[Value.ref sb] s = true := fun w q => hts0 w (List.mem_filter.mp q).1
  have hown : s.vm.findClass RL = some m.cls := hown0
  have hA : ∀ q : Nat, s.heap.size ≤ q → lwA s q := fun _ q => q
  have hbA : ¬ lwA s sb := Nat.not_le.mpr hbl
  obtain ⟨x, ex⟩ : ∃ v : Int32, v = xs (nI (i + 1)).toNatClampNeg := ⟨_, rfl⟩
  intro ρ τ σ o n b ln g fo0 wv nw at0 wd hh eσ hI H locs hP hD hS ls hl
  subst eσ
  obtain ⟨hw, h4, ho, hn, -, hln, hb0⟩ := id hI
  refine lv_aload_n hx hb dL_law_199 rfl (lv_at hl 2 rfl) ?_
  refine lv_aload_n hx hb dL_law_200 rfl (lv_at hl 3 rfl) ?_
  refine lv_iload_n hx hb dL_law_201 rfl (lv_at hl 0 rfl) ?_
  refine lv_iconst (v := nI 1) hx hb dL_law_202 (by decide) ?_
  refine nv_iadd hx hb dL_law_203 ?_
  refine va_sld hx hb hX hbl hbA hS (vp_in_nI (by omega) (by omega)) dL_law_204 ?_
  refine nv_tope x ex.symm ?_
  refine nv_callV [.int x] [] hx hb hml hown hts k_RL_18 (c_X3_count l D cI cR h ad aa (ρ 0) o n τ b ln g fo0 x hw) ⟨rfl, rfl, Nat.le_of_ble_eq_true rfl, Nat.le_of_ble_eq_true rfl⟩ (hP.sub [0, 1, 2, 3, 4, 5, 6, 7, 8, 9, 10, 11, 12, 13, 14, 15, 16, 17, 18, 19, 20, 21, 22, 23, 24, 25, 26, 27, 28, 29, 30, 31, 32, 33, 34, 35] rfl) hK 3 rfl rfl rfl rfl hl rfl (Nat.le_of_ble_eq_true rfl) dL_law_205 ⟨Nat.le_of_ble_eq_true rfl, Nat.le_of_ble_eq_true rfl⟩ ?_
  refine lv_aload_n hx hb dL_law_208 rfl (lv_at hl 1 rfl) ?_
  refine lv_aload_n hx hb dL_law_209 rfl (lv_at hl 3 rfl) ?_
  refine lv_iload_n hx hb dL_law_210 rfl (lv_at hl 0 rfl) ?_
  refine lv_iconst (v := nI 1) hx hb dL_law_211 (by decide) ?_
  refine nv_iadd hx hb dL_law_212 ?_
  refine va_sld hx hb hX hbl hbA hS (vp_in_nI (by omega) (by omega)) dL_law_213 ?_
  refine nv_tope x ex.symm ?_
  refine nv_callV [.int x] [.int (aCount (ρ 0) x)] hx hb hml hown hts k_RL_22 (c_X4_count l D cI cR h2 a2 ρ n wv nw b ln at0 wd hh x hw) ⟨rfl, rfl, Nat.le_of_ble_eq_true rfl, Nat.le_of_ble_eq_true rfl⟩ (hP.sub [36, 37, 38, 39, 40] rfl) hK 4 rfl rfl rfl rfl hl rfl (Nat.le_of_ble_eq_true rfl) dL_law_214 ⟨Nat.le_of_ble_eq_true rfl, Nat.le_of_ble_eq_true rfl⟩ ?_
  refine lv_icmp_eq (tgt := 778) hx hb dL_law_217 (by decide) (fun _ => ?_) (fun q => absurd (rfl) q)
  exact kk _ _ _ _ _ _ _ _ _ _ _ _ _ _ rfl hI H locs hP hD hS ls (lv_sub hl [0, 1, 2, 3] rfl)
set_option maxHeartbeats 4000000 in
set_option maxRecDepth 100000 in
theorem lw_setCode {p : Program} {e : Env} {s : State} {m : MethodId} {below : List Frame} {meth : Method} {c : Code} (l : Launch) {D : va_G} {cI cR : ClassId} {sb h h2 : Nat} {ad : Nat → Nat} {aa : Nat → Nat → Nat} {a2 : Nat → Nat} {i L : Nat} {xs : Nat → Int32} (hL : L ≤ 2048) (C0 : lw_At p s m meth c sb L xs) (hK : va_K D vwCl (nTy cI cR) s) (hi : i + 4 ≤ L) (kk : LK p l e s m below meth c D cI cR sb h h2 ad aa a2 i 778) : LK p l e s m below meth c D cI cR sb h h2 ad aa a2 i 222 := by
  obtain ⟨hx, hb, hr, hml, hown0, hts0, hX, hbl, hlocks, hgv⟩ := id C0
  have hts : ∀ w ∈ nT, w.before #[Value.ref sb] s = true := fun w q => hts0 w (List.mem_filter.mp q).1
  have hown : s.vm.findClass RL = some m.cls := hown0
  have hA : ∀ q : Nat, s.heap.size ≤ q → lwA s q := fun _ q => q
  have hbA : ¬ lwA s sb := Nat.not_le.mpr hbl
  obtain ⟨x, ex⟩ : ∃ v : Int32, v = xs (nI (i + 1)).toNatClampNeg := ⟨_, rfl⟩
  obtain ⟨y, ey⟩ : ∃ v : Int32, v = xs (nI (i + 2)).toNatClampNeg := ⟨_, rfl⟩
  intro ρ τ σ o n b ln g fo0 wv nw at0 wd hh eσ hI H locs hP hD hS ls hl
  subst eσ
  obtain ⟨hw, h4, ho, hn, -, hln, hb0⟩ := id hI
  refine lv_aload_n hx hb dL_law_222 rfl (lv_at hl 2 rfl) ?_
  refine lv_aload_n hx hb dL_law_223 rfl (lv_at hl 3 rfl) ?_
  refine lv_iload_n hx hb dL_law_224 rfl (lv_at hl 0 rfl) ?_
  refine lv_iconst (v := nI 1) hx hb dL_law_225 (by decide) ?_
  refine nv_iadd hx hb dL_law_226 ?_
  refine va_sld hx hb hX hbl hbA hS (vp_in_nI (by omega) (by omega)) dL_law_227 ?_
  refine nv_tope x ex.symm ?_
  refine lv_aload_n hx hb dL_law_228 rfl (lv_at hl 3 rfl) ?_
  refine lv_iload_n hx hb dL_law_229 rfl (lv_at hl 0 rfl) ?_
  refine lv_iconst (v := nI 2) hx hb dL_law_230 (by decide) ?_
  refine nv_iadd hx hb dL_law_231 ?_
  refine va_sld hx hb hX hbl hbA hS (vp_in_nI (by omega) (by omega)) dL_law_232 ?_
  refine nv_tope y ey.symm ?_
  refine mu_call (ws' := wCR h ad aa cI cR (cond (inB x ((ρ 0) 0) && inB y 16 && okC (ρ 0) x y) (va_up (ρ 0) (3 + cl x) (cl y)) (ρ 0)) (cond (inB x ((ρ 0) 0) && inB y 16 && okC (ρ 0) x y) (kpO o n) o) (cond (inB x ((ρ 0) 0) && inB y 16 && okC (ρ 0) x y) (kpN n) n) (cond (inB x ((ρ 0) 0) && inB y 16 && okC (ρ 0) x y) (va_up τ (kpS o n) (ρ 0)) τ) b ln g fo0 ++ wMd h2 a2 cI (rwF ρ) n (nF wv) (nF nw) (nF b) ln at0 wd hh) [0, 1, 2, 3, 4, 5, 6, 7, 8, 9, 10, 11, 12, 13, 14, 15, 16, 17, 18, 19, 20, 21, 22, 23, 24, 25, 26, 27, 28, 29, 30, 31, 32, 33, 34, 35] [36, 37, 38, 39, 40] [5, 6, 7, 8, 9, 10, 11, 12, 13, 14, 15, 16, 17, 18, 19, 20, 21, 22, 23, 24, 25, 26, 27, 28, 29, 30, 31, 32, 33, 34, 35, 36, 37, 38, 39, 40, 0, 1, 2, 3, 4] [.int x, .int y] [] hx hb hml hown hts k_RL_23 (fun sz => c_X3_setCode l D cI cR h ad aa (ρ 0) o n τ b ln g fo0 x y hw ho hn sz) ⟨rfl, rfl, Nat.le_of_ble_eq_true rfl, Nat.le_of_ble_eq_true rfl⟩ hP hD hS hA hK 3 rfl rfl rfl rfl rfl rfl rfl (by decide) rfl rfl rfl hl rfl (Nat.le_of_ble_eq_true rfl) dL_law_233 ⟨Nat.le_of_ble_eq_true rfl, Nat.le_of_ble_eq_true rfl⟩ (fun H locs hP hD hS => ?_)
  refine W.eq (g2 := F0 m 236 ls [.int (aSetCode (ρ 0) x y)]) rfl ?_
  refine lv_aload_n hx hb dL_law_236 rfl (lv_at hl 1 rfl) ?_
  refine lv_aload_n hx hb dL_law_237 rfl (lv_at hl 3 rfl) ?_
  refine lv_iload_n hx hb dL_law_238 rfl (lv_at hl 0 rfl) ?_
  refine lv_iconst (v := nI 1) hx hb dL_law_239 (by decide) ?_
  refine nv_iadd hx hb dL_law_240 ?_
  refine va_sld hx hb hX hbl hbA hS (vp_in_nI (by omega) (by omega)) dL_law_241 ?_
  refine nv_tope x ex.symm ?_
  refine lv_aload_n hx hb dL_law_242 rfl (lv_at hl 3 rfl) ?_
  refine lv_iload_n hx hb dL_law_243 rfl (lv_at hl 0 rfl) ?_
  refine lv_iconst (v := nI 2) hx hb dL_law_244 (by decide) ?_
  refine nv_iadd hx hb dL_law_245 ?_
  refine va_sld hx hb hX hbl hbA hS (vp_in_nI (by omega) (by omega)) dL_law_246 ?_
  refine nv_tope y ey.symm ?_
  refine mu_call (ws' := wCR h ad aa cI cR (cond (inB x ((ρ 0) 0) && inB y 16 && okC (ρ 0) x y) (va_up (ρ 0) (3 + cl x) (cl y)) (ρ 0)) (cond (inB x ((ρ 0) 0) && inB y 16 && okC (ρ 0) x y) (kpO o n) o) (cond (inB x ((ρ 0) 0) && inB y 16 && okC (ρ 0) x y) (kpN n) n) (cond (inB x ((ρ 0) 0) && inB y 16 && okC (ρ 0) x y) (va_up τ (kpS o n) (ρ 0)) τ) b ln g fo0 ++ wMd h2 a2 cI (rwF (cond (inB x (ρ 0 0) && inB y 16 && okC (ρ 0) x y) (recR ρ n (va_up (ρ 0) (3 + cl x) (cl y))) ρ)) (cond (inB x (ρ 0 0) && inB y 16 && okC (ρ 0) x y) (kpN n) n) (nF wv) (nF nw) (nF b) ln at0 wd hh) [36, 37, 38, 39, 40] [0, 1, 2, 3, 4, 5, 6, 7, 8, 9, 10, 11, 12, 13, 14, 15, 16, 17, 18, 19, 20, 21, 22, 23, 24, 25, 26, 27, 28, 29, 30, 31, 32, 33, 34, 35] [0, 1, 2, 3, 4, 5, 6, 7, 8, 9, 10, 11, 12, 13, 14, 15, 16, 17, 18, 19, 20, 21, 22, 23, 24, 25, 26, 27, 28, 29, 30, 31, 32, 33, 34, 35, 36, 37, 38, 39, 40] [.int x, .int y] [.int (aSetCode (ρ 0) x y)] hx hb hml hown hts k_RL_27 (fun sz => c_X4_setCode l D cI cR h2 a2 ρ n wv nw b ln at0 wd hh x y hw hn sz) ⟨rfl, rfl, Nat.le_of_ble_eq_true rfl, Nat.le_of_ble_eq_true rfl⟩ hP hD hS hA hK 4 rfl rfl rfl rfl rfl rfl rfl (by decide) rfl rfl rfl hl rfl (Nat.le_of_ble_eq_true rfl) dL_law_247 ⟨Nat.le_of_ble_eq_true rfl, Nat.le_of_ble_eq_true rfl⟩ (fun H locs hP hD hS => ?_)
  refine W.eq (g2 := F0 m 250 ls [.int (aSetCode (ρ 0) x y), .int (aSetCode (ρ 0) x y)]) rfl ?_
  refine lv_icmp_eq (tgt := 778) hx hb dL_law_250 (by decide) (fun _ => ?_) (fun q => absurd (rfl) q)
  obtain ⟨q1, q2⟩ := hI.opt (inB x (ρ 0 0) && inB y 16 && okC (ρ 0) x y) (fun q => st_code hw h4 q)
  exact kk _ _ _ _ _ _ _ _ _ _ _ _ _ _ q1 q2 H locs hP hD hS ls (lv_sub hl [0, 1, 2, 3] rfl)
set_option maxHeartbeats 4000000 in
set_option maxRecDepth 100000 in
theorem lw_code {p : Program} {e : Env} {s : State} {m : MethodId} {below : List Frame} {meth : Method} {c : Code} (l : Launch) {D : va_G} {cI cR : ClassId} {sb h h2 : Nat} {ad : Nat → Nat} {aa : Nat → Nat → Nat} {a2 : Nat → Nat} {i L : Nat} {xs : Nat → Int32} (hL : L ≤ 2048) (C0 : lw_At p s m meth c sb L xs) (hK : va_K D vwCl (nTy cI cR) s) (hi : i + 4 ≤ L) (kk : LK p l e s m below meth c D cI cR sb h h2 ad aa a2 i 778) : LK p l e s m below meth c D cI cR sb h h2 ad aa a2 i 255 := by
  obtain ⟨hx, hb, hr, hml, hown0, hts0, hX, hbl, hlocks, hgv⟩ := id C0
  have hts : ∀ w ∈ nT, w.before #[Value.ref sb] s = true := fun w q => hts0 w (List.mem_filter.mp q).1
  have hown : s.vm.findClass RL = some m.cls := hown0
  have hA : ∀ q : Nat, s.heap.size ≤ q → lwA s q := fun _ q => q
  have hbA : ¬ lwA s sb := Nat.not_le.mpr hbl
  obtain ⟨x, ex⟩ : ∃ v : Int32, v = xs (nI (i + 1)).toNatClampNeg := ⟨_, rfl⟩
  intro ρ τ σ o n b ln g fo0 wv nw at0 wd hh eσ hI H locs hP hD hS ls hl
  subst eσ
  obtain ⟨hw, h4, ho, hn, -, hln, hb0⟩ := id hI
  refine lv_aload_n hx hb dL_law_255 rfl (lv_at hl 2 rfl) ?_
  refine lv_aload_n hx hb dL_law_256 rfl (lv_at hl 3 rfl) ?_
  refine lv_iload_n hx hb dL_law_257 rfl (lv_at hl 0 rfl) ?_
  refine lv_iconst (v := nI 1) hx hb dL_law_258 (by decide) ?_
  refine nv_iadd hx hb dL_law_259 ?_
  refine va_sld hx hb hX hbl hbA hS (vp_in_nI (by omega) (by omega)) dL_law_260 ?_
  refine nv_tope x ex.symm ?_
  refine nv_callV [.int x] [] hx hb hml hown hts k_RL_28 (c_X3_code l D cI cR h ad aa (ρ 0) o n τ b ln g fo0 x hw) ⟨rfl, rfl, Nat.le_of_ble_eq_true rfl, Nat.le_of_ble_eq_true rfl⟩ (hP.sub [0, 1, 2, 3, 4, 5, 6, 7, 8, 9, 10, 11, 12, 13, 14, 15, 16, 17, 18, 19, 20, 21, 22, 23, 24, 25, 26, 27, 28, 29, 30, 31, 32, 33, 34, 35] rfl) hK 3 rfl rfl rfl rfl hl rfl (Nat.le_of_ble_eq_true rfl) dL_law_261 ⟨Nat.le_of_ble_eq_true rfl, Nat.le_of_ble_eq_true rfl⟩ ?_
  refine lv_aload_n hx hb dL_law_264 rfl (lv_at hl 1 rfl) ?_
  refine lv_aload_n hx hb dL_law_265 rfl (lv_at hl 3 rfl) ?_
  refine lv_iload_n hx hb dL_law_266 rfl (lv_at hl 0 rfl) ?_
  refine lv_iconst (v := nI 1) hx hb dL_law_267 (by decide) ?_
  refine nv_iadd hx hb dL_law_268 ?_
  refine va_sld hx hb hX hbl hbA hS (vp_in_nI (by omega) (by omega)) dL_law_269 ?_
  refine nv_tope x ex.symm ?_
  refine nv_callV [.int x] [.int (aCode (ρ 0) x)] hx hb hml hown hts k_RL_31 (c_X4_code l D cI cR h2 a2 ρ n wv nw b ln at0 wd hh x hw) ⟨rfl, rfl, Nat.le_of_ble_eq_true rfl, Nat.le_of_ble_eq_true rfl⟩ (hP.sub [36, 37, 38, 39, 40] rfl) hK 4 rfl rfl rfl rfl hl rfl (Nat.le_of_ble_eq_true rfl) dL_law_270 ⟨Nat.le_of_ble_eq_true rfl, Nat.le_of_ble_eq_true rfl⟩ ?_
  refine lv_icmp_eq (tgt := 778) hx hb dL_law_273 (by decide) (fun _ => ?_) (fun q => absurd (rfl) q)
  exact kk _ _ _ _ _ _ _ _ _ _ _ _ _ _ rfl hI H locs hP hD hS ls (lv_sub hl [0, 1, 2, 3] rfl)
set_option maxHeartbeats 4000000 in
set_option maxRecDepth 100000 in
theorem lw_weave {p : Program} {e : Env} {s : State} {m : MethodId} {below : List Frame} {meth : Method} {c : Code} (l : Launch) {D : va_G} {cI cR : ClassId} {sb h h2 : Nat} {ad : Nat → Nat} {aa : Nat → Nat → Nat} {a2 : Nat → Nat} {i L : Nat} {xs : Nat → Int32} (hL : L ≤ 2048) (C0 : lw_At p s m meth c sb L xs) (hK : va_K D vwCl (nTy cI cR) s) (hi : i + 4 ≤ L) (kk : LK p l e s m below meth c D cI cR sb h h2 ad aa a2 i 778) : LK p l e s m below meth c D cI cR sb h h2 ad aa a2 i 278 := by
  obtain ⟨hx, hb, hr, hml, hown0, hts0, hX, hbl, hlocks, hgv⟩ := id C0
  have hts : ∀ w ∈ nT, w.before #[Value.ref sb] s = true := fun w q => hts0 w (List.mem_filter.mp q).1
  have hown : s.vm.findClass RL = some m.cls := hown0
  have hA : ∀ q : Nat, s.heap.size ≤ q → lwA s q := fun _ q => q
  have hbA : ¬ lwA s sb := Nat.not_le.mpr hbl
  obtain ⟨x, ex⟩ : ∃ v : Int32, v = xs (nI (i + 1)).toNatClampNeg := ⟨_, rfl⟩
  obtain ⟨y, ey⟩ : ∃ v : Int32, v = xs (nI (i + 2)).toNatClampNeg := ⟨_, rfl⟩
  intro ρ τ σ o n b ln g fo0 wv nw at0 wd hh eσ hI H locs hP hD hS ls hl
  subst eσ
  obtain ⟨hw, h4, ho, hn, -, hln, hb0⟩ := id hI
  refine lv_aload_n hx hb dL_law_278 rfl (lv_at hl 2 rfl) ?_
  refine lv_aload_n hx hb dL_law_279 rfl (lv_at hl 3 rfl) ?_
  refine lv_iload_n hx hb dL_law_280 rfl (lv_at hl 0 rfl) ?_
  refine lv_iconst (v := nI 1) hx hb dL_law_281 (by decide) ?_
  refine nv_iadd hx hb dL_law_282 ?_
  refine va_sld hx hb hX hbl hbA hS (vp_in_nI (by omega) (by omega)) dL_law_283 ?_
  refine nv_tope x ex.symm ?_
  refine lv_aload_n hx hb dL_law_284 rfl (lv_at hl 3 rfl) ?_
  refine lv_iload_n hx hb dL_law_285 rfl (lv_at hl 0 rfl) ?_
  refine lv_iconst (v := nI 2) hx hb dL_law_286 (by decide) ?_
  refine nv_iadd hx hb dL_law_287 ?_
  refine va_sld hx hb hX hbl hbA hS (vp_in_nI (by omega) (by omega)) dL_law_288 ?_
  refine nv_tope y ey.symm ?_
  refine mu_call (ws' := wCR h ad aa cI cR (cond (inB x (nA (ρ 0)) && inB y (2 ^ (ρ 0) 1)) (va_up (ρ 0) (19 + cl x) (cl y)) (ρ 0)) (cond (inB x (nA (ρ 0)) && inB y (2 ^ (ρ 0) 1)) (kpO o n) o) (cond (inB x (nA (ρ 0)) && inB y (2 ^ (ρ 0) 1)) (kpN n) n) (cond (inB x (nA (ρ 0)) && inB y (2 ^ (ρ 0) 1)) (va_up τ (kpS o n) (ρ 0)) τ) b ln g fo0 ++ wMd h2 a2 cI (rwF ρ) n (nF wv) (nF nw) (nF b) ln at0 wd hh) [0, 1, 2, 3, 4, 5, 6, 7, 8, 9, 10, 11, 12, 13, 14, 15, 16, 17, 18, 19, 20, 21, 22, 23, 24, 25, 26, 27, 28, 29, 30, 31, 32, 33, 34, 35] [36, 37, 38, 39, 40] [5, 6, 7, 8, 9, 10, 11, 12, 13, 14, 15, 16, 17, 18, 19, 20, 21, 22, 23, 24, 25, 26, 27, 28, 29, 30, 31, 32, 33, 34, 35, 36, 37, 38, 39, 40, 0, 1, 2, 3, 4] [.int x, .int y] [] hx hb hml hown hts k_RL_32 (fun sz => c_X3_weave l D cI cR h ad aa (ρ 0) o n τ b ln g fo0 x y hw ho hn sz) ⟨rfl, rfl, Nat.le_of_ble_eq_true rfl, Nat.le_of_ble_eq_true rfl⟩ hP hD hS hA hK 3 rfl rfl rfl rfl rfl rfl rfl (by decide) rfl rfl rfl hl rfl (Nat.le_of_ble_eq_true rfl) dL_law_289 ⟨Nat.le_of_ble_eq_true rfl, Nat.le_of_ble_eq_true rfl⟩ (fun H locs hP hD hS => ?_)
  refine W.eq (g2 := F0 m 292 ls [.int (aWeave (ρ 0) x y)]) rfl ?_
  refine lv_aload_n hx hb dL_law_292 rfl (lv_at hl 1 rfl) ?_
  refine lv_aload_n hx hb dL_law_293 rfl (lv_at hl 3 rfl) ?_
  refine lv_iload_n hx hb dL_law_294 rfl (lv_at hl 0 rfl) ?_
  refine lv_iconst (v := nI 1) hx hb dL_law_295 (by decide) ?_
  refine nv_iadd hx hb dL_law_296 ?_
  refine va_sld hx hb hX hbl hbA hS (vp_in_nI (by omega) (by omega)) dL_law_297 ?_
  refine nv_tope x ex.symm ?_
  refine lv_aload_n hx hb dL_law_298 rfl (lv_at hl 3 rfl) ?_
  refine lv_iload_n hx hb dL_law_299 rfl (lv_at hl 0 rfl) ?_
  refine lv_iconst (v := nI 2) hx hb dL_law_300 (by decide) ?_
  refine nv_iadd hx hb dL_law_301 ?_
  refine va_sld hx hb hX hbl hbA hS (vp_in_nI (by omega) (by omega)) dL_law_302 ?_
  refine nv_tope y ey.symm ?_
  refine mu_call (ws' := wCR h ad aa cI cR (cond (inB x (nA (ρ 0)) && inB y (2 ^ (ρ 0) 1)) (va_up (ρ 0) (19 + cl x) (cl y)) (ρ 0)) (cond (inB x (nA (ρ 0)) && inB y (2 ^ (ρ 0) 1)) (kpO o n) o) (cond (inB x (nA (ρ 0)) && inB y (2 ^ (ρ 0) 1)) (kpN n) n) (cond (inB x (nA (ρ 0)) && inB y (2 ^ (ρ 0) 1)) (va_up τ (kpS o n) (ρ 0)) τ) b ln g fo0 ++ wMd h2 a2 cI (rwF (cond (inB x (nA (ρ 0)) && inB y (2 ^ ρ 0 1)) (recR ρ n (va_up (ρ 0) (19 + cl x) (cl y))) ρ)) (cond (inB x (nA (ρ 0)) && inB y (2 ^ ρ 0 1)) (kpN n) n) (nF wv) (nF nw) (nF b) ln at0 wd hh) [36, 37, 38, 39, 40] [0, 1, 2, 3, 4, 5, 6, 7, 8, 9, 10, 11, 12, 13, 14, 15, 16, 17, 18, 19, 20, 21, 22, 23, 24, 25, 26, 27, 28, 29, 30, 31, 32, 33, 34, 35] [0, 1, 2, 3, 4, 5, 6, 7, 8, 9, 10, 11, 12, 13, 14, 15, 16, 17, 18, 19, 20, 21, 22, 23, 24, 25, 26, 27, 28, 29, 30, 31, 32, 33, 34, 35, 36, 37, 38, 39, 40] [.int x, .int y] [.int (aWeave (ρ 0) x y)] hx hb hml hown hts k_RL_35 (fun sz => c_X4_weave l D cI cR h2 a2 ρ n wv nw b ln at0 wd hh x y hw hn sz) ⟨rfl, rfl, Nat.le_of_ble_eq_true rfl, Nat.le_of_ble_eq_true rfl⟩ hP hD hS hA hK 4 rfl rfl rfl rfl rfl rfl rfl (by decide) rfl rfl rfl hl rfl (Nat.le_of_ble_eq_true rfl) dL_law_303 ⟨Nat.le_of_ble_eq_true rfl, Nat.le_of_ble_eq_true rfl⟩ (fun H locs hP hD hS => ?_)
  refine W.eq (g2 := F0 m 306 ls [.int (aWeave (ρ 0) x y), .int (aWeave (ρ 0) x y)]) rfl ?_
  refine lv_icmp_eq (tgt := 778) hx hb dL_law_306 (by decide) (fun _ => ?_) (fun q => absurd (rfl) q)
  obtain ⟨q1, q2⟩ := hI.opt (inB x (nA (ρ 0)) && inB y (2 ^ ρ 0 1)) (fun q => st_weave hw h4 q)
  exact kk _ _ _ _ _ _ _ _ _ _ _ _ _ _ q1 q2 H locs hP hD hS ls (lv_sub hl [0, 1, 2, 3] rfl)
set_option maxHeartbeats 4000000 in
set_option maxRecDepth 100000 in
theorem lw_word {p : Program} {e : Env} {s : State} {m : MethodId} {below : List Frame} {meth : Method} {c : Code} (l : Launch) {D : va_G} {cI cR : ClassId} {sb h h2 : Nat} {ad : Nat → Nat} {aa : Nat → Nat → Nat} {a2 : Nat → Nat} {i L : Nat} {xs : Nat → Int32} (hL : L ≤ 2048) (C0 : lw_At p s m meth c sb L xs) (hK : va_K D vwCl (nTy cI cR) s) (hi : i + 4 ≤ L) (kk : LK p l e s m below meth c D cI cR sb h h2 ad aa a2 i 778) : LK p l e s m below meth c D cI cR sb h h2 ad aa a2 i 311 := by
  obtain ⟨hx, hb, hr, hml, hown0, hts0, hX, hbl, hlocks, hgv⟩ := id C0
  have hts : ∀ w ∈ nT, w.before #[Value.ref sb] s = true := fun w q => hts0 w (List.mem_filter.mp q).1
  have hown : s.vm.findClass RL = some m.cls := hown0
  have hA : ∀ q : Nat, s.heap.size ≤ q → lwA s q := fun _ q => q
  have hbA : ¬ lwA s sb := Nat.not_le.mpr hbl
  obtain ⟨x, ex⟩ : ∃ v : Int32, v = xs (nI (i + 1)).toNatClampNeg := ⟨_, rfl⟩
  intro ρ τ σ o n b ln g fo0 wv nw at0 wd hh eσ hI H locs hP hD hS ls hl
  subst eσ
  obtain ⟨hw, h4, ho, hn, -, hln, hb0⟩ := id hI
  refine lv_aload_n hx hb dL_law_311 rfl (lv_at hl 2 rfl) ?_
  refine lv_aload_n hx hb dL_law_312 rfl (lv_at hl 3 rfl) ?_
  refine lv_iload_n hx hb dL_law_313 rfl (lv_at hl 0 rfl) ?_
  refine lv_iconst (v := nI 1) hx hb dL_law_314 (by decide) ?_
  refine nv_iadd hx hb dL_law_315 ?_
  refine va_sld hx hb hX hbl hbA hS (vp_in_nI (by omega) (by omega)) dL_law_316 ?_
  refine nv_tope x ex.symm ?_
  refine nv_callV [.int x] [] hx hb hml hown hts k_RL_36 (c_X3_word l D cI cR h ad aa (ρ 0) o n τ b ln g fo0 x hw) ⟨rfl, rfl, Nat.le_of_ble_eq_true rfl, Nat.le_of_ble_eq_true rfl⟩ (hP.sub [0, 1, 2, 3, 4, 5, 6, 7, 8, 9, 10, 11, 12, 13, 14, 15, 16, 17, 18, 19, 20, 21, 22, 23, 24, 25, 26, 27, 28, 29, 30, 31, 32, 33, 34, 35] rfl) hK 3 rfl rfl rfl rfl hl rfl (Nat.le_of_ble_eq_true rfl) dL_law_317 ⟨Nat.le_of_ble_eq_true rfl, Nat.le_of_ble_eq_true rfl⟩ ?_
  refine lv_aload_n hx hb dL_law_320 rfl (lv_at hl 1 rfl) ?_
  refine lv_aload_n hx hb dL_law_321 rfl (lv_at hl 3 rfl) ?_
  refine lv_iload_n hx hb dL_law_322 rfl (lv_at hl 0 rfl) ?_
  refine lv_iconst (v := nI 1) hx hb dL_law_323 (by decide) ?_
  refine nv_iadd hx hb dL_law_324 ?_
  refine va_sld hx hb hX hbl hbA hS (vp_in_nI (by omega) (by omega)) dL_law_325 ?_
  refine nv_tope x ex.symm ?_
  refine nv_callV [.int x] [.int (aWord (ρ 0) x)] hx hb hml hown hts k_RL_39 (c_X4_word l D cI cR h2 a2 ρ n wv nw b ln at0 wd hh x hw) ⟨rfl, rfl, Nat.le_of_ble_eq_true rfl, Nat.le_of_ble_eq_true rfl⟩ (hP.sub [36, 37, 38, 39, 40] rfl) hK 4 rfl rfl rfl rfl hl rfl (Nat.le_of_ble_eq_true rfl) dL_law_326 ⟨Nat.le_of_ble_eq_true rfl, Nat.le_of_ble_eq_true rfl⟩ ?_
  refine lv_icmp_eq (tgt := 778) hx hb dL_law_329 (by decide) (fun _ => ?_) (fun q => absurd (rfl) q)
  exact kk _ _ _ _ _ _ _ _ _ _ _ _ _ _ rfl hI H locs hP hD hS ls (lv_sub hl [0, 1, 2, 3] rfl)
set_option maxHeartbeats 4000000 in
set_option maxRecDepth 100000 in
theorem lw_cross {p : Program} {e : Env} {s : State} {m : MethodId} {below : List Frame} {meth : Method} {c : Code} (l : Launch) {D : va_G} {cI cR : ClassId} {sb h h2 : Nat} {ad : Nat → Nat} {aa : Nat → Nat → Nat} {a2 : Nat → Nat} {i L : Nat} {xs : Nat → Int32} (hL : L ≤ 2048) (C0 : lw_At p s m meth c sb L xs) (hK : va_K D vwCl (nTy cI cR) s) (hi : i + 4 ≤ L) (kk : LK p l e s m below meth c D cI cR sb h h2 ad aa a2 i 778) : LK p l e s m below meth c D cI cR sb h h2 ad aa a2 i 334 := by
  obtain ⟨hx, hb, hr, hml, hown0, hts0, hX, hbl, hlocks, hgv⟩ := id C0
  have hts : ∀ w ∈ nT, w.before #[Value.ref sb] s = true := fun w q => hts0 w (List.mem_filter.mp q).1
  have hown : s.vm.findClass RL = some m.cls := hown0
  have hA : ∀ q : Nat, s.heap.size ≤ q → lwA s q := fun _ q => q
  have hbA : ¬ lwA s sb := Nat.not_le.mpr hbl
  obtain ⟨x, ex⟩ : ∃ v : Int32, v = xs (nI (i + 1)).toNatClampNeg := ⟨_, rfl⟩
  intro ρ τ σ o n b ln g fo0 wv nw at0 wd hh eσ hI H locs hP hD hS ls hl
  subst eσ
  obtain ⟨hw, h4, ho, hn, -, hln, hb0⟩ := id hI
  refine lv_aload_n hx hb dL_law_334 rfl (lv_at hl 2 rfl) ?_
  refine lv_aload_n hx hb dL_law_335 rfl (lv_at hl 3 rfl) ?_
  refine lv_iload_n hx hb dL_law_336 rfl (lv_at hl 0 rfl) ?_
  refine lv_iconst (v := nI 1) hx hb dL_law_337 (by decide) ?_
  refine nv_iadd hx hb dL_law_338 ?_
  refine va_sld hx hb hX hbl hbA hS (vp_in_nI (by omega) (by omega)) dL_law_339 ?_
  refine nv_tope x ex.symm ?_
  refine mu_call (ws' := wCR h ad aa cI cR (cond (inB x (nW (ρ 0)) && !inB x 8) (va_up (ρ 0) (67 + (cl x - 8)) (1 - crN (ρ 0) (cl x))) (ρ 0)) (cond (inB x (nW (ρ 0)) && !inB x 8) (kpO o n) o) (cond (inB x (nW (ρ 0)) && !inB x 8) (kpN n) n) (cond (inB x (nW (ρ 0)) && !inB x 8) (va_up τ (kpS o n) (ρ 0)) τ) b ln g fo0 ++ wMd h2 a2 cI (rwF ρ) n (nF wv) (nF nw) (nF b) ln at0 wd hh) [0, 1, 2, 3, 4, 5, 6, 7, 8, 9, 10, 11, 12, 13, 14, 15, 16, 17, 18, 19, 20, 21, 22, 23, 24, 25, 26, 27, 28, 29, 30, 31, 32, 33, 34, 35] [36, 37, 38, 39, 40] [5, 6, 7, 8, 9, 10, 11, 12, 13, 14, 15, 16, 17, 18, 19, 20, 21, 22, 23, 24, 25, 26, 27, 28, 29, 30, 31, 32, 33, 34, 35, 36, 37, 38, 39, 40, 0, 1, 2, 3, 4] [.int x] [] hx hb hml hown hts k_RL_40 (fun sz => c_X3_cross l D cI cR h ad aa (ρ 0) o n τ b ln g fo0 x hw ho hn sz) ⟨rfl, rfl, Nat.le_of_ble_eq_true rfl, Nat.le_of_ble_eq_true rfl⟩ hP hD hS hA hK 3 rfl rfl rfl rfl rfl rfl rfl (by decide) rfl rfl rfl hl rfl (Nat.le_of_ble_eq_true rfl) dL_law_340 ⟨Nat.le_of_ble_eq_true rfl, Nat.le_of_ble_eq_true rfl⟩ (fun H locs hP hD hS => ?_)
  refine W.eq (g2 := F0 m 343 ls [.int (aCross (ρ 0) x)]) rfl ?_
  refine lv_aload_n hx hb dL_law_343 rfl (lv_at hl 1 rfl) ?_
  refine lv_aload_n hx hb dL_law_344 rfl (lv_at hl 3 rfl) ?_
  refine lv_iload_n hx hb dL_law_345 rfl (lv_at hl 0 rfl) ?_
  refine lv_iconst (v := nI 1) hx hb dL_law_346 (by decide) ?_
  refine nv_iadd hx hb dL_law_347 ?_
  refine va_sld hx hb hX hbl hbA hS (vp_in_nI (by omega) (by omega)) dL_law_348 ?_
  refine nv_tope x ex.symm ?_
  refine mu_call (ws' := wCR h ad aa cI cR (cond (inB x (nW (ρ 0)) && !inB x 8) (va_up (ρ 0) (67 + (cl x - 8)) (1 - crN (ρ 0) (cl x))) (ρ 0)) (cond (inB x (nW (ρ 0)) && !inB x 8) (kpO o n) o) (cond (inB x (nW (ρ 0)) && !inB x 8) (kpN n) n) (cond (inB x (nW (ρ 0)) && !inB x 8) (va_up τ (kpS o n) (ρ 0)) τ) b ln g fo0 ++ wMd h2 a2 cI (rwF (cond (inB x (nW (ρ 0)) && !inB x 8) (recR ρ n (va_up (ρ 0) (67 + (cl x - 8)) (1 - crN (ρ 0) (cl x)))) ρ)) (cond (inB x (nW (ρ 0)) && !inB x 8) (kpN n) n) (nF wv) (nF nw) (nF b) ln at0 wd hh) [36, 37, 38, 39, 40] [0, 1, 2, 3, 4, 5, 6, 7, 8, 9, 10, 11, 12, 13, 14, 15, 16, 17, 18, 19, 20, 21, 22, 23, 24, 25, 26, 27, 28, 29, 30, 31, 32, 33, 34, 35] [0, 1, 2, 3, 4, 5, 6, 7, 8, 9, 10, 11, 12, 13, 14, 15, 16, 17, 18, 19, 20, 21, 22, 23, 24, 25, 26, 27, 28, 29, 30, 31, 32, 33, 34, 35, 36, 37, 38, 39, 40] [.int x] [.int (aCross (ρ 0) x)] hx hb hml hown hts k_RL_43 (fun sz => c_X4_cross l D cI cR h2 a2 ρ n wv nw b ln at0 wd hh x hw hn sz) ⟨rfl, rfl, Nat.le_of_ble_eq_true rfl, Nat.le_of_ble_eq_true rfl⟩ hP hD hS hA hK 4 rfl rfl rfl rfl rfl rfl rfl (by decide) rfl rfl rfl hl rfl (Nat.le_of_ble_eq_true rfl) dL_law_349 ⟨Nat.le_of_ble_eq_true rfl, Nat.le_of_ble_eq_true rfl⟩ (fun H locs hP hD hS => ?_)
  refine W.eq (g2 := F0 m 352 ls [.int (aCross (ρ 0) x), .int (aCross (ρ 0) x)]) rfl ?_
  refine lv_icmp_eq (tgt := 778) hx hb dL_law_352 (by decide) (fun _ => ?_) (fun q => absurd (rfl) q)
  obtain ⟨q1, q2⟩ := hI.opt (inB x (nW (ρ 0)) && !inB x 8) (fun q => st_cross hw h4 q)
  exact kk _ _ _ _ _ _ _ _ _ _ _ _ _ _ q1 q2 H locs hP hD hS ls (lv_sub hl [0, 1, 2, 3] rfl)
