/-! ===== p30: the law's world, calls over the whole of it, the script in a callee ===== -/
/-- a CoreRope with an empty text -/
def wS (h : Nat) (ad : Nat → Nat) (aa : Nat → Nat → Nat) (cI cR : ClassId) (σ : Nat → Nat) (o n : Nat) (τ : Nat → Nat → Nat) : va_W := wCR h ad aa cI cR σ o n τ (fun _ => 0) 0 (fun _ => 0) 0
section MUA
variable {p : Program} {l : Launch} {e : Env} {R : Room} {s : State} {m : MethodId} {args : Array Value} {below : List Frame} {meth : Method} {c : Code} {H : Heap} {locs : List Loc} {cells slots : Nat} {Q : State → Prop}
variable {cc : ByteArray} {pc : Nat} {ls : Array Slot} {D : va_G} {A : Nat → Prop} {tys : List (ClassId × FieldType)} {ws : va_W}
theorem va_whole (hD : va_D A ws) (hS : va_S A s.heap H locs) (hA : ∀ q, s.heap.size ≤ q → A q) : ∀ q, va_A ws H.size q → A q := fun q h => by
  rcases h with ⟨k, x, h⟩ | h
  · exact hD.2 k (q, x) h
  · exact hA q (Nat.le_trans hS.1 h)
/-- a call of a method that writes, over the whole world -/
theorem mu_allV {ws2 : va_W} (As : List Value) (rest : List Value) {own : String} {idx np nL maxL : Nat} {y : MethodName} {bytes : ByteArray} {rt : Option FieldType} {rm : Room} {b : Nat} {oc : Option Value} {st : List Value} {lv : List (Nat × Value)} {q : vw_C} {fs : List Value}
    (hx : p.tables.exec = Jvm.exec) (hb : c.code = cc) (hml : c.maxLocals = nL) (hown : s.vm.findClass own = some m.cls) (hts : ∀ w ∈ nT, w.before args s = true) (hk : nk_V own idx y bytes maxL rt np) (hM : ∀ sz, Met l y (wsC y bytes maxL rt) rm (nPreM D tys (.ref b :: As) ws sz) (QcM D oc ws2 (va_A ws sz)) 0 0 (va_A ws sz))
    (hrm : rm.cells = 0 ∧ rm.slots = 0 ∧ rm.frames + 1 ≤ R.frames ∧ 8 + (maxL + 11) + rm.locals ≤ R.locals) (hP : va_P D vwCl ws H) (hD : va_D A ws) (hS : va_S A s.heap H locs) (hA : ∀ q, s.heap.size ≤ q → A q) (hK : va_K D vwCl tys s) (ci : Nat) (hc : vwCl[ci]? = some q) (hcl : y.cls = q.1) (he : ws[0]? = some (b, .inr (ci, fs)))
    (hn : As.length = np) (hl : lv_has ls nL lv) (hst : st = As.reverse ++ .ref b :: rest) (hcat : (rest.map fun v => v.category).sum ≤ 8) (hdg : decode cc pc = .ok (.invokevirtual idx, 3)) (hf : cells ≤ R.cells ∧ slots ≤ R.slots)
    (kk : ∀ (H1 : Heap) (locs1 : List Loc), va_P D vwCl ws2 H1 → va_D A ws2 → va_S A s.heap H1 locs1 → W p l e R s m args below meth c H1 locs1 cells slots Q (F0 m (pc + 3) ls (oc.toList ++ rest))) : W p l e R s m args below meth c H locs cells slots Q (F0 m pc ls st) := by
  have hF := va_whole hD hS hA
  have hrec := va_recv hK hP hc he
  rw [← hcl] at hrec
  intro T hT X
  obtain ⟨v, st₀, t, T', L, h0, X', hL, e1, e2, ⟨hv, hP1, hD1, hz, hkp⟩, stp⟩ := va_runV (C := y.cls) ⟨hx, hb, hml, hown, hts⟩ (hM H.size) (hk.cw hts hrm.1 hrm.2.1 hrm.2.2) ⟨nPreM_blind, hrec, nPreM_of hP hK hD⟩ (g := F0 m pc ls st) rfl hn hl.1 hst (lv_room hcat) hdg hf T hT X
  have hv2 : v = oc := Outcome.returned.inj hv
  subst hv2
  rw [h0] at hz hkp
  rw [← e1] at hP1 hz hkp
  obtain ⟨t2, a1, b1⟩ := kk T'.heap (locs ++ L) hP1 (hD1.weaken (fun _ _ _ h => hF _ h)) ⟨Nat.le_trans hS.1 hz, fun q h1 h2 => by rw [hkp q (Nat.lt_of_lt_of_le h1 hS.1) (fun z => h2 (hF q z))]; exact hS.2.1 q h1 h2, fun q hq => by
      rcases List.mem_append.mp hq with h | h
      · exact hS.2.2 q h
      · exact hF _ (hL q h)⟩ T' rfl X'
  exact ⟨t2, stp t2 a1, b1⟩
theorem mu_allS {ws2 : va_W} (As : List Value) (rest : List Value) {own : String} {idx np nL maxL : Nat} {y : MethodName} {bytes : ByteArray} {rt : Option FieldType} {rm : Room} {oc : Option Value} {st : List Value} {lv : List (Nat × Value)}
    (hx : p.tables.exec = Jvm.exec) (hb : c.code = cc) (hml : c.maxLocals = nL) (hown : s.vm.findClass own = some m.cls) (hts : ∀ w ∈ nT, w.before args s = true) (hk : nk_S own idx y bytes maxL rt np) (hM : ∀ sz, Met l y (wsC y bytes maxL rt) rm (nPreM D tys As ws sz) (QcM D oc ws2 (va_A ws sz)) 0 0 (va_A ws sz))
    (hrm : rm.cells = 0 ∧ rm.slots = 0 ∧ rm.frames + 1 ≤ R.frames ∧ 8 + (maxL + 11) + rm.locals ≤ R.locals) (hP : va_P D vwCl ws H) (hD : va_D A ws) (hS : va_S A s.heap H locs) (hA : ∀ q, s.heap.size ≤ q → A q) (hK : va_K D vwCl tys s)
    (hn : As.length = np) (hl : lv_has ls nL lv) (hst : st = As.reverse ++ rest) (hcat : (rest.map fun v => v.category).sum ≤ 8) (hdg : decode cc pc = .ok (.invokestatic idx, 3)) (hf : cells ≤ R.cells ∧ slots ≤ R.slots)
    (kk : ∀ (H1 : Heap) (locs1 : List Loc), va_P D vwCl ws2 H1 → va_D A ws2 → va_S A s.heap H1 locs1 → W p l e R s m args below meth c H1 locs1 cells slots Q (F0 m (pc + 3) ls (oc.toList ++ rest))) : W p l e R s m args below meth c H locs cells slots Q (F0 m pc ls st) := by
  have hF := va_whole hD hS hA
  intro T hT X
  obtain ⟨v, st₀, t, T', L, h0, X', hL, e1, e2, ⟨hv, hP1, hD1, hz, hkp⟩, stp⟩ := va_runS ⟨hx, hb, hml, hown, hts⟩ (hM H.size) (hk.cw hts hrm.1 hrm.2.1 hrm.2.2) ⟨nPreM_blind, nPreM_of hP hK hD⟩ (g := F0 m pc ls st) rfl hn hl.1 hst (lv_room hcat) hdg hf T hT X
  have hv2 : v = oc := Outcome.returned.inj hv
  subst hv2
  rw [h0] at hz hkp
  rw [← e1] at hP1 hz hkp
  obtain ⟨t2, a1, b1⟩ := kk T'.heap (locs ++ L) hP1 (hD1.weaken (fun _ _ _ h => hF _ h)) ⟨Nat.le_trans hS.1 hz, fun q h1 h2 => by rw [hkp q (Nat.lt_of_lt_of_le h1 hS.1) (fun z => h2 (hF q z))]; exact hS.2.1 q h1 h2, fun q hq => by
      rcases List.mem_append.mp hq with h | h
      · exact hS.2.2 q h
      · exact hF _ (hL q h)⟩ T' rfl X'
  exact ⟨t2, stp t2 a1, b1⟩
end MUA
theorem cmp_same {x y : Int64} (h : x = y) : lg_cmp x y = nI 0 := by
  subst h
  simp [lg_cmp]
  rfl
/-! the script, in a callee -/
def xPre (b L : Nat) (xs : Nat → Int32) (av : List Value) : Array Value → State → Prop := va_Pc av (fun U => va_X b L xs U U.heap ∧ b < U.heap.size)
theorem xPre_blind {b L : Nat} {xs : Nat → Int32} {av : List Value} : FrameBlind (xPre b L xs av) := fun a U g mk q => ⟨q.1, va_X.moved (u := U) (U := U.calling g mk a) (Vm.Alike.refl U.vm) q.2.1, q.2.2⟩
theorem xPre_of {b L : Nat} {xs : Nat → Int32} {av : List Value} {s : State} {H : Heap} {A : Nat → Prop} {locs : List Loc} (hX : va_X b L xs s s.heap) (hbl : b < s.heap.size) (hbA : ¬ A b) (hS : va_S A s.heap H locs) : ∀ U : State, U.heap = H → s.WarmedH U.vm → xPre b L xs av av.toArray U := fun U hU hW => ⟨rfl, by rw [hU]; exact (hX.kept (hS.2.1 b hbl hbA)).moved hW.alike, by rw [hU]; exact Nat.lt_of_lt_of_le hbl hS.1⟩
/-- the script's number at k, or one made of k behind its end -/
def ceF (L : Nat) (xs : Nat → Int32) (k : Nat) : Int32 := if k < L then xs k else nI (7919 * (k + 3) * (k + 11))
set_option maxHeartbeats 4000000 in
set_option maxRecDepth 100000 in
theorem c_L_cell (l : Launch) (b L : Nat) (xs : Nat → Int32) (k : Nat) (hk : k < 2 ^ 31) (hL : L < 2 ^ 31) : MetR l yL_cell cL_cell 2 (some .int) (rmK 0 0) (xPre b L xs [.ref b, .int (nI k)]) (ceF L xs k) := by
  refine Met.ofW (cc := cL_cell) (maxL := 2) (ret := some .int) rfl rfl ?_
  intro p e s m args below meth c s₁ B hml hv
  obtain ⟨rfl, hX, hbl⟩ := hv
  have hx := B.exec
  have hb := B.bytes
  have hr := B.returns
  have hlocks := B.notSynchronized
  have hl := lv_entry ([.ref b, .int (nI k)]) (n := 2) (Nat.le_of_ble_eq_true rfl)
  rw [lg_entry_eq]
  generalize (lg_sl ([.ref b, .int (nI k)]) ++ List.replicate (2 - (lg_sl ([.ref b, .int (nI k)])).length) Slot.unset).toArray = ls at hl ⊢
  have hl : lv_has ls 2 [(0, .ref b), (1, .int (nI k))] := hl
  have hS : va_S (fun _ => False) s.heap s.heap [] := va_S.rf
  refine lv_iload_n hx hb dL_cell_0 rfl (lv_at hl 1 rfl) ?_
  refine lv_aload_n hx hb dL_cell_1 rfl (lv_at hl 0 rfl) ?_
  refine va_slen (A := fun _ => False) hx hb hX hbl (fun z => z) hS dL_cell_2 ?_
  refine nv_tope (nI L) rfl ?_
  refine nv_icmp_ge (tgt := 12) hx hb dL_cell_3 (by decide) hk hL (fun q => ?_) (fun q => ?_)
  · refine lv_sipush (v := nI 7919) hx hb dL_cell_12 (by decide) ?_
    refine lv_iload_n hx hb dL_cell_15 rfl (lv_at hl 1 rfl) ?_
    refine lv_iconst (v := nI 3) hx hb dL_cell_16 (by decide) ?_
    refine nv_iadd hx hb dL_cell_17 ?_
    refine nv_imul hx hb dL_cell_18 ?_
    refine lv_iload_n hx hb dL_cell_19 rfl (lv_at hl 1 rfl) ?_
    refine lv_bipush (v := nI 11) hx hb dL_cell_20 (by decide) ?_
    refine nv_iadd hx hb dL_cell_22 ?_
    refine nv_imul hx hb dL_cell_23 ?_
    exact nv_ret hx hb hr hlocks (by unfold ceF; rw [if_neg (by omega)]) dL_cell_24
  · refine lv_aload_n hx hb dL_cell_6 rfl (lv_at hl 0 rfl) ?_
    refine lv_iload_n hx hb dL_cell_7 rfl (lv_at hl 1 rfl) ?_
    refine va_sld (A := fun _ => False) hx hb hX hbl (fun z => z) hS (vp_in_nI q hL) dL_cell_8 ?_
    refine lv_goto (tgt := 24) hx hb dL_cell_9 (by decide) ?_
    exact nv_ret hx hb hr hlocks (by unfold ceF; rw [if_pos q, nIc hk]) dL_cell_24
section NXC
variable {p : Program} {l : Launch} {e : Env} {R : Room} {s : State} {m : MethodId} {args : Array Value} {below : List Frame} {meth : Method} {c : Code} {H : Heap} {locs : List Loc} {cells slots : Nat} {Q : State → Prop}
variable {cc : ByteArray} {pc : Nat} {ls : Array Slot} {rest : List Value} {A : Nat → Prop}
theorem nx_cell {own : String} {idx nL maxL : Nat} {y : MethodName} {bytes : ByteArray} {rt : Option FieldType} {rm : Room} {b L k : Nat} {xs : Nat → Int32} {r : Int32} {lv : List (Nat × Value)}
    (hx : p.tables.exec = Jvm.exec) (hb : c.code = cc) (hml : c.maxLocals = nL) (hown : s.vm.findClass own = some m.cls) (hts : ∀ w ∈ nT, w.before args s = true) (hk : nk_S own idx y bytes maxL rt 2) (hM : MetR l y bytes maxL rt rm (xPre b L xs [.ref b, .int (nI k)]) r)
    (hrm : rm.cells = 0 ∧ rm.slots = 0 ∧ rm.frames + 1 ≤ R.frames ∧ 8 + (maxL + 11) + rm.locals ≤ R.locals) (hX : va_X b L xs s s.heap) (hbl : b < s.heap.size) (hbA : ¬ A b) (hS : va_S A s.heap H locs)
    (hl : lv_has ls nL lv) (hcat : (rest.map fun v => v.category).sum ≤ 8) (hdg : decode cc pc = .ok (.invokestatic idx, 3)) (hf : cells ≤ R.cells ∧ slots ≤ R.slots)
    (kk : W p l e R s m args below meth c H locs cells slots Q (F0 m (pc + 3) ls (.int r :: rest))) : W p l e R s m args below meth c H locs cells slots Q (F0 m pc ls (.int (nI k) :: .ref b :: rest)) :=
  W.callR (W.runS (As := [.ref b, .int (nI k)]) (rest := rest) ⟨hx, hb, hml, hown, hts⟩ hM (hk.cw hts hrm.1 hrm.2.1 hrm.2.2) ⟨xPre_blind, xPre_of hX hbl hbA hS⟩ rfl rfl hl.1 rfl (lv_room hcat) hdg hf) kk
end NXC
