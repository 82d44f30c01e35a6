/-! ===== the worlds: a rope, the text, the model; writing contracts and their calls ===== -/
def nTy (cI cR : ClassId) : List (ClassId × FieldType) := [(cI, .int), (cR, .object "CoreRope$Rope")]
def rmK (f lo : Nat) : Room := { frames := f, cells := 0, slots := 0, locals := lo }
def wRp (h : Nat) (a : Nat → Nat) (cI : ClassId) (R B S : Nat) (f0 f1 f2 f3 : Nat → Int32) : va_W := [(h, .inr (1, [.int (nI R), .int (nI B), .int (nI S), .ref (a 0), .ref (a 1), .ref (a 2), .ref (a 3)])), (a 0, .inl (cI, 41, .inl f0)), (a 1, .inl (cI, 41, .inl f1)), (a 2, .inl (cI, 41, .inl f2)), (a 3, .inl (cI, 48, .inl f3))]
def wMd (h : Nat) (a : Nat → Nat) (cI : ClassId) (row : Nat → Int32) (sv : Nat) (g1 g2 tx : Nat → Int32) (ln at0 wd : Nat) (hh : Int64) : va_W := [(h, .inr (4, [.ref (a 0), .int (nI sv), .ref (a 1), .ref (a 2), .ref (a 3), .int (nI ln), .int (nI at0), .int (nI wd), .long hh])), (a 0, .inl (cI, 1134, .inl row)), (a 1, .inl (cI, 41, .inl g1)), (a 2, .inl (cI, 48, .inl g2)), (a 3, .inl (cI, 100, .inl tx))]
def wTx (h : Nat) (a : Nat → Nat) (cI : ClassId) (tx : Nat → Int32) (ln : Nat) (wf0 : Nat → Int32) (fo : Nat) : va_W := [(h, .inr (2, [.ref (a 0), .int (nI ln), .ref (a 1), .int (nI fo)])), (a 0, .inl (cI, 100, .inl tx)), (a 1, .inl (cI, 48, .inl wf0))]
theorem va_P_nil {D : va_G} {H : Heap} : va_P D vwCl [] H := fun k q h => by simp at h
def nPreM (D : va_G) (tys : List (ClassId × FieldType)) (av : List Value) (ws : va_W) (sz : Nat) : Array Value → State → Prop := va_Pc av (fun U => U.heap.size = sz ∧ va_P D vwCl ws U.heap ∧ va_K D vwCl tys U ∧ va_D (fun _ => True) ws)
theorem nPreM_blind {D : va_G} {tys : List (ClassId × FieldType)} {av : List Value} {ws : va_W} {sz : Nat} : FrameBlind (nPreM D tys av ws sz) := fun a U g mk q => ⟨q.1, q.2.1, q.2.2.1, va_K.moved (u := U) (U := U.calling g mk a) (Vm.Alike.refl U.vm) q.2.2.2.1, q.2.2.2.2⟩
theorem nPreM_of {D : va_G} {tys : List (ClassId × FieldType)} {av : List Value} {ws : va_W} {A0 : Nat → Prop} {s : State} {H : Heap} (hP : va_P D vwCl ws H) (hK : va_K D vwCl tys s) (hD : va_D A0 ws) : ∀ U : State, U.heap = H → s.WarmedH U.vm → nPreM D tys av ws H.size av.toArray U := fun U hU hW => ⟨rfl, by rw [hU], by rw [hU]; exact hP, va_K.moved hW.alike hK, hD.weaken (fun _ _ _ _ => trivial)⟩
def QcM (D : va_G) (oc : Option Value) (ws' : va_W) (A : Nat → Prop) : Array Value → State → Outcome → State → Prop := fun _ st o t => o = .returned oc ∧ va_P D vwCl ws' t.heap ∧ va_D A ws' ∧ va_F A st t
theorem met_mut {Qc : (Nat → Prop) → Array Value → State → Outcome → State → Prop} {l : Launch} {y : MethodName} {b : ByteArray} {n mc ms : Nat} {rt : Option FieldType} {rm : Room} {D : va_G} {tys : List (ClassId × FieldType)} {av : List Value} {ws : va_W} {sz : Nat} (hy : plainName y.cls = true) (hn : (lg_sl av).length ≤ n)
    (body : ∀ (p : Program) (e : Env) (s : State) (m : MethodId) (args : Array Value) (below : List Frame) (meth : Method) (c : Code) (ls : Array Slot) (A : Nat → Prop) (H : Heap) (locs : List Loc), p.tables.exec = Jvm.exec → c.code = b → c.maxLocals = n → meth.sig.returnType = rt → meth.locks = false → s.vm.findClass y.cls = some m.cls → (∀ w ∈ nT, w.before args s = true) → va_P D vwCl ws H → va_K D vwCl tys s → va_D A ws → (∀ q, s.heap.size ≤ q → A q) → va_S A s.heap H locs → lv_has ls n (lv_args 0 av) →
      W p l e rm s m args below meth c H locs 0 0 (MQ below (Qc A) args s mc ms A) (F0 m 0 ls [])) : Met l y (wsC y b n rt) rm (nPreM D tys av ws sz) (Qc (va_A ws sz)) mc ms (va_A ws sz) := by
  refine Met.ofW (cc := b) (maxL := n) (ret := rt) hy rfl ?_
  intro p e s m args below meth c s₁ B hml hv
  obtain ⟨rfl, hsz, hP, hK, hD⟩ := hv
  have hts := atoms_spec (ws := wsC y b n rt) B.pre
  have hl := lv_entry av (n := n) hn
  rw [lg_entry_eq]
  generalize (lg_sl av ++ List.replicate (n - (lg_sl av).length) Slot.unset).toArray = ls at hl ⊢
  subst hsz
  exact body p e s m _ below meth c ls (va_A ws s.heap.size) s.heap [] B.exec B.bytes hml B.returns B.notSynchronized (findClass_of_methodNamed B.named) (fun w h => hts w (List.mem_cons_of_mem _ h)) hP hK hD.self (fun q h => Or.inr h) va_S.rf hl
theorem n_fmap {α : Type} {f : Nat → Option α} : ∀ {is : List Nat} {w : List α}, is.map f = w.map some → is.filterMap f = w
  | [], [], _ => rfl
  | [], _ :: _, h => by cases h
  | _ :: _, [], h => by cases h
  | i :: is, x :: w, h => by
    obtain ⟨h1, h2⟩ := List.cons.inj h
    rw [List.filterMap_cons, h1, n_fmap h2]
section MU
variable {p : Program} {l : Launch} {e : Env} {R : Room} {s : State} {m : MethodId} {args : Array Value} {below : List Frame} {meth : Method} {c : Code} {H : Heap} {locs : List Loc} {cells slots mc ms : Nat} {Q : State → Prop}
variable {cc : ByteArray} {pc : Nat} {ls : Array Slot} {D : va_G} {A : Nat → Prop} {tys : List (ClassId × FieldType)} {ws : va_W}
theorem nv_stk {st st' : List Value} (h : st = st') (k : W p l e R s m args below meth c H locs cells slots Q (F0 m pc ls st')) : W p l e R s m args below meth c H locs cells slots Q (F0 m pc ls st) := by
  subst h
  exact k
theorem mu_reti (hx : p.tables.exec = Jvm.exec) (hb : c.code = cc) (hr : meth.sig.returnType = some .int) (hlocks : meth.locks = false) {v r : Int32} (hv : v = r) (hP : va_P D vwCl ws H) (hD : va_D A ws) (hS : va_S A s.heap H locs) (hdg : decode cc pc = .ok (.ireturn, 1)) : W p l e R s m args below meth c H locs cells slots (MQ below (QcM D (some (.int r)) ws A) args s cells slots A) (F0 m pc ls [.int v]) :=
  W.iret hx hb hr (fun t ht _ => ⟨by rw [hv], by rw [ht]; exact hP, hD, hS.F ht⟩) hS.2.2 hdg
theorem mu_retz (hx : p.tables.exec = Jvm.exec) (hb : c.code = cc) (hr : meth.sig.returnType = some .boolean) (hlocks : meth.locks = false) {v r : Int32} (hz : v = 0 ∨ v = 1) (hv : v = r) (hP : va_P D vwCl ws H) (hD : va_D A ws) (hS : va_S A s.heap H locs) (hdg : decode cc pc = .ok (.ireturn, 1)) : W p l e R s m args below meth c H locs cells slots (MQ below (QcM D (some (.int r)) ws A) args s cells slots A) (F0 m pc ls [.int v]) :=
  W.zret hx hb hr (by rcases hz with h | h <;> rw [h] <;> rfl) (fun t ht _ => ⟨by rw [hv], by rw [ht]; exact hP, hD, hS.F ht⟩) hS.2.2 hdg
theorem mu_retl (hx : p.tables.exec = Jvm.exec) (hb : c.code = cc) (hr : meth.sig.returnType = some .long) (hlocks : meth.locks = false) {v r : Int64} (hv : v = r) (hP : va_P D vwCl ws H) (hD : va_D A ws) (hS : va_S A s.heap H locs) (hdg : decode cc pc = .ok (.lreturn, 1)) : W p l e R s m args below meth c H locs cells slots (MQ below (QcM D (some (.long r)) ws A) args s cells slots A) (F0 m pc ls [.long v]) :=
  W.lret hx hb hr (fun t ht _ => ⟨by rw [hv], by rw [ht]; exact hP, hD, hS.F ht⟩) hS.2.2 hdg
theorem mu_retv (hx : p.tables.exec = Jvm.exec) (hb : c.code = cc) (hr : meth.sig.returnType = none) (hlocks : meth.locks = false) (hP : va_P D vwCl ws H) (hD : va_D A ws) (hS : va_S A s.heap H locs) (hdg : decode cc pc = .ok (.return_, 1)) : W p l e R s m args below meth c H locs cells slots (MQ below (QcM D none ws A) args s cells slots A) (F0 m pc ls []) :=
  W.vret hx hb hr (fun t ht _ => ⟨rfl, by rw [ht]; exact hP, hD, hS.F ht⟩) hS.2.2 hdg
/-- a call of a method that writes: its cells come back changed, in their old places -/
theorem mu_call {ws' : va_W} (isC isR perm : List Nat) (As : List Value) (rest : List Value) {own : String} {idx np nL maxL : Nat} {y : MethodName} {bytes : ByteArray} {rt : Option FieldType} {rm : Room} {b : Nat} {wc wc2 : va_W} {oc : Option Value} {st : List Value} {lv : List (Nat × Value)} {q : vw_C} {fs : List Value}
    (hx : p.tables.exec = Jvm.exec) (hb : c.code = cc) (hml : c.maxLocals = nL) (hown : s.vm.findClass own = some m.cls) (hts : ∀ w ∈ nT, w.before args s = true) (hk : nk_V own idx y bytes maxL rt np) (hM : ∀ sz, Met l y (wsC y bytes maxL rt) rm (nPreM D tys (.ref b :: As) wc sz) (QcM D oc wc2 (va_A wc sz)) mc ms (va_A wc sz))
    (hrm : rm.cells = mc ∧ rm.slots = ms ∧ rm.frames + 1 ≤ R.frames ∧ 8 + (maxL + 11) + rm.locals ≤ R.locals) (hP : va_P D vwCl ws H) (hD : va_D A ws) (hS : va_S A s.heap H locs) (hA : ∀ q, s.heap.size ≤ q → A q) (hK : va_K D vwCl tys s) (ci : Nat) (hc : vwCl[ci]? = some q) (hcl : y.cls = q.1) (he : wc[0]? = some (b, .inr (ci, fs)))
    (hC : isC.map (fun i => ws[i]?) = wc.map some) (hnC : va_nd isC = true) (hR : isR.map (fun i => ws[i]?) = (isR.filterMap (fun i => ws[i]?)).map some) (hnR : va_nd isR = true) (hdis : ∀ i ∈ isR, i ∉ isC) (hpe : perm.map (fun i => (isR.filterMap (fun i => ws[i]?) ++ wc2)[i]?) = ws'.map some) (hnp : va_nd perm = true)
    (hn : As.length = np) (hl : lv_has ls nL lv) (hst : st = As.reverse ++ .ref b :: rest) (hcat : (rest.map fun v => v.category).sum ≤ 8) (hdg : decode cc pc = .ok (.invokevirtual idx, 3)) (hf : cells + mc ≤ R.cells ∧ slots + ms ≤ R.slots)
    (kk : ∀ (H1 : Heap) (locs1 : List Loc), va_P D vwCl ws' H1 → va_D A ws' → va_S A s.heap H1 locs1 → W p l e R s m args below meth c H1 locs1 (cells + mc) (slots + ms) Q (F0 m (pc + 3) ls (oc.toList ++ rest))) : W p l e R s m args below meth c H locs cells slots Q (F0 m pc ls st) := by
  have hPc := hP.sub isC (n_fmap hC)
  have hDc := hD.sub isC hnC hC
  have hF := va_free hD hS hA isC hC
  have hrec := va_recv hK hPc hc he
  rw [← hcl] at hrec
  intro T hT X
  obtain ⟨v, st₀, t, T', L, h0, X', hL, e1, e2, ⟨hv, hP1, hD1, hz, hkp⟩, stp⟩ := va_runV (C := y.cls) ⟨hx, hb, hml, hown, hts⟩ (hM H.size) (hk.cw hts hrm.1 hrm.2.1 hrm.2.2) ⟨nPreM_blind, hrec, nPreM_of hPc hK hDc⟩ (g := F0 m pc ls st) rfl hn hl.1 hst (lv_room hcat) hdg hf T hT X
  have hv2 : v = oc := Outcome.returned.inj hv
  subst hv2
  rw [h0] at hz hkp
  rw [← e1] at hP1 hz hkp
  obtain ⟨hPj, hDj⟩ := va_join hP hD isC isR hC hR hnR hdis hkp hF hP1 hD1
  obtain ⟨t2, a1, b1⟩ := kk T'.heap (locs ++ L) (hPj.sub perm (n_fmap hpe)) (hDj.sub perm hnp hpe) ⟨Nat.le_trans hS.1 hz, fun q h1 h2 => by rw [hkp q (Nat.lt_of_lt_of_le h1 hS.1) (fun z => h2 (hF q z))]; exact hS.2.1 q h1 h2, fun q hq => by
      rcases List.mem_append.mp hq with h | h
      · exact hS.2.2 q h
      · exact hF _ (hL q h)⟩ T' rfl X'
  exact ⟨t2, stp t2 a1, b1⟩
end MU
