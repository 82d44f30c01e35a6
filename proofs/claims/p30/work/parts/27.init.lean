/-! ===== making: the constructors ===== -/
theorem ob_i : Cond.instanceMethod objectInit ∈ nT := wl_mem 30 (by decide +kernel)
theorem ob_c : Cond.code objectInit ⟨#[0xb1]⟩ 1 none ∈ nT := wl_mem 31 (by decide +kernel)
theorem ar_i : Cond.arrayClass .int ∈ nT := wl_mem 98 (by decide +kernel)
/-- what the words that do not keep say: the class of a row of ropes, the constructor of the text -/
def nO (U : State) : Prop := va_AO RX1 U ∧ va_Nw (.methodLinkNest RX3 25 yX2_init RX3) U
theorem nO.same {u U : State} (hvm : u.vm = U.vm) (h : nO u) : nO U := ⟨va_AO.moved (by rw [hvm]; exact Vm.Alike.refl _) h.1, va_Nw.same rfl hvm h.2⟩
theorem nO.warm {s U : State} (hW : s.WarmedH U.vm) (h : nO s) : nO U := ⟨va_AO.moved hW.alike h.1, va_Nw.warmM hW h.2⟩
def rmC (f ce sl lo : Nat) : Room := { frames := f, cells := ce, slots := sl, locals := lo }
def nPreO (D : va_G) (tys : List (ClassId × FieldType)) (av : List Value) (ws : va_W) (sz : Nat) : Array Value → State → Prop := fun ar U => nPreM D tys av ws sz ar U ∧ nO U
theorem nPreO_blind {D : va_G} {tys : List (ClassId × FieldType)} {av : List Value} {ws : va_W} {sz : Nat} : FrameBlind (nPreO D tys av ws sz) := fun a U g mk q => ⟨nPreM_blind a U g mk q.1, nO.same (u := U) (U := U.calling g mk a) rfl q.2⟩
theorem nPreO_of {D : va_G} {tys : List (ClassId × FieldType)} {av : List Value} {ws : va_W} {A0 : Nat → Prop} {s : State} {H : Heap} (hO : nO s) (hP : va_P D vwCl ws H) (hK : va_K D vwCl tys s) (hD : va_D A0 ws) : ∀ U : State, U.heap = H → s.WarmedH U.vm → nPreO D tys av ws H.size av.toArray U := fun U hU hW => ⟨nPreM_of hP hK hD U hU hW, nO.warm hW hO⟩
def QcE {α : Type} (D : va_G) (V : α → va_W) (A : Nat → Prop) : Array Value → State → Outcome → State → Prop := fun _ st o t => o = .returned none ∧ (∃ x : α, va_P D vwCl (V x) t.heap ∧ va_D A (V x)) ∧ va_F A st t
theorem met_init {α : Type} {V : α → va_W} {l : Launch} {y : MethodName} {b : ByteArray} {n mc ms : Nat} {rm : Room} {D : va_G} {tys : List (ClassId × FieldType)} {av : List Value} {ws : va_W} {sz : Nat} (hy : plainName y.cls = true) (hy2 : y.name = "<init>") (hn : (lg_sl av).length ≤ n)
    (body : ∀ (p : Program) (e : Env) (s : State) (m : MethodId) (args : Array Value) (below : List Frame) (meth : Method) (c : Code) (ls : Array Slot) (A : Nat → Prop) (H : Heap) (locs : List Loc), p.tables.exec = Jvm.exec → c.code = b → c.maxLocals = n → meth.sig.returnType = none → meth.locks = false → s.vm.findClass y.cls = some m.cls → (∀ w ∈ nT, w.before args s = true) → meth.name = "<init>" → nO s → va_P D vwCl ws H → va_K D vwCl tys s → va_D A ws → (∀ q, s.heap.size ≤ q → A q) → va_S A s.heap H locs → lv_has ls n (lv_args 0 av) →
      W p l e rm s m args below meth c H locs 0 0 (MQ below (QcE D V A) args s mc ms A) (F0 m 0 ls [])) : Met l y (wsC y b n none) rm (nPreO D tys av ws sz) (QcE D V (va_A ws sz)) mc ms (va_A ws sz) := by
  refine Met.ofW (cc := b) (maxL := n) (ret := none) hy rfl ?_
  intro p e s m args below meth c s₁ B hml hv
  obtain ⟨⟨rfl, hsz, hP, hK, hD⟩, hO⟩ := hv
  have hts := atoms_spec (ws := wsC y b n none) B.pre
  have hl := lv_entry av (n := n) hn
  rw [lg_entry_eq]
  generalize (lg_sl av ++ List.replicate (n - (lg_sl av).length) Slot.unset).toArray = ls at hl ⊢
  subst hsz
  exact body p e s m _ below meth c ls (va_A ws s.heap.size) s.heap [] B.exec B.bytes hml B.returns B.notSynchronized (findClass_of_methodNamed B.named) (fun w h => hts w (List.mem_cons_of_mem _ h)) ((name_of_methodNamed B.named B.method).1.trans hy2) hO hP hK hD.self (fun q h => Or.inr h) va_S.rf hl
section NNI
variable {p : Program} {l : Launch} {e : Env} {R : Room} {s : State} {m : MethodId} {args : Array Value} {below : List Frame} {meth : Method} {c : Code} {H : Heap} {locs : List Loc} {cells slots mc ms : Nat} {Q : State → Prop}
variable {cc : ByteArray} {pc : Nat} {ls : Array Slot} {D : va_G} {A : Nat → Prop} {cI cR : ClassId} {ws : va_W} {rest : List Value}
theorem mu_rete {α : Type} {V : α → va_W} (x : α) (hx : p.tables.exec = Jvm.exec) (hb : c.code = cc) (hr : meth.sig.returnType = none) (hlocks : meth.locks = false) (hP : va_P D vwCl (V x) H) (hD : va_D A (V x)) (hS : va_S A s.heap H locs) (hdg : decode cc pc = .ok (.return_, 1)) : W p l e R s m args below meth c H locs cells slots (MQ below (QcE D V A) args s cells slots A) (F0 m pc ls []) :=
  W.vret hx hb hr (fun t ht _ => ⟨rfl, ⟨x, by rw [ht]; exact hP, hD⟩, hS.F ht⟩) hS.2.2 hdg
/-- a row of whole numbers, new -/
theorem nu_newa (hx : p.tables.exec = Jvm.exec) (hb : c.code = cc) (hts : ∀ w ∈ nT, w.before args s = true) (hK : va_K D vwCl (nTy cI cR) s) (hP : va_P D vwCl ws H) (hD : va_D A ws) (hS : va_S A s.heap H locs) (hA : ∀ q, s.heap.size ≤ q → A q)
    {N : Nat} (hN : N < 2 ^ 20) (hcells : cells + 1 ≤ R.cells) (hslots : slots + N ≤ R.slots) (hdg : decode cc pc = .ok (.newarray .int, 2))
    (kk : ∀ (q : Nat) (H1 : Heap), va_P D vwCl (ws ++ [(q, .inl (cI, N, .inl (fun _ => 0)))]) H1 → va_D A (ws ++ [(q, .inl (cI, N, .inl (fun _ => 0)))]) → va_S A s.heap H1 locs →
      W p l e R s m args below meth c H1 locs (cells + 1) (slots + N) Q (F0 m (pc + 2) ls (.ref q :: rest))) : W p l e R s m args below meth c H locs cells slots Q (F0 m pc ls (.int (nI N) :: rest)) := by
  have h31 : N < 2 ^ 31 := Nat.lt_trans hN (by decide)
  refine va_newa (atype := .int) (ty := .int) (a0 := (N, .inl (fun _ => 0))) (N' := N) hx hb (hts _ ar_i) rfl hK hP hD hS hA (fun _ => rfl) (nI_pos h31) (nI_clamp h31) (by show N * 4 ≤ 536870912; omega) hcells hslots hdg fun q cA H1 hK1 hP1 hD1 hS1 => ?_
  have e1 : s.vm.findClass ("[" ++ FieldType.int.toString) = some cI := (hK1.2 0 _ rfl).2
  have e2 : s.vm.findClass ("[" ++ FieldType.int.toString) = some cA := (hK1.2 2 _ rfl).2
  have e3 : cA = cI := Option.some.inj (e2.symm.trans e1)
  subst e3
  exact kk q H1 hP1 hD1 hS1
/-- a row of ropes, new -/
theorem nu_newq {own : String} {idx : Nat} (hx : p.tables.exec = Jvm.exec) (hb : c.code = cc) (hown : s.vm.findClass own = some m.cls) (hcl : (Cond.classLink own idx RX1).before args s = true) (hO : nO s) (hK : va_K D vwCl (nTy cI cR) s) (hP : va_P D vwCl ws H) (hD : va_D A ws) (hS : va_S A s.heap H locs) (hA : ∀ q, s.heap.size ≤ q → A q)
    {N : Nat} (hN : N < 2 ^ 20) (hcells : cells + 1 ≤ R.cells) (hslots : slots + N ≤ R.slots) (hdg : decode cc pc = .ok (.anewarray idx, 3))
    (kk : ∀ (q : Nat) (H1 : Heap), va_P D vwCl (ws ++ [(q, .inl (cR, N, .inr (.inr (.inr (.inr (fun _ => none))))))]) H1 → va_D A (ws ++ [(q, .inl (cR, N, .inr (.inr (.inr (.inr (fun _ => none))))))]) → va_S A s.heap H1 locs →
      W p l e R s m args below meth c H1 locs (cells + 1) (slots + N) Q (F0 m (pc + 3) ls (.ref q :: rest))) : W p l e R s m args below meth c H locs cells slots Q (F0 m pc ls (.int (nI N) :: rest)) := by
  have h31 : N < 2 ^ 31 := Nat.lt_trans hN (by decide)
  refine va_newq (C := RX1) (N' := N) hx hb hown hcl hO.1 hK hP hD hS hA (nI_pos h31) (nI_clamp h31) (by omega) hcells hslots hdg fun q cA H1 hK1 hP1 hD1 hS1 => ?_
  obtain ⟨k1, c1, -, -, -, e1⟩ := (hK1.2 1 _ rfl).2
  obtain ⟨k2, c2, -, -, -, e2⟩ := (hK1.2 2 _ rfl).2
  have e3 : cA = cR := Option.some.inj (e2.symm.trans e1)
  subst e3
  exact kk q H1 hP1 hD1 hS1
/-- a constructor's call -/
theorem mu_init {α : Type} {V : α → va_W} (isC isR : List Nat) {wr : va_W} {own : String} {idx nL maxL : Nat} {y : MethodName} {bytes : ByteArray} {rm : Room} {b : Nat} {wc : va_W} {lv : List (Nat × Value)}
    (hx : p.tables.exec = Jvm.exec) (hb : c.code = cc) (hml : c.maxLocals = nL) (hown : s.vm.findClass own = some m.cls) (hts : ∀ w ∈ nT, w.before args s = true) (hk : nk_I own idx y bytes maxL 0) (hM : ∀ sz, Met l y (wsC y bytes maxL none) rm (nPreO D (nTy cI cR) [.ref b] wc sz) (QcE D V (va_A wc sz)) mc ms (va_A wc sz))
    (hrm : rm.cells = mc ∧ rm.slots = ms ∧ rm.frames + 1 ≤ R.frames ∧ 8 + (maxL + 11) + rm.locals ≤ R.locals) (hO : nO s) (hP : va_P D vwCl ws H) (hD : va_D A ws) (hS : va_S A s.heap H locs) (hA : ∀ q, s.heap.size ≤ q → A q) (hK : va_K D vwCl (nTy cI cR) s)
    (hC : isC.map (fun i => ws[i]?) = wc.map some) (hnC : va_nd isC = true) (hR : isR.map (fun i => ws[i]?) = wr.map some) (hnR : va_nd isR = true) (hdis : ∀ i ∈ isR, i ∉ isC)
    (hl : lv_has ls nL lv) (hcat : (rest.map fun v => v.category).sum ≤ 8) (hdg : decode cc pc = .ok (.invokespecial idx, 3)) (hf : cells + mc ≤ R.cells ∧ slots + ms ≤ R.slots)
    (kk : ∀ (x : α) (H1 : Heap) (locs1 : List Loc), va_P D vwCl (wr ++ V x) H1 → va_D A (wr ++ V x) → va_S A s.heap H1 locs1 → W p l e R s m args below meth c H1 locs1 (cells + mc) (slots + ms) Q (F0 m (pc + 3) ls rest)) : W p l e R s m args below meth c H locs cells slots Q (F0 m pc ls (.ref b :: rest)) := by
  have hPc := hP.sub isC (n_fmap hC)
  have hDc := hD.sub isC hnC hC
  have hF := va_free hD hS hA isC hC
  intro T hT X
  obtain ⟨v, st₀, t, T', L, h0, X', hL, e1, e2, ⟨hv, ⟨x, hP1, hD1⟩, hz, hkp⟩, stp⟩ := va_runI (As := []) (rest := rest) ⟨hx, hb, hml, hown, hts⟩ (hM H.size) (hk.cw hts hrm.1 hrm.2.1 hrm.2.2) ⟨nPreO_blind, nPreO_of hO hPc hK hDc⟩ (g := F0 m pc ls (.ref b :: rest)) rfl rfl hl.1 rfl (lv_room hcat) hdg hf T hT X
  have hv2 : v = none := Outcome.returned.inj hv
  subst hv2
  rw [h0] at hz hkp
  rw [← e1] at hP1 hz hkp
  obtain ⟨hPj, hDj⟩ := va_join hP hD isC isR hC hR hnR hdis hkp hF hP1 hD1
  obtain ⟨t2, a1, b1⟩ := kk x T'.heap (locs ++ L) hPj hDj ⟨Nat.le_trans hS.1 hz, fun q h1 h2 => by rw [hkp q (Nat.lt_of_lt_of_le h1 hS.1) (fun z => h2 (hF q z))]; exact hS.2.1 q h1 h2, fun q hq => by
      rcases List.mem_append.mp hq with h | h
      · exact hS.2.2 q h
      · exact hF _ (hL q h)⟩ T' rfl X'
  exact ⟨t2, stp t2 a1, b1⟩
/-- a nest mate's constructor's call -/
theorem mu_initN {α : Type} {V : α → va_W} (isC isR : List Nat) {wr : va_W} {own : String} {idx nL maxL : Nat} {y : MethodName} {bytes : ByteArray} {rm : Room} {b : Nat} {wc : va_W} {lv : List (Nat × Value)}
    (hx : p.tables.exec = Jvm.exec) (hb : c.code = cc) (hml : c.maxLocals = nL) (hown : s.vm.findClass own = some m.cls) (hts : ∀ w ∈ nT, w.before args s = true) {host : String} (hk : Cond.instanceMethod y ∈ nT ∧ Cond.initialized y.cls ∈ nT ∧ Cond.code y bytes maxL none ∈ nT ∧ (y.name = "<init>" ∧ y.cls ≠ "java/lang/invoke/MethodHandle" ∧ y.cls ≠ "java/lang/invoke/VarHandle" ∧ (parseMethodDescriptor y.desc).map (fun d => d.parameters.length) = some 0)) (hNw : va_Nw (.methodLinkNest own idx y host) s) (hM : ∀ sz, Met l y (wsC y bytes maxL none) rm (nPreO D (nTy cI cR) [.ref b] wc sz) (QcE D V (va_A wc sz)) mc ms (va_A wc sz))
    (hrm : rm.cells = mc ∧ rm.slots = ms ∧ rm.frames + 1 ≤ R.frames ∧ 8 + (maxL + 11) + rm.locals ≤ R.locals) (hO : nO s) (hP : va_P D vwCl ws H) (hD : va_D A ws) (hS : va_S A s.heap H locs) (hA : ∀ q, s.heap.size ≤ q → A q) (hK : va_K D vwCl (nTy cI cR) s)
    (hC : isC.map (fun i => ws[i]?) = wc.map some) (hnC : va_nd isC = true) (hR : isR.map (fun i => ws[i]?) = wr.map some) (hnR : va_nd isR = true) (hdis : ∀ i ∈ isR, i ∉ isC)
    (hl : lv_has ls nL lv) (hcat : (rest.map fun v => v.category).sum ≤ 8) (hdg : decode cc pc = .ok (.invokespecial idx, 3)) (hf : cells + mc ≤ R.cells ∧ slots + ms ≤ R.slots)
    (kk : ∀ (x : α) (H1 : Heap) (locs1 : List Loc), va_P D vwCl (wr ++ V x) H1 → va_D A (wr ++ V x) → va_S A s.heap H1 locs1 → W p l e R s m args below meth c H1 locs1 (cells + mc) (slots + ms) Q (F0 m (pc + 3) ls rest)) : W p l e R s m args below meth c H locs cells slots Q (F0 m pc ls (.ref b :: rest)) := by
  have hPc := hP.sub isC (n_fmap hC)
  have hDc := hD.sub isC hnC hC
  have hF := va_free hD hS hA isC hC
  intro T hT X
  obtain ⟨v, st₀, t, T', L, h0, X', hL, e1, e2, ⟨hv, ⟨x, hP1, hD1⟩, hz, hkp⟩, stp⟩ := va_runIN (As := []) (rest := rest) ⟨hx, hb, hml, hown, hts⟩ (hM H.size) ⟨va_cnB 0 hts (wsC_good hk.2.2.1) rfl hrm.1 hrm.2.1 hNw (hts _ hk.2.1) hk.2.2.2.2 hrm.2.2, hk.2.2.2.1, hts _ hk.1⟩ ⟨nPreO_blind, nPreO_of hO hPc hK hDc⟩ (g := F0 m pc ls (.ref b :: rest)) rfl rfl hl.1 rfl (lv_room hcat) hdg hf T hT X
  have hv2 : v = none := Outcome.returned.inj hv
  subst hv2
  rw [h0] at hz hkp
  rw [← e1] at hP1 hz hkp
  obtain ⟨hPj, hDj⟩ := va_join hP hD isC isR hC hR hnR hdis hkp hF hP1 hD1
  obtain ⟨t2, a1, b1⟩ := kk x T'.heap (locs ++ L) hPj hDj ⟨Nat.le_trans hS.1 hz, fun q h1 h2 => by rw [hkp q (Nat.lt_of_lt_of_le h1 hS.1) (fun z => h2 (hF q z))]; exact hS.2.1 q h1 h2, fun q hq => by
      rcases List.mem_append.mp hq with h | h
      · exact hS.2.2 q h
      · exact hF _ (hL q h)⟩ T' rfl X'
  exact ⟨t2, stp t2 a1, b1⟩
end NNI
theorem vp_cell_eqq {c : ClassId} {n : Nat} {f g : Nat → Option Nat} (h : ∀ j, j < n → f j = g j) : vp_cell c (n, .inr (.inr (.inr (.inr f)))) = vp_cell c (n, .inr (.inr (.inr (.inr g)))) := by
  rw [vp_cell_q, vp_cell_q]
  unfold arrV
  congr 1
  refine Array.ext (by simp) fun i h1 h2 => ?_
  simp only [Array.getElem_ofFn]
  rw [h i (by simpa using h1)]
theorem va_P_cellq {D : va_G} {cl : List vw_C} {ws ws' : va_W} {H : Heap} (q : Nat) {a n : Nat} {c : ClassId} {f g : Nat → Option Nat} (ha : ws[q]? = some (a, .inl (c, n, .inr (.inr (.inr (.inr f)))))) (hw : ws.set q (a, .inl (c, n, .inr (.inr (.inr (.inr g))))) = ws') (h : ∀ j, j < n → f j = g j) (hP : va_P D cl ws H) : va_P D cl ws' H := by
  subst hw
  intro k x hx
  rw [List.getElem?_set] at hx
  by_cases e : q = k
  · subst e
    rw [if_pos rfl, if_pos (List.getElem?_eq_some_iff.mp ha).1] at hx
    cases hx
    have h1 := hP q _ ha
    show H[a]? = some (vp_cell c (n, .inr (.inr (.inr (.inr g)))))
    rw [← vp_cell_eqq h]
    exact h1
  · rw [if_neg e] at hx
    exact hP k x hx
theorem va_D_cellq {A : Nat → Prop} {ws ws' : va_W} (q : Nat) {a n : Nat} {c : ClassId} {f g : Nat → Option Nat} (ha : ws[q]? = some (a, .inl (c, n, .inr (.inr (.inr (.inr f)))))) (hw : ws.set q (a, .inl (c, n, .inr (.inr (.inr (.inr g))))) = ws') (hD : va_D A ws) : va_D A ws' := by
  subst hw
  exact hD.set ha
def vN (v : Value) : Nat → Value := fun _ => v
/-- the row of addresses -/
def a4 (x y z w : Nat) : Nat → Nat := fun k => match k with
  | 0 => x
  | 1 => y
  | 2 => z
  | _ => w
/-- the state that a new rope has -/
def σ0 : Nat → Nat := bgS 8 6 2
def wR0 (h : Nat) (cI : ClassId) (a : Nat → Nat) : va_W := wRp h a cI (σ0 0) (σ0 1) (σ0 2) (onF σ0) (wwF σ0) (crF σ0) (ptF σ0)
def h5f {α : Type} (x y z w v : α) : Nat → α := fun k => match k with
  | 0 => x
  | 1 => y
  | 2 => z
  | 3 => w
  | _ => v
abbrev cX5 : Type := Nat × (Nat → Nat) × (Nat → Nat → Nat)
def adF (x y z : Nat) (w : cX5) : Nat → Nat := fun k => match k with
  | 0 => x
  | 1 => y
  | 2 => z
  | 3 => w.1
  | n + 4 => w.2.1 n
def aaF (x y : Nat → Nat) (w : cX5) : Nat → Nat → Nat := fun k => match k with
  | 0 => x
  | 1 => y
  | n + 2 => w.2.2 n
def wC0 (h : Nat) (cI cR : ClassId) (x : (Nat → Nat) × (Nat → Nat → Nat)) : va_W := wCR h x.1 x.2 cI cR σ0 0 0 (fun _ => σ0) (fun _ => 0) 0 (fun _ => 0) 0
theorem k_RX3_25 : Cond.instanceMethod yX2_init ∈ nT ∧ Cond.initialized yX2_init.cls ∈ nT ∧ Cond.code yX2_init cX2_init 1 none ∈ nT ∧ (yX2_init.name = "<init>" ∧ yX2_init.cls ≠ "java/lang/invoke/MethodHandle" ∧ yX2_init.cls ≠ "java/lang/invoke/VarHandle" ∧ (parseMethodDescriptor yX2_init.desc).map (fun d => d.parameters.length) = some 0) := ⟨wl_mem 121 (by decide +kernel), wl_mem 22 (by decide +kernel), wl_mem 122 (by decide +kernel), by decide +kernel⟩
