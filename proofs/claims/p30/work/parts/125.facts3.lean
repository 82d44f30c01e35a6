/-! ===== writing: a world in other words, numbers in rows ===== -/
def nF (g : Nat → Nat) : Nat → Int32 := fun w => nI (g w)
theorem upd_nF (g : Nat → Nat) (w x : Nat) : upd (nF g) w (nI x) = nF (va_up g w x) := by
  funext j
  unfold upd nF va_up
  by_cases h : j = w <;> simp [h]
theorem up_s {α : Type} (g : Nat → α) (w : Nat) (x : α) : va_up g w x w = x := by unfold va_up; rw [if_pos rfl]
theorem up_n {α : Type} (g : Nat → α) {w j : Nat} (x : α) (h : ¬ j = w) : va_up g w x j = g j := by unfold va_up; rw [if_neg h]
def pbN (x r b : Nat) : Nat := nw_wo x (1 <<< r) ||| b <<< r
theorem pbN_bit (x r : Nat) (b : Bool) (i : Nat) : (pbN x r b.toNat).testBit i = if i = r then b else x.testBit i := by
  unfold pbN
  rw [Nat.testBit_or, nw_wo_bit, b1_bit]
  have h : (1 <<< r).testBit i = decide (i = r) := by
    have := b1_bit true r i
    simpa using this
  rw [h]
  by_cases e : i = r <;> simp [e]
def pcG (g : Nat → Nat) (r c n : Nat) : Nat → Nat := fun w => if w < n then pbN (g w) r (c.testBit (w / 2) == (w % 2 == 1)).toNat else g w
theorem pc_0 (g : Nat → Nat) (r c : Nat) : nF g = nF (pcG g r c (2 * 0)) := by
  funext j
  unfold nF pcG
  rw [if_neg (by omega)]
theorem pc_step (g : Nat → Nat) (r c i : Nat) : va_up (va_up (pcG g r c (2 * i)) (2 * i) (pbN (pcG g r c (2 * i) (2 * i)) r (1 - (c.testBit i).toNat))) (2 * i + 1) (pbN (va_up (pcG g r c (2 * i)) (2 * i) (pbN (pcG g r c (2 * i) (2 * i)) r (1 - (c.testBit i).toNat)) (2 * i + 1)) r (c.testBit i).toNat) = pcG g r c (2 * (i + 1)) := by
  funext j
  by_cases h1 : j = 2 * i + 1
  · subst h1
    rw [up_s, up_n _ _ (by omega)]
    unfold pcG
    rw [if_neg (by omega), if_pos (by omega), show (2 * i + 1) / 2 = i by omega, show (2 * i + 1) % 2 = 1 by omega]
    simp
  · rw [up_n _ _ h1]
    by_cases h2 : j = 2 * i
    · subst h2
      rw [up_s]
      unfold pcG
      rw [if_neg (by omega), if_pos (by omega), show (2 * i) / 2 = i by omega, show (2 * i) % 2 = 0 by omega]
      cases c.testBit i <;> rfl
    · rw [up_n _ _ h2]
      unfold pcG
      by_cases h3 : j < 2 * i
      · rw [if_pos h3, if_pos (by omega)]
      · rw [if_neg h3, if_neg (by omega)]
def wbt (B wd j : Nat) : Bool := if j < B then wd.testBit j else pop wd % 2 == 0
def pwG (S B : Nat) (g : Nat → Nat) (ad wd n : Nat) : Nat → Nat := fun w => if 8 + ad % S * (B + 1) ≤ w ∧ w < 8 + ad % S * (B + 1) + n then pbN (g w) (ad / S) (wbt B wd (w - (8 + ad % S * (B + 1)))).toNat else g w
theorem pw_0 (S B : Nat) (g : Nat → Nat) (ad wd : Nat) : nF g = nF (pwG S B g ad wd 0) := by
  funext j
  unfold nF pwG
  rw [if_neg (by omega)]
theorem pw_step (S B : Nat) (g : Nat → Nat) (ad wd i : Nat) : va_up (pwG S B g ad wd i) (8 + ad % S * (B + 1) + i) (pbN (pwG S B g ad wd i (8 + ad % S * (B + 1) + i)) (ad / S) (wbt B wd i).toNat) = pwG S B g ad wd (i + 1) := by
  funext j
  by_cases h1 : j = 8 + ad % S * (B + 1) + i
  · subst h1
    rw [up_s]
    unfold pwG
    rw [if_neg (by omega), if_pos (by omega), show 8 + ad % S * (B + 1) + i - (8 + ad % S * (B + 1)) = i by omega]
  · rw [up_n _ _ h1]
    unfold pwG
    by_cases h2 : 8 + ad % S * (B + 1) ≤ j ∧ j < 8 + ad % S * (B + 1) + i
    · rw [if_pos h2, if_pos (by omega)]
    · rw [if_neg h2, if_neg (by omega)]
theorem wbt_lo {B wd i : Nat} (h : i < B) : (wd.testBit i).toNat = (wbt B wd i).toNat := by unfold wbt; rw [if_pos h]
theorem wbt_hi {B wd : Nat} : 1 - (pop wd &&& 1) = (wbt B wd B).toNat := by
  unfold wbt
  rw [if_neg (Nat.lt_irrefl _), Nat.and_one_is_mod]
  rcases Nat.mod_two_eq_zero_or_one (pop wd) with h | h <;> rw [h] <;> rfl
def zfF (f : Nat → Int32) (z : Int32) (n : Nat) : Nat → Int32 := fun w => if w < n then z else f w
theorem zf_0 (f : Nat → Int32) (z : Int32) : f = zfF f z 0 := by
  funext j
  unfold zfF
  rw [if_neg (by omega)]
theorem zf_s (f : Nat → Int32) (z : Int32) (i : Nat) : upd (zfF f z i) i z = zfF f z (i + 1) := by
  funext j
  unfold upd zfF
  by_cases h : j = i
  · rw [if_pos h, if_pos (by omega)]
  · rw [if_neg h]
    by_cases h2 : j < i
    · rw [if_pos h2, if_pos (by omega)]
    · rw [if_neg h2, if_neg (by omega)]
def scG : Nat → Nat → Nat
  | 0 => fun _ => 0
  | n + 1 => pcG (scG n) n n 8
def swG (R B S : Nat) : Nat → Nat → Nat
  | 0 => scG R
  | n + 1 => pwG S B (swG R B S n) n 0 (B + 1)
/-- one world holds where another does -/
def nTo (D : va_G) (w1 w2 : va_W) : Prop := (∀ H, va_P D vwCl w1 H → va_P D vwCl w2 H) ∧ ∀ A : Nat → Prop, va_D A w1 → va_D A w2
theorem nTo.rf {D : va_G} {w : va_W} : nTo D w w := ⟨fun _ h => h, fun _ h => h⟩
theorem nTo.tr {D : va_G} {w1 w2 w3 : va_W} (h : nTo D w1 w2) (k : nTo D w2 w3) : nTo D w1 w3 := ⟨fun H q => k.1 H (h.1 H q), fun A q => k.2 A (h.2 A q)⟩
theorem nTo.app {D : va_G} {v1 v2 w1 w2 : va_W} (hv : v1.map Prod.fst = v2.map Prod.fst) (hw : w1.map Prod.fst = w2.map Prod.fst) (h : ∀ H, va_P D vwCl v1 H → va_P D vwCl v2 H) (k : ∀ H, va_P D vwCl w1 H → va_P D vwCl w2 H) : nTo D (v1 ++ w1) (v2 ++ w2) := by
  have hl : v1.length = v2.length := by have := congrArg List.length hv; simpa using this
  have hl2 : w1.length = w2.length := by have := congrArg List.length hw; simpa using this
  have hm : (v1 ++ w1).map Prod.fst = (v2 ++ w2).map Prod.fst := by rw [List.map_append, List.map_append, hv, hw]
  have ad : ∀ {k : Nat} {q : Nat × va_E}, (v2 ++ w2)[k]? = some q → ∃ q' : Nat × va_E, (v1 ++ w1)[k]? = some q' ∧ q'.1 = q.1 := by
    intro k q hq
    have h1 : ((v2 ++ w2).map Prod.fst)[k]? = some q.1 := by rw [List.getElem?_map, hq]; rfl
    rw [← hm, List.getElem?_map] at h1
    cases hz : (v1 ++ w1)[k]? with
    | none => rw [hz] at h1; cases h1
    | some q' => rw [hz] at h1; exact ⟨q', rfl, Option.some.inj h1⟩
  refine ⟨fun H q => va_P.app (h H fun i x hx => q i x ?_) (k H fun i x hx => q (v1.length + i) x ?_), fun A q => ⟨fun i j x y hx hy e => ?_, fun i x hx => ?_⟩⟩
  · rw [List.getElem?_append_left (List.getElem?_eq_some_iff.mp hx).1]
    exact hx
  · rw [List.getElem?_append_right (by omega), Nat.add_sub_cancel_left]
    exact hx
  · obtain ⟨x', hx', ex⟩ := ad hx
    obtain ⟨y', hy', ey⟩ := ad hy
    exact q.1 i j x' y' hx' hy' (by rw [ex, ey, e])
  · obtain ⟨x', hx', ex⟩ := ad hx
    rw [← ex]
    exact q.2 i x' hx'
theorem vp_cell_eq {c : ClassId} {n : Nat} {f g : Nat → Int32} (h : ∀ j, j < n → f j = g j) : vp_cell c (n, .inl f) = vp_cell c (n, .inl g) := by
  rw [vp_cell_i, vp_cell_i]
  unfold arrV
  congr 1
  refine Array.ext (by simp) fun i h1 h2 => ?_
  simp only [Array.getElem_ofFn]
  rw [h i (by simpa using h1)]
theorem va_P_cell {D : va_G} {cl : List vw_C} {ws ws' : va_W} {H : Heap} (q : Nat) {a n : Nat} {c : ClassId} {f g : Nat → Int32} (ha : ws[q]? = some (a, .inl (c, n, .inl f))) (hw : ws.set q (a, .inl (c, n, .inl g)) = ws') (h : ∀ j, j < n → f j = g j) (hP : va_P D cl ws H) : va_P D cl ws' H := by
  subst hw
  intro k x hx
  rw [List.getElem?_set] at hx
  by_cases e : q = k
  · subst e
    rw [if_pos rfl, if_pos (List.getElem?_eq_some_iff.mp ha).1] at hx
    cases hx
    have h1 := hP q _ ha
    show H[a]? = some (vp_cell c (n, .inl g))
    rw [← vp_cell_eq h]
    exact h1
  · rw [if_neg e] at hx
    exact hP k x hx
theorem va_D_cell {A : Nat → Prop} {ws ws' : va_W} (q : Nat) {a n : Nat} {c : ClassId} {f g : Nat → Int32} (ha : ws[q]? = some (a, .inl (c, n, .inl f))) (hw : ws.set q (a, .inl (c, n, .inl g)) = ws') (hD : va_D A ws) : va_D A ws' := by
  subst hw
  exact hD.set ha
theorem rp_to {D : va_G} {h : Nat} {a : Nat → Nat} {cI : ClassId} {R B S R' B' S' : Nat} {f0 f1 f2 f3 g0 g1 g2 g3 : Nat → Int32} (eR : R = R') (eB : B = B') (eS : S = S') (h0 : ∀ j, j < 41 → f0 j = g0 j) (h1 : ∀ j, j < 41 → f1 j = g1 j) (h2 : ∀ j, j < 41 → f2 j = g2 j) (h3 : ∀ j, j < 48 → f3 j = g3 j) : nTo D (wRp h a cI R B S f0 f1 f2 f3) (wRp h a cI R' B' S' g0 g1 g2 g3) := by
  subst eR eB eS
  refine ⟨fun H hP => ?_, fun A hD => ?_⟩
  · have p1 : va_P D vwCl (wRp h a cI R B S g0 f1 f2 f3) H := va_P_cell 1 rfl rfl h0 hP
    have p2 : va_P D vwCl (wRp h a cI R B S g0 g1 f2 f3) H := va_P_cell 2 rfl rfl h1 p1
    have p3 : va_P D vwCl (wRp h a cI R B S g0 g1 g2 f3) H := va_P_cell 3 rfl rfl h2 p2
    exact va_P_cell 4 rfl rfl h3 p3
  · have p1 : va_D A (wRp h a cI R B S g0 f1 f2 f3) := va_D_cell 1 (f := f0) rfl rfl hD
    have p2 : va_D A (wRp h a cI R B S g0 g1 f2 f3) := va_D_cell 2 (f := f1) rfl rfl p1
    have p3 : va_D A (wRp h a cI R B S g0 g1 g2 f3) := va_D_cell 3 (f := f2) rfl rfl p2
    exact va_D_cell 4 (f := f3) rfl rfl p3
theorem Met.to {l : Launch} {y : MethodName} {ws : List Cond} {rm : Room} {Pc : Array Value → State → Prop} {D : va_G} {oc : Option Value} {w1 w2 : va_W} {A : Nat → Prop} {mc ms : Nat} {free : Addr → Prop} (h : Met l y ws rm Pc (QcM D oc w1 A) mc ms free) (t : nTo D w1 w2) : Met l y ws rm Pc (QcM D oc w2 A) mc ms free := by
  intro p e ha hc hk s m args below hf hs hP hK
  obtain ⟨n, o, h1, h2, h3, ⟨q1, q2, q3, q4⟩, h5⟩ := h p e ha hc hk s m args below hf hs hP hK
  exact ⟨n, o, h1, h2, h3, ⟨q1, t.1 _ q2, t.2 _ q3, q4⟩, h5⟩
theorem cpy_all {α : Type} {f g : Nat → α} {sp dp n N j : Nat} (h1 : sp = 0) (h2 : dp = 0) (h3 : n = N) (hj : j < N) : va_cpy f g sp dp n j = f j := by
  subst h1 h2 h3
  rw [pk_cpy_in (Nat.zero_le j) (by omega)]
  congr 1
  omega
