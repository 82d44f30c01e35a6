/-! ===== the state of a rope as numbers: σ 0 rings, σ 1 bits, σ 2 sets, σ (3 + r) codes, σ (19 + a) words, σ (67 + k) crossed, σ (100 + w) wrong weaves, σ (141 + a) patches, one up, 0 none ===== -/
def nW (σ : Nat → Nat) : Nat := 8 + σ 2 * (σ 1 + 1)
def nA (σ : Nat → Nat) : Nat := σ 0 * σ 2
def wf (σ : Nat → Nat) : Prop := 2 ≤ σ 0 ∧ σ 0 ≤ 16 ∧ 1 ≤ σ 1 ∧ σ 1 ≤ 10 ∧ 1 ≤ σ 2 ∧ σ 2 ≤ 3 ∧ (∀ r, r < σ 0 → σ (3 + r) < 16) ∧ (∀ r q, r < σ 0 → q < σ 0 → σ (3 + r) = σ (3 + q) → r = q) ∧ (∀ a, a < nA σ → σ (19 + a) < 2 ^ σ 1) ∧ (∀ k, k < σ 2 * (σ 1 + 1) → σ (67 + k) ≤ 1) ∧ (∀ w, w < nW σ → σ (100 + w) < 2 ^ σ 0) ∧ (∀ a, a < nA σ → σ (141 + a) ≤ 2 ^ σ 1)
theorem wf.a33 {σ : Nat → Nat} (h : wf σ) : σ 2 * (σ 1 + 1) ≤ 33 := by
  obtain ⟨-, -, -, h1, -, h2, -⟩ := h
  calc σ 2 * (σ 1 + 1) ≤ 3 * 11 := Nat.mul_le_mul h2 (by omega)
    _ = 33 := rfl
theorem wf.w41 {σ : Nat → Nat} (h : wf σ) : nW σ ≤ 41 := by
  have := h.a33
  unfold nW
  omega
theorem wf.a48 {σ : Nat → Nat} (h : wf σ) : nA σ ≤ 48 := by
  obtain ⟨-, h1, -, -, -, h2, -⟩ := h
  calc σ 0 * σ 2 ≤ 16 * 3 := Nat.mul_le_mul h1 h2
    _ = 48 := rfl
theorem p2_16 {n : Nat} (h : n ≤ 16) : 2 ^ n ≤ 65536 := Nat.pow_le_pow_right (by decide) h
theorem p2_10 {n : Nat} (h : n ≤ 10) : 2 ^ n ≤ 1024 := Nat.pow_le_pow_right (by decide) h
theorem wf.wd {σ : Nat → Nat} (h : wf σ) {a : Nat} (ha : a < nA σ) : σ (19 + a) < 1024 := Nat.lt_of_lt_of_le (h.2.2.2.2.2.2.2.2.1 a ha) (p2_10 h.2.2.2.1)
theorem wf.sp {σ : Nat → Nat} (h : wf σ) {w : Nat} (hw : w < nW σ) : σ (100 + w) < 65536 := Nat.lt_of_lt_of_le (h.2.2.2.2.2.2.2.2.2.2.1 w hw) (p2_16 h.2.1)
theorem wf.pt {σ : Nat → Nat} (h : wf σ) {a : Nat} (ha : a < nA σ) : σ (141 + a) ≤ 1024 := Nat.le_trans (h.2.2.2.2.2.2.2.2.2.2.2 a ha) (p2_10 h.2.2.2.1)
theorem wf.cd {σ : Nat → Nat} (h : wf σ) {r : Nat} (hr : r < σ 0) : σ (3 + r) < 16 := h.2.2.2.2.2.2.1 r hr
/-- the bit of a word, or its parity bit -/
def sbit (σ : Nat → Nat) (a b : Nat) : Bool := if b < σ 1 then (σ (19 + a)).testBit b else pop (σ (19 + a)) % 2 == 0
def ihb (σ : Nat → Nat) (w r : Nat) : Bool := (σ (3 + r)).testBit (w / 2) == (w % 2 == 1)
def tdB (σ : Nat → Nat) (w r : Nat) : Bool := sbit σ (σ 2 * r + (w - 8) / (σ 1 + 1)) ((w - 8) % (σ 1 + 1))
def onB (σ : Nat → Nat) (w r : Nat) : Bool := if w < 8 then ihb σ w r else tdB σ w r
def onM (σ : Nat → Nat) (w : Nat) : Nat := if w < nW σ then mk (onB σ w) (σ 0) else 0
def crN (σ : Nat → Nat) (w : Nat) : Nat := if w < 8 then 0 else σ (67 + (w - 8))
def onF (σ : Nat → Nat) : Nat → Int32 := fun w => nI (onM σ w)
def wwF (σ : Nat → Nat) : Nat → Int32 := fun w => nI (σ (100 + w))
def crF (σ : Nat → Nat) : Nat → Int32 := fun w => nI (crN σ w)
def ptF (σ : Nat → Nat) : Nat → Int32 := fun a => nI (σ (141 + a)) - 1
def rtB (σ : Nat → Nat) (w r : Nat) : Bool := onB σ w r ^^ (crN σ w == 1)
def rtM (σ : Nat → Nat) (w : Nat) : Nat := mk (rtB σ w) (σ 0)
def wvM (σ : Nat → Nat) (w : Nat) : Nat := rtM σ w ^^^ σ (100 + w)
/-- the wire that is on for the bit b of a code -/
def wOn (c b : Nat) : Nat := 2 * b + 1 - (c >>> b &&& 1)
def ihA (wv : Nat → Nat) (c : Nat) : Nat → Nat
  | 0 => 0
  | n + 1 => ihA wv c n ||| wv (wOn c n)
def pkA (wv : Nat → Nat) (R c : Nat) : Nat → Nat
  | 0 => 1 <<< R - 1
  | n + 1 => nw_wo (pkA wv R c n) (wv (wOn c n))
def pkM (wv : Nat → Nat) (σ : Nat → Nat) (c : Nat) : Nat := pkA wv (σ 0) c 4
theorem wOn_lt {c b : Nat} (h : b < 4) : wOn c b < 8 := by
  unfold wOn
  omega
theorem ihA_pkA (wv : Nat → Nat) (R c : Nat) : ∀ n, nw_wo (1 <<< R - 1) (ihA wv c n) = pkA wv R c n
  | 0 => by
    refine mk_ext fun i => ?_
    rw [nw_wo_bit]
    simp [ihA, pkA]
  | n + 1 => by
    have ih := ihA_pkA wv R c n
    refine mk_ext fun i => ?_
    rw [pkA, ← ih, nw_wo_bit, nw_wo_bit, nw_wo_bit, ihA, Nat.testBit_or]
    cases (1 <<< R - 1).testBit i <;> cases (ihA wv c n).testBit i <;> simp
theorem pkA_bit (wv : Nat → Nat) (R c i : Nat) : ∀ n, (pkA wv R c n).testBit i = (decide (i < R) && (List.range n).all fun b => !(wv (wOn c b)).testBit i)
  | 0 => by rw [pkA, mk_full]; simp
  | n + 1 => by
    rw [pkA, nw_wo_bit, pkA_bit wv R c i n, List.range_succ, List.all_append]
    simp [Bool.and_assoc]
theorem pkM_cong {wv wv' : Nat → Nat} {σ : Nat → Nat} {c : Nat} (h : ∀ w, w < 8 → wv w = wv' w) : pkM wv σ c = pkM wv' σ c := by
  have hk : ∀ n, n ≤ 4 → pkA wv (σ 0) c n = pkA wv' (σ 0) c n := by
    intro n
    induction n with
    | zero => intro _; rfl
    | succ n ih => intro hn; rw [pkA, pkA, ih (by omega), h _ (wOn_lt (by omega))]
  exact hk 4 (Nat.le_refl 4)
theorem pkM_lt (wv : Nat → Nat) (σ : Nat → Nat) (c : Nat) : pkM wv σ c < 2 ^ σ 0 := by
  refine Nat.lt_pow_two_of_testBit _ fun i hi => ?_
  unfold pkM
  rw [pkA_bit]
  simp [Nat.not_lt.mpr hi]
def swN (σ : Nat → Nat) (t b : Nat) : Nat := 8 + t * (σ 1 + 1) + b
theorem sw_lt {σ : Nat → Nat} {t b : Nat} (ht : t < σ 2) (hb : b < σ 1 + 1) : 8 + t * (σ 1 + 1) + b < nW σ := by
  unfold nW
  have h1 : (t + 1) * (σ 1 + 1) ≤ σ 2 * (σ 1 + 1) := Nat.mul_le_mul_right _ ht
  rw [Nat.succ_mul] at h1
  omega
def rwB (wv : Nat → Nat) (σ : Nat → Nat) (a b : Nat) : Bool := (wv (8 + a % σ 2 * (σ 1 + 1) + b) &&& pkM wv σ (σ (3 + a / σ 2)) != 0) ^^ (crN σ (8 + a % σ 2 * (σ 1 + 1) + b) == 1)
def rwM (wv : Nat → Nat) (σ : Nat → Nat) (a : Nat) : Nat := mk (rwB wv σ a) (σ 1 + 1)
def rbB (σ : Nat → Nat) (t pk b : Nat) : Bool := (rtM σ (8 + t * (σ 1 + 1) + b) &&& pk != 0) ^^ (crN σ (8 + t * (σ 1 + 1) + b) == 1)
def rbM (σ : Nat → Nat) (t pk : Nat) : Nat := mk (rbB σ t pk) (σ 1 + 1)
def rrN (σ : Nat → Nat) (a : Nat) : Nat := rwM (wvM σ) σ a &&& (1 <<< σ 1 - 1)
def rdN (σ : Nat → Nat) (a : Nat) : Nat := if σ (141 + a) = 0 then rrN σ a else σ (141 + a) - 1
def paB (σ : Nat → Nat) (a : Nat) : Bool := σ (141 + a) != 0 || pop (rwM (wvM σ) σ a) % 2 == 1
def msB (σ : Nat → Nat) (a : Nat) : Bool := rdN σ a != σ (19 + a)
def iwB (σ : Nat → Nat) (k a : Nat) : Bool := if k = 0 then msB σ a else if k = 1 then !paB σ a else if k = 2 then msB σ a && paB σ a else rrN σ a != σ (19 + a)
def csN (σ : Nat → Nat) (w : Nat) : Nat := pop (rtM σ w) + crN σ w
def sm (f : Nat → Nat) : Nat → Nat
  | 0 => 0
  | n + 1 => sm f n + f n
def nuN (σ : Nat → Nat) (k : Nat) : Nat := if k = 0 then σ 0 else if k = 1 then σ 1 else if k = 2 then σ 2 else if k = 3 then nA σ else if k = 4 then nW σ else if k = 5 then sm (crN σ) (nW σ) else if k = 6 then sm (fun w => pop (σ (100 + w))) (nW σ) else if k = 7 then ct (fun a => σ (141 + a) != 0) (nA σ) else sm (csN σ) (nW σ)
def fsf (p : Nat → Bool) : Nat → Nat
  | 0 => 0
  | n + 1 => if fsf p n < n then fsf p n else if p n then n else n + 1
theorem fsf_le (p : Nat → Bool) : ∀ n, fsf p n ≤ n
  | 0 => Nat.le_refl 0
  | n + 1 => by
    have ih := fsf_le p n
    rw [fsf]
    split
    · omega
    · split <;> omega
theorem fsf_none {p : Nat → Bool} : ∀ {n : Nat}, (∀ j, j < n → p j = false) → fsf p n = n
  | 0, _ => rfl
  | n + 1, h => by
    rw [fsf, fsf_none (n := n) (fun j hj => h j (by omega)), if_neg (by omega), h n (by omega)]
    rfl
theorem fsf_at {p : Nat → Bool} {i : Nat} (h : ∀ j, j < i → p j = false) (hi : p i = true) : ∀ {n : Nat}, i < n → fsf p n = i
  | 0, q => absurd q (Nat.not_lt_zero _)
  | n + 1, q => by
    rw [fsf]
    by_cases e : i = n
    · subst e
      rw [fsf_none h, if_neg (by omega), if_pos hi]
    · rw [fsf_at h hi (n := n) (by omega), if_pos (by omega)]
theorem fsf_no {p : Nat → Bool} : ∀ {n k : Nat}, k < fsf p n → p k = false
  | 0, k, h => absurd h (Nat.not_lt_zero k)
  | n + 1, k, h => by
    rw [fsf] at h
    split at h
    · exact fsf_no h
    · rename_i h1
      have h2 := fsf_le p n
      split at h
      · exact fsf_no (n := n) (by omega)
      · rename_i h3
        by_cases e : k = n
        · subst e
          exact Bool.eq_false_iff.mpr h3
        · exact fsf_no (n := n) (by omega)
theorem fsf_yes {p : Nat → Bool} : ∀ {n : Nat}, fsf p n < n → p (fsf p n) = true
  | 0, h => absurd h (Nat.not_lt_zero _)
  | n + 1, h => by
    rw [fsf] at h ⊢
    split
    · rename_i h1
      exact fsf_yes h1
    · rename_i h1
      rw [if_neg h1] at h
      split
      · rename_i h2
        exact h2
      · rename_i h2
        rw [if_neg h2] at h
        omega
/-- the ring that has a code, or -1 -/
def rcF (σ : Nat → Nat) (c : Nat) : Int32 := if fsf (fun r => σ (3 + r) == c) (σ 0) < σ 0 then nI (fsf (fun r => σ (3 + r) == c) (σ 0)) else -1
theorem rcF_yes {σ : Nat → Nat} {c i : Nat} (h : ∀ j, j < i → ¬ σ (3 + j) = c) (hi : σ (3 + i) = c) (hn : i < σ 0) : nI i = rcF σ c := by
  have e := fsf_at (p := fun r => σ (3 + r) == c) (i := i) (fun j hj => by simp [h j hj]) (by simp [hi]) hn
  unfold rcF
  rw [e, if_pos hn]
theorem rcF_no {σ : Nat → Nat} {c : Nat} (h : ∀ j, j < σ 0 → ¬ σ (3 + j) = c) : -1 = rcF σ c := by
  have e := fsf_none (p := fun r => σ (3 + r) == c) (n := σ 0) (fun j hj => by simp [h j hj])
  unfold rcF
  rw [e, if_neg (Nat.lt_irrefl _)]
theorem rcF_cases (σ : Nat → Nat) (c : Nat) : (∃ i, i < σ 0 ∧ σ (3 + i) = c ∧ rcF σ c = nI i) ∨ ((∀ j, j < σ 0 → ¬ σ (3 + j) = c) ∧ rcF σ c = -1) := by
  by_cases h : fsf (fun r => σ (3 + r) == c) (σ 0) < σ 0
  · refine Or.inl ⟨_, h, ?_, by unfold rcF; rw [if_pos h]⟩
    have := fsf_yes h
    simpa using this
  · refine Or.inr ⟨fun j hj e => ?_, by unfold rcF; rw [if_neg h]⟩
    have h1 : j < fsf (fun r => σ (3 + r) == c) (σ 0) := by omega
    have := fsf_no h1
    simp [e] at this
def stA (σ : Nat → Nat) : Nat → Nat
  | 0 => 0
  | n + 1 => if rwM (wvM σ) σ n = rbM σ (n % σ 2) (1 <<< (n / σ 2)) then stA σ n else stA σ n ||| 1 <<< (n / σ 2)
def tnN (σ : Nat → Nat) (w t : Nat) : Nat := if 8 + t * (σ 1 + 1) ≤ w ∧ w ≤ 8 + t * (σ 1 + 1) + σ 1 then 1 <<< (w - (8 + t * (σ 1 + 1))) else 0
def snE (σ : Nat → Nat) (w r : Nat) : Bool := stA σ (nA σ) == 1 <<< r && (List.range (σ 2)).all fun t => rwM (wvM σ) σ (σ 2 * r + t) == rbM σ t (1 <<< r) ^^^ tnN σ w t
def ihT (σ : Nat → Nat) (q pk : Nat) : Bool := nw_wo (stA σ (nA σ)) (1 <<< q) == 0 && (List.range (σ 2)).all fun t => rwM (wvM σ) σ (σ 2 * q + t) == rbM σ t pk
def ihE (σ : Nat → Nat) (w r : Nat) : Bool := if ihb σ w r then (if fsf (fun q => σ (3 + q) == σ (3 + r) ^^^ 1 <<< (w / 2)) (σ 0) < σ 0 then ihT σ (fsf (fun q => σ (3 + q) == σ (3 + r) ^^^ 1 <<< (w / 2)) (σ 0)) (1 <<< r ||| 1 <<< (fsf (fun q => σ (3 + q) == σ (3 + r) ^^^ 1 <<< (w / 2)) (σ 0))) else stA σ (nA σ) == 0) else ihT σ r 0
def exE (σ : Nat → Nat) (w r : Nat) : Bool := if w < 8 then ihE σ w r else snE σ w r
/-- the rank-th of the numbers below n that p has, as the weave 16 * (i / R) + i % R; -1 if there are not so many -/
def exV (p : Nat → Bool) (R rank : Nat) : Nat → Int32
  | 0 => -1
  | n + 1 => if rank < ct p n then exV p R rank n else if p n && ct p n == rank then nI (16 * (n / R) + n % R) else -1
def hs (g : Nat → Int32) : Nat → Int64 → Int64
  | 0, x => x
  | n + 1, x => 31 * hs g n x + (g n).toInt64
