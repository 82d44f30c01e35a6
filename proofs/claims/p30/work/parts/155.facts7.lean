/-! ===== the text: what a scan finds ===== -/
def scStep (b : Nat → Nat) (A hw i pl st wd fo : Nat) (g : Nat → Nat) : Option Nat × Nat × Nat × Nat × Nat × (Nat → Nat) :=
  if 48 ≤ b i ∧ b i < 56 then
    if pl = 2 ∨ (pl = 0 ∧ fo = A) then (some i, pl, st, wd, fo, g)
    else if pl = 0 then
      if 4 ≤ i - i ∨ hw < 8 * 0 + b i - 48 then (some i, 1, i, 8 * 0 + b i - 48, fo + 1, g) else (none, 1, i, 8 * 0 + b i - 48, fo + 1, va_up g (fo + 1 - 1) (8 * 0 + b i - 48))
    else if 4 ≤ i - st ∨ hw < 8 * wd + b i - 48 then (some st, pl, st, 8 * wd + b i - 48, fo, g) else (none, pl, st, 8 * wd + b i - 48, fo, va_up g (fo - 1) (8 * wd + b i - 48))
  else if b i = 44 ∧ ¬ pl = 0 then (none, 0, st, wd, fo, g)
  else if b i = 32 then (if pl = 1 then (none, 2, st, wd, fo, g) else (none, pl, st, wd, fo, g))
  else (some i, pl, st, wd, fo, g)
def scNext (b : Nat → Nat) (A hw i : Nat) (s : Option Nat × Nat × Nat × Nat × Nat × (Nat → Nat)) : Option Nat × Nat × Nat × Nat × Nat × (Nat → Nat) := match s.1 with
  | some _ => s
  | none => scStep b A hw i s.2.1 s.2.2.1 s.2.2.2.1 s.2.2.2.2.1 s.2.2.2.2.2
def scRun (b : Nat → Nat) (A hw : Nat) (g : Nat → Nat) : Nat → Option Nat × Nat × Nat × Nat × Nat × (Nat → Nat)
  | 0 => (none, 0, 0, 0, 0, g)
  | n + 1 => scNext b A hw n (scRun b A hw g n)
def scRes (b : Nat → Nat) (A hw : Nat) (g : Nat → Nat) (ln : Nat) : Int32 := match (scRun b A hw g ln).1 with
  | some r => nI r
  | none => if (scRun b A hw g ln).2.1 = 0 then nI ln else -1
theorem sc_one {b : Nat → Nat} {A hw : Nat} {g : Nat → Nat} {i pl st wd fo : Nat} {gg : Nat → Nat} {t : Option Nat × Nat × Nat × Nat × Nat × (Nat → Nat)} (h : scRun b A hw g i = (none, pl, st, wd, fo, gg)) (h2 : scStep b A hw i pl st wd fo gg = t) : scRun b A hw g (i + 1) = t := by
  rw [scRun, h]
  exact h2
theorem sc_stop {b : Nat → Nat} {A hw : Nat} {g : Nat → Nat} {i r : Nat} {t : Nat × Nat × Nat × Nat × (Nat → Nat)} (h : scRun b A hw g i = (some r, t)) : ∀ {m : Nat}, i ≤ m → scRun b A hw g m = (some r, t)
  | 0, hm => by rw [show i = 0 by omega] at h; exact h
  | m + 1, hm => by
    by_cases e : i = m + 1
    · subst e
      exact h
    · rw [scRun, sc_stop h (m := m) (by omega)]
      rfl
theorem scRes_some {b : Nat → Nat} {A hw : Nat} {g : Nat → Nat} {ln r : Nat} {t : Nat × Nat × Nat × Nat × (Nat → Nat)} (h : scRun b A hw g ln = (some r, t)) : nI r = scRes b A hw g ln := by
  unfold scRes
  rw [h]
theorem scRes_0 {b : Nat → Nat} {A hw : Nat} {g : Nat → Nat} {ln st wd fo pl : Nat} {gg : Nat → Nat} (h : scRun b A hw g ln = (none, pl, st, wd, fo, gg)) (h0 : pl = 0) : nI ln = scRes b A hw g ln := by
  unfold scRes
  rw [h]
  exact (if_pos h0).symm
theorem scRes_n {b : Nat → Nat} {A hw : Nat} {g : Nat → Nat} {ln st wd fo pl : Nat} {gg : Nat → Nat} (h : scRun b A hw g ln = (none, pl, st, wd, fo, gg)) (h0 : ¬ pl = 0) : -1 = scRes b A hw g ln := by
  unfold scRes
  rw [h]
  exact (if_neg h0).symm
