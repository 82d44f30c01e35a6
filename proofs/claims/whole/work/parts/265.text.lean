/-! ===== the class' scan and the model's reading find the same ===== -/
theorem sc_next {b : Nat → Nat} {A hw : Nat} {g : Nat → Nat} {i pl st wd fo : Nat} {gg : Nat → Nat} (h : scRun b A hw g i = (none, pl, st, wd, fo, gg)) : scRun b A hw g (i + 1) = scStep b A hw i pl st wd fo gg := sc_one h rfl
theorem sx_sp {b : Nat → Nat} {A hw i pl st wd fo : Nat} {gg : Nat → Nat} (h : b i = 32) : scStep b A hw i pl st wd fo gg = (none, if pl = 1 then 2 else pl, st, wd, fo, gg) := by
  unfold scStep
  rw [if_neg (by omega), if_neg (by omega), if_pos h]
  split
  · rfl
  · rfl
theorem sx_no {b : Nat → Nat} {A hw i pl st wd fo : Nat} {gg : Nat → Nat} (h : ¬ (48 ≤ b i ∧ b i < 56)) (h2 : ¬ b i = 32) (h3 : b i = 44 → pl = 0) : scStep b A hw i pl st wd fo gg = (some i, pl, st, wd, fo, gg) := by
  unfold scStep
  rw [if_neg h, if_neg (by omega), if_neg h2]
theorem sx_44 {b : Nat → Nat} {A hw i pl st wd fo : Nat} {gg : Nat → Nat} (h : b i = 44) (h2 : ¬ pl = 0) : scStep b A hw i pl st wd fo gg = (none, 0, st, wd, fo, gg) := by
  unfold scStep
  rw [if_neg (by omega), if_pos ⟨h, h2⟩]
theorem sx_full {b : Nat → Nat} {A hw i pl st wd fo : Nat} {gg : Nat → Nat} (h : 48 ≤ b i ∧ b i < 56) (h2 : pl = 2 ∨ (pl = 0 ∧ fo = A)) : scStep b A hw i pl st wd fo gg = (some i, pl, st, wd, fo, gg) := by
  unfold scStep
  rw [if_pos h, if_pos h2]
/-- spaces before a word, or behind one -/
theorem sc_ne1 {b : Nat → Nat} {A hw : Nat} {g : Nat → Nat} {ln st wd fo : Nat} {gg : Nat → Nat} : ∀ n i pl, ¬ pl = 1 → scRun b A hw g i = (none, pl, st, wd, fo, gg) → scRun b A hw g (skF b ln n i) = (none, pl, st, wd, fo, gg)
  | 0, i, pl, h0, h => h
  | n + 1, i, pl, h0, h => by
    rw [skF]
    split
    · rename_i q
      have h1 := sc_next h
      rw [sx_sp q.2, if_neg h0] at h1
      exact sc_ne1 n (i + 1) pl h0 h1
    · exact h
theorem sc_skF {b : Nat → Nat} {A hw : Nat} {g : Nat → Nat} {ln st wd fo : Nat} {gg : Nat → Nat} : ∀ n i pl, scRun b A hw g i = (none, pl, st, wd, fo, gg) → ∃ pl', scRun b A hw g (skF b ln n i) = (none, pl', st, wd, fo, gg) ∧ (pl = 0 → pl' = 0) ∧ (1 ≤ pl → 1 ≤ pl') ∧ (pl' = 1 → skF b ln n i = i)
  | 0, i, pl, h => ⟨pl, h, fun e => e, fun e => e, fun _ => rfl⟩
  | n + 1, i, pl, h => by
    rw [skF]
    split
    · rename_i q
      have h1 := sc_next h
      rw [sx_sp q.2] at h1
      have hne : ¬ (if pl = 1 then 2 else pl) = 1 := by split <;> omega
      exact ⟨_, sc_ne1 n (i + 1) _ hne h1, fun e => by rw [if_neg (by omega)]; exact e, fun e => by split <;> omega, fun e => absurd e hne⟩
    · exact ⟨pl, h, fun e => e, fun e => e, fun _ => rfl⟩
theorem va_up2 {f : Nat → Nat} {k x y : Nat} : va_up (va_up f k x) k y = va_up f k y := by
  funext j
  by_cases h : j = k
  · subst h; rw [up_s, up_s]
  · rw [up_ne h, up_ne h, up_ne h]
theorem vl_s {b : Nat → Nat} {s k : Nat} (h : k < 5) : vlN b s (k + 1) = 8 * vlN b s k + b (s + k) - 48 := by rw [vlN, if_pos h]
theorem vl_mono {b : Nat → Nat} {s : Nat} : ∀ n k, (∀ j, k ≤ j → j < k + n → 48 ≤ b (s + j)) → vlN b s k ≤ vlN b s (k + n)
  | 0, k, _ => Nat.le_refl _
  | n + 1, k, h => by
    have ih := vl_mono n k (fun j h1 h2 => h j h1 (by omega))
    have hd := h (k + n) (by omega) (by omega)
    rw [show k + (n + 1) = (k + n) + 1 from rfl, vlN]
    split
    · omega
    · exact ih
theorem dgF_d (b : Nat → Nat) (ln : Nat) : ∀ n i j, i ≤ j → j < dgF b ln n i → j < ln ∧ (48 ≤ b j ∧ b j ≤ 55)
  | 0, i, j, h1, h2 => by
    have h3 : j < i := h2
    omega
  | n + 1, i, j, h1, h2 => by
    rw [dgF] at h2
    split at h2
    · rename_i q
      by_cases e : i = j
      · subst e
        exact q
      · exact dgF_d b ln n (i + 1) j (by omega) h2
    · omega
theorem dgF_e (b : Nat → Nat) (ln : Nat) : ∀ n i, ln ≤ i + n → ¬ (dgF b ln n i < ln ∧ (48 ≤ b (dgF b ln n i) ∧ b (dgF b ln n i) ≤ 55))
  | 0, i, h => by
    show ¬ (i < ln ∧ (48 ≤ b i ∧ b i ≤ 55))
    omega
  | n + 1, i, h => by
    rw [dgF]
    split
    · exact dgF_e b ln n (i + 1) (by omega)
    · rename_i q
      exact q
/-- a word's digits -/
theorem sc_word {b : Nat → Nat} {A hw : Nat} {g : Nat → Nat} {s st wd fo n : Nat} {gg : Nat → Nat} (h : scRun b A hw g s = (none, 0, st, wd, fo, gg)) (hA : ¬ fo = A) (hd : ∀ j, j < n → 48 ≤ b (s + j) ∧ b (s + j) ≤ 55) : ∀ k, k + 1 ≤ n → (k + 1 ≤ 4 ∧ vlN b s (k + 1) ≤ hw ∧ scRun b A hw g (s + (k + 1)) = (none, 1, s, vlN b s (k + 1), fo + 1, va_up gg fo (vlN b s (k + 1)))) ∨ ((4 < k + 1 ∨ hw < vlN b s (k + 1)) ∧ ∃ t, scRun b A hw g (s + (k + 1)) = (some s, t))
  | 0, hk => by
    have d0 := hd 0 (by omega)
    have h1 := sc_next h
    have hv : vlN b s (0 + 1) = 8 * 0 + b s - 48 := vl_s (by decide)
    rw [show s + 0 = s from rfl] at d0
    unfold scStep at h1
    rw [if_pos (by omega), if_neg (by omega), if_pos rfl] at h1
    rw [hv]
    by_cases q : 4 ≤ s - s ∨ hw < 8 * 0 + b s - 48
    · rw [if_pos q] at h1
      exact Or.inr ⟨Or.inr (by omega), ⟨_, h1⟩⟩
    · rw [if_neg q] at h1
      exact Or.inl ⟨by omega, by omega, h1⟩
  | k + 1, hk => by
    have d0 := hd (k + 1) (by omega)
    rcases sc_word h hA hd k (by omega) with ⟨h1, h2, h3⟩ | ⟨h1, t, h3⟩
    · have hv : vlN b s (k + 1 + 1) = 8 * vlN b s (k + 1) + b (s + (k + 1)) - 48 := vl_s (by omega)
      have h4 := sc_next h3
      unfold scStep at h4
      rw [if_pos (by omega), if_neg (by omega), if_neg (by omega), ← hv] at h4
      by_cases q : 4 ≤ s + (k + 1) - s ∨ hw < vlN b s (k + 1 + 1)
      · rw [if_pos q] at h4
        exact Or.inr ⟨by omega, ⟨_, h4⟩⟩
      · rw [if_neg q, show fo + 1 - 1 = fo by omega, va_up2] at h4
        exact Or.inl ⟨by omega, by omega, h4⟩
    · refine Or.inr ⟨?_, t, sc_stop h3 (by omega)⟩
      have hm := vl_mono (b := b) (s := s) 1 (k + 1) (fun j z1 z2 => (hd j (by omega)).1)
      rcases h1 with z | z
      · exact Or.inl (by omega)
      · exact Or.inr (by omega)
theorem sr_some {b : Nat → Nat} {A hw : Nat} {g : Nat → Nat} {ln i r : Nat} {t : Nat × Nat × Nat × Nat × (Nat → Nat)} (h : scRun b A hw g i = (some r, t)) (hi : i ≤ ln) : scRes b A hw g ln = nI r := (scRes_some (sc_stop h hi)).symm
/-- ONE WORD -/
theorem rd_one {b : Nat → Nat} {A B : Nat} {g : Nat → Nat} {ln i st wd m : Nat} {gg : Nat → Nat} (h : scRun b A (2 ^ B - 1) g i = (none, 0, st, wd, m, gg)) (hi : i ≤ ln) :
    (rdO b ln A B i m = false ∧ scRes b A (2 ^ B - 1) g ln = nI (skb b ln (rdA b ln A B i m))) ∨
    (rdO b ln A B i m = true ∧ ∃ pl st' wd', 1 ≤ pl ∧ scRun b A (2 ^ B - 1) g (skb b ln (rdA b ln A B i m)) = (none, pl, st', wd', m + 1, va_up gg m (rdV b ln i)) ∧ (pl = 1 → ¬ (skb b ln (rdA b ln A B i m) < ln ∧ (48 ≤ b (skb b ln (rdA b ln A B i m)) ∧ b (skb b ln (rdA b ln A B i m)) ≤ 55)))) := by
  have hB := Nat.two_pow_pos B
  obtain ⟨p0, h1, hp0, -, -⟩ := sc_skF (ln := ln) (ln - i) i 0 h
  have hp1 := hp0 rfl
  subst hp1
  have hs := sk_le (b := b) hi
  have hsi : skb b ln (skb b ln i) = skb b ln i := sk_id hi
  have hse : ¬ (skb b ln i < ln ∧ b (skb b ln i) = 32) := skF_e b ln (ln - i) i (by omega)
  have hde : ¬ (dge b ln (skb b ln i) < ln ∧ (48 ≤ b (dge b ln (skb b ln i)) ∧ b (dge b ln (skb b ln i)) ≤ 55)) := dgF_e b ln (ln - skb b ln i) (skb b ln i) (by omega)
  have hdl := dg_le (b := b) (ln := ln) (i := skb b ln i) hs.2
  have hdd : ∀ j, j < dge b ln (skb b ln i) - skb b ln i → 48 ≤ b (skb b ln i + j) ∧ b (skb b ln i + j) ≤ 55 := fun j hj => (dgF_d b ln (ln - skb b ln i) (skb b ln i) (skb b ln i + j) (by omega) (by show skb b ln i + j < dge b ln (skb b ln i); omega)).2
  have h1' : scRun b A (2 ^ B - 1) g (skb b ln i) = (none, 0, st, wd, m, gg) := h1
  -- the places that the two name alike
  have hno : rdO b ln A B i m = false → rdA b ln A B i m = skb b ln i := fun z => by unfold rdA; rw [z]; rfl
  have hyes : rdO b ln A B i m = true → rdA b ln A B i m = dge b ln (skb b ln i) := fun z => by unfold rdA; rw [z]; rfl
  have hfail : rdO b ln A B i m = false → scRes b A (2 ^ B - 1) g ln = nI (skb b ln i) → (rdO b ln A B i m = false ∧ scRes b A (2 ^ B - 1) g ln = nI (skb b ln (rdA b ln A B i m))) := fun z1 z2 => ⟨z1, by rw [hno z1, hsi]; exact z2⟩
  by_cases q1 : dge b ln (skb b ln i) = skb b ln i
  · left
    refine hfail (rdO_1 q1) ?_
    by_cases q2 : skb b ln i < ln
    · rw [q1] at hde
      have h2 := sc_next h1'
      rw [sx_no (by omega) (by omega) (fun _ => rfl)] at h2
      exact sr_some h2 (by omega)
    · have q3 : skb b ln i = ln := by omega
      rw [q3] at h1' ⊢
      exact (scRes_0 h1' rfl).symm
  · have hlt : skb b ln i < dge b ln (skb b ln i) := by omega
    have d0 := hdd 0 (by omega)
    rw [show skb b ln i + 0 = skb b ln i from rfl] at d0
    by_cases q2 : m = A
    · left
      refine hfail (rdO_4 q2) ?_
      have h2 := sc_next h1'
      rw [sx_full (by omega) (Or.inr ⟨rfl, q2⟩)] at h2
      exact sr_some h2 (by omega)
    · have hw := sc_word h1' q2 hdd (dge b ln (skb b ln i) - skb b ln i - 1) (by omega)
      rw [show dge b ln (skb b ln i) - skb b ln i - 1 + 1 = dge b ln (skb b ln i) - skb b ln i by omega, show skb b ln i + (dge b ln (skb b ln i) - skb b ln i) = dge b ln (skb b ln i) by omega] at hw
      have hV : rdV b ln i = vlN b (skb b ln i) (dge b ln (skb b ln i) - skb b ln i) := rfl
      rcases hw with ⟨w1, w2, w3⟩ | ⟨w1, t, w3⟩
      · right
        have ho : rdO b ln A B i m = true := rdO_t q1 w1 (by rw [hV]; omega) q2
        obtain ⟨p2, x1, -, x3, x4⟩ := sc_skF (ln := ln) (ln - dge b ln (skb b ln i)) (dge b ln (skb b ln i)) 1 w3
        refine ⟨ho, p2, skb b ln i, vlN b (skb b ln i) (dge b ln (skb b ln i) - skb b ln i), x3 (by decide), ?_, ?_⟩
        · rw [hyes ho, hV]
          exact x1
        · intro e
          have x5 : skb b ln (dge b ln (skb b ln i)) = dge b ln (skb b ln i) := x4 e
          rw [hyes ho, x5]
          exact hde
      · left
        refine hfail ?_ (sr_some w3 hdl.2)
        rcases w1 with z | z
        · exact rdO_2 (by show ¬ dge b ln (skb b ln i) - skb b ln i ≤ 4; omega)
        · exact rdO_3 (by rw [hV]; omega)
theorem ld_cong {σ g g' : Nat → Nat} : ∀ n, (∀ j, j < n → g j = g' j) → ldS σ g n = ldS σ g' n
  | 0, _ => rfl
  | n + 1, h => by rw [ldS, ldS, ld_cong n (fun j hj => h j (by omega)), h n (by omega)]
theorem ld_next {σ gg : Nat → Nat} {m v : Nat} : ldS σ (va_up gg m v) (m + 1) = va_up (ldS σ gg m) (19 + m) v := by
  rw [ldS, up_s, ld_cong (g' := gg) m (fun j hj => up_ne (by omega))]
theorem rs_next {ρ : Nat → Nat → Nat} {gg : Nat → Nat} {m v : Nat} : rs (va_up ρ 0 (ldS (ρ 0) gg m)) (19 + m) v = va_up ρ 0 (ldS (ρ 0) (va_up gg m v) (m + 1)) := by
  rw [ld_next]
  unfold rs
  funext s
  by_cases h : s = 0
  · subst h
    rw [up_s, up_s, up_s]
  · rw [up_n _ _ h, up_n _ _ h, up_n _ _ h]
/-- how far the two have come -/
def rtI (b : Nat → Nat) (ln A B : Nat) (g : Nat → Nat) (ρ : Nat → Nat → Nat) (n : Nat) (t : Bool × Nat × Nat × (Nat → Nat → Nat)) : Prop :=
  (t.1 = false ∧ t.2.1 ≤ ln ∧ scRes b A (2 ^ B - 1) g ln = nI t.2.1) ∨
  (t.1 = true ∧ n ≤ t.2.1 ∧ t.2.1 ≤ ln ∧ skb b ln t.2.1 = t.2.1 ∧ ∃ pl st wd gg, 1 ≤ pl ∧ scRun b A (2 ^ B - 1) g t.2.1 = (none, pl, st, wd, t.2.2.1, gg) ∧ (pl = 1 → ¬ (t.2.1 < ln ∧ (48 ≤ b t.2.1 ∧ b t.2.1 ≤ 55))) ∧ t.2.2.2 = va_up ρ 0 (ldS (ρ 0) gg t.2.2.1))
theorem rt_word {b : Nat → Nat} {A B : Nat} {g : Nat → Nat} {ln n i st wd m : Nat} {gg : Nat → Nat} {ρ r : Nat → Nat → Nat} (h : scRun b A (2 ^ B - 1) g i = (none, 0, st, wd, m, gg)) (hi : i ≤ ln) (hn : n ≤ i) (hr : r = va_up ρ 0 (ldS (ρ 0) gg m)) :
    rtI b ln A B g ρ n (rdO b ln A B i m, skb b ln (rdA b ln A B i m), rdM b ln A B i m, rdR b ln A B i m 1 r) := by
  have ha := rdA_le (b := b) (ln := ln) (A := A) (B := B) (i := i) (m := m) hi
  have hs := sk_le (b := b) ha.2
  rcases rd_one h hi with ⟨h1, h2⟩ | ⟨h1, pl, st', wd', h2, h3, h4⟩
  · exact Or.inl ⟨h1, hs.2, h2⟩
  · refine Or.inr ⟨h1, Nat.le_trans hn (Nat.le_trans ha.1 hs.1), hs.2, sk_id ha.2, pl, st', wd', va_up gg m (rdV b ln i), h2, ?_, h4, ?_⟩
    · show scRun b A (2 ^ B - 1) g _ = (none, pl, st', wd', rdM b ln A B i m, _)
      rw [show rdM b ln A B i m = m + 1 by unfold rdM; rw [h1]; rfl]
      exact h3
    · show rdR b ln A B i m 1 r = va_up ρ 0 (ldS (ρ 0) (va_up gg m (rdV b ln i)) (rdM b ln A B i m))
      rw [show rdM b ln A B i m = m + 1 by unfold rdM; rw [h1]; rfl, show rdR b ln A B i m 1 r = rs r (19 + m) (rdV b ln i) by unfold rdR; rw [h1]; rfl, hr, rs_next]
theorem rt_all {b : Nat → Nat} {A B : Nat} {g : Nat → Nat} {ln : Nat} {ρ : Nat → Nat → Nat} : ∀ n, n ≤ ln → rtI b ln A B g ρ n (rtN b ln A B 1 ρ n)
  | 0, _ => rt_word (st := 0) (wd := 0) (gg := g) (i := 0) rfl (Nat.zero_le _) (Nat.le_refl 0) (by funext s; by_cases h : s = 0; subst h; exact (up_s _ _ _).symm; exact (up_n _ _ h).symm)
  | n + 1, hn => by
    have ih := rt_all (b := b) (A := A) (B := B) (g := g) (ln := ln) (ρ := ρ) n (by omega)
    rw [rtN]
    generalize rtN b ln A B 1 ρ n = t at ih ⊢
    obtain ⟨iz, pa, m, r⟩ := t
    unfold rtS
    rcases ih with ⟨h1, h2, h3⟩ | ⟨h1, h2, h3, h4, pl, st, wd, gg, h5, h6, h7, h8⟩
    · rw [if_neg (fun z => by have z1 := z.1; rw [h1] at z1; cases z1)]
      exact Or.inl ⟨h1, h2, h3⟩
    · have h1' : iz = true := h1
      have h2' : n ≤ pa := h2
      have h3' : pa ≤ ln := h3
      have h4' : skb b ln pa = pa := h4
      have h6' : scRun b A (2 ^ B - 1) g pa = (none, pl, st, wd, m, gg) := h6
      have h7' : pl = 1 → ¬ (pa < ln ∧ (48 ≤ b pa ∧ b pa ≤ 55)) := h7
      have h8' : r = va_up ρ 0 (ldS (ρ 0) gg m) := h8
      by_cases q : pa < ln
      · rw [if_pos ⟨h1', q⟩]
        by_cases q2 : b pa = 44
        · rw [if_pos q2]
          have h9 := sc_next h6'
          rw [sx_44 q2 (by omega)] at h9
          exact rt_word (i := pa + 1) h9 q (Nat.succ_le_succ h2') h8'
        · rw [if_neg q2]
          refine Or.inl ⟨rfl, h3', ?_⟩
          have h9 := sc_next h6'
          have hsp : ¬ b pa = 32 := fun z => by
            have z1 := skF_e b ln (ln - pa) pa (by omega)
            rw [show skF b ln (ln - pa) pa = pa from h4'] at z1
            exact z1 ⟨q, z⟩
          by_cases q3 : 48 ≤ b pa ∧ b pa < 56
          · by_cases q4 : pl = 1
            · exact absurd ⟨q, by omega⟩ (h7' q4)
            · have hp2 : pl = 2 := by
                have z := sc_inv b A (2 ^ B - 1) g pa
                rw [h6'] at z
                have z1 := (z.2 rfl).2.2.1
                have z2 : pl ≤ 2 := z1
                omega
              rw [sx_full q3 (Or.inl hp2)] at h9
              exact sr_some h9 (by omega)
          · rw [sx_no q3 hsp (fun z => absurd z q2)] at h9
            exact sr_some h9 (by omega)
      · rw [if_neg (fun z => q z.2)]
        have q5 : pa = ln := by omega
        exact Or.inr ⟨h1', by show n + 1 ≤ pa; omega, h3', h4', pl, st, wd, gg, h5, h6', h7', h8'⟩
/-- THE CLASS' SCAN AND THE MODEL'S READING AGREE -/
theorem rt_main {b : Nat → Nat} {A B : Nat} (g : Nat → Nat) {ln : Nat} (ρ : Nat → Nat → Nat) :
    ((rtN b ln A B 1 ρ ln).1 = false ∧ (rtN b ln A B 1 ρ ln).2.1 ≤ ln ∧ scRes b A (2 ^ B - 1) g ln = nI (rtN b ln A B 1 ρ ln).2.1) ∨
    ((rtN b ln A B 1 ρ ln).1 = true ∧ scRes b A (2 ^ B - 1) g ln = -1 ∧ (rtN b ln A B 1 ρ ln).2.2.1 = (scRun b A (2 ^ B - 1) g ln).2.2.2.2.1 ∧ (rtN b ln A B 1 ρ ln).2.2.2 = va_up ρ 0 (ldS (ρ 0) (scRun b A (2 ^ B - 1) g ln).2.2.2.2.2 (scRun b A (2 ^ B - 1) g ln).2.2.2.2.1)) := by
  rcases rt_all (b := b) (A := A) (B := B) (g := g) (ρ := ρ) ln (Nat.le_refl _) with ⟨h1, h2, h3⟩ | ⟨h1, h2, h3, h4, pl, st, wd, gg, h5, h6, h7, h8⟩
  · exact Or.inl ⟨h1, h2, h3⟩
  · have e : (rtN b ln A B 1 ρ ln).2.1 = ln := by omega
    rw [e] at h6
    refine Or.inr ⟨h1, (scRes_n h6 (by omega)).symm, ?_, ?_⟩
    · rw [h6]
    · rw [h6]
      exact h8
