/-! ===== a rope as it begins; history ===== -/
def bgS (R B S : Nat) : Nat → Nat := fun k => if k = 0 then R else if k = 1 then B else if k = 2 then S else if 3 ≤ k ∧ k < 3 + R then k - 3 else 0
theorem bg_0 (R B S : Nat) : bgS R B S 0 = R := rfl
theorem bg_1 (R B S : Nat) : bgS R B S 1 = B := rfl
theorem bg_2 (R B S : Nat) : bgS R B S 2 = S := rfl
theorem bg_c {R B S r : Nat} (h : r < R) : bgS R B S (3 + r) = r := by
  unfold bgS
  rw [if_neg (by omega), if_neg (by omega), if_neg (by omega), if_pos (by omega)]
  omega
theorem bg_hi {R B S k : Nat} (hR : R ≤ 16) (h : 19 ≤ k) : bgS R B S k = 0 := by
  unfold bgS
  rw [if_neg (by omega), if_neg (by omega), if_neg (by omega), if_neg (by omega)]
theorem wf_bg {R B S : Nat} (h1 : 2 ≤ R) (h2 : R ≤ 16) (h3 : 1 ≤ B) (h4 : B ≤ 10) (h5 : 1 ≤ S) (h6 : S ≤ 3) : wf (bgS R B S) := by
  unfold wf
  rw [bg_0, bg_1, bg_2]
  refine ⟨h1, h2, h3, h4, h5, h6, fun r hr => by rw [bg_c hr]; omega, fun r q hr hq e => by rw [bg_c hr, bg_c hq] at e; exact e, fun a _ => by rw [bg_hi h2 (by omega)]; exact Nat.two_pow_pos _, fun k _ => by rw [bg_hi h2 (by omega)]; omega, fun w _ => by rw [bg_hi h2 (by omega)]; exact Nat.two_pow_pos _, fun a _ => by rw [bg_hi h2 (by omega)]; exact Nat.zero_le _⟩
theorem scG_bit (w i : Nat) : ∀ n, (scG n w).testBit i = (decide (w < 8) && (decide (i < n) && (i.testBit (w / 2) == (w % 2 == 1))))
  | 0 => by
    show (0 : Nat).testBit i = _
    simp
  | n + 1 => by
    have ih := scG_bit w i n
    show (pcG (scG n) n n 8 w).testBit i = _
    unfold pcG
    split
    · rename_i h8
      rw [pbN_bit]
      by_cases e : i = n
      · subst e
        rw [if_pos rfl]
        simp [h8]
      · rw [if_neg e, ih]
        by_cases h2 : i < n
        · simp [h8, h2, show i < n + 1 by omega]
        · simp [h8, h2, show ¬ i < n + 1 by omega]
    · rename_i h8
      rw [ih]
      simp [h8]
theorem swG_bit {R B S : Nat} (hS : 1 ≤ S) (w i : Nat) : ∀ n, (swG R B S n w).testBit i = if w < 8 then (decide (i < R) && (i.testBit (w / 2) == (w % 2 == 1))) else if w < 8 + S * (B + 1) then (decide (S * i + (w - 8) / (B + 1) < n) && wbt B 0 ((w - 8) % (B + 1))) else false
  | 0 => by
    show (scG R w).testBit i = _
    rw [scG_bit]
    split
    · rename_i h8
      simp [h8]
    · rename_i h8
      simp [h8]
  | n + 1 => by
    have ih := swG_bit hS w i n (R := R) (B := B)
    show (pwG S B (swG R B S n) n 0 (B + 1) w).testBit i = _
    have hm : n % S < S := Nat.mod_lt _ hS
    have hb : (n % S + 1) * (B + 1) ≤ S * (B + 1) := Nat.mul_le_mul_right _ hm
    rw [Nat.succ_mul] at hb
    have hn := Nat.div_add_mod n S
    unfold pwG
    split
    · rename_i hr
      obtain ⟨b, hb1, rfl⟩ : ∃ b, b < B + 1 ∧ w = 8 + n % S * (B + 1) + b := ⟨w - (8 + n % S * (B + 1)), by omega, by omega⟩
      have e2 : ¬ 8 + n % S * (B + 1) + b < 8 := by omega
      have e3 : 8 + n % S * (B + 1) + b - 8 = b + n % S * (B + 1) := by omega
      have e4 : (b + n % S * (B + 1)) / (B + 1) = n % S := by rw [Nat.add_mul_div_right _ _ (by omega), Nat.div_eq_of_lt hb1, Nat.zero_add]
      have e5 : (b + n % S * (B + 1)) % (B + 1) = b := by rw [Nat.add_mul_mod_self_right, Nat.mod_eq_of_lt hb1]
      have e6 : 8 + n % S * (B + 1) + b < 8 + S * (B + 1) := by omega
      rw [if_neg e2, if_pos e6, e3, e4, e5] at ih ⊢
      rw [pbN_bit, show 8 + n % S * (B + 1) + b - (8 + n % S * (B + 1)) = b by omega]
      by_cases e : i = n / S
      · subst e
        rw [if_pos rfl, hn]
        simp
      · rw [if_neg e, ih]
        congr 1
        have hne : ¬ S * i + n % S = n := by
          intro z
          have z2 : S * i = S * (n / S) := by omega
          exact e (Nat.eq_of_mul_eq_mul_left hS z2)
        by_cases h2 : S * i + n % S < n
        · simp [h2, show S * i + n % S < n + 1 by omega]
        · simp [h2, show ¬ S * i + n % S < n + 1 by omega]
    · rename_i hr
      rw [ih]
      split
      · rfl
      · rename_i h8
        split
        · rename_i hlt
          congr 1
          have ht : (w - 8) / (B + 1) < S := Nat.div_lt_of_lt_mul (by rw [Nat.mul_comm]; omega)
          have hne : ¬ S * i + (w - 8) / (B + 1) = n := by
            intro z
            have z1 : n % S = (w - 8) / (B + 1) := by
              have : n = (w - 8) / (B + 1) + S * i := by omega
              rw [this, Nat.add_mul_mod_self_left, Nat.mod_eq_of_lt ht]
            have z3 := Nat.div_add_mod (w - 8) (B + 1)
            have z4 := Nat.mod_lt (w - 8) (show 0 < B + 1 by omega)
            rw [z1, Nat.mul_comm] at hr
            omega
          by_cases h2 : S * i + (w - 8) / (B + 1) < n
          · simp [h2, show S * i + (w - 8) / (B + 1) < n + 1 by omega]
          · simp [h2, show ¬ S * i + (w - 8) / (B + 1) < n + 1 by omega]
        · rfl
theorem sw_on {R B S : Nat} (hR : R ≤ 16) (hS : 1 ≤ S) (w : Nat) : swG R B S (R * S) w = onM (bgS R B S) w := by
  refine mk_ext fun i => ?_
  rw [swG_bit hS]
  unfold onM
  rw [show nW (bgS R B S) = 8 + S * (B + 1) from rfl, bg_0]
  by_cases h8 : w < 8
  · rw [if_pos h8, if_pos (by omega), mk_bit]
    unfold onB ihb
    rw [if_pos h8]
    by_cases hi : i < R
    · rw [bg_c hi]
    · simp [hi]
  · rw [if_neg h8]
    by_cases hw : w < 8 + S * (B + 1)
    · rw [if_pos hw, if_pos hw, mk_bit]
      have ht : (w - 8) / (B + 1) < S := Nat.div_lt_of_lt_mul (by rw [Nat.mul_comm]; omega)
      unfold onB tdB sbit
      rw [if_neg h8, bg_1, bg_2, bg_hi hR (show 19 ≤ 19 + (S * i + (w - 8) / (B + 1)) from Nat.le_add_right _ _)]
      have e : decide (S * i + (w - 8) / (B + 1) < R * S) = decide (i < R) := by
        by_cases hi : i < R
        · have h1 : S * (i + 1) ≤ S * R := Nat.mul_le_mul_left _ hi
          rw [Nat.mul_succ, Nat.mul_comm S R] at h1
          simp [hi, show S * i + (w - 8) / (B + 1) < R * S by omega]
        · have h1 : S * R ≤ S * i := Nat.mul_le_mul_left _ (by omega)
          rw [Nat.mul_comm S R] at h1
          simp [hi, show ¬ S * i + (w - 8) / (B + 1) < R * S from Nat.not_lt.mpr (Nat.le_trans h1 (Nat.le_add_right _ _))]
      rw [e]
      rfl
    · rw [if_neg hw, if_neg hw, Nat.zero_testBit]
theorem start_to {D : va_G} {h : Nat} {a : Nat → Nat} {cI : ClassId} {R B S : Nat} (hR : R ≤ 16) (hS : 1 ≤ S) : nTo D (wRp h a cI R B S (nF (swG R B S (R * S))) (nF fun _ => 0) (nF fun _ => 0) (fun _ => -1)) (wRp h a cI (bgS R B S 0) (bgS R B S 1) (bgS R B S 2) (onF (bgS R B S)) (wwF (bgS R B S)) (crF (bgS R B S)) (ptF (bgS R B S))) := by
  refine rp_to rfl rfl rfl (fun j _ => congrArg nI (sw_on hR hS j)) (fun j hj => congrArg nI (bg_hi hR (by omega)).symm) (fun j hj => congrArg nI ?_) (fun j hj => ?_)
  · unfold crN
    split
    · rfl
    · exact (bg_hi hR (by omega)).symm
  · unfold ptF
    rw [bg_hi hR (by omega)]
    rfl
def wHs (h ar : Nat) (hr : Nat → Nat) (ha : Nat → Nat → Nat) (cI cR : ClassId) (o n : Nat) (τ : Nat → Nat → Nat) : va_W := [(h, .inr (0, [.ref ar, .int (nI o), .int (nI n)])), (ar, .inl (cR, 5, .inr (.inr (.inr (.inr (fun j => some (hr j)))))))] ++ (wRp (hr 0) (ha 0) cI (τ 0 0) (τ 0 1) (τ 0 2) (onF (τ 0)) (wwF (τ 0)) (crF (τ 0)) (ptF (τ 0)) ++ (wRp (hr 1) (ha 1) cI (τ 1 0) (τ 1 1) (τ 1 2) (onF (τ 1)) (wwF (τ 1)) (crF (τ 1)) (ptF (τ 1)) ++ (wRp (hr 2) (ha 2) cI (τ 2 0) (τ 2 1) (τ 2 2) (onF (τ 2)) (wwF (τ 2)) (crF (τ 2)) (ptF (τ 2)) ++ (wRp (hr 3) (ha 3) cI (τ 3 0) (τ 3 1) (τ 3 2) (onF (τ 3)) (wwF (τ 3)) (crF (τ 3)) (ptF (τ 3)) ++ wRp (hr 4) (ha 4) cI (τ 4 0) (τ 4 1) (τ 4 2) (onF (τ 4)) (wwF (τ 4)) (crF (τ 4)) (ptF (τ 4))))))
def kpO (o n : Nat) : Nat := if n = 5 then (o + 1) % 5 else o
def kpN (n : Nat) : Nat := if n = 5 then 5 else n + 1
def kpS (o n : Nat) : Nat := if n = 5 then o else (o + n) % 5
section NVQ
variable {p : Program} {l : Launch} {e : Env} {R : Room} {s : State} {m : MethodId} {args : Array Value} {below : List Frame} {meth : Method} {c : Code} {H : Heap} {locs : List Loc} {cells slots : Nat} {Q : State → Prop}
variable {cc : ByteArray} {pc : Nat} {ls : Array Slot} {rest : List Value} {D : va_G} {cl : List vw_C} {a : Nat} {tys : List (ClassId × FieldType)} {ws : va_W}
theorem nv_aald (hx : p.tables.exec = Jvm.exec) (hb : c.code = cc) (hK : va_K D cl tys s) (hP : va_P D cl ws H) (q0 t0 : Nat) {cA : ClassId} {C : String} {n : Nat} {f : Nat → Option Nat} (ha : ws[q0]? = some (a, .inl (cA, n, .inr (.inr (.inr (.inr f)))))) (ht : tys[t0]? = some (cA, .object C)) {k : Nat} (hk : k < n) (hn : n < 2 ^ 31) {r : Nat} (hv : f k = some r) (hdg : decode cc pc = .ok (.aaload, 1))
    (kk : W p l e R s m args below meth c H locs cells slots Q (F0 m (pc + 1) ls (.ref r :: rest))) : W p l e R s m args below meth c H locs cells slots Q (F0 m pc ls (.int (nI k) :: .ref a :: rest)) := by
  refine va_aldq hx hb hK hP q0 t0 ha ht (vp_in_nI hk hn) hdg ?_
  rw [nI_clamp (Nat.lt_trans hk hn), hv]
  exact kk
end NVQ
