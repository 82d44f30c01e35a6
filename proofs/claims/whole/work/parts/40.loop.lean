set_option maxHeartbeats 4000000 in
set_option maxRecDepth 100000 in
/-- THE LOOP -/
theorem law_loop {p : Program} {e : Env} {s : State} {m : MethodId} {below : List Frame} {meth : Method} {c : Code} (l : Launch) {D : va_G} {cI cR : ClassId} {sb h h2 : Nat} {ad : Nat → Nat} {aa : Nat → Nat → Nat} {a2 : Nat → Nat} {L : Nat} {xs : Nat → Int32} (hL : L ≤ 2048) (C0 : lw_At p s m meth c sb L xs) (hK : va_K D vwCl (nTy cI cR) s) : ∀ (f i : Nat), L + 1 ≤ i + f → i ≤ L → LK p l e s m below meth c D cI cR sb h h2 ad aa a2 i 18 := by
  obtain ⟨hx, hb, hr, hml, hown0, hts0, hX, hbl, hlocks, hgv⟩ := id C0
  have hbA : ¬ lwA s sb := Nat.not_le.mpr hbl
  intro f
  induction f with
  | zero =>
    intro i h1 h3
    exact absurd h1 (by omega)
  | succ f ih =>
    intro i h1 h3
    have k778 : i + 4 ≤ L → LK p l e s m below meth c D cI cR sb h h2 ad aa a2 i 778 := by
      intro hi ρ τ σ o n b ln g fo0 wv nw at0 wd hh eσ hI H locs hP hD hS ls hl
      refine lv_iinc (v := nI (i + 4)) (k := 0) (lv' := [(3, .int (nI (i + 4))), (2, .ref h2), (1, .ref h), (0, .ref sb)]) hx hb dL_law_778 hl rfl (by rw [show Int32.ofInt 4 = nI 4 from rfl]; exact nI_add i 4) (by decide) rfl (fun ls hl => ?_)
      refine lv_goto (tgt := 18) hx hb dL_law_781 (by decide) ?_
      exact ih (i + 4) (by omega) hi ρ τ σ o n b ln g fo0 wv nw at0 wd hh eσ hI H locs hP hD hS ls hl
    intro ρ τ σ o n b ln g fo0 wv nw at0 wd hh eσ hI H locs hP hD hS ls hl
    refine lv_iload_n hx hb dL_law_18 rfl (lv_at hl 0 rfl) ?_
    refine lv_aload_n hx hb dL_law_19 rfl (lv_at hl 3 rfl) ?_
    refine va_slen hx hb hX hbl hbA hS dL_law_20 ?_
    refine lv_iconst (v := nI 4) hx hb dL_law_21 (by decide) ?_
    refine lv_isub hx hb dL_law_22 ?_
    refine lv_icmp_gt (tgt := 784) hx hb dL_law_23 (by decide) (fun q => ?_) (fun q => ?_)
    · refine lv_iconst (v := 1) hx hb dL_law_784 (by decide) ?_
      refine va_forget (fun z hz => hS.2.2 z hz) ?_
      refine W.widen (k := 600000) (n := 7302250) (Nat.le_of_ble_eq_true rfl) (Nat.le_of_ble_eq_true rfl) ?_
      exact lw_ret hx hb hr hlocks dL_law_785
    · have hi : i + 4 ≤ L := by
        have e1 := pk_sub_toInt (a := L) (b := 4) (by omega) (by decide)
        have e2 := nI_toInt (n := i) (by omega)
        have q2 : ¬ (nI L - nI 4).toInt < (nI i).toInt := fun z => q (Int32.lt_iff_toInt_lt.mpr z)
        rw [e1, e2] at q2
        omega
      refine lv_aload_n hx hb dL_law_26 rfl (lv_at hl 3 rfl) ?_
      refine lv_iload_n hx hb dL_law_27 rfl (lv_at hl 0 rfl) ?_
      refine va_sld hx hb hX hbl hbA hS (vp_in_nI (by omega) (by omega)) dL_law_28 ?_
      refine lv_bipush (v := nI 31) hx hb dL_law_29 (by decide) ?_
      refine lv_iand hx hb dL_law_31 ?_
      obtain ⟨k, hk, ek⟩ := pk_andE (xs (nI i).toNatClampNeg) (m := nI 31) 5 (by decide)
      refine nv_tope (nI k) ek ?_
      have hk : k < 32 := hk
      by_cases h27 : 27 ≤ k
      · refine lv_tableOut (tgt := 778) hx hb dL_law_32 (Or.inr (by rw [nI_toInt (by omega)]; omega)) (by decide) ?_
        exact k778 hi ρ τ σ o n b ln g fo0 wv nw at0 wd hh eσ hI H locs hP hD hS ls hl
      · rcases (show k = 0 ∨ k = 1 ∨ k = 2 ∨ k = 3 ∨ k = 4 ∨ k = 5 ∨ k = 6 ∨ k = 7 ∨ k = 8 ∨ k = 9 ∨ k = 10 ∨ k = 11 ∨ k = 12 ∨ k = 13 ∨ k = 14 ∨ k = 15 ∨ k = 16 ∨ k = 17 ∨ k = 18 ∨ k = 19 ∨ k = 20 ∨ k = 21 ∨ k = 22 ∨ k = 23 ∨ k = 24 ∨ k = 25 ∨ k = 26 by omega) with rfl | rfl | rfl | rfl | rfl | rfl | rfl | rfl | rfl | rfl | rfl | rfl | rfl | rfl | rfl | rfl | rfl | rfl | rfl | rfl | rfl | rfl | rfl | rfl | rfl | rfl | rfl
        · refine lv_tableIn (off := 124) (tgt := 156) hx hb dL_law_32 (by decide) (by decide) rfl (by decide) ?_
          exact lw_begin l hL C0 hK hi (k778 hi) ρ τ σ o n b ln g fo0 wv nw at0 wd hh eσ hI H locs hP hD hS ls hl
        · refine lv_tableIn (off := 167) (tgt := 199) hx hb dL_law_32 (by decide) (by decide) rfl (by decide) ?_
          exact lw_count l hL C0 hK hi (k778 hi) ρ τ σ o n b ln g fo0 wv nw at0 wd hh eσ hI H locs hP hD hS ls hl
        · refine lv_tableIn (off := 190) (tgt := 222) hx hb dL_law_32 (by decide) (by decide) rfl (by decide) ?_
          exact lw_setCode l hL C0 hK hi (k778 hi) ρ τ σ o n b ln g fo0 wv nw at0 wd hh eσ hI H locs hP hD hS ls hl
        · refine lv_tableIn (off := 223) (tgt := 255) hx hb dL_law_32 (by decide) (by decide) rfl (by decide) ?_
          exact lw_code l hL C0 hK hi (k778 hi) ρ τ σ o n b ln g fo0 wv nw at0 wd hh eσ hI H locs hP hD hS ls hl
        · refine lv_tableIn (off := 246) (tgt := 278) hx hb dL_law_32 (by decide) (by decide) rfl (by decide) ?_
          exact lw_weave l hL C0 hK hi (k778 hi) ρ τ σ o n b ln g fo0 wv nw at0 wd hh eσ hI H locs hP hD hS ls hl
        · refine lv_tableIn (off := 279) (tgt := 311) hx hb dL_law_32 (by decide) (by decide) rfl (by decide) ?_
          exact lw_word l hL C0 hK hi (k778 hi) ρ τ σ o n b ln g fo0 wv nw at0 wd hh eσ hI H locs hP hD hS ls hl
        · refine lv_tableIn (off := 302) (tgt := 334) hx hb dL_law_32 (by decide) (by decide) rfl (by decide) ?_
          exact lw_cross l hL C0 hK hi (k778 hi) ρ τ σ o n b ln g fo0 wv nw at0 wd hh eσ hI H locs hP hD hS ls hl
        · refine lv_tableIn (off := 325) (tgt := 357) hx hb dL_law_32 (by decide) (by decide) rfl (by decide) ?_
          exact lw_through l hL C0 hK hi (k778 hi) ρ τ σ o n b ln g fo0 wv nw at0 wd hh eσ hI H locs hP hD hS ls hl
        · refine lv_tableIn (off := 358) (tgt := 390) hx hb dL_law_32 (by decide) (by decide) rfl (by decide) ?_
          exact lw_cost l hL C0 hK hi (k778 hi) ρ τ σ o n b ln g fo0 wv nw at0 wd hh eσ hI H locs hP hD hS ls hl
        · refine lv_tableIn (off := 381) (tgt := 413) hx hb dL_law_32 (by decide) (by decide) rfl (by decide) ?_
          exact lw_economize l hL C0 hK hi (k778 hi) ρ τ σ o n b ln g fo0 wv nw at0 wd hh eσ hI H locs hP hD hS ls hl
        · refine lv_tableIn (off := 394) (tgt := 426) hx hb dL_law_32 (by decide) (by decide) rfl (by decide) ?_
          exact lw_picked l hL C0 hK hi (k778 hi) ρ τ σ o n b ln g fo0 wv nw at0 wd hh eσ hI H locs hP hD hS ls hl
        · refine lv_tableIn (off := 417) (tgt := 449) hx hb dL_law_32 (by decide) (by decide) rfl (by decide) ?_
          exact lw_read l hL C0 hK hi (k778 hi) ρ τ σ o n b ln g fo0 wv nw at0 wd hh eσ hI H locs hP hD hS ls hl
        · refine lv_tableIn (off := 440) (tgt := 472) hx hb dL_law_32 (by decide) (by decide) rfl (by decide) ?_
          exact lw_readRaw l hL C0 hK hi (k778 hi) ρ τ σ o n b ln g fo0 wv nw at0 wd hh eσ hI H locs hP hD hS ls hl
        · refine lv_tableIn (off := 463) (tgt := 495) hx hb dL_law_32 (by decide) (by decide) rfl (by decide) ?_
          exact lw_parity l hL C0 hK hi (k778 hi) ρ τ σ o n b ln g fo0 wv nw at0 wd hh eσ hI H locs hP hD hS ls hl
        · refine lv_tableIn (off := 486) (tgt := 518) hx hb dL_law_32 (by decide) (by decide) rfl (by decide) ?_
          exact lw_wrong l hL C0 hK hi (k778 hi) ρ τ σ o n b ln g fo0 wv nw at0 wd hh eσ hI H locs hP hD hS ls hl
        · refine lv_tableIn (off := 509) (tgt := 541) hx hb dL_law_32 (by decide) (by decide) rfl (by decide) ?_
          exact lw_spoil l hL C0 hK hi (k778 hi) ρ τ σ o n b ln g fo0 wv nw at0 wd hh eσ hI H locs hP hD hS ls hl
        · refine lv_tableIn (off := 542) (tgt := 574) hx hb dL_law_32 (by decide) (by decide) rfl (by decide) ?_
          exact lw_explains l hL C0 hK hi (k778 hi) ρ τ σ o n b ln g fo0 wv nw at0 wd hh eσ hI H locs hP hD hS ls hl
        · refine lv_tableIn (off := 565) (tgt := 597) hx hb dL_law_32 (by decide) (by decide) rfl (by decide) ?_
          exact lw_patch l hL C0 hK hi (k778 hi) ρ τ σ o n b ln g fo0 wv nw at0 wd hh eσ hI H locs hP hD hS ls hl
        · refine lv_tableIn (off := 598) (tgt := 630) hx hb dL_law_32 (by decide) (by decide) rfl (by decide) ?_
          exact lw_unpatch l hL C0 hK hi (k778 hi) ρ τ σ o n b ln g fo0 wv nw at0 wd hh eσ hI H locs hP hD hS ls hl
        · refine lv_tableIn (off := 621) (tgt := 653) hx hb dL_law_32 (by decide) (by decide) rfl (by decide) ?_
          exact lw_patchAll l hL C0 hK hi (k778 hi) ρ τ σ o n b ln g fo0 wv nw at0 wd hh eσ hI H locs hP hD hS ls hl
        · refine lv_tableIn (off := 634) (tgt := 666) hx hb dL_law_32 (by decide) (by decide) rfl (by decide) ?_
          exact lw_patchOf l hL C0 hK hi (k778 hi) ρ τ σ o n b ln g fo0 wv nw at0 wd hh eσ hI H locs hP hD hS ls hl
        · refine lv_tableIn (off := 657) (tgt := 689) hx hb dL_law_32 (by decide) (by decide) rfl (by decide) ?_
          exact lw_undo l hL C0 hK hi (k778 hi) ρ τ σ o n b ln g fo0 wv nw at0 wd hh eσ hI H locs hP hD hS ls hl
        · refine lv_tableIn (off := 670) (tgt := 702) hx hb dL_law_32 (by decide) (by decide) rfl (by decide) ?_
          exact lw_type l hL C0 hK hi (k778 hi) ρ τ σ o n b ln g fo0 wv nw at0 wd hh eσ hI H locs hP hD hS ls hl
        · refine lv_tableIn (off := 693) (tgt := 725) hx hb dL_law_32 (by decide) (by decide) rfl (by decide) ?_
          exact lw_clearText l hL C0 hK hi (k778 hi) ρ τ σ o n b ln g fo0 wv nw at0 wd hh eσ hI H locs hP hD hS ls hl
        · refine lv_tableIn (off := 706) (tgt := 738) hx hb dL_law_32 (by decide) (by decide) rfl (by decide) ?_
          exact lw_textFault l hL C0 hK hi (k778 hi) ρ τ σ o n b ln g fo0 wv nw at0 wd hh eσ hI H locs hP hD hS ls hl
        · refine lv_tableIn (off := 719) (tgt := 751) hx hb dL_law_32 (by decide) (by decide) rfl (by decide) ?_
          exact lw_load l hL C0 hK hi (k778 hi) ρ τ σ o n b ln g fo0 wv nw at0 wd hh eσ hI H locs hP hD hS ls hl
        · refine lv_tableIn (off := 732) (tgt := 764) hx hb dL_law_32 (by decide) (by decide) rfl (by decide) ?_
          exact lw_digest l hL C0 hK hi (k778 hi) ρ τ σ o n b ln g fo0 wv nw at0 wd hh eσ hI H locs hP hD hS ls hl
