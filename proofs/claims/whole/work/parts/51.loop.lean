/-! The law's loop -/
theorem and31 (x : Int32) : ∃ j, j < 32 ∧ x &&& 31 = nI j := by
  refine ⟨x.toBitVec.toNat % 32, Nat.mod_lt _ (by omega), ?_⟩
  apply Int32.toBitVec_inj.mp
  apply BitVec.eq_of_toNat_eq
  rw [Int32.toBitVec_and, BitVec.toNat_and]
  show x.toBitVec.toNat &&& 31 = (BitVec.ofNat 32 (x.toBitVec.toNat % 32)).toNat
  rw [BitVec.toNat_ofNat, show x.toBitVec.toNat &&& 31 = x.toBitVec.toNat % 32 from Nat.and_two_pow_sub_one_eq_mod _ 5]
  omega
theorem head4 {i L : Nat} (hL : L ≤ 2048) (hi : i ≤ L) (c : ¬ nI L - nI 4 < nI i) : i + 4 ≤ L := by
  refine Classical.byContradiction fun h => c ?_
  by_cases h4 : 4 ≤ L
  · rw [pk_sub h4, lt_nI (by omega) (by omega)]
    omega
  · have e : L = 0 ∨ L = 1 ∨ L = 2 ∨ L = 3 := by omega
    have hneg : nI L - nI 4 < 0 := by
      rcases e with rfl | rfl | rfl | rfl <;> decide
    have hpos : (0 : Int32) ≤ nI i := by rw [ge0 (by omega)]; omega
    exact Int32.lt_of_lt_of_le hneg hpos
theorem law_loop {G : GT} {b L : Nat} {xs : Nat → Int32} {ad am : Nat → Nat} (C : LC G b L xs) : ∀ (n i : Nat), i ≤ L → L + 1 ≤ i + n → HD G b i 18 ad am := by
  intro n
  induction n with
  | zero =>
    intro i h1 h2
    exact absurd h2 (by omega)
  | succ n ih =>
    intro i h1 h2 nr nf tr tf co pf hi sl sv ff s sv2 tx cu ho mf h
    refine L_ild 0 C dL_law_18 rfl ?_
    refine L_ald 3 C dL_law_19 rfl ?_
    refine L_slen C dL_law_20 ?_
    refine L_icn (v := nI 4) C dL_law_21 (by decide) ?_
    refine L_sub C dL_law_22 ?_
    refine L_gt (tgt := 738) C dL_law_23 (by decide) (fun _ => L_end C dL_law_738 dL_law_739) (fun c => ?_)
    have hi4 := head4 C.hL h1 c
    have back : HD G b i 732 ad am := by
      intro nr nf tr tf co pf hi sl sv ff s sv2 tx cu ho mf h
      refine L_inc (v := nI (i + 4)) 0 [0, 1, 2, 3] C dL_law_732 rfl (by rw [show Int32.ofInt 4 = nI 4 from rfl, nI_add]) (by decide) rfl rfl ?_
      refine L_goto (tgt := 18) C dL_law_735 (by decide) ?_
      exact ih (i + 4) hi4 (by omega) _ _ _ _ _ _ _ _ _ _ _ _ _ _ _ _ h
    refine L_ald 3 C dL_law_26 rfl ?_
    refine L_ild 0 C dL_law_27 rfl ?_
    refine L_sld C (show i < L by omega) dL_law_28 ?_
    refine L_bip (v := 31) C dL_law_29 (by decide) ?_
    refine L_and C dL_law_31 ?_
    obtain ⟨j, hj, ej⟩ := and31 (xs i)
    have hj2 : j = 0 ∨ j = 1 ∨ j = 2 ∨ j = 3 ∨ j = 4 ∨ j = 5 ∨ j = 6 ∨ j = 7 ∨ j = 8 ∨ j = 9 ∨ j = 10 ∨ j = 11 ∨ j = 12 ∨ j = 13 ∨ j = 14 ∨ j = 15 ∨ j = 16 ∨ j = 17 ∨ j = 18 ∨ j = 19 ∨ j = 20 ∨ j = 21 ∨ 22 ≤ j := by omega
    rcases hj2 with rfl | rfl | rfl | rfl | rfl | rfl | rfl | rfl | rfl | rfl | rfl | rfl | rfl | rfl | rfl | rfl | rfl | rfl | rfl | rfl | rfl | rfl | hj2
    · exact L_tin (x0 := 0) (off := 104) (tgt := 136) C dL_law_32 ej (by decide) (by decide) (by decide) (by decide) (case_set C hi4 back _ _ _ _ _ _ _ _ _ _ _ _ _ _ _ _ h)
    · exact L_tin (x0 := 1) (off := 137) (tgt := 169) C dL_law_32 ej (by decide) (by decide) (by decide) (by decide) (case_board C hi4 back _ _ _ _ _ _ _ _ _ _ _ _ _ _ _ _ h)
    · exact L_tin (x0 := 2) (off := 180) (tgt := 212) C dL_law_32 ej (by decide) (by decide) (by decide) (by decide) (case_load C hi4 back _ _ _ _ _ _ _ _ _ _ _ _ _ _ _ _ h)
    · exact L_tin (x0 := 3) (off := 213) (tgt := 245) C dL_law_32 ej (by decide) (by decide) (by decide) (by decide) (case_turn C hi4 back _ _ _ _ _ _ _ _ _ _ _ _ _ _ _ _ h)
    · exact L_tin (x0 := 4) (off := 236) (tgt := 268) C dL_law_32 ej (by decide) (by decide) (by decide) (by decide) (case_fuse C hi4 back _ _ _ _ _ _ _ _ _ _ _ _ _ _ _ _ h)
    · exact L_tin (x0 := 5) (off := 279) (tgt := 311) C dL_law_32 ej (by decide) (by decide) (by decide) (by decide) (case_pass C hi4 back _ _ _ _ _ _ _ _ _ _ _ _ _ _ _ _ h)
    · exact L_tin (x0 := 6) (off := 302) (tgt := 334) C dL_law_32 ej (by decide) (by decide) (by decide) (by decide) (case_of C hi4 back _ _ _ _ _ _ _ _ _ _ _ _ _ _ _ _ h)
    · exact L_tin (x0 := 7) (off := 335) (tgt := 367) C dL_law_32 ej (by decide) (by decide) (by decide) (by decide) (case_ofLoad C hi4 back _ _ _ _ _ _ _ _ _ _ _ _ _ _ _ _ h)
    · exact L_tin (x0 := 8) (off := 368) (tgt := 400) C dL_law_32 ej (by decide) (by decide) (by decide) (by decide) (case_fed C hi4 back _ _ _ _ _ _ _ _ _ _ _ _ _ _ _ _ h)
    · exact L_tin (x0 := 9) (off := 391) (tgt := 423) C dL_law_32 ej (by decide) (by decide) (by decide) (by decide) (case_blown C hi4 back _ _ _ _ _ _ _ _ _ _ _ _ _ _ _ _ h)
    · exact L_tin (x0 := 10) (off := 414) (tgt := 446) C dL_law_32 ej (by decide) (by decide) (by decide) (by decide) (case_count C hi4 back _ _ _ _ _ _ _ _ _ _ _ _ _ _ _ _ h)
    · exact L_tin (x0 := 11) (off := 437) (tgt := 469) C dL_law_32 ej (by decide) (by decide) (by decide) (by decide) (case_next C hi4 back _ _ _ _ _ _ _ _ _ _ _ _ _ _ _ _ h)
    · exact L_tin (x0 := 12) (off := 460) (tgt := 492) C dL_law_32 ej (by decide) (by decide) (by decide) (by decide) (case_test C hi4 back _ _ _ _ _ _ _ _ _ _ _ _ _ _ _ _ h)
    · exact L_tin (x0 := 13) (off := 503) (tgt := 535) C dL_law_32 ej (by decide) (by decide) (by decide) (by decide) (case_unfair C hi4 back _ _ _ _ _ _ _ _ _ _ _ _ _ _ _ _ h)
    · exact L_tin (x0 := 14) (off := 526) (tgt := 558) C dL_law_32 ej (by decide) (by decide) (by decide) (by decide) (case_ifOpen C hi4 back _ _ _ _ _ _ _ _ _ _ _ _ _ _ _ _ h)
    · exact L_tin (x0 := 15) (off := 549) (tgt := 581) C dL_law_32 ej (by decide) (by decide) (by decide) (by decide) (case_put C hi4 back _ _ _ _ _ _ _ _ _ _ _ _ _ _ _ _ h)
    · exact L_tin (x0 := 16) (off := 602) (tgt := 634) C dL_law_32 ej (by decide) (by decide) (by decide) (by decide) (case_wipe C hi4 back _ _ _ _ _ _ _ _ _ _ _ _ _ _ _ _ h)
    · exact L_tin (x0 := 17) (off := 615) (tgt := 647) C dL_law_32 ej (by decide) (by decide) (by decide) (by decide) (case_fault C hi4 back _ _ _ _ _ _ _ _ _ _ _ _ _ _ _ _ h)
    · exact L_tin (x0 := 18) (off := 628) (tgt := 660) C dL_law_32 ej (by decide) (by decide) (by decide) (by decide) (case_carryOut C hi4 back _ _ _ _ _ _ _ _ _ _ _ _ _ _ _ _ h)
    · exact L_tin (x0 := 19) (off := 641) (tgt := 673) C dL_law_32 ej (by decide) (by decide) (by decide) (by decide) (case_undo C hi4 back _ _ _ _ _ _ _ _ _ _ _ _ _ _ _ _ h)
    · exact L_tin (x0 := 20) (off := 654) (tgt := 686) C dL_law_32 ej (by decide) (by decide) (by decide) (by decide) (case_save C hi4 back _ _ _ _ _ _ _ _ _ _ _ _ _ _ _ _ h)
    · exact L_tin (x0 := 21) (off := 677) (tgt := 709) C dL_law_32 ej (by decide) (by decide) (by decide) (by decide) (case_restore C hi4 back _ _ _ _ _ _ _ _ _ _ _ _ _ _ _ _ h)
    · refine L_tout (tgt := 732) C dL_law_32 (Or.inr ?_) (by decide) (back _ _ _ _ _ _ _ _ _ _ _ _ _ _ _ _ h)
      rw [ej, nI_toInt (by omega)]
      omega
