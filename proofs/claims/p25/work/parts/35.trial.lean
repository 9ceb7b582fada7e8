theorem question (a : Int32) : f_X2_isTrialQuestion a = some (if rng a 0 1 then 1 else 0) := by
  unfold f_X2_isTrialQuestion
  by_cases h0 : a = 0
  · subst h0; rw [if_pos rfl]; rfl
  · rw [if_neg h0]
    by_cases h1 : a = 1
    · subst h1; rw [if_pos rfl]; rfl
    · rw [if_neg h1, if_neg]
      intro hr
      obtain ⟨k, hk1, hk2, rfl⟩ := (rng_nI (l := 0) (h := 1) (by omega)).mp hr
      have : k = 0 ∨ k = 1 := by omega
      rcases this with rfl | rfl
      · exact h0 rfl
      · exact h1 rfl
theorem fill2_loop (sz : Nat) (hsz : sz ≤ 2000) (v : Int32) {e : Nat} (he : e ≤ sz) : ∀ (j k fuel : Nat) (fa : zA), e = k + j → j < fuel → ∃ fa', B_J7_fill_fda19_10 sz fuel (nI e) v (nI k) fa = some fa' ∧ ∀ i, fa' i = if k ≤ i ∧ i < e then v else fa i := by
  intro j
  induction j with
  | zero =>
    intro k fuel fa hk hf
    obtain ⟨f, rfl⟩ : ∃ f, fuel = f + 1 := ⟨fuel - 1, by omega⟩
    refine ⟨fa, ?_, fun i => by rw [if_neg (by omega)]⟩
    rw [B_J7_fill_fda19_10]
    simp (disch := omega) only [gd_nI, nmI, b1s, b2s, b3s, b4s, b5s, b6s, b7s, le_nI, lt_nI, eq_nI, nI_add, Nat.add_zero, la9, la17, la27, la37, la47, la57, la67, la77, la87, la97, la111, la16, la106, la8, ra0, ra1, ra2, ra3, ra4, ra5, ra6, ra7, ra8, ra16, ra106, lm2, lm3, lm8, lm9, lm10, lm20, lm148, le0, ge0, lt0, gt0, eq0, le1, ge1, lt1, gt1, eq1, le2, ge2, lt2, gt2, eq2, le3, ge3, lt3, gt3, eq3, le4, ge4, lt4, gt4, eq4, le5, ge5, lt5, gt5, eq5, le6, ge6, lt6, gt6, eq6, le7, ge7, lt7, gt7, eq7, le8, ge8, lt8, gt8, eq8, le9, ge9, lt9, gt9, eq9, le10, ge10, lt10, gt10, eq10, le14, ge14, lt14, gt14, eq14, le16, ge16, lt16, gt16, eq16, le17, ge17, lt17, gt17, eq17, le20, ge20, lt20, gt20, eq20, le27, ge27, lt27, gt27, eq27, le37, ge37, lt37, gt37, eq37, le47, ge47, lt47, gt47, eq47, le50, ge50, lt50, gt50, eq50, le57, ge57, lt57, gt57, eq57, le67, ge67, lt67, gt67, eq67, le77, ge77, lt77, gt77, eq77, le80, ge80, lt80, gt80, eq80, le87, ge87, lt87, gt87, eq87, le97, ge97, lt97, gt97, eq97, le99, ge99, lt99, gt99, eq99, le100, ge100, lt100, gt100, eq100, le106, ge106, lt106, gt106, eq106, le111, ge111, lt111, gt111, eq111, le125, ge125, lt125, gt125, eq125, le148, ge148, lt148, gt148, eq148, le200, ge200, lt200, gt200, eq200, le300, ge300, lt300, gt300, eq300, le1332, ge1332, lt1332, gt1332, eq1332, le9999, ge9999, lt9999, gt9999, eq9999, le1000000, ge1000000, lt1000000, gt1000000, eq1000000, ]
    rw [if_pos (by omega)]
  | succ j ih =>
    intro k fuel fa hk hf
    obtain ⟨f, rfl⟩ : ∃ f, fuel = f + 1 := ⟨fuel - 1, by omega⟩
    obtain ⟨fa', h1, h2⟩ := ih (k + 1) f (upd fa k v) (by omega) (by omega)
    refine ⟨fa', ?_, fun i => ?_⟩
    · rw [B_J7_fill_fda19_10]
      simp (disch := omega) only [gd_nI, nmI, b1s, b2s, b3s, b4s, b5s, b6s, b7s, le_nI, lt_nI, eq_nI, nI_add, Nat.add_zero, la9, la17, la27, la37, la47, la57, la67, la77, la87, la97, la111, la16, la106, la8, ra0, ra1, ra2, ra3, ra4, ra5, ra6, ra7, ra8, ra16, ra106, lm2, lm3, lm8, lm9, lm10, lm20, lm148, le0, ge0, lt0, gt0, eq0, le1, ge1, lt1, gt1, eq1, le2, ge2, lt2, gt2, eq2, le3, ge3, lt3, gt3, eq3, le4, ge4, lt4, gt4, eq4, le5, ge5, lt5, gt5, eq5, le6, ge6, lt6, gt6, eq6, le7, ge7, lt7, gt7, eq7, le8, ge8, lt8, gt8, eq8, le9, ge9, lt9, gt9, eq9, le10, ge10, lt10, gt10, eq10, le14, ge14, lt14, gt14, eq14, le16, ge16, lt16, gt16, eq16, le17, ge17, lt17, gt17, eq17, le20, ge20, lt20, gt20, eq20, le27, ge27, lt27, gt27, eq27, le37, ge37, lt37, gt37, eq37, le47, ge47, lt47, gt47, eq47, le50, ge50, lt50, gt50, eq50, le57, ge57, lt57, gt57, eq57, le67, ge67, lt67, gt67, eq67, le77, ge77, lt77, gt77, eq77, le80, ge80, lt80, gt80, eq80, le87, ge87, lt87, gt87, eq87, le97, ge97, lt97, gt97, eq97, le99, ge99, lt99, gt99, eq99, le100, ge100, lt100, gt100, eq100, le106, ge106, lt106, gt106, eq106, le111, ge111, lt111, gt111, eq111, le125, ge125, lt125, gt125, eq125, le148, ge148, lt148, gt148, eq148, le200, ge200, lt200, gt200, eq200, le300, ge300, lt300, gt300, eq300, le1332, ge1332, lt1332, gt1332, eq1332, le9999, ge9999, lt9999, gt9999, eq9999, le1000000, ge1000000, lt1000000, gt1000000, eq1000000, ]
      rw [if_neg (by omega)]
      exact h1
    · rw [h2 i]
      by_cases hik : i = k
      · subst hik
        rw [if_neg (by omega), upd_eq, if_pos (by omega)]
      · by_cases h9 : k + 1 ≤ i ∧ i < e
        · rw [if_pos h9, if_pos (by omega)]
        · rw [if_neg h9, if_neg (by omega), upd_ne hik]
theorem d_leave (row : zA) (a1 a2 : Int32) : ∃ row', f_X0_leaveOnlyFault a1 a2 row = some row' ∧ (∀ k, k < 10 → row' (57 + k) = 0) ∧ row' 97 = a1 ∧ row' 111 = a2 ∧ row' 5 = 1 ∧ row' 6 = 1 ∧ ∀ j, j ≠ 5 → j ≠ 6 → (j < 57 ∨ 67 ≤ j) → j ≠ 97 → j ≠ 111 → row' j = row j := by
  obtain ⟨fa, h1, h2⟩ := fill2_loop 125 (by omega) 0 (e := 67) (by omega) 10 57 FU row (by omega) (FU_lt (by omega))
  refine ⟨upd (upd (upd (upd fa 97 a1) 111 a2) 5 1) 6 1, ?_, fun k hk => ?_, ?_, ?_, ?_, ?_, fun j g1 g2 g3 g4 g5 => ?_⟩
  · unfold f_X0_leaveOnlyFault f_J7_fill_fda19
    have e : f_J7_rangeCheck_23922 (Int32.ofNat 125) 57 67 = some () := by decide +kernel
    rw [e]
    simp only [b1s]
    rw [show (67 : Int32) = nI 67 from rfl, show (57 : Int32) = nI 57 from rfl, h1]
    rfl
  · rw [upd_ne (by omega), upd_ne (by omega), upd_ne (by omega), upd_ne (by omega), h2, if_pos (by omega)]
  · rw [upd_ne (by omega), upd_ne (by omega), upd_ne (by omega), upd_eq]
  · rw [upd_ne (by omega), upd_ne (by omega), upd_eq]
  · rw [upd_ne (by omega), upd_eq]
  · rw [upd_eq]
  · rw [upd_ne g2, upd_ne g1, upd_ne g5, upd_ne g4, h2, if_neg (by omega)]
