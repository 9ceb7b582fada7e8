/-! What the two sides read of the boards -/
def PR (row : zA) (n : Nat) (par : Nat → Nat) : Prop := n ≤ 10 ∧ row 4 = nI n ∧ okp par n ∧ (∀ k, 0 < k → k < n → row (17 + k) = nI (par k)) ∧ ∀ k, n ≤ k → bt (row 7) k = false
theorem dead_loop {row : zA} {n : Nat} {par : Nat → Nat} (P : PR row n par) : ∀ (j k fuel : Nat) (l1 : Int32), n ≤ k + j → 1 ≤ k → k ≤ 11 → j < fuel → (∀ i, i < 32 → bt l1 i = if i < k ∧ i < n then ded par (bt (row 7)) i else bt (row 7) i) → B_X0_deadBoards_10 fuel l1 (nI k) row = some (mask (ded par (bt (row 7))) n) := by
  obtain ⟨hn, h4, hp, hfr, hop⟩ := P
  have fin : ∀ (k : Nat) (l1 : Int32), n ≤ k → (∀ i, i < 32 → bt l1 i = if i < k ∧ i < n then ded par (bt (row 7)) i else bt (row 7) i) → l1 = mask (ded par (bt (row 7))) n := by
    intro k l1 hk hi
    refine mask_is (by omega) fun i hi32 => ?_
    rw [hi i hi32]
    by_cases h : i < n
    · rw [if_pos ⟨by omega, h⟩]
      simp [h]
    · rw [if_neg (fun q => h q.2), hop i (by omega)]
      simp [h]
  intro j
  induction j with
  | zero =>
    intro k fuel l1 hj h1 h11 hf hi
    obtain ⟨f, rfl⟩ : ∃ f, fuel = f + 1 := ⟨fuel - 1, by omega⟩
    rw [B_X0_deadBoards_10, h4]
    simp (disch := omega) only [gd_nI, nmI, b1s, b2s, b3s, b4s, b5s, b6s, b7s, le_nI, lt_nI, eq_nI, nI_add, Nat.add_zero, la9, la17, la27, la37, la47, la57, la67, la77, la87, la97, la111, la16, la106, la8, ra0, ra1, ra2, ra3, ra4, ra5, ra6, ra7, ra8, ra16, ra106, lm2, lm3, lm8, lm9, lm10, lm20, lm148, le0, ge0, lt0, gt0, eq0, le1, ge1, lt1, gt1, eq1, le2, ge2, lt2, gt2, eq2, le3, ge3, lt3, gt3, eq3, le4, ge4, lt4, gt4, eq4, le5, ge5, lt5, gt5, eq5, le6, ge6, lt6, gt6, eq6, le7, ge7, lt7, gt7, eq7, le8, ge8, lt8, gt8, eq8, le9, ge9, lt9, gt9, eq9, le10, ge10, lt10, gt10, eq10, le14, ge14, lt14, gt14, eq14, le16, ge16, lt16, gt16, eq16, le17, ge17, lt17, gt17, eq17, le20, ge20, lt20, gt20, eq20, le27, ge27, lt27, gt27, eq27, le37, ge37, lt37, gt37, eq37, le47, ge47, lt47, gt47, eq47, le50, ge50, lt50, gt50, eq50, le57, ge57, lt57, gt57, eq57, le67, ge67, lt67, gt67, eq67, le77, ge77, lt77, gt77, eq77, le80, ge80, lt80, gt80, eq80, le87, ge87, lt87, gt87, eq87, le97, ge97, lt97, gt97, eq97, le99, ge99, lt99, gt99, eq99, le100, ge100, lt100, gt100, eq100, le106, ge106, lt106, gt106, eq106, le111, ge111, lt111, gt111, eq111, le125, ge125, lt125, gt125, eq125, le148, ge148, lt148, gt148, eq148, le200, ge200, lt200, gt200, eq200, le300, ge300, lt300, gt300, eq300, le1332, ge1332, lt1332, gt1332, eq1332, le9999, ge9999, lt9999, gt9999, eq9999, le1000000, ge1000000, lt1000000, gt1000000, eq1000000, ]
    rw [if_pos (by omega), fin k l1 (by omega) hi]
  | succ j ih =>
    intro k fuel l1 hj h1 h11 hf hi
    obtain ⟨f, rfl⟩ : ∃ f, fuel = f + 1 := ⟨fuel - 1, by omega⟩
    rw [B_X0_deadBoards_10, h4]
    by_cases hk : n ≤ k
    · simp (disch := omega) only [gd_nI, nmI, b1s, b2s, b3s, b4s, b5s, b6s, b7s, le_nI, lt_nI, eq_nI, nI_add, Nat.add_zero, la9, la17, la27, la37, la47, la57, la67, la77, la87, la97, la111, la16, la106, la8, ra0, ra1, ra2, ra3, ra4, ra5, ra6, ra7, ra8, ra16, ra106, lm2, lm3, lm8, lm9, lm10, lm20, lm148, le0, ge0, lt0, gt0, eq0, le1, ge1, lt1, gt1, eq1, le2, ge2, lt2, gt2, eq2, le3, ge3, lt3, gt3, eq3, le4, ge4, lt4, gt4, eq4, le5, ge5, lt5, gt5, eq5, le6, ge6, lt6, gt6, eq6, le7, ge7, lt7, gt7, eq7, le8, ge8, lt8, gt8, eq8, le9, ge9, lt9, gt9, eq9, le10, ge10, lt10, gt10, eq10, le14, ge14, lt14, gt14, eq14, le16, ge16, lt16, gt16, eq16, le17, ge17, lt17, gt17, eq17, le20, ge20, lt20, gt20, eq20, le27, ge27, lt27, gt27, eq27, le37, ge37, lt37, gt37, eq37, le47, ge47, lt47, gt47, eq47, le50, ge50, lt50, gt50, eq50, le57, ge57, lt57, gt57, eq57, le67, ge67, lt67, gt67, eq67, le77, ge77, lt77, gt77, eq77, le80, ge80, lt80, gt80, eq80, le87, ge87, lt87, gt87, eq87, le97, ge97, lt97, gt97, eq97, le99, ge99, lt99, gt99, eq99, le100, ge100, lt100, gt100, eq100, le106, ge106, lt106, gt106, eq106, le111, ge111, lt111, gt111, eq111, le125, ge125, lt125, gt125, eq125, le148, ge148, lt148, gt148, eq148, le200, ge200, lt200, gt200, eq200, le300, ge300, lt300, gt300, eq300, le1332, ge1332, lt1332, gt1332, eq1332, le9999, ge9999, lt9999, gt9999, eq9999, le1000000, ge1000000, lt1000000, gt1000000, eq1000000, ]
      rw [if_pos hk, fin k l1 hk hi]
    · have hpk := hp k (by omega) (by omega)
      simp (disch := omega) only [gd_nI, nmI, b1s, b2s, b3s, b4s, b5s, b6s, b7s, le_nI, lt_nI, eq_nI, nI_add, Nat.add_zero, la9, la17, la27, la37, la47, la57, la67, la77, la87, la97, la111, la16, la106, la8, ra0, ra1, ra2, ra3, ra4, ra5, ra6, ra7, ra8, ra16, ra106, lm2, lm3, lm8, lm9, lm10, lm20, lm148, le0, ge0, lt0, gt0, eq0, le1, ge1, lt1, gt1, eq1, le2, ge2, lt2, gt2, eq2, le3, ge3, lt3, gt3, eq3, le4, ge4, lt4, gt4, eq4, le5, ge5, lt5, gt5, eq5, le6, ge6, lt6, gt6, eq6, le7, ge7, lt7, gt7, eq7, le8, ge8, lt8, gt8, eq8, le9, ge9, lt9, gt9, eq9, le10, ge10, lt10, gt10, eq10, le14, ge14, lt14, gt14, eq14, le16, ge16, lt16, gt16, eq16, le17, ge17, lt17, gt17, eq17, le20, ge20, lt20, gt20, eq20, le27, ge27, lt27, gt27, eq27, le37, ge37, lt37, gt37, eq37, le47, ge47, lt47, gt47, eq47, le50, ge50, lt50, gt50, eq50, le57, ge57, lt57, gt57, eq57, le67, ge67, lt67, gt67, eq67, le77, ge77, lt77, gt77, eq77, le80, ge80, lt80, gt80, eq80, le87, ge87, lt87, gt87, eq87, le97, ge97, lt97, gt97, eq97, le99, ge99, lt99, gt99, eq99, le100, ge100, lt100, gt100, eq100, le106, ge106, lt106, gt106, eq106, le111, ge111, lt111, gt111, eq111, le125, ge125, lt125, gt125, eq125, le148, ge148, lt148, gt148, eq148, le200, ge200, lt200, gt200, eq200, le300, ge300, lt300, gt300, eq300, le1332, ge1332, lt1332, gt1332, eq1332, le9999, ge9999, lt9999, gt9999, eq9999, le1000000, ge1000000, lt1000000, gt1000000, eq1000000, ]
      rw [if_neg hk, hfr k (by omega) (by omega)]
      simp only [bt_is0 l1 (show par k < 32 by omega)]
      have e1 : bt l1 (par k) = ded par (bt (row 7)) (par k) := by rw [hi _ (by omega), if_pos ⟨hpk, by omega⟩]
      have e2 := ded_s (op := bt (row 7)) (by omega) hpk
      by_cases hd : bt l1 (par k) = false
      · rw [if_pos hd]
        refine ih (k + 1) f l1 (by omega) (by omega) (by omega) (by omega) (fun i hi32 => ?_)
        rw [hi i hi32]
        by_cases hik : i = k
        · subst hik
          rw [if_neg (by omega), if_pos ⟨by omega, by omega⟩, e2, ← e1, hd, Bool.or_false]
        · by_cases h9 : i < k ∧ i < n
          · rw [if_pos h9, if_pos ⟨by omega, h9.2⟩]
          · rw [if_neg h9, if_neg (by omega)]
      · rw [if_neg hd]
        refine ih (k + 1) f _ (by omega) (by omega) (by omega) (by omega) (fun i hi32 => ?_)
        rw [bt_set _ (by omega) hi32, hi i hi32]
        by_cases hik : i = k
        · subst hik
          have hd' : bt l1 (par i) = true := by simpa using hd
          rw [if_neg (by omega), if_pos ⟨by omega, by omega⟩, e2, ← e1, hd']
          simp
        · have : decide (i = k) = false := by simp [hik]
          rw [this, Bool.or_false]
          by_cases h9 : i < k ∧ i < n
          · rw [if_pos h9, if_pos ⟨by omega, h9.2⟩]
          · rw [if_neg h9, if_neg (by omega)]
theorem d_dead {row : zA} {n : Nat} {par : Nat → Nat} (P : PR row n par) : f_X0_deadBoards row = some (mask (ded par (bt (row 7))) n) := by
  unfold f_X0_deadBoards
  refine dead_loop P 10 1 FU _ (by have := P.1; omega) (by omega) (by omega) (FU_lt (by omega)) (fun i hi => ?_)
  by_cases h : i < 1 ∧ i < n
  · have : i = 0 := by omega
    subst this
    rw [if_pos h, ded_0]
  · rw [if_neg h]
theorem isb_nI {row : zA} {n k : Nat} (hn : n ≤ 10) (h4 : row 4 = nI n) (hk : k < n) : f_X0_isBoard (nI k) row = some 1 := by
  unfold f_X0_isBoard
  rw [h4]
  simp (disch := omega) only [gd_nI, nmI, b1s, b2s, b3s, b4s, b5s, b6s, b7s, le_nI, lt_nI, eq_nI, nI_add, Nat.add_zero, la9, la17, la27, la37, la47, la57, la67, la77, la87, la97, la111, la16, la106, la8, ra0, ra1, ra2, ra3, ra4, ra5, ra6, ra7, ra8, ra16, ra106, lm2, lm3, lm8, lm9, lm10, lm20, lm148, le0, ge0, lt0, gt0, eq0, le1, ge1, lt1, gt1, eq1, le2, ge2, lt2, gt2, eq2, le3, ge3, lt3, gt3, eq3, le4, ge4, lt4, gt4, eq4, le5, ge5, lt5, gt5, eq5, le6, ge6, lt6, gt6, eq6, le7, ge7, lt7, gt7, eq7, le8, ge8, lt8, gt8, eq8, le9, ge9, lt9, gt9, eq9, le10, ge10, lt10, gt10, eq10, le14, ge14, lt14, gt14, eq14, le16, ge16, lt16, gt16, eq16, le17, ge17, lt17, gt17, eq17, le20, ge20, lt20, gt20, eq20, le27, ge27, lt27, gt27, eq27, le37, ge37, lt37, gt37, eq37, le47, ge47, lt47, gt47, eq47, le50, ge50, lt50, gt50, eq50, le57, ge57, lt57, gt57, eq57, le67, ge67, lt67, gt67, eq67, le77, ge77, lt77, gt77, eq77, le80, ge80, lt80, gt80, eq80, le87, ge87, lt87, gt87, eq87, le97, ge97, lt97, gt97, eq97, le99, ge99, lt99, gt99, eq99, le100, ge100, lt100, gt100, eq100, le106, ge106, lt106, gt106, eq106, le111, ge111, lt111, gt111, eq111, le125, ge125, lt125, gt125, eq125, le148, ge148, lt148, gt148, eq148, le200, ge200, lt200, gt200, eq200, le300, ge300, lt300, gt300, eq300, le1332, ge1332, lt1332, gt1332, eq1332, le9999, ge9999, lt9999, gt9999, eq9999, le1000000, ge1000000, lt1000000, gt1000000, eq1000000, ]
  rw [if_neg (by omega), if_neg (by omega)]
theorem fed_loop {row : zA} {n : Nat} {par : Nat → Nat} (P : PR row n par) (x : Nat) (hx : x < n) : ∀ (j k fuel : Nat) (l1 : Int32), n ≤ k + j → x < k → k ≤ 11 → j < fuel → (∀ i, i < 32 → bt l1 i = (decide (i < k ∧ i < n) && fed par i x)) → B_X0_fedThrough_18 fuel l1 (nI k) row = some (mask (fun i => fed par i x) n) := by
  obtain ⟨hn, h4, hp, hfr, hop⟩ := P
  have fin : ∀ (k : Nat) (l1 : Int32), n ≤ k → (∀ i, i < 32 → bt l1 i = (decide (i < k ∧ i < n) && fed par i x)) → l1 = mask (fun i => fed par i x) n := by
    intro k l1 hk hi
    refine mask_is (by omega) fun i hi32 => ?_
    rw [hi i hi32]
    by_cases h : i < n
    · have : i < k := by omega
      simp [h, this]
    · simp [h]
  intro j
  induction j with
  | zero =>
    intro k fuel l1 hj h1 h11 hf hi
    obtain ⟨f, rfl⟩ : ∃ f, fuel = f + 1 := ⟨fuel - 1, by omega⟩
    rw [B_X0_fedThrough_18, h4]
    simp (disch := omega) only [gd_nI, nmI, b1s, b2s, b3s, b4s, b5s, b6s, b7s, le_nI, lt_nI, eq_nI, nI_add, Nat.add_zero, la9, la17, la27, la37, la47, la57, la67, la77, la87, la97, la111, la16, la106, la8, ra0, ra1, ra2, ra3, ra4, ra5, ra6, ra7, ra8, ra16, ra106, lm2, lm3, lm8, lm9, lm10, lm20, lm148, le0, ge0, lt0, gt0, eq0, le1, ge1, lt1, gt1, eq1, le2, ge2, lt2, gt2, eq2, le3, ge3, lt3, gt3, eq3, le4, ge4, lt4, gt4, eq4, le5, ge5, lt5, gt5, eq5, le6, ge6, lt6, gt6, eq6, le7, ge7, lt7, gt7, eq7, le8, ge8, lt8, gt8, eq8, le9, ge9, lt9, gt9, eq9, le10, ge10, lt10, gt10, eq10, le14, ge14, lt14, gt14, eq14, le16, ge16, lt16, gt16, eq16, le17, ge17, lt17, gt17, eq17, le20, ge20, lt20, gt20, eq20, le27, ge27, lt27, gt27, eq27, le37, ge37, lt37, gt37, eq37, le47, ge47, lt47, gt47, eq47, le50, ge50, lt50, gt50, eq50, le57, ge57, lt57, gt57, eq57, le67, ge67, lt67, gt67, eq67, le77, ge77, lt77, gt77, eq77, le80, ge80, lt80, gt80, eq80, le87, ge87, lt87, gt87, eq87, le97, ge97, lt97, gt97, eq97, le99, ge99, lt99, gt99, eq99, le100, ge100, lt100, gt100, eq100, le106, ge106, lt106, gt106, eq106, le111, ge111, lt111, gt111, eq111, le125, ge125, lt125, gt125, eq125, le148, ge148, lt148, gt148, eq148, le200, ge200, lt200, gt200, eq200, le300, ge300, lt300, gt300, eq300, le1332, ge1332, lt1332, gt1332, eq1332, le9999, ge9999, lt9999, gt9999, eq9999, le1000000, ge1000000, lt1000000, gt1000000, eq1000000, ]
    rw [if_pos (by omega), fin k l1 (by omega) hi]
  | succ j ih =>
    intro k fuel l1 hj h1 h11 hf hi
    obtain ⟨f, rfl⟩ : ∃ f, fuel = f + 1 := ⟨fuel - 1, by omega⟩
    rw [B_X0_fedThrough_18, h4]
    by_cases hk : n ≤ k
    · simp (disch := omega) only [gd_nI, nmI, b1s, b2s, b3s, b4s, b5s, b6s, b7s, le_nI, lt_nI, eq_nI, nI_add, Nat.add_zero, la9, la17, la27, la37, la47, la57, la67, la77, la87, la97, la111, la16, la106, la8, ra0, ra1, ra2, ra3, ra4, ra5, ra6, ra7, ra8, ra16, ra106, lm2, lm3, lm8, lm9, lm10, lm20, lm148, le0, ge0, lt0, gt0, eq0, le1, ge1, lt1, gt1, eq1, le2, ge2, lt2, gt2, eq2, le3, ge3, lt3, gt3, eq3, le4, ge4, lt4, gt4, eq4, le5, ge5, lt5, gt5, eq5, le6, ge6, lt6, gt6, eq6, le7, ge7, lt7, gt7, eq7, le8, ge8, lt8, gt8, eq8, le9, ge9, lt9, gt9, eq9, le10, ge10, lt10, gt10, eq10, le14, ge14, lt14, gt14, eq14, le16, ge16, lt16, gt16, eq16, le17, ge17, lt17, gt17, eq17, le20, ge20, lt20, gt20, eq20, le27, ge27, lt27, gt27, eq27, le37, ge37, lt37, gt37, eq37, le47, ge47, lt47, gt47, eq47, le50, ge50, lt50, gt50, eq50, le57, ge57, lt57, gt57, eq57, le67, ge67, lt67, gt67, eq67, le77, ge77, lt77, gt77, eq77, le80, ge80, lt80, gt80, eq80, le87, ge87, lt87, gt87, eq87, le97, ge97, lt97, gt97, eq97, le99, ge99, lt99, gt99, eq99, le100, ge100, lt100, gt100, eq100, le106, ge106, lt106, gt106, eq106, le111, ge111, lt111, gt111, eq111, le125, ge125, lt125, gt125, eq125, le148, ge148, lt148, gt148, eq148, le200, ge200, lt200, gt200, eq200, le300, ge300, lt300, gt300, eq300, le1332, ge1332, lt1332, gt1332, eq1332, le9999, ge9999, lt9999, gt9999, eq9999, le1000000, ge1000000, lt1000000, gt1000000, eq1000000, ]
      rw [if_pos hk, fin k l1 hk hi]
    · have hpk := hp k (by omega) (by omega)
      simp (disch := omega) only [gd_nI, nmI, b1s, b2s, b3s, b4s, b5s, b6s, b7s, le_nI, lt_nI, eq_nI, nI_add, Nat.add_zero, la9, la17, la27, la37, la47, la57, la67, la77, la87, la97, la111, la16, la106, la8, ra0, ra1, ra2, ra3, ra4, ra5, ra6, ra7, ra8, ra16, ra106, lm2, lm3, lm8, lm9, lm10, lm20, lm148, le0, ge0, lt0, gt0, eq0, le1, ge1, lt1, gt1, eq1, le2, ge2, lt2, gt2, eq2, le3, ge3, lt3, gt3, eq3, le4, ge4, lt4, gt4, eq4, le5, ge5, lt5, gt5, eq5, le6, ge6, lt6, gt6, eq6, le7, ge7, lt7, gt7, eq7, le8, ge8, lt8, gt8, eq8, le9, ge9, lt9, gt9, eq9, le10, ge10, lt10, gt10, eq10, le14, ge14, lt14, gt14, eq14, le16, ge16, lt16, gt16, eq16, le17, ge17, lt17, gt17, eq17, le20, ge20, lt20, gt20, eq20, le27, ge27, lt27, gt27, eq27, le37, ge37, lt37, gt37, eq37, le47, ge47, lt47, gt47, eq47, le50, ge50, lt50, gt50, eq50, le57, ge57, lt57, gt57, eq57, le67, ge67, lt67, gt67, eq67, le77, ge77, lt77, gt77, eq77, le80, ge80, lt80, gt80, eq80, le87, ge87, lt87, gt87, eq87, le97, ge97, lt97, gt97, eq97, le99, ge99, lt99, gt99, eq99, le100, ge100, lt100, gt100, eq100, le106, ge106, lt106, gt106, eq106, le111, ge111, lt111, gt111, eq111, le125, ge125, lt125, gt125, eq125, le148, ge148, lt148, gt148, eq148, le200, ge200, lt200, gt200, eq200, le300, ge300, lt300, gt300, eq300, le1332, ge1332, lt1332, gt1332, eq1332, le9999, ge9999, lt9999, gt9999, eq9999, le1000000, ge1000000, lt1000000, gt1000000, eq1000000, ]
      rw [if_neg hk, hfr k (by omega) (by omega)]
      simp only [bt_is0 l1 (show par k < 32 by omega)]
      have e1 : bt l1 (par k) = fed par (par k) x := by
        rw [hi _ (by omega)]
        have : par k < k ∧ par k < n := ⟨hpk, by omega⟩
        simp [this]
      have e2 : fed par k x = fed par (par k) x := by
        rw [fed_s (by omega) hpk]
        have : ¬ x = k := by omega
        simp [this]
      by_cases hd : bt l1 (par k) = false
      · rw [if_pos hd]
        refine ih (k + 1) f l1 (by omega) (by omega) (by omega) (by omega) (fun i hi32 => ?_)
        rw [hi i hi32]
        by_cases hik : i = k
        · subst hik
          rw [e2, ← e1, hd]
          simp
        · have : (i < k ∧ i < n) ↔ (i < k + 1 ∧ i < n) := by omega
          simp [this]
      · rw [if_neg hd]
        refine ih (k + 1) f _ (by omega) (by omega) (by omega) (by omega) (fun i hi32 => ?_)
        rw [bt_set _ (by omega) hi32, hi i hi32]
        by_cases hik : i = k
        · subst hik
          have hd' : bt l1 (par i) = true := by simpa using hd
          rw [e2, ← e1, hd']
          have : i < n := by omega
          simp [this]
        · have h8 : (i < k ∧ i < n) ↔ (i < k + 1 ∧ i < n) := by omega
          simp [h8, hik]
theorem d_fed {row : zA} {n : Nat} {par : Nat → Nat} (P : PR row n par) {x : Nat} (hx : x < n) : f_X0_fedThrough (nI x) row = some (mask (fun i => fed par i x) n) := by
  have hn := P.1
  unfold f_X0_fedThrough
  rw [isb_nI P.1 P.2.1 hx]
  simp only [b1s, nmI, ra1]
  rw [if_neg (show ¬ (1 : Int32) = 0 by decide)]
  refine fed_loop P x hx 10 (x + 1) FU _ (by omega) (by omega) (by omega) (FU_lt (by omega)) (fun i hi => ?_)
  rw [bt_shl1 (by omega) hi]
  by_cases h : i = x
  · subst h
    rw [fed_self]
    simp [hx]
  · by_cases h2 : i < x
    · rw [fed_gt h2]
      simp [h]
    · have : ¬ i < x + 1 := by omega
      simp [h, this]
