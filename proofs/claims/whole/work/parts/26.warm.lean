/-! A tick, in step: warming, and which fuses melt -/
theorem warm_sim {row s cu : zA} {b n T X k c : Nat} {par : Nat → Nat} (h : BR row s b n T X par) (hk : k < n) (hc : c ≤ 9999) (hcu : cu k = nI c) :
    ∃ row' s', f_X0_warm (nI k) (nI c) row = some row' ∧ f_X3_heats (nI b) (nI k) s cu = some s' ∧ BR row' s' b n T X par ∧ (∀ j, j ≠ 57 + k → j ≠ 67 + k → j ≠ 77 + k → row' j = row j) ∧ (∀ j, j ≠ b + 16 + 9 * k + 4 → j ≠ b + 16 + 9 * k + 5 → j ≠ b + 16 + 9 * k + 6 → s' j = s j) := by
  have hn := h.n10
  have hb := h.b14
  obtain ⟨r, hr1, hr2, er1, er2⟩ := h.rt k hk
  obtain ⟨t, ht, et1, et2⟩ := h.ht k hk
  obtain ⟨co, hco1, hco2, eco⟩ := h.coo
  obtain ⟨kd, hkd, ek1, ek2⟩ := h.kd k hk
  have eco2 : s (b + 1) = nI co := by rw [← h.st0 1 (by omega)]; exact eco
  have eag : s (b + 2) = row 2 := (h.st0 2 (by omega)).symm
  obtain ⟨q, hq, q1, q2⟩ := heat_same hc hr2 ht hco1 hco2
  have ezm : zmx 1 (nI co) = nI co := by
    unfold zmx
    by_cases h1 : co = 1
    · subst h1; rfl
    · rw [if_pos]
      rw [gt1 (by omega)]
      omega
  have enz : ¬ nI co = 0 := by rw [eq0 (by omega)]; omega
  have dev : f_X0_warm (nI k) (nI c) row = B_X0_warm_95 (nI k) (nI c) (nI r) (upd row (57 + k) (nI q)) := by
    unfold f_X0_warm
    simp (disch := omega) only [la27, la57, gd_nI, nmI, er1, et1, eco, ezm, zdv]
    by_cases hcr : nI c ≤ nI r
    · rw [if_pos hcr] at q1 ⊢
      rw [if_neg enz, q1]
    · rw [if_neg hcr] at q1 ⊢
      rw [q1]
  have ref : f_X3_heats (nI b) (nI k) s cu = B_X3_heats_111 (nI q) (nI (b + 16 + 9 * k + 4)) (nI b) (nI (b + 16 + 9 * k)) (nI c) (nI r) s cu := by
    unfold f_X3_heats B_X3_heats_78
    simp (disch := omega) only [f_X3_boardAt, b1s, ra16, lm9, nI_add, gd_nI, ra1, ra4, nmI, er2, et2, eco2, hcu, zdv]
    have key : ∀ x : Int32, x = (if nI c ≤ nI r then nI t + (-((nI r * nI r - nI c * nI c) / nI co)) else nI t + (nI c * nI c - nI r * nI r)) → (if x ≤ 1000000 then (if 0 ≤ x then B_X3_heats_111 x (nI (b + 16 + 9 * k + 4)) (nI b) (nI (b + 16 + 9 * k)) (nI c) (nI r) s cu else B_X3_heats_111 0 (nI (b + 16 + 9 * k + 4)) (nI b) (nI (b + 16 + 9 * k)) (nI c) (nI r) s cu) else B_X3_heats_111 1000000 (nI (b + 16 + 9 * k + 4)) (nI b) (nI (b + 16 + 9 * k)) (nI c) (nI r) s cu) = B_X3_heats_111 (nI q) (nI (b + 16 + 9 * k + 4)) (nI b) (nI (b + 16 + 9 * k)) (nI c) (nI r) s cu := by
      intro x hx
      rw [← q2 x hx]
      by_cases h6 : x ≤ 1000000
      · rw [if_pos h6, if_pos h6]
        by_cases h7 : (0 : Int32) ≤ x
        · rw [if_pos h7, if_pos h7]
        · rw [if_neg h7, if_neg h7]
      · rw [if_neg h6, if_neg h6]
    by_cases hcr : nI c ≤ nI r
    · rw [if_pos hcr, if_neg enz]
      exact key _ (by rw [if_pos hcr])
    · rw [if_neg hcr]
      exact key _ (by rw [if_neg hcr])
  have w1 := h.hw k hk
  have sp := h.sp k hk
  have cr := h.cr k hk
  -- no creeping
  have plain : ∃ row' s', some (upd row (57 + k) (nI q)) = some row' ∧ some (upd s (b + 16 + 9 * k + 4) (nI q)) = some s' ∧ BR row' s' b n T X par ∧ (∀ j, j ≠ 57 + k → j ≠ 67 + k → j ≠ 77 + k → row' j = row j) ∧ (∀ j, j ≠ b + 16 + 9 * k + 4 → j ≠ b + 16 + 9 * k + 5 → j ≠ b + 16 + 9 * k + 6 → s' j = s j) := by
    refine ⟨_, _, rfl, rfl, ?_, fun j h1 _ _ => upd_ne h1, fun j h1 _ _ => upd_ne h1⟩
    refine h.step hk (fun j _ h1 _ _ _ => upd_ne h1) (fun j hj => upd_ne (by omega)) (fun j _ => by rw [upd_ne (by omega)]) ?_ ?_ ?_ ?_
    · rw [upd_ne (by omega), upd_ne (by omega), upd_ne (by omega), upd_ne (by omega)]; exact w1
    · exact ⟨q, hq, upd_eq _ _ _, upd_eq _ _ _⟩
    · rw [upd_ne (by omega), upd_ne (by omega)]; exact sp
    · rw [upd_ne (by omega), upd_ne (by omega)]; exact cr
  rw [dev, ref]
  unfold B_X0_warm_95 B_X3_heats_111
  simp (disch := omega) only [gd_nI, nmI, b1s, b2s, b3s, b4s, b5s, b6s, b7s, le_nI, lt_nI, eq_nI, nI_add, Nat.add_zero, la9, la17, la27, la37, la47, la57, la67, la77, la87, la97, la111, la16, la106, la8, ra0, ra1, ra2, ra3, ra4, ra5, ra6, ra7, ra8, ra16, ra106, lm2, lm3, lm8, lm9, lm10, lm20, lm148, le0, ge0, lt0, gt0, eq0, le1, ge1, lt1, gt1, eq1, le2, ge2, lt2, gt2, eq2, le3, ge3, lt3, gt3, eq3, le4, ge4, lt4, gt4, eq4, le5, ge5, lt5, gt5, eq5, le6, ge6, lt6, gt6, eq6, le7, ge7, lt7, gt7, eq7, le8, ge8, lt8, gt8, eq8, le9, ge9, lt9, gt9, eq9, le10, ge10, lt10, gt10, eq10, le14, ge14, lt14, gt14, eq14, le16, ge16, lt16, gt16, eq16, le17, ge17, lt17, gt17, eq17, le20, ge20, lt20, gt20, eq20, le27, ge27, lt27, gt27, eq27, le37, ge37, lt37, gt37, eq37, le47, ge47, lt47, gt47, eq47, le50, ge50, lt50, gt50, eq50, le57, ge57, lt57, gt57, eq57, le67, ge67, lt67, gt67, eq67, le77, ge77, lt77, gt77, eq77, le80, ge80, lt80, gt80, eq80, le87, ge87, lt87, gt87, eq87, le97, ge97, lt97, gt97, eq97, le99, ge99, lt99, gt99, eq99, le100, ge100, lt100, gt100, eq100, le106, ge106, lt106, gt106, eq106, le111, ge111, lt111, gt111, eq111, le125, ge125, lt125, gt125, eq125, le148, ge148, lt148, gt148, eq148, le200, ge200, lt200, gt200, eq200, le300, ge300, lt300, gt300, eq300, le1332, ge1332, lt1332, gt1332, eq1332, le9999, ge9999, lt9999, gt9999, eq9999, le1000000, ge1000000, lt1000000, gt1000000, eq1000000, ]
  rw [upd_ne (by omega), upd_ne (by omega), ek1, ek2]
  by_cases h2 : nI kd = 2
  · rw [if_pos h2, if_pos h2]
    by_cases h3 : 2 * c ≤ r
    · rw [if_pos h3, if_pos h3]
      exact plain
    · rw [if_neg h3, if_neg h3]
      unfold f_X0_creep
      simp (disch := omega) only [gd_nI, nmI, b1s, b2s, b3s, b4s, b5s, b6s, b7s, le_nI, lt_nI, eq_nI, nI_add, Nat.add_zero, la9, la17, la27, la37, la47, la57, la67, la77, la87, la97, la111, la16, la106, la8, ra0, ra1, ra2, ra3, ra4, ra5, ra6, ra7, ra8, ra16, ra106, lm2, lm3, lm8, lm9, lm10, lm20, lm148, le0, ge0, lt0, gt0, eq0, le1, ge1, lt1, gt1, eq1, le2, ge2, lt2, gt2, eq2, le3, ge3, lt3, gt3, eq3, le4, ge4, lt4, gt4, eq4, le5, ge5, lt5, gt5, eq5, le6, ge6, lt6, gt6, eq6, le7, ge7, lt7, gt7, eq7, le8, ge8, lt8, gt8, eq8, le9, ge9, lt9, gt9, eq9, le10, ge10, lt10, gt10, eq10, le14, ge14, lt14, gt14, eq14, le16, ge16, lt16, gt16, eq16, le17, ge17, lt17, gt17, eq17, le20, ge20, lt20, gt20, eq20, le27, ge27, lt27, gt27, eq27, le37, ge37, lt37, gt37, eq37, le47, ge47, lt47, gt47, eq47, le50, ge50, lt50, gt50, eq50, le57, ge57, lt57, gt57, eq57, le67, ge67, lt67, gt67, eq67, le77, ge77, lt77, gt77, eq77, le80, ge80, lt80, gt80, eq80, le87, ge87, lt87, gt87, eq87, le97, ge97, lt97, gt97, eq97, le99, ge99, lt99, gt99, eq99, le100, ge100, lt100, gt100, eq100, le106, ge106, lt106, gt106, eq106, le111, ge111, lt111, gt111, eq111, le125, ge125, lt125, gt125, eq125, le148, ge148, lt148, gt148, eq148, le200, ge200, lt200, gt200, eq200, le300, ge300, lt300, gt300, eq300, le1332, ge1332, lt1332, gt1332, eq1332, le9999, ge9999, lt9999, gt9999, eq9999, le1000000, ge1000000, lt1000000, gt1000000, eq1000000, ]
      have a1 : upd row (57 + k) (nI q) (77 + k) = row (77 + k) := upd_ne (by omega)
      have a2 : upd s (b + 16 + 9 * k + 4) (nI q) (b + 16 + 9 * k + 6) = row (77 + k) := by rw [upd_ne (by omega), cr]
      have a3 : upd (upd row (57 + k) (nI q)) (77 + k) (row (77 + k) + 1) 2 = row 2 := by rw [upd_ne (by omega), upd_ne (by omega)]
      have a4 : upd (upd s (b + 16 + 9 * k + 4) (nI q)) (b + 16 + 9 * k + 6) (row (77 + k) + 1) (b + 2) = row 2 := by rw [upd_ne (by omega), upd_ne (by omega), eag]
      rw [a1, a2, a3, a4, upd_eq, upd_eq]
      by_cases h4 : row 2 ≤ row (77 + k) + 1
      · rw [if_pos h4, if_neg (Int32.not_lt.mpr h4)]
        simp (disch := omega) only [gd_nI, nmI, b1s, b2s, b3s, b4s, b5s, b6s, b7s, le_nI, lt_nI, eq_nI, nI_add, Nat.add_zero, la9, la17, la27, la37, la47, la57, la67, la77, la87, la97, la111, la16, la106, la8, ra0, ra1, ra2, ra3, ra4, ra5, ra6, ra7, ra8, ra16, ra106, lm2, lm3, lm8, lm9, lm10, lm20, lm148, le0, ge0, lt0, gt0, eq0, le1, ge1, lt1, gt1, eq1, le2, ge2, lt2, gt2, eq2, le3, ge3, lt3, gt3, eq3, le4, ge4, lt4, gt4, eq4, le5, ge5, lt5, gt5, eq5, le6, ge6, lt6, gt6, eq6, le7, ge7, lt7, gt7, eq7, le8, ge8, lt8, gt8, eq8, le9, ge9, lt9, gt9, eq9, le10, ge10, lt10, gt10, eq10, le14, ge14, lt14, gt14, eq14, le16, ge16, lt16, gt16, eq16, le17, ge17, lt17, gt17, eq17, le20, ge20, lt20, gt20, eq20, le27, ge27, lt27, gt27, eq27, le37, ge37, lt37, gt37, eq37, le47, ge47, lt47, gt47, eq47, le50, ge50, lt50, gt50, eq50, le57, ge57, lt57, gt57, eq57, le67, ge67, lt67, gt67, eq67, le77, ge77, lt77, gt77, eq77, le80, ge80, lt80, gt80, eq80, le87, ge87, lt87, gt87, eq87, le97, ge97, lt97, gt97, eq97, le99, ge99, lt99, gt99, eq99, le100, ge100, lt100, gt100, eq100, le106, ge106, lt106, gt106, eq106, le111, ge111, lt111, gt111, eq111, le125, ge125, lt125, gt125, eq125, le148, ge148, lt148, gt148, eq148, le200, ge200, lt200, gt200, eq200, le300, ge300, lt300, gt300, eq300, le1332, ge1332, lt1332, gt1332, eq1332, le9999, ge9999, lt9999, gt9999, eq9999, le1000000, ge1000000, lt1000000, gt1000000, eq1000000, ]
        refine ⟨_, _, rfl, rfl, ?_, ?_, ?_⟩
        · refine h.step hk (fun j g1 g2 g3 g4 g5 => ?_) (fun j hj => ?_) (fun j _ => ?_) ?_ ?_ ?_ ?_
          · rw [upd_ne g3, upd_ne g4, upd_ne g4, upd_ne g2]
          · rw [upd_ne (by omega), upd_ne (by omega), upd_ne (by omega), upd_ne (by omega)]
          · rw [upd_ne (by omega), upd_ne (by omega), upd_ne (by omega), upd_ne (by omega)]
          · have z1 : ∀ j, j ≠ 57 + k → j ≠ 67 + k → j ≠ 77 + k → upd (upd (upd (upd row (57 + k) (nI q)) (77 + k) (row (77 + k) + 1)) (77 + k) 0) (67 + k) (upd (upd (upd row (57 + k) (nI q)) (77 + k) (row (77 + k) + 1)) (77 + k) 0 (67 + k) + 1) j = row j := fun j g1 g2 g3 => by rw [upd_ne g2, upd_ne g3, upd_ne g3, upd_ne g1]
            rw [z1 _ (by omega) (by omega) (by omega), z1 _ (by omega) (by omega) (by omega), upd_ne (by omega), upd_ne (by omega), upd_ne (by omega), upd_ne (by omega), upd_ne (by omega), upd_ne (by omega), upd_ne (by omega), upd_ne (by omega)]
            exact w1
          · refine ⟨q, hq, ?_, ?_⟩
            · rw [upd_ne (by omega), upd_ne (by omega), upd_ne (by omega), upd_eq]
            · rw [upd_ne (by omega), upd_ne (by omega), upd_ne (by omega), upd_eq]
          · rw [upd_eq, upd_ne (by omega), upd_ne (by omega), upd_ne (by omega), upd_ne (by omega), upd_eq, upd_ne (by omega), upd_ne (by omega), sp]
          · rw [upd_ne (by omega), upd_eq, upd_eq]
        · intro j g1 g2 g3
          rw [upd_ne g2, upd_ne g3, upd_ne g3, upd_ne g1]
        · intro j h1 h2 h3
          rw [upd_ne (by omega), upd_ne (by omega), upd_ne (by omega), upd_ne (by omega)]
      · rw [if_neg h4, if_pos (Int32.not_le.mp h4)]
        refine ⟨_, _, rfl, rfl, ?_, ?_, ?_⟩
        · refine h.step hk (fun j g1 g2 g3 g4 g5 => ?_) (fun j hj => ?_) (fun j _ => ?_) ?_ ?_ ?_ ?_
          · rw [upd_ne g4, upd_ne g2]
          · rw [upd_ne (by omega), upd_ne (by omega)]
          · rw [upd_ne (by omega), upd_ne (by omega)]
          · rw [upd_ne (by omega), upd_ne (by omega), upd_ne (by omega), upd_ne (by omega), upd_ne (by omega), upd_ne (by omega), upd_ne (by omega), upd_ne (by omega)]
            exact w1
          · refine ⟨q, hq, ?_, ?_⟩
            · rw [upd_ne (by omega), upd_eq]
            · rw [upd_ne (by omega), upd_eq]
          · rw [upd_ne (by omega), upd_ne (by omega), upd_ne (by omega), upd_ne (by omega), sp]
          · rw [upd_eq, upd_eq]
        · intro j g1 g2 g3
          rw [upd_ne g3, upd_ne g1]
        · intro j h1 h2 h3
          rw [upd_ne (by omega), upd_ne (by omega)]
  · rw [if_neg h2, if_neg h2]
    exact plain
/-- what is hot, read from the reference -/
theorem hot_ref {row s : zA} {b n T X k : Nat} {par : Nat → Nat} (h : BR row s b n T X par) (hk : k < n) : hotb row k = (decide (s (b + 16 + 9 * k + 3) = 0) && !decide (s (b + 16 + 9 * k + 4) < mlt (s (b + 16 + 9 * k + 1)) (s (b + 16 + 9 * k + 2)) (s (b + 16 + 9 * k + 5)))) := by
  obtain ⟨r, hr1, hr2, er1, er2⟩ := h.rt k hk
  obtain ⟨t, ht, et1, et2⟩ := h.ht k hk
  obtain ⟨kd, hkd, ek1, ek2⟩ := h.kd k hk
  unfold hotb
  rw [er1, er2, et1, et2, ek1, ek2, h.sp k hk]
  congr 1
  obtain ⟨a, ha, e1, e2, ⟨h1, ⟨h2, h3⟩ | ⟨h2, h3⟩⟩ | ⟨h1, h2, h3⟩⟩ := h.hw k hk
  · rw [h1, h3, e1, h2]; rfl
  · rw [h1, h3, e1]
    have : ¬ nI a ≤ 0 := by rw [le0 (by omega)]; omega
    simp [this]
  · rw [h1, h3]; rfl
theorem heat_loop {b n T X : Nat} {par : Nat → Nat} {flow cu mf : zA} {C : Nat → Nat} (hC : ∀ k, k < n → C k ≤ 9999) (hfl : ∀ k, k < n → flow k = nI (C k)) (hcu : ∀ k, k < n → cu k = nI (C k)) : ∀ (j k : Nat) (row s ho : zA), n = k + j → BR row s b n T X par → (∀ i, i < k → ho i = if hotb row i then 1 else 0) →
    ∃ row' s' ho', (∀ fuel, j < fuel → B_X0_tick_10 fuel (nI k) row flow = (b1 (f_X0_molten row') fun v1 => b1 (f_X0_nearestOf v1 row') fun v3 => B_X0_tick_56 FU v3 0 row' flow)) ∧
      (∀ fuel, j < fuel → B_X3_tick_55 fuel (nI b) (nI n) (nI k) s cu ho mf = B_X3_tick_141 FU (nI b) (nI n) 0 0 s' cu ho' mf) ∧ BR row' s' b n T X par ∧ FRr row row' ∧ FRs s s' b ∧ (∀ i, i < n → ho' i = if hotb row' i then 1 else 0) := by
  intro j
  induction j with
  | zero =>
    intro k row s ho hk h hi
    have hn := h.n10
    refine ⟨row, s, ho, fun fuel hf => ?_, fun fuel hf => ?_, h, FRr.rf _, FRs.rf _ _, fun i hi2 => hi i (by omega)⟩
    · obtain ⟨f, rfl⟩ : ∃ f, fuel = f + 1 := ⟨fuel - 1, by omega⟩
      rw [B_X0_tick_10, h.r4]
      simp (disch := omega) only [gd_nI, nmI, b1s, b2s, b3s, b4s, b5s, b6s, b7s, le_nI, lt_nI, eq_nI, nI_add, Nat.add_zero, la9, la17, la27, la37, la47, la57, la67, la77, la87, la97, la111, la16, la106, la8, ra0, ra1, ra2, ra3, ra4, ra5, ra6, ra7, ra8, ra16, ra106, lm2, lm3, lm8, lm9, lm10, lm20, lm148, le0, ge0, lt0, gt0, eq0, le1, ge1, lt1, gt1, eq1, le2, ge2, lt2, gt2, eq2, le3, ge3, lt3, gt3, eq3, le4, ge4, lt4, gt4, eq4, le5, ge5, lt5, gt5, eq5, le6, ge6, lt6, gt6, eq6, le7, ge7, lt7, gt7, eq7, le8, ge8, lt8, gt8, eq8, le9, ge9, lt9, gt9, eq9, le10, ge10, lt10, gt10, eq10, le14, ge14, lt14, gt14, eq14, le16, ge16, lt16, gt16, eq16, le17, ge17, lt17, gt17, eq17, le20, ge20, lt20, gt20, eq20, le27, ge27, lt27, gt27, eq27, le37, ge37, lt37, gt37, eq37, le47, ge47, lt47, gt47, eq47, le50, ge50, lt50, gt50, eq50, le57, ge57, lt57, gt57, eq57, le67, ge67, lt67, gt67, eq67, le77, ge77, lt77, gt77, eq77, le80, ge80, lt80, gt80, eq80, le87, ge87, lt87, gt87, eq87, le97, ge97, lt97, gt97, eq97, le99, ge99, lt99, gt99, eq99, le100, ge100, lt100, gt100, eq100, le106, ge106, lt106, gt106, eq106, le111, ge111, lt111, gt111, eq111, le125, ge125, lt125, gt125, eq125, le148, ge148, lt148, gt148, eq148, le200, ge200, lt200, gt200, eq200, le300, ge300, lt300, gt300, eq300, le1332, ge1332, lt1332, gt1332, eq1332, le9999, ge9999, lt9999, gt9999, eq9999, le1000000, ge1000000, lt1000000, gt1000000, eq1000000, ]
      rw [if_pos (by omega)]
    · obtain ⟨f, rfl⟩ : ∃ f, fuel = f + 1 := ⟨fuel - 1, by omega⟩
      rw [B_X3_tick_55]
      simp (disch := omega) only [gd_nI, nmI, b1s, b2s, b3s, b4s, b5s, b6s, b7s, le_nI, lt_nI, eq_nI, nI_add, Nat.add_zero, la9, la17, la27, la37, la47, la57, la67, la77, la87, la97, la111, la16, la106, la8, ra0, ra1, ra2, ra3, ra4, ra5, ra6, ra7, ra8, ra16, ra106, lm2, lm3, lm8, lm9, lm10, lm20, lm148, le0, ge0, lt0, gt0, eq0, le1, ge1, lt1, gt1, eq1, le2, ge2, lt2, gt2, eq2, le3, ge3, lt3, gt3, eq3, le4, ge4, lt4, gt4, eq4, le5, ge5, lt5, gt5, eq5, le6, ge6, lt6, gt6, eq6, le7, ge7, lt7, gt7, eq7, le8, ge8, lt8, gt8, eq8, le9, ge9, lt9, gt9, eq9, le10, ge10, lt10, gt10, eq10, le14, ge14, lt14, gt14, eq14, le16, ge16, lt16, gt16, eq16, le17, ge17, lt17, gt17, eq17, le20, ge20, lt20, gt20, eq20, le27, ge27, lt27, gt27, eq27, le37, ge37, lt37, gt37, eq37, le47, ge47, lt47, gt47, eq47, le50, ge50, lt50, gt50, eq50, le57, ge57, lt57, gt57, eq57, le67, ge67, lt67, gt67, eq67, le77, ge77, lt77, gt77, eq77, le80, ge80, lt80, gt80, eq80, le87, ge87, lt87, gt87, eq87, le97, ge97, lt97, gt97, eq97, le99, ge99, lt99, gt99, eq99, le100, ge100, lt100, gt100, eq100, le106, ge106, lt106, gt106, eq106, le111, ge111, lt111, gt111, eq111, le125, ge125, lt125, gt125, eq125, le148, ge148, lt148, gt148, eq148, le200, ge200, lt200, gt200, eq200, le300, ge300, lt300, gt300, eq300, le1332, ge1332, lt1332, gt1332, eq1332, le9999, ge9999, lt9999, gt9999, eq9999, le1000000, ge1000000, lt1000000, gt1000000, eq1000000, ]
      rw [if_pos (by omega)]
  | succ j ih =>
    intro k row s ho hk h hi
    have hn := h.n10
    have hb := h.b14
    have hkn : k < n := by omega
    -- what the two do at k
    have go : ∀ row1 s1, BR row1 s1 b n T X par → FRr row row1 → FRs s s1 b → (∀ i, i < k → hotb row1 i = hotb row i) →
        (∀ f, B_X0_tick_10 (f + 1) (nI k) row flow = B_X0_tick_10 f (nI (k + 1)) row1 flow) →
        (∀ f, B_X3_tick_55 (f + 1) (nI b) (nI n) (nI k) s cu ho mf = B_X3_tick_55 f (nI b) (nI n) (nI (k + 1)) s1 cu (upd ho k (if hotb row1 k then 1 else 0)) mf) →
        ∃ row' s' ho', (∀ fuel, j + 1 < fuel → B_X0_tick_10 fuel (nI k) row flow = (b1 (f_X0_molten row') fun v1 => b1 (f_X0_nearestOf v1 row') fun v3 => B_X0_tick_56 FU v3 0 row' flow)) ∧
          (∀ fuel, j + 1 < fuel → B_X3_tick_55 fuel (nI b) (nI n) (nI k) s cu ho mf = B_X3_tick_141 FU (nI b) (nI n) 0 0 s' cu ho' mf) ∧ BR row' s' b n T X par ∧ FRr row row' ∧ FRs s s' b ∧ (∀ i, i < n → ho' i = if hotb row' i then 1 else 0) := by
      intro row1 s1 h1 f1 f2 hot e1 e2
      obtain ⟨row', s', ho', a1, a2, a3, a4, a5, a6⟩ := ih (k + 1) row1 s1 (upd ho k (if hotb row1 k then 1 else 0)) (by omega) h1 (fun i hik => by
        by_cases hik2 : i = k
        · subst hik2; rw [upd_eq]
        · rw [upd_ne hik2, hi i (by omega), hot i (by omega)])
      refine ⟨row', s', ho', fun fuel hf => ?_, fun fuel hf => ?_, a3, f1.tr a4, f2.tr a5, a6⟩
      · obtain ⟨f, rfl⟩ : ∃ f, fuel = f + 1 := ⟨fuel - 1, by omega⟩
        rw [e1, a1 f (by omega)]
      · obtain ⟨f, rfl⟩ : ∃ f, fuel = f + 1 := ⟨fuel - 1, by omega⟩
        rw [e2, a2 f (by omega)]
    have hflk := hfl k hkn
    have hck := hC k hkn
    obtain ⟨row1, s1, w1, w2, w3, w4, w5⟩ := warm_sim h hkn hck (hcu k hkn)
    have hhr := hot_ref h hkn
    have fin : ∀ (s1 : zA) (v : Bool) (f : Nat), (gd (nI k) 10 fun k1 => nmI (upd ho k1 (vp_nar .boolean (if v then 1 else 0))) fun ho3 => nmI (nI k + 1) fun x5 => B_X3_tick_55 f (nI b) (nI n) x5 s1 cu ho3 mf) = B_X3_tick_55 f (nI b) (nI n) (nI (k + 1)) s1 cu (upd ho k (if v then 1 else 0)) mf := by
      intro s1 v f
      simp (disch := omega) only [gd_nI, nmI, b1s, b2s, b3s, b4s, b5s, b6s, b7s, le_nI, lt_nI, eq_nI, nI_add, Nat.add_zero, la9, la17, la27, la37, la47, la57, la67, la77, la87, la97, la111, la16, la106, la8, ra0, ra1, ra2, ra3, ra4, ra5, ra6, ra7, ra8, ra16, ra106, lm2, lm3, lm8, lm9, lm10, lm20, lm148, le0, ge0, lt0, gt0, eq0, le1, ge1, lt1, gt1, eq1, le2, ge2, lt2, gt2, eq2, le3, ge3, lt3, gt3, eq3, le4, ge4, lt4, gt4, eq4, le5, ge5, lt5, gt5, eq5, le6, ge6, lt6, gt6, eq6, le7, ge7, lt7, gt7, eq7, le8, ge8, lt8, gt8, eq8, le9, ge9, lt9, gt9, eq9, le10, ge10, lt10, gt10, eq10, le14, ge14, lt14, gt14, eq14, le16, ge16, lt16, gt16, eq16, le17, ge17, lt17, gt17, eq17, le20, ge20, lt20, gt20, eq20, le27, ge27, lt27, gt27, eq27, le37, ge37, lt37, gt37, eq37, le47, ge47, lt47, gt47, eq47, le50, ge50, lt50, gt50, eq50, le57, ge57, lt57, gt57, eq57, le67, ge67, lt67, gt67, eq67, le77, ge77, lt77, gt77, eq77, le80, ge80, lt80, gt80, eq80, le87, ge87, lt87, gt87, eq87, le97, ge97, lt97, gt97, eq97, le99, ge99, lt99, gt99, eq99, le100, ge100, lt100, gt100, eq100, le106, ge106, lt106, gt106, eq106, le111, ge111, lt111, gt111, eq111, le125, ge125, lt125, gt125, eq125, le148, ge148, lt148, gt148, eq148, le200, ge200, lt200, gt200, eq200, le300, ge300, lt300, gt300, eq300, le1332, ge1332, lt1332, gt1332, eq1332, le9999, ge9999, lt9999, gt9999, eq9999, le1000000, ge1000000, lt1000000, gt1000000, eq1000000, ]
      cases v <;> rfl
    obtain ⟨a, ha, e1, e2, hc⟩ := h.hw k hkn
    by_cases hwh : bt (row 7) k = false ∧ a = 0
    · have hh : s (b + 16 + 9 * k + 3) = 0 := by
        rcases hc with ⟨-, ⟨-, q⟩ | ⟨q, -⟩⟩ | ⟨q, -, -⟩
        · exact q
        · omega
        · rw [hwh.1] at q; cases q
      have hh1 := hot_ref w3 hkn
      have hh2 : s1 (b + 16 + 9 * k + 3) = 0 := by rw [w5 _ (by omega) (by omega) (by omega)]; exact hh
      refine go row1 s1 w3 (fun i hi2 => w4 i (by omega) (by omega) (by omega)) (fun i hi2 => w5 i (by omega) (by omega) (by omega)) (fun i hik => ?_) (fun f => ?_) (fun f => ?_)
      · unfold hotb
        rw [w4 7 (by omega) (by omega) (by omega), w4 (47 + i) (by omega) (by omega) (by omega), w4 (57 + i) (by omega) (by omega) (by omega), w4 (27 + i) (by omega) (by omega) (by omega), w4 (37 + i) (by omega) (by omega) (by omega), w4 (67 + i) (by omega) (by omega) (by omega)]
      · rw [B_X0_tick_10, h.r4, d_state (by omega), hwh.1, e1, hwh.2]
        simp (disch := omega) only [gd_nI, nmI, b1s, b2s, b3s, b4s, b5s, b6s, b7s, le_nI, lt_nI, eq_nI, nI_add, Nat.add_zero, la9, la17, la27, la37, la47, la57, la67, la77, la87, la97, la111, la16, la106, la8, ra0, ra1, ra2, ra3, ra4, ra5, ra6, ra7, ra8, ra16, ra106, lm2, lm3, lm8, lm9, lm10, lm20, lm148, le0, ge0, lt0, gt0, eq0, le1, ge1, lt1, gt1, eq1, le2, ge2, lt2, gt2, eq2, le3, ge3, lt3, gt3, eq3, le4, ge4, lt4, gt4, eq4, le5, ge5, lt5, gt5, eq5, le6, ge6, lt6, gt6, eq6, le7, ge7, lt7, gt7, eq7, le8, ge8, lt8, gt8, eq8, le9, ge9, lt9, gt9, eq9, le10, ge10, lt10, gt10, eq10, le14, ge14, lt14, gt14, eq14, le16, ge16, lt16, gt16, eq16, le17, ge17, lt17, gt17, eq17, le20, ge20, lt20, gt20, eq20, le27, ge27, lt27, gt27, eq27, le37, ge37, lt37, gt37, eq37, le47, ge47, lt47, gt47, eq47, le50, ge50, lt50, gt50, eq50, le57, ge57, lt57, gt57, eq57, le67, ge67, lt67, gt67, eq67, le77, ge77, lt77, gt77, eq77, le80, ge80, lt80, gt80, eq80, le87, ge87, lt87, gt87, eq87, le97, ge97, lt97, gt97, eq97, le99, ge99, lt99, gt99, eq99, le100, ge100, lt100, gt100, eq100, le106, ge106, lt106, gt106, eq106, le111, ge111, lt111, gt111, eq111, le125, ge125, lt125, gt125, eq125, le148, ge148, lt148, gt148, eq148, le200, ge200, lt200, gt200, eq200, le300, ge300, lt300, gt300, eq300, le1332, ge1332, lt1332, gt1332, eq1332, le9999, ge9999, lt9999, gt9999, eq9999, le1000000, ge1000000, lt1000000, gt1000000, eq1000000,  Bool.false_eq_true, if_false]
        rw [if_neg (by omega)]
        simp only [Nat.le_refl, if_true]
        rw [hflk, w1]
        simp only [b1s]
      · rw [B_X3_tick_55]
        simp (disch := omega) only [gd_nI, nmI, b1s, b2s, b3s, b4s, b5s, b6s, b7s, le_nI, lt_nI, eq_nI, nI_add, Nat.add_zero, la9, la17, la27, la37, la47, la57, la67, la77, la87, la97, la111, la16, la106, la8, ra0, ra1, ra2, ra3, ra4, ra5, ra6, ra7, ra8, ra16, ra106, lm2, lm3, lm8, lm9, lm10, lm20, lm148, le0, ge0, lt0, gt0, eq0, le1, ge1, lt1, gt1, eq1, le2, ge2, lt2, gt2, eq2, le3, ge3, lt3, gt3, eq3, le4, ge4, lt4, gt4, eq4, le5, ge5, lt5, gt5, eq5, le6, ge6, lt6, gt6, eq6, le7, ge7, lt7, gt7, eq7, le8, ge8, lt8, gt8, eq8, le9, ge9, lt9, gt9, eq9, le10, ge10, lt10, gt10, eq10, le14, ge14, lt14, gt14, eq14, le16, ge16, lt16, gt16, eq16, le17, ge17, lt17, gt17, eq17, le20, ge20, lt20, gt20, eq20, le27, ge27, lt27, gt27, eq27, le37, ge37, lt37, gt37, eq37, le47, ge47, lt47, gt47, eq47, le50, ge50, lt50, gt50, eq50, le57, ge57, lt57, gt57, eq57, le67, ge67, lt67, gt67, eq67, le77, ge77, lt77, gt77, eq77, le80, ge80, lt80, gt80, eq80, le87, ge87, lt87, gt87, eq87, le97, ge97, lt97, gt97, eq97, le99, ge99, lt99, gt99, eq99, le100, ge100, lt100, gt100, eq100, le106, ge106, lt106, gt106, eq106, le111, ge111, lt111, gt111, eq111, le125, ge125, lt125, gt125, eq125, le148, ge148, lt148, gt148, eq148, le200, ge200, lt200, gt200, eq200, le300, ge300, lt300, gt300, eq300, le1332, ge1332, lt1332, gt1332, eq1332, le9999, ge9999, lt9999, gt9999, eq9999, le1000000, ge1000000, lt1000000, gt1000000, eq1000000,  f_X3_boardAt]
        rw [if_neg (by omega), if_pos hh]
        unfold B_X3_tick_80
        rw [if_neg (by decide), w2]
        simp only [b1s]
        unfold B_X3_tick_93
        rw [if_neg (by decide), r_melt (by omega) hb]
        simp (disch := omega) only [gd_nI, nmI, b1s, b2s, b3s, b4s, b5s, b6s, b7s, le_nI, lt_nI, eq_nI, nI_add, Nat.add_zero, la9, la17, la27, la37, la47, la57, la67, la77, la87, la97, la111, la16, la106, la8, ra0, ra1, ra2, ra3, ra4, ra5, ra6, ra7, ra8, ra16, ra106, lm2, lm3, lm8, lm9, lm10, lm20, lm148, le0, ge0, lt0, gt0, eq0, le1, ge1, lt1, gt1, eq1, le2, ge2, lt2, gt2, eq2, le3, ge3, lt3, gt3, eq3, le4, ge4, lt4, gt4, eq4, le5, ge5, lt5, gt5, eq5, le6, ge6, lt6, gt6, eq6, le7, ge7, lt7, gt7, eq7, le8, ge8, lt8, gt8, eq8, le9, ge9, lt9, gt9, eq9, le10, ge10, lt10, gt10, eq10, le14, ge14, lt14, gt14, eq14, le16, ge16, lt16, gt16, eq16, le17, ge17, lt17, gt17, eq17, le20, ge20, lt20, gt20, eq20, le27, ge27, lt27, gt27, eq27, le37, ge37, lt37, gt37, eq37, le47, ge47, lt47, gt47, eq47, le50, ge50, lt50, gt50, eq50, le57, ge57, lt57, gt57, eq57, le67, ge67, lt67, gt67, eq67, le77, ge77, lt77, gt77, eq77, le80, ge80, lt80, gt80, eq80, le87, ge87, lt87, gt87, eq87, le97, ge97, lt97, gt97, eq97, le99, ge99, lt99, gt99, eq99, le100, ge100, lt100, gt100, eq100, le106, ge106, lt106, gt106, eq106, le111, ge111, lt111, gt111, eq111, le125, ge125, lt125, gt125, eq125, le148, ge148, lt148, gt148, eq148, le200, ge200, lt200, gt200, eq200, le300, ge300, lt300, gt300, eq300, le1332, ge1332, lt1332, gt1332, eq1332, le9999, ge9999, lt9999, gt9999, eq9999, le1000000, ge1000000, lt1000000, gt1000000, eq1000000,  f_X3_boardAt]
        rw [hh1, hh2]
        by_cases hm : s1 (b + 16 + 9 * k + 4) < mlt (s1 (b + 16 + 9 * k + 1)) (s1 (b + 16 + 9 * k + 2)) (s1 (b + 16 + 9 * k + 5))
        · rw [if_pos hm]
          unfold B_X3_tick_128 B_X3_tick_129
          have := fin s1 false f
          simp only [Bool.false_eq_true, if_false] at this
          rw [this]
          simp [hm]
        · rw [if_neg hm]
          unfold B_X3_tick_129
          have := fin s1 true f
          simp only [if_true] at this
          rw [this]
          simp [hm]
    · have hh : ¬ s (b + 16 + 9 * k + 3) = 0 := by
        rcases hc with ⟨q1, ⟨q2, -⟩ | ⟨-, q⟩⟩ | ⟨-, -, q⟩
        · exact absurd ⟨q1, q2⟩ hwh
        · rw [q]; decide
        · rw [q]; decide
      have hnot : hotb row k = false := by rw [hhr]; simp [hh]
      refine go row s h (FRr.rf _) (FRs.rf _ _) (fun i _ => rfl) (fun f => ?_) (fun f => ?_)
      · rw [B_X0_tick_10, h.r4, d_state (by omega)]
        simp (disch := omega) only [gd_nI, nmI, b1s, b2s, b3s, b4s, b5s, b6s, b7s, le_nI, lt_nI, eq_nI, nI_add, Nat.add_zero, la9, la17, la27, la37, la47, la57, la67, la77, la87, la97, la111, la16, la106, la8, ra0, ra1, ra2, ra3, ra4, ra5, ra6, ra7, ra8, ra16, ra106, lm2, lm3, lm8, lm9, lm10, lm20, lm148, le0, ge0, lt0, gt0, eq0, le1, ge1, lt1, gt1, eq1, le2, ge2, lt2, gt2, eq2, le3, ge3, lt3, gt3, eq3, le4, ge4, lt4, gt4, eq4, le5, ge5, lt5, gt5, eq5, le6, ge6, lt6, gt6, eq6, le7, ge7, lt7, gt7, eq7, le8, ge8, lt8, gt8, eq8, le9, ge9, lt9, gt9, eq9, le10, ge10, lt10, gt10, eq10, le14, ge14, lt14, gt14, eq14, le16, ge16, lt16, gt16, eq16, le17, ge17, lt17, gt17, eq17, le20, ge20, lt20, gt20, eq20, le27, ge27, lt27, gt27, eq27, le37, ge37, lt37, gt37, eq37, le47, ge47, lt47, gt47, eq47, le50, ge50, lt50, gt50, eq50, le57, ge57, lt57, gt57, eq57, le67, ge67, lt67, gt67, eq67, le77, ge77, lt77, gt77, eq77, le80, ge80, lt80, gt80, eq80, le87, ge87, lt87, gt87, eq87, le97, ge97, lt97, gt97, eq97, le99, ge99, lt99, gt99, eq99, le100, ge100, lt100, gt100, eq100, le106, ge106, lt106, gt106, eq106, le111, ge111, lt111, gt111, eq111, le125, ge125, lt125, gt125, eq125, le148, ge148, lt148, gt148, eq148, le200, ge200, lt200, gt200, eq200, le300, ge300, lt300, gt300, eq300, le1332, ge1332, lt1332, gt1332, eq1332, le9999, ge9999, lt9999, gt9999, eq9999, le1000000, ge1000000, lt1000000, gt1000000, eq1000000, ]
        rw [if_neg (by omega), if_neg]
        rcases hc with ⟨q1, ⟨q2, -⟩ | ⟨q2, -⟩⟩ | ⟨q1, -, -⟩
        · exact absurd ⟨q1, q2⟩ hwh
        · rw [q1, e1]
          have : ¬ nI a ≤ 0 := by rw [le0 (by omega)]; omega
          simp [this]
        · rw [q1, if_pos rfl]; decide
      · rw [B_X3_tick_55]
        simp (disch := omega) only [gd_nI, nmI, b1s, b2s, b3s, b4s, b5s, b6s, b7s, le_nI, lt_nI, eq_nI, nI_add, Nat.add_zero, la9, la17, la27, la37, la47, la57, la67, la77, la87, la97, la111, la16, la106, la8, ra0, ra1, ra2, ra3, ra4, ra5, ra6, ra7, ra8, ra16, ra106, lm2, lm3, lm8, lm9, lm10, lm20, lm148, le0, ge0, lt0, gt0, eq0, le1, ge1, lt1, gt1, eq1, le2, ge2, lt2, gt2, eq2, le3, ge3, lt3, gt3, eq3, le4, ge4, lt4, gt4, eq4, le5, ge5, lt5, gt5, eq5, le6, ge6, lt6, gt6, eq6, le7, ge7, lt7, gt7, eq7, le8, ge8, lt8, gt8, eq8, le9, ge9, lt9, gt9, eq9, le10, ge10, lt10, gt10, eq10, le14, ge14, lt14, gt14, eq14, le16, ge16, lt16, gt16, eq16, le17, ge17, lt17, gt17, eq17, le20, ge20, lt20, gt20, eq20, le27, ge27, lt27, gt27, eq27, le37, ge37, lt37, gt37, eq37, le47, ge47, lt47, gt47, eq47, le50, ge50, lt50, gt50, eq50, le57, ge57, lt57, gt57, eq57, le67, ge67, lt67, gt67, eq67, le77, ge77, lt77, gt77, eq77, le80, ge80, lt80, gt80, eq80, le87, ge87, lt87, gt87, eq87, le97, ge97, lt97, gt97, eq97, le99, ge99, lt99, gt99, eq99, le100, ge100, lt100, gt100, eq100, le106, ge106, lt106, gt106, eq106, le111, ge111, lt111, gt111, eq111, le125, ge125, lt125, gt125, eq125, le148, ge148, lt148, gt148, eq148, le200, ge200, lt200, gt200, eq200, le300, ge300, lt300, gt300, eq300, le1332, ge1332, lt1332, gt1332, eq1332, le9999, ge9999, lt9999, gt9999, eq9999, le1000000, ge1000000, lt1000000, gt1000000, eq1000000,  f_X3_boardAt]
        rw [if_neg (by omega), if_neg hh]
        unfold B_X3_tick_80
        rw [if_pos rfl]
        unfold B_X3_tick_93
        rw [if_pos rfl]
        unfold B_X3_tick_128 B_X3_tick_129
        have := fin s false f
        simp only [Bool.false_eq_true, if_false] at this
        rw [this, hnot]
        rfl
