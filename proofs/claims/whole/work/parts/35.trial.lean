/-! What if: the trials -/
theorem low_loop {x : Int32} {k0 : Nat} (hk0 : k0 ≤ 9) (h1 : bt x k0 = true) (h2 : ∀ i, i < k0 → bt x i = false) : ∀ (j k fuel : Nat), k0 = k + j → j < fuel → B_X2_lowest_2 fuel x (nI k) = some (nI k0) ∧ B_X3_lowest_2 fuel x (nI k) = some (nI k0) := by
  intro j
  induction j with
  | zero =>
    intro k fuel hk hf
    obtain ⟨f, rfl⟩ : ∃ f, fuel = f + 1 := ⟨fuel - 1, by omega⟩
    have e : k0 = k := by omega
    subst e
    constructor
    · rw [B_X2_lowest_2]
      simp (disch := omega) only [gd_nI, nmI, b1s, b2s, b3s, b4s, b5s, b6s, b7s, le_nI, lt_nI, eq_nI, nI_add, Nat.add_zero, la9, la17, la27, la37, la47, la57, la67, la77, la87, la97, la111, la16, la106, la8, ra0, ra1, ra2, ra3, ra4, ra5, ra6, ra7, ra8, ra16, ra106, lm2, lm3, lm8, lm9, lm10, lm20, lm148, le0, ge0, lt0, gt0, eq0, le1, ge1, lt1, gt1, eq1, le2, ge2, lt2, gt2, eq2, le3, ge3, lt3, gt3, eq3, le4, ge4, lt4, gt4, eq4, le5, ge5, lt5, gt5, eq5, le6, ge6, lt6, gt6, eq6, le7, ge7, lt7, gt7, eq7, le8, ge8, lt8, gt8, eq8, le9, ge9, lt9, gt9, eq9, le10, ge10, lt10, gt10, eq10, le14, ge14, lt14, gt14, eq14, le16, ge16, lt16, gt16, eq16, le17, ge17, lt17, gt17, eq17, le20, ge20, lt20, gt20, eq20, le27, ge27, lt27, gt27, eq27, le37, ge37, lt37, gt37, eq37, le47, ge47, lt47, gt47, eq47, le50, ge50, lt50, gt50, eq50, le57, ge57, lt57, gt57, eq57, le67, ge67, lt67, gt67, eq67, le77, ge77, lt77, gt77, eq77, le80, ge80, lt80, gt80, eq80, le87, ge87, lt87, gt87, eq87, le97, ge97, lt97, gt97, eq97, le99, ge99, lt99, gt99, eq99, le100, ge100, lt100, gt100, eq100, le106, ge106, lt106, gt106, eq106, le111, ge111, lt111, gt111, eq111, le125, ge125, lt125, gt125, eq125, le148, ge148, lt148, gt148, eq148, le200, ge200, lt200, gt200, eq200, le300, ge300, lt300, gt300, eq300, le1332, ge1332, lt1332, gt1332, eq1332, le9999, ge9999, lt9999, gt9999, eq9999, le1000000, ge1000000, lt1000000, gt1000000, eq1000000, ]
      simp only [bt_is0 x (show k0 < 32 by omega)]
      by_cases h9 : 9 ≤ k0
      · rw [if_pos h9]
      · rw [if_neg h9, if_neg (show ¬ bt x k0 = false by simp [h1])]
    · rw [B_X3_lowest_2]
      simp (disch := omega) only [gd_nI, nmI, b1s, b2s, b3s, b4s, b5s, b6s, b7s, le_nI, lt_nI, eq_nI, nI_add, Nat.add_zero, la9, la17, la27, la37, la47, la57, la67, la77, la87, la97, la111, la16, la106, la8, ra0, ra1, ra2, ra3, ra4, ra5, ra6, ra7, ra8, ra16, ra106, lm2, lm3, lm8, lm9, lm10, lm20, lm148, le0, ge0, lt0, gt0, eq0, le1, ge1, lt1, gt1, eq1, le2, ge2, lt2, gt2, eq2, le3, ge3, lt3, gt3, eq3, le4, ge4, lt4, gt4, eq4, le5, ge5, lt5, gt5, eq5, le6, ge6, lt6, gt6, eq6, le7, ge7, lt7, gt7, eq7, le8, ge8, lt8, gt8, eq8, le9, ge9, lt9, gt9, eq9, le10, ge10, lt10, gt10, eq10, le14, ge14, lt14, gt14, eq14, le16, ge16, lt16, gt16, eq16, le17, ge17, lt17, gt17, eq17, le20, ge20, lt20, gt20, eq20, le27, ge27, lt27, gt27, eq27, le37, ge37, lt37, gt37, eq37, le47, ge47, lt47, gt47, eq47, le50, ge50, lt50, gt50, eq50, le57, ge57, lt57, gt57, eq57, le67, ge67, lt67, gt67, eq67, le77, ge77, lt77, gt77, eq77, le80, ge80, lt80, gt80, eq80, le87, ge87, lt87, gt87, eq87, le97, ge97, lt97, gt97, eq97, le99, ge99, lt99, gt99, eq99, le100, ge100, lt100, gt100, eq100, le106, ge106, lt106, gt106, eq106, le111, ge111, lt111, gt111, eq111, le125, ge125, lt125, gt125, eq125, le148, ge148, lt148, gt148, eq148, le200, ge200, lt200, gt200, eq200, le300, ge300, lt300, gt300, eq300, le1332, ge1332, lt1332, gt1332, eq1332, le9999, ge9999, lt9999, gt9999, eq9999, le1000000, ge1000000, lt1000000, gt1000000, eq1000000, ]
      simp only [bt_is0 x (show k0 < 32 by omega)]
      rw [if_neg (show ¬ bt x k0 = false by simp [h1])]
  | succ j ih =>
    intro k fuel hk hf
    obtain ⟨f, rfl⟩ : ∃ f, fuel = f + 1 := ⟨fuel - 1, by omega⟩
    rw [B_X2_lowest_2, B_X3_lowest_2]
    simp (disch := omega) only [gd_nI, nmI, b1s, b2s, b3s, b4s, b5s, b6s, b7s, le_nI, lt_nI, eq_nI, nI_add, Nat.add_zero, la9, la17, la27, la37, la47, la57, la67, la77, la87, la97, la111, la16, la106, la8, ra0, ra1, ra2, ra3, ra4, ra5, ra6, ra7, ra8, ra16, ra106, lm2, lm3, lm8, lm9, lm10, lm20, lm148, le0, ge0, lt0, gt0, eq0, le1, ge1, lt1, gt1, eq1, le2, ge2, lt2, gt2, eq2, le3, ge3, lt3, gt3, eq3, le4, ge4, lt4, gt4, eq4, le5, ge5, lt5, gt5, eq5, le6, ge6, lt6, gt6, eq6, le7, ge7, lt7, gt7, eq7, le8, ge8, lt8, gt8, eq8, le9, ge9, lt9, gt9, eq9, le10, ge10, lt10, gt10, eq10, le14, ge14, lt14, gt14, eq14, le16, ge16, lt16, gt16, eq16, le17, ge17, lt17, gt17, eq17, le20, ge20, lt20, gt20, eq20, le27, ge27, lt27, gt27, eq27, le37, ge37, lt37, gt37, eq37, le47, ge47, lt47, gt47, eq47, le50, ge50, lt50, gt50, eq50, le57, ge57, lt57, gt57, eq57, le67, ge67, lt67, gt67, eq67, le77, ge77, lt77, gt77, eq77, le80, ge80, lt80, gt80, eq80, le87, ge87, lt87, gt87, eq87, le97, ge97, lt97, gt97, eq97, le99, ge99, lt99, gt99, eq99, le100, ge100, lt100, gt100, eq100, le106, ge106, lt106, gt106, eq106, le111, ge111, lt111, gt111, eq111, le125, ge125, lt125, gt125, eq125, le148, ge148, lt148, gt148, eq148, le200, ge200, lt200, gt200, eq200, le300, ge300, lt300, gt300, eq300, le1332, ge1332, lt1332, gt1332, eq1332, le9999, ge9999, lt9999, gt9999, eq9999, le1000000, ge1000000, lt1000000, gt1000000, eq1000000, ]
    simp only [bt_is0 x (show k < 32 by omega)]
    rw [if_neg (by omega), if_pos (h2 k (by omega)), if_pos (h2 k (by omega))]
    exact ih (k + 1) f (by omega) (by omega)
theorem low_same (f : Nat → Bool) {n : Nat} (hn : n ≤ 10) (h : ¬ mask f n = 0) : ∃ k, k < n ∧ f_X2_lowest (mask f n) = some (nI k) ∧ f_X3_lowest (mask f n) = some (nI k) := by
  have hex : ∃ k, k < n ∧ f k = true := by
    refine Classical.byContradiction fun hno => h ?_
    apply bt_ext
    intro j hj
    rw [bt_mask _ (by omega) hj, bt_0]
    by_cases hjn : j < n
    · have : f j = false := by
        cases hf : f j with
        | false => rfl
        | true => exact absurd ⟨j, hjn, hf⟩ hno
      simp [this]
    · simp [hjn]
  obtain ⟨k0, ⟨hk1, hk2⟩, hk3⟩ := pk_least (fun k => k < n ∧ f k = true) hex
  have b1' : bt (mask f n) k0 = true := by
    rw [bt_mask _ (by omega) (by omega)]
    simp [hk1, hk2]
  have b2' : ∀ i, i < k0 → bt (mask f n) i = false := by
    intro i hi
    rw [bt_mask _ (by omega) (by omega)]
    cases hf : f i with
    | false => simp
    | true => exact absurd ⟨by omega, hf⟩ (hk3 i hi)
  obtain ⟨c1, c2⟩ := low_loop (x := mask f n) (k0 := k0) (by omega) b1' b2' k0 0 FU (by omega) (FU_lt (by omega))
  exact ⟨k0, hk1, c1, c2⟩
theorem first_loop {n : Nat} {par : Nat → Nat} {mf : zA} {L : zA → zA → Prop} (hL : ∀ (row s : zA) (T X : Nat), BR row s 1332 n T X par → L row s → CUR row s mf 1332 n) (hp : ∀ row s row' s' : zA, L row s → FRr row row' → FRs s s' 1332 → L row' s') (w : Int32) : ∀ (j t T X : Nat) (row tf s cu ho : zA), 201 = t + j → T + j < 90000 → X + 10 * j < 800000 → BR row s 1332 n T X par → L row s →
    ∃ (v : Int32) (row' tf' s' cu' ho' : zA), (∀ fuel, j < fuel → B_X2_firstBlow_2 fuel w (nI t) row tf = some (v, row', tf')) ∧ (∀ fuel, j < fuel → B_X3_first_2 fuel w (nI t) s cu ho mf = some (v, s', cu', ho')) ∧ ∀ x, x < 1332 → s' x = s x := by
  intro j
  induction j with
  | zero =>
    intro t T X row tf s cu ho ht hT hX h hl
    refine ⟨-6, row, tf, s, cu, ho, fun fuel hf => ?_, fun fuel hf => ?_, fun _ _ => rfl⟩
    · obtain ⟨f, rfl⟩ : ∃ f, fuel = f + 1 := ⟨fuel - 1, by omega⟩
      rw [B_X2_firstBlow_2]
      simp (disch := omega) only [gd_nI, nmI, b1s, b2s, b3s, b4s, b5s, b6s, b7s, le_nI, lt_nI, eq_nI, nI_add, Nat.add_zero, la9, la17, la27, la37, la47, la57, la67, la77, la87, la97, la111, la16, la106, la8, ra0, ra1, ra2, ra3, ra4, ra5, ra6, ra7, ra8, ra16, ra106, lm2, lm3, lm8, lm9, lm10, lm20, lm148, le0, ge0, lt0, gt0, eq0, le1, ge1, lt1, gt1, eq1, le2, ge2, lt2, gt2, eq2, le3, ge3, lt3, gt3, eq3, le4, ge4, lt4, gt4, eq4, le5, ge5, lt5, gt5, eq5, le6, ge6, lt6, gt6, eq6, le7, ge7, lt7, gt7, eq7, le8, ge8, lt8, gt8, eq8, le9, ge9, lt9, gt9, eq9, le10, ge10, lt10, gt10, eq10, le14, ge14, lt14, gt14, eq14, le16, ge16, lt16, gt16, eq16, le17, ge17, lt17, gt17, eq17, le20, ge20, lt20, gt20, eq20, le27, ge27, lt27, gt27, eq27, le37, ge37, lt37, gt37, eq37, le47, ge47, lt47, gt47, eq47, le50, ge50, lt50, gt50, eq50, le57, ge57, lt57, gt57, eq57, le67, ge67, lt67, gt67, eq67, le77, ge77, lt77, gt77, eq77, le80, ge80, lt80, gt80, eq80, le87, ge87, lt87, gt87, eq87, le97, ge97, lt97, gt97, eq97, le99, ge99, lt99, gt99, eq99, le100, ge100, lt100, gt100, eq100, le106, ge106, lt106, gt106, eq106, le111, ge111, lt111, gt111, eq111, le125, ge125, lt125, gt125, eq125, le148, ge148, lt148, gt148, eq148, le200, ge200, lt200, gt200, eq200, le300, ge300, lt300, gt300, eq300, le1332, ge1332, lt1332, gt1332, eq1332, le9999, ge9999, lt9999, gt9999, eq9999, le1000000, ge1000000, lt1000000, gt1000000, eq1000000, ]
      rw [if_pos (by omega)]
    · obtain ⟨f, rfl⟩ : ∃ f, fuel = f + 1 := ⟨fuel - 1, by omega⟩
      rw [B_X3_first_2]
      simp (disch := omega) only [gd_nI, nmI, b1s, b2s, b3s, b4s, b5s, b6s, b7s, le_nI, lt_nI, eq_nI, nI_add, Nat.add_zero, la9, la17, la27, la37, la47, la57, la67, la77, la87, la97, la111, la16, la106, la8, ra0, ra1, ra2, ra3, ra4, ra5, ra6, ra7, ra8, ra16, ra106, lm2, lm3, lm8, lm9, lm10, lm20, lm148, le0, ge0, lt0, gt0, eq0, le1, ge1, lt1, gt1, eq1, le2, ge2, lt2, gt2, eq2, le3, ge3, lt3, gt3, eq3, le4, ge4, lt4, gt4, eq4, le5, ge5, lt5, gt5, eq5, le6, ge6, lt6, gt6, eq6, le7, ge7, lt7, gt7, eq7, le8, ge8, lt8, gt8, eq8, le9, ge9, lt9, gt9, eq9, le10, ge10, lt10, gt10, eq10, le14, ge14, lt14, gt14, eq14, le16, ge16, lt16, gt16, eq16, le17, ge17, lt17, gt17, eq17, le20, ge20, lt20, gt20, eq20, le27, ge27, lt27, gt27, eq27, le37, ge37, lt37, gt37, eq37, le47, ge47, lt47, gt47, eq47, le50, ge50, lt50, gt50, eq50, le57, ge57, lt57, gt57, eq57, le67, ge67, lt67, gt67, eq67, le77, ge77, lt77, gt77, eq77, le80, ge80, lt80, gt80, eq80, le87, ge87, lt87, gt87, eq87, le97, ge97, lt97, gt97, eq97, le99, ge99, lt99, gt99, eq99, le100, ge100, lt100, gt100, eq100, le106, ge106, lt106, gt106, eq106, le111, ge111, lt111, gt111, eq111, le125, ge125, lt125, gt125, eq125, le148, ge148, lt148, gt148, eq148, le200, ge200, lt200, gt200, eq200, le300, ge300, lt300, gt300, eq300, le1332, ge1332, lt1332, gt1332, eq1332, le9999, ge9999, lt9999, gt9999, eq9999, le1000000, ge1000000, lt1000000, gt1000000, eq1000000, ]
      rw [if_pos (by omega)]
  | succ j ih =>
    intro t T X row tf s cu ho ht hT hX h hl
    have hn := h.n10
    obtain ⟨f, row1, fl1, s1, cu1, ho1, t1, t2, t3, t4, t5⟩ := tick_sim (flow := tf) (cu := cu) (ho := ho) h (by omega) (by omega) (hL row s T X h hl)
    by_cases hz : mask f n = 0
    · obtain ⟨v, row', tf', s', cu', ho', a1, a2, a3⟩ := ih (t + 1) (T + 1) (X + n) row1 fl1 s1 cu1 ho1 (by omega) (by omega) (by omega) t3 (hp _ _ _ _ hl t4 t5)
      refine ⟨v, row', tf', s', cu', ho', fun fuel hf => ?_, fun fuel hf => ?_, fun x hx => by rw [a3 x hx, t5 x (by omega)]⟩
      · obtain ⟨g, rfl⟩ : ∃ g, fuel = g + 1 := ⟨fuel - 1, by omega⟩
        rw [B_X2_firstBlow_2]
        simp (disch := omega) only [gd_nI, nmI, b1s, b2s, b3s, b4s, b5s, b6s, b7s, le_nI, lt_nI, eq_nI, nI_add, Nat.add_zero, la9, la17, la27, la37, la47, la57, la67, la77, la87, la97, la111, la16, la106, la8, ra0, ra1, ra2, ra3, ra4, ra5, ra6, ra7, ra8, ra16, ra106, lm2, lm3, lm8, lm9, lm10, lm20, lm148, le0, ge0, lt0, gt0, eq0, le1, ge1, lt1, gt1, eq1, le2, ge2, lt2, gt2, eq2, le3, ge3, lt3, gt3, eq3, le4, ge4, lt4, gt4, eq4, le5, ge5, lt5, gt5, eq5, le6, ge6, lt6, gt6, eq6, le7, ge7, lt7, gt7, eq7, le8, ge8, lt8, gt8, eq8, le9, ge9, lt9, gt9, eq9, le10, ge10, lt10, gt10, eq10, le14, ge14, lt14, gt14, eq14, le16, ge16, lt16, gt16, eq16, le17, ge17, lt17, gt17, eq17, le20, ge20, lt20, gt20, eq20, le27, ge27, lt27, gt27, eq27, le37, ge37, lt37, gt37, eq37, le47, ge47, lt47, gt47, eq47, le50, ge50, lt50, gt50, eq50, le57, ge57, lt57, gt57, eq57, le67, ge67, lt67, gt67, eq67, le77, ge77, lt77, gt77, eq77, le80, ge80, lt80, gt80, eq80, le87, ge87, lt87, gt87, eq87, le97, ge97, lt97, gt97, eq97, le99, ge99, lt99, gt99, eq99, le100, ge100, lt100, gt100, eq100, le106, ge106, lt106, gt106, eq106, le111, ge111, lt111, gt111, eq111, le125, ge125, lt125, gt125, eq125, le148, ge148, lt148, gt148, eq148, le200, ge200, lt200, gt200, eq200, le300, ge300, lt300, gt300, eq300, le1332, ge1332, lt1332, gt1332, eq1332, le9999, ge9999, lt9999, gt9999, eq9999, le1000000, ge1000000, lt1000000, gt1000000, eq1000000, ]
        rw [if_neg (by omega), t1]
        simp only [b3s]
        rw [if_pos hz]
        exact a1 g (by omega)
      · obtain ⟨g, rfl⟩ : ∃ g, fuel = g + 1 := ⟨fuel - 1, by omega⟩
        rw [B_X3_first_2]
        simp (disch := omega) only [gd_nI, nmI, b1s, b2s, b3s, b4s, b5s, b6s, b7s, le_nI, lt_nI, eq_nI, nI_add, Nat.add_zero, la9, la17, la27, la37, la47, la57, la67, la77, la87, la97, la111, la16, la106, la8, ra0, ra1, ra2, ra3, ra4, ra5, ra6, ra7, ra8, ra16, ra106, lm2, lm3, lm8, lm9, lm10, lm20, lm148, le0, ge0, lt0, gt0, eq0, le1, ge1, lt1, gt1, eq1, le2, ge2, lt2, gt2, eq2, le3, ge3, lt3, gt3, eq3, le4, ge4, lt4, gt4, eq4, le5, ge5, lt5, gt5, eq5, le6, ge6, lt6, gt6, eq6, le7, ge7, lt7, gt7, eq7, le8, ge8, lt8, gt8, eq8, le9, ge9, lt9, gt9, eq9, le10, ge10, lt10, gt10, eq10, le14, ge14, lt14, gt14, eq14, le16, ge16, lt16, gt16, eq16, le17, ge17, lt17, gt17, eq17, le20, ge20, lt20, gt20, eq20, le27, ge27, lt27, gt27, eq27, le37, ge37, lt37, gt37, eq37, le47, ge47, lt47, gt47, eq47, le50, ge50, lt50, gt50, eq50, le57, ge57, lt57, gt57, eq57, le67, ge67, lt67, gt67, eq67, le77, ge77, lt77, gt77, eq77, le80, ge80, lt80, gt80, eq80, le87, ge87, lt87, gt87, eq87, le97, ge97, lt97, gt97, eq97, le99, ge99, lt99, gt99, eq99, le100, ge100, lt100, gt100, eq100, le106, ge106, lt106, gt106, eq106, le111, ge111, lt111, gt111, eq111, le125, ge125, lt125, gt125, eq125, le148, ge148, lt148, gt148, eq148, le200, ge200, lt200, gt200, eq200, le300, ge300, lt300, gt300, eq300, le1332, ge1332, lt1332, gt1332, eq1332, le9999, ge9999, lt9999, gt9999, eq9999, le1000000, ge1000000, lt1000000, gt1000000, eq1000000, ]
        rw [if_neg (by omega), show (1332 : Int32) = nI 1332 from rfl, t2]
        simp only [b4s]
        rw [if_pos hz]
        exact a2 g (by omega)
    · obtain ⟨k, hk, l1, l2⟩ := low_same f hn hz
      refine ⟨if w = 0 then nI t else nI k, row1, fl1, s1, cu1, ho1, fun fuel hf => ?_, fun fuel hf => ?_, fun x hx => t5 x (by omega)⟩
      · obtain ⟨g, rfl⟩ : ∃ g, fuel = g + 1 := ⟨fuel - 1, by omega⟩
        rw [B_X2_firstBlow_2]
        simp (disch := omega) only [gd_nI, nmI, b1s, b2s, b3s, b4s, b5s, b6s, b7s, le_nI, lt_nI, eq_nI, nI_add, Nat.add_zero, la9, la17, la27, la37, la47, la57, la67, la77, la87, la97, la111, la16, la106, la8, ra0, ra1, ra2, ra3, ra4, ra5, ra6, ra7, ra8, ra16, ra106, lm2, lm3, lm8, lm9, lm10, lm20, lm148, le0, ge0, lt0, gt0, eq0, le1, ge1, lt1, gt1, eq1, le2, ge2, lt2, gt2, eq2, le3, ge3, lt3, gt3, eq3, le4, ge4, lt4, gt4, eq4, le5, ge5, lt5, gt5, eq5, le6, ge6, lt6, gt6, eq6, le7, ge7, lt7, gt7, eq7, le8, ge8, lt8, gt8, eq8, le9, ge9, lt9, gt9, eq9, le10, ge10, lt10, gt10, eq10, le14, ge14, lt14, gt14, eq14, le16, ge16, lt16, gt16, eq16, le17, ge17, lt17, gt17, eq17, le20, ge20, lt20, gt20, eq20, le27, ge27, lt27, gt27, eq27, le37, ge37, lt37, gt37, eq37, le47, ge47, lt47, gt47, eq47, le50, ge50, lt50, gt50, eq50, le57, ge57, lt57, gt57, eq57, le67, ge67, lt67, gt67, eq67, le77, ge77, lt77, gt77, eq77, le80, ge80, lt80, gt80, eq80, le87, ge87, lt87, gt87, eq87, le97, ge97, lt97, gt97, eq97, le99, ge99, lt99, gt99, eq99, le100, ge100, lt100, gt100, eq100, le106, ge106, lt106, gt106, eq106, le111, ge111, lt111, gt111, eq111, le125, ge125, lt125, gt125, eq125, le148, ge148, lt148, gt148, eq148, le200, ge200, lt200, gt200, eq200, le300, ge300, lt300, gt300, eq300, le1332, ge1332, lt1332, gt1332, eq1332, le9999, ge9999, lt9999, gt9999, eq9999, le1000000, ge1000000, lt1000000, gt1000000, eq1000000, ]
        rw [if_neg (by omega), t1]
        simp only [b3s]
        rw [if_neg hz, l1]
        by_cases hw : w = 0
        · rw [if_pos hw, if_pos hw]
        · rw [if_neg hw, if_neg hw]
          rfl
      · obtain ⟨g, rfl⟩ : ∃ g, fuel = g + 1 := ⟨fuel - 1, by omega⟩
        rw [B_X3_first_2]
        simp (disch := omega) only [gd_nI, nmI, b1s, b2s, b3s, b4s, b5s, b6s, b7s, le_nI, lt_nI, eq_nI, nI_add, Nat.add_zero, la9, la17, la27, la37, la47, la57, la67, la77, la87, la97, la111, la16, la106, la8, ra0, ra1, ra2, ra3, ra4, ra5, ra6, ra7, ra8, ra16, ra106, lm2, lm3, lm8, lm9, lm10, lm20, lm148, le0, ge0, lt0, gt0, eq0, le1, ge1, lt1, gt1, eq1, le2, ge2, lt2, gt2, eq2, le3, ge3, lt3, gt3, eq3, le4, ge4, lt4, gt4, eq4, le5, ge5, lt5, gt5, eq5, le6, ge6, lt6, gt6, eq6, le7, ge7, lt7, gt7, eq7, le8, ge8, lt8, gt8, eq8, le9, ge9, lt9, gt9, eq9, le10, ge10, lt10, gt10, eq10, le14, ge14, lt14, gt14, eq14, le16, ge16, lt16, gt16, eq16, le17, ge17, lt17, gt17, eq17, le20, ge20, lt20, gt20, eq20, le27, ge27, lt27, gt27, eq27, le37, ge37, lt37, gt37, eq37, le47, ge47, lt47, gt47, eq47, le50, ge50, lt50, gt50, eq50, le57, ge57, lt57, gt57, eq57, le67, ge67, lt67, gt67, eq67, le77, ge77, lt77, gt77, eq77, le80, ge80, lt80, gt80, eq80, le87, ge87, lt87, gt87, eq87, le97, ge97, lt97, gt97, eq97, le99, ge99, lt99, gt99, eq99, le100, ge100, lt100, gt100, eq100, le106, ge106, lt106, gt106, eq106, le111, ge111, lt111, gt111, eq111, le125, ge125, lt125, gt125, eq125, le148, ge148, lt148, gt148, eq148, le200, ge200, lt200, gt200, eq200, le300, ge300, lt300, gt300, eq300, le1332, ge1332, lt1332, gt1332, eq1332, le9999, ge9999, lt9999, gt9999, eq9999, le1000000, ge1000000, lt1000000, gt1000000, eq1000000, ]
        rw [if_neg (by omega), show (1332 : Int32) = nI 1332 from rfl, t2]
        simp only [b4s]
        rw [if_neg hz, l2]
        by_cases hw : w = 0
        · rw [if_pos hw, if_pos hw]
        · rw [if_neg hw, if_neg hw]
          rfl
theorem REL.trial {nr co pf : zA} {hi sl : Nat → zA} {sv ff s sv2 tx mf s' mf' : zA} (h : REL nr co pf hi sl sv ff s sv2 tx mf) (hs : ∀ x, x < 1332 → s' x = s x) (hm : ∀ x, x ≠ 6 → mf' x = mf x) : REL nr co pf hi sl sv ff s' sv2 tx mf' := by
  obtain ⟨h1, ⟨u, sp, k1, k2, k3, k4, k5, k6⟩, h3, ⟨len, p1, p2, p3, p4⟩, h5⟩ := h
  refine ⟨h1.mv (fun _ _ => rfl) (fun j hj => hs _ (by omega)) (by omega), ⟨u, sp, k1, k2, k3, k4, by rw [hm 1 (by omega)]; exact k5, fun j j1 j2 => (k6 j j1 j2).mv (fun _ _ => rfl) (fun i hi => hs _ (by omega)) (by omega)⟩, by rw [hm 5 (by omega)]; exact h3, ⟨len, p1, p2, by rw [hm 4 (by omega)]; exact p3, p4⟩, fun k hk => ⟨(h5 k hk).1, fun z => ((h5 k hk).2 z).mv (fun _ _ => rfl) (fun i hi => hs _ (by omega)) (by omega)⟩⟩
theorem question (a : Int32) : f_X2_isTrialQuestion a = some (if rng a 0 1 then 1 else 0) := by
  unfold f_X2_isTrialQuestion
  by_cases h0 : a = 0
  · subst h0; rw [if_pos rfl]; rfl
  · rw [if_neg h0]
    by_cases h1 : a = 1
    · subst h1; rw [if_pos rfl]; rfl
    · rw [if_neg h1, if_neg]
      intro hr
      obtain ⟨k, hk1, hk2, rfl⟩ := (rng_nI (l := 0) (h := 1) (by omega)).mp hr
      have : k = 0 ∨ k = 1 := by omega
      rcases this with rfl | rfl
      · exact h0 rfl
      · exact h1 rfl
theorem sim_next {nr co pf : zA} {hi sl : Nat → zA} {sv ff s sv2 tx mf : zA} (h : REL nr co pf hi sl sv ff s sv2 tx mf) (a : Int32) (tr tf cu ho : zA) :
    ∃ (v : Int32) (tr' tf' s' cu' ho' : zA), f_X2_next a nr tr tf = some (v, tr', tf') ∧ f_X3_next a s cu ho mf = some (v, s', cu', ho') ∧ REL nr co pf hi sl sv ff s' sv2 tx mf := by
  unfold f_X2_next f_X3_next
  rw [question, r_rng (x := a) (L := 0) (H := 1) (by decide) (by decide)]
  simp only [b1s, s01]
  by_cases hr : rng a 0 1 = true
  · rw [if_pos hr, if_pos hr]
    obtain ⟨tr1, c1, c2⟩ := d_copyFrom tr nr
    obtain ⟨s1, e1, e2⟩ := r_copies (a := 0) (c := 9) (by omega) (by omega) (by omega) s
    have hH : HR tr1 s1 1332 := h.1.mv c2 (fun j hj => by rw [e2, if_pos (by omega)]; exact congrArg s (by omega)) (by omega)
    obtain ⟨n, m, T, par, hT, hg, hB, hl⟩ := hH
    have h5 : mf 5 = -6 := h.2.2.1
    obtain ⟨v, tr', tf', s', cu', ho', a1, a2, a3⟩ := first_loop (L := fun row s => LN row s 1332 n m) (mf := mf) (fun row s T X hb hl => cur_n hb hl h5) (fun row s row' s' hl f1 f2 => hl.mv (f1 5 (by omega)) (f1 6 (by omega)) (fun j hj _ => f1 j (by omega)) (f2 _ (by omega)) (fun j hj _ => f2 _ (by omega))) a 200 1 T (10 * T) tr1 tf s1 cu ho (by omega) (by omega) (by omega) hB hl
    refine ⟨v, tr', tf', s', cu', ho', ?_, ?_, h.trial (fun x hx => ?_) (fun _ _ => rfl)⟩
    · rw [c1]
      simp only [b1s]
      unfold f_X2_firstBlow
      rw [show (1 : Int32) = nI 1 from rfl, a1 FU (FU_lt (by omega))]
      rfl
    · rw [show (0 : Int32) = nI 0 from rfl, show (9 : Int32) = nI 9 from rfl, e1]
      simp only [b1s]
      unfold f_X3_first
      rw [show (1 : Int32) = nI 1 from rfl, a2 FU (FU_lt (by omega))]
      rfl
    · rw [a3 x hx, e2, if_neg (by omega)]
  · rw [if_neg hr, if_neg hr]
    exact ⟨_, _, _, _, _, _, rfl, rfl, h⟩
/-- a fault instead of the loads -/
def LF (row s : zA) (n fb fc : Nat) : Prop := fb < n ∧ fc ≤ 9999 ∧ PL row n 1 (fun _ => fb) (fun _ => fc) ∧ bt (row 6) 0 = true ∧ ∃ (m : Nat) (pl cu : Nat → Nat), PM s 1332 n m pl cu (fun _ => false)
theorem cur_f {row s mf : zA} {n T X fb fc : Nat} {par : Nat → Nat} (h : BR row s 1332 n T X par) (hl : LF row s n fb fc) (h5 : mf 5 = nI fb) (h6 : mf 6 = nI fc) : CUR row s mf 1332 n := by
  obtain ⟨hfb, hfc, hPL, hon, m, pl, cu, hPM⟩ := hl
  have hn := h.n10
  have hm := hPM.1
  have hw : wgt (bt (row 6)) (ded par (bt (row 7))) (fun _ => fb) (fun _ => fc) 0 = if ded par (bt (row 7)) fb then 0 else fc := by
    unfold wgt
    rw [hon]
    cases ded par (bt (row 7)) fb <;> rfl
  have hcr : ∀ k, crt par (wgt (bt (row 6)) (ded par (bt (row 7))) (fun _ => fb) (fun _ => fc)) (fun _ => fb) 1 k = (if ded par (bt (row 7)) fb then 0 else fc) * ind (fed par fb k) := by
    intro k
    show 0 + wgt (bt (row 6)) (ded par (bt (row 7))) (fun _ => fb) (fun _ => fc) 0 * ind (fed par fb k) = _
    rw [Nat.zero_add, hw]
  have hz : ∀ k, crt par (wgt (fun _ => false) (ded par (bt (row 7))) pl cu) pl m k = 0 := by
    intro k
    refine sm_z fun i _ => ?_
    rw [show wgt (fun _ => false) (ded par (bt (row 7))) pl cu i = 0 from rfl, Nat.zero_mul]
  refine ⟨fun k => (if ded par (bt (row 7)) fb then 0 else fc) * ind (fed par fb k), fun k hk => ?_, fun flow => ?_, fun k hk => ?_⟩
  · have h1 := ind_le (fed par fb k)
    have h2 : (if ded par (bt (row 7)) fb then 0 else fc) ≤ 9999 := by split <;> omega
    exact Nat.le_trans (Nat.mul_le_mul h2 h1) (by omega)
  · obtain ⟨fl, d1, d2⟩ := d_cur h.PR hPL flow
    exact ⟨fl, d1, fun k hk => by rw [d2 k hk, hcr]⟩
  · have := r_cur_loop (mf := mf) h.PS h.opp hPM k hk ((if ded par (bt (row 7)) fb then 0 else fc) * ind (fed par fb k)) (fun a => by
      rw [h5, if_neg (by rw [nI_ne6 (by omega)]; exact id), r_fed h.PS hfb (by omega)]
      simp only [b1s, s01]
      cases hf : fed par fb k with
      | false =>
        simp only [Bool.false_eq_true, if_false, ind, Nat.mul_zero]
        unfold B_X3_current_130 B_X3_current_131
        rw [if_pos rfl, ra0]
      | true =>
        simp only [if_true, ind, Nat.mul_one]
        rw [r_dead h.PS h.opp hfb]
        simp only [b1s, s01]
        cases hd : ded par (bt (row 7)) fb with
        | false =>
          simp only [Bool.false_eq_true, if_false]
          unfold B_X3_current_131
          rw [if_neg (by decide), h6, nI_add]
        | true =>
          simp only [if_true]
          unfold B_X3_current_130 B_X3_current_131
          rw [if_pos rfl, ra0]) 14 0 FU 0 (by omega) (by omega) (FU_lt (by omega)) rfl
    rw [hz k, Nat.zero_add] at this
    exact this
theorem off_loop {s mf cu ho : zA} {a1 a2 a3 : Int32} {m : Nat} (hm : m ≤ 14) : ∀ (j k fuel : Nat) (s : zA), s 5 = nI m → m = k + j → j < fuel → ∃ s', B_X3_tests_15 fuel a1 a2 a3 1332 (nI k) s cu ho mf = B_X3_tests_50 FU a1 a2 a3 1332 0 s' cu ho mf ∧ (∀ i, k ≤ i → i < m → s' (1332 + 106 + 3 * i + 2) = 0) ∧ ∀ x, (∀ i, k ≤ i → i < m → x ≠ 1332 + 106 + 3 * i + 2) → s' x = s x := by
  intro j
  induction j with
  | zero =>
    intro k fuel s h5 hk hf
    obtain ⟨f, rfl⟩ : ∃ f, fuel = f + 1 := ⟨fuel - 1, by omega⟩
    refine ⟨s, ?_, fun i h1 h2 => by omega, fun _ _ => rfl⟩
    rw [B_X3_tests_15, h5]
    simp (disch := omega) only [gd_nI, nmI, b1s, b2s, b3s, b4s, b5s, b6s, b7s, le_nI, lt_nI, eq_nI, nI_add, Nat.add_zero, la9, la17, la27, la37, la47, la57, la67, la77, la87, la97, la111, la16, la106, la8, ra0, ra1, ra2, ra3, ra4, ra5, ra6, ra7, ra8, ra16, ra106, lm2, lm3, lm8, lm9, lm10, lm20, lm148, le0, ge0, lt0, gt0, eq0, le1, ge1, lt1, gt1, eq1, le2, ge2, lt2, gt2, eq2, le3, ge3, lt3, gt3, eq3, le4, ge4, lt4, gt4, eq4, le5, ge5, lt5, gt5, eq5, le6, ge6, lt6, gt6, eq6, le7, ge7, lt7, gt7, eq7, le8, ge8, lt8, gt8, eq8, le9, ge9, lt9, gt9, eq9, le10, ge10, lt10, gt10, eq10, le14, ge14, lt14, gt14, eq14, le16, ge16, lt16, gt16, eq16, le17, ge17, lt17, gt17, eq17, le20, ge20, lt20, gt20, eq20, le27, ge27, lt27, gt27, eq27, le37, ge37, lt37, gt37, eq37, le47, ge47, lt47, gt47, eq47, le50, ge50, lt50, gt50, eq50, le57, ge57, lt57, gt57, eq57, le67, ge67, lt67, gt67, eq67, le77, ge77, lt77, gt77, eq77, le80, ge80, lt80, gt80, eq80, le87, ge87, lt87, gt87, eq87, le97, ge97, lt97, gt97, eq97, le99, ge99, lt99, gt99, eq99, le100, ge100, lt100, gt100, eq100, le106, ge106, lt106, gt106, eq106, le111, ge111, lt111, gt111, eq111, le125, ge125, lt125, gt125, eq125, le148, ge148, lt148, gt148, eq148, le200, ge200, lt200, gt200, eq200, le300, ge300, lt300, gt300, eq300, le1332, ge1332, lt1332, gt1332, eq1332, le9999, ge9999, lt9999, gt9999, eq9999, le1000000, ge1000000, lt1000000, gt1000000, eq1000000, ]
    rw [if_pos (by omega)]
  | succ j ih =>
    intro k fuel s h5 hk hf
    obtain ⟨f, rfl⟩ : ∃ f, fuel = f + 1 := ⟨fuel - 1, by omega⟩
    obtain ⟨s', c1, c2, c3⟩ := ih (k + 1) f (upd s (1332 + 106 + 3 * k + 2) 0) (by rw [upd_ne (by omega)]; exact h5) (by omega) (by omega)
    refine ⟨s', ?_, fun i h1 h2 => ?_, fun x hx => ?_⟩
    · rw [B_X3_tests_15, h5, show (1332 : Int32) = nI 1332 from rfl, lA]
      simp (disch := omega) only [gd_nI, nmI, b1s, b2s, b3s, b4s, b5s, b6s, b7s, le_nI, lt_nI, eq_nI, nI_add, Nat.add_zero, la9, la17, la27, la37, la47, la57, la67, la77, la87, la97, la111, la16, la106, la8, ra0, ra1, ra2, ra3, ra4, ra5, ra6, ra7, ra8, ra16, ra106, lm2, lm3, lm8, lm9, lm10, lm20, lm148, le0, ge0, lt0, gt0, eq0, le1, ge1, lt1, gt1, eq1, le2, ge2, lt2, gt2, eq2, le3, ge3, lt3, gt3, eq3, le4, ge4, lt4, gt4, eq4, le5, ge5, lt5, gt5, eq5, le6, ge6, lt6, gt6, eq6, le7, ge7, lt7, gt7, eq7, le8, ge8, lt8, gt8, eq8, le9, ge9, lt9, gt9, eq9, le10, ge10, lt10, gt10, eq10, le14, ge14, lt14, gt14, eq14, le16, ge16, lt16, gt16, eq16, le17, ge17, lt17, gt17, eq17, le20, ge20, lt20, gt20, eq20, le27, ge27, lt27, gt27, eq27, le37, ge37, lt37, gt37, eq37, le47, ge47, lt47, gt47, eq47, le50, ge50, lt50, gt50, eq50, le57, ge57, lt57, gt57, eq57, le67, ge67, lt67, gt67, eq67, le77, ge77, lt77, gt77, eq77, le80, ge80, lt80, gt80, eq80, le87, ge87, lt87, gt87, eq87, le97, ge97, lt97, gt97, eq97, le99, ge99, lt99, gt99, eq99, le100, ge100, lt100, gt100, eq100, le106, ge106, lt106, gt106, eq106, le111, ge111, lt111, gt111, eq111, le125, ge125, lt125, gt125, eq125, le148, ge148, lt148, gt148, eq148, le200, ge200, lt200, gt200, eq200, le300, ge300, lt300, gt300, eq300, le1332, ge1332, lt1332, gt1332, eq1332, le9999, ge9999, lt9999, gt9999, eq9999, le1000000, ge1000000, lt1000000, gt1000000, eq1000000, ]
      rw [if_neg (by omega)]
      exact c1
    · by_cases hik : i = k
      · subst hik
        rw [c3 _ (fun i' h3 h4 => by omega), upd_eq]
      · exact c2 i (by omega) h2
    · rw [c3 x (fun i h3 h4 => hx i (by omega) h4), upd_ne (hx k (Nat.le_refl _) (by omega))]
theorem cold_loop {mf cu ho : zA} {a1 a2 a3 : Int32} {n : Nat} (hn : n ≤ 10) : ∀ (j k fuel : Nat) (s : zA), s 4 = nI n → n = k + j → j < fuel → ∃ s', B_X3_tests_50 fuel a1 a2 a3 1332 (nI k) s cu ho mf = (b4 (f_X3_first a3 s' cu ho (upd (upd mf 5 a1) 6 a2)) fun v5 s6 cu7 ho8 => some (v5, s6, cu7, ho8, upd (upd (upd mf 5 a1) 6 a2) 5 (-6))) ∧ (∀ i, k ≤ i → i < n → s' (1332 + 16 + 9 * i + 4) = 0) ∧ ∀ x, (∀ i, k ≤ i → i < n → x ≠ 1332 + 16 + 9 * i + 4) → s' x = s x := by
  intro j
  induction j with
  | zero =>
    intro k fuel s h4 hk hf
    obtain ⟨f, rfl⟩ : ∃ f, fuel = f + 1 := ⟨fuel - 1, by omega⟩
    refine ⟨s, ?_, fun i h1 h2 => by omega, fun _ _ => rfl⟩
    rw [B_X3_tests_50, h4]
    simp (disch := omega) only [gd_nI, nmI, b1s, b2s, b3s, b4s, b5s, b6s, b7s, le_nI, lt_nI, eq_nI, nI_add, Nat.add_zero, la9, la17, la27, la37, la47, la57, la67, la77, la87, la97, la111, la16, la106, la8, ra0, ra1, ra2, ra3, ra4, ra5, ra6, ra7, ra8, ra16, ra106, lm2, lm3, lm8, lm9, lm10, lm20, lm148, le0, ge0, lt0, gt0, eq0, le1, ge1, lt1, gt1, eq1, le2, ge2, lt2, gt2, eq2, le3, ge3, lt3, gt3, eq3, le4, ge4, lt4, gt4, eq4, le5, ge5, lt5, gt5, eq5, le6, ge6, lt6, gt6, eq6, le7, ge7, lt7, gt7, eq7, le8, ge8, lt8, gt8, eq8, le9, ge9, lt9, gt9, eq9, le10, ge10, lt10, gt10, eq10, le14, ge14, lt14, gt14, eq14, le16, ge16, lt16, gt16, eq16, le17, ge17, lt17, gt17, eq17, le20, ge20, lt20, gt20, eq20, le27, ge27, lt27, gt27, eq27, le37, ge37, lt37, gt37, eq37, le47, ge47, lt47, gt47, eq47, le50, ge50, lt50, gt50, eq50, le57, ge57, lt57, gt57, eq57, le67, ge67, lt67, gt67, eq67, le77, ge77, lt77, gt77, eq77, le80, ge80, lt80, gt80, eq80, le87, ge87, lt87, gt87, eq87, le97, ge97, lt97, gt97, eq97, le99, ge99, lt99, gt99, eq99, le100, ge100, lt100, gt100, eq100, le106, ge106, lt106, gt106, eq106, le111, ge111, lt111, gt111, eq111, le125, ge125, lt125, gt125, eq125, le148, ge148, lt148, gt148, eq148, le200, ge200, lt200, gt200, eq200, le300, ge300, lt300, gt300, eq300, le1332, ge1332, lt1332, gt1332, eq1332, le9999, ge9999, lt9999, gt9999, eq9999, le1000000, ge1000000, lt1000000, gt1000000, eq1000000, ]
    rw [if_pos (by omega)]
  | succ j ih =>
    intro k fuel s h4 hk hf
    obtain ⟨f, rfl⟩ : ∃ f, fuel = f + 1 := ⟨fuel - 1, by omega⟩
    obtain ⟨s', c1, c2, c3⟩ := ih (k + 1) f (upd s (1332 + 16 + 9 * k + 4) 0) (by rw [upd_ne (by omega)]; exact h4) (by omega) (by omega)
    refine ⟨s', ?_, fun i h1 h2 => ?_, fun x hx => ?_⟩
    · rw [B_X3_tests_50, h4, show (1332 : Int32) = nI 1332 from rfl, bA]
      simp (disch := omega) only [gd_nI, nmI, b1s, b2s, b3s, b4s, b5s, b6s, b7s, le_nI, lt_nI, eq_nI, nI_add, Nat.add_zero, la9, la17, la27, la37, la47, la57, la67, la77, la87, la97, la111, la16, la106, la8, ra0, ra1, ra2, ra3, ra4, ra5, ra6, ra7, ra8, ra16, ra106, lm2, lm3, lm8, lm9, lm10, lm20, lm148, le0, ge0, lt0, gt0, eq0, le1, ge1, lt1, gt1, eq1, le2, ge2, lt2, gt2, eq2, le3, ge3, lt3, gt3, eq3, le4, ge4, lt4, gt4, eq4, le5, ge5, lt5, gt5, eq5, le6, ge6, lt6, gt6, eq6, le7, ge7, lt7, gt7, eq7, le8, ge8, lt8, gt8, eq8, le9, ge9, lt9, gt9, eq9, le10, ge10, lt10, gt10, eq10, le14, ge14, lt14, gt14, eq14, le16, ge16, lt16, gt16, eq16, le17, ge17, lt17, gt17, eq17, le20, ge20, lt20, gt20, eq20, le27, ge27, lt27, gt27, eq27, le37, ge37, lt37, gt37, eq37, le47, ge47, lt47, gt47, eq47, le50, ge50, lt50, gt50, eq50, le57, ge57, lt57, gt57, eq57, le67, ge67, lt67, gt67, eq67, le77, ge77, lt77, gt77, eq77, le80, ge80, lt80, gt80, eq80, le87, ge87, lt87, gt87, eq87, le97, ge97, lt97, gt97, eq97, le99, ge99, lt99, gt99, eq99, le100, ge100, lt100, gt100, eq100, le106, ge106, lt106, gt106, eq106, le111, ge111, lt111, gt111, eq111, le125, ge125, lt125, gt125, eq125, le148, ge148, lt148, gt148, eq148, le200, ge200, lt200, gt200, eq200, le300, ge300, lt300, gt300, eq300, le1332, ge1332, lt1332, gt1332, eq1332, le9999, ge9999, lt9999, gt9999, eq9999, le1000000, ge1000000, lt1000000, gt1000000, eq1000000, ]
      rw [if_neg (by omega)]
      exact c1
    · by_cases hik : i = k
      · subst hik
        rw [c3 _ (fun i' h3 h4 => by omega), upd_eq]
      · exact c2 i (by omega) h2
    · rw [c3 x (fun i h3 h4 => hx i (by omega) h4), upd_ne (hx k (Nat.le_refl _) (by omega))]
theorem fill2_loop (sz : Nat) (hsz : sz ≤ 2000) (v : Int32) {e : Nat} (he : e ≤ sz) : ∀ (j k fuel : Nat) (fa : zA), e = k + j → j < fuel → ∃ fa', B_J7_fill_fda19_10 sz fuel (nI e) v (nI k) fa = some fa' ∧ ∀ i, fa' i = if k ≤ i ∧ i < e then v else fa i := by
  intro j
  induction j with
  | zero =>
    intro k fuel fa hk hf
    obtain ⟨f, rfl⟩ : ∃ f, fuel = f + 1 := ⟨fuel - 1, by omega⟩
    refine ⟨fa, ?_, fun i => by rw [if_neg (by omega)]⟩
    rw [B_J7_fill_fda19_10]
    simp (disch := omega) only [gd_nI, nmI, b1s, b2s, b3s, b4s, b5s, b6s, b7s, le_nI, lt_nI, eq_nI, nI_add, Nat.add_zero, la9, la17, la27, la37, la47, la57, la67, la77, la87, la97, la111, la16, la106, la8, ra0, ra1, ra2, ra3, ra4, ra5, ra6, ra7, ra8, ra16, ra106, lm2, lm3, lm8, lm9, lm10, lm20, lm148, le0, ge0, lt0, gt0, eq0, le1, ge1, lt1, gt1, eq1, le2, ge2, lt2, gt2, eq2, le3, ge3, lt3, gt3, eq3, le4, ge4, lt4, gt4, eq4, le5, ge5, lt5, gt5, eq5, le6, ge6, lt6, gt6, eq6, le7, ge7, lt7, gt7, eq7, le8, ge8, lt8, gt8, eq8, le9, ge9, lt9, gt9, eq9, le10, ge10, lt10, gt10, eq10, le14, ge14, lt14, gt14, eq14, le16, ge16, lt16, gt16, eq16, le17, ge17, lt17, gt17, eq17, le20, ge20, lt20, gt20, eq20, le27, ge27, lt27, gt27, eq27, le37, ge37, lt37, gt37, eq37, le47, ge47, lt47, gt47, eq47, le50, ge50, lt50, gt50, eq50, le57, ge57, lt57, gt57, eq57, le67, ge67, lt67, gt67, eq67, le77, ge77, lt77, gt77, eq77, le80, ge80, lt80, gt80, eq80, le87, ge87, lt87, gt87, eq87, le97, ge97, lt97, gt97, eq97, le99, ge99, lt99, gt99, eq99, le100, ge100, lt100, gt100, eq100, le106, ge106, lt106, gt106, eq106, le111, ge111, lt111, gt111, eq111, le125, ge125, lt125, gt125, eq125, le148, ge148, lt148, gt148, eq148, le200, ge200, lt200, gt200, eq200, le300, ge300, lt300, gt300, eq300, le1332, ge1332, lt1332, gt1332, eq1332, le9999, ge9999, lt9999, gt9999, eq9999, le1000000, ge1000000, lt1000000, gt1000000, eq1000000, ]
    rw [if_pos (by omega)]
  | succ j ih =>
    intro k fuel fa hk hf
    obtain ⟨f, rfl⟩ : ∃ f, fuel = f + 1 := ⟨fuel - 1, by omega⟩
    obtain ⟨fa', h1, h2⟩ := ih (k + 1) f (upd fa k v) (by omega) (by omega)
    refine ⟨fa', ?_, fun i => ?_⟩
    · rw [B_J7_fill_fda19_10]
      simp (disch := omega) only [gd_nI, nmI, b1s, b2s, b3s, b4s, b5s, b6s, b7s, le_nI, lt_nI, eq_nI, nI_add, Nat.add_zero, la9, la17, la27, la37, la47, la57, la67, la77, la87, la97, la111, la16, la106, la8, ra0, ra1, ra2, ra3, ra4, ra5, ra6, ra7, ra8, ra16, ra106, lm2, lm3, lm8, lm9, lm10, lm20, lm148, le0, ge0, lt0, gt0, eq0, le1, ge1, lt1, gt1, eq1, le2, ge2, lt2, gt2, eq2, le3, ge3, lt3, gt3, eq3, le4, ge4, lt4, gt4, eq4, le5, ge5, lt5, gt5, eq5, le6, ge6, lt6, gt6, eq6, le7, ge7, lt7, gt7, eq7, le8, ge8, lt8, gt8, eq8, le9, ge9, lt9, gt9, eq9, le10, ge10, lt10, gt10, eq10, le14, ge14, lt14, gt14, eq14, le16, ge16, lt16, gt16, eq16, le17, ge17, lt17, gt17, eq17, le20, ge20, lt20, gt20, eq20, le27, ge27, lt27, gt27, eq27, le37, ge37, lt37, gt37, eq37, le47, ge47, lt47, gt47, eq47, le50, ge50, lt50, gt50, eq50, le57, ge57, lt57, gt57, eq57, le67, ge67, lt67, gt67, eq67, le77, ge77, lt77, gt77, eq77, le80, ge80, lt80, gt80, eq80, le87, ge87, lt87, gt87, eq87, le97, ge97, lt97, gt97, eq97, le99, ge99, lt99, gt99, eq99, le100, ge100, lt100, gt100, eq100, le106, ge106, lt106, gt106, eq106, le111, ge111, lt111, gt111, eq111, le125, ge125, lt125, gt125, eq125, le148, ge148, lt148, gt148, eq148, le200, ge200, lt200, gt200, eq200, le300, ge300, lt300, gt300, eq300, le1332, ge1332, lt1332, gt1332, eq1332, le9999, ge9999, lt9999, gt9999, eq9999, le1000000, ge1000000, lt1000000, gt1000000, eq1000000, ]
      rw [if_neg (by omega)]
      exact h1
    · rw [h2 i]
      by_cases hik : i = k
      · subst hik
        rw [if_neg (by omega), upd_eq, if_pos (by omega)]
      · by_cases h9 : k + 1 ≤ i ∧ i < e
        · rw [if_pos h9, if_pos (by omega)]
        · rw [if_neg h9, if_neg (by omega), upd_ne hik]
theorem d_leave (row : zA) (a1 a2 : Int32) : ∃ row', f_X0_leaveOnlyFault a1 a2 row = some row' ∧ (∀ k, k < 10 → row' (57 + k) = 0) ∧ row' 97 = a1 ∧ row' 111 = a2 ∧ row' 5 = 1 ∧ row' 6 = 1 ∧ ∀ j, j ≠ 5 → j ≠ 6 → (j < 57 ∨ 67 ≤ j) → j ≠ 97 → j ≠ 111 → row' j = row j := by
  obtain ⟨fa, h1, h2⟩ := fill2_loop 125 (by omega) 0 (e := 67) (by omega) 10 57 FU row (by omega) (FU_lt (by omega))
  refine ⟨upd (upd (upd (upd fa 97 a1) 111 a2) 5 1) 6 1, ?_, fun k hk => ?_, ?_, ?_, ?_, ?_, fun j g1 g2 g3 g4 g5 => ?_⟩
  · unfold f_X0_leaveOnlyFault f_J7_fill_fda19
    have e : f_J7_rangeCheck_23922 (Int32.ofNat 125) 57 67 = some () := by decide +kernel
    rw [e]
    simp only [b1s]
    rw [show (67 : Int32) = nI 67 from rfl, show (57 : Int32) = nI 57 from rfl, h1]
    rfl
  · rw [upd_ne (by omega), upd_ne (by omega), upd_ne (by omega), upd_ne (by omega), h2, if_pos (by omega)]
  · rw [upd_ne (by omega), upd_ne (by omega), upd_ne (by omega), upd_eq]
  · rw [upd_ne (by omega), upd_ne (by omega), upd_eq]
  · rw [upd_ne (by omega), upd_eq]
  · rw [upd_eq]
  · rw [upd_ne g2, upd_ne g1, upd_ne g5, upd_ne g4, h2, if_neg (by omega)]
theorem try_sim {nr co pf : zA} {hi sl : Nat → zA} {sv ff s sv2 tx mf : zA} (h : REL nr co pf hi sl sv ff s sv2 tx mf) {n fb fc : Nat} (hn4 : nr 4 = nI n) (hn10 : n ≤ 10) (hfb : fb < n) (hfc : fc ≤ 9999) (w : Int32) (tr tf cu ho : zA) :
    ∃ (v : Int32) (tr' tf' s' cu' ho' mf' : zA), f_X2_tryFault (nI fb) (nI fc) w nr tr tf = some (v, tr', tf') ∧ f_X3_tests (nI fb) (nI fc) w s cu ho mf = some (v, s', cu', ho', mf') ∧ REL nr co pf hi sl sv ff s' sv2 tx mf' ∧ (∀ x, x < 1332 → s' x = s x) := by
  obtain ⟨tr1, c1, c2⟩ := d_copyFrom tr nr
  obtain ⟨s1, e1, e2⟩ := r_copies (a := 0) (c := 9) (by omega) (by omega) (by omega) s
  have hH : HR tr1 s1 1332 := h.1.mv c2 (fun j hj => by rw [e2, if_pos (by omega)]; exact congrArg s (by omega)) (by omega)
  obtain ⟨n', m, T, par, hT, hg, hB, hl⟩ := hH
  have hnn : n' = n := by
    have h1 := hB.r4
    rw [c2 4 (by omega), hn4] at h1
    have h2 := hB.n10
    have h3 := (nI_eq (a := n) (b := n') (by omega) (by omega)).mp h1
    omega
  subst hnn
  have h5 : mf 5 = -6 := h.2.2.1
  obtain ⟨pl, cu0, ⟨hm, l5, l2⟩, ⟨-, g5, m2⟩, d1, d2⟩ := hl
  have s5 : s1 5 = nI m := by
    obtain ⟨n9, m9, T9, par9, -, -, hB9, ⟨pl9, cu9, ⟨hm9, l59, -⟩, ⟨-, g59, -⟩, -, -⟩⟩ := h.1
    rw [e2, if_neg (by omega)]
    rw [Nat.zero_add] at g59
    rw [g59, ← l59, ← c2 5 (by omega), l5]
  have s4 : s1 4 = nI n' := by
    obtain ⟨n9, m9, T9, par9, -, -, hB9, -⟩ := h.1
    rw [e2, if_neg (by omega)]
    have := hB9.s4
    rw [Nat.zero_add] at this
    rw [this, ← hB9.r4, hn4]
  obtain ⟨s2, o1, o2, o3⟩ := off_loop (s := s1) (mf := mf) (cu := cu) (ho := ho) (a1 := nI fb) (a2 := nI fc) (a3 := w) hm m 0 FU s1 s5 (by omega) (FU_lt (by omega))
  obtain ⟨s3, q1, q2, q3⟩ := cold_loop (mf := mf) (cu := cu) (ho := ho) (a1 := nI fb) (a2 := nI fc) (a3 := w) hn10 n' 0 FU s2 (by rw [o3 _ (fun i _ _ => by omega)]; exact s4) (by omega) (FU_lt (by omega))
  obtain ⟨tr2, v1, v2, v3, v4, v5, v6, v7⟩ := d_leave tr1 (nI fb) (nI fc)
  -- the trial's states are told alike
  have r : ∀ j, j ≠ 5 → j ≠ 6 → (j < 57 ∨ 67 ≤ j) → j ≠ 97 → j ≠ 111 → tr2 j = tr1 j := v7
  have q : ∀ j, (∀ i, i < n' → j ≠ 1332 + 16 + 9 * i + 4) → (j < 1332 + 106) → s3 j = s1 j := fun j hj hj2 => by
    rw [q3 _ (fun i _ hi => hj i hi), o3 _ (fun i _ _ => by omega)]
  have hB2 : BR tr2 s3 1332 n' T (10 * T) par := by
    refine BR.mk hB.n10 (by omega) ?_ ?_ ?_ ?_ ?_ ?_ ?_ ?_ hB.par ?_ ?_ ?_ ?_ ?_ ?_ ?_ ?_ ?_ ?_ ?_
    · rw [r 4 (by omega) (by omega) (by omega) (by omega) (by omega)]; exact hB.r4
    · rw [q _ (fun i hi => by omega) (by omega)]; exact hB.s4
    · intro j hj; rw [r j (by omega) (by omega) (by omega) (by omega) (by omega), q _ (fun i hi => by omega) (by omega)]; exact hB.st0 j hj
    · rw [r 3 (by omega) (by omega) (by omega) (by omega) (by omega)]; exact hB.tm
    · rw [r 0 (by omega) (by omega) (by omega) (by omega) (by omega)]; exact hB.arc
    · rw [r 1 (by omega) (by omega) (by omega) (by omega) (by omega)]; exact hB.coo
    · rw [r 8 (by omega) (by omega) (by omega) (by omega) (by omega), q _ (fun i hi => by omega) (by omega), q _ (fun i hi => by omega) (by omega)]; exact hB.bl
    · intro j hj; rw [r _ (by omega) (by omega) (by omega) (by omega) (by omega), q _ (fun i hi => by omega) (by omega)]; exact hB.lat j hj
    · intro j h0 hj; rw [r _ (by omega) (by omega) (by omega) (by omega) (by omega), q _ (fun i hi => by omega) (by omega)]; exact hB.fr j h0 hj
    · intro h0; rw [q _ (fun i hi => by omega) (by omega)]; exact hB.f0 h0
    · intro j hj; rw [r _ (by omega) (by omega) (by omega) (by omega) (by omega), q _ (fun i hi => by omega) (by omega)]; exact hB.rt j hj
    · intro j hj; rw [r _ (by omega) (by omega) (by omega) (by omega) (by omega), q _ (fun i hi => by omega) (by omega)]; exact hB.kd j hj
    · intro j hj; rw [r _ (by omega) (by omega) (by omega) (by omega) (by omega), r 7 (by omega) (by omega) (by omega) (by omega) (by omega), q _ (fun i hi => by omega) (by omega), q _ (fun i hi => by omega) (by omega)]; exact hB.hw j hj
    · intro j hj; exact ⟨0, by omega, v2 j (by omega), q2 j (by omega) hj⟩
    · intro j hj; rw [r _ (by omega) (by omega) (by omega) (by omega) (by omega), q _ (fun i hi => by omega) (by omega)]; exact hB.sp j hj
    · intro j hj; rw [r _ (by omega) (by omega) (by omega) (by omega) (by omega), q _ (fun i hi => by omega) (by omega)]; exact hB.cr j hj
    · intro j hj; rw [r _ (by omega) (by omega) (by omega) (by omega) (by omega), q _ (fun i hi => by omega) (by omega)]; exact hB.he j hj
    · intro j hj; rw [r 7 (by omega) (by omega) (by omega) (by omega) (by omega)]; exact hB.op j hj
    · intro j hj h1; rw [r _ (by omega) (by omega) (by omega) (by omega) (by omega)]; exact hB.h0 j hj h1
  have hLF : LF tr2 s3 n' fb fc := by
    refine ⟨hfb, hfc, ⟨by omega, v5, fun i hi => ⟨hfb, ?_, ?_⟩⟩, by rw [v6]; decide, m, pl, cu0, hm, ?_, fun i hi => ?_⟩
    · rw [show 97 + i = 97 by omega]; exact v3
    · rw [show 111 + i = 111 by omega]; exact v4
    · rw [q _ (fun i hi => by omega) (by omega)]; exact g5
    · obtain ⟨z1, z2, z3, z4⟩ := m2 i hi
      refine ⟨z1, ?_, ?_, ?_⟩
      · rw [q3 _ (fun i' _ h' => by omega), o3 _ (fun i' _ h' => by omega)]; exact z2
      · rw [q3 _ (fun i' _ h' => by omega), o3 _ (fun i' _ h' => by omega)]; exact z3
      · rw [q3 _ (fun i' _ h' => by omega), o2 i (by omega) hi]; rfl
  obtain ⟨v, tr', tf', s', cu', ho', a1, a2, a3⟩ := first_loop (L := fun row s => LF row s n' fb fc) (mf := upd (upd mf 5 (nI fb)) 6 (nI fc)) (fun row s T X hb hl => cur_f hb hl (by rw [upd_ne (by omega), upd_eq]) (by rw [upd_eq])) (fun row s row' s' hl f1 f2 => by
    obtain ⟨x1, x2, ⟨x3, x4, x5⟩, x6, m', pl', cu', y1, y2, y3⟩ := hl
    refine ⟨x1, x2, ⟨x3, by rw [f1 5 (by omega)]; exact x4, fun i hi => ?_⟩, by rw [f1 6 (by omega)]; exact x6, m', pl', cu', y1, by rw [f2 _ (by omega)]; exact y2, fun i hi => ?_⟩
    · rw [f1 _ (by omega), f1 _ (by omega)]; exact x5 i hi
    · rw [f2 _ (by omega), f2 _ (by omega), f2 _ (by omega)]; exact y3 i hi) w 200 1 T (10 * T) tr2 tf s3 cu ho (by omega) (by omega) (by omega) hB2 hLF
  have hs : ∀ x, x < 1332 → s' x = s x := fun x hx => by rw [a3 x hx, q3 _ (fun i _ hi => by omega), o3 _ (fun i _ hi => by omega), e2, if_neg (by omega)]
  refine ⟨v, tr', tf', s', cu', ho', upd (upd (upd mf 5 (nI fb)) 6 (nI fc)) 5 (-6), ?_, ?_, h.trial hs (fun x hx => ?_), hs⟩
  · unfold f_X2_tryFault
    rw [c1]
    simp only [b1s]
    rw [v1]
    simp only [b1s]
    unfold f_X2_firstBlow
    rw [show (1 : Int32) = nI 1 from rfl, a1 FU (FU_lt (by omega))]
    rfl
  · unfold f_X3_tests
    rw [show (0 : Int32) = nI 0 from rfl, show (9 : Int32) = nI 9 from rfl, e1]
    simp only [b1s]
    rw [o1, show (0 : Int32) = nI 0 from rfl, q1]
    unfold f_X3_first
    rw [show (1 : Int32) = nI 1 from rfl, a2 FU (FU_lt (by omega))]
    rfl
  · by_cases hx5 : x = 5
    · subst hx5; rw [upd_eq, h5]
    · rw [upd_ne hx5, upd_ne hx, upd_ne hx5]
