/-! A tick, in step: burning, warming -/
theorem burn_sim {b n T X : Nat} {par : Nat → Nat} (cu ho mf : zA) : ∀ (j k : Nat) (row s : zA), n = k + j → BR row s b n T X par →
    ∃ row' s', (∀ fuel, j < fuel → B_X0_burnArcs_2 fuel (nI k) row = some row') ∧ (∀ fuel, j < fuel → B_X3_tick_36 fuel (nI b) (nI n) (nI k) s cu ho mf = B_X3_tick_55 FU (nI b) (nI n) 0 s' cu ho mf) ∧ BR row' s' b n T X par ∧ FRr row row' ∧ FRs s s' b := by
  intro j
  induction j with
  | zero =>
    intro k row s hk h
    have hn := h.n10
    refine ⟨row, s, fun fuel hf => ?_, fun fuel hf => ?_, h, FRr.rf _, FRs.rf _ _⟩
    · obtain ⟨f, rfl⟩ : ∃ f, fuel = f + 1 := ⟨fuel - 1, by omega⟩
      rw [B_X0_burnArcs_2, h.r4]
      simp (disch := omega) only [gd_nI, nmI, b1s, b2s, b3s, b4s, b5s, b6s, b7s, le_nI, lt_nI, eq_nI, nI_add, Nat.add_zero, la9, la17, la27, la37, la47, la57, la67, la77, la87, la97, la111, la16, la106, la8, ra0, ra1, ra2, ra3, ra4, ra5, ra6, ra7, ra8, ra16, ra106, lm2, lm3, lm8, lm9, lm10, lm20, lm148, le0, ge0, lt0, gt0, eq0, le1, ge1, lt1, gt1, eq1, le2, ge2, lt2, gt2, eq2, le3, ge3, lt3, gt3, eq3, le4, ge4, lt4, gt4, eq4, le5, ge5, lt5, gt5, eq5, le6, ge6, lt6, gt6, eq6, le7, ge7, lt7, gt7, eq7, le8, ge8, lt8, gt8, eq8, le9, ge9, lt9, gt9, eq9, le10, ge10, lt10, gt10, eq10, le14, ge14, lt14, gt14, eq14, le16, ge16, lt16, gt16, eq16, le17, ge17, lt17, gt17, eq17, le20, ge20, lt20, gt20, eq20, le27, ge27, lt27, gt27, eq27, le37, ge37, lt37, gt37, eq37, le47, ge47, lt47, gt47, eq47, le50, ge50, lt50, gt50, eq50, le57, ge57, lt57, gt57, eq57, le67, ge67, lt67, gt67, eq67, le77, ge77, lt77, gt77, eq77, le80, ge80, lt80, gt80, eq80, le87, ge87, lt87, gt87, eq87, le97, ge97, lt97, gt97, eq97, le99, ge99, lt99, gt99, eq99, le100, ge100, lt100, gt100, eq100, le106, ge106, lt106, gt106, eq106, le111, ge111, lt111, gt111, eq111, le125, ge125, lt125, gt125, eq125, le148, ge148, lt148, gt148, eq148, le200, ge200, lt200, gt200, eq200, le300, ge300, lt300, gt300, eq300, le1332, ge1332, lt1332, gt1332, eq1332, le9999, ge9999, lt9999, gt9999, eq9999, le1000000, ge1000000, lt1000000, gt1000000, eq1000000, ]
      rw [if_pos (by omega)]
    · obtain ⟨f, rfl⟩ : ∃ f, fuel = f + 1 := ⟨fuel - 1, by omega⟩
      rw [B_X3_tick_36]
      simp (disch := omega) only [gd_nI, nmI, b1s, b2s, b3s, b4s, b5s, b6s, b7s, le_nI, lt_nI, eq_nI, nI_add, Nat.add_zero, la9, la17, la27, la37, la47, la57, la67, la77, la87, la97, la111, la16, la106, la8, ra0, ra1, ra2, ra3, ra4, ra5, ra6, ra7, ra8, ra16, ra106, lm2, lm3, lm8, lm9, lm10, lm20, lm148, le0, ge0, lt0, gt0, eq0, le1, ge1, lt1, gt1, eq1, le2, ge2, lt2, gt2, eq2, le3, ge3, lt3, gt3, eq3, le4, ge4, lt4, gt4, eq4, le5, ge5, lt5, gt5, eq5, le6, ge6, lt6, gt6, eq6, le7, ge7, lt7, gt7, eq7, le8, ge8, lt8, gt8, eq8, le9, ge9, lt9, gt9, eq9, le10, ge10, lt10, gt10, eq10, le14, ge14, lt14, gt14, eq14, le16, ge16, lt16, gt16, eq16, le17, ge17, lt17, gt17, eq17, le20, ge20, lt20, gt20, eq20, le27, ge27, lt27, gt27, eq27, le37, ge37, lt37, gt37, eq37, le47, ge47, lt47, gt47, eq47, le50, ge50, lt50, gt50, eq50, le57, ge57, lt57, gt57, eq57, le67, ge67, lt67, gt67, eq67, le77, ge77, lt77, gt77, eq77, le80, ge80, lt80, gt80, eq80, le87, ge87, lt87, gt87, eq87, le97, ge97, lt97, gt97, eq97, le99, ge99, lt99, gt99, eq99, le100, ge100, lt100, gt100, eq100, le106, ge106, lt106, gt106, eq106, le111, ge111, lt111, gt111, eq111, le125, ge125, lt125, gt125, eq125, le148, ge148, lt148, gt148, eq148, le200, ge200, lt200, gt200, eq200, le300, ge300, lt300, gt300, eq300, le1332, ge1332, lt1332, gt1332, eq1332, le9999, ge9999, lt9999, gt9999, eq9999, le1000000, ge1000000, lt1000000, gt1000000, eq1000000, ]
      rw [if_pos (by omega)]
  | succ j ih =>
    intro k row s hk h
    have hn := h.n10
    have hb := h.b14
    have go : ∀ row1 s1, BR row1 s1 b n T X par → FRr row row1 → FRs s s1 b → f_X3_burns (nI b) (nI k) s = some s1 →
        (∀ f, B_X0_burnArcs_2 (f + 1) (nI k) row = B_X0_burnArcs_2 f (nI (k + 1)) row1) → 
        ∃ row' s', (∀ fuel, j + 1 < fuel → B_X0_burnArcs_2 fuel (nI k) row = some row') ∧ (∀ fuel, j + 1 < fuel → B_X3_tick_36 fuel (nI b) (nI n) (nI k) s cu ho mf = B_X3_tick_55 FU (nI b) (nI n) 0 s' cu ho mf) ∧ BR row' s' b n T X par ∧ FRr row row' ∧ FRs s s' b := by
      intro row1 s1 h1 f1 f2 e1 e2
      obtain ⟨row', s', a1, a2, a3, a4, a5⟩ := ih (k + 1) row1 s1 (by omega) h1
      refine ⟨row', s', fun fuel hf => ?_, fun fuel hf => ?_, a3, f1.tr a4, f2.tr a5⟩
      · obtain ⟨f, rfl⟩ : ∃ f, fuel = f + 1 := ⟨fuel - 1, by omega⟩
        rw [e2, a1 f (by omega)]
      · obtain ⟨f, rfl⟩ : ∃ f, fuel = f + 1 := ⟨fuel - 1, by omega⟩
        rw [B_X3_tick_36]
        simp (disch := omega) only [gd_nI, nmI, b1s, b2s, b3s, b4s, b5s, b6s, b7s, le_nI, lt_nI, eq_nI, nI_add, Nat.add_zero, la9, la17, la27, la37, la47, la57, la67, la77, la87, la97, la111, la16, la106, la8, ra0, ra1, ra2, ra3, ra4, ra5, ra6, ra7, ra8, ra16, ra106, lm2, lm3, lm8, lm9, lm10, lm20, lm148, le0, ge0, lt0, gt0, eq0, le1, ge1, lt1, gt1, eq1, le2, ge2, lt2, gt2, eq2, le3, ge3, lt3, gt3, eq3, le4, ge4, lt4, gt4, eq4, le5, ge5, lt5, gt5, eq5, le6, ge6, lt6, gt6, eq6, le7, ge7, lt7, gt7, eq7, le8, ge8, lt8, gt8, eq8, le9, ge9, lt9, gt9, eq9, le10, ge10, lt10, gt10, eq10, le14, ge14, lt14, gt14, eq14, le16, ge16, lt16, gt16, eq16, le17, ge17, lt17, gt17, eq17, le20, ge20, lt20, gt20, eq20, le27, ge27, lt27, gt27, eq27, le37, ge37, lt37, gt37, eq37, le47, ge47, lt47, gt47, eq47, le50, ge50, lt50, gt50, eq50, le57, ge57, lt57, gt57, eq57, le67, ge67, lt67, gt67, eq67, le77, ge77, lt77, gt77, eq77, le80, ge80, lt80, gt80, eq80, le87, ge87, lt87, gt87, eq87, le97, ge97, lt97, gt97, eq97, le99, ge99, lt99, gt99, eq99, le100, ge100, lt100, gt100, eq100, le106, ge106, lt106, gt106, eq106, le111, ge111, lt111, gt111, eq111, le125, ge125, lt125, gt125, eq125, le148, ge148, lt148, gt148, eq148, le200, ge200, lt200, gt200, eq200, le300, ge300, lt300, gt300, eq300, le1332, ge1332, lt1332, gt1332, eq1332, le9999, ge9999, lt9999, gt9999, eq9999, le1000000, ge1000000, lt1000000, gt1000000, eq1000000, ]
        rw [if_neg (by omega), e1]
        simp (disch := omega) only [gd_nI, nmI, b1s, b2s, b3s, b4s, b5s, b6s, b7s, le_nI, lt_nI, eq_nI, nI_add, Nat.add_zero, la9, la17, la27, la37, la47, la57, la67, la77, la87, la97, la111, la16, la106, la8, ra0, ra1, ra2, ra3, ra4, ra5, ra6, ra7, ra8, ra16, ra106, lm2, lm3, lm8, lm9, lm10, lm20, lm148, le0, ge0, lt0, gt0, eq0, le1, ge1, lt1, gt1, eq1, le2, ge2, lt2, gt2, eq2, le3, ge3, lt3, gt3, eq3, le4, ge4, lt4, gt4, eq4, le5, ge5, lt5, gt5, eq5, le6, ge6, lt6, gt6, eq6, le7, ge7, lt7, gt7, eq7, le8, ge8, lt8, gt8, eq8, le9, ge9, lt9, gt9, eq9, le10, ge10, lt10, gt10, eq10, le14, ge14, lt14, gt14, eq14, le16, ge16, lt16, gt16, eq16, le17, ge17, lt17, gt17, eq17, le20, ge20, lt20, gt20, eq20, le27, ge27, lt27, gt27, eq27, le37, ge37, lt37, gt37, eq37, le47, ge47, lt47, gt47, eq47, le50, ge50, lt50, gt50, eq50, le57, ge57, lt57, gt57, eq57, le67, ge67, lt67, gt67, eq67, le77, ge77, lt77, gt77, eq77, le80, ge80, lt80, gt80, eq80, le87, ge87, lt87, gt87, eq87, le97, ge97, lt97, gt97, eq97, le99, ge99, lt99, gt99, eq99, le100, ge100, lt100, gt100, eq100, le106, ge106, lt106, gt106, eq106, le111, ge111, lt111, gt111, eq111, le125, ge125, lt125, gt125, eq125, le148, ge148, lt148, gt148, eq148, le200, ge200, lt200, gt200, eq200, le300, ge300, lt300, gt300, eq300, le1332, ge1332, lt1332, gt1332, eq1332, le9999, ge9999, lt9999, gt9999, eq9999, le1000000, ge1000000, lt1000000, gt1000000, eq1000000, ]
        exact a2 f (by omega)
    obtain ⟨a, ha, e1, e2, hc⟩ := h.hw k (by omega)
    have dev0 : ∀ f, B_X0_burnArcs_2 (f + 1) (nI k) row = if nI a = 0 then B_X0_burnArcs_2 f (nI (k + 1)) row else if upd row (47 + k) (nI a - 1) (47 + k) = 0 then B_X0_burnArcs_2 f (nI (k + 1)) (upd (upd row (47 + k) (nI a - 1)) 7 ((upd row (47 + k) (nI a - 1) 7) ||| (1 <<< (nI k &&& 31)))) else B_X0_burnArcs_2 f (nI (k + 1)) (upd row (47 + k) (nI a - 1)) := by
      intro f
      rw [B_X0_burnArcs_2, h.r4]
      simp (disch := omega) only [gd_nI, nmI, b1s, b2s, b3s, b4s, b5s, b6s, b7s, le_nI, lt_nI, eq_nI, nI_add, Nat.add_zero, la9, la17, la27, la37, la47, la57, la67, la77, la87, la97, la111, la16, la106, la8, ra0, ra1, ra2, ra3, ra4, ra5, ra6, ra7, ra8, ra16, ra106, lm2, lm3, lm8, lm9, lm10, lm20, lm148, le0, ge0, lt0, gt0, eq0, le1, ge1, lt1, gt1, eq1, le2, ge2, lt2, gt2, eq2, le3, ge3, lt3, gt3, eq3, le4, ge4, lt4, gt4, eq4, le5, ge5, lt5, gt5, eq5, le6, ge6, lt6, gt6, eq6, le7, ge7, lt7, gt7, eq7, le8, ge8, lt8, gt8, eq8, le9, ge9, lt9, gt9, eq9, le10, ge10, lt10, gt10, eq10, le14, ge14, lt14, gt14, eq14, le16, ge16, lt16, gt16, eq16, le17, ge17, lt17, gt17, eq17, le20, ge20, lt20, gt20, eq20, le27, ge27, lt27, gt27, eq27, le37, ge37, lt37, gt37, eq37, le47, ge47, lt47, gt47, eq47, le50, ge50, lt50, gt50, eq50, le57, ge57, lt57, gt57, eq57, le67, ge67, lt67, gt67, eq67, le77, ge77, lt77, gt77, eq77, le80, ge80, lt80, gt80, eq80, le87, ge87, lt87, gt87, eq87, le97, ge97, lt97, gt97, eq97, le99, ge99, lt99, gt99, eq99, le100, ge100, lt100, gt100, eq100, le106, ge106, lt106, gt106, eq106, le111, ge111, lt111, gt111, eq111, le125, ge125, lt125, gt125, eq125, le148, ge148, lt148, gt148, eq148, le200, ge200, lt200, gt200, eq200, le300, ge300, lt300, gt300, eq300, le1332, ge1332, lt1332, gt1332, eq1332, le9999, ge9999, lt9999, gt9999, eq9999, le1000000, ge1000000, lt1000000, gt1000000, eq1000000,  e1]
      rw [if_neg (by omega)]
    have ref0 : f_X3_burns (nI b) (nI k) s = if s (b + 16 + 9 * k + 3) = 1 then (if upd s (b + 16 + 9 * k + 7) (nI a - 1) (b + 16 + 9 * k + 7) = 0 then some (upd (upd s (b + 16 + 9 * k + 7) (nI a - 1)) (b + 16 + 9 * k + 3) 2) else some (upd (upd s (b + 16 + 9 * k + 7) (nI a - 1)) (b + 16 + 9 * k + 3) 1)) else some s := by
      unfold f_X3_burns
      simp (disch := omega) only [gd_nI, nmI, b1s, b2s, b3s, b4s, b5s, b6s, b7s, le_nI, lt_nI, eq_nI, nI_add, Nat.add_zero, la9, la17, la27, la37, la47, la57, la67, la77, la87, la97, la111, la16, la106, la8, ra0, ra1, ra2, ra3, ra4, ra5, ra6, ra7, ra8, ra16, ra106, lm2, lm3, lm8, lm9, lm10, lm20, lm148, le0, ge0, lt0, gt0, eq0, le1, ge1, lt1, gt1, eq1, le2, ge2, lt2, gt2, eq2, le3, ge3, lt3, gt3, eq3, le4, ge4, lt4, gt4, eq4, le5, ge5, lt5, gt5, eq5, le6, ge6, lt6, gt6, eq6, le7, ge7, lt7, gt7, eq7, le8, ge8, lt8, gt8, eq8, le9, ge9, lt9, gt9, eq9, le10, ge10, lt10, gt10, eq10, le14, ge14, lt14, gt14, eq14, le16, ge16, lt16, gt16, eq16, le17, ge17, lt17, gt17, eq17, le20, ge20, lt20, gt20, eq20, le27, ge27, lt27, gt27, eq27, le37, ge37, lt37, gt37, eq37, le47, ge47, lt47, gt47, eq47, le50, ge50, lt50, gt50, eq50, le57, ge57, lt57, gt57, eq57, le67, ge67, lt67, gt67, eq67, le77, ge77, lt77, gt77, eq77, le80, ge80, lt80, gt80, eq80, le87, ge87, lt87, gt87, eq87, le97, ge97, lt97, gt97, eq97, le99, ge99, lt99, gt99, eq99, le100, ge100, lt100, gt100, eq100, le106, ge106, lt106, gt106, eq106, le111, ge111, lt111, gt111, eq111, le125, ge125, lt125, gt125, eq125, le148, ge148, lt148, gt148, eq148, le200, ge200, lt200, gt200, eq200, le300, ge300, lt300, gt300, eq300, le1332, ge1332, lt1332, gt1332, eq1332, le9999, ge9999, lt9999, gt9999, eq9999, le1000000, ge1000000, lt1000000, gt1000000, eq1000000,  f_X3_boardAt, e2, B_X3_burns_55]
    rcases hc with ⟨hb0, ⟨ha0, hh⟩ | ⟨ha0, hh⟩⟩ | ⟨hb1, ha0, hh⟩
    · refine go row s h (FRr.rf _) (FRs.rf _ _) ?_ ?_
      · rw [ref0, hh, if_neg (by decide)]
      · intro f
        rw [dev0 f, if_pos (by rw [ha0]; rfl)]
    · have hne : ¬ nI a = 0 := by rw [eq0 (by omega)]; omega
      rw [nI_s1 (by omega)] at dev0 ref0
      by_cases h1 : a = 1
      · subst h1
        have z : nI (1 - 1) = 0 := rfl
        refine go (upd (upd row (47 + k) 0) 7 (row 7 ||| (1 <<< (nI k &&& 31)))) (upd (upd s (b + 16 + 9 * k + 7) 0) (b + 16 + 9 * k + 3) 2) ?_ ?_ ?_ ?_ ?_
        · have r0 : stR row (upd (upd row (47 + k) 0) 7 (row 7 ||| (1 <<< (nI k &&& 31)))) k := fun i h1 h2 h3 h4 h5 => by rw [upd_ne h5, upd_ne h1]
          have s0 : stS s (upd (upd s (b + 16 + 9 * k + 7) 0) (b + 16 + 9 * k + 3) 2) b k := fun i hi => by rw [upd_ne (by omega), upd_ne (by omega)]
          refine h.step (by omega) r0 s0 (fun i hi => ?_) ?_ ?_ ?_ ?_
          · rw [upd_eq]
            by_cases h32 : i < 32
            · rw [bt_set _ (by omega) h32]
              simp [hi]
            · rw [bt_big _ (by omega), bt_big _ (by omega)]
          · refine ⟨0, by omega, ?_, ?_, Or.inr ⟨?_, rfl, ?_⟩⟩
            · rw [upd_ne (by omega), upd_eq]; rfl
            · rw [upd_ne (by omega), upd_eq]; rfl
            · rw [upd_eq, bt_set _ (by omega) (by omega)]; simp
            · rw [upd_eq]
          · rw [upd_ne (by omega), upd_ne (by omega), upd_ne (by omega), upd_ne (by omega)]; exact h.ht k (by omega)
          · rw [upd_ne (by omega), upd_ne (by omega), upd_ne (by omega), upd_ne (by omega)]; exact h.sp k (by omega)
          · rw [upd_ne (by omega), upd_ne (by omega), upd_ne (by omega), upd_ne (by omega)]; exact h.cr k (by omega)
        · exact fun i hi => by rw [upd_ne (by omega), upd_ne (by omega)]
        · exact fun i hi => by rw [upd_ne (by omega), upd_ne (by omega)]
        · rw [ref0, hh, if_pos rfl, z, upd_eq, if_pos rfl]
        · intro f
          rw [dev0 f, if_neg hne, z, upd_eq, if_pos rfl, upd_ne (by omega)]
      · have hz : ¬ nI (a - 1) = 0 := by rw [eq0 (by omega)]; omega
        refine go (upd row (47 + k) (nI (a - 1))) (upd (upd s (b + 16 + 9 * k + 7) (nI (a - 1))) (b + 16 + 9 * k + 3) 1) ?_ ?_ ?_ ?_ ?_
        · have r0 : stR row (upd row (47 + k) (nI (a - 1))) k := fun i h1 h2 h3 h4 h5 => by rw [upd_ne h1]
          have s0 : stS s (upd (upd s (b + 16 + 9 * k + 7) (nI (a - 1))) (b + 16 + 9 * k + 3) 1) b k := fun i hi => by rw [upd_ne (by omega), upd_ne (by omega)]
          refine h.step (by omega) r0 s0 (fun i hi => ?_) ?_ ?_ ?_ ?_
          · rw [upd_ne (by omega)]
          · refine ⟨a - 1, by omega, ?_, ?_, Or.inl ⟨?_, Or.inr ⟨by omega, ?_⟩⟩⟩
            · rw [upd_eq]
            · rw [upd_ne (by omega), upd_eq]
            · rw [upd_ne (by omega)]; exact hb0
            · rw [upd_eq]
          · rw [upd_ne (by omega), upd_ne (by omega), upd_ne (by omega)]; exact h.ht k (by omega)
          · rw [upd_ne (by omega), upd_ne (by omega), upd_ne (by omega)]; exact h.sp k (by omega)
          · rw [upd_ne (by omega), upd_ne (by omega), upd_ne (by omega)]; exact h.cr k (by omega)
        · exact fun i hi => by rw [upd_ne (by omega)]
        · exact fun i hi => by rw [upd_ne (by omega), upd_ne (by omega)]
        · rw [ref0, hh, if_pos rfl, upd_eq, if_neg hz]
        · intro f
          rw [dev0 f, if_neg hne, upd_eq, if_neg hz]
    · refine go row s h (FRr.rf _) (FRs.rf _ _) ?_ ?_
      · rw [ref0, hh, if_neg (by decide)]
      · intro f
        rw [dev0 f, if_pos (by rw [ha0]; rfl)]
/-- the melting heat, and whether a fuse melts -/
def mlt (r q st : Int32) : Int32 := zmx 1 (r * r * (if q = 0 then 8 else if q = 1 then 40 else 20) - 20 * r * st)
def hotb (row : zA) (i : Nat) : Bool := (!bt (row 7) i && decide (row (47 + i) ≤ 0)) && !decide (row (57 + i) < mlt (row (27 + i)) (row (37 + i)) (row (67 + i)))
theorem zmx_1 (x : Int32) : (if (1 : Int32) ≤ x then some x else some 1) = some (zmx 1 x) := by
  unfold zmx
  by_cases h : (1 : Int32) < x
  · rw [if_pos h, if_pos (Int32.le_of_lt h)]
  · rw [if_neg h]
    by_cases h2 : (1 : Int32) ≤ x
    · rw [if_pos h2, Int32.le_antisymm (Int32.not_lt.mp h) h2]
    · rw [if_neg h2]
theorem d_melt {row : zA} {k : Nat} (hk : k < 10) : f_X0_meltingHeat (nI k) row = some (mlt (row (27 + k)) (row (37 + k)) (row (67 + k))) := by
  unfold f_X0_meltingHeat f_X0_heatFactor
  simp (disch := omega) only [gd_nI, nmI, b1s, b2s, b3s, b4s, b5s, b6s, b7s, le_nI, lt_nI, eq_nI, nI_add, Nat.add_zero, la9, la17, la27, la37, la47, la57, la67, la77, la87, la97, la111, la16, la106, la8, ra0, ra1, ra2, ra3, ra4, ra5, ra6, ra7, ra8, ra16, ra106, lm2, lm3, lm8, lm9, lm10, lm20, lm148, le0, ge0, lt0, gt0, eq0, le1, ge1, lt1, gt1, eq1, le2, ge2, lt2, gt2, eq2, le3, ge3, lt3, gt3, eq3, le4, ge4, lt4, gt4, eq4, le5, ge5, lt5, gt5, eq5, le6, ge6, lt6, gt6, eq6, le7, ge7, lt7, gt7, eq7, le8, ge8, lt8, gt8, eq8, le9, ge9, lt9, gt9, eq9, le10, ge10, lt10, gt10, eq10, le14, ge14, lt14, gt14, eq14, le16, ge16, lt16, gt16, eq16, le17, ge17, lt17, gt17, eq17, le20, ge20, lt20, gt20, eq20, le27, ge27, lt27, gt27, eq27, le37, ge37, lt37, gt37, eq37, le47, ge47, lt47, gt47, eq47, le50, ge50, lt50, gt50, eq50, le57, ge57, lt57, gt57, eq57, le67, ge67, lt67, gt67, eq67, le77, ge77, lt77, gt77, eq77, le80, ge80, lt80, gt80, eq80, le87, ge87, lt87, gt87, eq87, le97, ge97, lt97, gt97, eq97, le99, ge99, lt99, gt99, eq99, le100, ge100, lt100, gt100, eq100, le106, ge106, lt106, gt106, eq106, le111, ge111, lt111, gt111, eq111, le125, ge125, lt125, gt125, eq125, le148, ge148, lt148, gt148, eq148, le200, ge200, lt200, gt200, eq200, le300, ge300, lt300, gt300, eq300, le1332, ge1332, lt1332, gt1332, eq1332, le9999, ge9999, lt9999, gt9999, eq9999, le1000000, ge1000000, lt1000000, gt1000000, eq1000000, ]
  by_cases h0 : row (37 + k) = 0
  · simp only [h0, if_true]
    simp (disch := omega) only [gd_nI, nmI, b1s, b2s, b3s, b4s, b5s, b6s, b7s, le_nI, lt_nI, eq_nI, nI_add, Nat.add_zero, la9, la17, la27, la37, la47, la57, la67, la77, la87, la97, la111, la16, la106, la8, ra0, ra1, ra2, ra3, ra4, ra5, ra6, ra7, ra8, ra16, ra106, lm2, lm3, lm8, lm9, lm10, lm20, lm148, le0, ge0, lt0, gt0, eq0, le1, ge1, lt1, gt1, eq1, le2, ge2, lt2, gt2, eq2, le3, ge3, lt3, gt3, eq3, le4, ge4, lt4, gt4, eq4, le5, ge5, lt5, gt5, eq5, le6, ge6, lt6, gt6, eq6, le7, ge7, lt7, gt7, eq7, le8, ge8, lt8, gt8, eq8, le9, ge9, lt9, gt9, eq9, le10, ge10, lt10, gt10, eq10, le14, ge14, lt14, gt14, eq14, le16, ge16, lt16, gt16, eq16, le17, ge17, lt17, gt17, eq17, le20, ge20, lt20, gt20, eq20, le27, ge27, lt27, gt27, eq27, le37, ge37, lt37, gt37, eq37, le47, ge47, lt47, gt47, eq47, le50, ge50, lt50, gt50, eq50, le57, ge57, lt57, gt57, eq57, le67, ge67, lt67, gt67, eq67, le77, ge77, lt77, gt77, eq77, le80, ge80, lt80, gt80, eq80, le87, ge87, lt87, gt87, eq87, le97, ge97, lt97, gt97, eq97, le99, ge99, lt99, gt99, eq99, le100, ge100, lt100, gt100, eq100, le106, ge106, lt106, gt106, eq106, le111, ge111, lt111, gt111, eq111, le125, ge125, lt125, gt125, eq125, le148, ge148, lt148, gt148, eq148, le200, ge200, lt200, gt200, eq200, le300, ge300, lt300, gt300, eq300, le1332, ge1332, lt1332, gt1332, eq1332, le9999, ge9999, lt9999, gt9999, eq9999, le1000000, ge1000000, lt1000000, gt1000000, eq1000000, ]
    rfl
  · rw [if_neg h0]
    by_cases h1 : row (37 + k) = 1
    · rw [if_pos h1]
      simp (disch := omega) only [gd_nI, nmI, b1s, b2s, b3s, b4s, b5s, b6s, b7s, le_nI, lt_nI, eq_nI, nI_add, Nat.add_zero, la9, la17, la27, la37, la47, la57, la67, la77, la87, la97, la111, la16, la106, la8, ra0, ra1, ra2, ra3, ra4, ra5, ra6, ra7, ra8, ra16, ra106, lm2, lm3, lm8, lm9, lm10, lm20, lm148, le0, ge0, lt0, gt0, eq0, le1, ge1, lt1, gt1, eq1, le2, ge2, lt2, gt2, eq2, le3, ge3, lt3, gt3, eq3, le4, ge4, lt4, gt4, eq4, le5, ge5, lt5, gt5, eq5, le6, ge6, lt6, gt6, eq6, le7, ge7, lt7, gt7, eq7, le8, ge8, lt8, gt8, eq8, le9, ge9, lt9, gt9, eq9, le10, ge10, lt10, gt10, eq10, le14, ge14, lt14, gt14, eq14, le16, ge16, lt16, gt16, eq16, le17, ge17, lt17, gt17, eq17, le20, ge20, lt20, gt20, eq20, le27, ge27, lt27, gt27, eq27, le37, ge37, lt37, gt37, eq37, le47, ge47, lt47, gt47, eq47, le50, ge50, lt50, gt50, eq50, le57, ge57, lt57, gt57, eq57, le67, ge67, lt67, gt67, eq67, le77, ge77, lt77, gt77, eq77, le80, ge80, lt80, gt80, eq80, le87, ge87, lt87, gt87, eq87, le97, ge97, lt97, gt97, eq97, le99, ge99, lt99, gt99, eq99, le100, ge100, lt100, gt100, eq100, le106, ge106, lt106, gt106, eq106, le111, ge111, lt111, gt111, eq111, le125, ge125, lt125, gt125, eq125, le148, ge148, lt148, gt148, eq148, le200, ge200, lt200, gt200, eq200, le300, ge300, lt300, gt300, eq300, le1332, ge1332, lt1332, gt1332, eq1332, le9999, ge9999, lt9999, gt9999, eq9999, le1000000, ge1000000, lt1000000, gt1000000, eq1000000, ]
      simp only [mlt, h1]
      rfl
    · rw [if_neg h1]
      simp (disch := omega) only [gd_nI, nmI, b1s, b2s, b3s, b4s, b5s, b6s, b7s, le_nI, lt_nI, eq_nI, nI_add, Nat.add_zero, la9, la17, la27, la37, la47, la57, la67, la77, la87, la97, la111, la16, la106, la8, ra0, ra1, ra2, ra3, ra4, ra5, ra6, ra7, ra8, ra16, ra106, lm2, lm3, lm8, lm9, lm10, lm20, lm148, le0, ge0, lt0, gt0, eq0, le1, ge1, lt1, gt1, eq1, le2, ge2, lt2, gt2, eq2, le3, ge3, lt3, gt3, eq3, le4, ge4, lt4, gt4, eq4, le5, ge5, lt5, gt5, eq5, le6, ge6, lt6, gt6, eq6, le7, ge7, lt7, gt7, eq7, le8, ge8, lt8, gt8, eq8, le9, ge9, lt9, gt9, eq9, le10, ge10, lt10, gt10, eq10, le14, ge14, lt14, gt14, eq14, le16, ge16, lt16, gt16, eq16, le17, ge17, lt17, gt17, eq17, le20, ge20, lt20, gt20, eq20, le27, ge27, lt27, gt27, eq27, le37, ge37, lt37, gt37, eq37, le47, ge47, lt47, gt47, eq47, le50, ge50, lt50, gt50, eq50, le57, ge57, lt57, gt57, eq57, le67, ge67, lt67, gt67, eq67, le77, ge77, lt77, gt77, eq77, le80, ge80, lt80, gt80, eq80, le87, ge87, lt87, gt87, eq87, le97, ge97, lt97, gt97, eq97, le99, ge99, lt99, gt99, eq99, le100, ge100, lt100, gt100, eq100, le106, ge106, lt106, gt106, eq106, le111, ge111, lt111, gt111, eq111, le125, ge125, lt125, gt125, eq125, le148, ge148, lt148, gt148, eq148, le200, ge200, lt200, gt200, eq200, le300, ge300, lt300, gt300, eq300, le1332, ge1332, lt1332, gt1332, eq1332, le9999, ge9999, lt9999, gt9999, eq9999, le1000000, ge1000000, lt1000000, gt1000000, eq1000000, ]
      simp only [mlt, if_neg h0, if_neg h1]
theorem r_melt {s : zA} {b k : Nat} (hk : k < 10) (hb : b + 148 ≤ 1480) : f_X3_meltingHeat (nI b) (nI k) s = some (mlt (s (b + 16 + 9 * k + 1)) (s (b + 16 + 9 * k + 2)) (s (b + 16 + 9 * k + 5))) := by
  unfold f_X3_meltingHeat
  simp (disch := omega) only [gd_nI, nmI, b1s, b2s, b3s, b4s, b5s, b6s, b7s, le_nI, lt_nI, eq_nI, nI_add, Nat.add_zero, la9, la17, la27, la37, la47, la57, la67, la77, la87, la97, la111, la16, la106, la8, ra0, ra1, ra2, ra3, ra4, ra5, ra6, ra7, ra8, ra16, ra106, lm2, lm3, lm8, lm9, lm10, lm20, lm148, le0, ge0, lt0, gt0, eq0, le1, ge1, lt1, gt1, eq1, le2, ge2, lt2, gt2, eq2, le3, ge3, lt3, gt3, eq3, le4, ge4, lt4, gt4, eq4, le5, ge5, lt5, gt5, eq5, le6, ge6, lt6, gt6, eq6, le7, ge7, lt7, gt7, eq7, le8, ge8, lt8, gt8, eq8, le9, ge9, lt9, gt9, eq9, le10, ge10, lt10, gt10, eq10, le14, ge14, lt14, gt14, eq14, le16, ge16, lt16, gt16, eq16, le17, ge17, lt17, gt17, eq17, le20, ge20, lt20, gt20, eq20, le27, ge27, lt27, gt27, eq27, le37, ge37, lt37, gt37, eq37, le47, ge47, lt47, gt47, eq47, le50, ge50, lt50, gt50, eq50, le57, ge57, lt57, gt57, eq57, le67, ge67, lt67, gt67, eq67, le77, ge77, lt77, gt77, eq77, le80, ge80, lt80, gt80, eq80, le87, ge87, lt87, gt87, eq87, le97, ge97, lt97, gt97, eq97, le99, ge99, lt99, gt99, eq99, le100, ge100, lt100, gt100, eq100, le106, ge106, lt106, gt106, eq106, le111, ge111, lt111, gt111, eq111, le125, ge125, lt125, gt125, eq125, le148, ge148, lt148, gt148, eq148, le200, ge200, lt200, gt200, eq200, le300, ge300, lt300, gt300, eq300, le1332, ge1332, lt1332, gt1332, eq1332, le9999, ge9999, lt9999, gt9999, eq9999, le1000000, ge1000000, lt1000000, gt1000000, eq1000000,  f_X3_boardAt, B_X3_meltingHeat_56, zmx_1]
  by_cases h0 : s (b + 16 + 9 * k + 2) = 0
  · simp only [h0, if_true]
    rfl
  · rw [if_neg h0]
    by_cases h1 : s (b + 16 + 9 * k + 2) = 1
    · rw [if_pos h1]
      simp only [mlt, h1]
      rfl
    · rw [if_neg h1]
      simp only [mlt, if_neg h0, if_neg h1]
theorem d_state {row : zA} {k : Nat} (hk : k < 10) : f_X0_state (nI k) row = some (if bt (row 7) k then 2 else if row (47 + k) ≤ 0 then 0 else 1) := by
  unfold f_X0_state
  simp only [bt_is0 (row 7) (show k < 32 by omega)]
  by_cases h : bt (row 7) k = false
  · rw [if_pos h]
    simp (disch := omega) only [gd_nI, nmI, b1s, b2s, b3s, b4s, b5s, b6s, b7s, le_nI, lt_nI, eq_nI, nI_add, Nat.add_zero, la9, la17, la27, la37, la47, la57, la67, la77, la87, la97, la111, la16, la106, la8, ra0, ra1, ra2, ra3, ra4, ra5, ra6, ra7, ra8, ra16, ra106, lm2, lm3, lm8, lm9, lm10, lm20, lm148, le0, ge0, lt0, gt0, eq0, le1, ge1, lt1, gt1, eq1, le2, ge2, lt2, gt2, eq2, le3, ge3, lt3, gt3, eq3, le4, ge4, lt4, gt4, eq4, le5, ge5, lt5, gt5, eq5, le6, ge6, lt6, gt6, eq6, le7, ge7, lt7, gt7, eq7, le8, ge8, lt8, gt8, eq8, le9, ge9, lt9, gt9, eq9, le10, ge10, lt10, gt10, eq10, le14, ge14, lt14, gt14, eq14, le16, ge16, lt16, gt16, eq16, le17, ge17, lt17, gt17, eq17, le20, ge20, lt20, gt20, eq20, le27, ge27, lt27, gt27, eq27, le37, ge37, lt37, gt37, eq37, le47, ge47, lt47, gt47, eq47, le50, ge50, lt50, gt50, eq50, le57, ge57, lt57, gt57, eq57, le67, ge67, lt67, gt67, eq67, le77, ge77, lt77, gt77, eq77, le80, ge80, lt80, gt80, eq80, le87, ge87, lt87, gt87, eq87, le97, ge97, lt97, gt97, eq97, le99, ge99, lt99, gt99, eq99, le100, ge100, lt100, gt100, eq100, le106, ge106, lt106, gt106, eq106, le111, ge111, lt111, gt111, eq111, le125, ge125, lt125, gt125, eq125, le148, ge148, lt148, gt148, eq148, le200, ge200, lt200, gt200, eq200, le300, ge300, lt300, gt300, eq300, le1332, ge1332, lt1332, gt1332, eq1332, le9999, ge9999, lt9999, gt9999, eq9999, le1000000, ge1000000, lt1000000, gt1000000, eq1000000, ]
    simp only [h, Bool.false_eq_true, if_false]
    split <;> rfl
  · have h' : bt (row 7) k = true := by simpa using h
    rw [if_neg h]
    simp [h']
/-- the new heat, told twice -/
theorem heat_same {c r h co : Nat} (hc : c ≤ 9999) (hr : r ≤ 100) (hh : h ≤ 1000000) (h1 : 1 ≤ co) (hco : co ≤ 9) :
    ∃ q, q ≤ 1000000 ∧ (if nI c ≤ nI r then zmx 0 (nI h - (nI r * nI r - nI c * nI c) / nI co) else zmn 1000000 (nI h + (nI c * nI c - nI r * nI r))) = nI q ∧
      (∀ x : Int32, x = (if nI c ≤ nI r then nI h + (-((nI r * nI r - nI c * nI c) / nI co)) else nI h + (nI c * nI c - nI r * nI r)) → (if x ≤ 1000000 then (if 0 ≤ x then x else 0) else 1000000) = nI q) := by
  by_cases hcr : c ≤ r
  · have hsq : c * c ≤ r * r := Nat.mul_le_mul hcr hcr
    have hrr : r * r ≤ 10000 := Nat.mul_le_mul hr hr
    have e : (nI c ≤ nI r) := (nI_leI (by omega) (by omega)).mpr hcr
    rw [if_pos e]
    simp only [if_pos e]
    have e2 : (nI r * nI r - nI c * nI c) / nI co = nI ((r * r - c * c) / co) := by
      rw [pk_mul, pk_mul, pk_sub hsq, pk_div (by omega) (by omega) (by omega)]
    rw [e2]
    have hd : (r * r - c * c) / co ≤ 10000 := Nat.le_trans (Nat.div_le_self _ _) (by omega)
    generalize (r * r - c * c) / co = d at hd ⊢
    have e3 : nI h - nI d = nI h + -nI d := Int32.sub_eq_add_neg _ _
    by_cases hdh : d ≤ h
    · refine ⟨h - d, by omega, ?_, fun x hx => ?_⟩
      · rw [pk_sub hdh]
        unfold zmx
        by_cases hz : h - d = 0
        · rw [hz]; rfl
        · rw [if_pos]
          rw [L0, lt_nI (by omega) (by omega)]
          omega
      · rw [hx, ← e3, pk_sub hdh, if_pos, if_pos]
        · rw [ge0 (by omega)]; omega
        · rw [le1000000 (by omega)]; omega
    · have hneg : nI h - nI d < 0 := pk_sneg (by omega) (by omega)
      have hnn : ¬ (0 : Int32) ≤ nI h - nI d := Int32.not_le.mpr hneg
      refine ⟨0, by omega, ?_, fun x hx => ?_⟩
      · unfold zmx
        rw [if_neg (fun q => hnn (Int32.le_of_lt q))]
        rfl
      · rw [hx, ← e3, if_pos, if_neg hnn]
        · rfl
        · exact Int32.le_trans (Int32.le_of_lt hneg) (by decide)
  · have hsq : r * r ≤ c * c := Nat.mul_le_mul (by omega) (by omega)
    have hcc : c * c ≤ 9999 * 9999 := Nat.mul_le_mul hc hc
    have e : ¬ (nI c ≤ nI r) := fun q => hcr ((nI_leI (by omega) (by omega)).mp q)
    rw [if_neg e]
    simp only [if_neg e]
    have e2 : nI h + (nI c * nI c - nI r * nI r) = nI (h + (c * c - r * r)) := by
      rw [pk_mul, pk_mul, pk_sub hsq, nI_add]
    rw [e2]
    generalize hd : h + (c * c - r * r) = d
    have hdb : d ≤ 200000000 := by omega
    by_cases h6 : d ≤ 1000000
    · refine ⟨d, h6, ?_, fun x hx => ?_⟩
      · unfold zmn
        by_cases h7 : d = 1000000
        · subst h7; rfl
        · rw [if_pos]
          rw [lt1000000 (by omega)]
          omega
      · rw [hx, if_pos, if_pos]
        · rw [ge0 (by omega)]; omega
        · rw [le1000000 (by omega)]; exact h6
    · refine ⟨1000000, by omega, ?_, fun x hx => ?_⟩
      · unfold zmn
        rw [if_neg]
        · rfl
        · rw [lt1000000 (by omega)]; omega
      · rw [hx, if_neg]
        · rfl
        · rw [le1000000 (by omega)]; exact h6
