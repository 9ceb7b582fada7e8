/-! A tick, in step: the nearest of the molten ones blow -/
def allb (f : Nat → Bool) : Nat → Bool
  | 0 => true
  | n + 1 => allb f n && f n
theorem allb_iff {f : Nat → Bool} : ∀ {n : Nat}, allb f n = true ↔ ∀ k, k < n → f k = true
  | 0 => ⟨fun _ k hk => by omega, fun _ => rfl⟩
  | n + 1 => by
    unfold allb
    rw [Bool.and_eq_true, allb_iff (n := n)]
    constructor
    · intro h k hk
      by_cases hkn : k = n
      · subst hkn; exact h.2
      · exact h.1 k (by omega)
    · intro h
      exact ⟨fun k hk => h k (by omega), h n (by omega)⟩
def ner (par : Nat → Nat) (hot : Nat → Bool) (n i : Nat) : Bool := allb (fun o => decide (o = i) || (!hot o || !fed par o i)) n
def near (par : Nat → Nat) (hot : Nat → Bool) (n i : Nat) : Bool := hot i && ner par hot n i
theorem mask_s (f : Nat → Bool) (n : Nat) : mask f (n + 1) = if f n then mask f n ||| ((1 : Int32) <<< (nI n &&& 31)) else mask f n := rfl
theorem molten_loop {row : zA} {n : Nat} (hn : n ≤ 10) (h4 : row 4 = nI n) : ∀ (j k fuel : Nat), n = k + j → j < fuel → B_X0_molten_4 fuel (mask (hotb row) k) (nI k) row = some (mask (hotb row) n) := by
  intro j
  induction j with
  | zero =>
    intro k fuel hk hf
    obtain ⟨f, rfl⟩ : ∃ f, fuel = f + 1 := ⟨fuel - 1, by omega⟩
    rw [B_X0_molten_4, h4]
    simp (disch := omega) only [gd_nI, nmI, b1s, b2s, b3s, b4s, b5s, b6s, b7s, le_nI, lt_nI, eq_nI, nI_add, Nat.add_zero, la9, la17, la27, la37, la47, la57, la67, la77, la87, la97, la111, la16, la106, la8, ra0, ra1, ra2, ra3, ra4, ra5, ra6, ra7, ra8, ra16, ra106, lm2, lm3, lm8, lm9, lm10, lm20, lm148, le0, ge0, lt0, gt0, eq0, le1, ge1, lt1, gt1, eq1, le2, ge2, lt2, gt2, eq2, le3, ge3, lt3, gt3, eq3, le4, ge4, lt4, gt4, eq4, le5, ge5, lt5, gt5, eq5, le6, ge6, lt6, gt6, eq6, le7, ge7, lt7, gt7, eq7, le8, ge8, lt8, gt8, eq8, le9, ge9, lt9, gt9, eq9, le10, ge10, lt10, gt10, eq10, le14, ge14, lt14, gt14, eq14, le16, ge16, lt16, gt16, eq16, le17, ge17, lt17, gt17, eq17, le20, ge20, lt20, gt20, eq20, le27, ge27, lt27, gt27, eq27, le37, ge37, lt37, gt37, eq37, le47, ge47, lt47, gt47, eq47, le50, ge50, lt50, gt50, eq50, le57, ge57, lt57, gt57, eq57, le67, ge67, lt67, gt67, eq67, le77, ge77, lt77, gt77, eq77, le80, ge80, lt80, gt80, eq80, le87, ge87, lt87, gt87, eq87, le97, ge97, lt97, gt97, eq97, le99, ge99, lt99, gt99, eq99, le100, ge100, lt100, gt100, eq100, le106, ge106, lt106, gt106, eq106, le111, ge111, lt111, gt111, eq111, le125, ge125, lt125, gt125, eq125, le148, ge148, lt148, gt148, eq148, le200, ge200, lt200, gt200, eq200, le300, ge300, lt300, gt300, eq300, le1332, ge1332, lt1332, gt1332, eq1332, le9999, ge9999, lt9999, gt9999, eq9999, le1000000, ge1000000, lt1000000, gt1000000, eq1000000, ]
    rw [if_pos (by omega), show n = k by omega]
  | succ j ih =>
    intro k fuel hk hf
    obtain ⟨f, rfl⟩ : ∃ f, fuel = f + 1 := ⟨fuel - 1, by omega⟩
    have hs := ih (k + 1) f (by omega) (by omega)
    rw [mask_s] at hs
    rw [B_X0_molten_4, h4, d_state (by omega), d_melt (by omega)]
    simp (disch := omega) only [gd_nI, nmI, b1s, b2s, b3s, b4s, b5s, b6s, b7s, le_nI, lt_nI, eq_nI, nI_add, Nat.add_zero, la9, la17, la27, la37, la47, la57, la67, la77, la87, la97, la111, la16, la106, la8, ra0, ra1, ra2, ra3, ra4, ra5, ra6, ra7, ra8, ra16, ra106, lm2, lm3, lm8, lm9, lm10, lm20, lm148, le0, ge0, lt0, gt0, eq0, le1, ge1, lt1, gt1, eq1, le2, ge2, lt2, gt2, eq2, le3, ge3, lt3, gt3, eq3, le4, ge4, lt4, gt4, eq4, le5, ge5, lt5, gt5, eq5, le6, ge6, lt6, gt6, eq6, le7, ge7, lt7, gt7, eq7, le8, ge8, lt8, gt8, eq8, le9, ge9, lt9, gt9, eq9, le10, ge10, lt10, gt10, eq10, le14, ge14, lt14, gt14, eq14, le16, ge16, lt16, gt16, eq16, le17, ge17, lt17, gt17, eq17, le20, ge20, lt20, gt20, eq20, le27, ge27, lt27, gt27, eq27, le37, ge37, lt37, gt37, eq37, le47, ge47, lt47, gt47, eq47, le50, ge50, lt50, gt50, eq50, le57, ge57, lt57, gt57, eq57, le67, ge67, lt67, gt67, eq67, le77, ge77, lt77, gt77, eq77, le80, ge80, lt80, gt80, eq80, le87, ge87, lt87, gt87, eq87, le97, ge97, lt97, gt97, eq97, le99, ge99, lt99, gt99, eq99, le100, ge100, lt100, gt100, eq100, le106, ge106, lt106, gt106, eq106, le111, ge111, lt111, gt111, eq111, le125, ge125, lt125, gt125, eq125, le148, ge148, lt148, gt148, eq148, le200, ge200, lt200, gt200, eq200, le300, ge300, lt300, gt300, eq300, le1332, ge1332, lt1332, gt1332, eq1332, le9999, ge9999, lt9999, gt9999, eq9999, le1000000, ge1000000, lt1000000, gt1000000, eq1000000, ]
    rw [if_neg (by omega)]
    by_cases hb : bt (row 7) k = true
    · have : hotb row k = false := by simp [hotb, hb]
      rw [this] at hs
      simp only [Bool.false_eq_true, if_false] at hs
      simp only [hb, if_true]
      rw [if_neg (by decide)]
      exact hs
    · have hb' : bt (row 7) k = false := by simpa using hb
      simp only [hb', Bool.false_eq_true, if_false]
      by_cases hl : row (47 + k) ≤ 0
      · simp only [hl, if_true]
        by_cases hm : row (57 + k) < mlt (row (27 + k)) (row (37 + k)) (row (67 + k))
        · have : hotb row k = false := by simp [hotb, hb', hl, hm]
          rw [this] at hs
          simp only [Bool.false_eq_true, if_false] at hs
          rw [if_pos hm]
          exact hs
        · have : hotb row k = true := by simp [hotb, hb', hl, hm]
          rw [this] at hs
          simp only [if_true] at hs
          rw [if_neg hm]
          exact hs
      · have : hotb row k = false := by simp [hotb, hl]
        rw [this] at hs
        simp only [Bool.false_eq_true, if_false] at hs
        simp only [hl, if_false]
        rw [if_neg (by decide)]
        exact hs
theorem d_molten {row : zA} {n : Nat} (hn : n ≤ 10) (h4 : row 4 = nI n) : f_X0_molten row = some (mask (hotb row) n) := molten_loop hn h4 n 0 FU (by omega) (FU_lt (by omega))
theorem near_mask {par : Nat → Nat} {hot : Nat → Bool} {n k : Nat} (hn : n ≤ 10) (hk : k < n) (hh : hot k = true) : ((mask (fun i => fed par i k) n &&& mask hot n) = ((1 : Int32) <<< (nI k &&& 31))) = (ner par hot n k = true) := by
  refine propext ⟨fun h => allb_iff.mpr fun o ho => ?_, fun h => bt_ext fun j hj => ?_⟩
  · by_cases hok : o = k
    · simp [hok]
    · have h1 := congrArg (fun m => bt m o) h
      simp only [bt_and] at h1
      rw [bt_mask _ (by omega) (by omega), bt_mask _ (by omega) (by omega), bt_shl1 (by omega) (by omega)] at h1
      cases h2 : hot o <;> cases h3 : fed par o k <;> simp [ho, h2, h3, hok] at h1 ⊢
  · rw [bt_and, bt_mask _ (by omega) hj, bt_mask _ (by omega) hj, bt_shl1 (by omega) hj]
    by_cases hjk : j = k
    · subst hjk
      simp [hk, hh, fed_self]
    · by_cases hjn : j < n
      · have := allb_iff.mp h j hjn
        cases h2 : hot j <;> cases h3 : fed par j k <;> simp [hjk, h2, h3] at this ⊢
      · simp [hjk, hjn]
theorem near_cold {par : Nat → Nat} {hot : Nat → Bool} {n k : Nat} (hn : n ≤ 10) (hk : k < n) (hh : hot k = false) : ¬ ((mask (fun i => fed par i k) n &&& mask hot n) = ((1 : Int32) <<< (nI k &&& 31))) := by
  intro h
  have h1 := congrArg (fun m => bt m k) h
  simp only [bt_and] at h1
  rw [bt_mask _ (by omega) (by omega), bt_mask _ (by omega) (by omega), bt_shl1 (by omega) (by omega)] at h1
  simp [hk, hh] at h1
theorem near_loop {row : zA} {n : Nat} {par : Nat → Nat} (P : PR row n par) (hot : Nat → Bool) : ∀ (j k fuel : Nat), n = k + j → j < fuel → B_X0_nearestOf_4 fuel (mask hot n) (mask (near par hot n) k) (nI k) row = some (mask (near par hot n) n) := by
  have hn := P.1
  intro j
  induction j with
  | zero =>
    intro k fuel hk hf
    obtain ⟨f, rfl⟩ : ∃ f, fuel = f + 1 := ⟨fuel - 1, by omega⟩
    rw [B_X0_nearestOf_4, P.2.1]
    simp (disch := omega) only [gd_nI, nmI, b1s, b2s, b3s, b4s, b5s, b6s, b7s, le_nI, lt_nI, eq_nI, nI_add, Nat.add_zero, la9, la17, la27, la37, la47, la57, la67, la77, la87, la97, la111, la16, la106, la8, ra0, ra1, ra2, ra3, ra4, ra5, ra6, ra7, ra8, ra16, ra106, lm2, lm3, lm8, lm9, lm10, lm20, lm148, le0, ge0, lt0, gt0, eq0, le1, ge1, lt1, gt1, eq1, le2, ge2, lt2, gt2, eq2, le3, ge3, lt3, gt3, eq3, le4, ge4, lt4, gt4, eq4, le5, ge5, lt5, gt5, eq5, le6, ge6, lt6, gt6, eq6, le7, ge7, lt7, gt7, eq7, le8, ge8, lt8, gt8, eq8, le9, ge9, lt9, gt9, eq9, le10, ge10, lt10, gt10, eq10, le14, ge14, lt14, gt14, eq14, le16, ge16, lt16, gt16, eq16, le17, ge17, lt17, gt17, eq17, le20, ge20, lt20, gt20, eq20, le27, ge27, lt27, gt27, eq27, le37, ge37, lt37, gt37, eq37, le47, ge47, lt47, gt47, eq47, le50, ge50, lt50, gt50, eq50, le57, ge57, lt57, gt57, eq57, le67, ge67, lt67, gt67, eq67, le77, ge77, lt77, gt77, eq77, le80, ge80, lt80, gt80, eq80, le87, ge87, lt87, gt87, eq87, le97, ge97, lt97, gt97, eq97, le99, ge99, lt99, gt99, eq99, le100, ge100, lt100, gt100, eq100, le106, ge106, lt106, gt106, eq106, le111, ge111, lt111, gt111, eq111, le125, ge125, lt125, gt125, eq125, le148, ge148, lt148, gt148, eq148, le200, ge200, lt200, gt200, eq200, le300, ge300, lt300, gt300, eq300, le1332, ge1332, lt1332, gt1332, eq1332, le9999, ge9999, lt9999, gt9999, eq9999, le1000000, ge1000000, lt1000000, gt1000000, eq1000000, ]
    rw [if_pos (by omega), show n = k by omega]
  | succ j ih =>
    intro k fuel hk hf
    obtain ⟨f, rfl⟩ : ∃ f, fuel = f + 1 := ⟨fuel - 1, by omega⟩
    have hs := ih (k + 1) f (by omega) (by omega)
    rw [mask_s] at hs
    rw [B_X0_nearestOf_4, P.2.1]
    simp (disch := omega) only [gd_nI, nmI, b1s, b2s, b3s, b4s, b5s, b6s, b7s, le_nI, lt_nI, eq_nI, nI_add, Nat.add_zero, la9, la17, la27, la37, la47, la57, la67, la77, la87, la97, la111, la16, la106, la8, ra0, ra1, ra2, ra3, ra4, ra5, ra6, ra7, ra8, ra16, ra106, lm2, lm3, lm8, lm9, lm10, lm20, lm148, le0, ge0, lt0, gt0, eq0, le1, ge1, lt1, gt1, eq1, le2, ge2, lt2, gt2, eq2, le3, ge3, lt3, gt3, eq3, le4, ge4, lt4, gt4, eq4, le5, ge5, lt5, gt5, eq5, le6, ge6, lt6, gt6, eq6, le7, ge7, lt7, gt7, eq7, le8, ge8, lt8, gt8, eq8, le9, ge9, lt9, gt9, eq9, le10, ge10, lt10, gt10, eq10, le14, ge14, lt14, gt14, eq14, le16, ge16, lt16, gt16, eq16, le17, ge17, lt17, gt17, eq17, le20, ge20, lt20, gt20, eq20, le27, ge27, lt27, gt27, eq27, le37, ge37, lt37, gt37, eq37, le47, ge47, lt47, gt47, eq47, le50, ge50, lt50, gt50, eq50, le57, ge57, lt57, gt57, eq57, le67, ge67, lt67, gt67, eq67, le77, ge77, lt77, gt77, eq77, le80, ge80, lt80, gt80, eq80, le87, ge87, lt87, gt87, eq87, le97, ge97, lt97, gt97, eq97, le99, ge99, lt99, gt99, eq99, le100, ge100, lt100, gt100, eq100, le106, ge106, lt106, gt106, eq106, le111, ge111, lt111, gt111, eq111, le125, ge125, lt125, gt125, eq125, le148, ge148, lt148, gt148, eq148, le200, ge200, lt200, gt200, eq200, le300, ge300, lt300, gt300, eq300, le1332, ge1332, lt1332, gt1332, eq1332, le9999, ge9999, lt9999, gt9999, eq9999, le1000000, ge1000000, lt1000000, gt1000000, eq1000000, ]
    rw [if_neg (by omega)]
    rw [d_fed P (by omega)]
    simp only [b1s, nmI, ra1]
    by_cases hh : hot k = true
    · simp only [near_mask hn (show k < n by omega) hh]
      by_cases hne : ner par hot n k = true
      · have : near par hot n k = true := by simp [near, hh, hne]
        rw [this] at hs
        simp only [if_true] at hs
        rw [if_pos hne]
        exact hs
      · have : near par hot n k = false := by simp [near, hne]
        rw [this] at hs
        simp only [Bool.false_eq_true, if_false] at hs
        rw [if_neg hne]
        exact hs
    · have hh' : hot k = false := by simpa using hh
      have : near par hot n k = false := by simp [near, hh']
      rw [this] at hs
      simp only [Bool.false_eq_true, if_false] at hs
      rw [if_neg (near_cold hn (show k < n by omega) hh')]
      exact hs
theorem d_nearest {row : zA} {n : Nat} {par : Nat → Nat} (P : PR row n par) (hot : Nat → Bool) : f_X0_nearestOf (mask hot n) row = some (mask (near par hot n) n) := near_loop P hot n 0 FU (by omega) (FU_lt (by have := P.1; omega))
/-- one fuse blows -/
theorem d_blow {row : zA} {k : Nat} (hk : k < 10) : ∃ row', f_X0_blow (nI k) row = some row' ∧ (∀ j, j ≠ 47 + k → j ≠ 7 → j ≠ 8 → j ≠ 87 + k → (j < 9 ∨ 16 < j) → row' j = row j) ∧ row' (47 + k) = row 0 ∧ row' 7 = (if row 0 = 0 then row 7 ||| ((1 : Int32) <<< (nI k &&& 31)) else row 7) ∧ row' 8 = row 8 + 1 ∧ row' (87 + k) = row (87 + k) + 1 ∧ row' 9 = nI k ∧ ∀ r, 1 ≤ r → r < 8 → row' (9 + r) = row (9 + r - 1) := by
  have key : ∀ row1 : zA, ∃ row', B_X0_blow_37 (nI k) row1 = some row' ∧ (∀ j, j ≠ 8 → j ≠ 87 + k → (j < 9 ∨ 16 < j) → row' j = row1 j) ∧ row' 8 = row1 8 + 1 ∧ row' (87 + k) = row1 (87 + k) + 1 ∧ row' 9 = nI k ∧ ∀ r, 1 ≤ r → r < 8 → row' (9 + r) = row1 (9 + r - 1) := by
    intro row1
    have e87 : upd row1 8 (row1 8 + 1) (87 + k) = row1 (87 + k) := upd_ne (by omega)
    refine ⟨_, by unfold B_X0_blow_37; simp (disch := omega) only [nmI, la87, gd_nI]; rfl, fun j h1 h2 h3 => ?_, ?_, ?_, ?_, fun r h1 h2 => ?_⟩
    · rw [upd_ne (by omega), pk_cpy_out (by omega), upd_ne h2, upd_ne h1]
    · rw [upd_ne (by omega), pk_cpy_out (by omega), upd_ne (by omega), upd_eq]
    · rw [upd_ne (by omega), pk_cpy_out (by omega), upd_eq, e87]
    · rw [upd_eq]
    · rw [upd_ne (by omega), pk_cpy_in (by omega) (by omega), upd_ne (by omega), upd_ne (by omega)]
      congr 1
      omega
  by_cases h0 : row 0 = 0
  · obtain ⟨row', h1, h2, h3, h4, h5, h6⟩ := key (upd (upd row (47 + k) 0) 7 (row 7 ||| ((1 : Int32) <<< (nI k &&& 31))))
    refine ⟨row', ?_, fun j g1 g2 g3 g4 g5 => ?_, ?_, ?_, ?_, ?_, h5, fun r g1 g2 => ?_⟩
    · unfold f_X0_blow
      simp (disch := omega) only [nmI, la47, gd_nI]
      rw [upd_ne (by omega), h0, if_pos rfl, upd_ne (by omega)]
      exact h1
    · rw [h2 j g3 g4 g5, upd_ne g2, upd_ne g1]
    · rw [h2 _ (by omega) (by omega) (by omega), upd_ne (by omega), upd_eq, h0]
    · rw [h2 _ (by omega) (by omega) (by omega), upd_eq, if_pos h0]
    · rw [h3, upd_ne (by omega), upd_ne (by omega)]
    · rw [h4, upd_ne (by omega), upd_ne (by omega)]
    · rw [h6 r g1 g2, upd_ne (by omega), upd_ne (by omega)]
  · obtain ⟨row', h1, h2, h3, h4, h5, h6⟩ := key (upd row (47 + k) (row 0))
    refine ⟨row', ?_, fun j g1 g2 g3 g4 g5 => ?_, ?_, ?_, ?_, ?_, h5, fun r g1 g2 => ?_⟩
    · unfold f_X0_blow
      simp (disch := omega) only [nmI, la47, gd_nI]
      rw [upd_ne (by omega), if_neg h0]
      exact h1
    · rw [h2 j g3 g4 g5, upd_ne g1]
    · rw [h2 _ (by omega) (by omega) (by omega), upd_eq]
    · rw [h2 _ (by omega) (by omega) (by omega), upd_ne (by omega), if_neg h0]
    · rw [h3, upd_ne (by omega)]
    · rw [h4, upd_ne (by omega)]
    · rw [h6 r g1 g2, upd_ne (by omega)]
