/-! A tick: the arcs burn -/
def bn1 (k : Nat) (row : zA) : zA := if row (47 + k) = 0 then row else if row (47 + k) - 1 = 0 then upd (upd row (47 + k) (row (47 + k) - 1)) 7 (row 7 ||| ((1 : Int32) <<< (nI k &&& 31))) else upd row (47 + k) (row (47 + k) - 1)
def bnT : Nat → zA → zA
  | 0, row => row
  | k + 1, row => bn1 k (bnT k row)
theorem bn1_fr {k j : Nat} {row : zA} (h1 : j ≠ 47 + k) (h2 : j ≠ 7) : bn1 k row j = row j := by
  unfold bn1
  split
  · rfl
  · split
    · rw [upd_ne h2, upd_ne h1]
    · rw [upd_ne h1]
theorem bn1_a {k : Nat} {row : zA} : bn1 k row (47 + k) = if row (47 + k) = 0 then 0 else row (47 + k) - 1 := by
  unfold bn1
  by_cases h : row (47 + k) = 0
  · rw [if_pos h, if_pos h, h]
  · rw [if_neg h, if_neg h]
    split
    · rw [upd_ne (by omega), upd_eq]
    · rw [upd_eq]
theorem s1_0 (x : Int32) : (x - 1 = 0) = (x = 1) := by
  refine propext ⟨fun h => ?_, fun h => by rw [h]; rfl⟩
  have := congrArg (fun z => z + 1) h
  simpa using this
theorem bn1_o {k j : Nat} {row : zA} (hk : k < 10) (hj : j < 32) : bt (bn1 k row 7) j = (bt (row 7) j || (decide (j = k) && decide (row (47 + k) = 1))) := by
  unfold bn1
  by_cases h : row (47 + k) = 0
  · rw [if_pos h, h]
    simp
  · rw [if_neg h]
    simp only [s1_0]
    by_cases h1 : row (47 + k) = 1
    · rw [if_pos h1, upd_eq, bt_set _ (by omega) hj]
      simp [h1]
    · rw [if_neg h1, upd_ne (by omega)]
      simp [h1]
theorem bnT_fr {row : zA} : ∀ (k : Nat), k ≤ 10 → ∀ j, (j < 47 ∨ 57 ≤ j) → j ≠ 7 → bnT k row j = row j
  | 0, _, _, _, _ => rfl
  | k + 1, hk, j, h1, h2 => by
    show bn1 k (bnT k row) j = row j
    rw [bn1_fr (by omega) h2, bnT_fr k (by omega) j h1 h2]
theorem bnT_a {row : zA} : ∀ (k : Nat), k ≤ 10 → ∀ i, i < 10 → bnT k row (47 + i) = if i < k then (if row (47 + i) = 0 then 0 else row (47 + i) - 1) else row (47 + i)
  | 0, _, i, _ => by rw [if_neg (by omega)]; rfl
  | k + 1, hk, i, hi => by
    show bn1 k (bnT k row) (47 + i) = _
    by_cases hik : i = k
    · subst hik
      rw [bn1_a, bnT_a i (by omega) i hi, if_neg (show ¬ i < i by omega), if_pos (show i < i + 1 by omega)]
    · rw [bn1_fr (by omega) (by omega), bnT_a k (by omega) i hi]
      by_cases h : i < k
      · rw [if_pos h, if_pos (show i < k + 1 by omega)]
      · rw [if_neg h, if_neg (show ¬ i < k + 1 by omega)]
theorem bnT_o {row : zA} : ∀ (k : Nat), k ≤ 10 → ∀ j, j < 32 → bt (bnT k row 7) j = (bt (row 7) j || (decide (j < k) && decide (row (47 + j) = 1)))
  | 0, _, j, _ => by simp [bnT]
  | k + 1, hk, j, hj => by
    show bt (bn1 k (bnT k row) 7) j = _
    rw [bn1_o (by omega) hj, bnT_o k (by omega) j hj, bnT_a k (by omega) k (by omega), if_neg (show ¬ k < k by omega)]
    by_cases hjk : j = k
    · subst hjk
      simp
    · by_cases h : j < k
      · have : j < k + 1 := by omega
        simp [hjk, h, this]
      · have : ¬ j < k + 1 := by omega
        simp [hjk, h, this]
theorem burn_loop {row : zA} {n : Nat} (hn : n ≤ 10) (h4 : row 4 = nI n) : ∀ (j k fuel : Nat), n = k + j → j < fuel → B_X0_burnArcs_2 fuel (nI k) (bnT k row) = some (bnT n row) := by
  intro j
  induction j with
  | zero =>
    intro k fuel hk hf
    obtain ⟨f, rfl⟩ : ∃ f, fuel = f + 1 := ⟨fuel - 1, by omega⟩
    rw [B_X0_burnArcs_2, bnT_fr k (by omega) 4 (by omega) (by omega), h4]
    simp (disch := omega) only [gd_nI, nmI, b1s, b2s, b3s, b4s, b5s, b6s, b7s, le_nI, lt_nI, eq_nI, nI_add, Nat.add_zero, la9, la17, la27, la37, la47, la57, la67, la77, la87, la97, la111, la16, la106, la8, ra0, ra1, ra2, ra3, ra4, ra5, ra6, ra7, ra8, ra16, ra106, lm2, lm3, lm8, lm9, lm10, lm20, lm148, le0, ge0, lt0, gt0, eq0, le1, ge1, lt1, gt1, eq1, le2, ge2, lt2, gt2, eq2, le3, ge3, lt3, gt3, eq3, le4, ge4, lt4, gt4, eq4, le5, ge5, lt5, gt5, eq5, le6, ge6, lt6, gt6, eq6, le7, ge7, lt7, gt7, eq7, le8, ge8, lt8, gt8, eq8, le9, ge9, lt9, gt9, eq9, le10, ge10, lt10, gt10, eq10, le14, ge14, lt14, gt14, eq14, le16, ge16, lt16, gt16, eq16, le17, ge17, lt17, gt17, eq17, le20, ge20, lt20, gt20, eq20, le27, ge27, lt27, gt27, eq27, le37, ge37, lt37, gt37, eq37, le47, ge47, lt47, gt47, eq47, le50, ge50, lt50, gt50, eq50, le57, ge57, lt57, gt57, eq57, le67, ge67, lt67, gt67, eq67, le77, ge77, lt77, gt77, eq77, le80, ge80, lt80, gt80, eq80, le87, ge87, lt87, gt87, eq87, le97, ge97, lt97, gt97, eq97, le99, ge99, lt99, gt99, eq99, le100, ge100, lt100, gt100, eq100, le106, ge106, lt106, gt106, eq106, le111, ge111, lt111, gt111, eq111, le125, ge125, lt125, gt125, eq125, le148, ge148, lt148, gt148, eq148, le200, ge200, lt200, gt200, eq200, le300, ge300, lt300, gt300, eq300, le1332, ge1332, lt1332, gt1332, eq1332, le9999, ge9999, lt9999, gt9999, eq9999, le1000000, ge1000000, lt1000000, gt1000000, eq1000000, ]
    rw [if_pos (by omega), show n = k by omega]
  | succ j ih =>
    intro k fuel hk hf
    obtain ⟨f, rfl⟩ : ∃ f, fuel = f + 1 := ⟨fuel - 1, by omega⟩
    rw [B_X0_burnArcs_2, bnT_fr k (by omega) 4 (by omega) (by omega), h4]
    have ih2 := ih (k + 1) f (by omega) (by omega)
    rw [show bnT (k + 1) row = bn1 k (bnT k row) from rfl] at ih2
    simp (disch := omega) only [gd_nI, nmI, b1s, b2s, b3s, b4s, b5s, b6s, b7s, le_nI, lt_nI, eq_nI, nI_add, Nat.add_zero, la9, la17, la27, la37, la47, la57, la67, la77, la87, la97, la111, la16, la106, la8, ra0, ra1, ra2, ra3, ra4, ra5, ra6, ra7, ra8, ra16, ra106, lm2, lm3, lm8, lm9, lm10, lm20, lm148, le0, ge0, lt0, gt0, eq0, le1, ge1, lt1, gt1, eq1, le2, ge2, lt2, gt2, eq2, le3, ge3, lt3, gt3, eq3, le4, ge4, lt4, gt4, eq4, le5, ge5, lt5, gt5, eq5, le6, ge6, lt6, gt6, eq6, le7, ge7, lt7, gt7, eq7, le8, ge8, lt8, gt8, eq8, le9, ge9, lt9, gt9, eq9, le10, ge10, lt10, gt10, eq10, le14, ge14, lt14, gt14, eq14, le16, ge16, lt16, gt16, eq16, le17, ge17, lt17, gt17, eq17, le20, ge20, lt20, gt20, eq20, le27, ge27, lt27, gt27, eq27, le37, ge37, lt37, gt37, eq37, le47, ge47, lt47, gt47, eq47, le50, ge50, lt50, gt50, eq50, le57, ge57, lt57, gt57, eq57, le67, ge67, lt67, gt67, eq67, le77, ge77, lt77, gt77, eq77, le80, ge80, lt80, gt80, eq80, le87, ge87, lt87, gt87, eq87, le97, ge97, lt97, gt97, eq97, le99, ge99, lt99, gt99, eq99, le100, ge100, lt100, gt100, eq100, le106, ge106, lt106, gt106, eq106, le111, ge111, lt111, gt111, eq111, le125, ge125, lt125, gt125, eq125, le148, ge148, lt148, gt148, eq148, le200, ge200, lt200, gt200, eq200, le300, ge300, lt300, gt300, eq300, le1332, ge1332, lt1332, gt1332, eq1332, le9999, ge9999, lt9999, gt9999, eq9999, le1000000, ge1000000, lt1000000, gt1000000, eq1000000, ]
    rw [if_neg (by omega)]
    unfold bn1 at ih2
    by_cases h : bnT k row (47 + k) = 0
    · rw [if_pos h] at ih2 ⊢
      exact ih2
    · rw [if_neg h] at ih2 ⊢
      rw [upd_eq]
      by_cases h1 : bnT k row (47 + k) - 1 = 0
      · rw [if_pos h1] at ih2 ⊢
        rw [upd_ne (show 7 ≠ 47 + k by omega)]
        exact ih2
      · rw [if_neg h1] at ih2 ⊢
        exact ih2
theorem d_burn {row : zA} {n : Nat} (hn : n ≤ 10) (h4 : row 4 = nI n) : f_X0_burnArcs row = some (bnT n row) := burn_loop hn h4 n 0 FU (by omega) (FU_lt (by omega))
theorem bn1_inv {row : zA} {n m T X k : Nat} {par pl cu : Nat → Nat} (h : INV row n m T X par pl cu) (hk : k < n) : INV (bn1 k row) n m T X par pl cu := by
  have hn := h.n10
  obtain ⟨a, ha, ea, hop⟩ := h.af k hk
  obtain ⟨e, e1, e2, e3, e4, e5⟩ := h.bl
  have ea0 : (row (47 + k) = 0) = (a = 0) := by rw [ea, eq0 (by omega)]
  have ea1 : (row (47 + k) = 1) = (a = 1) := by rw [ea, eq1 (by omega)]
  have o : ∀ j, j < 32 → bt (bn1 k row 7) j = (bt (row 7) j || (decide (j = k) && decide (a = 1))) := fun j hj => by
    rw [bn1_o (by omega) hj]
    simp only [ea1]
  have hop0 : ∀ j, j ≠ k → bt (bn1 k row 7) j = bt (row 7) j := fun j hj => by
    by_cases h32 : j < 32
    · rw [o j h32]
      simp [hj]
    · rw [bt_big _ (by omega), bt_big _ (by omega)]
  have fr : ∀ j, j ≠ 47 + k → j ≠ 7 → bn1 k row j = row j := fun j h1 h2 => bn1_fr h1 h2
  refine INV.mk (h.P.mv (fr 4 (by omega) (by omega)) (fun i hi => fr _ (by omega) (by omega)) (fun j hj => ?_)) (h.Q.mv (fr 5 (by omega) (by omega)) (fun j h1 h2 => fr j (by omega) (by omega))) (fun i hi => by rw [fr 6 (by omega) (by omega)]; exact h.on i hi) h.cs (by rw [fr 3 (by omega) (by omega)]; exact h.tm) (by rw [fr 0 (by omega) (by omega)]; exact h.arc) (by rw [fr 1 (by omega) (by omega)]; exact h.coo) (fun i hi => by rw [fr _ (by omega) (by omega)]; exact h.rt i hi) (fun i hi => ?_) (fun i hi => by rw [fr _ (by omega) (by omega)]; exact h.ht i hi) (fun i hi => by rw [fr _ (by omega) (by omega), fr _ (by omega) (by omega)]; exact h.sp i hi) ⟨e, e1, by rw [fr 8 (by omega) (by omega)]; exact e2, fun i hi => by rw [fr _ (by omega) (by omega)]; exact e3 i hi, fun i hi hc => ?_, fun r hr hr2 => by rw [fr _ (by omega) (by omega)]; exact e5 r hr hr2⟩ (fun i h1 h2 => by rw [fr _ (by omega) (by omega)]; exact h.ze i h1 h2) (fun j hj => by rw [fr j (by omega) (by omega)]; exact h.far j hj) (by rw [fr 2 (by omega) (by omega)]; exact h.ag)
  · rw [hop0 j (by omega)]
    exact h.P.2.2.2.2 j hj
  · by_cases hik : i = k
    · subst hik
      rw [bn1_a, ea]
      by_cases h0 : a = 0
      · subst h0
        exact ⟨0, by omega, rfl, fun q => absurd q (by omega)⟩
      · refine ⟨a - 1, by omega, ?_, fun q => ?_⟩
        · rw [if_neg (by rw [eq0 (by omega)]; exact h0), nI_s1 (by omega)]
        · rw [o i (by omega), hop (by omega)]
          have : ¬ a = 1 := by omega
          simp [this]
    · rw [fr _ (by omega) (by omega), hop0 i hik]
      exact h.af i hi
  · by_cases hik : i = k
    · subst hik
      refine e4 i hi ?_
      by_cases h0 : a = 0
      · rw [bn1_a, if_pos (show row (47 + i) = 0 by rw [ea0]; exact h0)] at hc
        rw [o i (by omega)] at hc
        have : ¬ a = 1 := by omega
        simp [this] at hc
        exact Or.inl hc
      · exact Or.inr (by rw [ne_eq, ea0]; exact h0)
    · rw [hop0 i hik, fr _ (by omega) (by omega)] at hc
      exact e4 i hi hc
theorem bnT_inv {row : zA} {n m T X : Nat} {par pl cu : Nat → Nat} (h : INV row n m T X par pl cu) : ∀ k, k ≤ n → INV (bnT k row) n m T X par pl cu
  | 0, _ => h
  | k + 1, hk => bn1_inv (bnT_inv h k (by omega)) (by omega)
