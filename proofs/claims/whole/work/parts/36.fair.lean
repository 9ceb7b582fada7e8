/-! What if: one fault, and every board -/
theorem HR.n4 {nr s : zA} (h : HR nr s 0) : ∃ n, n ≤ 10 ∧ nr 4 = nI n ∧ s 4 = nI n ∧ ∀ k, k < n → ∃ r, 1 ≤ r ∧ r ≤ 100 ∧ nr (27 + k) = nI r ∧ s (0 + 16 + 9 * k + 1) = nI r := by
  obtain ⟨n, m, T, par, hT, hg, hB, hl⟩ := h
  have := hB.s4
  rw [Nat.zero_add] at this
  exact ⟨n, hB.n10, hB.r4, this, hB.rt⟩
theorem sim_test {nr co pf : zA} {hi sl : Nat → zA} {sv ff s sv2 tx mf : zA} (h : REL nr co pf hi sl sv ff s sv2 tx mf) (a b c : Int32) (tr tf cu ho : zA) :
    ∃ (v : Int32) (tr' tf' s' cu' ho' mf' : zA), f_X2_test a b c nr tr tf = some (v, tr', tf') ∧ f_X3_test a b c s cu ho mf = some (v, s', cu', ho', mf') ∧ REL nr co pf hi sl sv ff s' sv2 tx mf' := by
  obtain ⟨n, hn, r4, s4, hrt⟩ := h.1.n4
  unfold f_X2_test f_X3_test
  rw [d_isBoard hn r4, r_isBoard hn s4]
  simp only [b1s, s01]
  by_cases h1 : rng a 0 ((n : Int) - 1) = true
  · rw [if_pos h1, if_pos h1, two_cmp2 (x := b) (L := 1) (H := 9999) (by decide) (by decide), r_rng (x := b) (L := 1) (H := 9999) (by decide) (by decide)]
    simp only [b1s, s01]
    by_cases h2 : rng b 1 9999 = true
    · rw [if_pos h2, if_pos h2, question, r_rng (x := c) (L := 0) (H := 1) (by decide) (by decide)]
      simp only [b1s, s01]
      by_cases h3 : rng c 0 1 = true
      · rw [if_pos h3, if_pos h3]
        obtain ⟨fb, hfb, rfl⟩ := (rng_ex (by omega)).mp h1
        obtain ⟨fc, -, hfc, rfl⟩ := (rng_nI (l := 1) (h := 9999) (by omega)).mp h2
        obtain ⟨v, tr', tf', s', cu', ho', mf', a1, a2, a3, -⟩ := try_sim h r4 hn hfb hfc c tr tf cu ho
        rw [a1, a2]
        exact ⟨v, tr', tf', s', cu', ho', mf', rfl, rfl, a3⟩
      · rw [if_neg h3, if_neg h3]
        exact ⟨_, _, _, _, _, _, _, rfl, rfl, h⟩
    · rw [if_neg h2, if_neg h2]
      exact ⟨_, _, _, _, _, _, _, rfl, rfl, h⟩
  · rw [if_neg h1, if_neg h1]
    exact ⟨_, _, _, _, _, _, _, rfl, rfl, h⟩
theorem or_sh0 (x y : Int32) : x ||| ((0 : Int32) <<< y) = x := by
  simp
theorem unfair_loop {nr co pf : zA} {hi sl : Nat → zA} {sv ff sv2 tx : zA} {n t : Nat} (hn : n ≤ 10) (ht : t ≤ 20) (r4 : nr 4 = nI n) : ∀ (j k fuel : Nat) (l2 : Int32) (s mf tr tf cu ho : zA), n = k + j → j < fuel → REL nr co pf hi sl sv ff s sv2 tx mf →
    ∃ (v : Int32) (tr' tf' s' cu' ho' mf' : zA), B_X2_unfair_18 fuel (nI t) l2 (nI k) nr tr tf = some (v, tr', tf') ∧ B_X3_unfair_21 fuel (nI t) l2 (nI k) s cu ho mf = some (v, s', cu', ho', mf') ∧ REL nr co pf hi sl sv ff s' sv2 tx mf' := by
  intro j
  induction j with
  | zero =>
    intro k fuel l2 s mf tr tf cu ho hk hf h
    obtain ⟨f, rfl⟩ : ∃ f, fuel = f + 1 := ⟨fuel - 1, by omega⟩
    obtain ⟨n', hn', r4', s4, hrt⟩ := h.1.n4
    have e : n' = n := (nI_eq (by omega) (by omega)).mp (r4'.symm.trans r4)
    subst e
    rw [B_X2_unfair_18, B_X3_unfair_21, s4]
    unfold f_X0_boards
    rw [r4]
    simp (disch := omega) only [gd_nI, nmI, b1s, b2s, b3s, b4s, b5s, b6s, b7s, le_nI, lt_nI, eq_nI, nI_add, Nat.add_zero, la9, la17, la27, la37, la47, la57, la67, la77, la87, la97, la111, la16, la106, la8, ra0, ra1, ra2, ra3, ra4, ra5, ra6, ra7, ra8, ra16, ra106, lm2, lm3, lm8, lm9, lm10, lm20, lm148, le0, ge0, lt0, gt0, eq0, le1, ge1, lt1, gt1, eq1, le2, ge2, lt2, gt2, eq2, le3, ge3, lt3, gt3, eq3, le4, ge4, lt4, gt4, eq4, le5, ge5, lt5, gt5, eq5, le6, ge6, lt6, gt6, eq6, le7, ge7, lt7, gt7, eq7, le8, ge8, lt8, gt8, eq8, le9, ge9, lt9, gt9, eq9, le10, ge10, lt10, gt10, eq10, le14, ge14, lt14, gt14, eq14, le16, ge16, lt16, gt16, eq16, le17, ge17, lt17, gt17, eq17, le20, ge20, lt20, gt20, eq20, le27, ge27, lt27, gt27, eq27, le37, ge37, lt37, gt37, eq37, le47, ge47, lt47, gt47, eq47, le50, ge50, lt50, gt50, eq50, le57, ge57, lt57, gt57, eq57, le67, ge67, lt67, gt67, eq67, le77, ge77, lt77, gt77, eq77, le80, ge80, lt80, gt80, eq80, le87, ge87, lt87, gt87, eq87, le97, ge97, lt97, gt97, eq97, le99, ge99, lt99, gt99, eq99, le100, ge100, lt100, gt100, eq100, le106, ge106, lt106, gt106, eq106, le111, ge111, lt111, gt111, eq111, le125, ge125, lt125, gt125, eq125, le148, ge148, lt148, gt148, eq148, le200, ge200, lt200, gt200, eq200, le300, ge300, lt300, gt300, eq300, le1332, ge1332, lt1332, gt1332, eq1332, le9999, ge9999, lt9999, gt9999, eq9999, le1000000, ge1000000, lt1000000, gt1000000, eq1000000, ]
    rw [if_pos (by omega), if_pos (by omega)]
    exact ⟨_, _, _, _, _, _, _, rfl, rfl, h⟩
  | succ j ih =>
    intro k fuel l2 s mf tr tf cu ho hk hf h
    obtain ⟨f, rfl⟩ : ∃ f, fuel = f + 1 := ⟨fuel - 1, by omega⟩
    obtain ⟨n', hn', r4', s4, hrt⟩ := h.1.n4
    have e : n' = n := (nI_eq (by omega) (by omega)).mp (r4'.symm.trans r4)
    subst e
    obtain ⟨r, hr1, hr2, hr3, hr4⟩ := hrt k (by omega)
    have e0 : f_X0_rating (nI k) nr = some (nI r) := by
      unfold f_X0_rating
      rw [d_isBoard hn r4]
      simp only [b1s, s01]
      rw [if_pos ((rng_ex (by omega)).mpr ⟨k, by omega, rfl⟩), la27, gd_nI (by omega) (by omega), hr3]
    obtain ⟨v, tr', tf', s', cu', ho', mf', a1, a2, a3, -⟩ := try_sim h r4 hn (fb := k) (fc := t * r) (by omega) (Nat.le_trans (Nat.mul_le_mul ht hr2) (by omega)) 1 tr tf cu ho
    rw [B_X2_unfair_18, B_X3_unfair_21, s4, e0]
    unfold f_X0_boards
    rw [r4, bA0]
    simp only [b1s, ra1]
    rw [gd_nI (by omega) (by omega), hr4, pk_mul, a1, a2]
    simp (disch := omega) only [gd_nI, nmI, b1s, b2s, b3s, b4s, b5s, b6s, b7s, le_nI, lt_nI, eq_nI, nI_add, Nat.add_zero, la9, la17, la27, la37, la47, la57, la67, la77, la87, la97, la111, la16, la106, la8, ra0, ra1, ra2, ra3, ra4, ra5, ra6, ra7, ra8, ra16, ra106, lm2, lm3, lm8, lm9, lm10, lm20, lm148, le0, ge0, lt0, gt0, eq0, le1, ge1, lt1, gt1, eq1, le2, ge2, lt2, gt2, eq2, le3, ge3, lt3, gt3, eq3, le4, ge4, lt4, gt4, eq4, le5, ge5, lt5, gt5, eq5, le6, ge6, lt6, gt6, eq6, le7, ge7, lt7, gt7, eq7, le8, ge8, lt8, gt8, eq8, le9, ge9, lt9, gt9, eq9, le10, ge10, lt10, gt10, eq10, le14, ge14, lt14, gt14, eq14, le16, ge16, lt16, gt16, eq16, le17, ge17, lt17, gt17, eq17, le20, ge20, lt20, gt20, eq20, le27, ge27, lt27, gt27, eq27, le37, ge37, lt37, gt37, eq37, le47, ge47, lt47, gt47, eq47, le50, ge50, lt50, gt50, eq50, le57, ge57, lt57, gt57, eq57, le67, ge67, lt67, gt67, eq67, le77, ge77, lt77, gt77, eq77, le80, ge80, lt80, gt80, eq80, le87, ge87, lt87, gt87, eq87, le97, ge97, lt97, gt97, eq97, le99, ge99, lt99, gt99, eq99, le100, ge100, lt100, gt100, eq100, le106, ge106, lt106, gt106, eq106, le111, ge111, lt111, gt111, eq111, le125, ge125, lt125, gt125, eq125, le148, ge148, lt148, gt148, eq148, le200, ge200, lt200, gt200, eq200, le300, ge300, lt300, gt300, eq300, le1332, ge1332, lt1332, gt1332, eq1332, le9999, ge9999, lt9999, gt9999, eq9999, le1000000, ge1000000, lt1000000, gt1000000, eq1000000, ]
    rw [if_neg (show ¬ n' ≤ k by omega), if_neg (show ¬ n' ≤ k by omega)]
    simp only [b1s, b3s, b5s, B_X3_unfair_71, B_X3_unfair_72]
    have eF : f_X3_flag 0 = some 0 := rfl
    have eG : f_X3_flag 1 = some 1 := rfl
    simp only [eF, eG, b1s, nmI, ra1, or_sh0]
    by_cases c1 : v = -6
    · rw [if_pos c1, if_pos c1]
      exact ih (k + 1) f l2 s' mf' tr' tf' cu' ho' (by omega) (by omega) a3
    · rw [if_neg c1, if_neg c1]
      by_cases c2 : v = nI k
      · rw [if_pos c2, if_pos c2]
        exact ih (k + 1) f l2 s' mf' tr' tf' cu' ho' (by omega) (by omega) a3
      · rw [if_neg c2, if_neg c2]
        exact ih (k + 1) f _ s' mf' tr' tf' cu' ho' (by omega) (by omega) a3
theorem sim_unfair {nr co pf : zA} {hi sl : Nat → zA} {sv ff s sv2 tx mf : zA} (h : REL nr co pf hi sl sv ff s sv2 tx mf) (a : Int32) (tr tf cu ho : zA) :
    ∃ (v : Int32) (tr' tf' s' cu' ho' mf' : zA), f_X2_unfair a nr tr tf = some (v, tr', tf') ∧ f_X3_unfair a s cu ho mf = some (v, s', cu', ho', mf') ∧ REL nr co pf hi sl sv ff s' sv2 tx mf' := by
  obtain ⟨n, hn, r4, s4, hrt⟩ := h.1.n4
  unfold f_X2_unfair f_X3_unfair
  rw [two_cmp (x := a) (L := 2) (H := 20) (by decide) (by decide), r_rng (x := a) (L := 2) (H := 20) (by decide) (by decide)]
  simp only [b1s, s01]
  by_cases h1 : rng a 2 20 = true
  · rw [if_pos h1, if_pos h1]
    obtain ⟨t, -, ht, rfl⟩ := (rng_nI (l := 2) (h := 20) (by omega)).mp h1
    exact unfair_loop hn ht r4 n 0 FU 0 s mf tr tf cu ho (by omega) (FU_lt (by omega)) h
  · rw [if_neg h1, if_neg h1]
    exact ⟨_, _, _, _, _, _, _, rfl, rfl, h⟩
