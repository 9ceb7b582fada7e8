/-! States kept and brought back -/
theorem BR.mv {row s row' s' : zA} {b b' n T X : Nat} {par : Nat → Nat} (h : BR row s b n T X par) (hr : ∀ j, j < 97 → row' j = row j) (hs : ∀ j, j < 106 → s' (b' + j) = s (b + j)) (hb : b' + 148 ≤ 1480) : BR row' s' b' n T X par := by
  have hn := h.n10
  have q : ∀ x y, b' ≤ x ∧ x < b' + 106 ∧ b ≤ y ∧ x - b' = y - b → s' x = s y := by
    intro x y ⟨h1, h2, h3, h4⟩
    have := hs (x - b') (by omega)
    rw [show b' + (x - b') = x by omega, h4, show b + (y - b) = y by omega] at this
    exact this
  refine BR.mk h.n10 hb ?_ ?_ ?_ ?_ ?_ ?_ ?_ ?_ h.par ?_ ?_ ?_ ?_ ?_ ?_ ?_ ?_ ?_ ?_ ?_
  · rw [hr 4 (by omega)]; exact h.r4
  · rw [q _ (b + 4) (by omega)]; exact h.s4
  · intro j hj; rw [hr j (by omega), q _ (b + j) (by omega)]; exact h.st0 j hj
  · rw [hr 3 (by omega)]; exact h.tm
  · rw [hr 0 (by omega)]; exact h.arc
  · rw [hr 1 (by omega)]; exact h.coo
  · rw [hr 8 (by omega), q _ (b + 6) (by omega), q _ (b + 7) (by omega)]; exact h.bl
  · intro j hj; rw [hr _ (by omega), q _ (b + 8 + j) (by omega)]; exact h.lat j hj
  · intro j h0 hj; rw [hr _ (by omega), q _ (b + 16 + 9 * j) (by omega)]; exact h.fr j h0 hj
  · intro h0; rw [q _ (b + 16) (by omega)]; exact h.f0 h0
  · intro j hj; rw [hr _ (by omega), q _ (b + 16 + 9 * j + 1) (by omega)]; exact h.rt j hj
  · intro j hj; rw [hr _ (by omega), q _ (b + 16 + 9 * j + 2) (by omega)]; exact h.kd j hj
  · intro j hj; rw [hr _ (by omega), hr 7 (by omega), q _ (b + 16 + 9 * j + 3) (by omega), q _ (b + 16 + 9 * j + 7) (by omega)]; exact h.hw j hj
  · intro j hj; rw [hr _ (by omega), q _ (b + 16 + 9 * j + 4) (by omega)]; exact h.ht j hj
  · intro j hj; rw [hr _ (by omega), q _ (b + 16 + 9 * j + 5) (by omega)]; exact h.sp j hj
  · intro j hj; rw [hr _ (by omega), q _ (b + 16 + 9 * j + 6) (by omega)]; exact h.cr j hj
  · intro j hj; rw [hr _ (by omega), q _ (b + 16 + 9 * j + 8) (by omega)]; exact h.he j hj
  · intro j hj; rw [hr 7 (by omega)]; exact h.op j hj
  · intro j hj h1; rw [hr _ (by omega)]; exact h.h0 j hj h1
/-- the loads, told alike -/
def LN (row s : zA) (b n m : Nat) : Prop := ∃ pl cu : Nat → Nat, PL row n m pl cu ∧ PM s b n m pl cu (bt (row 6)) ∧ (∀ i, i < m → 1 ≤ cu i ∧ cu i ≤ 200) ∧ ∀ i, m ≤ i → bt (row 6) i = false
theorem LN.mv {row s row' s' : zA} {b b' n m : Nat} (h : LN row s b n m) (h5 : row' 5 = row 5) (h6 : row' 6 = row 6) (hr : ∀ j, 97 ≤ j → j < 125 → row' j = row j) (hs5 : s' (b' + 5) = s (b + 5)) (hs : ∀ j, 106 ≤ j → j < 148 → s' (b' + j) = s (b + j)) : LN row' s' b' n m := by
  obtain ⟨pl, cu, ⟨hm, a1, a2⟩, ⟨-, c1, c2⟩, d1, d2⟩ := h
  have q : ∀ x y, b' + 106 ≤ x ∧ x < b' + 148 ∧ b ≤ y ∧ x - b' = y - b → s' x = s y := by
    intro x y ⟨h1, h2, h3, h4⟩
    have := hs (x - b') (by omega) (by omega)
    rw [show b' + (x - b') = x by omega, h4, show b + (y - b) = y by omega] at this
    exact this
  refine ⟨pl, cu, ⟨hm, by rw [h5]; exact a1, fun i hi => ?_⟩, ⟨hm, by rw [hs5]; exact c1, fun i hi => ?_⟩, d1, fun i hi => by rw [h6]; exact d2 i hi⟩
  · obtain ⟨e1, e2, e3⟩ := a2 i hi
    exact ⟨e1, by rw [hr _ (by omega) (by omega)]; exact e2, by rw [hr _ (by omega) (by omega)]; exact e3⟩
  · obtain ⟨e1, e2, e3, e4⟩ := c2 i hi
    exact ⟨e1, by rw [q _ (b + 106 + 3 * i) (by omega)]; exact e2, by rw [q _ (b + 106 + 3 * i + 1) (by omega)]; exact e3, by rw [h6, q _ (b + 106 + 3 * i + 2) (by omega)]; exact e4⟩
/-- a state, told alike -/
def AG (row : zA) : Prop := ∃ a, 1 ≤ a ∧ a ≤ 50 ∧ row 2 = nI a
theorem AG.of {row row' : zA} (h : AG row) (e : row' 2 = row 2) : AG row' := by
  unfold AG
  rw [e]
  exact h
def HR (row s : zA) (b : Nat) : Prop := ∃ (n m T : Nat) (par : Nat → Nat), T ≤ 9999 ∧ AG row ∧ BR row s b n T (10 * T) par ∧ LN row s b n m
theorem HR.mv {row s row' s' : zA} {b b' : Nat} (h : HR row s b) (hr : ∀ j, j < 125 → row' j = row j) (hs : ∀ j, j < 148 → s' (b' + j) = s (b + j)) (hb : b' + 148 ≤ 1480) : HR row' s' b' := by
  obtain ⟨n, m, T, par, h1, hg, h2, h3⟩ := h
  exact ⟨n, m, T, par, h1, hg.of (hr 2 (by omega)), h2.mv (fun j hj => hr j (by omega)) (fun j hj => hs j (by omega)) hb, h3.mv (hr 5 (by omega)) (hr 6 (by omega)) (fun j _ hj => hr j hj) (hs 5 (by omega)) (fun j _ hj => hs j hj)⟩
theorem cpy_in {f g : zA} {j : Nat} (h : j < 125) : va_cpy f g 0 0 125 j = f j := by
  rw [pk_cpy_in (by omega) (by omega)]
  congr 1
  omega
theorem d_writeTo (row kept : zA) : ∃ k', f_X0_writeTo row kept = some k' ∧ ∀ j, j < 125 → k' j = row j := by
  refine ⟨va_cpy row kept 0 0 125, ?_, fun j hj => cpy_in hj⟩
  unfold f_X0_writeTo
  rw [if_neg (by decide)]
  rfl
theorem d_readFrom (row kept : zA) : ∃ k', f_X0_readFrom row kept = some k' ∧ ∀ j, j < 125 → k' j = kept j := by
  refine ⟨va_cpy kept row 0 0 125, ?_, fun j hj => cpy_in hj⟩
  unfold f_X0_readFrom
  rw [if_neg (by decide)]
  rfl
theorem d_copyFrom (row row2 : zA) : ∃ k', f_X0_copyFrom row row2 = some k' ∧ ∀ j, j < 125 → k' j = row2 j := ⟨va_cpy row2 row 0 0 125, rfl, fun j hj => cpy_in hj⟩
theorem copies_loop {a c : Nat} (ha : a < 10) (hc : c < 10) (hac : a ≠ c) : ∀ (j k fuel : Nat) (s : zA), 148 = k + j → j < fuel → ∃ s', B_X3_copies_2 fuel (nI a) (nI c) (nI k) s = some s' ∧ ∀ x, s' x = if 148 * c + k ≤ x ∧ x < 148 * c + 148 then s (x - 148 * c + 148 * a) else s x := by
  intro j
  induction j with
  | zero =>
    intro k fuel s hk hf
    obtain ⟨f, rfl⟩ : ∃ f, fuel = f + 1 := ⟨fuel - 1, by omega⟩
    refine ⟨s, ?_, fun x => by rw [if_neg (by omega)]⟩
    rw [B_X3_copies_2]
    simp (disch := omega) only [gd_nI, nmI, b1s, b2s, b3s, b4s, b5s, b6s, b7s, le_nI, lt_nI, eq_nI, nI_add, Nat.add_zero, la9, la17, la27, la37, la47, la57, la67, la77, la87, la97, la111, la16, la106, la8, ra0, ra1, ra2, ra3, ra4, ra5, ra6, ra7, ra8, ra16, ra106, lm2, lm3, lm8, lm9, lm10, lm20, lm148, le0, ge0, lt0, gt0, eq0, le1, ge1, lt1, gt1, eq1, le2, ge2, lt2, gt2, eq2, le3, ge3, lt3, gt3, eq3, le4, ge4, lt4, gt4, eq4, le5, ge5, lt5, gt5, eq5, le6, ge6, lt6, gt6, eq6, le7, ge7, lt7, gt7, eq7, le8, ge8, lt8, gt8, eq8, le9, ge9, lt9, gt9, eq9, le10, ge10, lt10, gt10, eq10, le14, ge14, lt14, gt14, eq14, le16, ge16, lt16, gt16, eq16, le17, ge17, lt17, gt17, eq17, le20, ge20, lt20, gt20, eq20, le27, ge27, lt27, gt27, eq27, le37, ge37, lt37, gt37, eq37, le47, ge47, lt47, gt47, eq47, le50, ge50, lt50, gt50, eq50, le57, ge57, lt57, gt57, eq57, le67, ge67, lt67, gt67, eq67, le77, ge77, lt77, gt77, eq77, le80, ge80, lt80, gt80, eq80, le87, ge87, lt87, gt87, eq87, le97, ge97, lt97, gt97, eq97, le99, ge99, lt99, gt99, eq99, le100, ge100, lt100, gt100, eq100, le106, ge106, lt106, gt106, eq106, le111, ge111, lt111, gt111, eq111, le125, ge125, lt125, gt125, eq125, le148, ge148, lt148, gt148, eq148, le200, ge200, lt200, gt200, eq200, le300, ge300, lt300, gt300, eq300, le1332, ge1332, lt1332, gt1332, eq1332, le9999, ge9999, lt9999, gt9999, eq9999, le1000000, ge1000000, lt1000000, gt1000000, eq1000000, ]
    rw [if_pos (by omega)]
  | succ j ih =>
    intro k fuel s hk hf
    obtain ⟨f, rfl⟩ : ∃ f, fuel = f + 1 := ⟨fuel - 1, by omega⟩
    obtain ⟨s', h1, h2⟩ := ih (k + 1) f (upd s (148 * c + k) (s (148 * a + k))) (by omega) (by omega)
    refine ⟨s', ?_, fun x => ?_⟩
    · rw [B_X3_copies_2]
      simp (disch := omega) only [gd_nI, nmI, b1s, b2s, b3s, b4s, b5s, b6s, b7s, le_nI, lt_nI, eq_nI, nI_add, Nat.add_zero, la9, la17, la27, la37, la47, la57, la67, la77, la87, la97, la111, la16, la106, la8, ra0, ra1, ra2, ra3, ra4, ra5, ra6, ra7, ra8, ra16, ra106, lm2, lm3, lm8, lm9, lm10, lm20, lm148, le0, ge0, lt0, gt0, eq0, le1, ge1, lt1, gt1, eq1, le2, ge2, lt2, gt2, eq2, le3, ge3, lt3, gt3, eq3, le4, ge4, lt4, gt4, eq4, le5, ge5, lt5, gt5, eq5, le6, ge6, lt6, gt6, eq6, le7, ge7, lt7, gt7, eq7, le8, ge8, lt8, gt8, eq8, le9, ge9, lt9, gt9, eq9, le10, ge10, lt10, gt10, eq10, le14, ge14, lt14, gt14, eq14, le16, ge16, lt16, gt16, eq16, le17, ge17, lt17, gt17, eq17, le20, ge20, lt20, gt20, eq20, le27, ge27, lt27, gt27, eq27, le37, ge37, lt37, gt37, eq37, le47, ge47, lt47, gt47, eq47, le50, ge50, lt50, gt50, eq50, le57, ge57, lt57, gt57, eq57, le67, ge67, lt67, gt67, eq67, le77, ge77, lt77, gt77, eq77, le80, ge80, lt80, gt80, eq80, le87, ge87, lt87, gt87, eq87, le97, ge97, lt97, gt97, eq97, le99, ge99, lt99, gt99, eq99, le100, ge100, lt100, gt100, eq100, le106, ge106, lt106, gt106, eq106, le111, ge111, lt111, gt111, eq111, le125, ge125, lt125, gt125, eq125, le148, ge148, lt148, gt148, eq148, le200, ge200, lt200, gt200, eq200, le300, ge300, lt300, gt300, eq300, le1332, ge1332, lt1332, gt1332, eq1332, le9999, ge9999, lt9999, gt9999, eq9999, le1000000, ge1000000, lt1000000, gt1000000, eq1000000, ]
      rw [if_neg (by omega)]
      exact h1
    · rw [h2 x]
      by_cases hx : x = 148 * c + k
      · subst hx
        rw [if_neg (by omega), upd_eq, if_pos (by omega)]
        congr 1
        omega
      · by_cases hx2 : 148 * c + (k + 1) ≤ x ∧ x < 148 * c + 148
        · rw [if_pos hx2, if_pos (by omega), upd_ne (by omega)]
        · rw [if_neg hx2, if_neg (by omega), upd_ne hx]
theorem r_copies {a c : Nat} (ha : a < 10) (hc : c < 10) (hac : a ≠ c) (s : zA) : ∃ s', f_X3_copies (nI a) (nI c) s = some s' ∧ ∀ x, s' x = if 148 * c ≤ x ∧ x < 148 * c + 148 then s (x - 148 * c + 148 * a) else s x := copies_loop ha hc hac 148 0 FU s (by omega) (FU_lt (by omega))
/-- the history: the class's ring, the reference's row of states -/
def HS (hi : Nat → zA) (s ff mf : zA) : Prop := ∃ u sp : Nat, u ≤ 6 ∧ sp < 7 ∧ ff 6 = nI sp ∧ ff 7 = nI u ∧ mf 1 = nI u ∧ ∀ j, 1 ≤ j → j ≤ u → HR (hi ((sp + 6 + j - u) % 7)) s (148 * j)
theorem chg_loop : ∀ (j k fuel : Nat) (s mf : zA), 6 = k + j → 1 ≤ k → j < fuel → ∃ s', B_X3_changes_11 fuel (nI k) s mf = B_X3_changes_41 s' (upd mf 1 (mf 1 - 1)) ∧ ∀ x, s' x = if 148 * k ≤ x ∧ x < 148 * 6 then s (x + 148) else s x := by
  intro j
  induction j with
  | zero =>
    intro k fuel s mf hk h1 hf
    obtain ⟨f, rfl⟩ : ∃ f, fuel = f + 1 := ⟨fuel - 1, by omega⟩
    refine ⟨s, ?_, fun x => by rw [if_neg (by omega)]⟩
    rw [B_X3_changes_11]
    simp (disch := omega) only [gd_nI, nmI, b1s, b2s, b3s, b4s, b5s, b6s, b7s, le_nI, lt_nI, eq_nI, nI_add, Nat.add_zero, la9, la17, la27, la37, la47, la57, la67, la77, la87, la97, la111, la16, la106, la8, ra0, ra1, ra2, ra3, ra4, ra5, ra6, ra7, ra8, ra16, ra106, lm2, lm3, lm8, lm9, lm10, lm20, lm148, le0, ge0, lt0, gt0, eq0, le1, ge1, lt1, gt1, eq1, le2, ge2, lt2, gt2, eq2, le3, ge3, lt3, gt3, eq3, le4, ge4, lt4, gt4, eq4, le5, ge5, lt5, gt5, eq5, le6, ge6, lt6, gt6, eq6, le7, ge7, lt7, gt7, eq7, le8, ge8, lt8, gt8, eq8, le9, ge9, lt9, gt9, eq9, le10, ge10, lt10, gt10, eq10, le14, ge14, lt14, gt14, eq14, le16, ge16, lt16, gt16, eq16, le17, ge17, lt17, gt17, eq17, le20, ge20, lt20, gt20, eq20, le27, ge27, lt27, gt27, eq27, le37, ge37, lt37, gt37, eq37, le47, ge47, lt47, gt47, eq47, le50, ge50, lt50, gt50, eq50, le57, ge57, lt57, gt57, eq57, le67, ge67, lt67, gt67, eq67, le77, ge77, lt77, gt77, eq77, le80, ge80, lt80, gt80, eq80, le87, ge87, lt87, gt87, eq87, le97, ge97, lt97, gt97, eq97, le99, ge99, lt99, gt99, eq99, le100, ge100, lt100, gt100, eq100, le106, ge106, lt106, gt106, eq106, le111, ge111, lt111, gt111, eq111, le125, ge125, lt125, gt125, eq125, le148, ge148, lt148, gt148, eq148, le200, ge200, lt200, gt200, eq200, le300, ge300, lt300, gt300, eq300, le1332, ge1332, lt1332, gt1332, eq1332, le9999, ge9999, lt9999, gt9999, eq9999, le1000000, ge1000000, lt1000000, gt1000000, eq1000000, ]
    rw [if_pos (by omega)]
  | succ j ih =>
    intro k fuel s mf hk h1 hf
    obtain ⟨f, rfl⟩ : ∃ f, fuel = f + 1 := ⟨fuel - 1, by omega⟩
    obtain ⟨s1, c1, c2⟩ := r_copies (a := k + 1) (c := k) (by omega) (by omega) (by omega) s
    obtain ⟨s', h1, h2⟩ := ih (k + 1) f s1 mf (by omega) (by omega) (by omega)
    refine ⟨s', ?_, fun x => ?_⟩
    · rw [B_X3_changes_11]
      simp (disch := omega) only [gd_nI, nmI, b1s, b2s, b3s, b4s, b5s, b6s, b7s, le_nI, lt_nI, eq_nI, nI_add, Nat.add_zero, la9, la17, la27, la37, la47, la57, la67, la77, la87, la97, la111, la16, la106, la8, ra0, ra1, ra2, ra3, ra4, ra5, ra6, ra7, ra8, ra16, ra106, lm2, lm3, lm8, lm9, lm10, lm20, lm148, le0, ge0, lt0, gt0, eq0, le1, ge1, lt1, gt1, eq1, le2, ge2, lt2, gt2, eq2, le3, ge3, lt3, gt3, eq3, le4, ge4, lt4, gt4, eq4, le5, ge5, lt5, gt5, eq5, le6, ge6, lt6, gt6, eq6, le7, ge7, lt7, gt7, eq7, le8, ge8, lt8, gt8, eq8, le9, ge9, lt9, gt9, eq9, le10, ge10, lt10, gt10, eq10, le14, ge14, lt14, gt14, eq14, le16, ge16, lt16, gt16, eq16, le17, ge17, lt17, gt17, eq17, le20, ge20, lt20, gt20, eq20, le27, ge27, lt27, gt27, eq27, le37, ge37, lt37, gt37, eq37, le47, ge47, lt47, gt47, eq47, le50, ge50, lt50, gt50, eq50, le57, ge57, lt57, gt57, eq57, le67, ge67, lt67, gt67, eq67, le77, ge77, lt77, gt77, eq77, le80, ge80, lt80, gt80, eq80, le87, ge87, lt87, gt87, eq87, le97, ge97, lt97, gt97, eq97, le99, ge99, lt99, gt99, eq99, le100, ge100, lt100, gt100, eq100, le106, ge106, lt106, gt106, eq106, le111, ge111, lt111, gt111, eq111, le125, ge125, lt125, gt125, eq125, le148, ge148, lt148, gt148, eq148, le200, ge200, lt200, gt200, eq200, le300, ge300, lt300, gt300, eq300, le1332, ge1332, lt1332, gt1332, eq1332, le9999, ge9999, lt9999, gt9999, eq9999, le1000000, ge1000000, lt1000000, gt1000000, eq1000000, ]
      rw [if_neg (by omega), c1]
      simp only [b1s]
      exact h1
    · rw [h2 x]
      by_cases hx : 148 * (k + 1) ≤ x ∧ x < 148 * 6
      · rw [if_pos hx, if_pos (by omega), c2, if_neg (by omega)]
      · rw [if_neg hx, c2]
        by_cases hx2 : 148 * k ≤ x ∧ x < 148 * k + 148
        · rw [if_pos hx2, if_pos (by omega)]
          congr 1
          omega
        · rw [if_neg hx2, if_neg (by omega)]
/-- a change is recorded -/
theorem chg_sim {nr : zA} {hi : Nat → zA} {s ff mf : zA} (hr : HR nr s 0) (hs : HS hi s ff mf) :
    ∃ hi' s' mf', f_X2_noteState nr hi ff = some hi' ∧ f_X3_changes s mf = some (s', mf') ∧ (∀ x, (x < 148 ∨ 1036 ≤ x) → s' x = s x) ∧ (∀ x, x ≠ 1 → mf' x = mf x) ∧
      HS hi' s ff mf ∧
      (∀ v : Nat, v < 2 ^ 31 → ∃ ff', f_X2_keepUnlessError (nI v) ff = some (nI v, ff') ∧ ∀ s2, (∀ x, 148 ≤ x → x < 1036 → s2 x = s' x) → HS hi' s2 ff' mf') ∧
      (∀ v : Int32, v < 0 → f_X2_keepUnlessError v ff = some (v, ff)) := by
  obtain ⟨u, sp, hu, hsp, e6, e7, e1, hh⟩ := hs
  obtain ⟨kp, k1, k2⟩ := d_writeTo nr (hi sp)
  have note : f_X2_noteState nr hi ff = some (va_up hi sp kp) := by
    unfold f_X2_noteState
    rw [e6]
    simp (disch := omega) only [gd_nI, nmI, b1s, b2s, b3s, b4s, b5s, b6s, b7s, le_nI, lt_nI, eq_nI, nI_add, Nat.add_zero, la9, la17, la27, la37, la47, la57, la67, la77, la87, la97, la111, la16, la106, la8, ra0, ra1, ra2, ra3, ra4, ra5, ra6, ra7, ra8, ra16, ra106, lm2, lm3, lm8, lm9, lm10, lm20, lm148, le0, ge0, lt0, gt0, eq0, le1, ge1, lt1, gt1, eq1, le2, ge2, lt2, gt2, eq2, le3, ge3, lt3, gt3, eq3, le4, ge4, lt4, gt4, eq4, le5, ge5, lt5, gt5, eq5, le6, ge6, lt6, gt6, eq6, le7, ge7, lt7, gt7, eq7, le8, ge8, lt8, gt8, eq8, le9, ge9, lt9, gt9, eq9, le10, ge10, lt10, gt10, eq10, le14, ge14, lt14, gt14, eq14, le16, ge16, lt16, gt16, eq16, le17, ge17, lt17, gt17, eq17, le20, ge20, lt20, gt20, eq20, le27, ge27, lt27, gt27, eq27, le37, ge37, lt37, gt37, eq37, le47, ge47, lt47, gt47, eq47, le50, ge50, lt50, gt50, eq50, le57, ge57, lt57, gt57, eq57, le67, ge67, lt67, gt67, eq67, le77, ge77, lt77, gt77, eq77, le80, ge80, lt80, gt80, eq80, le87, ge87, lt87, gt87, eq87, le97, ge97, lt97, gt97, eq97, le99, ge99, lt99, gt99, eq99, le100, ge100, lt100, gt100, eq100, le106, ge106, lt106, gt106, eq106, le111, ge111, lt111, gt111, eq111, le125, ge125, lt125, gt125, eq125, le148, ge148, lt148, gt148, eq148, le200, ge200, lt200, gt200, eq200, le300, ge300, lt300, gt300, eq300, le1332, ge1332, lt1332, gt1332, eq1332, le9999, ge9999, lt9999, gt9999, eq9999, le1000000, ge1000000, lt1000000, gt1000000, eq1000000,  k1]
  have keep : ∀ v : Nat, v < 2 ^ 31 → f_X2_keepUnlessError (nI v) ff = some (nI v, upd (upd ff 6 (nI ((sp + 1) % 7))) 7 (nI (min 6 (u + 1)))) := by
    intro v hv
    unfold f_X2_keepUnlessError
    rw [e6, if_pos (nI_pos' hv)]
    have a1 : nI sp + 1 - (nI sp + 1) / 7 * 7 = nI ((sp + 1) % 7) := by
      rw [nI_1, show (7 : Int32) = nI 7 from rfl, pk_rem (by omega) (by omega) (by omega)]
    rw [a1]
    simp only [nmI]
    rw [upd_ne (by omega), e7, nI_1]
    have a2 : zmn 6 (nI (u + 1)) = nI (min 6 (u + 1)) := by
      unfold zmn
      by_cases h6 : u + 1 < 6
      · rw [if_pos (by rw [lt6 (by omega)]; exact h6), show min 6 (u + 1) = u + 1 by omega]
      · rw [if_neg (by rw [lt6 (by omega)]; exact h6), show min 6 (u + 1) = 6 by omega]
        rfl
    rw [a2]
  have neg : ∀ v : Int32, v < 0 → f_X2_keepUnlessError v ff = some (v, ff) := by
    intro v hv
    unfold f_X2_keepUnlessError
    rw [if_neg (Int32.not_le.mpr hv)]
  have old : HS (va_up hi sp kp) s ff mf := by
    refine ⟨u, sp, hu, hsp, e6, e7, e1, fun j h1 h2 => ?_⟩
    have hne : (sp + 6 + j - u) % 7 ≠ sp := by omega
    rw [show va_up hi sp kp ((sp + 6 + j - u) % 7) = hi ((sp + 6 + j - u) % 7) from if_neg hne]
    exact hh j h1 h2
  have hv0 : (va_up hi sp kp) sp = kp := if_pos rfl
  -- the state ahead of the change, where it is put
  have cur : ∀ (s2 : zA) (b : Nat), b + 148 ≤ 1480 → (∀ j, j < 148 → s2 (b + j) = s j) → HR (va_up hi sp kp sp) s2 b := by
    intro s2 b hb hj
    rw [hv0]
    exact hr.mv k2 (fun j hj2 => by rw [hj j hj2, Nat.zero_add]) hb
  by_cases h6 : u = 6
  · subst h6
    obtain ⟨s1, c1, c2⟩ := chg_loop 5 1 FU s mf (by omega) (by omega) (FU_lt (by omega))
    obtain ⟨s2, d1, d2⟩ := r_copies (a := 0) (c := 6) (by omega) (by omega) (by omega) s1
    have em : mf 1 - 1 = nI 5 := by rw [e1]; rfl
    refine ⟨va_up hi sp kp, s2, upd (upd mf 1 (nI 5)) 1 (nI 6), note, ?_, fun x hx => ?_, fun x hx => ?_, old, fun v hv => ⟨_, keep v hv, fun s3 hs3 => ?_⟩, neg⟩
    · unfold f_X3_changes
      rw [e1, if_pos (show nI 6 = (6 : Int32) from rfl)]
      rw [show (1 : Int32) = nI 1 from rfl, c1, em]
      unfold B_X3_changes_41
      simp only [nmI]
      have z : upd mf 1 (nI 5) 1 + 1 = nI 6 := by rw [upd_eq]; rfl
      rw [z, show upd (upd mf 1 (nI 5)) 1 (nI 6) 1 = nI 6 from upd_eq _ _ _, show (0 : Int32) = nI 0 from rfl, d1]
      rfl
    · rw [d2, if_neg (by omega), c2, if_neg (by omega)]
    · rw [upd_ne hx, upd_ne hx]
    · refine ⟨6, (sp + 1) % 7, by omega, by omega, ?_, ?_, ?_, fun j h1 h2 => ?_⟩
      · rw [upd_ne (by omega), upd_eq]
      · rw [upd_eq]; rfl
      · rw [upd_eq]
      · by_cases hj6 : j = 6
        · subst hj6
          rw [show ((sp + 1) % 7 + 6 + 6 - 6) % 7 = sp by omega]
          refine cur s3 (148 * 6) (by omega) fun i hi2 => ?_
          rw [hs3 _ (by omega) (by omega), d2, if_pos (by omega), c2, if_neg (by omega)]
          exact congrArg s (by omega)
        · have := hh (j + 1) (by omega) (by omega)
          have hne : (sp + 6 + (j + 1) - 6) % 7 ≠ sp := by omega
          rw [show ((sp + 1) % 7 + 6 + j - 6) % 7 = (sp + 6 + (j + 1) - 6) % 7 by omega, show va_up hi sp kp ((sp + 6 + (j + 1) - 6) % 7) = hi ((sp + 6 + (j + 1) - 6) % 7) from if_neg hne]
          refine this.mv (fun _ _ => rfl) (fun i hi2 => ?_) (by omega)
          rw [hs3 _ (by omega) (by omega), d2, if_neg (by omega), c2, if_pos (by omega)]
          exact congrArg s (by omega)
  · obtain ⟨s2, d1, d2⟩ := r_copies (a := 0) (c := u + 1) (by omega) (by omega) (by omega) s
    refine ⟨va_up hi sp kp, s2, upd mf 1 (nI (u + 1)), note, ?_, fun x hx => ?_, fun x hx => ?_, old, fun v hv => ⟨_, keep v hv, fun s3 hs3 => ?_⟩, neg⟩
    · unfold f_X3_changes
      rw [e1, if_neg (by rw [eq6 (by omega)]; exact h6)]
      unfold B_X3_changes_41
      rw [e1]
      simp (disch := omega) only [gd_nI, nmI, b1s, b2s, b3s, b4s, b5s, b6s, b7s, le_nI, lt_nI, eq_nI, nI_add, Nat.add_zero, la9, la17, la27, la37, la47, la57, la67, la77, la87, la97, la111, la16, la106, la8, ra0, ra1, ra2, ra3, ra4, ra5, ra6, ra7, ra8, ra16, ra106, lm2, lm3, lm8, lm9, lm10, lm20, lm148, le0, ge0, lt0, gt0, eq0, le1, ge1, lt1, gt1, eq1, le2, ge2, lt2, gt2, eq2, le3, ge3, lt3, gt3, eq3, le4, ge4, lt4, gt4, eq4, le5, ge5, lt5, gt5, eq5, le6, ge6, lt6, gt6, eq6, le7, ge7, lt7, gt7, eq7, le8, ge8, lt8, gt8, eq8, le9, ge9, lt9, gt9, eq9, le10, ge10, lt10, gt10, eq10, le14, ge14, lt14, gt14, eq14, le16, ge16, lt16, gt16, eq16, le17, ge17, lt17, gt17, eq17, le20, ge20, lt20, gt20, eq20, le27, ge27, lt27, gt27, eq27, le37, ge37, lt37, gt37, eq37, le47, ge47, lt47, gt47, eq47, le50, ge50, lt50, gt50, eq50, le57, ge57, lt57, gt57, eq57, le67, ge67, lt67, gt67, eq67, le77, ge77, lt77, gt77, eq77, le80, ge80, lt80, gt80, eq80, le87, ge87, lt87, gt87, eq87, le97, ge97, lt97, gt97, eq97, le99, ge99, lt99, gt99, eq99, le100, ge100, lt100, gt100, eq100, le106, ge106, lt106, gt106, eq106, le111, ge111, lt111, gt111, eq111, le125, ge125, lt125, gt125, eq125, le148, ge148, lt148, gt148, eq148, le200, ge200, lt200, gt200, eq200, le300, ge300, lt300, gt300, eq300, le1332, ge1332, lt1332, gt1332, eq1332, le9999, ge9999, lt9999, gt9999, eq9999, le1000000, ge1000000, lt1000000, gt1000000, eq1000000, ]
      rw [upd_eq, show (0 : Int32) = nI 0 from rfl, d1]
      rfl
    · rw [d2, if_neg (by omega)]
    · rw [upd_ne hx]
    · rw [show min 6 (u + 1) = u + 1 by omega]
      refine ⟨u + 1, (sp + 1) % 7, by omega, by omega, ?_, ?_, ?_, fun j h1 h2 => ?_⟩
      · rw [upd_ne (by omega), upd_eq]
      · rw [upd_eq]
      · rw [upd_eq]
      · by_cases hj6 : j = u + 1
        · subst hj6
          rw [show ((sp + 1) % 7 + 6 + (u + 1) - (u + 1)) % 7 = sp by omega]
          refine cur s3 (148 * (u + 1)) (by omega) fun i hi2 => ?_
          rw [hs3 _ (by omega) (by omega), d2, if_pos (by omega)]
          exact congrArg s (by omega)
        · have := hh j (by omega) (by omega)
          have hne : (sp + 6 + j - u) % 7 ≠ sp := by omega
          rw [show ((sp + 1) % 7 + 6 + j - (u + 1)) % 7 = (sp + 6 + j - u) % 7 by omega, show va_up hi sp kp ((sp + 6 + j - u) % 7) = hi ((sp + 6 + j - u) % 7) from if_neg hne]
          refine this.mv (fun _ _ => rfl) (fun i hi2 => ?_) (by omega)
          rw [hs3 _ (by omega) (by omega), d2, if_neg (by omega)]
/-- the whole relation of the two objects' cells -/
def REL (nr co pf : zA) (hi sl : Nat → zA) (sv ff : zA) (s sv2 tx mf : zA) : Prop :=
  HR nr s 0 ∧ HS hi s ff mf ∧ mf 5 = -6 ∧ (∃ len, len ≤ 80 ∧ pf 1 = nI len ∧ mf 4 = nI len ∧ ∀ j, j < len → co j = tx j) ∧ ∀ k, k < 2 → (sv k = 0 ↔ sv2 k = 0) ∧ (¬ sv k = 0 → HR (sl k) s (148 * (7 + k)))
