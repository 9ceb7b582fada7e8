/-! Currents -/
/-- the loads of the class's row: m of them, at pl, with currents cu; on: the bits of row 6 -/
def PL (row : zA) (n m : Nat) (pl cu : Nat → Nat) : Prop := m ≤ 14 ∧ row 5 = nI m ∧ ∀ i, i < m → pl i < n ∧ row (97 + i) = nI (pl i) ∧ row (111 + i) = nI (cu i)
/-- what a load draws: its current, if it is on and its board isn't dead -/
def wgt (on dd : Nat → Bool) (pl cu : Nat → Nat) (i : Nat) : Nat := if on i && !dd (pl i) then cu i else 0
theorem fill_loop (sz : Nat) (hsz : sz ≤ 2000) (v : Int32) : ∀ (j k fuel : Nat) (fa : zA), sz ≤ k + j → k ≤ sz → j < fuel → ∃ fa', B_J7_fill_53178_5 sz fuel v (nI k) (nI sz) fa = some fa' ∧ ∀ i, fa' i = if k ≤ i ∧ i < sz then v else fa i := by
  intro j
  induction j with
  | zero =>
    intro k fuel fa hj hk hf
    obtain ⟨f, rfl⟩ : ∃ f, fuel = f + 1 := ⟨fuel - 1, by omega⟩
    refine ⟨fa, ?_, fun i => ?_⟩
    · rw [B_J7_fill_53178_5]
      simp (disch := omega) only [gd_nI, nmI, b1s, b2s, b3s, b4s, b5s, b6s, b7s, le_nI, lt_nI, eq_nI, nI_add, Nat.add_zero, la9, la17, la27, la37, la47, la57, la67, la77, la87, la97, la111, la16, la106, la8, ra0, ra1, ra2, ra3, ra4, ra5, ra6, ra7, ra8, ra16, ra106, lm2, lm3, lm8, lm9, lm10, lm20, lm148, le0, ge0, lt0, gt0, eq0, le1, ge1, lt1, gt1, eq1, le2, ge2, lt2, gt2, eq2, le3, ge3, lt3, gt3, eq3, le4, ge4, lt4, gt4, eq4, le5, ge5, lt5, gt5, eq5, le6, ge6, lt6, gt6, eq6, le7, ge7, lt7, gt7, eq7, le8, ge8, lt8, gt8, eq8, le9, ge9, lt9, gt9, eq9, le10, ge10, lt10, gt10, eq10, le14, ge14, lt14, gt14, eq14, le16, ge16, lt16, gt16, eq16, le17, ge17, lt17, gt17, eq17, le20, ge20, lt20, gt20, eq20, le27, ge27, lt27, gt27, eq27, le37, ge37, lt37, gt37, eq37, le47, ge47, lt47, gt47, eq47, le50, ge50, lt50, gt50, eq50, le57, ge57, lt57, gt57, eq57, le67, ge67, lt67, gt67, eq67, le77, ge77, lt77, gt77, eq77, le80, ge80, lt80, gt80, eq80, le87, ge87, lt87, gt87, eq87, le97, ge97, lt97, gt97, eq97, le99, ge99, lt99, gt99, eq99, le100, ge100, lt100, gt100, eq100, le106, ge106, lt106, gt106, eq106, le111, ge111, lt111, gt111, eq111, le125, ge125, lt125, gt125, eq125, le148, ge148, lt148, gt148, eq148, le200, ge200, lt200, gt200, eq200, le300, ge300, lt300, gt300, eq300, le1332, ge1332, lt1332, gt1332, eq1332, le9999, ge9999, lt9999, gt9999, eq9999, le1000000, ge1000000, lt1000000, gt1000000, eq1000000, ]
      rw [if_pos (by omega)]
    · rw [if_neg (by omega)]
  | succ j ih =>
    intro k fuel fa hj hk hf
    obtain ⟨f, rfl⟩ : ∃ f, fuel = f + 1 := ⟨fuel - 1, by omega⟩
    by_cases hd : sz ≤ k
    · refine ⟨fa, ?_, fun i => ?_⟩
      · rw [B_J7_fill_53178_5]
        simp (disch := omega) only [gd_nI, nmI, b1s, b2s, b3s, b4s, b5s, b6s, b7s, le_nI, lt_nI, eq_nI, nI_add, Nat.add_zero, la9, la17, la27, la37, la47, la57, la67, la77, la87, la97, la111, la16, la106, la8, ra0, ra1, ra2, ra3, ra4, ra5, ra6, ra7, ra8, ra16, ra106, lm2, lm3, lm8, lm9, lm10, lm20, lm148, le0, ge0, lt0, gt0, eq0, le1, ge1, lt1, gt1, eq1, le2, ge2, lt2, gt2, eq2, le3, ge3, lt3, gt3, eq3, le4, ge4, lt4, gt4, eq4, le5, ge5, lt5, gt5, eq5, le6, ge6, lt6, gt6, eq6, le7, ge7, lt7, gt7, eq7, le8, ge8, lt8, gt8, eq8, le9, ge9, lt9, gt9, eq9, le10, ge10, lt10, gt10, eq10, le14, ge14, lt14, gt14, eq14, le16, ge16, lt16, gt16, eq16, le17, ge17, lt17, gt17, eq17, le20, ge20, lt20, gt20, eq20, le27, ge27, lt27, gt27, eq27, le37, ge37, lt37, gt37, eq37, le47, ge47, lt47, gt47, eq47, le50, ge50, lt50, gt50, eq50, le57, ge57, lt57, gt57, eq57, le67, ge67, lt67, gt67, eq67, le77, ge77, lt77, gt77, eq77, le80, ge80, lt80, gt80, eq80, le87, ge87, lt87, gt87, eq87, le97, ge97, lt97, gt97, eq97, le99, ge99, lt99, gt99, eq99, le100, ge100, lt100, gt100, eq100, le106, ge106, lt106, gt106, eq106, le111, ge111, lt111, gt111, eq111, le125, ge125, lt125, gt125, eq125, le148, ge148, lt148, gt148, eq148, le200, ge200, lt200, gt200, eq200, le300, ge300, lt300, gt300, eq300, le1332, ge1332, lt1332, gt1332, eq1332, le9999, ge9999, lt9999, gt9999, eq9999, le1000000, ge1000000, lt1000000, gt1000000, eq1000000, ]
        rw [if_pos (by omega)]
      · rw [if_neg (by omega)]
    · obtain ⟨fa', h1, h2⟩ := ih (k + 1) f (upd fa k v) (by omega) (by omega) (by omega)
      refine ⟨fa', ?_, fun i => ?_⟩
      · rw [B_J7_fill_53178_5]
        simp (disch := omega) only [gd_nI, nmI, b1s, b2s, b3s, b4s, b5s, b6s, b7s, le_nI, lt_nI, eq_nI, nI_add, Nat.add_zero, la9, la17, la27, la37, la47, la57, la67, la77, la87, la97, la111, la16, la106, la8, ra0, ra1, ra2, ra3, ra4, ra5, ra6, ra7, ra8, ra16, ra106, lm2, lm3, lm8, lm9, lm10, lm20, lm148, le0, ge0, lt0, gt0, eq0, le1, ge1, lt1, gt1, eq1, le2, ge2, lt2, gt2, eq2, le3, ge3, lt3, gt3, eq3, le4, ge4, lt4, gt4, eq4, le5, ge5, lt5, gt5, eq5, le6, ge6, lt6, gt6, eq6, le7, ge7, lt7, gt7, eq7, le8, ge8, lt8, gt8, eq8, le9, ge9, lt9, gt9, eq9, le10, ge10, lt10, gt10, eq10, le14, ge14, lt14, gt14, eq14, le16, ge16, lt16, gt16, eq16, le17, ge17, lt17, gt17, eq17, le20, ge20, lt20, gt20, eq20, le27, ge27, lt27, gt27, eq27, le37, ge37, lt37, gt37, eq37, le47, ge47, lt47, gt47, eq47, le50, ge50, lt50, gt50, eq50, le57, ge57, lt57, gt57, eq57, le67, ge67, lt67, gt67, eq67, le77, ge77, lt77, gt77, eq77, le80, ge80, lt80, gt80, eq80, le87, ge87, lt87, gt87, eq87, le97, ge97, lt97, gt97, eq97, le99, ge99, lt99, gt99, eq99, le100, ge100, lt100, gt100, eq100, le106, ge106, lt106, gt106, eq106, le111, ge111, lt111, gt111, eq111, le125, ge125, lt125, gt125, eq125, le148, ge148, lt148, gt148, eq148, le200, ge200, lt200, gt200, eq200, le300, ge300, lt300, gt300, eq300, le1332, ge1332, lt1332, gt1332, eq1332, le9999, ge9999, lt9999, gt9999, eq9999, le1000000, ge1000000, lt1000000, gt1000000, eq1000000, ]
        rw [if_neg hd, h1]
      · rw [h2 i]
        by_cases hik : i = k
        · subst hik
          rw [if_neg (by omega), if_pos (by omega)]
          exact if_pos rfl
        · have : upd fa k v i = fa i := if_neg hik
          rw [this]
          by_cases h9 : k + 1 ≤ i ∧ i < sz
          · rw [if_pos h9, if_pos (by omega)]
          · rw [if_neg h9, if_neg (by omega)]
theorem d_fill10 (flow : zA) : ∃ fl, f_J7_fill_53178 10 0 flow = some fl ∧ ∀ k, k < 10 → fl k = nI 0 := by
  obtain ⟨fa, h1, h2⟩ := fill_loop 10 (by omega) 0 10 0 FU flow (by omega) (by omega) (FU_lt (by omega))
  refine ⟨fa, h1, fun k hk => ?_⟩
  rw [h2 k, if_pos ⟨by omega, hk⟩]
  rfl
theorem d_addFlow {k v : Nat} {fl : zA} (h : k < 10) {x : Nat} (hx : fl k = nI x) : f_X0_addFlow (nI k) (nI v) fl = some (upd fl k (nI (x + v))) := by
  unfold f_X0_addFlow
  simp (disch := omega) only [gd_nI, nmI, b1s, b2s, b3s, b4s, b5s, b6s, b7s, le_nI, lt_nI, eq_nI, nI_add, Nat.add_zero, la9, la17, la27, la37, la47, la57, la67, la77, la87, la97, la111, la16, la106, la8, ra0, ra1, ra2, ra3, ra4, ra5, ra6, ra7, ra8, ra16, ra106, lm2, lm3, lm8, lm9, lm10, lm20, lm148, le0, ge0, lt0, gt0, eq0, le1, ge1, lt1, gt1, eq1, le2, ge2, lt2, gt2, eq2, le3, ge3, lt3, gt3, eq3, le4, ge4, lt4, gt4, eq4, le5, ge5, lt5, gt5, eq5, le6, ge6, lt6, gt6, eq6, le7, ge7, lt7, gt7, eq7, le8, ge8, lt8, gt8, eq8, le9, ge9, lt9, gt9, eq9, le10, ge10, lt10, gt10, eq10, le14, ge14, lt14, gt14, eq14, le16, ge16, lt16, gt16, eq16, le17, ge17, lt17, gt17, eq17, le20, ge20, lt20, gt20, eq20, le27, ge27, lt27, gt27, eq27, le37, ge37, lt37, gt37, eq37, le47, ge47, lt47, gt47, eq47, le50, ge50, lt50, gt50, eq50, le57, ge57, lt57, gt57, eq57, le67, ge67, lt67, gt67, eq67, le77, ge77, lt77, gt77, eq77, le80, ge80, lt80, gt80, eq80, le87, ge87, lt87, gt87, eq87, le97, ge97, lt97, gt97, eq97, le99, ge99, lt99, gt99, eq99, le100, ge100, lt100, gt100, eq100, le106, ge106, lt106, gt106, eq106, le111, ge111, lt111, gt111, eq111, le125, ge125, lt125, gt125, eq125, le148, ge148, lt148, gt148, eq148, le200, ge200, lt200, gt200, eq200, le300, ge300, lt300, gt300, eq300, le1332, ge1332, lt1332, gt1332, eq1332, le9999, ge9999, lt9999, gt9999, eq9999, le1000000, ge1000000, lt1000000, gt1000000, eq1000000, ]
  rw [if_neg (by omega), if_neg (by omega), hx, nI_add]
theorem down_loop {row : zA} {n : Nat} {par : Nat → Nat} (P : PR row n par) (w pl : Nat → Nat) (m : Nat) (hpl : ∀ i, i < m → pl i < n) : ∀ (c fuel : Nat) (fl : zA), c < n ∨ c = 0 → c < fuel →
    (∀ k, k < n → fl k = nI (sm (fun i => if pl i = k then w i else 0) m + sm (fun x => if c < x ∧ (0 < x ∧ par x = k) then crt par w pl m x else 0) n)) →
    ∃ fl', B_X0_addUpCurrents_102 fuel (nI c) row fl = some fl' ∧ ∀ k, k < n → fl' k = nI (crt par w pl m k) := by
  obtain ⟨hn, h4, hp, hfr, hop⟩ := P
  intro c
  induction c with
  | zero =>
    intro fuel fl hc hf hi
    obtain ⟨f, rfl⟩ : ∃ f, fuel = f + 1 := ⟨fuel - 1, by omega⟩
    refine ⟨fl, ?_, fun k hk => ?_⟩
    · rw [B_X0_addUpCurrents_102]
      simp (disch := omega) only [gd_nI, nmI, b1s, b2s, b3s, b4s, b5s, b6s, b7s, le_nI, lt_nI, eq_nI, nI_add, Nat.add_zero, la9, la17, la27, la37, la47, la57, la67, la77, la87, la97, la111, la16, la106, la8, ra0, ra1, ra2, ra3, ra4, ra5, ra6, ra7, ra8, ra16, ra106, lm2, lm3, lm8, lm9, lm10, lm20, lm148, le0, ge0, lt0, gt0, eq0, le1, ge1, lt1, gt1, eq1, le2, ge2, lt2, gt2, eq2, le3, ge3, lt3, gt3, eq3, le4, ge4, lt4, gt4, eq4, le5, ge5, lt5, gt5, eq5, le6, ge6, lt6, gt6, eq6, le7, ge7, lt7, gt7, eq7, le8, ge8, lt8, gt8, eq8, le9, ge9, lt9, gt9, eq9, le10, ge10, lt10, gt10, eq10, le14, ge14, lt14, gt14, eq14, le16, ge16, lt16, gt16, eq16, le17, ge17, lt17, gt17, eq17, le20, ge20, lt20, gt20, eq20, le27, ge27, lt27, gt27, eq27, le37, ge37, lt37, gt37, eq37, le47, ge47, lt47, gt47, eq47, le50, ge50, lt50, gt50, eq50, le57, ge57, lt57, gt57, eq57, le67, ge67, lt67, gt67, eq67, le77, ge77, lt77, gt77, eq77, le80, ge80, lt80, gt80, eq80, le87, ge87, lt87, gt87, eq87, le97, ge97, lt97, gt97, eq97, le99, ge99, lt99, gt99, eq99, le100, ge100, lt100, gt100, eq100, le106, ge106, lt106, gt106, eq106, le111, ge111, lt111, gt111, eq111, le125, ge125, lt125, gt125, eq125, le148, ge148, lt148, gt148, eq148, le200, ge200, lt200, gt200, eq200, le300, ge300, lt300, gt300, eq300, le1332, ge1332, lt1332, gt1332, eq1332, le9999, ge9999, lt9999, gt9999, eq9999, le1000000, ge1000000, lt1000000, gt1000000, eq1000000, ]
      rw [if_pos (by omega)]
    · rw [hi k hk, crt_rec hp hpl k]
      congr 2
      apply sm_congr
      intro x _
      by_cases hx : 0 < x ∧ par x = k
      · rw [if_pos hx, if_pos ⟨hx.1, hx⟩]
      · rw [if_neg hx, if_neg (fun q => hx q.2)]
  | succ c ih =>
    intro fuel fl hc hf hi
    obtain ⟨f, rfl⟩ : ∃ f, fuel = f + 1 := ⟨fuel - 1, by omega⟩
    have hcn : c + 1 < n := by omega
    have hpc := hp (c + 1) (by omega) hcn
    have e1 : fl (c + 1) = nI (crt par w pl m (c + 1)) := by
      rw [hi (c + 1) hcn, crt_rec hp hpl (c + 1)]
      congr 2
      apply sm_congr
      intro x hx
      by_cases h9 : 0 < x ∧ par x = c + 1
      · have := hp x h9.1 hx
        rw [if_pos h9, if_pos ⟨by omega, h9⟩]
      · rw [if_neg h9, if_neg (fun q => h9 q.2)]
    have e2 := hi (par (c + 1)) (by omega)
    obtain ⟨fl', h1, h2⟩ := ih f (upd fl (par (c + 1)) (nI ((sm (fun i => if pl i = par (c + 1) then w i else 0) m + sm (fun x => if c + 1 < x ∧ (0 < x ∧ par x = par (c + 1)) then crt par w pl m x else 0) n) + crt par w pl m (c + 1)))) (by omega) (by omega) (by
      intro k hk
      have h0 : sm (fun x => if c < x ∧ (0 < x ∧ par x = k) then crt par w pl m x else 0) n = sm (fun x => (if x = c + 1 then (if par (c + 1) = k then crt par w pl m (c + 1) else 0) else 0) + (if c + 1 < x ∧ (0 < x ∧ par x = k) then crt par w pl m x else 0)) n := by
        apply sm_congr
        intro x _
        by_cases hx : x = c + 1
        · subst hx
          rw [if_pos rfl]
          by_cases hq : par (c + 1) = k
          · rw [if_pos ⟨by omega, by omega, hq⟩, if_pos hq, if_neg (by omega)]
            omega
          · rw [if_neg (fun q => hq q.2.2), if_neg hq, if_neg (by omega)]
        · rw [if_neg hx]
          by_cases hq : c < x ∧ (0 < x ∧ par x = k)
          · rw [if_pos hq, if_pos ⟨by omega, hq.2⟩]
            omega
          · rw [if_neg hq, if_neg (fun q => hq ⟨by omega, q.2⟩)]
      rw [h0, sm_add, sm_one, if_pos hcn]
      by_cases hk2 : k = par (c + 1)
      · subst hk2
        rw [if_pos rfl]
        show (if par (c + 1) = par (c + 1) then _ else _) = _
        rw [if_pos rfl]
        congr 1
        omega
      · have : upd fl (par (c + 1)) (nI ((sm (fun i => if pl i = par (c + 1) then w i else 0) m + sm (fun x => if c + 1 < x ∧ (0 < x ∧ par x = par (c + 1)) then crt par w pl m x else 0) n) + crt par w pl m (c + 1))) k = fl k := if_neg hk2
        rw [this, hi k hk, if_neg (fun q => hk2 q.symm)]
        congr 1
        omega)
    refine ⟨fl', ?_, h2⟩
    rw [B_X0_addUpCurrents_102]
    simp (disch := omega) only [gd_nI, nmI, b1s, b2s, b3s, b4s, b5s, b6s, b7s, le_nI, lt_nI, eq_nI, nI_add, Nat.add_zero, la9, la17, la27, la37, la47, la57, la67, la77, la87, la97, la111, la16, la106, la8, ra0, ra1, ra2, ra3, ra4, ra5, ra6, ra7, ra8, ra16, ra106, lm2, lm3, lm8, lm9, lm10, lm20, lm148, le0, ge0, lt0, gt0, eq0, le1, ge1, lt1, gt1, eq1, le2, ge2, lt2, gt2, eq2, le3, ge3, lt3, gt3, eq3, le4, ge4, lt4, gt4, eq4, le5, ge5, lt5, gt5, eq5, le6, ge6, lt6, gt6, eq6, le7, ge7, lt7, gt7, eq7, le8, ge8, lt8, gt8, eq8, le9, ge9, lt9, gt9, eq9, le10, ge10, lt10, gt10, eq10, le14, ge14, lt14, gt14, eq14, le16, ge16, lt16, gt16, eq16, le17, ge17, lt17, gt17, eq17, le20, ge20, lt20, gt20, eq20, le27, ge27, lt27, gt27, eq27, le37, ge37, lt37, gt37, eq37, le47, ge47, lt47, gt47, eq47, le50, ge50, lt50, gt50, eq50, le57, ge57, lt57, gt57, eq57, le67, ge67, lt67, gt67, eq67, le77, ge77, lt77, gt77, eq77, le80, ge80, lt80, gt80, eq80, le87, ge87, lt87, gt87, eq87, le97, ge97, lt97, gt97, eq97, le99, ge99, lt99, gt99, eq99, le100, ge100, lt100, gt100, eq100, le106, ge106, lt106, gt106, eq106, le111, ge111, lt111, gt111, eq111, le125, ge125, lt125, gt125, eq125, le148, ge148, lt148, gt148, eq148, le200, ge200, lt200, gt200, eq200, le300, ge300, lt300, gt300, eq300, le1332, ge1332, lt1332, gt1332, eq1332, le9999, ge9999, lt9999, gt9999, eq9999, le1000000, ge1000000, lt1000000, gt1000000, eq1000000, ]
    rw [if_neg (by omega), hfr (c + 1) (by omega) hcn, e1, d_addFlow (by omega) e2]
    simp (disch := omega) only [gd_nI, nmI, b1s, b2s, b3s, b4s, b5s, b6s, b7s, le_nI, lt_nI, eq_nI, nI_add, Nat.add_zero, la9, la17, la27, la37, la47, la57, la67, la77, la87, la97, la111, la16, la106, la8, ra0, ra1, ra2, ra3, ra4, ra5, ra6, ra7, ra8, ra16, ra106, lm2, lm3, lm8, lm9, lm10, lm20, lm148, le0, ge0, lt0, gt0, eq0, le1, ge1, lt1, gt1, eq1, le2, ge2, lt2, gt2, eq2, le3, ge3, lt3, gt3, eq3, le4, ge4, lt4, gt4, eq4, le5, ge5, lt5, gt5, eq5, le6, ge6, lt6, gt6, eq6, le7, ge7, lt7, gt7, eq7, le8, ge8, lt8, gt8, eq8, le9, ge9, lt9, gt9, eq9, le10, ge10, lt10, gt10, eq10, le14, ge14, lt14, gt14, eq14, le16, ge16, lt16, gt16, eq16, le17, ge17, lt17, gt17, eq17, le20, ge20, lt20, gt20, eq20, le27, ge27, lt27, gt27, eq27, le37, ge37, lt37, gt37, eq37, le47, ge47, lt47, gt47, eq47, le50, ge50, lt50, gt50, eq50, le57, ge57, lt57, gt57, eq57, le67, ge67, lt67, gt67, eq67, le77, ge77, lt77, gt77, eq77, le80, ge80, lt80, gt80, eq80, le87, ge87, lt87, gt87, eq87, le97, ge97, lt97, gt97, eq97, le99, ge99, lt99, gt99, eq99, le100, ge100, lt100, gt100, eq100, le106, ge106, lt106, gt106, eq106, le111, ge111, lt111, gt111, eq111, le125, ge125, lt125, gt125, eq125, le148, ge148, lt148, gt148, eq148, le200, ge200, lt200, gt200, eq200, le300, ge300, lt300, gt300, eq300, le1332, ge1332, lt1332, gt1332, eq1332, le9999, ge9999, lt9999, gt9999, eq9999, le1000000, ge1000000, lt1000000, gt1000000, eq1000000, ]
    rw [nI_m1 (by omega)]
    exact h1
theorem up_loop {row : zA} {n m : Nat} {par : Nat → Nat} {pl cu : Nat → Nat} (P : PR row n par) (Q : PL row n m pl cu) : ∀ (j i fuel : Nat) (fl : zA), m ≤ i + j → i ≤ m → j < fuel →
    (∀ k, k < n → fl k = nI (sm (fun i => if pl i = k then wgt (bt (row 6)) (ded par (bt (row 7))) pl cu i else 0) i)) →
    ∃ fl', B_X0_addUpCurrents_15 fuel (mask (ded par (bt (row 7))) n) (nI i) row fl = some fl' ∧ ∀ k, k < n → fl' k = nI (crt par (wgt (bt (row 6)) (ded par (bt (row 7))) pl cu) pl m k) := by
  have hn := P.1
  obtain ⟨hm, h5, hl⟩ := Q
  have fin : ∀ (i f : Nat) (fl : zA), i = m → (∀ k, k < n → fl k = nI (sm (fun i => if pl i = k then wgt (bt (row 6)) (ded par (bt (row 7))) pl cu i else 0) i)) →
      ∃ fl', B_X0_addUpCurrents_15 (f + 1) (mask (ded par (bt (row 7))) n) (nI i) row fl = some fl' ∧ ∀ k, k < n → fl' k = nI (crt par (wgt (bt (row 6)) (ded par (bt (row 7))) pl cu) pl m k) := by
    intro i f fl hi hinv
    subst hi
    rw [B_X0_addUpCurrents_15, h5]
    simp (disch := omega) only [gd_nI, nmI, b1s, b2s, b3s, b4s, b5s, b6s, b7s, le_nI, lt_nI, eq_nI, nI_add, Nat.add_zero, la9, la17, la27, la37, la47, la57, la67, la77, la87, la97, la111, la16, la106, la8, ra0, ra1, ra2, ra3, ra4, ra5, ra6, ra7, ra8, ra16, ra106, lm2, lm3, lm8, lm9, lm10, lm20, lm148, le0, ge0, lt0, gt0, eq0, le1, ge1, lt1, gt1, eq1, le2, ge2, lt2, gt2, eq2, le3, ge3, lt3, gt3, eq3, le4, ge4, lt4, gt4, eq4, le5, ge5, lt5, gt5, eq5, le6, ge6, lt6, gt6, eq6, le7, ge7, lt7, gt7, eq7, le8, ge8, lt8, gt8, eq8, le9, ge9, lt9, gt9, eq9, le10, ge10, lt10, gt10, eq10, le14, ge14, lt14, gt14, eq14, le16, ge16, lt16, gt16, eq16, le17, ge17, lt17, gt17, eq17, le20, ge20, lt20, gt20, eq20, le27, ge27, lt27, gt27, eq27, le37, ge37, lt37, gt37, eq37, le47, ge47, lt47, gt47, eq47, le50, ge50, lt50, gt50, eq50, le57, ge57, lt57, gt57, eq57, le67, ge67, lt67, gt67, eq67, le77, ge77, lt77, gt77, eq77, le80, ge80, lt80, gt80, eq80, le87, ge87, lt87, gt87, eq87, le97, ge97, lt97, gt97, eq97, le99, ge99, lt99, gt99, eq99, le100, ge100, lt100, gt100, eq100, le106, ge106, lt106, gt106, eq106, le111, ge111, lt111, gt111, eq111, le125, ge125, lt125, gt125, eq125, le148, ge148, lt148, gt148, eq148, le200, ge200, lt200, gt200, eq200, le300, ge300, lt300, gt300, eq300, le1332, ge1332, lt1332, gt1332, eq1332, le9999, ge9999, lt9999, gt9999, eq9999, le1000000, ge1000000, lt1000000, gt1000000, eq1000000, ]
    simp only [Nat.le_refl, if_true, P.2.1]
    by_cases hn0 : n = 0
    · subst hn0
      refine ⟨fl, ?_, fun k hk => by omega⟩
      obtain ⟨f', hf'⟩ : ∃ f', FU = f' + 1 := ⟨299, FU_eq⟩
      rw [hf', B_X0_addUpCurrents_102, if_pos (by decide)]
    · rw [nI_s1 (by omega)]
      refine down_loop P _ pl i (fun q hq => (hl q hq).1) (n - 1) FU fl (by omega) (FU_lt (by omega)) (fun k hk => ?_)
      rw [hinv k hk]
      congr 1
      have : sm (fun x => if n - 1 < x ∧ (0 < x ∧ par x = k) then crt par (wgt (bt (row 6)) (ded par (bt (row 7))) pl cu) pl i x else 0) n = 0 := sm_z fun x hx => if_neg (by omega)
      rw [this]
      rfl
  intro j
  induction j with
  | zero =>
    intro i fuel fl hj hi hf hinv
    obtain ⟨f, rfl⟩ : ∃ f, fuel = f + 1 := ⟨fuel - 1, by omega⟩
    exact fin i f fl (by omega) hinv
  | succ j ih =>
    intro i fuel fl hj hi hf hinv
    obtain ⟨f, rfl⟩ : ∃ f, fuel = f + 1 := ⟨fuel - 1, by omega⟩
    by_cases him : i = m
    · exact fin i f fl him hinv
    · obtain ⟨hp1, hp2, hp3⟩ := hl i (by omega)
      have skip : wgt (bt (row 6)) (ded par (bt (row 7))) pl cu i = 0 → ∀ k, k < n → fl k = nI (sm (fun i => if pl i = k then wgt (bt (row 6)) (ded par (bt (row 7))) pl cu i else 0) (i + 1)) := by
        intro hw k hk
        rw [hinv k hk]
        congr 1
        show _ = sm _ i + _
        simp only [hw]
        split <;> omega
      rw [B_X0_addUpCurrents_15, h5]
      simp (disch := omega) only [gd_nI, nmI, b1s, b2s, b3s, b4s, b5s, b6s, b7s, le_nI, lt_nI, eq_nI, nI_add, Nat.add_zero, la9, la17, la27, la37, la47, la57, la67, la77, la87, la97, la111, la16, la106, la8, ra0, ra1, ra2, ra3, ra4, ra5, ra6, ra7, ra8, ra16, ra106, lm2, lm3, lm8, lm9, lm10, lm20, lm148, le0, ge0, lt0, gt0, eq0, le1, ge1, lt1, gt1, eq1, le2, ge2, lt2, gt2, eq2, le3, ge3, lt3, gt3, eq3, le4, ge4, lt4, gt4, eq4, le5, ge5, lt5, gt5, eq5, le6, ge6, lt6, gt6, eq6, le7, ge7, lt7, gt7, eq7, le8, ge8, lt8, gt8, eq8, le9, ge9, lt9, gt9, eq9, le10, ge10, lt10, gt10, eq10, le14, ge14, lt14, gt14, eq14, le16, ge16, lt16, gt16, eq16, le17, ge17, lt17, gt17, eq17, le20, ge20, lt20, gt20, eq20, le27, ge27, lt27, gt27, eq27, le37, ge37, lt37, gt37, eq37, le47, ge47, lt47, gt47, eq47, le50, ge50, lt50, gt50, eq50, le57, ge57, lt57, gt57, eq57, le67, ge67, lt67, gt67, eq67, le77, ge77, lt77, gt77, eq77, le80, ge80, lt80, gt80, eq80, le87, ge87, lt87, gt87, eq87, le97, ge97, lt97, gt97, eq97, le99, ge99, lt99, gt99, eq99, le100, ge100, lt100, gt100, eq100, le106, ge106, lt106, gt106, eq106, le111, ge111, lt111, gt111, eq111, le125, ge125, lt125, gt125, eq125, le148, ge148, lt148, gt148, eq148, le200, ge200, lt200, gt200, eq200, le300, ge300, lt300, gt300, eq300, le1332, ge1332, lt1332, gt1332, eq1332, le9999, ge9999, lt9999, gt9999, eq9999, le1000000, ge1000000, lt1000000, gt1000000, eq1000000, ]
      rw [if_neg (by omega)]
      simp only [bt_is0 (row 6) (show i < 32 by omega)]
      by_cases hon : bt (row 6) i = false
      · rw [if_pos hon]
        simp only [B_X0_addUpCurrents_59, B_X0_addUpCurrents_60, if_true, nmI, ra1]
        exact ih (i + 1) f fl (by omega) (by omega) (by omega) (skip (by simp [wgt, hon]))
      · rw [if_neg hon]
        have hon' : bt (row 6) i = true := by simpa using hon
        rw [hp2]
        simp only [bt_is0 _ (show pl i < 32 by omega)]
        have hbm : bt (mask (ded par (bt (row 7))) n) (pl i) = ded par (bt (row 7)) (pl i) := by
          rw [bt_mask _ (by omega) (by omega)]
          simp [hp1]
        rw [hbm]
        by_cases hdd : ded par (bt (row 7)) (pl i) = false
        · rw [if_pos hdd]
          simp only [B_X0_addUpCurrents_60]
          rw [if_neg (by decide)]
          simp (disch := omega) only [gd_nI, nmI, b1s, b2s, b3s, b4s, b5s, b6s, b7s, le_nI, lt_nI, eq_nI, nI_add, Nat.add_zero, la9, la17, la27, la37, la47, la57, la67, la77, la87, la97, la111, la16, la106, la8, ra0, ra1, ra2, ra3, ra4, ra5, ra6, ra7, ra8, ra16, ra106, lm2, lm3, lm8, lm9, lm10, lm20, lm148, le0, ge0, lt0, gt0, eq0, le1, ge1, lt1, gt1, eq1, le2, ge2, lt2, gt2, eq2, le3, ge3, lt3, gt3, eq3, le4, ge4, lt4, gt4, eq4, le5, ge5, lt5, gt5, eq5, le6, ge6, lt6, gt6, eq6, le7, ge7, lt7, gt7, eq7, le8, ge8, lt8, gt8, eq8, le9, ge9, lt9, gt9, eq9, le10, ge10, lt10, gt10, eq10, le14, ge14, lt14, gt14, eq14, le16, ge16, lt16, gt16, eq16, le17, ge17, lt17, gt17, eq17, le20, ge20, lt20, gt20, eq20, le27, ge27, lt27, gt27, eq27, le37, ge37, lt37, gt37, eq37, le47, ge47, lt47, gt47, eq47, le50, ge50, lt50, gt50, eq50, le57, ge57, lt57, gt57, eq57, le67, ge67, lt67, gt67, eq67, le77, ge77, lt77, gt77, eq77, le80, ge80, lt80, gt80, eq80, le87, ge87, lt87, gt87, eq87, le97, ge97, lt97, gt97, eq97, le99, ge99, lt99, gt99, eq99, le100, ge100, lt100, gt100, eq100, le106, ge106, lt106, gt106, eq106, le111, ge111, lt111, gt111, eq111, le125, ge125, lt125, gt125, eq125, le148, ge148, lt148, gt148, eq148, le200, ge200, lt200, gt200, eq200, le300, ge300, lt300, gt300, eq300, le1332, ge1332, lt1332, gt1332, eq1332, le9999, ge9999, lt9999, gt9999, eq9999, le1000000, ge1000000, lt1000000, gt1000000, eq1000000, ]
          rw [hp2, hp3, d_addFlow (by omega) (hinv (pl i) hp1)]
          simp only [b1s]
          refine ih (i + 1) f _ (by omega) (by omega) (by omega) (fun k hk => ?_)
          have hw : wgt (bt (row 6)) (ded par (bt (row 7))) pl cu i = cu i := by simp [wgt, hon', hdd]
          show _ = nI (sm _ i + _)
          simp only [hw]
          by_cases hk2 : k = pl i
          · subst hk2
            show (if pl i = pl i then _ else _) = _
            rw [if_pos rfl, if_pos rfl]
          · have : upd fl (pl i) (nI (sm (fun i_1 => if pl i_1 = pl i then wgt (bt (row 6)) (ded par (bt (row 7))) pl cu i_1 else 0) i + cu i)) k = fl k := if_neg hk2
            rw [this, hinv k hk, if_neg (fun q => hk2 q.symm)]
            rfl
        · rw [if_neg hdd]
          simp only [B_X0_addUpCurrents_59, B_X0_addUpCurrents_60, if_true, nmI, ra1]
          have hdd' : ded par (bt (row 7)) (pl i) = true := by simpa using hdd
          exact ih (i + 1) f fl (by omega) (by omega) (by omega) (skip (by simp [wgt, hdd']))
theorem d_cur {row : zA} {n m : Nat} {par : Nat → Nat} {pl cu : Nat → Nat} (P : PR row n par) (Q : PL row n m pl cu) (flow : zA) : ∃ fl, f_X0_addUpCurrents row flow = some fl ∧ ∀ k, k < n → fl k = nI (crt par (wgt (bt (row 6)) (ded par (bt (row 7))) pl cu) pl m k) := by
  obtain ⟨fl0, h1, h2⟩ := d_fill10 flow
  have hm := Q.1
  have hn := P.1
  obtain ⟨fl, h3, h4⟩ := up_loop P Q 14 0 FU fl0 (by omega) (by omega) (FU_lt (by omega)) (fun k hk => h2 k (by omega))
  refine ⟨fl, ?_, h4⟩
  unfold f_X0_addUpCurrents
  rw [h1, d_dead P]
  exact h3
