/-! Loads, settings -/
theorem rng200 {x : Int32} (h : rng x 1 200 = true) : ∃ k, 1 ≤ k ∧ k ≤ 200 ∧ x = nI k := (rng_nI (l := 1) (h := 200) (by omega)).mp h
theorem op_load {nr s : zA} (h : HR nr s 0) (a1 a2 : Int32) : OPS nr s (f_X0_addLoad a1 a2 nr) (f_X3_loadError a1 a2 s) (f_X3_connects a1 a2 s) := by
  obtain ⟨n, m, T, par, hT, hg, h, hl⟩ := h
  have hn := h.n10
  have h4 : s 4 = nI n := by have := h.s4; rwa [Nat.zero_add] at this
  obtain ⟨pl, cu, ⟨hm, h5, l2⟩, ⟨-, g5', m2⟩, d1, d2⟩ := hl
  have g5 : s 5 = nI m := by rwa [Nat.zero_add] at g5'
  unfold f_X0_addLoad f_X3_loadError
  rw [d_isBoard hn h.r4, r_isBoard hn h4, h5, g5]
  simp only [b1s, s01]
  by_cases hb : rng a1 0 ((n : Int) - 1) = true
  · obtain ⟨k, hk, rfl⟩ := (rng_ex (by omega)).mp hb
    simp only [hb, if_true]
    rw [two_cmp (x := a2) (lo := 1) (hi := 200) (L := 1) (H := 200) (by decide) (by decide), r_rng (x := a2) (L := 1) (H := 200) (by decide) (by decide)]
    simp only [b1s, s01]
    by_cases hc : rng a2 1 200 = true
    · rw [if_pos hc, if_pos hc]
      obtain ⟨c, hc1, hc2, rfl⟩ := rng200 hc
      simp (disch := omega) only [gd_nI, nmI, b1s, b2s, b3s, b4s, b5s, b6s, b7s, le_nI, lt_nI, eq_nI, nI_add, Nat.add_zero, la9, la17, la27, la37, la47, la57, la67, la77, la87, la97, la111, la16, la106, la8, ra0, ra1, ra2, ra3, ra4, ra5, ra6, ra7, ra8, ra16, ra106, lm2, lm3, lm8, lm9, lm10, lm20, lm148, le0, ge0, lt0, gt0, eq0, le1, ge1, lt1, gt1, eq1, le2, ge2, lt2, gt2, eq2, le3, ge3, lt3, gt3, eq3, le4, ge4, lt4, gt4, eq4, le5, ge5, lt5, gt5, eq5, le6, ge6, lt6, gt6, eq6, le7, ge7, lt7, gt7, eq7, le8, ge8, lt8, gt8, eq8, le9, ge9, lt9, gt9, eq9, le10, ge10, lt10, gt10, eq10, le14, ge14, lt14, gt14, eq14, le16, ge16, lt16, gt16, eq16, le17, ge17, lt17, gt17, eq17, le20, ge20, lt20, gt20, eq20, le27, ge27, lt27, gt27, eq27, le37, ge37, lt37, gt37, eq37, le47, ge47, lt47, gt47, eq47, le50, ge50, lt50, gt50, eq50, le57, ge57, lt57, gt57, eq57, le67, ge67, lt67, gt67, eq67, le77, ge77, lt77, gt77, eq77, le80, ge80, lt80, gt80, eq80, le87, ge87, lt87, gt87, eq87, le97, ge97, lt97, gt97, eq97, le99, ge99, lt99, gt99, eq99, le100, ge100, lt100, gt100, eq100, le106, ge106, lt106, gt106, eq106, le111, ge111, lt111, gt111, eq111, le125, ge125, lt125, gt125, eq125, le148, ge148, lt148, gt148, eq148, le200, ge200, lt200, gt200, eq200, le300, ge300, lt300, gt300, eq300, le1332, ge1332, lt1332, gt1332, eq1332, le9999, ge9999, lt9999, gt9999, eq9999, le1000000, ge1000000, lt1000000, gt1000000, eq1000000, ]
      by_cases h14 : m = 14
      · left
        refine ⟨-4, by decide, ?_, ?_⟩
        · rw [if_neg (by omega)]
        · rw [if_pos h14]
      · right
        have e5 : upd (upd (upd s (0 + 106 + 3 * m) (nI k)) (0 + 106 + 3 * m + 1) (nI c)) (0 + 106 + 3 * m + 2) 0 5 = nI m := by rw [upd_ne (by omega), upd_ne (by omega), upd_ne (by omega), g5]
        refine ⟨by rw [if_neg h14], m, upd (upd (upd nr (97 + m) (nI k)) (111 + m) (nI c)) 5 (nI (m + 1)), upd (upd (upd (upd s (0 + 106 + 3 * m) (nI k)) (0 + 106 + 3 * m + 1) (nI c)) (0 + 106 + 3 * m + 2) 0) 5 (nI (m + 1)), by omega, by rw [if_pos (by omega)], ?_, ?_, fun x hx => ?_⟩
        · unfold f_X3_connects
          rw [g5, lA0]
          simp (disch := omega) only [b1s, gd_nI, nmI, ra1, ra2, nI_add]
          rw [e5, nI_1]
        · have r : ∀ j, j ≠ 5 → j ≠ 97 + m → j ≠ 111 + m → upd (upd (upd nr (97 + m) (nI k)) (111 + m) (nI c)) 5 (nI (m + 1)) j = nr j := fun j h1 h2 h3 => by rw [upd_ne h1, upd_ne h3, upd_ne h2]
          have q : ∀ j, j ≠ 5 → j ≠ 0 + 106 + 3 * m → j ≠ 0 + 106 + 3 * m + 1 → j ≠ 0 + 106 + 3 * m + 2 → upd (upd (upd (upd s (0 + 106 + 3 * m) (nI k)) (0 + 106 + 3 * m + 1) (nI c)) (0 + 106 + 3 * m + 2) 0) 5 (nI (m + 1)) j = s j := fun j h1 h2 h3 h4 => by rw [upd_ne h1, upd_ne h4, upd_ne h3, upd_ne h2]
          have hB : BR (upd (upd (upd nr (97 + m) (nI k)) (111 + m) (nI c)) 5 (nI (m + 1))) (upd (upd (upd (upd s (0 + 106 + 3 * m) (nI k)) (0 + 106 + 3 * m + 1) (nI c)) (0 + 106 + 3 * m + 2) 0) 5 (nI (m + 1))) 0 n T (10 * T) par := by
            have h' : BR (upd nr 5 (nI (m + 1))) (upd s 5 (nI (m + 1))) 0 n T (10 * T) par := by
              have r : ∀ j, j ≠ 5 → upd nr 5 (nI (m + 1)) j = nr j := fun j h1 => upd_ne h1
              have q : ∀ j, j ≠ 5 → upd s 5 (nI (m + 1)) j = s j := fun j h1 => upd_ne h1
              refine BR.mk h.n10 (by omega) ?_ ?_ ?_ ?_ ?_ ?_ ?_ ?_ h.par ?_ ?_ ?_ ?_ ?_ ?_ ?_ ?_ ?_ ?_ ?_
              · rw [r 4 (by omega)]; exact h.r4
              · rw [q _ (by omega)]; exact h.s4
              · intro j hj; rw [r j (by omega), q _ (by omega)]; exact h.st0 j hj
              · rw [r 3 (by omega)]; exact h.tm
              · rw [r 0 (by omega)]; exact h.arc
              · rw [r 1 (by omega)]; exact h.coo
              · rw [r 8 (by omega), q _ (by omega), q _ (by omega)]; exact h.bl
              · intro j hj; rw [r _ (by omega), q _ (by omega)]; exact h.lat j hj
              · intro j h0 hj; rw [r _ (by omega), q _ (by omega)]; exact h.fr j h0 hj
              · intro h0; rw [q _ (by omega)]; exact h.f0 h0
              · intro j hj; rw [r _ (by omega), q _ (by omega)]; exact h.rt j hj
              · intro j hj; rw [r _ (by omega), q _ (by omega)]; exact h.kd j hj
              · intro j hj; rw [r _ (by omega), r _ (by omega), q _ (by omega), q _ (by omega)]; exact h.hw j hj
              · intro j hj; rw [r _ (by omega), q _ (by omega)]; exact h.ht j hj
              · intro j hj; rw [r _ (by omega), q _ (by omega)]; exact h.sp j hj
              · intro j hj; rw [r _ (by omega), q _ (by omega)]; exact h.cr j hj
              · intro j hj; rw [r _ (by omega), q _ (by omega)]; exact h.he j hj
              · intro j hj; rw [r _ (by omega)]; exact h.op j hj
              · intro j hj h1; rw [r _ (by omega)]; exact h.h0 j hj h1
            refine h'.mv (fun j hj => ?_) (fun j hj => ?_) (by omega)
            · by_cases hj5 : j = 5
              · subst hj5; rw [upd_eq, upd_eq]
              · rw [r j hj5 (by omega) (by omega), upd_ne hj5]
            · by_cases hj5 : 0 + j = 5
              · rw [hj5, upd_eq, upd_eq]
              · rw [q _ hj5 (by omega) (by omega) (by omega), upd_ne hj5]
          refine ⟨n, m + 1, T, par, hT, hg.of (r 2 (by omega) (by omega) (by omega)), hB, fun i => if i = m then k else pl i, fun i => if i = m then c else cu i, ⟨by omega, upd_eq _ _ _, fun i hi => ?_⟩, ⟨by omega, upd_eq _ _ _, fun i hi => ?_⟩, fun i hi => ?_, fun i hi => ?_⟩
          · by_cases him : i = m
            · subst him
              simp only [if_true]
              exact ⟨hk, by rw [upd_ne (by omega), upd_ne (by omega), upd_eq], by rw [upd_ne (by omega), upd_eq]⟩
            · simp only [if_neg him]
              obtain ⟨z1, z2, z3⟩ := l2 i (by omega)
              exact ⟨z1, by rw [r _ (by omega) (by omega) (by omega)]; exact z2, by rw [r _ (by omega) (by omega) (by omega)]; exact z3⟩
          · rw [r 6 (by omega) (by omega) (by omega)]
            by_cases him : i = m
            · subst him
              simp only [if_true]
              refine ⟨hk, by rw [upd_ne (by omega), upd_ne (by omega), upd_ne (by omega), upd_eq], by rw [upd_ne (by omega), upd_ne (by omega), upd_eq], ?_⟩
              rw [upd_ne (by omega), upd_eq, d2 i (Nat.le_refl _)]
              rfl
            · simp only [if_neg him]
              obtain ⟨z1, z2, z3, z4⟩ := m2 i (by omega)
              exact ⟨z1, by rw [q _ (by omega) (by omega) (by omega) (by omega)]; exact z2, by rw [q _ (by omega) (by omega) (by omega) (by omega)]; exact z3, by rw [q _ (by omega) (by omega) (by omega) (by omega)]; exact z4⟩
          · by_cases him : i = m
            · simp only [if_pos him]
              exact ⟨hc1, hc2⟩
            · simp only [if_neg him]
              exact d1 i (by omega)
          · rw [r 6 (by omega) (by omega) (by omega)]
            exact d2 i (by omega)
        · rw [upd_ne (by omega), upd_ne (by omega), upd_ne (by omega), upd_ne (by omega)]
    · rw [if_neg hc, if_neg hc]
      exact Or.inl ⟨-2, by decide, rfl, rfl⟩
  · rw [if_neg hb, if_neg hb]
    exact Or.inl ⟨-1, by decide, rfl, rfl⟩
theorem bt_flip (m : Int32) {k j : Nat} (hk : k < 32) (hj : j < 32) : bt (m ^^^ ((1 : Int32) <<< (nI k &&& 31))) j = (bt m j ^^ decide (j = k)) := by rw [bt_xor, bt_shl1 hk hj]
theorem op_turn {nr s : zA} (h : HR nr s 0) (a1 : Int32) : OPS nr s (f_X0_switchLoad a1 nr) (f_X3_turnError a1 s) (f_X3_turns a1 s) := by
  obtain ⟨n, m, T, par, hT, hg, h, hl⟩ := h
  have hn := h.n10
  obtain ⟨pl, cu, ⟨hm, h5, l2⟩, ⟨-, g5', m2⟩, d1, d2⟩ := hl
  have g5 : s 5 = nI m := by rwa [Nat.zero_add] at g5'
  unfold f_X0_switchLoad f_X3_turnError
  rw [d_isLoad hm h5, r_isLoad hm g5]
  simp only [b1s, s01]
  by_cases hb : rng a1 0 ((m : Int) - 1) = true
  · obtain ⟨k, hk, rfl⟩ := (rng_ex (by omega)).mp hb
    simp only [hb, if_true, nmI]
    right
    obtain ⟨z1, z2, z3, z4⟩ := m2 k hk
    obtain ⟨y1, y2, y3⟩ := l2 k hk
    have hv : ∀ v : Bool, (if v then (1 : Int32) else 0) = nI (if v then 1 else 0) := fun v => by cases v <;> rfl
    have hx : 1 - s (0 + 106 + 3 * k + 2) = if !bt (nr 6) k then 1 else 0 := by
      rw [z4]
      cases bt (nr 6) k <;> rfl
    refine ⟨rfl, if !bt (nr 6) k then 1 else 0, upd nr 6 (nr 6 ^^^ ((1 : Int32) <<< (nI k &&& 31))), upd s (0 + 106 + 3 * k + 2) (if !bt (nr 6) k then 1 else 0), by split <;> omega, ?_, ?_, ?_, fun x hx => upd_ne (by omega)⟩
    · rw [upd_eq, bt_get _ (by omega), bt_flip _ (by omega) (by omega), ← hv]
      simp
    · unfold f_X3_turns
      rw [lA0]
      simp (disch := omega) only [b1s, gd_nI, nmI, ra2, hx]
      rw [upd_eq, ← hv]
    · have r : ∀ j, j ≠ 6 → upd nr 6 (nr 6 ^^^ ((1 : Int32) <<< (nI k &&& 31))) j = nr j := fun j h1 => upd_ne h1
      have q : ∀ j, j ≠ 0 + 106 + 3 * k + 2 → upd s (0 + 106 + 3 * k + 2) (if !bt (nr 6) k then 1 else 0) j = s j := fun j h1 => upd_ne h1
      have hB : BR (upd nr 6 (nr 6 ^^^ ((1 : Int32) <<< (nI k &&& 31)))) (upd s (0 + 106 + 3 * k + 2) (if !bt (nr 6) k then 1 else 0)) 0 n T (10 * T) par := by
        refine BR.mk h.n10 (by omega) ?_ ?_ ?_ ?_ ?_ ?_ ?_ ?_ h.par ?_ ?_ ?_ ?_ ?_ ?_ ?_ ?_ ?_ ?_ ?_
        · rw [r 4 (by omega)]; exact h.r4
        · rw [q _ (by omega)]; exact h.s4
        · intro j hj; rw [r j (by omega), q _ (by omega)]; exact h.st0 j hj
        · rw [r 3 (by omega)]; exact h.tm
        · rw [r 0 (by omega)]; exact h.arc
        · rw [r 1 (by omega)]; exact h.coo
        · rw [r 8 (by omega), q _ (by omega), q _ (by omega)]; exact h.bl
        · intro j hj; rw [r _ (by omega), q _ (by omega)]; exact h.lat j hj
        · intro j h0 hj; rw [r _ (by omega), q _ (by omega)]; exact h.fr j h0 hj
        · intro h0; rw [q _ (by omega)]; exact h.f0 h0
        · intro j hj; rw [r _ (by omega), q _ (by omega)]; exact h.rt j hj
        · intro j hj; rw [r _ (by omega), q _ (by omega)]; exact h.kd j hj
        · intro j hj; rw [r _ (by omega), r _ (by omega), q _ (by omega), q _ (by omega)]; exact h.hw j hj
        · intro j hj; rw [r _ (by omega), q _ (by omega)]; exact h.ht j hj
        · intro j hj; rw [r _ (by omega), q _ (by omega)]; exact h.sp j hj
        · intro j hj; rw [r _ (by omega), q _ (by omega)]; exact h.cr j hj
        · intro j hj; rw [r _ (by omega), q _ (by omega)]; exact h.he j hj
        · intro j hj; rw [r _ (by omega)]; exact h.op j hj
        · intro j hj h1; rw [r _ (by omega)]; exact h.h0 j hj h1
      refine ⟨n, m, T, par, hT, hg.of (r 2 (by omega)), hB, pl, cu, ⟨hm, by rw [r 5 (by omega)]; exact h5, fun i hi => ?_⟩, ⟨hm, by rw [q _ (by omega)]; exact g5', fun i hi => ?_⟩, d1, fun i hi => ?_⟩
      · rw [r _ (by omega), r _ (by omega)]
        exact l2 i hi
      · obtain ⟨x1, x2, x3, x4⟩ := m2 i hi
        rw [upd_eq, bt_flip _ (by omega) (by omega), q _ (by omega), q _ (by omega)]
        refine ⟨x1, x2, x3, ?_⟩
        by_cases hik : i = k
        · subst hik
          rw [upd_eq]
          simp
        · rw [q _ (by omega), x4]
          simp [hik]
      · rw [upd_eq]
        by_cases h32 : i < 32
        · rw [bt_flip _ (by omega) h32, d2 i hi]
          have : ¬ i = k := by omega
          simp [this]
        · exact bt_big _ (by omega)
  · rw [if_neg hb, if_neg hb]
    exact Or.inl ⟨-1, by decide, rfl, rfl⟩
