/-! A tick, whole -/
theorem bt_cond {c : Prop} [Decidable c] {m : Int32} {k j : Nat} (hk : k < 32) (hj : j ≠ k) : bt (if c then m ||| ((1 : Int32) <<< (nI k &&& 31)) else m) j = bt m j := by
  by_cases h : c
  · rw [if_pos h]
    by_cases h32 : j < 32
    · rw [bt_set _ hk h32]
      simp [hj]
    · rw [bt_big _ (by omega), bt_big _ (by omega)]
  · rw [if_neg h]
theorem blow_sim {row s : zA} {b n T X k : Nat} {par : Nat → Nat} (h : BR row s b n T X par) (hk : k < n) (hX : X < 1000000) (hnb : row (47 + k) = 0) (hno : bt (row 7) k = false) :
    ∃ row' s', f_X0_blow (nI k) row = some row' ∧ f_X3_blows (nI b) (nI k) s = some s' ∧ BR row' s' b n T (X + 1) par ∧ FRr row row' ∧ FRs s s' b ∧ (∀ i, i ≠ k → row' (47 + i) = row (47 + i) ∨ 10 ≤ i) ∧ (∀ i, i ≠ k → bt (row' 7) i = bt (row 7) i) := by
  have hn := h.n10
  have hb := h.b14
  obtain ⟨B, hB, eB1, eB2, eB3⟩ := h.bl
  obtain ⟨row', r1, r2, r3, r4, r5, r6, r7, r8⟩ := d_blow (row := row) (k := k) (by omega)
  obtain ⟨s', q1, q2, q3, q4, q5, q6, q7, q8, q9⟩ := r_blow (s := s) (b := b) (k := k) (q := min 8 B) (by omega) hb (by omega) eB3
  obtain ⟨a, ha, ea⟩ := h.arc
  have e0 : s b = nI a := by rw [← ea, h.st0 0 (by omega)]; rfl
  have r : ∀ j, j ≠ 47 + k → j ≠ 7 → j ≠ 8 → j ≠ 87 + k → (j < 9 ∨ 16 < j) → row' j = row j := r2
  have q : ∀ j, j ≠ b + 16 + 9 * k + 3 → j ≠ b + 16 + 9 * k + 7 → j ≠ b + 16 + 9 * k + 8 → j ≠ b + 6 → j ≠ b + 7 → (j < b + 8 ∨ b + 15 < j) → s' j = s j := q2
  have hbt : ∀ i, i ≠ k → bt (row' 7) i = bt (row 7) i := fun i hi => by rw [r4]; exact bt_cond (by omega) hi
  refine ⟨row', s', r1, q1, ?_, ?_, ?_, ?_, hbt⟩
  · refine BR.mk h.n10 h.b14 ?_ ?_ ?_ ?_ ?_ ?_ ?_ ?_ h.par ?_ ?_ ?_ ?_ ?_ ?_ ?_ ?_ ?_ ?_ ?_
    · rw [r 4 (by omega) (by omega) (by omega) (by omega) (by omega)]; exact h.r4
    · rw [q _ (by omega) (by omega) (by omega) (by omega) (by omega) (by omega)]; exact h.s4
    · intro j hj; rw [r j (by omega) (by omega) (by omega) (by omega) (by omega), q _ (by omega) (by omega) (by omega) (by omega) (by omega) (by omega)]; exact h.st0 j hj
    · rw [r 3 (by omega) (by omega) (by omega) (by omega) (by omega)]; exact h.tm
    · rw [r 0 (by omega) (by omega) (by omega) (by omega) (by omega)]; exact h.arc
    · rw [r 1 (by omega) (by omega) (by omega) (by omega) (by omega)]; exact h.coo
    · refine ⟨B + 1, by omega, ?_, ?_, ?_⟩
      · rw [r5, eB1, nI_1]
      · rw [q6, eB2, nI_1]
      · rw [q7]
        congr 1
        omega
    · intro j hj
      by_cases hj0 : j = 0
      · subst hj0
        rw [show 9 + 0 = 9 from rfl, r7, Nat.add_zero, q8]
      · rw [r8 j (by omega) hj, q9 j (by omega) hj]
        have := h.lat (j - 1) (by omega)
        rw [show 9 + j - 1 = 9 + (j - 1) by omega, show b + 8 + j - 1 = b + 8 + (j - 1) by omega]
        exact this
    · intro j h0 hj; rw [r _ (by omega) (by omega) (by omega) (by omega) (by omega), q _ (by omega) (by omega) (by omega) (by omega) (by omega) (by omega)]; exact h.fr j h0 hj
    · intro h0; rw [q _ (by omega) (by omega) (by omega) (by omega) (by omega) (by omega)]; exact h.f0 h0
    · intro j hj; rw [r _ (by omega) (by omega) (by omega) (by omega) (by omega), q _ (by omega) (by omega) (by omega) (by omega) (by omega) (by omega)]; exact h.rt j hj
    · intro j hj; rw [r _ (by omega) (by omega) (by omega) (by omega) (by omega), q _ (by omega) (by omega) (by omega) (by omega) (by omega) (by omega)]; exact h.kd j hj
    · intro j hj
      by_cases hjk : j = k
      · subst hjk
        rw [r3, r4, q3, q4, ea, e0]
        refine ⟨a, ha, rfl, rfl, ?_⟩
        by_cases ha0 : a = 0
        · right
          subst ha0
          refine ⟨?_, rfl, ?_⟩
          · rw [if_pos (by rfl), bt_set _ (by omega) (by omega)]
            simp
          · rw [if_pos (by rfl)]
        · left
          have : ¬ nI a = 0 := by rw [eq0 (by omega)]; exact ha0
          rw [if_neg this, if_neg this]
          exact ⟨hno, Or.inr ⟨by omega, rfl⟩⟩
      · rw [r _ (by omega) (by omega) (by omega) (by omega) (by omega), q _ (by omega) (by omega) (by omega) (by omega) (by omega) (by omega), q _ (by omega) (by omega) (by omega) (by omega) (by omega) (by omega), hbt j hjk]; exact h.hw j hj
    · intro j hj; rw [r _ (by omega) (by omega) (by omega) (by omega) (by omega), q _ (by omega) (by omega) (by omega) (by omega) (by omega) (by omega)]; exact h.ht j hj
    · intro j hj; rw [r _ (by omega) (by omega) (by omega) (by omega) (by omega), q _ (by omega) (by omega) (by omega) (by omega) (by omega) (by omega)]; exact h.sp j hj
    · intro j hj; rw [r _ (by omega) (by omega) (by omega) (by omega) (by omega), q _ (by omega) (by omega) (by omega) (by omega) (by omega) (by omega)]; exact h.cr j hj
    · intro j hj
      by_cases hjk : j = k
      · subst hjk
        rw [r6, q5, h.he j hj]
      · rw [r _ (by omega) (by omega) (by omega) (by omega) (by omega), q _ (by omega) (by omega) (by omega) (by omega) (by omega) (by omega)]; exact h.he j hj
    · intro j hj; rw [hbt j (by omega)]; exact h.op j hj
    · intro j hj h1; rw [r _ (by omega) (by omega) (by omega) (by omega) (by omega)]; exact h.h0 j hj h1
  · intro j hj; exact r j (by omega) (by omega) (by omega) (by omega) (by omega)
  · intro j hj; exact q j (by omega) (by omega) (by omega) (by omega) (by omega) (by omega)
  · intro i hi
    by_cases h10 : i < 10
    · exact Or.inl (r _ (by omega) (by omega) (by omega) (by omega) (by omega))
    · exact Or.inr (by omega)
theorem blow_loop {b n T : Nat} {par : Nat → Nat} {flow cu ho mf : zA} {hot : Nat → Bool} (hho : ∀ i, i < n → ho i = if hot i then 1 else 0) (hT : T < 100000) : ∀ (j k X : Nat) (row s : zA), n = k + j → X + j < 1000000 → BR row s b n T X par → (∀ i, k ≤ i → i < n → hot i = true → row (47 + i) = 0 ∧ bt (row 7) i = false) →
    ∃ row' s', (∀ fuel, j < fuel → B_X0_tick_56 fuel (mask (near par hot n) n) (nI k) row flow = some (mask (near par hot n) n, row', flow)) ∧
      (∀ fuel, j < fuel → B_X3_tick_141 fuel (nI b) (nI n) (mask (near par hot n) k) (nI k) s cu ho mf = some (mask (near par hot n) n, s', cu, ho)) ∧ BR row' s' b n (T + 1) (X + j) par ∧ FRr row row' ∧ FRs s s' b := by
  intro j
  induction j with
  | zero =>
    intro k X row s hk hX h hq
    have hn := h.n10
    have hb := h.b14
    have e3 : s (b + 3) = nI T := by rw [← h.st0 3 (by omega)]; exact h.tm
    refine ⟨upd row 3 (nI (T + 1)), upd s (b + 3) (nI (T + 1)), fun fuel hf => ?_, fun fuel hf => ?_, ?_, ?_, ?_⟩
    · obtain ⟨f, rfl⟩ : ∃ f, fuel = f + 1 := ⟨fuel - 1, by omega⟩
      rw [B_X0_tick_56, h.r4, h.tm]
      simp (disch := omega) only [gd_nI, nmI, b1s, b2s, b3s, b4s, b5s, b6s, b7s, le_nI, lt_nI, eq_nI, nI_add, Nat.add_zero, la9, la17, la27, la37, la47, la57, la67, la77, la87, la97, la111, la16, la106, la8, ra0, ra1, ra2, ra3, ra4, ra5, ra6, ra7, ra8, ra16, ra106, lm2, lm3, lm8, lm9, lm10, lm20, lm148, le0, ge0, lt0, gt0, eq0, le1, ge1, lt1, gt1, eq1, le2, ge2, lt2, gt2, eq2, le3, ge3, lt3, gt3, eq3, le4, ge4, lt4, gt4, eq4, le5, ge5, lt5, gt5, eq5, le6, ge6, lt6, gt6, eq6, le7, ge7, lt7, gt7, eq7, le8, ge8, lt8, gt8, eq8, le9, ge9, lt9, gt9, eq9, le10, ge10, lt10, gt10, eq10, le14, ge14, lt14, gt14, eq14, le16, ge16, lt16, gt16, eq16, le17, ge17, lt17, gt17, eq17, le20, ge20, lt20, gt20, eq20, le27, ge27, lt27, gt27, eq27, le37, ge37, lt37, gt37, eq37, le47, ge47, lt47, gt47, eq47, le50, ge50, lt50, gt50, eq50, le57, ge57, lt57, gt57, eq57, le67, ge67, lt67, gt67, eq67, le77, ge77, lt77, gt77, eq77, le80, ge80, lt80, gt80, eq80, le87, ge87, lt87, gt87, eq87, le97, ge97, lt97, gt97, eq97, le99, ge99, lt99, gt99, eq99, le100, ge100, lt100, gt100, eq100, le106, ge106, lt106, gt106, eq106, le111, ge111, lt111, gt111, eq111, le125, ge125, lt125, gt125, eq125, le148, ge148, lt148, gt148, eq148, le200, ge200, lt200, gt200, eq200, le300, ge300, lt300, gt300, eq300, le1332, ge1332, lt1332, gt1332, eq1332, le9999, ge9999, lt9999, gt9999, eq9999, le1000000, ge1000000, lt1000000, gt1000000, eq1000000, ]
      rw [if_pos (by omega)]
    · obtain ⟨f, rfl⟩ : ∃ f, fuel = f + 1 := ⟨fuel - 1, by omega⟩
      rw [B_X3_tick_141]
      simp (disch := omega) only [gd_nI, nmI, b1s, b2s, b3s, b4s, b5s, b6s, b7s, le_nI, lt_nI, eq_nI, nI_add, Nat.add_zero, la9, la17, la27, la37, la47, la57, la67, la77, la87, la97, la111, la16, la106, la8, ra0, ra1, ra2, ra3, ra4, ra5, ra6, ra7, ra8, ra16, ra106, lm2, lm3, lm8, lm9, lm10, lm20, lm148, le0, ge0, lt0, gt0, eq0, le1, ge1, lt1, gt1, eq1, le2, ge2, lt2, gt2, eq2, le3, ge3, lt3, gt3, eq3, le4, ge4, lt4, gt4, eq4, le5, ge5, lt5, gt5, eq5, le6, ge6, lt6, gt6, eq6, le7, ge7, lt7, gt7, eq7, le8, ge8, lt8, gt8, eq8, le9, ge9, lt9, gt9, eq9, le10, ge10, lt10, gt10, eq10, le14, ge14, lt14, gt14, eq14, le16, ge16, lt16, gt16, eq16, le17, ge17, lt17, gt17, eq17, le20, ge20, lt20, gt20, eq20, le27, ge27, lt27, gt27, eq27, le37, ge37, lt37, gt37, eq37, le47, ge47, lt47, gt47, eq47, le50, ge50, lt50, gt50, eq50, le57, ge57, lt57, gt57, eq57, le67, ge67, lt67, gt67, eq67, le77, ge77, lt77, gt77, eq77, le80, ge80, lt80, gt80, eq80, le87, ge87, lt87, gt87, eq87, le97, ge97, lt97, gt97, eq97, le99, ge99, lt99, gt99, eq99, le100, ge100, lt100, gt100, eq100, le106, ge106, lt106, gt106, eq106, le111, ge111, lt111, gt111, eq111, le125, ge125, lt125, gt125, eq125, le148, ge148, lt148, gt148, eq148, le200, ge200, lt200, gt200, eq200, le300, ge300, lt300, gt300, eq300, le1332, ge1332, lt1332, gt1332, eq1332, le9999, ge9999, lt9999, gt9999, eq9999, le1000000, ge1000000, lt1000000, gt1000000, eq1000000,  e3]
      rw [if_pos (by omega), show n = k by omega]
    · have r : ∀ j, j ≠ 3 → upd row 3 (nI (T + 1)) j = row j := fun j hj => upd_ne hj
      have q : ∀ j, j ≠ b + 3 → upd s (b + 3) (nI (T + 1)) j = s j := fun j hj => upd_ne hj
      refine BR.mk h.n10 h.b14 ?_ ?_ ?_ ?_ ?_ ?_ ?_ ?_ h.par ?_ ?_ ?_ ?_ ?_ ?_ ?_ ?_ ?_ ?_ ?_
      · rw [r 4 (by omega)]; exact h.r4
      · rw [q _ (by omega)]; exact h.s4
      · intro j hj
        by_cases hj3 : j = 3
        · subst hj3; rw [upd_eq, upd_eq]
        · rw [r j hj3, q _ (by omega)]; exact h.st0 j hj
      · rw [upd_eq]
      · rw [r 0 (by omega)]; exact h.arc
      · rw [r 1 (by omega)]; exact h.coo
      · rw [r 8 (by omega), q _ (by omega), q _ (by omega)]; exact h.bl
      · intro j hj; rw [r _ (by omega), q _ (by omega)]; exact h.lat j hj
      · intro j h0 hj; rw [r _ (by omega), q _ (by omega)]; exact h.fr j h0 hj
      · intro h0; rw [q _ (by omega)]; exact h.f0 h0
      · intro j hj; rw [r _ (by omega), q _ (by omega)]; exact h.rt j hj
      · intro j hj; rw [r _ (by omega), q _ (by omega)]; exact h.kd j hj
      · intro j hj; rw [r _ (by omega), r _ (by omega), q _ (by omega), q _ (by omega)]; exact h.hw j hj
      · intro j hj; rw [r _ (by omega), q _ (by omega)]; exact h.ht j hj
      · intro j hj; rw [r _ (by omega), q _ (by omega)]; exact h.sp j hj
      · intro j hj; rw [r _ (by omega), q _ (by omega)]; exact h.cr j hj
      · intro j hj; rw [r _ (by omega), q _ (by omega)]; exact h.he j hj
      · intro j hj; rw [r _ (by omega)]; exact h.op j hj
      · intro j hj h1; rw [r _ (by omega)]; exact h.h0 j hj h1
    · intro j hj; exact upd_ne (by omega)
    · intro j hj; exact upd_ne (by omega)
  | succ j ih =>
    intro k X row s hk hX h hq
    have hn := h.n10
    have hb := h.b14
    have hkn : k < n := by omega
    have hbm : bt (mask (near par hot n) n) k = near par hot n k := by
      rw [bt_mask _ (by omega) (by omega)]
      simp [hkn]
    by_cases hne : near par hot n k = true
    · have hhot : hot k = true := by
        unfold near at hne
        exact (Bool.and_eq_true_iff.mp hne).1
      have hner : ner par hot n k = true := by
        unfold near at hne
        exact (Bool.and_eq_true_iff.mp hne).2
      obtain ⟨g1, g2⟩ := hq k (Nat.le_refl _) hkn hhot
      obtain ⟨row1, s1, w1, w2, w3, w4, w5, w6, w7⟩ := blow_sim h hkn (by omega) g1 g2
      obtain ⟨row', s', a1, a2, a3, a4, a5⟩ := ih (k + 1) (X + 1) row1 s1 (by omega) (by omega) w3 (fun i hi1 hi2 hi3 => by
        obtain ⟨c1, c2⟩ := hq i (by omega) hi2 hi3
        refine ⟨?_, by rw [w7 i (by omega)]; exact c2⟩
        rcases w6 i (by omega) with z | z
        · rw [z]; exact c1
        · omega)
      refine ⟨row', s', fun fuel hf => ?_, fun fuel hf => ?_, ?_, w4.tr a4, w5.tr a5⟩
      · obtain ⟨f, rfl⟩ : ∃ f, fuel = f + 1 := ⟨fuel - 1, by omega⟩
        rw [B_X0_tick_56, h.r4]
        simp (disch := omega) only [gd_nI, nmI, b1s, b2s, b3s, b4s, b5s, b6s, b7s, le_nI, lt_nI, eq_nI, nI_add, Nat.add_zero, la9, la17, la27, la37, la47, la57, la67, la77, la87, la97, la111, la16, la106, la8, ra0, ra1, ra2, ra3, ra4, ra5, ra6, ra7, ra8, ra16, ra106, lm2, lm3, lm8, lm9, lm10, lm20, lm148, le0, ge0, lt0, gt0, eq0, le1, ge1, lt1, gt1, eq1, le2, ge2, lt2, gt2, eq2, le3, ge3, lt3, gt3, eq3, le4, ge4, lt4, gt4, eq4, le5, ge5, lt5, gt5, eq5, le6, ge6, lt6, gt6, eq6, le7, ge7, lt7, gt7, eq7, le8, ge8, lt8, gt8, eq8, le9, ge9, lt9, gt9, eq9, le10, ge10, lt10, gt10, eq10, le14, ge14, lt14, gt14, eq14, le16, ge16, lt16, gt16, eq16, le17, ge17, lt17, gt17, eq17, le20, ge20, lt20, gt20, eq20, le27, ge27, lt27, gt27, eq27, le37, ge37, lt37, gt37, eq37, le47, ge47, lt47, gt47, eq47, le50, ge50, lt50, gt50, eq50, le57, ge57, lt57, gt57, eq57, le67, ge67, lt67, gt67, eq67, le77, ge77, lt77, gt77, eq77, le80, ge80, lt80, gt80, eq80, le87, ge87, lt87, gt87, eq87, le97, ge97, lt97, gt97, eq97, le99, ge99, lt99, gt99, eq99, le100, ge100, lt100, gt100, eq100, le106, ge106, lt106, gt106, eq106, le111, ge111, lt111, gt111, eq111, le125, ge125, lt125, gt125, eq125, le148, ge148, lt148, gt148, eq148, le200, ge200, lt200, gt200, eq200, le300, ge300, lt300, gt300, eq300, le1332, ge1332, lt1332, gt1332, eq1332, le9999, ge9999, lt9999, gt9999, eq9999, le1000000, ge1000000, lt1000000, gt1000000, eq1000000, ]
        rw [if_neg (by omega)]
        simp only [bt_is0 _ (show k < 32 by omega)]
        rw [hbm, if_neg (by simp [hne]), w1]
        simp only [b1s]
        exact a1 f (by omega)
      · obtain ⟨f, rfl⟩ : ∃ f, fuel = f + 1 := ⟨fuel - 1, by omega⟩
        rw [B_X3_tick_141]
        simp (disch := omega) only [gd_nI, nmI, b1s, b2s, b3s, b4s, b5s, b6s, b7s, le_nI, lt_nI, eq_nI, nI_add, Nat.add_zero, la9, la17, la27, la37, la47, la57, la67, la77, la87, la97, la111, la16, la106, la8, ra0, ra1, ra2, ra3, ra4, ra5, ra6, ra7, ra8, ra16, ra106, lm2, lm3, lm8, lm9, lm10, lm20, lm148, le0, ge0, lt0, gt0, eq0, le1, ge1, lt1, gt1, eq1, le2, ge2, lt2, gt2, eq2, le3, ge3, lt3, gt3, eq3, le4, ge4, lt4, gt4, eq4, le5, ge5, lt5, gt5, eq5, le6, ge6, lt6, gt6, eq6, le7, ge7, lt7, gt7, eq7, le8, ge8, lt8, gt8, eq8, le9, ge9, lt9, gt9, eq9, le10, ge10, lt10, gt10, eq10, le14, ge14, lt14, gt14, eq14, le16, ge16, lt16, gt16, eq16, le17, ge17, lt17, gt17, eq17, le20, ge20, lt20, gt20, eq20, le27, ge27, lt27, gt27, eq27, le37, ge37, lt37, gt37, eq37, le47, ge47, lt47, gt47, eq47, le50, ge50, lt50, gt50, eq50, le57, ge57, lt57, gt57, eq57, le67, ge67, lt67, gt67, eq67, le77, ge77, lt77, gt77, eq77, le80, ge80, lt80, gt80, eq80, le87, ge87, lt87, gt87, eq87, le97, ge97, lt97, gt97, eq97, le99, ge99, lt99, gt99, eq99, le100, ge100, lt100, gt100, eq100, le106, ge106, lt106, gt106, eq106, le111, ge111, lt111, gt111, eq111, le125, ge125, lt125, gt125, eq125, le148, ge148, lt148, gt148, eq148, le200, ge200, lt200, gt200, eq200, le300, ge300, lt300, gt300, eq300, le1332, ge1332, lt1332, gt1332, eq1332, le9999, ge9999, lt9999, gt9999, eq9999, le1000000, ge1000000, lt1000000, gt1000000, eq1000000, ]
        rw [if_neg (by omega), hho k hkn, if_pos hhot, if_neg (by decide), r_near h.PS hho hkn, if_pos hner]
        simp only [b1s]
        rw [if_neg (by decide), w2]
        simp only [b1s]
        have := a2 f (by omega)
        rw [mask_s, if_pos hne] at this
        exact this
      · have := a3
        rw [show X + 1 + j = X + (j + 1) by omega] at this
        exact this
    · have hne' : near par hot n k = false := by simpa using hne
      obtain ⟨row', s', a1, a2, a3, a4, a5⟩ := ih (k + 1) X row s (by omega) (by omega) h (fun i hi1 hi2 hi3 => hq i (by omega) hi2 hi3)
      have a3' : BR row' s' b n (T + 1) (X + (j + 1)) par := by
        obtain ⟨B, hB, z⟩ := a3.bl
        exact BR.mk a3.n10 a3.b14 a3.r4 a3.s4 a3.st0 a3.tm a3.arc a3.coo ⟨B, by omega, z⟩ a3.lat a3.par a3.fr a3.f0 a3.rt a3.kd a3.hw a3.ht a3.sp a3.cr a3.he a3.op a3.h0
      refine ⟨row', s', fun fuel hf => ?_, fun fuel hf => ?_, a3', a4, a5⟩
      · obtain ⟨f, rfl⟩ : ∃ f, fuel = f + 1 := ⟨fuel - 1, by omega⟩
        rw [B_X0_tick_56, h.r4]
        simp (disch := omega) only [gd_nI, nmI, b1s, b2s, b3s, b4s, b5s, b6s, b7s, le_nI, lt_nI, eq_nI, nI_add, Nat.add_zero, la9, la17, la27, la37, la47, la57, la67, la77, la87, la97, la111, la16, la106, la8, ra0, ra1, ra2, ra3, ra4, ra5, ra6, ra7, ra8, ra16, ra106, lm2, lm3, lm8, lm9, lm10, lm20, lm148, le0, ge0, lt0, gt0, eq0, le1, ge1, lt1, gt1, eq1, le2, ge2, lt2, gt2, eq2, le3, ge3, lt3, gt3, eq3, le4, ge4, lt4, gt4, eq4, le5, ge5, lt5, gt5, eq5, le6, ge6, lt6, gt6, eq6, le7, ge7, lt7, gt7, eq7, le8, ge8, lt8, gt8, eq8, le9, ge9, lt9, gt9, eq9, le10, ge10, lt10, gt10, eq10, le14, ge14, lt14, gt14, eq14, le16, ge16, lt16, gt16, eq16, le17, ge17, lt17, gt17, eq17, le20, ge20, lt20, gt20, eq20, le27, ge27, lt27, gt27, eq27, le37, ge37, lt37, gt37, eq37, le47, ge47, lt47, gt47, eq47, le50, ge50, lt50, gt50, eq50, le57, ge57, lt57, gt57, eq57, le67, ge67, lt67, gt67, eq67, le77, ge77, lt77, gt77, eq77, le80, ge80, lt80, gt80, eq80, le87, ge87, lt87, gt87, eq87, le97, ge97, lt97, gt97, eq97, le99, ge99, lt99, gt99, eq99, le100, ge100, lt100, gt100, eq100, le106, ge106, lt106, gt106, eq106, le111, ge111, lt111, gt111, eq111, le125, ge125, lt125, gt125, eq125, le148, ge148, lt148, gt148, eq148, le200, ge200, lt200, gt200, eq200, le300, ge300, lt300, gt300, eq300, le1332, ge1332, lt1332, gt1332, eq1332, le9999, ge9999, lt9999, gt9999, eq9999, le1000000, ge1000000, lt1000000, gt1000000, eq1000000, ]
        rw [if_neg (by omega)]
        simp only [bt_is0 _ (show k < 32 by omega)]
        rw [hbm, if_pos hne']
        exact a1 f (by omega)
      · obtain ⟨f, rfl⟩ : ∃ f, fuel = f + 1 := ⟨fuel - 1, by omega⟩
        have := a2 f (by omega)
        rw [mask_s, hne'] at this
        simp only [Bool.false_eq_true, if_false] at this
        rw [B_X3_tick_141]
        simp (disch := omega) only [gd_nI, nmI, b1s, b2s, b3s, b4s, b5s, b6s, b7s, le_nI, lt_nI, eq_nI, nI_add, Nat.add_zero, la9, la17, la27, la37, la47, la57, la67, la77, la87, la97, la111, la16, la106, la8, ra0, ra1, ra2, ra3, ra4, ra5, ra6, ra7, ra8, ra16, ra106, lm2, lm3, lm8, lm9, lm10, lm20, lm148, le0, ge0, lt0, gt0, eq0, le1, ge1, lt1, gt1, eq1, le2, ge2, lt2, gt2, eq2, le3, ge3, lt3, gt3, eq3, le4, ge4, lt4, gt4, eq4, le5, ge5, lt5, gt5, eq5, le6, ge6, lt6, gt6, eq6, le7, ge7, lt7, gt7, eq7, le8, ge8, lt8, gt8, eq8, le9, ge9, lt9, gt9, eq9, le10, ge10, lt10, gt10, eq10, le14, ge14, lt14, gt14, eq14, le16, ge16, lt16, gt16, eq16, le17, ge17, lt17, gt17, eq17, le20, ge20, lt20, gt20, eq20, le27, ge27, lt27, gt27, eq27, le37, ge37, lt37, gt37, eq37, le47, ge47, lt47, gt47, eq47, le50, ge50, lt50, gt50, eq50, le57, ge57, lt57, gt57, eq57, le67, ge67, lt67, gt67, eq67, le77, ge77, lt77, gt77, eq77, le80, ge80, lt80, gt80, eq80, le87, ge87, lt87, gt87, eq87, le97, ge97, lt97, gt97, eq97, le99, ge99, lt99, gt99, eq99, le100, ge100, lt100, gt100, eq100, le106, ge106, lt106, gt106, eq106, le111, ge111, lt111, gt111, eq111, le125, ge125, lt125, gt125, eq125, le148, ge148, lt148, gt148, eq148, le200, ge200, lt200, gt200, eq200, le300, ge300, lt300, gt300, eq300, le1332, ge1332, lt1332, gt1332, eq1332, le9999, ge9999, lt9999, gt9999, eq9999, le1000000, ge1000000, lt1000000, gt1000000, eq1000000, ]
        rw [if_neg (by omega), hho k hkn]
        cases hh : hot k with
        | false =>
          simp only [Bool.false_eq_true, if_false, if_true]
          exact this
        | true =>
          have hner : ner par hot n k = false := by
            unfold near at hne'
            rw [hh, Bool.true_and] at hne'
            exact hne'
          simp only [if_true]
          rw [if_neg (by decide), r_near h.PS hho hkn, hner]
          simp only [b1s, Bool.false_eq_true, if_false, if_true]
          exact this
/-- the currents are told alike -/
def CUR (row s mf : zA) (b n : Nat) : Prop := ∃ C : Nat → Nat, (∀ k, k < n → C k ≤ 9999) ∧ (∀ flow : zA, ∃ fl, f_X0_addUpCurrents row flow = some fl ∧ ∀ k, k < n → fl k = nI (C k)) ∧ (∀ k, k < n → f_X3_current (nI b) (nI k) s mf = some (nI (C k)))
theorem cur_loop {s mf ho : zA} {b n : Nat} {C : Nat → Nat} (hn : n ≤ 10) (hC : ∀ k, k < n → f_X3_current (nI b) (nI k) s mf = some (nI (C k))) : ∀ (j k : Nat) (cu : zA), n = k + j → (∀ i, i < k → cu i = nI (C i)) → ∃ cu', (∀ fuel, j < fuel → B_X3_tick_11 fuel (nI b) (nI n) (nI k) s cu ho mf = B_X3_tick_36 FU (nI b) (nI n) 0 s cu' ho mf) ∧ ∀ i, i < n → cu' i = nI (C i) := by
  intro j
  induction j with
  | zero =>
    intro k cu hk hi
    refine ⟨cu, fun fuel hf => ?_, fun i h => hi i (by omega)⟩
    obtain ⟨f, rfl⟩ : ∃ f, fuel = f + 1 := ⟨fuel - 1, by omega⟩
    rw [B_X3_tick_11]
    simp (disch := omega) only [gd_nI, nmI, b1s, b2s, b3s, b4s, b5s, b6s, b7s, le_nI, lt_nI, eq_nI, nI_add, Nat.add_zero, la9, la17, la27, la37, la47, la57, la67, la77, la87, la97, la111, la16, la106, la8, ra0, ra1, ra2, ra3, ra4, ra5, ra6, ra7, ra8, ra16, ra106, lm2, lm3, lm8, lm9, lm10, lm20, lm148, le0, ge0, lt0, gt0, eq0, le1, ge1, lt1, gt1, eq1, le2, ge2, lt2, gt2, eq2, le3, ge3, lt3, gt3, eq3, le4, ge4, lt4, gt4, eq4, le5, ge5, lt5, gt5, eq5, le6, ge6, lt6, gt6, eq6, le7, ge7, lt7, gt7, eq7, le8, ge8, lt8, gt8, eq8, le9, ge9, lt9, gt9, eq9, le10, ge10, lt10, gt10, eq10, le14, ge14, lt14, gt14, eq14, le16, ge16, lt16, gt16, eq16, le17, ge17, lt17, gt17, eq17, le20, ge20, lt20, gt20, eq20, le27, ge27, lt27, gt27, eq27, le37, ge37, lt37, gt37, eq37, le47, ge47, lt47, gt47, eq47, le50, ge50, lt50, gt50, eq50, le57, ge57, lt57, gt57, eq57, le67, ge67, lt67, gt67, eq67, le77, ge77, lt77, gt77, eq77, le80, ge80, lt80, gt80, eq80, le87, ge87, lt87, gt87, eq87, le97, ge97, lt97, gt97, eq97, le99, ge99, lt99, gt99, eq99, le100, ge100, lt100, gt100, eq100, le106, ge106, lt106, gt106, eq106, le111, ge111, lt111, gt111, eq111, le125, ge125, lt125, gt125, eq125, le148, ge148, lt148, gt148, eq148, le200, ge200, lt200, gt200, eq200, le300, ge300, lt300, gt300, eq300, le1332, ge1332, lt1332, gt1332, eq1332, le9999, ge9999, lt9999, gt9999, eq9999, le1000000, ge1000000, lt1000000, gt1000000, eq1000000, ]
    rw [if_pos (by omega)]
  | succ j ih =>
    intro k cu hk hi
    obtain ⟨cu', a1, a2⟩ := ih (k + 1) (upd cu k (nI (C k))) (by omega) (fun i h => by
      by_cases hik : i = k
      · subst hik; rw [upd_eq]
      · rw [upd_ne hik, hi i (by omega)])
    refine ⟨cu', fun fuel hf => ?_, a2⟩
    obtain ⟨f, rfl⟩ : ∃ f, fuel = f + 1 := ⟨fuel - 1, by omega⟩
    rw [B_X3_tick_11, hC k (by omega)]
    simp (disch := omega) only [gd_nI, nmI, b1s, b2s, b3s, b4s, b5s, b6s, b7s, le_nI, lt_nI, eq_nI, nI_add, Nat.add_zero, la9, la17, la27, la37, la47, la57, la67, la77, la87, la97, la111, la16, la106, la8, ra0, ra1, ra2, ra3, ra4, ra5, ra6, ra7, ra8, ra16, ra106, lm2, lm3, lm8, lm9, lm10, lm20, lm148, le0, ge0, lt0, gt0, eq0, le1, ge1, lt1, gt1, eq1, le2, ge2, lt2, gt2, eq2, le3, ge3, lt3, gt3, eq3, le4, ge4, lt4, gt4, eq4, le5, ge5, lt5, gt5, eq5, le6, ge6, lt6, gt6, eq6, le7, ge7, lt7, gt7, eq7, le8, ge8, lt8, gt8, eq8, le9, ge9, lt9, gt9, eq9, le10, ge10, lt10, gt10, eq10, le14, ge14, lt14, gt14, eq14, le16, ge16, lt16, gt16, eq16, le17, ge17, lt17, gt17, eq17, le20, ge20, lt20, gt20, eq20, le27, ge27, lt27, gt27, eq27, le37, ge37, lt37, gt37, eq37, le47, ge47, lt47, gt47, eq47, le50, ge50, lt50, gt50, eq50, le57, ge57, lt57, gt57, eq57, le67, ge67, lt67, gt67, eq67, le77, ge77, lt77, gt77, eq77, le80, ge80, lt80, gt80, eq80, le87, ge87, lt87, gt87, eq87, le97, ge97, lt97, gt97, eq97, le99, ge99, lt99, gt99, eq99, le100, ge100, lt100, gt100, eq100, le106, ge106, lt106, gt106, eq106, le111, ge111, lt111, gt111, eq111, le125, ge125, lt125, gt125, eq125, le148, ge148, lt148, gt148, eq148, le200, ge200, lt200, gt200, eq200, le300, ge300, lt300, gt300, eq300, le1332, ge1332, lt1332, gt1332, eq1332, le9999, ge9999, lt9999, gt9999, eq9999, le1000000, ge1000000, lt1000000, gt1000000, eq1000000, ]
    rw [if_neg (by omega)]
    exact a1 f (by omega)
theorem tick_sim {row flow s cu ho mf : zA} {b n T X : Nat} {par : Nat → Nat} (h : BR row s b n T X par) (hT : T < 100000) (hX : X < 900000) (hC : CUR row s mf b n) :
    ∃ f row' fl' s' cu' ho', f_X0_tick row flow = some (mask f n, row', fl') ∧ f_X3_tick (nI b) s cu ho mf = some (mask f n, s', cu', ho') ∧ BR row' s' b n (T + 1) (X + n) par ∧ FRr row row' ∧ FRs s s' b := by
  have hn := h.n10
  have hb := h.b14
  obtain ⟨C, c1, c2, c3⟩ := hC
  obtain ⟨fl, d1, d2⟩ := c2 flow
  obtain ⟨cu', e1, e2⟩ := cur_loop (ho := ho) hn c3 n 0 cu (by omega) (fun i hi => by omega)
  obtain ⟨row1, s1, a1, a2, a3, a4, a5⟩ := burn_sim cu' ho mf n 0 row s (by omega) h
  obtain ⟨row2, s2, ho2, g1, g2, g3, g4, g5, g6⟩ := heat_loop (mf := mf) c1 d2 e2 n 0 row1 s1 ho (by omega) a3 (fun i hi => by omega)
  obtain ⟨row3, s3, k1, k2, k3, k4, k5⟩ := blow_loop (flow := fl) (cu := cu') (mf := mf) g6 hT n 0 X row2 s2 (by omega) (by omega) g3 (fun i _ hi2 hi3 => by
    obtain ⟨a, ha, z1, z2, hc⟩ := g3.hw i hi2
    unfold hotb at hi3
    simp only [Bool.and_eq_true, decide_eq_true_eq, Bool.not_eq_true'] at hi3
    obtain ⟨⟨y1, y2⟩, -⟩ := hi3
    rw [z1, le0 (by omega)] at y2
    have : a = 0 := by omega
    subst this
    exact ⟨z1, y1⟩)
  have hF : ∀ j, j ≤ 10 → j < FU := fun j hj => FU_lt (by omega)
  refine ⟨near par (hotb row2) n, row3, fl, s3, cu', ho2, ?_, ?_, k3, (a4.tr g4).tr k4, (a5.tr g5).tr k5⟩
  · unfold f_X0_tick f_X0_burnArcs
    rw [d1]
    simp only [b1s]
    have x1 := a1 FU (hF n hn)
    rw [show nI 0 = 0 from rfl] at x1
    rw [x1]
    simp only [b1s]
    have x2 := g1 FU (hF n hn)
    rw [show nI 0 = 0 from rfl] at x2
    rw [x2, d_molten g3.n10 g3.r4]
    simp only [b1s]
    rw [d_nearest g3.PR]
    simp only [b1s]
    exact k1 FU (hF n hn)
  · unfold f_X3_tick
    simp (disch := omega) only [gd_nI, nmI, b1s, b2s, b3s, b4s, b5s, b6s, b7s, le_nI, lt_nI, eq_nI, nI_add, Nat.add_zero, la9, la17, la27, la37, la47, la57, la67, la77, la87, la97, la111, la16, la106, la8, ra0, ra1, ra2, ra3, ra4, ra5, ra6, ra7, ra8, ra16, ra106, lm2, lm3, lm8, lm9, lm10, lm20, lm148, le0, ge0, lt0, gt0, eq0, le1, ge1, lt1, gt1, eq1, le2, ge2, lt2, gt2, eq2, le3, ge3, lt3, gt3, eq3, le4, ge4, lt4, gt4, eq4, le5, ge5, lt5, gt5, eq5, le6, ge6, lt6, gt6, eq6, le7, ge7, lt7, gt7, eq7, le8, ge8, lt8, gt8, eq8, le9, ge9, lt9, gt9, eq9, le10, ge10, lt10, gt10, eq10, le14, ge14, lt14, gt14, eq14, le16, ge16, lt16, gt16, eq16, le17, ge17, lt17, gt17, eq17, le20, ge20, lt20, gt20, eq20, le27, ge27, lt27, gt27, eq27, le37, ge37, lt37, gt37, eq37, le47, ge47, lt47, gt47, eq47, le50, ge50, lt50, gt50, eq50, le57, ge57, lt57, gt57, eq57, le67, ge67, lt67, gt67, eq67, le77, ge77, lt77, gt77, eq77, le80, ge80, lt80, gt80, eq80, le87, ge87, lt87, gt87, eq87, le97, ge97, lt97, gt97, eq97, le99, ge99, lt99, gt99, eq99, le100, ge100, lt100, gt100, eq100, le106, ge106, lt106, gt106, eq106, le111, ge111, lt111, gt111, eq111, le125, ge125, lt125, gt125, eq125, le148, ge148, lt148, gt148, eq148, le200, ge200, lt200, gt200, eq200, le300, ge300, lt300, gt300, eq300, le1332, ge1332, lt1332, gt1332, eq1332, le9999, ge9999, lt9999, gt9999, eq9999, le1000000, ge1000000, lt1000000, gt1000000, eq1000000,  h.s4]
    have x0 := e1 FU (hF n hn)
    have x1 := a2 FU (hF n hn)
    have x2 := g2 FU (hF n hn)
    rw [show nI 0 = 0 from rfl] at x0 x1 x2
    rw [x0, x1, x2]
    exact k2 FU (hF n hn)
