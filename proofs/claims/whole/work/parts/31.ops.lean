/-! The changes, but ticks: what each side does to a state -/
theorem BR.put {row s row' s' : zA} {n0 n T X k r q : Nat} {par0 par : Nat → Nat} (h : BR row s 0 n0 T X par0) (hn : n ≤ 10) (hk : k < n) (hle : n0 ≤ n) (hold : ∀ j, j < n → j ≠ k → j < n0 ∧ par j = par0 j) (hkn : k < n0 ∨ k = n0)
    (e4 : row' 4 = nI n) (f4 : s' 4 = nI n) (hp : okp par n) (hfr : 0 < k → row' (17 + k) = nI (par k) ∧ s' (0 + 16 + 9 * k) = nI (par k)) (hf0 : k = 0 → s' 16 = -6)
    (hr1 : 1 ≤ r) (hr2 : r ≤ 100) (hq : q ≤ 2) (w1 : row' (27 + k) = nI r) (w2 : row' (37 + k) = nI q) (w3 : row' (47 + k) = 0) (w4 : row' (57 + k) = 0) (w5 : row' (67 + k) = 0) (w6 : row' (77 + k) = 0) (w7 : ∀ j, bt (row' 7) j = (bt (row 7) j && !decide (j = k))) (w8 : row' (87 + k) = s' (0 + 16 + 9 * k + 8))
    (wr : ∀ j, j ≠ 4 → j ≠ 7 → j ≠ 17 + k → j ≠ 27 + k → j ≠ 37 + k → j ≠ 47 + k → j ≠ 57 + k → j ≠ 67 + k → j ≠ 77 + k → row' j = row j)
    (v1 : s' (0 + 16 + 9 * k + 1) = nI r) (v2 : s' (0 + 16 + 9 * k + 2) = nI q) (v3 : ∀ j, 3 ≤ j → j < 8 → s' (0 + 16 + 9 * k + j) = 0) (ws : ∀ j, j ≠ 4 → (j < 0 + 16 + 9 * k ∨ 0 + 16 + 9 * k + 8 < j) → s' j = s j) : BR row' s' 0 n T X par := by
  refine BR.mk hn (by omega) e4 f4 ?_ ?_ ?_ ?_ ?_ ?_ hp ?_ ?_ ?_ ?_ ?_ ?_ ?_ ?_ ?_ ?_ ?_
  · intro j hj; rw [wr j (by omega) (by omega) (by omega) (by omega) (by omega) (by omega) (by omega) (by omega) (by omega), ws _ (by omega) (by omega)]; exact h.st0 j hj
  · rw [wr 3 (by omega) (by omega) (by omega) (by omega) (by omega) (by omega) (by omega) (by omega) (by omega)]; exact h.tm
  · rw [wr 0 (by omega) (by omega) (by omega) (by omega) (by omega) (by omega) (by omega) (by omega) (by omega)]; exact h.arc
  · rw [wr 1 (by omega) (by omega) (by omega) (by omega) (by omega) (by omega) (by omega) (by omega) (by omega)]; exact h.coo
  · rw [wr 8 (by omega) (by omega) (by omega) (by omega) (by omega) (by omega) (by omega) (by omega) (by omega), ws _ (by omega) (by omega), ws _ (by omega) (by omega)]; exact h.bl
  · intro j hj; rw [wr _ (by omega) (by omega) (by omega) (by omega) (by omega) (by omega) (by omega) (by omega) (by omega), ws _ (by omega) (by omega)]; exact h.lat j hj
  · intro j h0 hj
    by_cases hjk : j = k
    · subst hjk; exact hfr h0
    · obtain ⟨a1, a2⟩ := hold j hj hjk
      rw [wr _ (by omega) (by omega) (by omega) (by omega) (by omega) (by omega) (by omega) (by omega) (by omega), ws _ (by omega) (by omega), a2]; exact h.fr j h0 a1
  · intro h0
    by_cases hk0 : k = 0
    · exact hf0 hk0
    · rw [show 0 + 16 = 16 from rfl, ws _ (by omega) (by omega)]
      exact h.f0 (by omega)
  · intro j hj
    by_cases hjk : j = k
    · subst hjk; exact ⟨r, hr1, hr2, w1, v1⟩
    · obtain ⟨a1, a2⟩ := hold j hj hjk
      rw [wr _ (by omega) (by omega) (by omega) (by omega) (by omega) (by omega) (by omega) (by omega) (by omega), ws _ (by omega) (by omega)]; exact h.rt j a1
  · intro j hj
    by_cases hjk : j = k
    · subst hjk; exact ⟨q, hq, w2, v2⟩
    · obtain ⟨a1, a2⟩ := hold j hj hjk
      rw [wr _ (by omega) (by omega) (by omega) (by omega) (by omega) (by omega) (by omega) (by omega) (by omega), ws _ (by omega) (by omega)]; exact h.kd j a1
  · intro j hj
    by_cases hjk : j = k
    · subst hjk
      refine ⟨0, by omega, w3, v3 7 (by omega) (by omega), Or.inl ⟨?_, Or.inl ⟨rfl, v3 3 (by omega) (by omega)⟩⟩⟩
      rw [w7]
      simp
    · obtain ⟨a1, a2⟩ := hold j hj hjk
      rw [wr _ (by omega) (by omega) (by omega) (by omega) (by omega) (by omega) (by omega) (by omega) (by omega), ws _ (by omega) (by omega), ws _ (by omega) (by omega), w7]
      have := h.hw j a1
      simpa [hjk] using this
  · intro j hj
    by_cases hjk : j = k
    · subst hjk; exact ⟨0, by omega, w4, v3 4 (by omega) (by omega)⟩
    · obtain ⟨a1, a2⟩ := hold j hj hjk
      rw [wr _ (by omega) (by omega) (by omega) (by omega) (by omega) (by omega) (by omega) (by omega) (by omega), ws _ (by omega) (by omega)]; exact h.ht j a1
  · intro j hj
    by_cases hjk : j = k
    · subst hjk; rw [w5, v3 5 (by omega) (by omega)]
    · obtain ⟨a1, a2⟩ := hold j hj hjk
      rw [wr _ (by omega) (by omega) (by omega) (by omega) (by omega) (by omega) (by omega) (by omega) (by omega), ws _ (by omega) (by omega)]; exact h.sp j a1
  · intro j hj
    by_cases hjk : j = k
    · subst hjk; rw [w6, v3 6 (by omega) (by omega)]
    · obtain ⟨a1, a2⟩ := hold j hj hjk
      rw [wr _ (by omega) (by omega) (by omega) (by omega) (by omega) (by omega) (by omega) (by omega) (by omega), ws _ (by omega) (by omega)]; exact h.cr j a1
  · intro j hj
    by_cases hjk : j = k
    · subst hjk; exact w8
    · obtain ⟨a1, a2⟩ := hold j hj hjk
      rw [wr _ (by omega) (by omega) (by omega) (by omega) (by omega) (by omega) (by omega) (by omega) (by omega), ws _ (by omega) (by omega)]; exact h.he j a1
  · intro j hj
    rw [w7, h.op j (by omega)]
    rfl
  · intro j hj h1; rw [wr _ (by omega) (by omega) (by omega) (by omega) (by omega) (by omega) (by omega) (by omega) (by omega)]; exact h.h0 j (by omega) h1
/-- how an order is answered: with an error that changes nothing, or with a number, and the states go on alike -/
def OPS (nr s : zA) (dv : Option (Int32 × zA)) (er : Option Int32) (doo : Option (Int32 × zA)) : Prop :=
  (∃ e : Int32, e < 0 ∧ dv = some (e, nr) ∧ er = some e) ∨
  (er = some 0 ∧ ∃ (v : Nat) (nr' s' : zA), v < 2 ^ 31 ∧ dv = some (nI v, nr') ∧ doo = some (nI v, s') ∧ HR nr' s' 0 ∧ ∀ x, 148 ≤ x → s' x = s x)
theorem op_fuse {nr s : zA} (h : HR nr s 0) (a1 a2 a3 : Int32) : OPS nr s (f_X0_changeFuse a1 a2 a3 nr) (f_X3_fuseError a1 a2 a3 s) (f_X3_fuses a1 a2 a3 s) := by
  obtain ⟨n, m, T, par, hT, hg, h, hl⟩ := h
  have hn := h.n10
  have h4 : s 4 = nI n := by have := h.s4; rwa [Nat.zero_add] at this
  unfold f_X0_changeFuse f_X3_fuseError
  rw [d_isBoard hn h.r4, r_isBoard hn h4]
  simp only [b1s, s01]
  by_cases hb : rng a1 0 ((n : Int) - 1) = true
  · obtain ⟨k, hk, rfl⟩ := (rng_ex (by omega)).mp hb
    simp only [hb, if_true, d_isFuse, r_isFuse, b1s, s01]
    by_cases hf : (rng a2 1 100 && rng a3 0 2) = true
    · rw [if_pos hf, if_pos hf]
      have hf2 := Bool.and_eq_true_iff.mp hf
      obtain ⟨r, hr1, hr2, rfl⟩ := (rng_nI (l := 1) (h := 100) (by omega)).mp hf2.1
      obtain ⟨q, -, hq, rfl⟩ := (rng_nI (l := 0) (h := 2) (by omega)).mp hf2.2
      obtain ⟨a, ha, e1, e2, hc⟩ := h.hw k hk
      obtain ⟨ro, hro1, hro2, er1, er2⟩ := h.rt k hk
      have er3 : s (0 + 16 + 9 * k + 3) = 1 ↔ 0 < a := by
        rcases hc with ⟨-, ⟨c1, c2⟩ | ⟨c1, c2⟩⟩ | ⟨-, c1, c2⟩
        · rw [c2]; exact ⟨fun z => absurd z (by decide), fun z => by omega⟩
        · rw [c2]; exact ⟨fun _ => c1, fun _ => rfl⟩
        · rw [c2]; exact ⟨fun z => absurd z (by decide), fun z => by omega⟩
      rw [bA0]
      simp (disch := omega) only [gd_nI, nmI, b1s, b2s, b3s, b4s, b5s, b6s, b7s, le_nI, lt_nI, eq_nI, nI_add, Nat.add_zero, la9, la17, la27, la37, la47, la57, la67, la77, la87, la97, la111, la16, la106, la8, ra0, ra1, ra2, ra3, ra4, ra5, ra6, ra7, ra8, ra16, ra106, lm2, lm3, lm8, lm9, lm10, lm20, lm148, le0, ge0, lt0, gt0, eq0, le1, ge1, lt1, gt1, eq1, le2, ge2, lt2, gt2, eq2, le3, ge3, lt3, gt3, eq3, le4, ge4, lt4, gt4, eq4, le5, ge5, lt5, gt5, eq5, le6, ge6, lt6, gt6, eq6, le7, ge7, lt7, gt7, eq7, le8, ge8, lt8, gt8, eq8, le9, ge9, lt9, gt9, eq9, le10, ge10, lt10, gt10, eq10, le14, ge14, lt14, gt14, eq14, le16, ge16, lt16, gt16, eq16, le17, ge17, lt17, gt17, eq17, le20, ge20, lt20, gt20, eq20, le27, ge27, lt27, gt27, eq27, le37, ge37, lt37, gt37, eq37, le47, ge47, lt47, gt47, eq47, le50, ge50, lt50, gt50, eq50, le57, ge57, lt57, gt57, eq57, le67, ge67, lt67, gt67, eq67, le77, ge77, lt77, gt77, eq77, le80, ge80, lt80, gt80, eq80, le87, ge87, lt87, gt87, eq87, le97, ge97, lt97, gt97, eq97, le99, ge99, lt99, gt99, eq99, le100, ge100, lt100, gt100, eq100, le106, ge106, lt106, gt106, eq106, le111, ge111, lt111, gt111, eq111, le125, ge125, lt125, gt125, eq125, le148, ge148, lt148, gt148, eq148, le200, ge200, lt200, gt200, eq200, le300, ge300, lt300, gt300, eq300, le1332, ge1332, lt1332, gt1332, eq1332, le9999, ge9999, lt9999, gt9999, eq9999, le1000000, ge1000000, lt1000000, gt1000000, eq1000000,  e1]
      by_cases ha0 : 0 < a
      · left
        refine ⟨-5, by decide, ?_, ?_⟩
        · rw [if_neg (by omega)]
        · rw [if_pos (er3.mpr ha0)]
      · right
        obtain ⟨row', p1, p2, p3, p4, p5, p6, p7, p8, p9⟩ := d_puts (k := k) (by omega) (nI r) (nI q) nr
        obtain ⟨s', q1, q2⟩ := r_puts (k := k) (by omega) (nI r) (nI q) s
        refine ⟨by rw [if_neg (fun z => ha0 (er3.mp z))], ro, row', s', by omega, ?_, ?_, ?_, fun x hx => ?_⟩
        · rw [if_pos (by omega), p1, er1]
          simp only [b1s]
        · unfold f_X3_fuses
          rw [bA0]
          simp (disch := omega) only [gd_nI, nmI, b1s, b2s, b3s, b4s, b5s, b6s, b7s, le_nI, lt_nI, eq_nI, nI_add, Nat.add_zero, la9, la17, la27, la37, la47, la57, la67, la77, la87, la97, la111, la16, la106, la8, ra0, ra1, ra2, ra3, ra4, ra5, ra6, ra7, ra8, ra16, ra106, lm2, lm3, lm8, lm9, lm10, lm20, lm148, le0, ge0, lt0, gt0, eq0, le1, ge1, lt1, gt1, eq1, le2, ge2, lt2, gt2, eq2, le3, ge3, lt3, gt3, eq3, le4, ge4, lt4, gt4, eq4, le5, ge5, lt5, gt5, eq5, le6, ge6, lt6, gt6, eq6, le7, ge7, lt7, gt7, eq7, le8, ge8, lt8, gt8, eq8, le9, ge9, lt9, gt9, eq9, le10, ge10, lt10, gt10, eq10, le14, ge14, lt14, gt14, eq14, le16, ge16, lt16, gt16, eq16, le17, ge17, lt17, gt17, eq17, le20, ge20, lt20, gt20, eq20, le27, ge27, lt27, gt27, eq27, le37, ge37, lt37, gt37, eq37, le47, ge47, lt47, gt47, eq47, le50, ge50, lt50, gt50, eq50, le57, ge57, lt57, gt57, eq57, le67, ge67, lt67, gt67, eq67, le77, ge77, lt77, gt77, eq77, le80, ge80, lt80, gt80, eq80, le87, ge87, lt87, gt87, eq87, le97, ge97, lt97, gt97, eq97, le99, ge99, lt99, gt99, eq99, le100, ge100, lt100, gt100, eq100, le106, ge106, lt106, gt106, eq106, le111, ge111, lt111, gt111, eq111, le125, ge125, lt125, gt125, eq125, le148, ge148, lt148, gt148, eq148, le200, ge200, lt200, gt200, eq200, le300, ge300, lt300, gt300, eq300, le1332, ge1332, lt1332, gt1332, eq1332, le9999, ge9999, lt9999, gt9999, eq9999, le1000000, ge1000000, lt1000000, gt1000000, eq1000000,  er2]
          rw [q1]
          simp only [b1s]
        · refine ⟨n, m, T, par, hT, hg.of (p9 2 (by omega) (by omega) (by omega) (by omega) (by omega) (by omega) (by omega)), h.put hn hk (Nat.le_refl _) (fun j hj _ => ⟨hj, rfl⟩) (Or.inl hk) ?_ ?_ h.par ?_ ?_ hr1 hr2 hq p2 p3 p4 p5 p6 p7 p8 ?_ ?_ ?_ ?_ ?_ ?_, hl.mv ?_ ?_ ?_ ?_ ?_⟩
          · rw [p9 _ (by omega) (by omega) (by omega) (by omega) (by omega) (by omega) (by omega)]; exact h.r4
          · rw [q2, if_neg (by omega)]; exact h4
          · intro h0
            rw [p9 _ (by omega) (by omega) (by omega) (by omega) (by omega) (by omega) (by omega), q2, if_neg (by omega)]
            exact h.fr k h0 hk
          · intro h0
            subst h0
            rw [q2, if_neg (by omega)]
            exact h.f0 (by omega)
          · rw [p9 _ (by omega) (by omega) (by omega) (by omega) (by omega) (by omega) (by omega), q2, if_neg (by omega)]
            exact h.he k hk
          · exact fun j h1 h2 h3 h4 h5 h6 h7 h8 h9 => p9 j h2 h4 h5 h6 h7 h8 h9
          · rw [q2, if_pos (by omega), if_pos rfl]
          · rw [q2, if_pos (by omega), if_neg (by omega), if_pos rfl]
          · intro j hj1 hj2
            rw [q2, if_pos (by omega), if_neg (by omega), if_neg (by omega)]
          · intro j hj1 hj2
            rw [q2, if_neg (by omega)]
          · exact p9 _ (by omega) (by omega) (by omega) (by omega) (by omega) (by omega) (by omega)
          · exact p9 _ (by omega) (by omega) (by omega) (by omega) (by omega) (by omega) (by omega)
          · exact fun j hj1 hj2 => p9 _ (by omega) (by omega) (by omega) (by omega) (by omega) (by omega) (by omega)
          · rw [q2, if_neg (by omega)]
          · intro j hj1 hj2
            rw [q2, if_neg (by omega)]
        · rw [q2, if_neg (by omega)]
    · rw [if_neg hf, if_neg hf]
      exact Or.inl ⟨-2, by decide, rfl, rfl⟩
  · rw [if_neg hb, if_neg hb]
    exact Or.inl ⟨-1, by decide, rfl, rfl⟩
theorem op_board {nr s : zA} (h : HR nr s 0) (a1 a2 a3 : Int32) : OPS nr s (f_X0_addBoard a1 a2 a3 nr) (f_X3_boardError a1 a2 a3 s) (f_X3_builds a1 a2 a3 s) := by
  obtain ⟨n, m, T, par, hT, hg, h, hl⟩ := h
  have hn := h.n10
  have h4 : s 4 = nI n := by have := h.s4; rwa [Nat.zero_add] at this
  -- behind the look at the board from which it is fed
  have tail : (n = 0 ∨ ∃ p, p < n ∧ a1 = nI p) → OPS nr s (B_X0_addBoard_23 a1 a2 a3 (nI n) nr) (B_X3_boardError_19 a2 a3 s) (f_X3_builds a1 a2 a3 s) := by
    intro hfrom
    unfold B_X0_addBoard_23 B_X3_boardError_19
    rw [d_isFuse, r_isFuse]
    simp only [b1s, s01]
    by_cases hf : (rng a2 1 100 && rng a3 0 2) = true
    · rw [if_pos hf, if_pos hf, h4]
      have hf2 := Bool.and_eq_true_iff.mp hf
      obtain ⟨r, hr1, hr2, rfl⟩ := (rng_nI (l := 1) (h := 100) (by omega)).mp hf2.1
      obtain ⟨q, -, hq, rfl⟩ := (rng_nI (l := 0) (h := 2) (by omega)).mp hf2.2
      simp (disch := omega) only [gd_nI, nmI, b1s, b2s, b3s, b4s, b5s, b6s, b7s, le_nI, lt_nI, eq_nI, nI_add, Nat.add_zero, la9, la17, la27, la37, la47, la57, la67, la77, la87, la97, la111, la16, la106, la8, ra0, ra1, ra2, ra3, ra4, ra5, ra6, ra7, ra8, ra16, ra106, lm2, lm3, lm8, lm9, lm10, lm20, lm148, le0, ge0, lt0, gt0, eq0, le1, ge1, lt1, gt1, eq1, le2, ge2, lt2, gt2, eq2, le3, ge3, lt3, gt3, eq3, le4, ge4, lt4, gt4, eq4, le5, ge5, lt5, gt5, eq5, le6, ge6, lt6, gt6, eq6, le7, ge7, lt7, gt7, eq7, le8, ge8, lt8, gt8, eq8, le9, ge9, lt9, gt9, eq9, le10, ge10, lt10, gt10, eq10, le14, ge14, lt14, gt14, eq14, le16, ge16, lt16, gt16, eq16, le17, ge17, lt17, gt17, eq17, le20, ge20, lt20, gt20, eq20, le27, ge27, lt27, gt27, eq27, le37, ge37, lt37, gt37, eq37, le47, ge47, lt47, gt47, eq47, le50, ge50, lt50, gt50, eq50, le57, ge57, lt57, gt57, eq57, le67, ge67, lt67, gt67, eq67, le77, ge77, lt77, gt77, eq77, le80, ge80, lt80, gt80, eq80, le87, ge87, lt87, gt87, eq87, le97, ge97, lt97, gt97, eq97, le99, ge99, lt99, gt99, eq99, le100, ge100, lt100, gt100, eq100, le106, ge106, lt106, gt106, eq106, le111, ge111, lt111, gt111, eq111, le125, ge125, lt125, gt125, eq125, le148, ge148, lt148, gt148, eq148, le200, ge200, lt200, gt200, eq200, le300, ge300, lt300, gt300, eq300, le1332, ge1332, lt1332, gt1332, eq1332, le9999, ge9999, lt9999, gt9999, eq9999, le1000000, ge1000000, lt1000000, gt1000000, eq1000000, ]
      by_cases h10 : n = 10
      · left
        refine ⟨-4, by decide, ?_, ?_⟩
        · rw [if_neg (by omega)]
        · rw [if_pos h10]
      · right
        refine ⟨by rw [if_neg h10], ?_⟩
        -- the class's
        have dev : ∀ fv : Int32, ∃ row', B_X0_addBoard_63 fv (nI (17 + n)) (nI r) (nI q) (nI n) nr = some (nI n, row') ∧ row' 4 = nI (n + 1) ∧ row' (17 + n) = fv ∧ row' (27 + n) = nI r ∧ row' (37 + n) = nI q ∧ row' (47 + n) = 0 ∧ row' (57 + n) = 0 ∧ row' (67 + n) = 0 ∧ row' (77 + n) = 0 ∧ (∀ j, bt (row' 7) j = (bt (nr 7) j && !decide (j = n))) ∧ (∀ j, j ≠ 4 → j ≠ 7 → j ≠ 17 + n → j ≠ 27 + n → j ≠ 37 + n → j ≠ 47 + n → j ≠ 57 + n → j ≠ 67 + n → j ≠ 77 + n → row' j = nr j) := by
          intro fv
          obtain ⟨row', p1, p2, p3, p4, p5, p6, p7, p8, p9⟩ := d_puts (k := n) (by omega) (nI r) (nI q) (upd nr (17 + n) fv)
          refine ⟨upd row' 4 (nI (n + 1)), ?_, upd_eq _ _ _, ?_, ?_, ?_, ?_, ?_, ?_, ?_, fun j => ?_, fun j h1 h2 h3 h4 h5 h6 h7 h8 h9 => ?_⟩
          · unfold B_X0_addBoard_63
            simp (disch := omega) only [gd_nI, nmI, b1s, b2s, b3s, b4s, b5s, b6s, b7s, le_nI, lt_nI, eq_nI, nI_add, Nat.add_zero, la9, la17, la27, la37, la47, la57, la67, la77, la87, la97, la111, la16, la106, la8, ra0, ra1, ra2, ra3, ra4, ra5, ra6, ra7, ra8, ra16, ra106, lm2, lm3, lm8, lm9, lm10, lm20, lm148, le0, ge0, lt0, gt0, eq0, le1, ge1, lt1, gt1, eq1, le2, ge2, lt2, gt2, eq2, le3, ge3, lt3, gt3, eq3, le4, ge4, lt4, gt4, eq4, le5, ge5, lt5, gt5, eq5, le6, ge6, lt6, gt6, eq6, le7, ge7, lt7, gt7, eq7, le8, ge8, lt8, gt8, eq8, le9, ge9, lt9, gt9, eq9, le10, ge10, lt10, gt10, eq10, le14, ge14, lt14, gt14, eq14, le16, ge16, lt16, gt16, eq16, le17, ge17, lt17, gt17, eq17, le20, ge20, lt20, gt20, eq20, le27, ge27, lt27, gt27, eq27, le37, ge37, lt37, gt37, eq37, le47, ge47, lt47, gt47, eq47, le50, ge50, lt50, gt50, eq50, le57, ge57, lt57, gt57, eq57, le67, ge67, lt67, gt67, eq67, le77, ge77, lt77, gt77, eq77, le80, ge80, lt80, gt80, eq80, le87, ge87, lt87, gt87, eq87, le97, ge97, lt97, gt97, eq97, le99, ge99, lt99, gt99, eq99, le100, ge100, lt100, gt100, eq100, le106, ge106, lt106, gt106, eq106, le111, ge111, lt111, gt111, eq111, le125, ge125, lt125, gt125, eq125, le148, ge148, lt148, gt148, eq148, le200, ge200, lt200, gt200, eq200, le300, ge300, lt300, gt300, eq300, le1332, ge1332, lt1332, gt1332, eq1332, le9999, ge9999, lt9999, gt9999, eq9999, le1000000, ge1000000, lt1000000, gt1000000, eq1000000, ]
            rw [p1]
            simp only [b1s]
          · rw [upd_ne (by omega), p9 _ (by omega) (by omega) (by omega) (by omega) (by omega) (by omega) (by omega), upd_eq]
          · rw [upd_ne (by omega)]; exact p2
          · rw [upd_ne (by omega)]; exact p3
          · rw [upd_ne (by omega)]; exact p4
          · rw [upd_ne (by omega)]; exact p5
          · rw [upd_ne (by omega)]; exact p6
          · rw [upd_ne (by omega)]; exact p7
          · rw [upd_ne (by omega), p8, upd_ne (by omega)]
          · rw [upd_ne h1, p9 j h2 h4 h5 h6 h7 h8 h9, upd_ne h3]
        have ref : ∀ fv : Int32, ∃ s', B_X3_builds_29 fv (nI (0 + 16 + 9 * n)) (nI r) (nI q) (nI n) s = some (nI n, s') ∧ s' 4 = nI (n + 1) ∧ s' (0 + 16 + 9 * n) = fv ∧ s' (0 + 16 + 9 * n + 1) = nI r ∧ s' (0 + 16 + 9 * n + 2) = nI q ∧ (∀ j, 3 ≤ j → j < 8 → s' (0 + 16 + 9 * n + j) = 0) ∧ s' (0 + 16 + 9 * n + 8) = 0 ∧ ∀ j, j ≠ 4 → (j < 0 + 16 + 9 * n ∨ 0 + 16 + 9 * n + 8 < j) → s' j = s j := by
          intro fv
          obtain ⟨s', q1, q2⟩ := r_puts (k := n) (by omega) (nI r) (nI q) (upd (upd s (0 + 16 + 9 * n) fv) (0 + 16 + 9 * n + 8) 0)
          have q4 : s' 4 = nI n := by rw [q2, if_neg (by omega), upd_ne (by omega), upd_ne (by omega), h4]
          refine ⟨upd s' 4 (nI (n + 1)), ?_, upd_eq _ _ _, ?_, ?_, ?_, fun j h1 h2 => ?_, ?_, fun j h1 h2 => ?_⟩
          · unfold B_X3_builds_29
            rw [bA0]
            simp (disch := omega) only [gd_nI, nmI, b1s, b2s, b3s, b4s, b5s, b6s, b7s, le_nI, lt_nI, eq_nI, nI_add, Nat.add_zero, la9, la17, la27, la37, la47, la57, la67, la77, la87, la97, la111, la16, la106, la8, ra0, ra1, ra2, ra3, ra4, ra5, ra6, ra7, ra8, ra16, ra106, lm2, lm3, lm8, lm9, lm10, lm20, lm148, le0, ge0, lt0, gt0, eq0, le1, ge1, lt1, gt1, eq1, le2, ge2, lt2, gt2, eq2, le3, ge3, lt3, gt3, eq3, le4, ge4, lt4, gt4, eq4, le5, ge5, lt5, gt5, eq5, le6, ge6, lt6, gt6, eq6, le7, ge7, lt7, gt7, eq7, le8, ge8, lt8, gt8, eq8, le9, ge9, lt9, gt9, eq9, le10, ge10, lt10, gt10, eq10, le14, ge14, lt14, gt14, eq14, le16, ge16, lt16, gt16, eq16, le17, ge17, lt17, gt17, eq17, le20, ge20, lt20, gt20, eq20, le27, ge27, lt27, gt27, eq27, le37, ge37, lt37, gt37, eq37, le47, ge47, lt47, gt47, eq47, le50, ge50, lt50, gt50, eq50, le57, ge57, lt57, gt57, eq57, le67, ge67, lt67, gt67, eq67, le77, ge77, lt77, gt77, eq77, le80, ge80, lt80, gt80, eq80, le87, ge87, lt87, gt87, eq87, le97, ge97, lt97, gt97, eq97, le99, ge99, lt99, gt99, eq99, le100, ge100, lt100, gt100, eq100, le106, ge106, lt106, gt106, eq106, le111, ge111, lt111, gt111, eq111, le125, ge125, lt125, gt125, eq125, le148, ge148, lt148, gt148, eq148, le200, ge200, lt200, gt200, eq200, le300, ge300, lt300, gt300, eq300, le1332, ge1332, lt1332, gt1332, eq1332, le9999, ge9999, lt9999, gt9999, eq9999, le1000000, ge1000000, lt1000000, gt1000000, eq1000000, ]
            rw [q1]
            simp only [b1s, nmI]
            rw [q4, nI_1]
          · rw [upd_ne (by omega), q2, if_neg (by omega), upd_ne (by omega), upd_eq]
          · rw [upd_ne (by omega), q2, if_pos (by omega), if_pos rfl]
          · rw [upd_ne (by omega), q2, if_pos (by omega), if_neg (by omega), if_pos rfl]
          · rw [upd_ne (by omega), q2, if_pos (by omega), if_neg (by omega), if_neg (by omega)]
          · rw [upd_ne (by omega), q2, if_neg (by omega), upd_eq]
          · rw [upd_ne h1, q2, if_neg (by omega), upd_ne (by omega), upd_ne (by omega)]
        have fin : ∀ (row' s' : zA) (pn : Nat), row' 4 = nI (n + 1) → row' (27 + n) = nI r → row' (37 + n) = nI q → row' (47 + n) = 0 → row' (57 + n) = 0 → row' (67 + n) = 0 → row' (77 + n) = 0 → (∀ j, bt (row' 7) j = (bt (nr 7) j && !decide (j = n))) → (∀ j, j ≠ 4 → j ≠ 7 → j ≠ 17 + n → j ≠ 27 + n → j ≠ 37 + n → j ≠ 47 + n → j ≠ 57 + n → j ≠ 67 + n → j ≠ 77 + n → row' j = nr j) →
            s' 4 = nI (n + 1) → s' (0 + 16 + 9 * n + 1) = nI r → s' (0 + 16 + 9 * n + 2) = nI q → (∀ j, 3 ≤ j → j < 8 → s' (0 + 16 + 9 * n + j) = 0) → s' (0 + 16 + 9 * n + 8) = 0 → (∀ j, j ≠ 4 → (j < 0 + 16 + 9 * n ∨ 0 + 16 + 9 * n + 8 < j) → s' j = s j) →
            (0 < n → pn < n ∧ row' (17 + n) = nI pn ∧ s' (0 + 16 + 9 * n) = nI pn) → (n = 0 → s' 16 = -6) → HR row' s' 0 := by
          intro row' s' pn p0 p2 p3 p4 p5 p6 p7 p8 p9 q0 q1 q2 q3 q4 q5 g1 g2
          refine ⟨n + 1, m, T, fun j => if j = n then pn else par j, hT, hg.of (p9 2 (by omega) (by omega) (by omega) (by omega) (by omega) (by omega) (by omega) (by omega) (by omega)), h.put (by omega) (Nat.lt_succ_self n) (by omega) (fun j hj hjn => ⟨by omega, if_neg hjn⟩) (Or.inr rfl) p0 q0 ?_ ?_ ?_ hr1 hr2 hq p2 p3 p4 p5 p6 p7 p8 ?_ p9 q1 q2 q3 q5, ?_⟩
          · intro j h0 hj
            by_cases hjn : j = n
            · subst hjn
              show (if j = j then pn else par j) < j
              rw [if_pos rfl]
              exact (g1 h0).1
            · show (if j = n then pn else par j) < j
              rw [if_neg hjn]
              exact h.par j h0 (by omega)
          · intro h0
            show row' (17 + n) = nI (if n = n then pn else par n) ∧ s' (0 + 16 + 9 * n) = nI (if n = n then pn else par n)
            rw [if_pos rfl]
            exact (g1 h0).2
          · exact g2
          · rw [q4, p9 _ (by omega) (by omega) (by omega) (by omega) (by omega) (by omega) (by omega) (by omega) (by omega)]
            exact h.h0 n (Nat.le_refl _) (by omega)
          · obtain ⟨pl, cu, ⟨hm, a1, a2⟩, ⟨-, c1, c2⟩, d1, d2⟩ := hl
            refine ⟨pl, cu, ⟨hm, ?_, fun i hi => ?_⟩, ⟨hm, ?_, fun i hi => ?_⟩, d1, ?_⟩
            · rw [p9 _ (by omega) (by omega) (by omega) (by omega) (by omega) (by omega) (by omega) (by omega) (by omega)]; exact a1
            · obtain ⟨z1, z2, z3⟩ := a2 i hi
              exact ⟨by omega, by rw [p9 _ (by omega) (by omega) (by omega) (by omega) (by omega) (by omega) (by omega) (by omega) (by omega)]; exact z2, by rw [p9 _ (by omega) (by omega) (by omega) (by omega) (by omega) (by omega) (by omega) (by omega) (by omega)]; exact z3⟩
            · rw [q5 _ (by omega) (by omega)]; exact c1
            · obtain ⟨z1, z2, z3, z4⟩ := c2 i hi
              rw [q5 _ (by omega) (by omega), q5 _ (by omega) (by omega), q5 _ (by omega) (by omega), p9 6 (by omega) (by omega) (by omega) (by omega) (by omega) (by omega) (by omega) (by omega) (by omega)]
              exact ⟨by omega, z2, z3, z4⟩
            · rw [p9 6 (by omega) (by omega) (by omega) (by omega) (by omega) (by omega) (by omega) (by omega) (by omega)]; exact d2
        by_cases hn0 : n = 0
        · obtain ⟨row', p1, p0, pf, p2, p3, p4, p5, p6, p7, p8, p9⟩ := dev 0
          obtain ⟨s', q1, q0, qf, q2, q3, q4, q5, q6⟩ := ref (-6)
          refine ⟨n, row', s', by omega, ?_, ?_, fin row' s' 0 p0 p2 p3 p4 p5 p6 p7 p8 p9 q0 q2 q3 q4 q5 q6 (fun z => by omega) (fun z => by subst z; exact qf), fun x hx => q6 x (by omega) (by omega)⟩
          · rw [if_pos (by omega), if_pos hn0]
            exact p1
          · unfold f_X3_builds
            rw [h4, bA0]
            simp (disch := omega) only [gd_nI, nmI, b1s, b2s, b3s, b4s, b5s, b6s, b7s, le_nI, lt_nI, eq_nI, nI_add, Nat.add_zero, la9, la17, la27, la37, la47, la57, la67, la77, la87, la97, la111, la16, la106, la8, ra0, ra1, ra2, ra3, ra4, ra5, ra6, ra7, ra8, ra16, ra106, lm2, lm3, lm8, lm9, lm10, lm20, lm148, le0, ge0, lt0, gt0, eq0, le1, ge1, lt1, gt1, eq1, le2, ge2, lt2, gt2, eq2, le3, ge3, lt3, gt3, eq3, le4, ge4, lt4, gt4, eq4, le5, ge5, lt5, gt5, eq5, le6, ge6, lt6, gt6, eq6, le7, ge7, lt7, gt7, eq7, le8, ge8, lt8, gt8, eq8, le9, ge9, lt9, gt9, eq9, le10, ge10, lt10, gt10, eq10, le14, ge14, lt14, gt14, eq14, le16, ge16, lt16, gt16, eq16, le17, ge17, lt17, gt17, eq17, le20, ge20, lt20, gt20, eq20, le27, ge27, lt27, gt27, eq27, le37, ge37, lt37, gt37, eq37, le47, ge47, lt47, gt47, eq47, le50, ge50, lt50, gt50, eq50, le57, ge57, lt57, gt57, eq57, le67, ge67, lt67, gt67, eq67, le77, ge77, lt77, gt77, eq77, le80, ge80, lt80, gt80, eq80, le87, ge87, lt87, gt87, eq87, le97, ge97, lt97, gt97, eq97, le99, ge99, lt99, gt99, eq99, le100, ge100, lt100, gt100, eq100, le106, ge106, lt106, gt106, eq106, le111, ge111, lt111, gt111, eq111, le125, ge125, lt125, gt125, eq125, le148, ge148, lt148, gt148, eq148, le200, ge200, lt200, gt200, eq200, le300, ge300, lt300, gt300, eq300, le1332, ge1332, lt1332, gt1332, eq1332, le9999, ge9999, lt9999, gt9999, eq9999, le1000000, ge1000000, lt1000000, gt1000000, eq1000000, ]
            rw [if_pos hn0]
            exact q1
        · obtain ⟨p, hp, rfl⟩ : ∃ p, p < n ∧ a1 = nI p := by
            rcases hfrom with z | z
            · exact absurd z hn0
            · exact z
          obtain ⟨row', p1, p0, pf, p2, p3, p4, p5, p6, p7, p8, p9⟩ := dev (nI p)
          obtain ⟨s', q1, q0, qf, q2, q3, q4, q5, q6⟩ := ref (nI p)
          refine ⟨n, row', s', by omega, ?_, ?_, fin row' s' p p0 p2 p3 p4 p5 p6 p7 p8 p9 q0 q2 q3 q4 q5 q6 (fun _ => ⟨hp, pf, qf⟩) (fun z => absurd z hn0), fun x hx => q6 x (by omega) (by omega)⟩
          · rw [if_pos (by omega), if_neg hn0]
            exact p1
          · unfold f_X3_builds
            rw [h4, bA0]
            simp (disch := omega) only [gd_nI, nmI, b1s, b2s, b3s, b4s, b5s, b6s, b7s, le_nI, lt_nI, eq_nI, nI_add, Nat.add_zero, la9, la17, la27, la37, la47, la57, la67, la77, la87, la97, la111, la16, la106, la8, ra0, ra1, ra2, ra3, ra4, ra5, ra6, ra7, ra8, ra16, ra106, lm2, lm3, lm8, lm9, lm10, lm20, lm148, le0, ge0, lt0, gt0, eq0, le1, ge1, lt1, gt1, eq1, le2, ge2, lt2, gt2, eq2, le3, ge3, lt3, gt3, eq3, le4, ge4, lt4, gt4, eq4, le5, ge5, lt5, gt5, eq5, le6, ge6, lt6, gt6, eq6, le7, ge7, lt7, gt7, eq7, le8, ge8, lt8, gt8, eq8, le9, ge9, lt9, gt9, eq9, le10, ge10, lt10, gt10, eq10, le14, ge14, lt14, gt14, eq14, le16, ge16, lt16, gt16, eq16, le17, ge17, lt17, gt17, eq17, le20, ge20, lt20, gt20, eq20, le27, ge27, lt27, gt27, eq27, le37, ge37, lt37, gt37, eq37, le47, ge47, lt47, gt47, eq47, le50, ge50, lt50, gt50, eq50, le57, ge57, lt57, gt57, eq57, le67, ge67, lt67, gt67, eq67, le77, ge77, lt77, gt77, eq77, le80, ge80, lt80, gt80, eq80, le87, ge87, lt87, gt87, eq87, le97, ge97, lt97, gt97, eq97, le99, ge99, lt99, gt99, eq99, le100, ge100, lt100, gt100, eq100, le106, ge106, lt106, gt106, eq106, le111, ge111, lt111, gt111, eq111, le125, ge125, lt125, gt125, eq125, le148, ge148, lt148, gt148, eq148, le200, ge200, lt200, gt200, eq200, le300, ge300, lt300, gt300, eq300, le1332, ge1332, lt1332, gt1332, eq1332, le9999, ge9999, lt9999, gt9999, eq9999, le1000000, ge1000000, lt1000000, gt1000000, eq1000000, ]
            rw [if_neg hn0]
            exact q1
    · rw [if_neg hf, if_neg hf]
      exact Or.inl ⟨-2, by decide, rfl, rfl⟩
  unfold f_X0_addBoard f_X3_boardError
  rw [h.r4, h4]
  simp (disch := omega) only [gd_nI, nmI, b1s, b2s, b3s, b4s, b5s, b6s, b7s, le_nI, lt_nI, eq_nI, nI_add, Nat.add_zero, la9, la17, la27, la37, la47, la57, la67, la77, la87, la97, la111, la16, la106, la8, ra0, ra1, ra2, ra3, ra4, ra5, ra6, ra7, ra8, ra16, ra106, lm2, lm3, lm8, lm9, lm10, lm20, lm148, le0, ge0, lt0, gt0, eq0, le1, ge1, lt1, gt1, eq1, le2, ge2, lt2, gt2, eq2, le3, ge3, lt3, gt3, eq3, le4, ge4, lt4, gt4, eq4, le5, ge5, lt5, gt5, eq5, le6, ge6, lt6, gt6, eq6, le7, ge7, lt7, gt7, eq7, le8, ge8, lt8, gt8, eq8, le9, ge9, lt9, gt9, eq9, le10, ge10, lt10, gt10, eq10, le14, ge14, lt14, gt14, eq14, le16, ge16, lt16, gt16, eq16, le17, ge17, lt17, gt17, eq17, le20, ge20, lt20, gt20, eq20, le27, ge27, lt27, gt27, eq27, le37, ge37, lt37, gt37, eq37, le47, ge47, lt47, gt47, eq47, le50, ge50, lt50, gt50, eq50, le57, ge57, lt57, gt57, eq57, le67, ge67, lt67, gt67, eq67, le77, ge77, lt77, gt77, eq77, le80, ge80, lt80, gt80, eq80, le87, ge87, lt87, gt87, eq87, le97, ge97, lt97, gt97, eq97, le99, ge99, lt99, gt99, eq99, le100, ge100, lt100, gt100, eq100, le106, ge106, lt106, gt106, eq106, le111, ge111, lt111, gt111, eq111, le125, ge125, lt125, gt125, eq125, le148, ge148, lt148, gt148, eq148, le200, ge200, lt200, gt200, eq200, le300, ge300, lt300, gt300, eq300, le1332, ge1332, lt1332, gt1332, eq1332, le9999, ge9999, lt9999, gt9999, eq9999, le1000000, ge1000000, lt1000000, gt1000000, eq1000000, ]
  by_cases hn0 : n = 0
  · rw [if_pos (by omega), if_pos (by omega)]
    exact tail (Or.inl hn0)
  · rw [if_neg (by omega), if_neg (by omega), d_isBoard hn h.r4, r_isBoard hn h4]
    simp only [b1s, s01]
    by_cases hb : rng a1 0 ((n : Int) - 1) = true
    · rw [if_pos hb, if_pos hb]
      exact tail (Or.inr ((rng_ex (by omega)).mp hb))
    · rw [if_neg hb, if_neg hb]
      exact Or.inl ⟨-1, by decide, rfl, rfl⟩
