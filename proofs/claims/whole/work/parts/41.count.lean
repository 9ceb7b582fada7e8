/-! Loads and counts -/
theorem sim_ofLoad {nr s : zA} (h : HR nr s 0) (a b : Int32) : ∃ v : Int32, f_X2_ofLoad a b nr = some v ∧ f_X3_ofLoad a b s = some v := by
  obtain ⟨n, m, T, par, hT, hg, hB, pl, cu, hPL, hPM, -, -⟩ := h
  have hn := hB.n10
  have hm := hPL.1
  have s5 : s 5 = nI m := by have := hPM.2.1; rw [Nat.zero_add] at this; exact this
  unfold f_X2_ofLoad f_X3_ofLoad f_X0_aboutLoad
  rw [d_isLoad hm hPL.2.1, r_isLoad hm s5]
  simp only [b1s, s01]
  by_cases h1' : ¬ rng a 0 ((m : Int) - 1) = true
  · rw [if_neg h1', if_neg h1']
    exact ⟨_, rfl, rfl⟩
  have h1 := Classical.not_not.mp h1'
  rw [if_pos h1, if_pos h1, if_pos h1]
  obtain ⟨k, hk, rfl⟩ := (rng_ex (by omega)).mp h1
  obtain ⟨p1, p2, p3⟩ := hPL.2.2 k hk
  obtain ⟨q1, q2, q3, q4⟩ := hPM.2.2 k hk
  rw [r_rng (x := b) (L := 0) (H := 2) (by decide) (by decide)]
  simp only [b1s, s01]
  by_cases h2 : rng b 0 2 = true
  · rw [if_pos h2, lA0]
    simp only [b1s]
    obtain ⟨c, -, hc, rfl⟩ := (rng_nI (l := 0) (h := 2) (by omega)).mp h2
    have hc3 : c = 0 ∨ c = 1 ∨ c = 2 := by omega
    rcases hc3 with rfl | rfl | rfl
    · rw [if_pos (show nI 0 = (0 : Int32) from rfl), la97, nI_add, gd_nI (by omega) (by omega), gd_nI (by omega) (by omega), p2, Nat.add_zero, q2]
      exact ⟨_, rfl, rfl⟩
    · rw [if_neg (show ¬ nI 1 = (0 : Int32) by decide), if_pos (show nI 1 = (1 : Int32) from rfl), la111, nI_add, gd_nI (by omega) (by omega), gd_nI (by omega) (by omega), p3, q3]
      exact ⟨_, rfl, rfl⟩
    · rw [if_neg (show ¬ nI 2 = (0 : Int32) by decide), if_neg (show ¬ nI 2 = (1 : Int32) by decide), if_pos (show nI 2 = (2 : Int32) from rfl), nI_add, gd_nI (by omega) (by omega), q4, bt_get _ (by omega)]
      exact ⟨_, rfl, rfl⟩
  · rw [if_neg h2, if_neg (by rintro rfl; exact h2 rfl), if_neg (by rintro rfl; exact h2 rfl), if_neg (by rintro rfl; exact h2 rfl)]
    by_cases e3 : b = 3
    · rw [if_pos e3, if_pos e3, r_works hB.PS hB.opp hPM hk]
      unfold f_X0_allBoards
      simp only [b1s, flag01]
      rw [hB.r4, all_mask n hn, d_wla hB.PR hPL]
      simp only [b1s]
      rw [bt_get _ (by omega), bt_mask _ (by omega) (by omega), bt_mask _ (by omega) (by omega)]
      simp only [hk, p1, decide_true, Bool.true_and]
      exact ⟨_, rfl, rfl⟩
    · rw [if_neg e3, if_neg e3]
      exact ⟨_, rfl, rfl⟩
theorem boards_loop {s : zA} {n : Nat} (hn : n ≤ 10) (h4 : s 4 = nI n) (c : Int32) (g : Nat → Bool) (hs : ∀ (i f : Nat) (l : Int32), i < n → B_X3_boards_4 (f + 1) c l (nI i) s = B_X3_boards_4 f c (l ||| ((if g i = true then (1 : Int32) else 0) <<< (nI i &&& 31))) (nI (i + 1)) s) : ∀ (j i fuel : Nat), n = i + j → j < fuel → B_X3_boards_4 fuel c (mask g i) (nI i) s = some (mask g n) := by
  intro j
  induction j with
  | zero =>
    intro i fuel hi hf
    obtain ⟨f, rfl⟩ : ∃ f, fuel = f + 1 := ⟨fuel - 1, by omega⟩
    have : i = n := by omega
    subst this
    rw [B_X3_boards_4, h4, if_pos (Int32.le_refl _)]
  | succ j ih =>
    intro i fuel hi hf
    obtain ⟨f, rfl⟩ : ∃ f, fuel = f + 1 := ⟨fuel - 1, by omega⟩
    rw [hs i f _ (by omega), mask_or (f := g) (by omega) Iff.rfl]
    exact ih (i + 1) f (by omega) (by omega)
theorem r_boards {s : zA} {n : Nat} (hn : n ≤ 10) (h4 : s 4 = nI n) (c : Int32) (g : Nat → Bool) (hs : ∀ (i f : Nat) (l : Int32), i < n → B_X3_boards_4 (f + 1) c l (nI i) s = B_X3_boards_4 f c (l ||| ((if g i = true then (1 : Int32) else 0) <<< (nI i &&& 31))) (nI (i + 1)) s) : f_X3_boards c s = some (mask g n) := by
  have := boards_loop hn h4 c g hs n 0 FU (by omega) (FU_lt (by omega))
  exact this
theorem r_b3 {s : zA} {n : Nat} {par : Nat → Nat} {op : Nat → Bool} (P : PS s 0 n par) (hop : ∀ k, k < n → op k = decide (s (0 + 16 + 9 * k + 3) = 2)) : f_X3_boards 3 s = some (mask (ded par op) n) := by
  have hn := P.2.1
  have h4 := P.2.2.1
  rw [Nat.zero_add] at h4
  refine r_boards hn h4 3 _ fun i f l hi => ?_
  have rd := r_dead P hop hi
  rw [show nI 0 = (0 : Int32) from rfl] at rd
  rw [B_X3_boards_4, h4, if_neg (by rw [le_nI (by omega) (by omega)]; omega), if_pos rfl, rd]
  simp only [b1s, B_X3_boards_58, flag01, nmI, ra1]
theorem r_b56 {s : zA} {n : Nat} {par : Nat → Nat} (P : PS s 0 n par) (c e : Int32) (h : (c = 5 ∧ e = 2) ∨ (c = 6 ∧ e = 1)) : f_X3_boards c s = some (mask (fun k => decide (s (0 + 16 + 9 * k + 3) = e)) n) := by
  have hn := P.2.1
  have h4 := P.2.2.1
  rw [Nat.zero_add] at h4
  have e1 : f_X3_flag 1 = some 1 := rfl
  have e2 : f_X3_flag 0 = some 0 := rfl
  refine r_boards hn h4 c _ fun i f l hi => ?_
  rw [B_X3_boards_4, h4, if_neg (by rw [le_nI (by omega) (by omega)]; omega), bA0]
  simp only [b1s, ra3]
  rw [gd_nI (by omega) (by omega)]
  rcases h with ⟨rfl, rfl⟩ | ⟨rfl, rfl⟩
  · rw [if_neg (by decide), if_pos rfl]
    simp only [B_X3_boards_50, B_X3_boards_58, e1, e2, b1s, nmI, ra1, decide_eq_true_eq]
    by_cases q : s (0 + 16 + 9 * i + 3) = 2
    · rw [if_pos q, if_pos q]
    · rw [if_neg q, if_neg q]
  · rw [if_neg (by decide), if_neg (by decide)]
    simp only [B_X3_boards_50, B_X3_boards_58, e1, e2, b1s, nmI, ra1, decide_eq_true_eq]
    by_cases q : s (0 + 16 + 9 * i + 3) = 1
    · rw [if_pos q, if_pos q]
    · rw [if_neg q, if_neg q]
theorem d_burning {row : zA} {n : Nat} {g : Nat → Bool} (hn : n ≤ 10) (h4 : row 4 = nI n) (hg : ∀ k, k < n → (row (47 + k) ≤ 0) = (g k = false)) : ∀ (j i fuel : Nat), n = i + j → j < fuel → B_X0_burningBoards_4 fuel (mask g i) (nI i) row = some (mask g n) := by
  intro j
  induction j with
  | zero =>
    intro i fuel hi hf
    obtain ⟨f, rfl⟩ : ∃ f, fuel = f + 1 := ⟨fuel - 1, by omega⟩
    have : i = n := by omega
    subst this
    rw [B_X0_burningBoards_4, h4, if_pos (Int32.le_refl _)]
  | succ j ih =>
    intro i fuel hi hf
    obtain ⟨f, rfl⟩ : ∃ f, fuel = f + 1 := ⟨fuel - 1, by omega⟩
    have step : mask g (i + 1) = if g i then mask g i ||| ((1 : Int32) <<< (nI i &&& 31)) else mask g i := rfl
    rw [B_X0_burningBoards_4, h4, if_neg (by rw [le_nI (by omega) (by omega)]; omega), la47, gd_nI (by omega) (by omega)]
    simp only [nmI, ra1, hg i (show i < n by omega)]
    cases hb : g i with
    | false =>
      rw [hb, if_neg (by simp)] at step
      rw [if_pos rfl, ← step]
      exact ih (i + 1) f (by omega) (by omega)
    | true =>
      rw [hb, if_pos rfl] at step
      rw [if_neg (by simp), ← step]
      exact ih (i + 1) f (by omega) (by omega)
theorem d_cur0 {row : zA} {n m : Nat} {par : Nat → Nat} {pl cu : Nat → Nat} (P : PR row n par) (Q : PL row n m pl cu) (hn : n = 0) (flow : zA) : ∃ fl, f_X0_addUpCurrents row flow = some fl ∧ fl 0 = 0 := by
  subst hn
  obtain ⟨fl0, h1, h2⟩ := d_fill10 flow
  have hm : m = 0 := Nat.eq_zero_of_not_pos fun hm => absurd (Q.2.2 0 hm).1 (by omega)
  subst hm
  refine ⟨fl0, ?_, h2 0 (by omega)⟩
  obtain ⟨f, hf⟩ : ∃ f, FU = f + 1 := ⟨299, FU_eq⟩
  unfold f_X0_addUpCurrents
  rw [h1, d_dead P]
  simp only [b1s]
  rw [hf, B_X0_addUpCurrents_15, Q.2.1, if_pos (show nI 0 ≤ (0 : Int32) by decide), P.2.1]
  simp only [nmI]
  rw [hf, B_X0_addUpCurrents_102, if_pos (show nI 0 - 1 ≤ (0 : Int32) by decide)]
theorem sim_count {nr co pf : zA} {hi sl : Nat → zA} {sv ff s sv2 tx mf : zA} (h : REL nr co pf hi sl sv ff s sv2 tx mf) (a : Int32) (nf : zA) : ∃ (v : Int32) (nf' : zA), f_X2_count a nr nf pf ff = some (v, nf') ∧ f_X3_count a s mf = some v := by
  obtain ⟨⟨n, m, T, par, hT, hg, hB, hl⟩, ⟨u, sp, -, -, e6, e7, m1, -⟩, h5, ⟨len, p1, p2, p3, p4⟩, -⟩ := h
  have hn := hB.n10
  have s4 : s 4 = nI n := by have := hB.s4; rw [Nat.zero_add] at this; exact this
  have hl' := hl
  obtain ⟨pl, cu, hPL, hPM, -, -⟩ := hl'
  have hm := hPL.1
  have s5 : s 5 = nI m := by have := hPM.2.1; rw [Nat.zero_add] at this; exact this
  obtain ⟨B, hB1, b1', b2', b3'⟩ := hB.bl
  rw [Nat.zero_add] at b2'
  have st : ∀ j, j < 4 → nr j = s j := fun j hj => by have := hB.st0 j hj; rw [Nat.zero_add] at this; exact this
  unfold f_X2_count f_X3_count f_X0_aboutHouse
  by_cases e12 : a = 12
  · subst e12
    rw [if_pos rfl]
    unfold f_X1_length
    rw [p2, p3]
    exact ⟨_, _, rfl, rfl⟩
  rw [if_neg e12]
  by_cases e13 : a = 13
  · subst e13
    rw [if_pos rfl, e7, m1]
    exact ⟨_, _, rfl, rfl⟩
  rw [if_neg e13]
  by_cases e0 : a = 0
  · subst e0
    rw [if_pos rfl, if_pos rfl, st 3 (by omega)]
    exact ⟨_, _, rfl, rfl⟩
  rw [if_neg e0, if_neg e0]
  by_cases e1 : a = 1
  · subst e1
    rw [if_pos rfl, if_pos rfl, hB.r4, s4]
    exact ⟨_, _, rfl, rfl⟩
  rw [if_neg e1, if_neg e1]
  by_cases e2 : a = 2
  · subst e2
    rw [if_pos rfl, if_pos rfl, hPL.2.1, s5]
    exact ⟨_, _, rfl, rfl⟩
  rw [if_neg e2, if_neg e2]
  by_cases e3 : a = 3
  · subst e3
    rw [if_pos rfl, if_pos rfl, d_dead hB.PR, r_b3 hB.PS hB.opp]
    exact ⟨_, _, rfl, rfl⟩
  rw [if_neg e3, if_neg e3]
  by_cases e4 : a = 4
  · subst e4
    have rw1 := r_working hB.PS hB.opp hPM m 0 FU (by omega) (FU_lt (by omega))
    have rw2 : f_X3_working s = some (mask (fun i => bt (nr 6) i && !ded par (bt (nr 7)) (pl i)) m) := rw1
    rw [if_pos rfl, if_pos rfl, rw2]
    unfold f_X0_allBoards
    simp only [b1s]
    rw [hB.r4, all_mask n hn, d_wla hB.PR hPL]
    have em : mask (fun i => bt (nr 6) i && (bt (mask (fun _ => true) n) (pl i) && !ded par (bt (nr 7)) (pl i))) m = mask (fun i => bt (nr 6) i && !ded par (bt (nr 7)) (pl i)) m := mask_congr fun i hi => by
      have := (hPL.2.2 i hi).1
      rw [bt_mask _ (by omega) (by omega)]
      simp [this]
    rw [em]
    exact ⟨_, _, rfl, rfl⟩
  rw [if_neg e4, if_neg e4]
  by_cases e5 : a = 5
  · subst e5
    rw [if_pos rfl, if_pos rfl, r_b56 hB.PS 5 2 (Or.inl ⟨rfl, rfl⟩)]
    have em : nr 7 = mask (fun k => decide (s (0 + 16 + 9 * k + 3) = 2)) n := mask_is (by omega) fun j hj => by
      by_cases hjn : j < n
      · rw [hB.opp j hjn]; simp [hjn]
      · rw [hB.op j (by omega)]; simp [hjn]
    rw [← em]
    exact ⟨_, _, rfl, rfl⟩
  rw [if_neg e5, if_neg e5]
  by_cases e6' : a = 6
  · subst e6'
    rw [if_pos rfl, if_pos rfl, r_b56 hB.PS 6 1 (Or.inr ⟨rfl, rfl⟩)]
    have db := d_burning (g := fun k => decide (s (0 + 16 + 9 * k + 3) = 1)) hn hB.r4 (fun k hk => by
      obtain ⟨w, w1, w2, w3, w4⟩ := hB.hw k hk
      rw [w2, le0 (by omega)]
      rcases w4 with ⟨w5, ⟨w6, w7⟩ | ⟨w6, w7⟩⟩ | ⟨w5, w6, w7⟩
      · rw [w7]; simp [w6]
      · rw [w7]; simp; omega
      · rw [w7, w6]; simp) n 0 FU (by omega) (FU_lt (by omega))
    have db2 : f_X0_burningBoards nr = some (mask (fun k => decide (s (0 + 16 + 9 * k + 3) = 1)) n) := db
    rw [db2]
    exact ⟨_, _, rfl, rfl⟩
  rw [if_neg e6', if_neg e6']
  by_cases e7' : a = 7
  · subst e7'
    rw [if_pos rfl, if_pos rfl, b1', b2']
    exact ⟨_, _, rfl, rfl⟩
  rw [if_neg e7', if_neg e7']
  by_cases e8 : a = 8
  · subst e8
    rw [if_pos rfl, if_pos rfl, s4]
    unfold f_X0_current
    by_cases hn0 : n = 0
    · obtain ⟨fl, f1, f2⟩ := d_cur0 hB.PR hPL hn0 nf
      rw [if_pos (by rw [hn0]; rfl), f1]
      simp only [b1s]
      rw [L0, gd_nI (by omega) (by omega), f2]
      exact ⟨_, _, rfl, rfl⟩
    · obtain ⟨C, C1, C2, C3⟩ := cur_n hB hl h5
      obtain ⟨fl, f1, f2⟩ := C2 nf
      have hC := C3 0 (by omega)
      rw [show nI 0 = (0 : Int32) from rfl] at hC
      rw [if_neg (by rw [eq0 (by omega)]; exact hn0), f1, hC]
      simp only [b1s]
      rw [L0, gd_nI (by omega) (by omega), f2 0 (by omega)]
      exact ⟨_, _, rfl, rfl⟩
  rw [if_neg e8, if_neg e8]
  by_cases e9 : a = 9
  · subst e9
    rw [if_pos rfl, if_pos rfl, st 0 (by omega)]
    exact ⟨_, _, rfl, rfl⟩
  rw [if_neg e9, if_neg e9]
  by_cases e10 : a = 10
  · subst e10
    rw [if_pos rfl, if_pos rfl, st 1 (by omega)]
    exact ⟨_, _, rfl, rfl⟩
  rw [if_neg e10, if_neg e10]
  by_cases e11 : a = 11
  · subst e11
    rw [if_pos rfl, if_pos rfl, st 2 (by omega)]
    exact ⟨_, _, rfl, rfl⟩
  rw [if_neg e11, if_neg e11, if_neg e12, if_neg e13]
  exact ⟨_, _, rfl, rfl⟩
theorem open_loop {s : zA} {n m x : Nat} {par : Nat → Nat} {op on : Nat → Bool} {pl cu : Nat → Nat} (P : PS s 0 n par) (hop : ∀ k, k < n → op k = decide (s (0 + 16 + 9 * k + 3) = 2)) (Q : PM s 0 n m pl cu on) (hx : x < n) : ∀ (j i fuel : Nat), m = i + j → j < fuel → B_X3_ifOpen_14 fuel (nI x) (mask (fun i => on i && (fed par (pl i) x && !ded par op (pl i))) i) (nI i) s = some (mask (fun i => on i && (fed par (pl i) x && !ded par op (pl i))) m) := by
  have hn := P.2.1
  have hm := Q.1
  have h5 := Q.2.1
  rw [Nat.zero_add] at h5
  have e1 : f_X3_flag 1 = some 1 := rfl
  have e2 : f_X3_flag 0 = some 0 := rfl
  intro j
  induction j with
  | zero =>
    intro i fuel hi hf
    obtain ⟨f, rfl⟩ : ∃ f, fuel = f + 1 := ⟨fuel - 1, by omega⟩
    have : i = m := by omega
    subst this
    rw [B_X3_ifOpen_14, h5, if_pos (Int32.le_refl _)]
  | succ j ih =>
    intro i fuel hi hf
    obtain ⟨f, rfl⟩ : ∃ f, fuel = f + 1 := ⟨fuel - 1, by omega⟩
    obtain ⟨q1, q2, q3, q4⟩ := Q.2.2 i (by omega)
    have rf := r_fed P (x := pl i) (k := x) q1 (by omega)
    rw [show nI 0 = (0 : Int32) from rfl] at rf
    have key := ih (i + 1) f (by omega) (by omega)
    have st : ∀ c : Bool, (on i && (fed par (pl i) x && !ded par op (pl i))) = c → mask (fun i => on i && (fed par (pl i) x && !ded par op (pl i))) i ||| ((if c = true then (1 : Int32) else 0) <<< (nI i &&& 31)) = mask (fun i => on i && (fed par (pl i) x && !ded par op (pl i))) (i + 1) := fun c hc => mask_or (f := fun i => on i && (fed par (pl i) x && !ded par op (pl i))) (by omega) (by rw [← hc])
    rw [B_X3_ifOpen_14, h5, if_neg (by rw [le_nI (by omega) (by omega)]; omega), r_works P hop Q (show i < m by omega), lA0]
    simp only [b1s, s01]
    rw [gd_nI (by omega) (by omega), q2, rf]
    simp only [b1s, s01, B_X3_ifOpen_56, B_X3_ifOpen_57, e1, e2, nmI, ra1]
    cases ho : on i <;> cases hf' : fed par (pl i) x <;> cases hd : ded par op (pl i)
    all_goals
      rw [ho, hf', hd] at st
      first
        | (have := st true rfl
           simp only [if_true] at this
           simp only [Bool.not_false, Bool.and_self, if_true]
           rw [this]
           exact key)
        | (have := st false rfl
           simp only [Bool.false_eq_true, if_false] at this
           simp only [Bool.not_true, Bool.not_false, Bool.and_false, Bool.false_and, Bool.and_true, Bool.and_self, Bool.false_eq_true, if_true, if_false]
           rw [this]
           exact key)
theorem sim_ifOpen {nr s : zA} (h : HR nr s 0) (a : Int32) : ∃ v : Int32, f_X2_ifOpen a nr = some v ∧ f_X3_ifOpen a s = some v := by
  obtain ⟨n, m, T, par, hT, hg, hB, pl, cu, hPL, hPM, -, -⟩ := h
  have hn := hB.n10
  have hm := hPL.1
  have s4 : s 4 = nI n := by have := hB.s4; rw [Nat.zero_add] at this; exact this
  unfold f_X2_ifOpen f_X3_ifOpen
  rw [d_isBoard hn hB.r4, r_isBoard hn s4]
  simp only [b1s, s01]
  by_cases h1 : rng a 0 ((n : Int) - 1) = true
  · rw [if_pos h1, if_pos h1]
    obtain ⟨k, hk, rfl⟩ := (rng_ex (by omega)).mp h1
    have ol := open_loop hB.PS hB.opp hPM hk m 0 FU (by omega) (FU_lt (by omega))
    have ol2 : B_X3_ifOpen_14 FU (nI k) 0 0 s = some (mask (fun i => bt (nr 6) i && (fed par (pl i) k && !ded par (bt (nr 7)) (pl i))) m) := ol
    rw [d_fed hB.PR hk, ol2]
    simp only [b1s]
    rw [d_wla hB.PR hPL]
    have em : mask (fun i => bt (nr 6) i && (bt (mask (fun i => fed par i k) n) (pl i) && !ded par (bt (nr 7)) (pl i))) m = mask (fun i => bt (nr 6) i && (fed par (pl i) k && !ded par (bt (nr 7)) (pl i))) m := mask_congr fun i hi => by
      have := (hPL.2.2 i hi).1
      rw [bt_mask _ (by omega) (by omega)]
      simp [this]
    rw [em]
    exact ⟨_, rfl, rfl⟩
  · rw [if_neg h1, if_neg h1]
    exact ⟨_, rfl, rfl⟩
