/-! Reads -/
theorem flag01 (c : Prop) [Decidable c] : f_X3_flag (if c then 1 else 0) = some (if c then 1 else 0) := by
  by_cases h : c
  · rw [if_pos h]; rfl
  · rw [if_neg h]; rfl
theorem ite01 (c : Prop) [Decidable c] {γ : Type} (A B : γ) : (if (if c then (1 : Int32) else 0) = 1 then A else B) = if c then A else B := by
  by_cases h : c
  · rw [if_pos h, if_pos h, if_pos rfl]
  · rw [if_neg h, if_neg h, if_neg (by decide)]
theorem d_ahead_loop {row : zA} {n : Nat} {par : Nat → Nat} (P : PR row n par) : ∀ (k x a fuel : Nat), x ≤ k → k < n → k < fuel → B_X0_boardsAhead_7 fuel (nI a) (nI x) (nI k) row = some (nI (a + dpt par x)) := by
  have hn := P.1
  intro k
  induction k with
  | zero =>
    intro x a fuel hx hk hf
    obtain ⟨f, rfl⟩ : ∃ f, fuel = f + 1 := ⟨fuel - 1, by omega⟩
    have : x = 0 := by omega
    subst this
    rw [B_X0_boardsAhead_7, if_pos (show nI 0 ≤ (0 : Int32) by decide), dpt_0, Nat.add_zero]
  | succ k ih =>
    intro x a fuel hx hk hf
    obtain ⟨f, rfl⟩ : ∃ f, fuel = f + 1 := ⟨fuel - 1, by omega⟩
    rw [B_X0_boardsAhead_7, if_neg (by rw [le0 (by omega)]; omega), nI_m1 (by omega)]
    by_cases e : x = k + 1
    · subst e
      have hp := P.2.2.1 (k + 1) (by omega) hk
      rw [if_pos rfl, la17, gd_nI (by omega) (by omega), P.2.2.2.1 (k + 1) (by omega) hk]
      simp only [nmI]
      rw [ra1, show k + 1 - 1 = k by omega, ih _ (a + 1) f (by omega) (by omega) (by omega), dpt_s (by omega) hp]
      congr 2
      omega
    · rw [if_neg (by rw [eq_nI (by omega) (by omega)]; omega)]
      simp only [nmI]
      rw [show k + 1 - 1 = k by omega, ih x a f (by omega) (by omega) (by omega)]
theorem r_depth_loop {s : zA} {n : Nat} {par : Nat → Nat} (P : PS s 0 n par) : ∀ (x a fuel : Nat), x < n → x + 1 < fuel → B_X3_depth_4 fuel (nI a - 1) (nI x) s = some (nI (a + dpt par x)) := by
  have hn := P.2.1
  intro x
  induction x using Nat.strongRecOn with
  | ind x ih =>
    intro a fuel hx hf
    obtain ⟨f, rfl⟩ : ∃ f, fuel = f + 1 := ⟨fuel - 1, by omega⟩
    have e0 : nI a - 1 + 1 = nI a := by simp
    rw [B_X3_depth_4, if_neg (by rw [nI_ne6 (by omega)]; exact id), e0, bA0]
    simp only [nmI, b1s]
    rw [gd_nI (by omega) (by omega)]
    by_cases h0 : x = 0
    · subst h0
      obtain ⟨g, rfl⟩ : ∃ g, f = g + 1 := ⟨f - 1, by omega⟩
      rw [show s (0 + 16 + 9 * 0) = -6 from P.2.2.2.2.2 (by omega), B_X3_depth_4, if_pos rfl, dpt_0, Nat.add_zero]
    · have hp := P.2.2.2.1 x (by omega) hx
      rw [P.2.2.2.2.1 x (by omega) hx, show nI a = nI (a + 1) - 1 by rw [← ra1]; simp, ih (par x) hp (a + 1) f (by omega) (by omega), dpt_s (by omega) hp]
      congr 2
      omega
theorem d_ahead {row : zA} {n k : Nat} {par : Nat → Nat} (P : PR row n par) (hk : k < n) : f_X0_boardsAhead (nI k) row = some (nI (dpt par k)) := by
  have hn := P.1
  unfold f_X0_boardsAhead
  rw [L0, d_ahead_loop P k k 0 FU (Nat.le_refl _) hk (FU_lt (by omega)), Nat.zero_add]
theorem r_depth {s : zA} {n k : Nat} {par : Nat → Nat} (P : PS s 0 n par) (hk : k < n) : f_X3_depth (nI k) s = some (nI (dpt par k)) := by
  have hn := P.2.1
  unfold f_X3_depth
  rw [show (-1 : Int32) = nI 0 - 1 by decide, r_depth_loop P k 0 FU hk (FU_lt (by omega)), Nat.zero_add]
theorem sim_of {nr s mf : zA} (h : HR nr s 0) (h5 : mf 5 = -6) (a b : Int32) (nf : zA) : ∃ (v : Int32) (nf' : zA), f_X2_of a b nr nf = some (v, nf') ∧ f_X3_of a b s mf = some v := by
  obtain ⟨n, m, T, par, hT, hg, hB, hl⟩ := h
  have hn := hB.n10
  have r4 := hB.r4
  have s4 : s 4 = nI n := by have := hB.s4; rw [Nat.zero_add] at this; exact this
  unfold f_X2_of f_X3_of f_X0_aboutBoard
  rw [d_isBoard hn r4, r_isBoard hn s4]
  simp only [b1s, s01]
  by_cases h1' : ¬ rng a 0 ((n : Int) - 1) = true
  · rw [if_neg h1', if_neg h1']
    exact ⟨_, _, rfl, rfl⟩
  have h1 := Classical.not_not.mp h1'
  rw [if_pos h1, if_pos h1, if_pos h1]
  obtain ⟨k, hk, rfl⟩ := (rng_ex (by omega)).mp h1
  obtain ⟨C, C1, C2, C3⟩ := cur_n hB hl h5
  obtain ⟨fl, f1, f2⟩ := C2 nf
  have hC := C3 k hk
  rw [show nI 0 = (0 : Int32) from rfl] at hC
  rw [bA0]
  simp only [b1s]
  by_cases e0 : b = 0
  · subst e0
    rw [if_pos rfl, if_pos rfl, ra0, gd_nI (by omega) (by omega), la17, gd_nI (by omega) (by omega)]
    by_cases hk0 : k = 0
    · subst hk0
      rw [if_pos (show nI 0 = (0 : Int32) from rfl)]
      exact ⟨_, _, rfl, congrArg some (hB.f0 (by omega))⟩
    · rw [if_neg (by rw [eq0 (by omega)]; exact hk0)]
      obtain ⟨q1, q2⟩ := hB.fr k (by omega) hk
      rw [q1]
      exact ⟨_, _, rfl, congrArg some q2⟩
  rw [if_neg e0, if_neg e0]
  by_cases e1 : b = 1
  · subst e1
    obtain ⟨r, -, -, q1, q2⟩ := hB.rt k hk
    rw [if_pos rfl, if_pos rfl, ra1, gd_nI (by omega) (by omega), la27, gd_nI (by omega) (by omega), q1, q2]
    exact ⟨_, _, rfl, rfl⟩
  rw [if_neg e1, if_neg e1]
  by_cases e2 : b = 2
  · subst e2
    obtain ⟨r, -, q1, q2⟩ := hB.kd k hk
    rw [if_pos rfl, if_pos rfl, ra2, gd_nI (by omega) (by omega), la37, gd_nI (by omega) (by omega), q1, q2]
    exact ⟨_, _, rfl, rfl⟩
  rw [if_neg e2, if_neg e2]
  obtain ⟨w, w1, w2, w3, w4⟩ := hB.hw k hk
  by_cases e3 : b = 3
  · subst e3
    rw [if_pos rfl, if_pos rfl, ra3, gd_nI (by omega) (by omega)]
    unfold f_X0_state
    simp only [bt_is0 _ (show k < 32 by omega)]
    rw [la47, gd_nI (by omega) (by omega), w2]
    simp only [le0 (show w < 2 ^ 31 by omega)]
    rcases w4 with ⟨w5, w6⟩ | ⟨w5, w6, w7⟩
    · rw [if_pos w5]
      rcases w6 with ⟨w6, w7⟩ | ⟨w6, w7⟩
      · rw [if_pos (by omega), w7]
        exact ⟨_, _, rfl, rfl⟩
      · rw [if_neg (by omega), w7]
        exact ⟨_, _, rfl, rfl⟩
    · rw [if_neg (by simp [w5]), w7]
      exact ⟨_, _, rfl, rfl⟩
  rw [if_neg e3, if_neg e3]
  by_cases e4 : b = 4
  · subst e4
    rw [if_pos rfl, if_pos rfl, hC]
    unfold f_X0_current
    rw [f1]
    simp only [b1s]
    rw [gd_nI (by omega) (by omega), f2 k hk]
    exact ⟨_, _, rfl, rfl⟩
  rw [if_neg e4, if_neg e4]
  by_cases e5 : b = 5
  · subst e5
    obtain ⟨r, -, q1, q2⟩ := hB.ht k hk
    rw [if_pos rfl, if_pos rfl, ra4, gd_nI (by omega) (by omega), la57, gd_nI (by omega) (by omega), q1, q2]
    exact ⟨_, _, rfl, rfl⟩
  rw [if_neg e5, if_neg e5]
  by_cases e6 : b = 6
  · subst e6
    obtain ⟨r, -, -, q1, q2⟩ := hB.rt k hk
    obtain ⟨r', -, q3, q4⟩ := hB.kd k hk
    have := r_melt (s := s) (b := 0) (k := k) (by omega) (by omega)
    rw [show nI 0 = (0 : Int32) from rfl] at this
    rw [if_pos rfl, if_pos rfl, d_melt (by omega), this, q1, q2, q3, q4, hB.sp k hk]
    exact ⟨_, _, rfl, rfl⟩
  rw [if_neg e6, if_neg e6]
  by_cases e7 : b = 7
  · subst e7
    rw [if_pos rfl, if_pos rfl, ra5, gd_nI (by omega) (by omega), la67, gd_nI (by omega) (by omega), hB.sp k hk]
    exact ⟨_, _, rfl, rfl⟩
  rw [if_neg e7, if_neg e7]
  by_cases e8 : b = 8
  · subst e8
    have := r_dead hB.PS hB.opp hk
    rw [show nI 0 = (0 : Int32) from rfl] at this
    rw [if_pos rfl, if_pos rfl, d_dead hB.PR, this]
    simp only [b1s]
    rw [flag01, bt_get _ (by omega), bt_mask _ (by omega) (by omega)]
    simp only [hk, decide_true, Bool.true_and]
    exact ⟨_, _, rfl, rfl⟩
  rw [if_neg e8, if_neg e8]
  by_cases e9 : b = 9
  · subst e9
    rw [if_pos rfl, if_pos rfl, d_ahead hB.PR hk, r_depth hB.PS hk]
    exact ⟨_, _, rfl, rfl⟩
  rw [if_neg e9, if_neg e9]
  by_cases e10 : b = 10
  · subst e10
    rw [if_pos rfl, if_pos rfl, ra7, gd_nI (by omega) (by omega), la47, gd_nI (by omega) (by omega), w2, w3]
    exact ⟨_, _, rfl, rfl⟩
  rw [if_neg e10, if_neg e10]
  by_cases e11 : b = 11
  · subst e11
    rw [if_pos rfl, if_pos rfl, ra8, gd_nI (by omega) (by omega), la87, gd_nI (by omega) (by omega), hB.he k hk]
    exact ⟨_, _, rfl, rfl⟩
  rw [if_neg e11, if_neg e11]
  exact ⟨_, _, rfl, rfl⟩
