theorem d_burning {row : zA} {n : Nat} {g : Nat → Bool} (hn : n ≤ 10) (h4 : row 4 = nI n) (hg : ∀ k, k < n → (row (47 + k) ≤ 0) = (g k = false)) : ∀ (j i fuel : Nat), n = i + j → j < fuel → B_X0_burningBoards_4 fuel (mask g i) (nI i) row = some (mask g n) := by
  intro j
  induction j with
  | zero =>
    intro i fuel hi hf
    obtain ⟨f, rfl⟩ : ∃ f, fuel = f + 1 := ⟨fuel - 1, by omega⟩
    have : i = n := by omega
    subst this
    rw [B_X0_burningBoards_4, h4, if_pos (Int32.le_refl _)]
  | succ j ih =>
    intro i fuel hi hf
    obtain ⟨f, rfl⟩ : ∃ f, fuel = f + 1 := ⟨fuel - 1, by omega⟩
    have step : mask g (i + 1) = if g i then mask g i ||| ((1 : Int32) <<< (nI i &&& 31)) else mask g i := rfl
    rw [B_X0_burningBoards_4, h4, if_neg (by rw [le_nI (by omega) (by omega)]; omega), la47, gd_nI (by omega) (by omega)]
    simp only [nmI, ra1, hg i (show i < n by omega)]
    cases hb : g i with
    | false =>
      rw [hb, if_neg (by simp)] at step
      rw [if_pos rfl, ← step]
      exact ih (i + 1) f (by omega) (by omega)
    | true =>
      rw [hb, if_pos rfl] at step
      rw [if_neg (by simp), ← step]
      exact ih (i + 1) f (by omega) (by omega)
theorem d_cur0 {row : zA} {n m : Nat} {par : Nat → Nat} {pl cu : Nat → Nat} (P : PR row n par) (Q : PL row n m pl cu) (hn : n = 0) (flow : zA) : ∃ fl, f_X0_addUpCurrents row flow = some fl ∧ fl 0 = 0 := by
  subst hn
  obtain ⟨fl0, h1, h2⟩ := d_fill10 flow
  have hm : m = 0 := Nat.eq_zero_of_not_pos fun hm => absurd (Q.2.2 0 hm).1 (by omega)
  subst hm
  refine ⟨fl0, ?_, h2 0 (by omega)⟩
  obtain ⟨f, hf⟩ : ∃ f, FU = f + 1 := ⟨299, FU_eq⟩
  unfold f_X0_addUpCurrents
  rw [h1, d_dead P]
  simp only [b1s]
  rw [hf, B_X0_addUpCurrents_15, Q.2.1, if_pos (show nI 0 ≤ (0 : Int32) by decide), P.2.1]
  simp only [nmI]
  rw [hf, B_X0_addUpCurrents_102, if_pos (show nI 0 - 1 ≤ (0 : Int32) by decide)]
