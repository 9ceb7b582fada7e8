theorem ite01 (c : Prop) [Decidable c] {γ : Type} (A B : γ) : (if (if c then (1 : Int32) else 0) = 1 then A else B) = if c then A else B := by
  by_cases h : c
  · rw [if_pos h, if_pos h, if_pos rfl]
  · rw [if_neg h, if_neg h, if_neg (by decide)]
theorem d_ahead_loop {row : zA} {n : Nat} {par : Nat → Nat} (P : PR row n par) : ∀ (k x a fuel : Nat), x ≤ k → k < n → k < fuel → B_X0_boardsAhead_7 fuel (nI a) (nI x) (nI k) row = some (nI (a + dpt par x)) := by
  have hn := P.1
  intro k
  induction k with
  | zero =>
    intro x a fuel hx hk hf
    obtain ⟨f, rfl⟩ : ∃ f, fuel = f + 1 := ⟨fuel - 1, by omega⟩
    have : x = 0 := by omega
    subst this
    rw [B_X0_boardsAhead_7, if_pos (show nI 0 ≤ (0 : Int32) by decide), dpt_0, Nat.add_zero]
  | succ k ih =>
    intro x a fuel hx hk hf
    obtain ⟨f, rfl⟩ : ∃ f, fuel = f + 1 := ⟨fuel - 1, by omega⟩
    rw [B_X0_boardsAhead_7, if_neg (by rw [le0 (by omega)]; omega), nI_m1 (by omega)]
    by_cases e : x = k + 1
    · subst e
      have hp := P.2.2.1 (k + 1) (by omega) hk
      rw [if_pos rfl, la17, gd_nI (by omega) (by omega), P.2.2.2.1 (k + 1) (by omega) hk]
      simp only [nmI]
      rw [ra1, show k + 1 - 1 = k by omega, ih _ (a + 1) f (by omega) (by omega) (by omega), dpt_s (by omega) hp]
      congr 2
      omega
    · rw [if_neg (by rw [eq_nI (by omega) (by omega)]; omega)]
      simp only [nmI]
      rw [show k + 1 - 1 = k by omega, ih x a f (by omega) (by omega) (by omega)]
theorem d_ahead {row : zA} {n k : Nat} {par : Nat → Nat} (P : PR row n par) (hk : k < n) : f_X0_boardsAhead (nI k) row = some (nI (dpt par k)) := by
  have hn := P.1
  unfold f_X0_boardsAhead
  rw [L0, d_ahead_loop P k k 0 FU (Nat.le_refl _) hk (FU_lt (by omega)), Nat.zero_add]
