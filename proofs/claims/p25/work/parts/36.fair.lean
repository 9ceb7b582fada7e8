/-! What if: one fault, and every board -/
theorem HR.n4 {nr s : zA} (h : HR nr s 0) : ∃ n, n ≤ 10 ∧ nr 4 = nI n ∧ s 4 = nI n ∧ ∀ k, k < n → ∃ r, 1 ≤ r ∧ r ≤ 100 ∧ nr (27 + k) = nI r ∧ s (0 + 16 + 9 * k + 1) = nI r := by
  obtain ⟨n, m, T, par, hT, hg, hB, hl⟩ := h
  have := hB.s4
  rw [Nat.zero_add] at this
  exact ⟨n, hB.n10, hB.r4, this, hB.rt⟩
theorem or_sh0 (x y : Int32) : x ||| ((0 : Int32) <<< y) = x := by
  simp
