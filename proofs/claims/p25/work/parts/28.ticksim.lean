/-! A tick, whole -/
theorem bt_cond {c : Prop} [Decidable c] {m : Int32} {k j : Nat} (hk : k < 32) (hj : j ≠ k) : bt (if c then m ||| ((1 : Int32) <<< (nI k &&& 31)) else m) j = bt m j := by
  by_cases h : c
  · rw [if_pos h]
    by_cases h32 : j < 32
    · rw [bt_set _ hk h32]
      simp [hj]
    · rw [bt_big _ (by omega), bt_big _ (by omega)]
  · rw [if_neg h]
