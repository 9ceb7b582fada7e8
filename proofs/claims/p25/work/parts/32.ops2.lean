/-! Loads, settings -/
theorem rng200 {x : Int32} (h : rng x 1 200 = true) : ∃ k, 1 ≤ k ∧ k ≤ 200 ∧ x = nI k := (rng_nI (l := 1) (h := 200) (by omega)).mp h
theorem bt_flip (m : Int32) {k j : Nat} (hk : k < 32) (hj : j < 32) : bt (m ^^^ ((1 : Int32) <<< (nI k &&& 31))) j = (bt m j ^^ decide (j = k)) := by rw [bt_xor, bt_shl1 hk hj]
