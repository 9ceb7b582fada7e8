/-! The law: all that is told, as one number: of the row alone -/
section PRT
variable {row : zA} {n m T X : Nat} {par pl cu : Nat → Nat}
theorem cn_any (h : INV row n m T X par pl cu) {w : Nat} (hw : w < 12) : ∃ v, ∀ nf pf ff, ∃ nf', f_X2_count (nI w) row nf pf ff = some (v, nf') := by
  rcases (show w = 0 ∨ w = 1 ∨ w = 2 ∨ w = 3 ∨ w = 4 ∨ w = 5 ∨ w = 6 ∨ w = 7 ∨ w = 8 ∨ w = 9 ∨ w = 10 ∨ w = 11 by omega) with rfl | rfl | rfl | rfl | rfl | rfl | rfl | rfl | rfl | rfl | rfl | rfl
  · exact ⟨_, fun nf pf ff => ⟨_, cn_0 h nf pf ff⟩⟩
  · exact ⟨_, fun nf pf ff => ⟨_, cn_1 h nf pf ff⟩⟩
  · exact ⟨_, fun nf pf ff => ⟨_, cn_2 h nf pf ff⟩⟩
  · exact ⟨_, fun nf pf ff => ⟨_, cn_3 h nf pf ff⟩⟩
  · exact ⟨_, fun nf pf ff => ⟨_, cn_4 h nf pf ff⟩⟩
  · exact ⟨_, fun nf pf ff => ⟨_, cn_5 h nf pf ff⟩⟩
  · exact ⟨_, fun nf pf ff => ⟨_, cn_6 h nf pf ff⟩⟩
  · exact ⟨_, fun nf pf ff => ⟨_, cn_7 h nf pf ff⟩⟩
  · exact ⟨_, fun nf pf ff => ⟨_, cn_8 h nf pf ff⟩⟩
  · exact ⟨_, fun nf pf ff => ⟨_, cn_9 h nf pf ff⟩⟩
  · exact ⟨_, fun nf pf ff => ⟨_, cn_10 h nf pf ff⟩⟩
  · exact ⟨_, fun nf pf ff => ⟨_, cn_11 h nf pf ff⟩⟩
theorem of_any (h : INV row n m T X par pl cu) {k w : Nat} (hk : k < n) (hw : w < 12) : ∃ v, ∀ nf, ∃ nf', f_X2_of (nI k) (nI w) row nf = some (v, nf') := by
  rcases (show w = 0 ∨ w = 1 ∨ w = 2 ∨ w = 3 ∨ w = 4 ∨ w = 5 ∨ w = 6 ∨ w = 7 ∨ w = 8 ∨ w = 9 ∨ w = 10 ∨ w = 11 by omega) with rfl | rfl | rfl | rfl | rfl | rfl | rfl | rfl | rfl | rfl | rfl | rfl
  · exact ⟨_, fun nf => ⟨_, of_0 h hk nf⟩⟩
  · exact ⟨_, fun nf => ⟨_, of_1 h hk nf⟩⟩
  · exact ⟨_, fun nf => ⟨_, of_2 h hk nf⟩⟩
  · exact ⟨_, fun nf => ⟨_, of_3 h hk nf⟩⟩
  · exact ⟨_, fun nf => ⟨_, of_4 h hk nf⟩⟩
  · exact ⟨_, fun nf => ⟨_, of_5 h hk nf⟩⟩
  · exact ⟨_, fun nf => ⟨_, of_6 h hk nf⟩⟩
  · exact ⟨_, fun nf => ⟨_, of_7 h hk nf⟩⟩
  · exact ⟨_, fun nf => ⟨_, of_8 h hk nf⟩⟩
  · exact ⟨_, fun nf => ⟨_, of_9 h hk nf⟩⟩
  · exact ⟨_, fun nf => ⟨_, of_10 h hk nf⟩⟩
  · exact ⟨_, fun nf => ⟨_, of_11 h hk nf⟩⟩
theorem ol_any (h : INV row n m T X par pl cu) {i w : Nat} (hi : i < m) (hw : w < 3) : ∃ v, f_X2_ofLoad (nI i) (nI w) row = some v := by
  rcases (show w = 0 ∨ w = 1 ∨ w = 2 by omega) with rfl | rfl | rfl
  · exact ⟨_, ol_0 h hi⟩
  · exact ⟨_, ol_1 h hi⟩
  · exact ⟨_, ol_2 h hi⟩
theorem bw_any (h : INV row n m T X par pl cu) (hX : X < 1000000) {r : Nat} (hr : r < 8) : ∃ v, f_X2_blown (nI r) row = some v := by
  obtain ⟨e, e1, e2, -⟩ := h.bl
  exact ⟨_, bw_ok hr (by omega) e2⟩
theorem pr_110 (h : INV row n m T X par pl cu) (hX : X < 1000000) : ∀ (j r : Nat) (l1 : Int64), 8 = r + j → ∃ pv, ∀ nf pf ff fuel, j < fuel → B_L_print_110 fuel l1 (nI r) row nf pf ff = some (pv, nf) := by
  intro j
  induction j with
  | zero =>
    intro r l1 hr
    refine ⟨l1, fun nf pf ff fuel hf => ?_⟩
    obtain ⟨f, rfl⟩ : ∃ f, fuel = f + 1 := ⟨fuel - 1, by omega⟩
    rw [B_L_print_110, if_pos (show (8 : Int32) ≤ nI r by rw [ge8 (by omega)]; omega)]
  | succ j ih =>
    intro r l1 hr
    obtain ⟨v, ev⟩ := bw_any h hX (r := r) (by omega)
    obtain ⟨pv, g⟩ := ih (r + 1) ((31 * l1) + (Int32.toInt64 v)) (by omega)
    refine ⟨pv, fun nf pf ff fuel hf => ?_⟩
    obtain ⟨f, rfl⟩ : ∃ f, fuel = f + 1 := ⟨fuel - 1, by omega⟩
    rw [B_L_print_110, if_neg (show ¬ (8 : Int32) ≤ nI r by rw [ge8 (by omega)]; omega), ev, b1s]
    simp only [nmI, ra1]
    exact g nf pf ff f (by omega)
theorem pr_73 (h : INV row n m T X par pl cu) (hX : X < 1000000) : ∀ (j i : Nat) (l1 : Int64), 3 * m = i + j → ∃ pv, ∀ nf pf ff fuel, j < fuel → ∃ nf', B_L_print_73 fuel l1 (nI i) row nf pf ff = some (pv, nf') := by
  have hm := h.m14
  intro j
  induction j with
  | zero =>
    intro i l1 hi
    obtain ⟨pv, g⟩ := pr_110 h hX 8 0 l1 (by omega)
    refine ⟨pv, fun nf pf ff fuel hf => ⟨nf, ?_⟩⟩
    obtain ⟨f, rfl⟩ : ∃ f, fuel = f + 1 := ⟨fuel - 1, by omega⟩
    rw [B_L_print_73, cn_2 h, b2s, lm3, if_pos (show nI (3 * m) ≤ nI i by rw [le_nI (by omega) (by omega)]; omega)]
    exact g nf pf ff FU (FU_lt (by omega))
  | succ j ih =>
    intro i l1 hi
    obtain ⟨v, ev⟩ := ol_any h (i := i / 3) (w := i % 3) (by omega) (by omega)
    obtain ⟨pv, g⟩ := ih (i + 1) ((31 * l1) + (Int32.toInt64 v)) (by omega)
    refine ⟨pv, fun nf pf ff fuel hf => ?_⟩
    obtain ⟨f, rfl⟩ : ∃ f, fuel = f + 1 := ⟨fuel - 1, by omega⟩
    rw [B_L_print_73, cn_2 h, b2s, lm3, if_neg (show ¬ nI (3 * m) ≤ nI i by rw [le_nI (by omega) (by omega)]; omega), L3, pk_rem (by omega) (by omega) (by omega), pk_div (by omega) (by omega) (by omega), ev, b1s]
    simp only [nmI, ra1]
    exact g nf pf ff f (by omega)
theorem pr_33 (h : INV row n m T X par pl cu) (hX : X < 1000000) : ∀ (j i : Nat) (l1 : Int64), 12 * n = i + j → ∃ pv, ∀ nf pf ff fuel, j < fuel → ∃ nf', B_L_print_33 fuel l1 (nI i) row nf pf ff = some (pv, nf') := by
  have hn := h.n10
  have hm := h.m14
  have e12 : ∀ k : Nat, (12 : Int32) * nI k = nI (12 * k) := fun k => by rw [show (12 : Int32) = nI 12 from rfl, pk_mul]
  intro j
  induction j with
  | zero =>
    intro i l1 hi
    obtain ⟨pv, g⟩ := pr_73 h hX (3 * m) 0 l1 (by omega)
    refine ⟨pv, fun nf pf ff fuel hf => ?_⟩
    obtain ⟨f, rfl⟩ : ∃ f, fuel = f + 1 := ⟨fuel - 1, by omega⟩
    obtain ⟨nf', g2⟩ := g nf pf ff FU (FU_lt (by omega))
    refine ⟨nf', ?_⟩
    rw [B_L_print_33, cn_1 h, b2s, e12, if_pos (show nI (12 * n) ≤ nI i by rw [le_nI (by omega) (by omega)]; omega)]
    exact g2
  | succ j ih =>
    intro i l1 hi
    obtain ⟨v, ev⟩ := of_any h (k := i / 12) (w := i % 12) (by omega) (by omega)
    obtain ⟨pv, g⟩ := ih (i + 1) ((31 * l1) + (Int32.toInt64 v)) (by omega)
    refine ⟨pv, fun nf pf ff fuel hf => ?_⟩
    obtain ⟨f, rfl⟩ : ∃ f, fuel = f + 1 := ⟨fuel - 1, by omega⟩
    obtain ⟨nf1, ev1⟩ := ev nf
    obtain ⟨nf', g2⟩ := g nf1 pf ff f (by omega)
    refine ⟨nf', ?_⟩
    rw [B_L_print_33, cn_1 h, b2s, e12, if_neg (show ¬ nI (12 * n) ≤ nI i by rw [le_nI (by omega) (by omega)]; omega), show (12 : Int32) = nI 12 from rfl, pk_rem (by omega) (by omega) (by omega), pk_div (by omega) (by omega) (by omega), ev1, b2s]
    simp only [nmI, ra1]
    exact g2
theorem pr_6 (h : INV row n m T X par pl cu) (hX : X < 1000000) : ∀ (j w : Nat) (l1 : Int64), 12 = w + j → ∃ pv, ∀ nf pf ff fuel, j < fuel → ∃ nf', B_L_print_6 fuel l1 (nI w) row nf pf ff = some (pv, nf') := by
  have hn := h.n10
  have g12 : ∀ {k : Nat}, k < 2 ^ 31 → ((12 : Int32) ≤ nI k) = (12 ≤ k) := fun hk => by rw [show (12 : Int32) = nI 12 from rfl, le_nI (by omega) hk]
  intro j
  induction j with
  | zero =>
    intro w l1 hw
    obtain ⟨pv, g⟩ := pr_33 h hX (12 * n) 0 l1 (by omega)
    refine ⟨pv, fun nf pf ff fuel hf => ?_⟩
    obtain ⟨f, rfl⟩ : ∃ f, fuel = f + 1 := ⟨fuel - 1, by omega⟩
    obtain ⟨nf', g2⟩ := g nf pf ff FU (FU_lt (by omega))
    refine ⟨nf', ?_⟩
    rw [B_L_print_6, if_pos (show (12 : Int32) ≤ nI w by rw [g12 (by omega)]; omega)]
    exact g2
  | succ j ih =>
    intro w l1 hw
    obtain ⟨v, ev⟩ := cn_any h (w := w) (by omega)
    obtain ⟨pv, g⟩ := ih (w + 1) ((31 * l1) + (Int32.toInt64 v)) (by omega)
    refine ⟨pv, fun nf pf ff fuel hf => ?_⟩
    obtain ⟨f, rfl⟩ : ∃ f, fuel = f + 1 := ⟨fuel - 1, by omega⟩
    obtain ⟨nf1, ev1⟩ := ev nf pf ff
    obtain ⟨nf', g2⟩ := g nf1 pf ff f (by omega)
    refine ⟨nf', ?_⟩
    rw [B_L_print_6, if_neg (show ¬ (12 : Int32) ≤ nI w by rw [g12 (by omega)]; omega), ev1, b2s]
    simp only [nmI, ra1]
    exact g2
theorem pr_ok (h : INV row n m T X par pl cu) (hX : X < 1000000) : ∃ pv, ∀ nf pf ff, ∃ nf', f_L_print row nf pf ff = some (pv, nf') := by
  obtain ⟨pv, g⟩ := pr_6 h hX 12 0 9 (by omega)
  exact ⟨pv, fun nf pf ff => g nf pf ff FU (FU_lt (by omega))⟩
theorem lg_same (x : Int64) : lg_cmp x x = 0 := by
  unfold lg_cmp
  have h : ¬ x > x := Int64.lt_irrefl
  rw [if_neg h]
  simp
end PRT
