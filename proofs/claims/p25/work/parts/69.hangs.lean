/-! The law: what hangs together -/
theorem fed_zero {par : Nat → Nat} : ∀ i, fed par i 0 = true
  | 0 => by rw [fed_0]; rfl
  | x + 1 => by rw [fed, fed_zero (min (par (x + 1)) x), Bool.or_true]
termination_by i => i
decreasing_by exact Nat.lt_succ_of_le (Nat.min_le_right _ _)
theorem b01_1 (b : Bool) : (b01 b = 1) = (b = true) := by cases b <;> simp [b01]
theorem b01_0 (b : Bool) : (b01 b = 0) = (b = false) := by cases b <;> simp [b01]
theorem hg_4 {row : zA} {n m T X : Nat} {par pl cu : Nat → Nat} (h : INV row n m T X par pl cu) (nf pf ff : zA) : ∀ (j i fuel : Nat), m = i + j → j < fuel → B_L_hangs_4 fuel (mask (wkB row par pl) i) (nI i) row nf pf ff = B_L_hangs_70 FU (mask (wkB row par pl) m) 0 row nf pf ff := by
  have hn := h.n10
  have hm := h.m14
  intro j
  induction j with
  | zero =>
    intro i fuel hi hf
    obtain ⟨f, rfl⟩ : ∃ f, fuel = f + 1 := ⟨fuel - 1, by omega⟩
    have e : m = i := by omega
    subst e
    rw [B_L_hangs_4, cn_2 h, b2s, if_pos (show nI m ≤ nI m from Int32.le_refl _)]
  | succ j ih =>
    intro i fuel hi hf
    obtain ⟨f, rfl⟩ : ∃ f, fuel = f + 1 := ⟨fuel - 1, by omega⟩
    have him : i < m := by omega
    have hpl := (h.Q.2.2 i him).1
    have ih2 := ih (i + 1) f (by omega) (by omega)
    have e43 : B_L_hangs_43 (fun z0 z1 z2 z3 z4 z5 => B_L_hangs_4 f z0 z1 z2 z3 z4 z5) (b01 (wkB row par pl i)) (mask (wkB row par pl) i) (nI i) row nf pf ff = B_L_hangs_70 FU (mask (wkB row par pl) m) 0 row nf pf ff := by
      unfold B_L_hangs_43
      rw [mask_step (wkB row par pl) (n := i) (v := b01 (wkB row par pl i)) rfl (by omega)]
      simp only [nmI, ra1]
      rw [ol_3 h him, b1s, if_pos rfl]
      exact ih2
    rw [B_L_hangs_4, cn_2 h, b2s, if_neg (show ¬ nI m ≤ nI i by rw [le_nI (by omega) (by omega)]; omega), ol_2 h him, b1s]
    unfold B_L_hangs_42
    have hw : wkB row par pl i = (bt (row 6) i && !ded par (bt (row 7)) (pl i)) := rfl
    simp only [b01_1]
    cases hon : bt (row 6) i with
    | false =>
      rw [if_neg (show ¬ false = true by decide)]
      rw [hw, hon] at e43
      exact e43
    | true =>
      rw [if_pos rfl, ol_0 h him, b1s, of_8 h hpl, b2s]
      simp only [b01_0]
      cases hd : ded par (bt (row 7)) (pl i) with
      | false =>
        rw [if_pos rfl]
        rw [hw, hon, hd] at e43
        exact e43
      | true =>
        rw [if_neg (show ¬ true = false by decide)]
        rw [hw, hon, hd] at e43
        exact e43
theorem hg_150 {row : zA} {n m T X B : Nat} {par pl cu : Nat → Nat} (h : INV row n m T X par pl cu) (hX : X < 1000000) (hB : B < 2 ^ 31) (h8 : row 8 = nI B) (pf ff : zA) : ∀ (j r fuel : Nat) (nf : zA), 8 = r + j → j < fuel → ∃ nf', B_L_hangs_150 fuel (mask (wkB row par pl) m) (nI (if B < 8 then B else 8)) (nI r) row nf pf ff = some (1, nf') := by
  have hn := h.n10
  obtain ⟨e, e1, e2, e3, e4, e5⟩ := h.bl
  intro j
  induction j with
  | zero =>
    intro r fuel nf hr hf
    obtain ⟨f, rfl⟩ : ∃ f, fuel = f + 1 := ⟨fuel - 1, by omega⟩
    obtain ⟨nf', g⟩ := bd_ok h hX nf pf ff
    refine ⟨nf', ?_⟩
    rw [B_L_hangs_150, if_pos (show (8 : Int32) ≤ nI r by rw [ge8 (by omega)]; omega), cn_4 h, b2s, if_pos rfl, g, b2s, if_neg (by decide)]
  | succ j ih =>
    intro r fuel nf hr hf
    obtain ⟨f, rfl⟩ : ∃ f, fuel = f + 1 := ⟨fuel - 1, by omega⟩
    obtain ⟨nf', g⟩ := ih (r + 1) f nf (by omega) (by omega)
    refine ⟨nf', ?_⟩
    rw [B_L_hangs_150, if_neg (show ¬ (8 : Int32) ≤ nI r by rw [ge8 (by omega)]; omega), bw_ok (by omega) hB h8, b1s]
    by_cases hrB : r < B
    · have hl : r < (if B < 8 then B else 8) := by split <;> omega
      have hl2 : (if B < 8 then B else 8) ≤ 8 := by split <;> omega
      have eB : sm e n = B := by
        have := e2.symm.trans h8
        rwa [eq_nI (by omega) hB] at this
      obtain ⟨b, b1, b2, b3⟩ := e5 r (by omega) (by omega)
      have hle := sm_term (e := e) b1
      rw [if_pos hrB, if_neg (show ¬ nI (if B < 8 then B else 8) ≤ nI r by rw [le_nI (by omega) (by omega)]; omega), b2, if_neg (show ¬ nI b < 0 by rw [lt0 (by omega)]; omega), cn_1 h, b2s, if_neg (show ¬ nI n ≤ nI b by rw [le_nI (by omega) (by omega)]; omega), of_11 h b1, b2s, e3 b b1, if_neg (show ¬ nI (e b) = 0 by rw [eq0 (by omega)]; omega)]
      simp only [nmI, ra1]
      exact g
    · have hl : (if B < 8 then B else 8) ≤ r := by split <;> omega
      rw [if_neg hrB, if_pos (show nI (if B < 8 then B else 8) ≤ nI r by rw [le_nI (by omega) (by omega)]; exact hl), if_pos rfl]
      simp only [nmI, ra1]
      exact g
theorem hg_70 {row : zA} {n m T X : Nat} {par pl cu : Nat → Nat} (h : INV row n m T X par pl cu) (hX : X < 1000000) (pf ff : zA) : ∀ (j k fuel : Nat) (nf : zA), n = k + j → j < fuel → ∃ nf', B_L_hangs_70 fuel (mask (wkB row par pl) m) (nI k) row nf pf ff = some (1, nf') := by
  have hn := h.n10
  have hm := h.m14
  obtain ⟨e, e1, e2, e3, e4, e5⟩ := h.bl
  intro j
  induction j with
  | zero =>
    intro k fuel nf hk hf
    obtain ⟨f, rfl⟩ : ∃ f, fuel = f + 1 := ⟨fuel - 1, by omega⟩
    have e0 : n = k := by omega
    subst e0
    obtain ⟨nf', g⟩ := hg_150 h hX (B := sm e n) (by omega) e2 pf ff 8 0 FU nf (by omega) (FU_lt (by omega))
    refine ⟨nf', ?_⟩
    rw [B_L_hangs_70, cn_1 h, b2s, if_pos (show nI n ≤ nI n from Int32.le_refl _), cn_7 h, b2s, e2]
    by_cases h8 : 8 ≤ sm e n
    · rw [if_neg (show ¬ sm e n < 8 by omega)] at g
      rw [if_pos (show (8 : Int32) ≤ nI (sm e n) by rw [ge8 (by omega)]; exact h8)]
      exact g
    · rw [if_pos (show sm e n < 8 by omega)] at g
      rw [if_neg (show ¬ (8 : Int32) ≤ nI (sm e n) by rw [ge8 (by omega)]; exact h8), cn_7 h, b2s, e2]
      exact g
  | succ j ih =>
    intro k fuel nf hk hf
    obtain ⟨f, rfl⟩ : ∃ f, fuel = f + 1 := ⟨fuel - 1, by omega⟩
    have hkn : k < n := by omega
    obtain ⟨nf', g⟩ := ih (k + 1) f nf (by omega) (by omega)
    refine ⟨nf', ?_⟩
    have bits : ∀ q, q < 32 → bt (mask (fun i => bt (row 6) i && (fed par (pl i) k && !ded par (bt (row 7)) (pl i))) m) q = (decide (q < m) && (bt (row 6) q && (fed par (pl q) k && !ded par (bt (row 7)) (pl q)))) := fun q hq => bt_mask _ (by omega) hq
    have e1' : mask (fun i => bt (row 6) i && (fed par (pl i) k && !ded par (bt (row 7)) (pl i))) m &&& (mask (wkB row par pl) m ^^^ (-1)) = 0 := bt_ext fun q hq => by
      rw [bt_and, bt_not _ hq, bits q hq, bt_mask _ (by omega) hq, bt_0]
      unfold wkB
      cases decide (q < m) <;> cases bt (row 6) q <;> cases fed par (pl q) k <;> cases ded par (bt (row 7)) (pl q) <;> rfl
    have e108 : B_L_hangs_108 (fun z0 z1 z2 z3 z4 z5 => B_L_hangs_70 f z0 z1 z2 z3 z4 z5) (mask (wkB row par pl) m) (nI k) (mask (fun i => bt (row 6) i && (fed par (pl i) k && !ded par (bt (row 7)) (pl i))) m) row nf pf ff = some (1, nf') := by
      unfold B_L_hangs_108
      simp only [nmI, ra1]
      by_cases h0 : k = 0
      · subst h0
        rw [if_pos (show nI 0 = (0 : Int32) from rfl), if_pos (show mask (fun i => bt (row 6) i && (fed par (pl i) 0 && !ded par (bt (row 7)) (pl i))) m = mask (wkB row par pl) m from mask_congr fun i hi => by rw [fed_zero]; rfl)]
        exact g
      · rw [if_neg (show ¬ nI k = 0 by rw [eq0 (by omega)]; exact h0)]
        exact g
    rw [B_L_hangs_70, cn_1 h, b2s, if_neg (show ¬ nI n ≤ nI k by rw [le_nI (by omega) (by omega)]; omega), io_ok h hkn, b1s, if_pos e1', of_8 h hkn, b2s]
    simp only [b01_1]
    cases hd : ded par (bt (row 7)) k with
    | false =>
      rw [if_neg (show ¬ false = true by decide)]
      exact e108
    | true =>
      have ez : mask (fun i => bt (row 6) i && (fed par (pl i) k && !ded par (bt (row 7)) (pl i))) m = 0 := bt_ext fun q hq => by
        rw [bits q hq, bt_0]
        by_cases hf : fed par (pl q) k = true
        · rw [ded_fed hd _ hf, hf]
          simp
        · have : fed par (pl q) k = false := by simpa using hf
          rw [this]
          simp
      rw [if_pos rfl, if_pos ez]
      exact e108
theorem hg_ok {row : zA} {n m T X : Nat} {par pl cu : Nat → Nat} (h : INV row n m T X par pl cu) (hX : X < 1000000) (nf pf ff : zA) : ∃ nf', f_L_hangs row nf pf ff = some (1, nf') := by
  have hn := h.n10
  have hm := h.m14
  obtain ⟨nf', g⟩ := hg_70 h hX pf ff n 0 FU nf (by omega) (FU_lt (by omega))
  refine ⟨nf', ?_⟩
  have := hg_4 h nf pf ff m 0 FU (by omega) (FU_lt (by omega))
  exact this.trans g
