/-! The law's loop -/
def LOK (o : Option (Int32 × zA × zA × zA × zA × (Nat → zA) × (Nat → zA) × zA × zA)) : Prop := ∃ y, o = some (1, y)
theorem cell_ok {L q : Nat} (hL : L < 2 ^ 31) (hq : q < 2 ^ 31) (xs : zA) : ∃ v, cellf L xs (nI q) = some v := by
  unfold cellf
  by_cases h : L ≤ q
  · rw [if_pos (show nI L ≤ nI q by rw [le_nI hL hq]; exact h)]
    exact ⟨_, rfl⟩
  · rw [if_neg (show ¬ nI L ≤ nI q by rw [le_nI hL hq]; exact h)]
    unfold gd
    rw [if_neg (nI_in (by omega) hL)]
    exact ⟨_, rfl⟩
section LAW
variable {L : Nat} {xs : zA} {row pf : zA} {T X k : Nat} {x y : Int32} {K : Int32 → Int32 → zA → zA → zA → zA → zA → (Nat → zA) → (Nat → zA) → zA → zA → Option (Int32 × zA × zA × zA × zA × (Nat → zA) × (Nat → zA) × zA × zA)}
theorem lw_375 (hK : ∀ nf tr tf hi sl sv ff sp u, FFo ff sp u → FAR tr → LOK (K 1 (nI (k + 1)) row nf tr tf pf hi sl sv ff)) (h : GI row T X) (hT : T ≤ 1000) (hX : X ≤ 100000) {s0 : Int32} (D : Nat) (hd : s0 = nI D) (h0 : 0 < D) (hD : D ≤ 500) {r1 : Nat} (hr1 : r1 < 100) (s1 : Int32) (nf tr tf : zA) (hi sl : Nat → zA) (sv ff : zA) {sp u : Nat} (hf : FFo ff sp u) (ht : FAR tr) : LOK (B_L_law_375 L xs K s0 s1 1 (nI r1) (nI k) x row nf tr tf pf hi sl sv ff) := by
  obtain ⟨n, m, T', X', par, pl, cu, hT', hX', h, hcu⟩ := h
  obtain ⟨r, hr, e⟩ := lwr_ok s1 D hd h0 (by omega)
  obtain ⟨nf1, tr1, tf1, t1, g1⟩ := te_ok (x := r1) (c := 1 + r) h (by omega) (by omega) (by omega) (by omega) ht nf tf pf ff
  have g1' : f_L_tests (nI r1) (1 + nI r) row nf tr tf pf ff = some (1, nf1, tr1, tf1) := by
    rw [L1, nI_add]
    exact g1
  unfold B_L_law_375
  rw [e, b1s, g1', b4s, if_neg (show ¬ (1 : Int32) = 0 by decide)]
  simp only [nmI, ra1]
  by_cases hq : 0 < nI k - nI k / 5 * 5
  · rw [if_pos hq]
    exact hK _ _ _ _ _ _ _ _ _ hf t1
  · rw [if_neg hq]
    obtain ⟨r2, hr2, e2⟩ := lwr_ok (x >>> (4 &&& 31)) (d := 19) 19 rfl (by omega) (by omega)
    obtain ⟨nf2, tr2, tf2, t2, g2⟩ := fa_ok (t := 2 + r2) h (by omega) (by omega) t1 nf1 tf1 pf ff
    have g2' : f_L_faults (2 + nI r2) row nf1 tr1 tf1 pf ff = some (1, nf2, tr2, tf2) := by
      rw [L2, nI_add]
      exact g2
    rw [e2, b1s, g2', b4s, if_neg (show ¬ (1 : Int32) = 0 by decide)]
    exact hK _ _ _ _ _ _ _ _ _ hf t2
theorem lw_339 (hK : ∀ nf tr tf hi sl sv ff sp u, FFo ff sp u → FAR tr → LOK (K 1 (nI (k + 1)) row nf tr tf pf hi sl sv ff)) (h : GI row T X) (hT : T ≤ 1000) (hX : X ≤ 100000) (nf tr tf : zA) (hi sl : Nat → zA) (sv ff : zA) {sp u : Nat} (hf : FFo ff sp u) (ht : FAR tr) : LOK (B_L_law_339 L xs K (nI k) x y row nf tr tf pf hi sl sv ff) := by
  obtain ⟨r1, hr1, e1⟩ := lwr_ok (x >>> (6 &&& 31)) (d := 6) 6 rfl (by omega) (by omega)
  obtain ⟨r2, hr2, e2⟩ := lwr_ok (y >>> (9 &&& 31)) (d := 3) 3 rfl (by omega) (by omega)
  unfold B_L_law_339
  rw [e1, b1s, e2, b1s]
  by_cases hq : nI r2 = 0
  · rw [if_pos hq]
    exact lw_375 hK h hT hX (s0 := 500) 500 rfl (by omega) (by omega) (by omega) _ nf tr tf hi sl sv ff hf ht
  · rw [if_neg hq]
    exact lw_375 hK h hT hX (s0 := 20) 20 rfl (by omega) (by omega) (by omega) _ nf tr tf hi sl sv ff hf ht
theorem lw_315 (hK : ∀ nf tr tf hi sl sv ff sp u, FFo ff sp u → FAR tr → LOK (K 1 (nI (k + 1)) row nf tr tf pf hi sl sv ff)) (h : GI row T X) (hT : T ≤ 1000) (hX : X ≤ 100000) (nf tr tf : zA) (hi sl : Nat → zA) (sv ff : zA) {sp u : Nat} (hf : FFo ff sp u) (ht : FAR tr) : LOK (B_L_law_315 L xs K 1 (nI k) x y row nf tr tf pf hi sl sv ff) := by
  have hg := h
  obtain ⟨n, m, T', X', par, pl, cu, hT', hX', h, hcu⟩ := h
  obtain ⟨nf1, g1⟩ := hg_ok h (by omega) nf pf ff
  unfold B_L_law_315
  rw [if_neg (by decide), g1, b2s, if_neg (by decide)]
  by_cases hq : 0 < nI k - nI k / 3 * 3
  · rw [if_pos hq]
    exact lw_339 hK hg hT hX nf1 tr tf hi sl sv ff hf ht
  · rw [if_neg hq]
    obtain ⟨nf2, tr2, tf2, hi2, sl2, sv2, ff2, sp2, u2, f2, t2, g2⟩ := gs_ok h (by omega) (by omega) ht hf nf1 tf pf hi sl sv
    rw [g2, b9s, if_neg (by decide)]
    exact lw_339 hK hg hT hX nf2 tr2 tf2 hi2 sl2 sv2 ff2 f2 t2
/-- behind a call: told is v, the row is row' -/
theorem lw_177 {row' : zA} {v : Int32} (hK : ∀ nf tr tf hi sl sv ff sp u, FFo ff sp u → FAR tr → LOK (K 1 (nI (k + 1)) row' nf tr tf pf hi sl sv ff)) (hk : k < 2 ^ 31) (h : GI row T X) (h' : GI row' T X) (hT : T ≤ 1000) (hX : X ≤ 100000) (hv : v < 0 → row' = row) (hact : 8 ≤ k → ∀ nf hi ff sp u, FFo ff sp u → ∃ nf', f_L_act x y row nf hi ff = some (v, row', nf', va_up hi sp (kpn row (hi sp)), if v < 0 then ff else bump ff sp u)) {pv : Int64} (hpv : ∀ nf pf ff, ∃ nf', f_L_print row nf pf ff = some (pv, nf')) (nf tr tf : zA) (hi sl : Nat → zA) (sv ff : zA) {sp u : Nat} (hf : FFo ff sp u) (ht : FAR tr) : LOK (B_L_law_177 L xs K v (nI k) x y (nI u) pv row' nf tr tf pf (va_up hi sp (kpn row (hi sp))) sl sv (if v < 0 then ff else bump ff sp u)) := by
  have hu := hf.2.2.2
  unfold B_L_law_177
  by_cases hneg : v < 0
  · have er := hv hneg
    subst er
    obtain ⟨nf1, g1⟩ := hpv nf pf ff
    rw [if_pos hneg, if_neg (Int32.not_le.mpr hneg), cn_13, b2s, if_pos hf.2.1, g1, b2s, lg_same, if_pos rfl]
    unfold B_L_law_210
    exact lw_315 hK h hT hX nf1 tr tf _ sl sv ff hf ht
  · have hb := bump_ok hf
    rw [if_neg hneg, if_pos (Int32.not_lt.mp hneg), cn_13, b2s, hb.2.1]
    have done : ∀ (nf : zA) (hi : Nat → zA) (ff : zA) (sp u : Nat), FFo ff sp u → LOK (B_L_law_315 L xs K 1 (nI k) x y row' nf tr tf pf hi sl sv ff) := fun nf hi ff sp u hf => lw_315 hK h' hT hX nf tr tf hi sl sv ff hf ht
    have e244 : LOK (B_L_law_244 L xs K 1 (nI k) x y (nI u) pv v row' nf tr tf pf (va_up hi sp (kpn row (hi sp))) sl sv (bump ff sp u)) := by
      unfold B_L_law_244
      rw [if_neg (by decide)]
      by_cases h7 : nI k ≤ 7
      · rw [if_pos h7]
        exact done _ _ _ _ _ hb
      · rw [if_neg h7]
        have h8 : 8 ≤ k := by
          rw [le7 hk] at h7
          omega
        obtain ⟨r, -, e⟩ := lwr_ok (y >>> (5 &&& 31)) (d := 4) 4 rfl (by omega) (by omega)
        rw [e, b1s]
        by_cases h0 : nI r = 0
        · rw [if_pos h0]
          obtain ⟨ff2, f2, g2⟩ := undo_ok (nr := row') (hi := va_up hi sp (kpn row (hi sp))) hb (by omega)
          have hs : ((sp + 1) % 7 + 6) % 7 = sp := by have := hf.2.2.1; omega
          rw [hs, show va_up hi sp (kpn row (hi sp)) sp = kpn row (hi sp) from if_pos rfl, show va_cpy (kpn row (hi sp)) row' 0 0 125 = row from cpy_back h.far h'.far] at g2
          rw [hs] at f2
          obtain ⟨nf3, g3⟩ := hpv nf pf ff2
          obtain ⟨nf4, g4⟩ := hact h8 nf3 (va_up hi sp (kpn row (hi sp))) ff2 _ _ f2
          rw [if_neg hneg] at g4
          rw [g2, b3s]
          have e283 : LOK (B_L_law_283 L xs K (nI (min 6 (u + 1) - 1)) (nI (min 6 (u + 1) - 1)) (nI k) x y pv v row nf tr tf pf (va_up hi sp (kpn row (hi sp))) sl sv ff2) := by
            unfold B_L_law_283
            rw [if_pos rfl, g3, b2s, lg_same, if_pos rfl, g4, b5s, if_pos rfl]
            unfold B_L_law_314
            exact done _ _ _ _ _ (bump_ok f2)
          by_cases h6 : u < 6
          · rw [if_neg (show ¬ (6 : Int32) ≤ nI u by rw [ge6 (by omega)]; omega)]
            rw [show min 6 (u + 1) - 1 = u by omega] at e283 ⊢
            exact e283
          · rw [if_pos (show (6 : Int32) ≤ nI u by rw [ge6 (by omega)]; omega)]
            rw [show min 6 (u + 1) - 1 = 5 by omega] at e283 ⊢
            exact e283
        · rw [if_neg h0]
          exact done _ _ _ _ _ hb
    by_cases h6 : u < 6
    · rw [if_neg (show ¬ (6 : Int32) ≤ nI u by rw [ge6 (by omega)]; omega), ra1, show min 6 (u + 1) = u + 1 by omega]
      unfold B_L_law_236
      rw [if_pos rfl]
      exact e244
    · rw [if_pos (show (6 : Int32) ≤ nI u by rw [ge6 (by omega)]; omega), show min 6 (u + 1) = 6 by omega]
      unfold B_L_law_236
      rw [if_pos (show nI 6 = (6 : Int32) from rfl)]
      exact e244
end LAW
theorem lw_117 {L : Nat} {xs row pf : zA} {T X k : Nat} {x y : Int32} {K : Int32 → Int32 → zA → zA → zA → zA → zA → (Nat → zA) → (Nat → zA) → zA → zA → Option (Int32 × zA × zA × zA × zA × (Nat → zA) × (Nat → zA) × zA × zA)} (hK : ∀ row' nf tr tf hi sl sv ff sp u, GI row' T X → FFo ff sp u → FAR tr → LOK (K 1 (nI (k + 1)) row' nf tr tf pf hi sl sv ff)) (hk : k < 8) (h : GI row T X) (hT : T ≤ 1000) (hX : X ≤ 100000) {pv : Int64} (hpv : ∀ nf pf ff, ∃ nf', f_L_print row nf pf ff = some (pv, nf')) (s0 s1 : Int32) (nf tr tf : zA) (hi sl : Nat → zA) (sv ff : zA) {sp u : Nat} (hf : FFo ff sp u) (ht : FAR tr) : LOK (B_L_law_117 L xs K s0 s1 (nI k) x y (nI u) pv row nf tr tf pf hi sl sv ff) := by
  obtain ⟨r1, -, e1⟩ := lwr_ok y (d := 9) 9 rfl (by omega) (by omega)
  obtain ⟨r2, -, e2⟩ := lwr_ok (y >>> (4 &&& 31)) (d := 3) 3 rfl (by omega) (by omega)
  obtain ⟨v, row', c1, c2, c3⟩ := x_board h (s1 - s0) (1 + nI r1) (nI r2)
  have c1' : f_X2_board (s1 - s0) (1 + nI r1) (nI r2) row hi ff = some (v, row', va_up hi sp (kpn row (hi sp)), if v < 0 then ff else bump ff sp u) := c1 hi ff sp u hf
  unfold B_L_law_117
  rw [e1, b1s, e2, b1s, c1', b4s]
  exact lw_177 (fun nf tr tf hi sl sv ff sp u hf ht => hK row' nf tr tf hi sl sv ff sp u c3 hf ht) (by omega) h c3 hT hX c2 (fun q => absurd q (by omega)) hpv nf tr tf hi sl sv ff hf ht
theorem lw_38 {L : Nat} {xs pf : zA} (hL : L < 2 ^ 31) : ∀ (j k fuel : Nat) (row nf tr tf : zA) (hi sl : Nat → zA) (sv ff : zA) (sp u : Nat), 46 = k + j → j < fuel → GI row (7 * k) (70 * k) → FFo ff sp u → FAR tr → LOK (B_L_law_38 L xs fuel 1 (nI k) row nf tr tf pf hi sl sv ff) := by
  intro j
  induction j with
  | zero =>
    intro k fuel row nf tr tf hi sl sv ff sp u hk hfu h hf ht
    obtain ⟨f, rfl⟩ : ∃ f, fuel = f + 1 := ⟨fuel - 1, by omega⟩
    obtain ⟨n, m, T', X', par, pl, cu, hT', hX', h, hcu⟩ := h
    obtain ⟨nf1, g1⟩ := hg_ok h (by omega) nf pf ff
    rw [B_L_law_38, if_pos (show (46 : Int32) ≤ nI k by rw [show (46 : Int32) = nI 46 from rfl, le_nI (by omega) (by omega)]; omega)]
    unfold B_L_law_421
    rw [if_neg (by decide), g1, b2s, if_neg (by decide)]
    exact ⟨_, rfl⟩
  | succ j ih =>
    intro k fuel row nf tr tf hi sl sv ff sp u hk hfu h hf ht
    obtain ⟨f, rfl⟩ : ∃ f, fuel = f + 1 := ⟨fuel - 1, by omega⟩
    have hg : GI row (7 * (k + 1)) (70 * (k + 1)) := h.more (by omega) (by omega)
    have hK : ∀ row' nf tr tf hi sl sv ff sp u, GI row' (7 * (k + 1)) (70 * (k + 1)) → FFo ff sp u → FAR tr → LOK ((fun z0 z1 z2 z3 z4 z5 z6 z7 z8 z9 z10 => B_L_law_38 L xs f z0 z1 z2 z3 z4 z5 z6 z7 z8 z9 z10) 1 (nI (k + 1)) row' nf tr tf pf hi sl sv ff) := fun row' nf tr tf hi sl sv ff sp u hg hf ht => ih (k + 1) f row' nf tr tf hi sl sv ff sp u (by omega) (by omega) hg hf ht
    obtain ⟨x, ex⟩ := cell_ok (q := 2 * k) hL (by omega) xs
    obtain ⟨y, ey⟩ := cell_ok (q := 2 * k + 1) hL (by omega) xs
    obtain ⟨pv, hpv⟩ : ∃ pv, ∀ nf pf ff, ∃ nf', f_L_print row nf pf ff = some (pv, nf') := by
      obtain ⟨n, m, T', X', par, pl, cu, hT', hX', h, hcu⟩ := h
      exact pr_ok h (by omega)
    obtain ⟨nf1, g1⟩ := hpv nf pf ff
    have hT : 7 * (k + 1) ≤ 1000 := by omega
    have hX : 70 * (k + 1) ≤ 100000 := by omega
    rw [B_L_law_38, if_neg (show ¬ (46 : Int32) ≤ nI k by rw [show (46 : Int32) = nI 46 from rfl, le_nI (by omega) (by omega)]; omega), if_neg (by decide), lm2, ex, b1s, ra1, ey, b1s, cn_13, b2s, g1, b2s, hf.2.1]
    by_cases h4 : 4 ≤ k
    · rw [if_pos (show (4 : Int32) ≤ nI k by rw [ge4 (by omega)]; exact h4)]
      by_cases h8 : 8 ≤ k
      · rw [if_pos (show (8 : Int32) ≤ nI k by rw [ge8 (by omega)]; exact h8)]
        obtain ⟨v, row', c1, c2, c3⟩ := act_ok h (by omega) x y
        have c3' : GI row' (7 * (k + 1)) (70 * (k + 1)) := c3.more (by omega) (by omega)
        obtain ⟨nf2, g2⟩ := c1 nf1 hi ff sp u hf
        have g2' : f_L_act x y row nf1 hi ff = some (v, row', nf2, va_up hi sp (kpn row (hi sp)), if v < 0 then ff else bump ff sp u) := g2
        rw [g2', b5s]
        exact lw_177 (fun nf tr tf hi sl sv ff sp u hf ht => hK row' nf tr tf hi sl sv ff sp u c3' hf ht) (by omega) hg c3' hT hX c2 (fun _ nf hi ff sp u hf => c1 nf hi ff sp u hf) hpv nf2 tr tf hi sl sv ff hf ht
      · rw [if_neg (show ¬ (8 : Int32) ≤ nI k by rw [ge8 (by omega)]; exact h8)]
        obtain ⟨r1, -, e1⟩ := lwr_ok x (d := 4) 4 rfl (by omega) (by omega)
        obtain ⟨r2, -, e2⟩ := lwr_ok y (d := 14) 14 rfl (by omega) (by omega)
        obtain ⟨v, row', c1, c2, c3⟩ := x_load hg (nI r1) (1 + nI r2)
        have c1' : f_X2_load (nI r1) (1 + nI r2) row hi ff = some (v, row', va_up hi sp (kpn row (hi sp)), if v < 0 then ff else bump ff sp u) := c1 hi ff sp u hf
        rw [e1, b1s, e2, b1s, c1', b4s]
        exact lw_177 (fun nf tr tf hi sl sv ff sp u hf ht => hK row' nf tr tf hi sl sv ff sp u c3 hf ht) (by omega) hg c3 hT hX c2 (fun q => absurd q h8) hpv nf1 tr tf hi sl sv ff hf ht
    · rw [if_neg (show ¬ (4 : Int32) ≤ nI k by rw [ge4 (by omega)]; exact h4)]
      obtain ⟨r1, -, e1⟩ := lwr_ok x (d := nI (k + 1)) (k + 1) rfl (by omega) (by omega)
      rw [ra1, e1, b1s]
      unfold B_L_law_116
      by_cases h0 : nI k ≤ 0
      · rw [if_pos h0]
        exact lw_117 hK (by omega) hg hT hX hpv 0 (nI r1) nf1 tr tf hi sl sv ff hf ht
      · rw [if_neg h0, b1s]
        by_cases hr : nI r1 = nI k
        · rw [if_pos hr]
          exact lw_117 hK (by omega) hg hT hX hpv 1 (nI r1) nf1 tr tf hi sl sv ff hf ht
        · rw [if_neg hr]
          exact lw_117 hK (by omega) hg hT hX hpv 0 (nI r1) nf1 tr tf hi sl sv ff hf ht
theorem lw_8 {L : Nat} {xs row pf nf tr tf sv ff : zA} {hi sl : Nat → zA} (hL : L < 2 ^ 31) {sp u : Nat} (h : GI row 0 0) (hf : FFo ff sp u) (ht : FAR tr) : LOK (B_L_law_8 L xs row nf tr tf pf hi sl sv ff) := by
  have hg := h
  obtain ⟨n, m, T', X', par, pl, cu, hT', hX', h, hcu⟩ := h
  obtain ⟨nf1, g1⟩ := hg_ok h (by omega) nf pf ff
  obtain ⟨nf2, tr2, tf2, hi2, sl2, sv2, ff2, sp2, u2, f2, t2, g2⟩ := gs_ok h (by omega) (by omega) ht hf nf1 tf pf hi sl sv
  obtain ⟨nf3, tr3, tf3, t3, g3⟩ := fa_ok (t := 2) h (by omega) (by omega) t2 nf2 tf2 pf ff2
  have g3' : f_L_faults 2 row nf2 tr2 tf2 pf ff2 = some (1, nf3, tr3, tf3) := g3
  unfold B_L_law_8
  rw [g1, b2s, if_neg (by decide), g2, b9s, if_neg (by decide), g3', b4s, if_neg (by decide)]
  exact lw_38 hL 46 0 FU row nf3 tr3 tf3 hi2 sl2 sv2 ff2 sp2 u2 (by omega) (FU_lt (by omega)) hg f2 t3
