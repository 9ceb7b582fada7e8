/-! The law: a test with a fault -/
theorem test_no {row : zA} {n m T X x : Nat} {par pl cu : Nat → Nat} (h : INV row n m T X par pl cu) (hx : n ≤ x) (hx2 : x < 2 ^ 31) (a w : Int32) (tr tf : zA) : f_X2_test (nI x) a w row tr tf = some (-1, tr, tf) := by
  have hn := h.n10
  have hr : ¬ rng (nI x) 0 ((n : Int) - 1) = true := fun q => by
    obtain ⟨k, hk, e⟩ := (rng_ex (by omega)).mp q
    rw [eq_nI hx2 (by omega)] at e
    omega
  unfold f_X2_test
  rw [d_isBoard hn h.r4, b1s, s01, if_neg hr]
theorem test_yes {row : zA} {n m T X x c : Nat} {par pl cu : Nat → Nat} (h : INV row n m T X par pl cu) (hx : x < n) (h1 : 1 ≤ c) (hc : c ≤ 9999) {w : Int32} (hw : w = 0 ∨ w = 1) {tr tf tr' tf' : zA} {v : Int32} (e : f_X2_tryFault (nI x) (nI c) w row tr tf = some (v, tr', tf')) : f_X2_test (nI x) (nI c) w row tr tf = some (v, tr', tf') := by
  unfold f_X2_test f_X2_isTrialQuestion
  have e2 : (if w = 0 then some (1 : Int32) else if w = 1 then some 1 else some 0) = some 1 := by
    rcases hw with rfl | rfl
    · rw [if_pos rfl]
    · rw [if_neg (by decide), if_pos rfl]
  rw [isb_ok h hx, b1s, if_neg (show ¬ (1 : Int32) = 0 by decide), if_neg (show ¬ nI c < 1 by rw [lt1 (by omega)]; omega), if_neg (show ¬ (9999 : Int32) < nI c by rw [gt9999 (by omega)]; omega), e2, b1s, if_neg (show ¬ (1 : Int32) = 0 by decide), e, b3s]
section TESTS
variable {row : zA} {n m T X x c : Nat} {par pl cu : Nat → Nat}
theorem te_189 (h : INV row n m T X par pl cu) {pv : Int64} (hpv : ∀ nf pf ff, ∃ nf', f_L_print row nf pf ff = some (pv, nf')) (hx : x < n) {v : Int32} (hd : ded par (bt (row 7)) x = true → v = -6) (nf tr tf pf ff : zA) : ∃ nf', B_L_tests_189 (nI x) v pv row nf tr tf pf ff = some (1, nf', tr, tf) := by
  obtain ⟨nf', g⟩ := hpv nf pf ff
  have e205 : B_L_tests_205 pv row nf tr tf pf ff = some (1, nf', tr, tf) := by
    unfold B_L_tests_205 B_L_tests_210
    rw [if_neg (by decide), g, b2s, lg_same, if_pos rfl]
  refine ⟨nf', ?_⟩
  unfold B_L_tests_189
  rw [of_8 h hx, b2s]
  cases hq : ded par (bt (row 7)) x with
  | false =>
    rw [if_pos (show b01 false = 0 from rfl)]
    exact e205
  | true =>
    rw [if_neg (show ¬ b01 true = 0 by decide), if_pos (hd hq)]
    exact e205
theorem te_129 (h : INV row n m T X par pl cu) {pv : Int64} (hpv : ∀ nf pf ff, ∃ nf', f_L_print row nf pf ff = some (pv, nf')) (hx : x < n) (hc : c ≤ 9999) {v : Int32} (hd : ded par (bt (row 7)) x = true → v = -6) (hv : v = -6 ∨ ∃ k, k < n ∧ fed par x k = true ∧ ∃ r, r ≤ 100 ∧ row (27 + k) = nI r ∧ r < c) (tr tf pf ff : zA) : ∀ (y fuel l : Nat) (nf : zA), y < n → y + 1 < fuel → l ≤ 100 → (∀ k, k < n → fed par x k = true → fed par y k = true ∨ ∃ r, r ≤ 100 ∧ row (27 + k) = nI r ∧ l ≤ r) → ∃ nf', B_L_tests_129 fuel (nI x) (nI c) v pv 1 (nI l) (nI y) row nf tr tf pf ff = some (1, nf', tr, tf) := by
  have hn := h.n10
  intro y
  induction y using Nat.strongRecOn with
  | ind y ih =>
    intro fuel l nf hy hf hl hin
    obtain ⟨f, rfl⟩ : ∃ f, fuel = f + 1 := ⟨fuel - 1, by omega⟩
    obtain ⟨r, hr1, hr2, er⟩ := h.rt y hy
    -- behind y
    have next : ∀ l', l' ≤ l → l' ≤ r → ∃ nf', B_L_tests_158 (fun z0 z1 z2 z3 z4 z5 z6 z7 z8 z9 z10 z11 z12 => B_L_tests_129 f z0 z1 z2 z3 z4 z5 z6 z7 z8 z9 z10 z11 z12) (nI l') (nI x) (nI c) v pv 1 (nI y) row nf tr tf pf ff = some (1, nf', tr, tf) := by
      intro l' h1 h2
      unfold B_L_tests_158
      rw [of_0 h hy, b2s]
      by_cases h0 : y = 0
      · subst h0
        obtain ⟨g, rfl⟩ : ∃ g, f = g + 1 := ⟨f - 1, by omega⟩
        rw [if_pos rfl]
        show ∃ nf', B_L_tests_129 (g + 1) (nI x) (nI c) v pv 1 (nI l') (-6) row nf tr tf pf ff = some (1, nf', tr, tf)
        rw [B_L_tests_129, if_pos (by decide), if_neg (by decide)]
        by_cases hlc : nI l' < nI c
        · rw [if_pos hlc]
          exact te_189 h hpv hx hd nf tr tf pf ff
        · rw [if_neg hlc]
          rcases hv with hv | ⟨k, k1, k2, r', r1, r2, r3⟩
          · rw [if_pos hv]
            exact te_189 h hpv hx hd nf tr tf pf ff
          · exfalso
            rw [lt_nI (by omega) (by omega)] at hlc
            rcases hin k k1 k2 with hk | ⟨r'', s1, s2, s3⟩
            · rw [fed_0, decide_eq_true_eq] at hk
              subst hk
              have : nI r = nI r' := er.symm.trans r2
              rw [eq_nI (by omega) (by omega)] at this
              omega
            · have : nI r' = nI r'' := r2.symm.trans s2
              rw [eq_nI (by omega) (by omega)] at this
              omega
      · have hpy := h.P.2.2.1 y (by omega) hy
        rw [if_neg h0]
        refine ih (par y) hpy f l' nf (by omega) (by omega) (by omega) (fun k hk hfk => ?_)
        rcases hin k hk hfk with hq | ⟨r', s1, s2, s3⟩
        · rw [fed_s (by omega) hpy, Bool.or_eq_true, decide_eq_true_eq] at hq
          rcases hq with hq | hq
          · subst hq
            exact Or.inr ⟨r, hr2, er, h2⟩
          · exact Or.inl hq
        · exact Or.inr ⟨r', s1, s2, by omega⟩
    rw [B_L_tests_129, if_neg (show ¬ nI y < 0 by rw [lt0 (by omega)]; omega), of_1 h hy, b2s, er]
    by_cases hlr : l ≤ r
    · rw [if_pos (show nI l ≤ nI r by rw [le_nI (by omega) (by omega)]; exact hlr)]
      exact next l (Nat.le_refl _) hlr
    · rw [if_neg (show ¬ nI l ≤ nI r by rw [le_nI (by omega) (by omega)]; exact hlr), of_1 h hy, b2s, er]
      exact next r (by omega) (Nat.le_refl _)
theorem te_ok (h : INV row n m T X par pl cu) (hX : X < 1000000) (hx2 : x < 2 ^ 31) (h1 : 1 ≤ c) (hc : c ≤ 9999) {tr : zA} (ht : FAR tr) (nf tf pf ff : zA) : ∃ nf' tr' tf', FAR tr' ∧ f_L_tests (nI x) (nI c) row nf tr tf pf ff = some (1, nf', tr', tf') := by
  have hn := h.n10
  by_cases hx : x < n
  · obtain ⟨o, o1, o2⟩ := ts_ok h hx hc
    obtain ⟨tr1, tf1, t1, g1⟩ := o1 0 tr tf ht
    obtain ⟨tr2, tf2, t2, g2⟩ := o1 1 tr1 tf1 t1
    have g1' := test_yes h hx h1 hc (Or.inl rfl) g1
    have g2' := test_yes h hx h1 hc (Or.inr rfl) g2
    obtain ⟨pv, hpv⟩ := pr_ok h hX
    obtain ⟨nf1, p1⟩ := hpv nf pf ff
    have tail : ∀ v : Int32, (ded par (bt (row 7)) x = true → v = -6) → (v = -6 ∨ ∃ k, k < n ∧ fed par x k = true ∧ ∃ r, r ≤ 100 ∧ row (27 + k) = nI r ∧ r < c) → ∃ nf', B_L_tests_115 (nI x) (nI c) v pv row nf1 tr2 tf2 pf ff = some (1, nf', tr2, tf2) := fun v hd hv => te_129 h hpv hx hc hd hv tr2 tf2 pf ff x FU 100 nf1 hx (FU_lt (by omega)) (by omega) (fun k _ hk => Or.inl hk)
    cases o with
    | none =>
      obtain ⟨nf', e⟩ := tail (-6) (fun _ => rfl) (Or.inl rfl)
      refine ⟨nf', tr2, tf2, t2, ?_⟩
      have g1'' : f_X2_test (nI x) (nI c) 0 row tr tf = some (-6, tr1, tf1) := g1'
      have g2'' : f_X2_test (nI x) (nI c) 1 row tr1 tf1 = some (-6, tr2, tf2) := g2'
      unfold f_L_tests
      rw [g1'', b3s, g2'', b3s, cn_1 h, b2s, if_pos (show nI x < nI n by rw [lt_nI (by omega) (by omega)]; exact hx), p1, b2s, if_neg (by decide)]
      unfold B_L_tests_58
      rw [if_neg (by decide)]
      unfold B_L_tests_68
      rw [if_pos rfl, if_neg (by decide), if_pos rfl]
      exact e
    | some qb =>
      obtain ⟨q, b⟩ := qb
      obtain ⟨k, eb, q1, q2, k1, k2, k3, k4, k5⟩ := o2 q b rfl
      rw [fbA_0] at g1'
      rw [fbA_1, eb] at g2'
      obtain ⟨nf', e⟩ := tail (nI q) (fun z => by rw [k4] at z; cases z) (Or.inr ⟨k, k1, k2, k3⟩)
      refine ⟨nf', tr2, tf2, t2, ?_⟩
      have hfd : (mask (fun i => fed par i k) n >>> (nI x &&& 31)) &&& 1 = 1 := by
        rw [bt_get _ (by omega), bt_mask _ (by omega) (by omega)]
        simp [hx, k2]
      have hst : stV row k = 0 := by
        unfold ws at k5
        rw [Bool.and_eq_true, decide_eq_true_eq] at k5
        unfold stV
        have : bt (row 7) k = false := by simpa using k5.1
        rw [this, if_neg (by decide), if_pos k5.2]
      unfold f_L_tests
      rw [g1', b3s, g2', b3s, cn_1 h, b2s, if_pos (show nI x < nI n by rw [lt_nI (by omega) (by omega)]; exact hx), p1, b2s, if_pos (show (0 : Int32) ≤ nI q by rw [ge0 (by omega)]; omega)]
      unfold B_L_tests_58
      rw [if_pos (show (0 : Int32) ≤ nI k by rw [ge0 (by omega)]; omega)]
      unfold B_L_tests_68
      rw [if_pos rfl, if_pos (show (0 : Int32) ≤ nI q by rw [ge0 (by omega)]; omega), if_neg (show ¬ (200 : Int32) < nI q by rw [gt200 (by omega)]; omega), fd_ok h k1, b1s, if_pos hfd, of_3 h k1, b2s, if_pos hst]
      exact e
  · refine ⟨nf, tr, tf, ht, ?_⟩
    unfold f_L_tests
    rw [test_no h (by omega) hx2, b3s, test_no h (by omega) hx2, b3s, cn_1 h, b2s, if_neg (show ¬ nI x < nI n by rw [lt_nI (by omega) (by omega)]; exact hx), if_pos rfl, if_pos rfl]
end TESTS
