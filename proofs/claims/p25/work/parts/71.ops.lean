/-! The changes -/
def GI (row : zA) (T X : Nat) : Prop := ∃ (n m T' X' : Nat) (par pl cu : Nat → Nat), T' ≤ T ∧ X' ≤ X ∧ INV row n m T' X' par pl cu ∧ ∀ i, i < m → cu i ≤ 200
theorem GI.more {row : zA} {T X T2 X2 : Nat} (h : GI row T X) (hT : T ≤ T2) (hX : X ≤ X2) : GI row T2 X2 := by
  obtain ⟨n, m, T', X', par, pl, cu, h1, h2, h3⟩ := h
  exact ⟨n, m, T', X', par, pl, cu, Nat.le_trans h1 hT, Nat.le_trans h2 hX, h3⟩
theorem GI.far {row : zA} {T X : Nat} (h : GI row T X) : FAR row := by
  obtain ⟨n, m, T', X', par, pl, cu, h1, h2, h3, -⟩ := h
  exact h3.far
def OPR (row : zA) (T X : Nat) (o : Option (Int32 × zA)) : Prop := ∃ v row', o = some (v, row') ∧ ((v < 0 ∧ row' = row) ∨ ∃ q : Nat, q < 2 ^ 31 ∧ v = nI q ∧ GI row' T X)
theorem OPR.no {row : zA} {T X : Nat} {v : Int32} {o : Option (Int32 × zA)} (hv : v < 0) (h : o = some (v, row)) : OPR row T X o := ⟨v, row, h, Or.inl ⟨hv, rfl⟩⟩
theorem put_inv {row row' : zA} {n m T X k n' r : Nat} {par par' pl cu : Nat → Nat} (h : INV row n m T X par pl cu) (hk : k < n') (hn10 : n' ≤ 10) (hc : n' = n ∨ (n' = n + 1 ∧ k = n)) (hr1 : 1 ≤ r) (hr2 : r ≤ 100) (hpar : ∀ j, j < n → par' j = par j) (hpk : 0 < k → par' k < k ∧ row' (17 + k) = nI (par' k)) (hpo : ∀ j, j < n → j ≠ k → row' (17 + j) = row (17 + j)) (h4 : row' 4 = nI n') (g1 : row' (27 + k) = nI r) (g3 : row' (47 + k) = 0) (g4 : row' (57 + k) = 0) (g5 : row' (67 + k) = 0) (g7 : ∀ j, bt (row' 7) j = (bt (row 7) j && !decide (j = k))) (fr : ∀ j, j ≠ 4 → j ≠ 7 → j ≠ 17 + k → j ≠ 27 + k → j ≠ 37 + k → j ≠ 47 + k → j ≠ 57 + k → j ≠ 67 + k → j ≠ 77 + k → row' j = row j) : INV row' n' m T X par' pl cu := by
  have hn := h.n10
  have hm := h.m14
  obtain ⟨e, e1, e2, e3, e4, e5⟩ := h.bl
  obtain ⟨p1, p2, p3, p4, p5⟩ := h.P
  have ze := h.ze
  have old : ∀ j, j < n' → j ≠ k → j < n := fun j h1 h2 => by omega
  have r8 : row' 8 = row 8 := fr 8 (by omega) (by omega) (by omega) (by omega) (by omega) (by omega) (by omega) (by omega) (by omega)
  have sme : sm (fun j => if j < n then e j else 0) n' = sm e n := by
    have a : sm (fun j => if j < n then e j else 0) n = sm e n := sm_congr fun j hj => if_pos hj
    rcases hc with rfl | ⟨rfl, -⟩
    · exact a
    · show sm (fun j => if j < n then e j else 0) n + (if n < n then e n else 0) = _
      rw [a, if_neg (by omega), Nat.add_zero]
  have b0 : ∀ j, j ≠ k → bt (row' 7) j = bt (row 7) j := fun j hj => by rw [g7]; simp [hj]
  have bk : bt (row' 7) k = false := by rw [g7]; simp
  refine INV.mk ⟨hn10, h4, fun j h0 hj => ?_, fun j h0 hj => ?_, fun j hj => ?_⟩ ⟨hm, ?_, fun i hi => ?_⟩ (fun i hi => ?_) h.cs ?_ ?_ ?_ (fun j hj => ?_) (fun j hj => ?_) (fun j hj => ?_) (fun j hj h2 => ?_) ⟨fun j => if j < n then e j else 0, by rw [sme]; exact e1, by rw [r8, e2, sme], fun j hj => ?_, fun j hj hq => ?_, fun q hq hq2 => ?_⟩ (fun j h1 h2 => ?_) (fun j hj => ?_) ?_
  · by_cases hjk : j = k
    · subst hjk
      exact (hpk h0).1
    · rw [hpar j (old j hj hjk)]
      exact p3 j h0 (old j hj hjk)
  · by_cases hjk : j = k
    · subst hjk
      exact (hpk h0).2
    · rw [hpo j (old j hj hjk) hjk, hpar j (old j hj hjk)]
      exact p4 j h0 (old j hj hjk)
  · rw [g7, p5 j (by omega)]
    rfl
  · rw [fr 5 (by omega) (by omega) (by omega) (by omega) (by omega) (by omega) (by omega) (by omega) (by omega)]
    exact h.r5
  · obtain ⟨q1, q2, q3⟩ := h.Q.2.2 i hi
    rw [fr (97 + i) (by omega) (by omega) (by omega) (by omega) (by omega) (by omega) (by omega) (by omega) (by omega), fr (111 + i) (by omega) (by omega) (by omega) (by omega) (by omega) (by omega) (by omega) (by omega) (by omega)]
    exact ⟨by omega, q2, q3⟩
  · rw [fr 6 (by omega) (by omega) (by omega) (by omega) (by omega) (by omega) (by omega) (by omega) (by omega)]
    exact h.on i hi
  · rw [fr 3 (by omega) (by omega) (by omega) (by omega) (by omega) (by omega) (by omega) (by omega) (by omega)]
    exact h.tm
  · rw [fr 0 (by omega) (by omega) (by omega) (by omega) (by omega) (by omega) (by omega) (by omega) (by omega)]
    exact h.arc
  · rw [fr 1 (by omega) (by omega) (by omega) (by omega) (by omega) (by omega) (by omega) (by omega) (by omega)]
    exact h.coo
  · by_cases hjk : j = k
    · subst hjk
      exact ⟨r, hr1, hr2, g1⟩
    · rw [fr _ (by omega) (by omega) (by omega) (by omega) (by omega) (by omega) (by omega) (by omega) (by omega)]
      exact h.rt j (old j hj hjk)
  · by_cases hjk : j = k
    · subst hjk
      exact ⟨0, by omega, g3, fun q => absurd q (by omega)⟩
    · rw [fr _ (by omega) (by omega) (by omega) (by omega) (by omega) (by omega) (by omega) (by omega) (by omega), b0 j hjk]
      exact h.af j (old j hj hjk)
  · by_cases hjk : j = k
    · subst hjk
      exact ⟨0, by omega, g4⟩
    · rw [fr _ (by omega) (by omega) (by omega) (by omega) (by omega) (by omega) (by omega) (by omega) (by omega)]
      exact h.ht j (old j hj hjk)
  · by_cases hjk : j = k
    · subst hjk
      exact g5
    · rw [fr (37 + j) (by omega) (by omega) (by omega) (by omega) (by omega) (by omega) (by omega) (by omega) (by omega)] at h2
      rw [fr _ (by omega) (by omega) (by omega) (by omega) (by omega) (by omega) (by omega) (by omega) (by omega)]
      exact h.sp j (old j hj hjk) h2
  · show row' (87 + j) = nI (if j < n then e j else 0)
    rw [fr _ (by omega) (by omega) (by omega) (by omega) (by omega) (by omega) (by omega) (by omega) (by omega)]
    by_cases hjn : j < n
    · rw [if_pos hjn]
      exact e3 j hjn
    · rw [if_neg hjn]
      exact ze j (by omega) (by omega)
  · show 0 < if j < n then e j else 0
    by_cases hjk : j = k
    · subst hjk
      rw [bk, g3] at hq
      rcases hq with hq | hq
      · cases hq
      · exact absurd rfl hq
    · rw [if_pos (old j hj hjk)]
      rw [b0 j hjk, fr _ (by omega) (by omega) (by omega) (by omega) (by omega) (by omega) (by omega) (by omega) (by omega)] at hq
      exact e4 j (old j hj hjk) hq
  · rw [sme] at hq2
    obtain ⟨b, b1, b2, b3⟩ := e5 q hq hq2
    refine ⟨b, by omega, ?_, ?_⟩
    · rw [fr _ (by omega) (by omega) (by omega) (by omega) (by omega) (by omega) (by omega) (by omega) (by omega)]
      exact b2
    · show 0 < if b < n then e b else 0
      rw [if_pos b1]
      exact b3
  · rw [fr _ (by omega) (by omega) (by omega) (by omega) (by omega) (by omega) (by omega) (by omega) (by omega)]
    exact ze j (by omega) h2
  · rw [fr j (by omega) (by omega) (by omega) (by omega) (by omega) (by omega) (by omega) (by omega) (by omega)]
    exact h.far j hj
  · rw [fr 2 (by omega) (by omega) (by omega) (by omega) (by omega) (by omega) (by omega) (by omega) (by omega)]
    exact h.ag
theorem op_fuse {row : zA} {T X : Nat} (h : GI row T X) (a1 a2 a3 : Int32) : OPR row T X (f_X0_changeFuse a1 a2 a3 row) := by
  obtain ⟨n, m, T', X', par, pl, cu, hT, hX, h, hcu⟩ := h
  have hn := h.n10
  unfold f_X0_changeFuse
  rw [d_isBoard hn h.r4, b1s, s01]
  by_cases hb : rng a1 0 ((n : Int) - 1) = true
  · obtain ⟨k, hk, rfl⟩ := (rng_ex (by omega)).mp hb
    rw [if_pos hb, d_isFuse, b1s, s01]
    by_cases hf : (rng a2 1 100 && rng a3 0 2) = true
    · rw [if_pos hf]
      have hf2 := Bool.and_eq_true_iff.mp hf
      obtain ⟨r, hr1, hr2, rfl⟩ := (rng_nI (l := 1) (h := 100) (by omega)).mp hf2.1
      obtain ⟨ro, hro1, hro2, er1⟩ := h.rt k hk
      rw [la47, gd_nI (by omega) (by omega)]
      by_cases ha0 : row (47 + k) ≤ 0
      · rw [if_pos ha0, la27, gd_nI (by omega) (by omega)]
        obtain ⟨row', p1, p2, p3, p4, p5, p6, p7, p8, p9⟩ := d_puts (k := k) (by omega) (nI r) a3 row
        rw [p1, b1s, er1]
        refine ⟨_, _, rfl, Or.inr ⟨ro, by omega, rfl, n, m, T', X', par, pl, cu, hT, hX, put_inv (k := k) (n' := n) (r := r) (par' := par) h hk hn (Or.inl rfl) hr1 hr2 (fun _ _ => rfl) (fun h0 => ⟨h.P.2.2.1 k h0 hk, ?_⟩) (fun j _ _ => ?_) ?_ p2 p4 p5 p6 p8 (fun j q4 q7 q17 q27 q37 q47 q57 q67 q77 => p9 j q7 q27 q37 q47 q57 q67 q77), hcu⟩⟩
        · rw [p9 _ (by omega) (by omega) (by omega) (by omega) (by omega) (by omega) (by omega)]
          exact h.P.2.2.2.1 k h0 hk
        · exact p9 _ (by omega) (by omega) (by omega) (by omega) (by omega) (by omega) (by omega)
        · rw [p9 _ (by omega) (by omega) (by omega) (by omega) (by omega) (by omega) (by omega)]
          exact h.r4
      · rw [if_neg ha0]
        exact OPR.no (by decide) rfl
    · rw [if_neg hf]
      exact OPR.no (by decide) rfl
  · rw [if_neg hb]
    exact OPR.no (by decide) rfl
theorem op_board {row : zA} {T X : Nat} (h : GI row T X) (a1 a2 a3 : Int32) : OPR row T X (f_X0_addBoard a1 a2 a3 row) := by
  obtain ⟨n, m, T', X', par, pl, cu, hT, hX, h, hcu⟩ := h
  have hn := h.n10
  -- with a place to be fed from
  have go : ∀ (p : Nat) (s : Int32), (0 < n → p < n ∧ s = nI p) → (n = 0 → s = 0) → (f_X0_isFuse a2 a3 = some 1 → nI n < 10 → (∀ r : Option (Int32 × zA), r = B_X0_addBoard_63 s (17 + nI n) a2 a3 (nI n) row → OPR row T X r)) := by
    intro p s hp hz hfu hlt r hr
    rw [d_isFuse] at hfu
    have hfu2 := Option.some.inj hfu
    have hf : (rng a2 1 100 && rng a3 0 2) = true := by
      cases hq : (rng a2 1 100 && rng a3 0 2) with
      | true => rfl
      | false => rw [hq] at hfu2; exact absurd hfu2 (by decide)
    have hf2 := Bool.and_eq_true_iff.mp hf
    obtain ⟨r0, hr1, hr2, rfl⟩ := (rng_nI (l := 1) (h := 100) (by omega)).mp hf2.1
    rw [lt10 (by omega)] at hlt
    subst hr
    unfold B_X0_addBoard_63
    rw [la17, gd_nI (by omega) (by omega)]
    simp only [nmI]
    obtain ⟨row', p1, p2, p3, p4, p5, p6, p7, p8, p9⟩ := d_puts (k := n) (by omega) (nI r0) a3 (upd row (17 + n) s)
    rw [p1, b1s, ra1]
    refine ⟨_, _, rfl, Or.inr ⟨n, by omega, rfl, n + 1, m, T', X', fun k => if k = n then p else par k, pl, cu, hT, hX, put_inv (k := n) (n' := n + 1) (r := r0) (par' := fun k => if k = n then p else par k) h (by omega) (by omega) (Or.inr ⟨rfl, rfl⟩) hr1 hr2 (fun j hj => if_neg (by omega)) (fun h0 => ?_) (fun j hj1 hj2 => ?_) (upd_eq _ _ _) ?_ ?_ ?_ ?_ (fun j => ?_) (fun j q4 q7 q17 q27 q37 q47 q57 q67 q77 => ?_), hcu⟩⟩
    · show (if n = n then p else par n) < n ∧ _ = nI (if n = n then p else par n)
      rw [if_pos rfl, upd_ne (by omega), p9 _ (by omega) (by omega) (by omega) (by omega) (by omega) (by omega) (by omega), upd_eq]
      exact hp h0
    · rw [upd_ne (by omega), p9 _ (by omega) (by omega) (by omega) (by omega) (by omega) (by omega) (by omega), upd_ne (by omega)]
    · rw [upd_ne (by omega)]; exact p2
    · rw [upd_ne (by omega)]; exact p4
    · rw [upd_ne (by omega)]; exact p5
    · rw [upd_ne (by omega)]; exact p6
    · rw [upd_ne (by omega), p8, upd_ne (by omega)]
    · rw [upd_ne q4, p9 _ q7 q27 q37 q47 q57 q67 q77, upd_ne q17]
  have go23 : ∀ (p : Nat) (a : Int32), (0 < n → p < n ∧ a = nI p) → OPR row T X (B_X0_addBoard_23 a a2 a3 (nI n) row) := by
    intro p a hp
    unfold B_X0_addBoard_23
    cases hfu : f_X0_isFuse a2 a3 with
    | none => rw [d_isFuse] at hfu; cases hfu
    | some v =>
      rw [b1s]
      have hv : v = 0 ∨ v = 1 := by
        rw [d_isFuse] at hfu
        have := Option.some.inj hfu
        rw [← this]
        split
        · exact Or.inr rfl
        · exact Or.inl rfl
      rcases hv with rfl | rfl
      · rw [if_pos rfl]
        exact OPR.no (by decide) rfl
      · rw [if_neg (by decide)]
        by_cases hlt : nI n < 10
        · rw [if_pos hlt]
          by_cases h0 : n = 0
          · rw [if_pos (show nI n = 0 by rw [h0]; rfl)]
            exact go p 0 (fun q => absurd q (by omega)) (fun _ => rfl) hfu hlt _ rfl
          · rw [if_neg (show ¬ nI n = 0 by rw [eq0 (by omega)]; exact h0)]
            exact go p a hp (fun q => absurd q h0) hfu hlt _ rfl
        · rw [if_neg hlt]
          exact OPR.no (by decide) rfl
  unfold f_X0_addBoard
  rw [h.r4]
  by_cases h0 : n = 0
  · rw [if_pos (show nI n ≤ 0 by rw [h0]; decide)]
    exact go23 0 a1 (fun q => absurd q (by omega))
  · rw [if_neg (show ¬ nI n ≤ 0 by rw [le0 (by omega)]; omega), d_isBoard hn h.r4, b1s, s01]
    by_cases hb : rng a1 0 ((n : Int) - 1) = true
    · obtain ⟨k, hk, rfl⟩ := (rng_ex (by omega)).mp hb
      rw [if_pos hb]
      exact go23 k (nI k) (fun _ => ⟨hk, rfl⟩)
    · rw [if_neg hb]
      exact OPR.no (by decide) rfl
theorem op_load {row : zA} {T X : Nat} (h : GI row T X) (a1 a2 : Int32) : OPR row T X (f_X0_addLoad a1 a2 row) := by
  obtain ⟨n, m, T', X', par, pl, cu, hT, hX, h, hcu⟩ := h
  have hn := h.n10
  have hm := h.m14
  unfold f_X0_addLoad
  rw [d_isBoard hn h.r4, b1s, s01]
  by_cases hb : rng a1 0 ((n : Int) - 1) = true
  · obtain ⟨k, hk, rfl⟩ := (rng_ex (by omega)).mp hb
    rw [if_pos hb, two_cmp (x := a2) (lo := 1) (hi := 200) (L := 1) (H := 200) (by decide) (by decide)]
    by_cases hr : rng a2 1 200 = true
    · rw [if_pos hr]
      obtain ⟨c, c1, c2, rfl⟩ := rng200 hr
      rw [h.r5]
      by_cases h14 : m < 14
      · rw [if_pos (show nI m < 14 by rw [lt14 (by omega)]; exact h14), la97, gd_nI (by omega) (by omega)]
        simp only [nmI]
        rw [la111, gd_nI (by omega) (by omega), ra1]
        have fr : ∀ j, j ≠ 5 → j ≠ 97 + m → j ≠ 111 + m → upd (upd (upd row (97 + m) (nI k)) (111 + m) (nI c)) 5 (nI (m + 1)) j = row j := fun j q1 q2 q3 => by rw [upd_ne q1, upd_ne q3, upd_ne q2]
        obtain ⟨e, e1, e2, e3, e4, e5⟩ := h.bl
        have hcu' : ∀ i, i < m + 1 → (if i = m then c else cu i) ≤ 200 := fun i hi => by
          split
          · exact c2
          · exact hcu i (by omega)
        refine ⟨_, _, rfl, Or.inr ⟨m, by omega, rfl, n, m + 1, T', X', par, fun i => if i = m then k else pl i, fun i => if i = m then c else cu i, hT, hX, INV.mk (h.P.mv (fr 4 (by omega) (by omega) (by omega)) (fun i hi => fr _ (by omega) (by omega) (by omega)) (fun j hj => by rw [fr 7 (by omega) (by omega) (by omega)]; exact h.P.2.2.2.2 j hj)) ⟨by omega, upd_eq _ _ _, fun i hi => ?_⟩ (fun i hi => by rw [fr 6 (by omega) (by omega) (by omega)]; exact h.on i (by omega)) (by have := sm_le (f := fun i => if i = m then c else cu i) (c := 200) (n := m + 1) hcu'; omega) (by rw [fr 3 (by omega) (by omega) (by omega)]; exact h.tm) (by rw [fr 0 (by omega) (by omega) (by omega)]; exact h.arc) (by rw [fr 1 (by omega) (by omega) (by omega)]; exact h.coo) (fun i hi => by rw [fr _ (by omega) (by omega) (by omega)]; exact h.rt i hi) (fun i hi => by rw [fr _ (by omega) (by omega) (by omega), fr 7 (by omega) (by omega) (by omega)]; exact h.af i hi) (fun i hi => by rw [fr _ (by omega) (by omega) (by omega)]; exact h.ht i hi) (fun i hi => by rw [fr _ (by omega) (by omega) (by omega), fr _ (by omega) (by omega) (by omega)]; exact h.sp i hi) ⟨e, e1, by rw [fr 8 (by omega) (by omega) (by omega)]; exact e2, fun i hi => by rw [fr _ (by omega) (by omega) (by omega)]; exact e3 i hi, fun i hi hc => by rw [fr 7 (by omega) (by omega) (by omega), fr _ (by omega) (by omega) (by omega)] at hc; exact e4 i hi hc, fun r hr hr2 => by rw [fr _ (by omega) (by omega) (by omega)]; exact e5 r hr hr2⟩ (fun i h1 h2 => by rw [fr _ (by omega) (by omega) (by omega)]; exact h.ze i h1 h2) (fun j hj => by rw [fr j (by omega) (by omega) (by omega)]; exact h.far j hj) (by rw [fr 2 (by omega) (by omega) (by omega)]; exact h.ag), hcu'⟩⟩
        show (if i = m then k else pl i) < n ∧ _ = nI (if i = m then k else pl i) ∧ _ = nI (if i = m then c else cu i)
        by_cases him : i = m
        · subst him
          rw [if_pos rfl, if_pos rfl]
          exact ⟨hk, by rw [upd_ne (by omega), upd_ne (by omega), upd_eq], by rw [upd_ne (by omega), upd_eq]⟩
        · obtain ⟨q1, q2, q3⟩ := h.Q.2.2 i (by omega)
          rw [if_neg him, if_neg him, fr _ (by omega) (by omega) (by omega), fr _ (by omega) (by omega) (by omega)]
          exact ⟨q1, q2, q3⟩
      · rw [if_neg (show ¬ nI m < 14 by rw [lt14 (by omega)]; exact h14)]
        exact OPR.no (by decide) rfl
    · rw [if_neg hr]
      exact OPR.no (by decide) rfl
  · rw [if_neg hb]
    exact OPR.no (by decide) rfl
theorem op_turn {row : zA} {T X : Nat} (h : GI row T X) (a1 : Int32) : OPR row T X (f_X0_switchLoad a1 row) := by
  obtain ⟨n, m, T', X', par, pl, cu, hT, hX, h, hcu⟩ := h
  have hn := h.n10
  have hm := h.m14
  unfold f_X0_switchLoad
  rw [d_isLoad hm h.r5, b1s, s01]
  by_cases hb : rng a1 0 ((m : Int) - 1) = true
  · obtain ⟨k, hk, rfl⟩ := (rng_ex (by omega)).mp hb
    rw [if_pos hb]
    simp only [nmI]
    rw [bt_get _ (by omega)]
    have fr : ∀ j, j ≠ 6 → upd row 6 (row 6 ^^^ ((1 : Int32) <<< (nI k &&& 31))) j = row j := fun j hj => upd_ne hj
    obtain ⟨e, e1, e2, e3, e4, e5⟩ := h.bl
    have hI : INV (upd row 6 (row 6 ^^^ ((1 : Int32) <<< (nI k &&& 31)))) n m T' X' par pl cu := INV.mk (h.P.mv (fr 4 (by omega)) (fun i hi => fr _ (by omega)) (fun j hj => by rw [fr 7 (by omega)]; exact h.P.2.2.2.2 j hj)) (h.Q.mv (fr 5 (by omega)) (fun j h1 h2 => fr j (by omega))) (fun i hi => by
      rw [upd_eq]
      by_cases h32 : i < 32
      · rw [bt_flip _ (by omega) h32, h.on i hi]
        have : ¬ i = k := by omega
        simp [this]
      · exact bt_big _ (by omega)) h.cs (by rw [fr 3 (by omega)]; exact h.tm) (by rw [fr 0 (by omega)]; exact h.arc) (by rw [fr 1 (by omega)]; exact h.coo) (fun i hi => by rw [fr _ (by omega)]; exact h.rt i hi) (fun i hi => by rw [fr _ (by omega), fr 7 (by omega)]; exact h.af i hi) (fun i hi => by rw [fr _ (by omega)]; exact h.ht i hi) (fun i hi => by rw [fr _ (by omega), fr _ (by omega)]; exact h.sp i hi) ⟨e, e1, by rw [fr 8 (by omega)]; exact e2, fun i hi => by rw [fr _ (by omega)]; exact e3 i hi, fun i hi hc => by rw [fr 7 (by omega), fr _ (by omega)] at hc; exact e4 i hi hc, fun r hr hr2 => by rw [fr _ (by omega)]; exact e5 r hr hr2⟩ (fun i h1 h2 => by rw [fr _ (by omega)]; exact h.ze i h1 h2) (fun j hj => by rw [fr j (by omega)]; exact h.far j hj) (by rw [fr 2 (by omega)]; exact h.ag)
    refine ⟨_, _, rfl, Or.inr ⟨if bt (upd row 6 (row 6 ^^^ ((1 : Int32) <<< (nI k &&& 31))) 6) k then 1 else 0, ?_, ?_, n, m, T', X', par, pl, cu, hT, hX, hI, hcu⟩⟩
    · split <;> omega
    · split <;> rfl
  · rw [if_neg hb]
    exact OPR.no (by decide) rfl
theorem set_inv {row : zA} {n m T X k v : Nat} {par pl cu : Nat → Nat} (h : INV row n m T X par pl cu) (hk : k ≤ 2) (h0 : k = 0 → v ≤ 9) (h1 : k = 1 → 1 ≤ v ∧ v ≤ 9) (h2 : k = 2 → v ≤ 50) : INV (upd row k (nI v)) n m T X par pl cu := by
  have fr : ∀ j, j ≠ k → upd row k (nI v) j = row j := fun j hj => upd_ne hj
  obtain ⟨e, e1, e2, e3, e4, e5⟩ := h.bl
  refine INV.mk (h.P.mv (fr 4 (by omega)) (fun i hi => fr _ (by omega)) (fun j hj => by rw [fr 7 (by omega)]; exact h.P.2.2.2.2 j hj)) (h.Q.mv (fr 5 (by omega)) (fun j h1 h2 => fr j (by omega))) (fun i hi => by rw [fr 6 (by omega)]; exact h.on i hi) h.cs (by rw [fr 3 (by omega)]; exact h.tm) ?_ ?_ (fun i hi => by rw [fr _ (by omega)]; exact h.rt i hi) (fun i hi => by rw [fr _ (by omega), fr 7 (by omega)]; exact h.af i hi) (fun i hi => by rw [fr _ (by omega)]; exact h.ht i hi) (fun i hi => by rw [fr _ (by omega), fr _ (by omega)]; exact h.sp i hi) ⟨e, e1, by rw [fr 8 (by omega)]; exact e2, fun i hi => by rw [fr _ (by omega)]; exact e3 i hi, fun i hi hc => by rw [fr 7 (by omega), fr _ (by omega)] at hc; exact e4 i hi hc, fun r hr hr2 => by rw [fr _ (by omega)]; exact e5 r hr hr2⟩ (fun i h1 h2 => by rw [fr _ (by omega)]; exact h.ze i h1 h2) (fun j hj => by rw [fr j (by omega)]; exact h.far j hj) ?_
  · by_cases hq : k = 0
    · subst hq
      exact ⟨v, h0 rfl, upd_eq _ _ _⟩
    · rw [fr 0 (by omega)]; exact h.arc
  · by_cases hq : k = 1
    · subst hq
      exact ⟨v, (h1 rfl).1, (h1 rfl).2, upd_eq _ _ _⟩
    · rw [fr 1 (by omega)]; exact h.coo
  · by_cases hq : k = 2
    · subst hq
      exact ⟨v, h2 rfl, upd_eq _ _ _⟩
    · rw [fr 2 (by omega)]; exact h.ag
theorem op_set {row : zA} {T X : Nat} (h : GI row T X) (a1 a2 : Int32) : OPR row T X (f_X0_changeSetting a1 a2 row) := by
  obtain ⟨n, m, T', X', par, pl, cu, hT, hX, h, hcu⟩ := h
  have go : ∀ (k l hh : Nat), k ≤ 2 → zLV k = nI l → zMV k = nI hh → l ≤ 1 → hh ≤ 50 → (k = 0 → hh = 9) → (k = 1 → l = 1 ∧ hh = 9) → (∃ q, q < 2 ^ 31 ∧ row k = nI q) → OPR row T X (f_X0_changeSetting (nI k) a2 row) := by
    intro k l hh hk el eh hl hh50 k0 k1 hq
    obtain ⟨q, hq, eq⟩ := hq
    unfold f_X0_changeSetting
    rw [if_neg (show ¬ nI k < 0 by rw [lt0 (by omega)]; omega), if_pos (show nI k ≤ 2 by rw [le2 (by omega)]; exact hk), gd_nI (by omega) (by omega), gd_nI (by omega) (by omega), gd_nI (by omega) (by omega), el, eh, two_cmp (x := a2) (lo := nI l) (hi := nI hh) (L := l) (H := hh) (nI_toInt (by omega)) (nI_toInt (by omega))]
    by_cases hr : rng a2 l hh = true
    · obtain ⟨v, v1, v2, rfl⟩ := (rng_nI (l := l) (h := hh) (by omega)).mp hr
      rw [if_pos hr]
      simp only [nmI]
      exact ⟨_, _, rfl, Or.inr ⟨q, hq, eq, n, m, T', X', par, pl, cu, hT, hX, set_inv h hk (fun q => by have := k0 q; omega) (fun q => by have := k1 q; omega) (fun _ => by omega), hcu⟩⟩
    · rw [if_neg hr]
      exact OPR.no (by decide) rfl
  rcases pk_ix a1 (n := 3) (by omega) with hlt | hge | ⟨k, hk, rfl⟩
  · unfold f_X0_changeSetting
    rw [if_pos hlt]
    exact OPR.no (by decide) rfl
  · have h3 : ¬ a1 ≤ 2 := fun q => absurd (Int32.le_trans hge q) (by decide)
    have h0 : ¬ a1 < 0 := fun q => absurd (Int32.le_trans hge (Int32.le_of_lt q)) (by decide)
    unfold f_X0_changeSetting
    rw [if_neg h0, if_neg h3]
    exact OPR.no (by decide) rfl
  · rcases (show k = 0 ∨ k = 1 ∨ k = 2 by omega) with rfl | rfl | rfl
    · obtain ⟨a, ha, ea⟩ := h.arc
      exact go 0 0 9 (by omega) rfl rfl (by omega) (by omega) (fun _ => rfl) (fun q => absurd q (by omega)) ⟨a, by omega, ea⟩
    · obtain ⟨a, ha1, ha, ea⟩ := h.coo
      exact go 1 1 9 (by omega) rfl rfl (by omega) (by omega) (fun q => absurd q (by omega)) (fun _ => ⟨rfl, rfl⟩) ⟨a, by omega, ea⟩
    · obtain ⟨a, ha, ea⟩ := h.ag
      exact go 2 1 50 (by omega) rfl rfl (by omega) (by omega) (fun q => absurd q (by omega)) (fun q => absurd q (by omega)) ⟨a, by omega, ea⟩
