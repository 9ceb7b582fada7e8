/-! What the calls answer -/
noncomputable def flT (row nf : zA) : zA := (f_X0_addUpCurrents row nf).getD nf
def stV (row : zA) (k : Nat) : Int32 := if bt (row 7) k then 2 else if row (47 + k) ≤ 0 then 0 else 1
def b01 (b : Bool) : Int32 := if b then 1 else 0
def wkB (row : zA) (par pl : Nat → Nat) (i : Nat) : Bool := bt (row 6) i && !ded par (bt (row 7)) (pl i)
theorem cur_ok {row : zA} {n m T X : Nat} {par pl cu : Nat → Nat} (h : INV row n m T X par pl cu) (nf : zA) : f_X0_addUpCurrents row nf = some (flT row nf) ∧ ∀ k, k < n → flT row nf k = nI (Cc row m par pl cu k) := by
  obtain ⟨fl, h1, h2⟩ := d_cur h.P h.Q nf
  have e : flT row nf = fl := by
    unfold flT
    rw [h1]
    rfl
  rw [e]
  exact ⟨h1, h2⟩
theorem isb_ok {row : zA} {n m T X k : Nat} {par pl cu : Nat → Nat} (h : INV row n m T X par pl cu) (hk : k < n) : f_X0_isBoard (nI k) row = some 1 := isb_nI h.n10 h.r4 hk
theorem isl_ok {row : zA} {n m T X k : Nat} {par pl cu : Nat → Nat} (h : INV row n m T X par pl cu) (hk : k < m) : f_X0_isLoad (nI k) row = some 1 := by
  have hm := h.m14
  unfold f_X0_isLoad
  rw [h.r5, if_neg (show ¬ nI k < 0 by rw [lt0 (by omega)]; omega), if_neg (show ¬ nI m ≤ nI k by rw [le_nI (by omega) (by omega)]; omega)]
theorem of_0 {row : zA} {n m T X k : Nat} {par pl cu : Nat → Nat} (h : INV row n m T X par pl cu) (hk : k < n) (nf : zA) : f_X2_of (nI k) 0 row nf = some (if k = 0 then -6 else nI (par k), nf) := by
  have hn := h.n10
  unfold f_X2_of f_X0_aboutBoard
  rw [isb_ok h hk, b1s, if_neg (show ¬ (1 : Int32) = 0 by decide), b1s, if_neg (show ¬ (1 : Int32) = 0 by decide), if_pos (show (0 : Int32) = 0 by decide)]
  by_cases h0 : k = 0
  · subst h0
    rw [if_pos (show nI 0 = (0 : Int32) from rfl), b2s, if_pos rfl]
  · rw [if_neg (show ¬ nI k = 0 by rw [eq0 (by omega)]; exact h0), la17, gd_nI (by omega) (by omega), b2s, if_neg h0, h.P.2.2.2.1 k (by omega) hk]
theorem of_1 {row : zA} {n m T X k : Nat} {par pl cu : Nat → Nat} (h : INV row n m T X par pl cu) (hk : k < n) (nf : zA) : f_X2_of (nI k) 1 row nf = some (row (27 + k), nf) := by
  have hn := h.n10
  unfold f_X2_of f_X0_aboutBoard
  rw [isb_ok h hk, b1s, if_neg (show ¬ (1 : Int32) = 0 by decide), b1s, if_neg (show ¬ (1 : Int32) = 0 by decide), if_neg (show ¬ (1 : Int32) = 0 by decide), if_pos (show (1 : Int32) = 1 by decide)]
  rw [la27, gd_nI (by omega) (by omega), b2s]
theorem of_2 {row : zA} {n m T X k : Nat} {par pl cu : Nat → Nat} (h : INV row n m T X par pl cu) (hk : k < n) (nf : zA) : f_X2_of (nI k) 2 row nf = some (row (37 + k), nf) := by
  have hn := h.n10
  unfold f_X2_of f_X0_aboutBoard
  rw [isb_ok h hk, b1s, if_neg (show ¬ (1 : Int32) = 0 by decide), b1s, if_neg (show ¬ (1 : Int32) = 0 by decide), if_neg (show ¬ (2 : Int32) = 0 by decide), if_neg (show ¬ (2 : Int32) = 1 by decide), if_pos (show (2 : Int32) = 2 by decide)]
  rw [la37, gd_nI (by omega) (by omega), b2s]
theorem of_3 {row : zA} {n m T X k : Nat} {par pl cu : Nat → Nat} (h : INV row n m T X par pl cu) (hk : k < n) (nf : zA) : f_X2_of (nI k) 3 row nf = some (stV row k, nf) := by
  have hn := h.n10
  unfold f_X2_of f_X0_aboutBoard
  rw [isb_ok h hk, b1s, if_neg (show ¬ (1 : Int32) = 0 by decide), b1s, if_neg (show ¬ (1 : Int32) = 0 by decide), if_neg (show ¬ (3 : Int32) = 0 by decide), if_neg (show ¬ (3 : Int32) = 1 by decide), if_neg (show ¬ (3 : Int32) = 2 by decide), if_pos (show (3 : Int32) = 3 by decide)]
  rw [d_state (by omega), b1s, b2s]
  rfl
theorem of_4 {row : zA} {n m T X k : Nat} {par pl cu : Nat → Nat} (h : INV row n m T X par pl cu) (hk : k < n) (nf : zA) : f_X2_of (nI k) 4 row nf = some (nI (Cc row m par pl cu k), flT row nf) := by
  have hn := h.n10
  unfold f_X2_of f_X0_aboutBoard
  rw [isb_ok h hk, b1s, if_neg (show ¬ (1 : Int32) = 0 by decide), b1s, if_neg (show ¬ (1 : Int32) = 0 by decide), if_neg (show ¬ (4 : Int32) = 0 by decide), if_neg (show ¬ (4 : Int32) = 1 by decide), if_neg (show ¬ (4 : Int32) = 2 by decide), if_neg (show ¬ (4 : Int32) = 3 by decide), if_pos (show (4 : Int32) = 4 by decide)]
  unfold f_X0_current
  obtain ⟨c1, c2⟩ := cur_ok h nf
  rw [c1, b1s, gd_nI (by omega) (by omega), c2 k hk]
  simp only [b2s]
theorem of_5 {row : zA} {n m T X k : Nat} {par pl cu : Nat → Nat} (h : INV row n m T X par pl cu) (hk : k < n) (nf : zA) : f_X2_of (nI k) 5 row nf = some (row (57 + k), nf) := by
  have hn := h.n10
  unfold f_X2_of f_X0_aboutBoard
  rw [isb_ok h hk, b1s, if_neg (show ¬ (1 : Int32) = 0 by decide), b1s, if_neg (show ¬ (1 : Int32) = 0 by decide), if_neg (show ¬ (5 : Int32) = 0 by decide), if_neg (show ¬ (5 : Int32) = 1 by decide), if_neg (show ¬ (5 : Int32) = 2 by decide), if_neg (show ¬ (5 : Int32) = 3 by decide), if_neg (show ¬ (5 : Int32) = 4 by decide), if_pos (show (5 : Int32) = 5 by decide)]
  rw [la57, gd_nI (by omega) (by omega), b2s]
theorem of_6 {row : zA} {n m T X k : Nat} {par pl cu : Nat → Nat} (h : INV row n m T X par pl cu) (hk : k < n) (nf : zA) : f_X2_of (nI k) 6 row nf = some (mlt (row (27 + k)) (row (37 + k)) (row (67 + k)), nf) := by
  have hn := h.n10
  unfold f_X2_of f_X0_aboutBoard
  rw [isb_ok h hk, b1s, if_neg (show ¬ (1 : Int32) = 0 by decide), b1s, if_neg (show ¬ (1 : Int32) = 0 by decide), if_neg (show ¬ (6 : Int32) = 0 by decide), if_neg (show ¬ (6 : Int32) = 1 by decide), if_neg (show ¬ (6 : Int32) = 2 by decide), if_neg (show ¬ (6 : Int32) = 3 by decide), if_neg (show ¬ (6 : Int32) = 4 by decide), if_neg (show ¬ (6 : Int32) = 5 by decide), if_pos (show (6 : Int32) = 6 by decide)]
  rw [d_melt (by omega), b1s, b2s]
theorem of_7 {row : zA} {n m T X k : Nat} {par pl cu : Nat → Nat} (h : INV row n m T X par pl cu) (hk : k < n) (nf : zA) : f_X2_of (nI k) 7 row nf = some (row (67 + k), nf) := by
  have hn := h.n10
  unfold f_X2_of f_X0_aboutBoard
  rw [isb_ok h hk, b1s, if_neg (show ¬ (1 : Int32) = 0 by decide), b1s, if_neg (show ¬ (1 : Int32) = 0 by decide), if_neg (show ¬ (7 : Int32) = 0 by decide), if_neg (show ¬ (7 : Int32) = 1 by decide), if_neg (show ¬ (7 : Int32) = 2 by decide), if_neg (show ¬ (7 : Int32) = 3 by decide), if_neg (show ¬ (7 : Int32) = 4 by decide), if_neg (show ¬ (7 : Int32) = 5 by decide), if_neg (show ¬ (7 : Int32) = 6 by decide), if_pos (show (7 : Int32) = 7 by decide)]
  rw [la67, gd_nI (by omega) (by omega), b2s]
theorem of_8 {row : zA} {n m T X k : Nat} {par pl cu : Nat → Nat} (h : INV row n m T X par pl cu) (hk : k < n) (nf : zA) : f_X2_of (nI k) 8 row nf = some (b01 (ded par (bt (row 7)) k), nf) := by
  have hn := h.n10
  unfold f_X2_of f_X0_aboutBoard
  rw [isb_ok h hk, b1s, if_neg (show ¬ (1 : Int32) = 0 by decide), b1s, if_neg (show ¬ (1 : Int32) = 0 by decide), if_neg (show ¬ (8 : Int32) = 0 by decide), if_neg (show ¬ (8 : Int32) = 1 by decide), if_neg (show ¬ (8 : Int32) = 2 by decide), if_neg (show ¬ (8 : Int32) = 3 by decide), if_neg (show ¬ (8 : Int32) = 4 by decide), if_neg (show ¬ (8 : Int32) = 5 by decide), if_neg (show ¬ (8 : Int32) = 6 by decide), if_neg (show ¬ (8 : Int32) = 7 by decide), if_pos (show (8 : Int32) = 8 by decide)]
  rw [d_dead h.P, b1s, bt_get _ (by omega), bt_mask _ (by omega) (by omega), b2s]
  simp [hk, b01]
theorem of_9 {row : zA} {n m T X k : Nat} {par pl cu : Nat → Nat} (h : INV row n m T X par pl cu) (hk : k < n) (nf : zA) : f_X2_of (nI k) 9 row nf = some (nI (dpt par k), nf) := by
  have hn := h.n10
  unfold f_X2_of f_X0_aboutBoard
  rw [isb_ok h hk, b1s, if_neg (show ¬ (1 : Int32) = 0 by decide), b1s, if_neg (show ¬ (1 : Int32) = 0 by decide), if_neg (show ¬ (9 : Int32) = 0 by decide), if_neg (show ¬ (9 : Int32) = 1 by decide), if_neg (show ¬ (9 : Int32) = 2 by decide), if_neg (show ¬ (9 : Int32) = 3 by decide), if_neg (show ¬ (9 : Int32) = 4 by decide), if_neg (show ¬ (9 : Int32) = 5 by decide), if_neg (show ¬ (9 : Int32) = 6 by decide), if_neg (show ¬ (9 : Int32) = 7 by decide), if_neg (show ¬ (9 : Int32) = 8 by decide), if_pos (show (9 : Int32) = 9 by decide)]
  rw [d_ahead h.P hk, b1s, b2s]
theorem of_10 {row : zA} {n m T X k : Nat} {par pl cu : Nat → Nat} (h : INV row n m T X par pl cu) (hk : k < n) (nf : zA) : f_X2_of (nI k) 10 row nf = some (row (47 + k), nf) := by
  have hn := h.n10
  unfold f_X2_of f_X0_aboutBoard
  rw [isb_ok h hk, b1s, if_neg (show ¬ (1 : Int32) = 0 by decide), b1s, if_neg (show ¬ (1 : Int32) = 0 by decide), if_neg (show ¬ (10 : Int32) = 0 by decide), if_neg (show ¬ (10 : Int32) = 1 by decide), if_neg (show ¬ (10 : Int32) = 2 by decide), if_neg (show ¬ (10 : Int32) = 3 by decide), if_neg (show ¬ (10 : Int32) = 4 by decide), if_neg (show ¬ (10 : Int32) = 5 by decide), if_neg (show ¬ (10 : Int32) = 6 by decide), if_neg (show ¬ (10 : Int32) = 7 by decide), if_neg (show ¬ (10 : Int32) = 8 by decide), if_neg (show ¬ (10 : Int32) = 9 by decide), if_pos (show (10 : Int32) = 10 by decide)]
  rw [la47, gd_nI (by omega) (by omega), b2s]
theorem of_11 {row : zA} {n m T X k : Nat} {par pl cu : Nat → Nat} (h : INV row n m T X par pl cu) (hk : k < n) (nf : zA) : f_X2_of (nI k) 11 row nf = some (row (87 + k), nf) := by
  have hn := h.n10
  unfold f_X2_of f_X0_aboutBoard
  rw [isb_ok h hk, b1s, if_neg (show ¬ (1 : Int32) = 0 by decide), b1s, if_neg (show ¬ (1 : Int32) = 0 by decide), if_neg (show ¬ (11 : Int32) = 0 by decide), if_neg (show ¬ (11 : Int32) = 1 by decide), if_neg (show ¬ (11 : Int32) = 2 by decide), if_neg (show ¬ (11 : Int32) = 3 by decide), if_neg (show ¬ (11 : Int32) = 4 by decide), if_neg (show ¬ (11 : Int32) = 5 by decide), if_neg (show ¬ (11 : Int32) = 6 by decide), if_neg (show ¬ (11 : Int32) = 7 by decide), if_neg (show ¬ (11 : Int32) = 8 by decide), if_neg (show ¬ (11 : Int32) = 9 by decide), if_neg (show ¬ (11 : Int32) = 10 by decide), if_pos (show (11 : Int32) = 11 by decide)]
  rw [la87, gd_nI (by omega) (by omega), b2s]
theorem all_ok {row : zA} {n m T X : Nat} {par pl cu : Nat → Nat} (h : INV row n m T X par pl cu) : f_X0_allBoards row = some (mask (fun _ => true) n) := by
  unfold f_X0_allBoards
  rw [h.r4, all_mask n h.n10]
theorem wl_ok {row : zA} {n m T X : Nat} {par pl cu : Nat → Nat} (h : INV row n m T X par pl cu) : f_X0_workingLoadsAt (mask (fun _ => true) n) row = some (mask (wkB row par pl) m) := by
  have hn := h.n10
  rw [d_wla h.P h.Q]
  refine congrArg some (mask_congr fun i hi => ?_)
  have hp := (h.Q.2.2 i hi).1
  rw [bt_mask _ (by omega) (by omega)]
  simp [hp, wkB]
theorem ol_0 {row : zA} {n m T X k : Nat} {par pl cu : Nat → Nat} (h : INV row n m T X par pl cu) (hk : k < m) : f_X2_ofLoad (nI k) 0 row = some (nI (pl k)) := by
  have hm := h.m14
  obtain ⟨q1, q2, q3⟩ := h.Q.2.2 k hk
  unfold f_X2_ofLoad f_X0_aboutLoad
  rw [isl_ok h hk, b1s, if_neg (show ¬ (1 : Int32) = 0 by decide), b1s, if_neg (show ¬ (1 : Int32) = 0 by decide), if_pos (show (0 : Int32) = 0 by decide)]
  rw [la97, gd_nI (by omega) (by omega), b1s, q2]
theorem ol_1 {row : zA} {n m T X k : Nat} {par pl cu : Nat → Nat} (h : INV row n m T X par pl cu) (hk : k < m) : f_X2_ofLoad (nI k) 1 row = some (nI (cu k)) := by
  have hm := h.m14
  obtain ⟨q1, q2, q3⟩ := h.Q.2.2 k hk
  unfold f_X2_ofLoad f_X0_aboutLoad
  rw [isl_ok h hk, b1s, if_neg (show ¬ (1 : Int32) = 0 by decide), b1s, if_neg (show ¬ (1 : Int32) = 0 by decide), if_neg (show ¬ (1 : Int32) = 0 by decide), if_pos (show (1 : Int32) = 1 by decide)]
  rw [la111, gd_nI (by omega) (by omega), b1s, q3]
theorem ol_2 {row : zA} {n m T X k : Nat} {par pl cu : Nat → Nat} (h : INV row n m T X par pl cu) (hk : k < m) : f_X2_ofLoad (nI k) 2 row = some (b01 (bt (row 6) k)) := by
  have hm := h.m14
  obtain ⟨q1, q2, q3⟩ := h.Q.2.2 k hk
  unfold f_X2_ofLoad f_X0_aboutLoad
  rw [isl_ok h hk, b1s, if_neg (show ¬ (1 : Int32) = 0 by decide), b1s, if_neg (show ¬ (1 : Int32) = 0 by decide), if_neg (show ¬ (2 : Int32) = 0 by decide), if_neg (show ¬ (2 : Int32) = 1 by decide), if_pos (show (2 : Int32) = 2 by decide)]
  rw [bt_get _ (by omega), b1s]
  rfl
theorem ol_3 {row : zA} {n m T X k : Nat} {par pl cu : Nat → Nat} (h : INV row n m T X par pl cu) (hk : k < m) : f_X2_ofLoad (nI k) 3 row = some (b01 (wkB row par pl k)) := by
  have hm := h.m14
  obtain ⟨q1, q2, q3⟩ := h.Q.2.2 k hk
  unfold f_X2_ofLoad f_X0_aboutLoad
  rw [isl_ok h hk, b1s, if_neg (show ¬ (1 : Int32) = 0 by decide), b1s, if_neg (show ¬ (1 : Int32) = 0 by decide), if_neg (show ¬ (3 : Int32) = 0 by decide), if_neg (show ¬ (3 : Int32) = 1 by decide), if_neg (show ¬ (3 : Int32) = 2 by decide), if_pos (show (3 : Int32) = 3 by decide)]
  rw [all_ok h, b1s, wl_ok h, b1s, bt_get _ (by omega), bt_mask _ (by omega) (by omega), b1s]
  simp [hk, b01]
def brB (row : zA) (k : Nat) : Bool := !decide (row (47 + k) ≤ 0)
theorem burn_ok {row : zA} {n m T X : Nat} {par pl cu : Nat → Nat} (h : INV row n m T X par pl cu) : f_X0_burningBoards row = some (mask (brB row) n) := by
  have hn := h.n10
  refine d_burning hn h.r4 (fun k hk => ?_) n 0 FU (by omega) (FU_lt (by omega))
  unfold brB
  simp
theorem cn_0 {row : zA} {n m T X : Nat} {par pl cu : Nat → Nat} (h : INV row n m T X par pl cu) (nf pf ff : zA) : f_X2_count 0 row nf pf ff = some (row 3, nf) := by
  have hn := h.n10
  unfold f_X2_count f_X0_aboutHouse
  rw [if_neg (show ¬ (0 : Int32) = 12 by decide), if_neg (show ¬ (0 : Int32) = 13 by decide), if_pos (show (0 : Int32) = 0 by decide)]
  rw [b2s]
theorem cn_1 {row : zA} {n m T X : Nat} {par pl cu : Nat → Nat} (h : INV row n m T X par pl cu) (nf pf ff : zA) : f_X2_count 1 row nf pf ff = some (nI n, nf) := by
  have hn := h.n10
  unfold f_X2_count f_X0_aboutHouse
  rw [if_neg (show ¬ (1 : Int32) = 12 by decide), if_neg (show ¬ (1 : Int32) = 13 by decide), if_neg (show ¬ (1 : Int32) = 0 by decide), if_pos (show (1 : Int32) = 1 by decide)]
  rw [h.r4, b2s]
theorem cn_2 {row : zA} {n m T X : Nat} {par pl cu : Nat → Nat} (h : INV row n m T X par pl cu) (nf pf ff : zA) : f_X2_count 2 row nf pf ff = some (nI m, nf) := by
  have hn := h.n10
  unfold f_X2_count f_X0_aboutHouse
  rw [if_neg (show ¬ (2 : Int32) = 12 by decide), if_neg (show ¬ (2 : Int32) = 13 by decide), if_neg (show ¬ (2 : Int32) = 0 by decide), if_neg (show ¬ (2 : Int32) = 1 by decide), if_pos (show (2 : Int32) = 2 by decide)]
  rw [h.r5, b2s]
theorem cn_3 {row : zA} {n m T X : Nat} {par pl cu : Nat → Nat} (h : INV row n m T X par pl cu) (nf pf ff : zA) : f_X2_count 3 row nf pf ff = some (mask (ded par (bt (row 7))) n, nf) := by
  have hn := h.n10
  unfold f_X2_count f_X0_aboutHouse
  rw [if_neg (show ¬ (3 : Int32) = 12 by decide), if_neg (show ¬ (3 : Int32) = 13 by decide), if_neg (show ¬ (3 : Int32) = 0 by decide), if_neg (show ¬ (3 : Int32) = 1 by decide), if_neg (show ¬ (3 : Int32) = 2 by decide), if_pos (show (3 : Int32) = 3 by decide)]
  rw [d_dead h.P, b1s, b2s]
theorem cn_4 {row : zA} {n m T X : Nat} {par pl cu : Nat → Nat} (h : INV row n m T X par pl cu) (nf pf ff : zA) : f_X2_count 4 row nf pf ff = some (mask (wkB row par pl) m, nf) := by
  have hn := h.n10
  unfold f_X2_count f_X0_aboutHouse
  rw [if_neg (show ¬ (4 : Int32) = 12 by decide), if_neg (show ¬ (4 : Int32) = 13 by decide), if_neg (show ¬ (4 : Int32) = 0 by decide), if_neg (show ¬ (4 : Int32) = 1 by decide), if_neg (show ¬ (4 : Int32) = 2 by decide), if_neg (show ¬ (4 : Int32) = 3 by decide), if_pos (show (4 : Int32) = 4 by decide)]
  rw [all_ok h, b1s, wl_ok h, b1s, b2s]
theorem cn_5 {row : zA} {n m T X : Nat} {par pl cu : Nat → Nat} (h : INV row n m T X par pl cu) (nf pf ff : zA) : f_X2_count 5 row nf pf ff = some (row 7, nf) := by
  have hn := h.n10
  unfold f_X2_count f_X0_aboutHouse
  rw [if_neg (show ¬ (5 : Int32) = 12 by decide), if_neg (show ¬ (5 : Int32) = 13 by decide), if_neg (show ¬ (5 : Int32) = 0 by decide), if_neg (show ¬ (5 : Int32) = 1 by decide), if_neg (show ¬ (5 : Int32) = 2 by decide), if_neg (show ¬ (5 : Int32) = 3 by decide), if_neg (show ¬ (5 : Int32) = 4 by decide), if_pos (show (5 : Int32) = 5 by decide)]
  rw [b2s]
theorem cn_6 {row : zA} {n m T X : Nat} {par pl cu : Nat → Nat} (h : INV row n m T X par pl cu) (nf pf ff : zA) : f_X2_count 6 row nf pf ff = some (mask (brB row) n, nf) := by
  have hn := h.n10
  unfold f_X2_count f_X0_aboutHouse
  rw [if_neg (show ¬ (6 : Int32) = 12 by decide), if_neg (show ¬ (6 : Int32) = 13 by decide), if_neg (show ¬ (6 : Int32) = 0 by decide), if_neg (show ¬ (6 : Int32) = 1 by decide), if_neg (show ¬ (6 : Int32) = 2 by decide), if_neg (show ¬ (6 : Int32) = 3 by decide), if_neg (show ¬ (6 : Int32) = 4 by decide), if_neg (show ¬ (6 : Int32) = 5 by decide), if_pos (show (6 : Int32) = 6 by decide)]
  rw [burn_ok h, b1s, b2s]
theorem cn_7 {row : zA} {n m T X : Nat} {par pl cu : Nat → Nat} (h : INV row n m T X par pl cu) (nf pf ff : zA) : f_X2_count 7 row nf pf ff = some (row 8, nf) := by
  have hn := h.n10
  unfold f_X2_count f_X0_aboutHouse
  rw [if_neg (show ¬ (7 : Int32) = 12 by decide), if_neg (show ¬ (7 : Int32) = 13 by decide), if_neg (show ¬ (7 : Int32) = 0 by decide), if_neg (show ¬ (7 : Int32) = 1 by decide), if_neg (show ¬ (7 : Int32) = 2 by decide), if_neg (show ¬ (7 : Int32) = 3 by decide), if_neg (show ¬ (7 : Int32) = 4 by decide), if_neg (show ¬ (7 : Int32) = 5 by decide), if_neg (show ¬ (7 : Int32) = 6 by decide), if_pos (show (7 : Int32) = 7 by decide)]
  rw [b2s]
theorem cn_8 {row : zA} {n m T X : Nat} {par pl cu : Nat → Nat} (h : INV row n m T X par pl cu) (nf pf ff : zA) : f_X2_count 8 row nf pf ff = some (if n = 0 then 0 else nI (Cc row m par pl cu 0), flT row nf) := by
  have hn := h.n10
  unfold f_X2_count f_X0_aboutHouse
  rw [if_neg (show ¬ (8 : Int32) = 12 by decide), if_neg (show ¬ (8 : Int32) = 13 by decide), if_neg (show ¬ (8 : Int32) = 0 by decide), if_neg (show ¬ (8 : Int32) = 1 by decide), if_neg (show ¬ (8 : Int32) = 2 by decide), if_neg (show ¬ (8 : Int32) = 3 by decide), if_neg (show ¬ (8 : Int32) = 4 by decide), if_neg (show ¬ (8 : Int32) = 5 by decide), if_neg (show ¬ (8 : Int32) = 6 by decide), if_neg (show ¬ (8 : Int32) = 7 by decide), if_pos (show (8 : Int32) = 8 by decide)]
  unfold f_X0_current
  by_cases h0 : n = 0
  · obtain ⟨fl, d1, d2⟩ := d_cur0 h.P h.Q h0 nf
    have e : flT row nf = fl := by
      unfold flT
      rw [d1]
      rfl
    rw [d1, b1s, L0, gd_nI (by omega) (by omega), d2, if_pos h0, e]
    simp only [b2s]
    rfl
  · obtain ⟨c1, c2⟩ := cur_ok h nf
    rw [c1, b1s, L0, gd_nI (by omega) (by omega), c2 0 (by omega), if_neg h0]
    simp only [b2s]
theorem cn_9 {row : zA} {n m T X : Nat} {par pl cu : Nat → Nat} (h : INV row n m T X par pl cu) (nf pf ff : zA) : f_X2_count 9 row nf pf ff = some (row 0, nf) := by
  have hn := h.n10
  unfold f_X2_count f_X0_aboutHouse
  rw [if_neg (show ¬ (9 : Int32) = 12 by decide), if_neg (show ¬ (9 : Int32) = 13 by decide), if_neg (show ¬ (9 : Int32) = 0 by decide), if_neg (show ¬ (9 : Int32) = 1 by decide), if_neg (show ¬ (9 : Int32) = 2 by decide), if_neg (show ¬ (9 : Int32) = 3 by decide), if_neg (show ¬ (9 : Int32) = 4 by decide), if_neg (show ¬ (9 : Int32) = 5 by decide), if_neg (show ¬ (9 : Int32) = 6 by decide), if_neg (show ¬ (9 : Int32) = 7 by decide), if_neg (show ¬ (9 : Int32) = 8 by decide), if_pos (show (9 : Int32) = 9 by decide)]
  rw [b2s]
theorem cn_10 {row : zA} {n m T X : Nat} {par pl cu : Nat → Nat} (h : INV row n m T X par pl cu) (nf pf ff : zA) : f_X2_count 10 row nf pf ff = some (row 1, nf) := by
  have hn := h.n10
  unfold f_X2_count f_X0_aboutHouse
  rw [if_neg (show ¬ (10 : Int32) = 12 by decide), if_neg (show ¬ (10 : Int32) = 13 by decide), if_neg (show ¬ (10 : Int32) = 0 by decide), if_neg (show ¬ (10 : Int32) = 1 by decide), if_neg (show ¬ (10 : Int32) = 2 by decide), if_neg (show ¬ (10 : Int32) = 3 by decide), if_neg (show ¬ (10 : Int32) = 4 by decide), if_neg (show ¬ (10 : Int32) = 5 by decide), if_neg (show ¬ (10 : Int32) = 6 by decide), if_neg (show ¬ (10 : Int32) = 7 by decide), if_neg (show ¬ (10 : Int32) = 8 by decide), if_neg (show ¬ (10 : Int32) = 9 by decide), if_pos (show (10 : Int32) = 10 by decide)]
  rw [b2s]
theorem cn_11 {row : zA} {n m T X : Nat} {par pl cu : Nat → Nat} (h : INV row n m T X par pl cu) (nf pf ff : zA) : f_X2_count 11 row nf pf ff = some (row 2, nf) := by
  have hn := h.n10
  unfold f_X2_count f_X0_aboutHouse
  rw [if_neg (show ¬ (11 : Int32) = 12 by decide), if_neg (show ¬ (11 : Int32) = 13 by decide), if_neg (show ¬ (11 : Int32) = 0 by decide), if_neg (show ¬ (11 : Int32) = 1 by decide), if_neg (show ¬ (11 : Int32) = 2 by decide), if_neg (show ¬ (11 : Int32) = 3 by decide), if_neg (show ¬ (11 : Int32) = 4 by decide), if_neg (show ¬ (11 : Int32) = 5 by decide), if_neg (show ¬ (11 : Int32) = 6 by decide), if_neg (show ¬ (11 : Int32) = 7 by decide), if_neg (show ¬ (11 : Int32) = 8 by decide), if_neg (show ¬ (11 : Int32) = 9 by decide), if_neg (show ¬ (11 : Int32) = 10 by decide), if_pos (show (11 : Int32) = 11 by decide)]
  rw [b2s]
theorem cn_13 (row nf pf ff : zA) : f_X2_count 13 row nf pf ff = some (ff 7, nf) := by
  unfold f_X2_count
  rw [if_neg (show ¬ (13 : Int32) = 12 by decide), if_pos (show (13 : Int32) = 13 by decide)]
theorem fd_ok {row : zA} {n m T X k : Nat} {par pl cu : Nat → Nat} (h : INV row n m T X par pl cu) (hk : k < n) : f_X2_fed (nI k) row = some (mask (fun i => fed par i k) n) := by
  unfold f_X2_fed
  rw [isb_ok h hk, b1s, if_neg (show ¬ (1 : Int32) = 0 by decide), d_fed h.P hk, b1s]
theorem io_ok {row : zA} {n m T X k : Nat} {par pl cu : Nat → Nat} (h : INV row n m T X par pl cu) (hk : k < n) : f_X2_ifOpen (nI k) row = some (mask (fun i => bt (row 6) i && (fed par (pl i) k && !ded par (bt (row 7)) (pl i))) m) := by
  have hn := h.n10
  unfold f_X2_ifOpen
  rw [isb_ok h hk, b1s, if_neg (show ¬ (1 : Int32) = 0 by decide), d_fed h.P hk, b1s, d_wla h.P h.Q, b1s]
  refine congrArg some (mask_congr fun i hi => ?_)
  have hp := (h.Q.2.2 i hi).1
  rw [bt_mask _ (by omega) (by omega)]
  simp [hp]
theorem bw_ok {row : zA} {r B : Nat} (hr : r < 8) (hB : B < 2 ^ 31) (h8 : row 8 = nI B) : f_X2_blown (nI r) row = some (if r < B then row (9 + r) else -1) := by
  unfold f_X2_blown f_X0_latestBlown
  rw [if_neg (show ¬ nI r < 0 by rw [lt0 (by omega)]; omega), if_neg (show ¬ (8 : Int32) ≤ nI r by rw [ge8 (by omega)]; omega), h8]
  by_cases h : r < B
  · rw [if_pos (show nI r < nI B by rw [lt_nI (by omega) hB]; exact h), la9, gd_nI (by omega) (by omega), b1s, if_pos h]
  · rw [if_neg (show ¬ nI r < nI B by rw [lt_nI (by omega) hB]; exact h), b1s, if_neg h]
