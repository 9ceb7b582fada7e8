/-! A tick, whole -/
noncomputable def tkH (n : Nat) (C : Nat → Nat) (row : zA) : zA := htT C n (bnT n row)
noncomputable def tkM (n : Nat) (par C : Nat → Nat) (row : zA) : Int32 := mask (near par (hotb (tkH n C row)) n) n
noncomputable def tkR (n : Nat) (par C : Nat → Nat) (row : zA) : zA := upd (blT (tkM n par C row) n (tkH n C row)) 3 (blT (tkM n par C row) n (tkH n C row) 3 + 1)
noncomputable def TM (n m : Nat) (par pl cu : Nat → Nat) (row : zA) : Int32 := tkM n par (Cc row m par pl cu) row
noncomputable def TR (n m : Nat) (par pl cu : Nat → Nat) (row : zA) : zA := tkR n par (Cc row m par pl cu) row
theorem hotb_ws {row : zA} {i : Nat} (h : hotb row i = true) : ws row i = true := by
  unfold hotb at h
  exact (Bool.and_eq_true_iff.mp h).1
theorem near_hot {par : Nat → Nat} {hot : Nat → Bool} {n i : Nat} (h : near par hot n i = true) : hot i = true := by
  unfold near at h
  exact (Bool.and_eq_true_iff.mp h).1
theorem tk_bit {row : zA} {n i : Nat} {par C : Nat → Nat} (hn : n ≤ 10) (h : bt (tkM n par C row) i = true) : i < n ∧ hotb (tkH n C row) i = true := by
  unfold tkM at h
  by_cases h32 : i < 32
  · rw [bt_mask _ (by omega) h32] at h
    rw [Bool.and_eq_true, decide_eq_true_eq] at h
    exact ⟨h.1, near_hot h.2⟩
  · rw [bt_big _ (by omega)] at h
    cases h
theorem tkH_inv {row : zA} {n m T X : Nat} {par pl cu C : Nat → Nat} (hC : ∀ k, C k ≤ 9999) (h : INV row n m T X par pl cu) : INV (tkH n C row) n m T X par pl cu := htT_inv hC (bnT_inv h n (Nat.le_refl _)) n (Nat.le_refl _)
theorem tick_eq {row : zA} {n m T X : Nat} {par pl cu : Nat → Nat} (h : INV row n m T X par pl cu) (flow : zA) : ∃ fl, f_X0_tick row flow = some (TM n m par pl cu row, TR n m par pl cu row, fl) := by
  have hn := h.n10
  have hC : ∀ k, Cc row m par pl cu k ≤ 9999 := fun k => Nat.le_trans (Cc_le _ _ _ _ _ k) h.cs
  obtain ⟨fl, d1, d2⟩ := d_cur h.P h.Q flow
  have hb := bnT_inv h n (Nat.le_refl _)
  have hH := tkH_inv hC h
  refine ⟨fl, ?_⟩
  unfold f_X0_tick
  rw [d1, b1s, d_burn hn h.r4, b1s]
  have x2 := heat_loop (row := bnT n row) (flow := fl) (C := Cc row m par pl cu) hn hb.r4 d2 n 0 FU (by omega) (FU_lt (by omega))
  rw [show nI 0 = 0 from rfl, show htT (Cc row m par pl cu) 0 (bnT n row) = bnT n row from rfl, show htT (Cc row m par pl cu) n (bnT n row) = tkH n (Cc row m par pl cu) row from rfl] at x2
  rw [x2, d_molten hn hH.r4, b1s, d_nearest hH.P, b1s]
  exact blow_loop (row := tkH n (Cc row m par pl cu) row) (flow := fl) (mk := TM n m par pl cu row) hn hH.r4 n 0 FU (by omega) (FU_lt (by omega))
theorem tick_inv {row : zA} {n m T X : Nat} {par pl cu : Nat → Nat} (h : INV row n m T X par pl cu) : INV (TR n m par pl cu row) n m (T + 1) (X + n) par pl cu := by
  have hn := h.n10
  have hC : ∀ k, Cc row m par pl cu k ≤ 9999 := fun k => Nat.le_trans (Cc_le _ _ _ _ _ k) h.cs
  have hH := tkH_inv hC h
  have hB := blT_inv (mk := tkM n par (Cc row m par pl cu) row) hH (fun i hi hb => hotb_ws (tk_bit hn hb).2) n (Nat.le_refl _)
  have key : ∀ r : zA, INV r n m T (X + n) par pl cu → INV (upd r 3 (r 3 + 1)) n m (T + 1) (X + n) par pl cu := by
    intro r hr
    have fr : ∀ j, j ≠ 3 → upd r 3 (r 3 + 1) j = r j := fun j hj => upd_ne hj
    obtain ⟨e, e1, e2, e3, e4, e5⟩ := hr.bl
    exact INV.mk (hr.P.mv (fr 4 (by omega)) (fun i hi => fr _ (by omega)) (fun j hj => by rw [fr 7 (by omega)]; exact hr.P.2.2.2.2 j hj)) (hr.Q.mv (fr 5 (by omega)) (fun j h1 h2 => fr j (by omega))) (fun i hi => by rw [fr 6 (by omega)]; exact hr.on i hi) hr.cs (by rw [upd_eq, hr.tm, L1, nI_add]) (by rw [fr 0 (by omega)]; exact hr.arc) (by rw [fr 1 (by omega)]; exact hr.coo) (fun i hi => by rw [fr _ (by omega)]; exact hr.rt i hi) (fun i hi => by rw [fr _ (by omega), fr 7 (by omega)]; exact hr.af i hi) (fun i hi => by rw [fr _ (by omega)]; exact hr.ht i hi) (fun i hi => by rw [fr _ (by omega), fr _ (by omega)]; exact hr.sp i hi) ⟨e, e1, by rw [fr 8 (by omega)]; exact e2, fun i hi => by rw [fr _ (by omega)]; exact e3 i hi, fun i hi hc => by rw [fr 7 (by omega), fr _ (by omega)] at hc; exact e4 i hi hc, fun r hr hr2 => by rw [fr _ (by omega)]; exact e5 r hr hr2⟩ (fun i h1 h2 => by rw [fr _ (by omega)]; exact hr.ze i h1 h2) (fun j hj => by rw [fr j (by omega)]; exact hr.far j hj) (by rw [fr 2 (by omega)]; exact hr.ag)
  exact key _ hB
/-- many ticks -/
noncomputable def TI (n m : Nat) (par pl cu : Nat → Nat) : Nat → zA → zA
  | 0, row => row
  | i + 1, row => TI n m par pl cu i (TR n m par pl cu row)
theorem TI_inv {n m : Nat} {par pl cu : Nat → Nat} : ∀ (i T X : Nat) (row : zA), INV row n m T X par pl cu → INV (TI n m par pl cu i row) n m (T + i) (X + 10 * i) par pl cu
  | 0, _, _, _, h => h
  | i + 1, T, X, row, h => by
    have h1 := TI_inv i (T + 1) (X + n) _ (tick_inv h)
    have hn := h.n10
    rw [show T + 1 + i = T + (i + 1) by omega] at h1
    exact h1.more (by omega)
theorem TI_s {n m : Nat} {par pl cu : Nat → Nat} : ∀ (i : Nat) (row : zA), TI n m par pl cu (i + 1) row = TR n m par pl cu (TI n m par pl cu i row)
  | 0, _ => rfl
  | i + 1, row => TI_s i (TR n m par pl cu row)
theorem TI_add {n m : Nat} {par pl cu : Nat → Nat} : ∀ (i j : Nat) (row : zA), TI n m par pl cu (i + j) row = TI n m par pl cu j (TI n m par pl cu i row)
  | 0, j, row => by rw [Nat.zero_add]; rfl
  | i + 1, j, row => by
    rw [show i + 1 + j = (i + j) + 1 by omega]
    exact TI_add i j (TR n m par pl cu row)
