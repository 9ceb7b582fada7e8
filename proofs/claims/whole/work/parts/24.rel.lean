/-! The relation of the class's row and the reference's state at base b: boards, settings, time -/
/-- how a fuse is: what is left of its arc, whether it is open -/
def hwR (lf : Int32) (op : Bool) (how rl : Int32) : Prop := ∃ a, a ≤ 9 ∧ lf = nI a ∧ rl = nI a ∧ ((op = false ∧ ((a = 0 ∧ how = 0) ∨ (0 < a ∧ how = 1))) ∨ (op = true ∧ a = 0 ∧ how = 2))
def BR (row s : zA) (b n T X : Nat) (par : Nat → Nat) : Prop := (n ≤ 10) ∧ (b + 148 ≤ 1480) ∧ (row 4 = nI n) ∧ (s (b + 4) = nI n) ∧ (∀ j, j < 4 → row j = s (b + j)) ∧ (row 3 = nI T) ∧ (∃ a, a ≤ 9 ∧ row 0 = nI a) ∧ (∃ a, 1 ≤ a ∧ a ≤ 9 ∧ row 1 = nI a) ∧ (∃ B, B ≤ X ∧ row 8 = nI B ∧ s (b + 6) = nI B ∧ s (b + 7) = nI (min 8 B)) ∧ (∀ r, r < 8 → row (9 + r) = s (b + 8 + r)) ∧ (okp par n) ∧ (∀ k, 0 < k → k < n → row (17 + k) = nI (par k) ∧ s (b + 16 + 9 * k) = nI (par k)) ∧ (0 < n → s (b + 16) = -6) ∧ (∀ k, k < n → ∃ r, 1 ≤ r ∧ r ≤ 100 ∧ row (27 + k) = nI r ∧ s (b + 16 + 9 * k + 1) = nI r) ∧ (∀ k, k < n → ∃ q, q ≤ 2 ∧ row (37 + k) = nI q ∧ s (b + 16 + 9 * k + 2) = nI q) ∧ (∀ k, k < n → hwR (row (47 + k)) (bt (row 7) k) (s (b + 16 + 9 * k + 3)) (s (b + 16 + 9 * k + 7))) ∧ (∀ k, k < n → ∃ h, h ≤ 1000000 ∧ row (57 + k) = nI h ∧ s (b + 16 + 9 * k + 4) = nI h) ∧ (∀ k, k < n → row (67 + k) = s (b + 16 + 9 * k + 5)) ∧ (∀ k, k < n → row (77 + k) = s (b + 16 + 9 * k + 6)) ∧ (∀ k, k < n → row (87 + k) = s (b + 16 + 9 * k + 8)) ∧ (∀ k, n ≤ k → bt (row 7) k = false) ∧ (∀ k, n ≤ k → k < 10 → row (87 + k) = 0)
theorem BR.n10 {row s : zA} {b n T X : Nat} {par : Nat → Nat} (h : BR row s b n T X par) : n ≤ 10 := h.1
theorem BR.b14 {row s : zA} {b n T X : Nat} {par : Nat → Nat} (h : BR row s b n T X par) : b + 148 ≤ 1480 := h.2.1
theorem BR.r4 {row s : zA} {b n T X : Nat} {par : Nat → Nat} (h : BR row s b n T X par) : row 4 = nI n := h.2.2.1
theorem BR.s4 {row s : zA} {b n T X : Nat} {par : Nat → Nat} (h : BR row s b n T X par) : s (b + 4) = nI n := h.2.2.2.1
theorem BR.st0 {row s : zA} {b n T X : Nat} {par : Nat → Nat} (h : BR row s b n T X par) : ∀ j, j < 4 → row j = s (b + j) := h.2.2.2.2.1
theorem BR.tm {row s : zA} {b n T X : Nat} {par : Nat → Nat} (h : BR row s b n T X par) : row 3 = nI T := h.2.2.2.2.2.1
theorem BR.arc {row s : zA} {b n T X : Nat} {par : Nat → Nat} (h : BR row s b n T X par) : ∃ a, a ≤ 9 ∧ row 0 = nI a := h.2.2.2.2.2.2.1
theorem BR.coo {row s : zA} {b n T X : Nat} {par : Nat → Nat} (h : BR row s b n T X par) : ∃ a, 1 ≤ a ∧ a ≤ 9 ∧ row 1 = nI a := h.2.2.2.2.2.2.2.1
theorem BR.bl {row s : zA} {b n T X : Nat} {par : Nat → Nat} (h : BR row s b n T X par) : ∃ B, B ≤ X ∧ row 8 = nI B ∧ s (b + 6) = nI B ∧ s (b + 7) = nI (min 8 B) := h.2.2.2.2.2.2.2.2.1
theorem BR.lat {row s : zA} {b n T X : Nat} {par : Nat → Nat} (h : BR row s b n T X par) : ∀ r, r < 8 → row (9 + r) = s (b + 8 + r) := h.2.2.2.2.2.2.2.2.2.1
theorem BR.par {row s : zA} {b n T X : Nat} {par : Nat → Nat} (h : BR row s b n T X par) : okp par n := h.2.2.2.2.2.2.2.2.2.2.1
theorem BR.fr {row s : zA} {b n T X : Nat} {par : Nat → Nat} (h : BR row s b n T X par) : ∀ k, 0 < k → k < n → row (17 + k) = nI (par k) ∧ s (b + 16 + 9 * k) = nI (par k) := h.2.2.2.2.2.2.2.2.2.2.2.1
theorem BR.f0 {row s : zA} {b n T X : Nat} {par : Nat → Nat} (h : BR row s b n T X par) : 0 < n → s (b + 16) = -6 := h.2.2.2.2.2.2.2.2.2.2.2.2.1
theorem BR.rt {row s : zA} {b n T X : Nat} {par : Nat → Nat} (h : BR row s b n T X par) : ∀ k, k < n → ∃ r, 1 ≤ r ∧ r ≤ 100 ∧ row (27 + k) = nI r ∧ s (b + 16 + 9 * k + 1) = nI r := h.2.2.2.2.2.2.2.2.2.2.2.2.2.1
theorem BR.kd {row s : zA} {b n T X : Nat} {par : Nat → Nat} (h : BR row s b n T X par) : ∀ k, k < n → ∃ q, q ≤ 2 ∧ row (37 + k) = nI q ∧ s (b + 16 + 9 * k + 2) = nI q := h.2.2.2.2.2.2.2.2.2.2.2.2.2.2.1
theorem BR.hw {row s : zA} {b n T X : Nat} {par : Nat → Nat} (h : BR row s b n T X par) : ∀ k, k < n → hwR (row (47 + k)) (bt (row 7) k) (s (b + 16 + 9 * k + 3)) (s (b + 16 + 9 * k + 7)) := h.2.2.2.2.2.2.2.2.2.2.2.2.2.2.2.1
theorem BR.ht {row s : zA} {b n T X : Nat} {par : Nat → Nat} (h : BR row s b n T X par) : ∀ k, k < n → ∃ h, h ≤ 1000000 ∧ row (57 + k) = nI h ∧ s (b + 16 + 9 * k + 4) = nI h := h.2.2.2.2.2.2.2.2.2.2.2.2.2.2.2.2.1
theorem BR.sp {row s : zA} {b n T X : Nat} {par : Nat → Nat} (h : BR row s b n T X par) : ∀ k, k < n → row (67 + k) = s (b + 16 + 9 * k + 5) := h.2.2.2.2.2.2.2.2.2.2.2.2.2.2.2.2.2.1
theorem BR.cr {row s : zA} {b n T X : Nat} {par : Nat → Nat} (h : BR row s b n T X par) : ∀ k, k < n → row (77 + k) = s (b + 16 + 9 * k + 6) := h.2.2.2.2.2.2.2.2.2.2.2.2.2.2.2.2.2.2.1
theorem BR.he {row s : zA} {b n T X : Nat} {par : Nat → Nat} (h : BR row s b n T X par) : ∀ k, k < n → row (87 + k) = s (b + 16 + 9 * k + 8) := h.2.2.2.2.2.2.2.2.2.2.2.2.2.2.2.2.2.2.2.1
theorem BR.op {row s : zA} {b n T X : Nat} {par : Nat → Nat} (h : BR row s b n T X par) : ∀ k, n ≤ k → bt (row 7) k = false := h.2.2.2.2.2.2.2.2.2.2.2.2.2.2.2.2.2.2.2.2.1
theorem BR.h0 {row s : zA} {b n T X : Nat} {par : Nat → Nat} (h : BR row s b n T X par) : ∀ k, n ≤ k → k < 10 → row (87 + k) = 0 := h.2.2.2.2.2.2.2.2.2.2.2.2.2.2.2.2.2.2.2.2.2
theorem BR.mk {row s : zA} {b n T X : Nat} {par : Nat → Nat} (h_n10 : n ≤ 10) (h_b14 : b + 148 ≤ 1480) (h_r4 : row 4 = nI n) (h_s4 : s (b + 4) = nI n) (h_st0 : ∀ j, j < 4 → row j = s (b + j)) (h_tm : row 3 = nI T) (h_arc : ∃ a, a ≤ 9 ∧ row 0 = nI a) (h_coo : ∃ a, 1 ≤ a ∧ a ≤ 9 ∧ row 1 = nI a) (h_bl : ∃ B, B ≤ X ∧ row 8 = nI B ∧ s (b + 6) = nI B ∧ s (b + 7) = nI (min 8 B)) (h_lat : ∀ r, r < 8 → row (9 + r) = s (b + 8 + r)) (h_par : okp par n) (h_fr : ∀ k, 0 < k → k < n → row (17 + k) = nI (par k) ∧ s (b + 16 + 9 * k) = nI (par k)) (h_f0 : 0 < n → s (b + 16) = -6) (h_rt : ∀ k, k < n → ∃ r, 1 ≤ r ∧ r ≤ 100 ∧ row (27 + k) = nI r ∧ s (b + 16 + 9 * k + 1) = nI r) (h_kd : ∀ k, k < n → ∃ q, q ≤ 2 ∧ row (37 + k) = nI q ∧ s (b + 16 + 9 * k + 2) = nI q) (h_hw : ∀ k, k < n → hwR (row (47 + k)) (bt (row 7) k) (s (b + 16 + 9 * k + 3)) (s (b + 16 + 9 * k + 7))) (h_ht : ∀ k, k < n → ∃ h, h ≤ 1000000 ∧ row (57 + k) = nI h ∧ s (b + 16 + 9 * k + 4) = nI h) (h_sp : ∀ k, k < n → row (67 + k) = s (b + 16 + 9 * k + 5)) (h_cr : ∀ k, k < n → row (77 + k) = s (b + 16 + 9 * k + 6)) (h_he : ∀ k, k < n → row (87 + k) = s (b + 16 + 9 * k + 8)) (h_op : ∀ k, n ≤ k → bt (row 7) k = false) (h_h0 : ∀ k, n ≤ k → k < 10 → row (87 + k) = 0) : BR row s b n T X par := ⟨h_n10, h_b14, h_r4, h_s4, h_st0, h_tm, h_arc, h_coo, h_bl, h_lat, h_par, h_fr, h_f0, h_rt, h_kd, h_hw, h_ht, h_sp, h_cr, h_he, h_op, h_h0⟩
theorem upd_eq (f : zA) (k : Nat) (x : Int32) : upd f k x k = x := if_pos rfl
theorem upd_ne {f : zA} {k j : Nat} {x : Int32} (h : j ≠ k) : upd f k x j = f j := if_neg h
theorem BR.PR {row s : zA} {b n T X : Nat} {par : Nat → Nat} (h : BR row s b n T X par) : PR row n par := ⟨h.n10, h.r4, h.par, fun k h0 hk => (h.fr k h0 hk).1, h.op⟩
theorem BR.PS {row s : zA} {b n T X : Nat} {par : Nat → Nat} (h : BR row s b n T X par) : PS s b n par := ⟨h.b14, h.n10, h.s4, h.par, fun k h0 hk => (h.fr k h0 hk).2, h.f0⟩
theorem BR.opp {row s : zA} {b n T X : Nat} {par : Nat → Nat} (h : BR row s b n T X par) : ∀ k, k < n → bt (row 7) k = decide (s (b + 16 + 9 * k + 3) = 2) := by
  intro k hk
  obtain ⟨a, -, -, -, ⟨h1, ⟨-, h2⟩ | ⟨-, h2⟩⟩ | ⟨h1, -, h2⟩⟩ := h.hw k hk <;> rw [h1, h2] <;> decide
def FRr (row row' : zA) : Prop := ∀ j, (j = 2 ∨ j = 5 ∨ j = 6 ∨ 97 ≤ j) → row' j = row j
def FRs (s s' : zA) (b : Nat) : Prop := ∀ j, (j < b ∨ b + 106 ≤ j ∨ j = b + 5) → s' j = s j
theorem FRr.rf (row : zA) : FRr row row := fun _ _ => rfl
theorem FRs.rf (s : zA) (b : Nat) : FRs s s b := fun _ _ => rfl
theorem FRr.tr {a c d : zA} (h : FRr a c) (k : FRr c d) : FRr a d := fun j hj => (k j hj).trans (h j hj)
theorem FRs.tr {a c d : zA} {b : Nat} (h : FRs a c b) (k : FRs c d b) : FRs a d b := fun j hj => (k j hj).trans (h j hj)
/-- what one board's step may change -/
def stR (row row' : zA) (k : Nat) : Prop := ∀ j, j ≠ 47 + k → j ≠ 57 + k → j ≠ 67 + k → j ≠ 77 + k → j ≠ 7 → row' j = row j
def stS (s s' : zA) (b k : Nat) : Prop := ∀ j, (j < b + 16 + 9 * k + 3 ∨ b + 16 + 9 * k + 7 < j) → s' j = s j
theorem stR.FR {row row' : zA} {k : Nat} (hk : k < 10) (h : stR row row' k) : FRr row row' := fun j hj => h j (by omega) (by omega) (by omega) (by omega) (by omega)
theorem stS.FR {s s' : zA} {b k : Nat} (hk : k < 10) (h : stS s s' b k) : FRs s s' b := fun j hj => h j (by omega)
theorem BR.step {row s row' s' : zA} {b n T X k : Nat} {par : Nat → Nat} (h : BR row s b n T X par) (hk : k < n) (hr : stR row row' k) (hs : stS s s' b k) (hop : ∀ j, j ≠ k → bt (row' 7) j = bt (row 7) j)
    (w1 : hwR (row' (47 + k)) (bt (row' 7) k) (s' (b + 16 + 9 * k + 3)) (s' (b + 16 + 9 * k + 7)))
    (w2 : ∃ q, q ≤ 1000000 ∧ row' (57 + k) = nI q ∧ s' (b + 16 + 9 * k + 4) = nI q)
    (w3 : row' (67 + k) = s' (b + 16 + 9 * k + 5)) (w4 : row' (77 + k) = s' (b + 16 + 9 * k + 6)) : BR row' s' b n T X par := by
  have hn := h.n10
  have r : ∀ j, j ≠ 47 + k → j ≠ 57 + k → j ≠ 67 + k → j ≠ 77 + k → j ≠ 7 → row' j = row j := hr
  have q : ∀ j, (j < b + 16 + 9 * k + 3 ∨ b + 16 + 9 * k + 7 < j) → s' j = s j := hs
  refine BR.mk h.n10 h.b14 ?_ ?_ ?_ ?_ ?_ ?_ ?_ ?_ h.par ?_ ?_ ?_ ?_ ?_ ?_ ?_ ?_ ?_ ?_ ?_
  · rw [r 4 (by omega) (by omega) (by omega) (by omega) (by omega)]; exact h.r4
  · rw [q _ (by omega)]; exact h.s4
  · intro j hj; rw [r j (by omega) (by omega) (by omega) (by omega) (by omega), q _ (by omega)]; exact h.st0 j hj
  · rw [r 3 (by omega) (by omega) (by omega) (by omega) (by omega)]; exact h.tm
  · rw [r 0 (by omega) (by omega) (by omega) (by omega) (by omega)]; exact h.arc
  · rw [r 1 (by omega) (by omega) (by omega) (by omega) (by omega)]; exact h.coo
  · rw [r 8 (by omega) (by omega) (by omega) (by omega) (by omega), q _ (by omega), q _ (by omega)]; exact h.bl
  · intro j hj; rw [r _ (by omega) (by omega) (by omega) (by omega) (by omega), q _ (by omega)]; exact h.lat j hj
  · intro j h0 hj; rw [r _ (by omega) (by omega) (by omega) (by omega) (by omega), q _ (by omega)]; exact h.fr j h0 hj
  · intro h0; rw [q _ (by omega)]; exact h.f0 h0
  · intro j hj; rw [r _ (by omega) (by omega) (by omega) (by omega) (by omega), q _ (by omega)]; exact h.rt j hj
  · intro j hj; rw [r _ (by omega) (by omega) (by omega) (by omega) (by omega), q _ (by omega)]; exact h.kd j hj
  · intro j hj
    by_cases hjk : j = k
    · subst hjk; exact w1
    · rw [r _ (by omega) (by omega) (by omega) (by omega) (by omega), q _ (by omega), q _ (by omega), hop j hjk]; exact h.hw j hj
  · intro j hj
    by_cases hjk : j = k
    · subst hjk; exact w2
    · rw [r _ (by omega) (by omega) (by omega) (by omega) (by omega), q _ (by omega)]; exact h.ht j hj
  · intro j hj
    by_cases hjk : j = k
    · subst hjk; exact w3
    · rw [r _ (by omega) (by omega) (by omega) (by omega) (by omega), q _ (by omega)]; exact h.sp j hj
  · intro j hj
    by_cases hjk : j = k
    · subst hjk; exact w4
    · rw [r _ (by omega) (by omega) (by omega) (by omega) (by omega), q _ (by omega)]; exact h.cr j hj
  · intro j hj; rw [r _ (by omega) (by omega) (by omega) (by omega) (by omega), q _ (by omega)]; exact h.he j hj
  · intro j hj; rw [hop j (by omega)]; exact h.op j hj
  · intro j hj h1; rw [r _ (by omega) (by omega) (by omega) (by omega) (by omega)]; exact h.h0 j hj h1
