/-! A tick: the fuses get warm -/
def htf (c r h co : Int32) : Int32 := if c ≤ r then zmx 0 (h - (r * r - c * c) / co) else zmn 1000000 (h + (c * c - r * r))
def cr1 (k : Nat) (row : zA) : zA := if row 2 ≤ row (77 + k) + 1 then upd (upd (upd row (77 + k) (row (77 + k) + 1)) (77 + k) 0) (67 + k) (row (67 + k) + 1) else upd row (77 + k) (row (77 + k) + 1)
def wm1 (k : Nat) (c : Int32) (row : zA) : zA := if row (37 + k) = 2 ∧ ¬ 2 * c ≤ row (27 + k) then cr1 k (upd row (57 + k) (htf c (row (27 + k)) (row (57 + k)) (zmx 1 (row 1)))) else upd row (57 + k) (htf c (row (27 + k)) (row (57 + k)) (zmx 1 (row 1)))
theorem zmx1_ne (x : Int32) : ¬ zmx 1 x = 0 := by
  unfold zmx
  by_cases h : (1 : Int32) < x
  · rw [if_pos h]
    intro q
    rw [q] at h
    exact absurd h (by decide)
  · rw [if_neg h]
    decide
theorem d_creep {k : Nat} (hk : k < 10) (row : zA) : f_X0_creep (nI k) row = some (cr1 k row) := by
  unfold f_X0_creep cr1
  simp (disch := omega) only [la77, la67, gd_nI, nmI]
  rw [upd_ne (show 2 ≠ 77 + k by omega), upd_eq]
  by_cases h : row 2 ≤ row (77 + k) + 1
  · rw [if_pos h, if_pos h, upd_ne (show 67 + k ≠ 77 + k by omega), upd_ne (show 67 + k ≠ 77 + k by omega)]
  · rw [if_neg h, if_neg h]
theorem d_warm {k : Nat} (hk : k < 10) (c : Int32) (row : zA) : f_X0_warm (nI k) c row = some (wm1 k c row) := by
  have tail : ∀ x : Int32, B_X0_warm_95 (nI k) c (row (27 + k)) (upd row (57 + k) x) = some (if row (37 + k) = 2 ∧ ¬ 2 * c ≤ row (27 + k) then cr1 k (upd row (57 + k) x) else upd row (57 + k) x) := by
    intro x
    unfold B_X0_warm_95
    simp (disch := omega) only [la37, gd_nI]
    rw [upd_ne (show 37 + k ≠ 57 + k by omega)]
    by_cases h2 : row (37 + k) = 2
    · rw [if_pos h2]
      by_cases h3 : 2 * c ≤ row (27 + k)
      · rw [if_pos h3, if_neg (fun q => q.2 h3)]
      · rw [if_neg h3, if_pos ⟨h2, h3⟩, d_creep hk]
        rfl
    · rw [if_neg h2, if_neg (fun q => h2 q.1)]
  unfold f_X0_warm wm1 htf
  simp (disch := omega) only [la27, la57, gd_nI, nmI, zdv]
  by_cases h : c ≤ row (27 + k)
  · rw [if_pos h, if_neg (zmx1_ne _), tail, if_pos h]
  · rw [if_neg h, tail, if_neg h]
theorem cr1_fr {k j : Nat} {row : zA} (h1 : j ≠ 67 + k) (h2 : j ≠ 77 + k) : cr1 k row j = row j := by
  unfold cr1
  split
  · rw [upd_ne h1, upd_ne h2, upd_ne h2]
  · rw [upd_ne h2]
theorem wm1_fr {k j : Nat} {c : Int32} {row : zA} (h1 : j ≠ 57 + k) (h2 : j ≠ 67 + k) (h3 : j ≠ 77 + k) : wm1 k c row j = row j := by
  unfold wm1
  split
  · rw [cr1_fr h2 h3, upd_ne h1]
  · rw [upd_ne h1]
theorem wm1_h {k : Nat} {c : Int32} {row : zA} : wm1 k c row (57 + k) = htf c (row (27 + k)) (row (57 + k)) (zmx 1 (row 1)) := by
  unfold wm1
  split
  · rw [cr1_fr (by omega) (by omega), upd_eq]
  · rw [upd_eq]
theorem wm1_s {k : Nat} {c : Int32} {row : zA} (h : row (37 + k) ≠ 2) : wm1 k c row (67 + k) = row (67 + k) := by
  unfold wm1
  rw [if_neg (fun q => h q.1), upd_ne (by omega)]
/-- is the fuse whole -/
def ws (row : zA) (k : Nat) : Bool := !bt (row 7) k && decide (row (47 + k) ≤ 0)
theorem d_st0 {row : zA} {k : Nat} (hk : k < 10) : f_X0_state (nI k) row = some (if bt (row 7) k then 2 else if row (47 + k) ≤ 0 then 0 else 1) := d_state hk
theorem ws_if {row : zA} {k : Nat} {γ : Type} (A B : γ) : (if (if bt (row 7) k then (2 : Int32) else if row (47 + k) ≤ 0 then 0 else 1) = 0 then A else B) = if ws row k then A else B := by
  unfold ws
  cases h1 : bt (row 7) k
  · by_cases h2 : row (47 + k) ≤ 0
    · simp [h2]
    · simp [h2]
  · simp
def ht1 (C : Nat → Nat) (k : Nat) (row : zA) : zA := if ws row k then wm1 k (nI (C k)) row else row
def htT (C : Nat → Nat) : Nat → zA → zA
  | 0, row => row
  | k + 1, row => ht1 C k (htT C k row)
theorem ht1_fr {C : Nat → Nat} {k j : Nat} {row : zA} (h1 : j ≠ 57 + k) (h2 : j ≠ 67 + k) (h3 : j ≠ 77 + k) : ht1 C k row j = row j := by
  unfold ht1
  split
  · exact wm1_fr h1 h2 h3
  · rfl
theorem htT_fr {C : Nat → Nat} {row : zA} : ∀ (k : Nat), k ≤ 10 → ∀ j, (j < 57 ∨ 87 ≤ j) → htT C k row j = row j
  | 0, _, _, _ => rfl
  | k + 1, hk, j, h1 => by
    show ht1 C k (htT C k row) j = row j
    rw [ht1_fr (by omega) (by omega) (by omega), htT_fr k (by omega) j h1]
theorem htT_ws {C : Nat → Nat} {row : zA} {k i : Nat} (hk : k ≤ 10) (hi : i < 10) : ws (htT C k row) i = ws row i := by
  unfold ws
  rw [htT_fr k hk 7 (by omega), htT_fr k hk (47 + i) (by omega)]
theorem htT_h {C : Nat → Nat} {row : zA} : ∀ (k : Nat), k ≤ 10 → ∀ i, i < 10 → htT C k row (57 + i) = if i < k ∧ ws row i = true then htf (nI (C i)) (row (27 + i)) (row (57 + i)) (zmx 1 (row 1)) else row (57 + i)
  | 0, _, i, _ => by rw [if_neg (by omega)]; rfl
  | k + 1, hk, i, hi => by
    show ht1 C k (htT C k row) (57 + i) = _
    by_cases hik : i = k
    · subst hik
      unfold ht1
      rw [htT_ws (by omega) hi]
      by_cases h : ws row i = true
      · rw [if_pos h, if_pos ⟨by omega, h⟩, wm1_h, htT_fr i (by omega) _ (by omega), htT_fr i (by omega) 1 (by omega), htT_h i (by omega) i hi, if_neg (fun q : i < i ∧ ws row i = true => absurd q.1 (Nat.lt_irrefl i))]
      · rw [if_neg h, if_neg (fun q => h q.2), htT_h i (by omega) i hi, if_neg (fun q : i < i ∧ ws row i = true => absurd q.1 (Nat.lt_irrefl i))]
    · rw [ht1_fr (by omega) (by omega) (by omega), htT_h k (by omega) i hi]
      by_cases h : i < k ∧ ws row i = true
      · rw [if_pos h, if_pos ⟨by omega, h.2⟩]
      · rw [if_neg h, if_neg (fun q => h ⟨by omega, q.2⟩)]
theorem heat_loop {row flow : zA} {n : Nat} {C : Nat → Nat} (hn : n ≤ 10) (h4 : row 4 = nI n) (hfl : ∀ k, k < n → flow k = nI (C k)) : ∀ (j k fuel : Nat), n = k + j → j < fuel → B_X0_tick_10 fuel (nI k) (htT C k row) flow = (b1 (f_X0_molten (htT C n row)) fun v1 => b1 (f_X0_nearestOf v1 (htT C n row)) fun v3 => B_X0_tick_56 FU v3 0 (htT C n row) flow) := by
  intro j
  induction j with
  | zero =>
    intro k fuel hk hf
    obtain ⟨f, rfl⟩ : ∃ f, fuel = f + 1 := ⟨fuel - 1, by omega⟩
    rw [B_X0_tick_10, htT_fr k (by omega) 4 (by omega), h4]
    rw [if_pos ((nI_leI (by omega) (by omega)).mpr (by omega)), show n = k by omega]
  | succ j ih =>
    intro k fuel hk hf
    obtain ⟨f, rfl⟩ : ∃ f, fuel = f + 1 := ⟨fuel - 1, by omega⟩
    have ih2 := ih (k + 1) f (by omega) (by omega)
    rw [show htT C (k + 1) row = ht1 C k (htT C k row) from rfl] at ih2
    rw [B_X0_tick_10, htT_fr k (by omega) 4 (by omega), h4]
    rw [if_neg (fun q => absurd ((nI_leI (by omega) (by omega)).mp q) (by omega)), d_state (by omega), b1s, ws_if]
    unfold ht1 at ih2
    by_cases h : ws (htT C k row) k = true
    · rw [if_pos h] at ih2 ⊢
      rw [gd_nI (by omega) (by omega), hfl k (by omega), d_warm (by omega)]
      simp only [b1s, nmI, ra1]
      exact ih2
    · rw [if_neg h] at ih2 ⊢
      simp only [nmI, ra1]
      exact ih2
theorem zmx1_co {co : Nat} (h1 : 1 ≤ co) (h9 : co ≤ 9) : zmx 1 (nI co) = nI co := by
  unfold zmx
  by_cases h : co = 1
  · subst h; rfl
  · rw [if_pos]
    rw [gt1 (by omega)]
    omega
theorem htf_ok {c r h co : Nat} (hc : c ≤ 9999) (hr : r ≤ 100) (hh : h ≤ 1000000) (h1 : 1 ≤ co) (h9 : co ≤ 9) : ∃ q, q ≤ 1000000 ∧ htf (nI c) (nI r) (nI h) (zmx 1 (nI co)) = nI q := by
  obtain ⟨q, hq, q1, -⟩ := heat_same hc hr hh h1 h9
  exact ⟨q, hq, by rw [zmx1_co h1 h9]; exact q1⟩
theorem htf_cold {c r co : Nat} (hcr : c ≤ r) (hr : r ≤ 100) (h1 : 1 ≤ co) (h9 : co ≤ 9) : htf (nI c) (nI r) 0 (zmx 1 (nI co)) = 0 := by
  rw [zmx1_co h1 h9]
  unfold htf
  rw [if_pos ((nI_leI (by omega) (by omega)).mpr hcr)]
  have hsq : c * c ≤ r * r := Nat.mul_le_mul hcr hcr
  have hrr : r * r ≤ 10000 := Nat.mul_le_mul hr hr
  rw [pk_mul, pk_mul, pk_sub hsq, pk_div (by omega) (by omega) (by omega)]
  have hd : (r * r - c * c) / co ≤ 10000 := Nat.le_trans (Nat.div_le_self _ _) (by omega)
  generalize (r * r - c * c) / co = d at hd ⊢
  unfold zmx
  by_cases h : d = 0
  · subst h; rfl
  · rw [if_neg]
    have := pk_sneg (a := 0) (b := d) (by omega) (by omega)
    exact fun q => Int32.lt_irrefl (Int32.lt_of_lt_of_le q (Int32.le_of_lt this))
theorem wm1_inv {row : zA} {n m T X k c : Nat} {par pl cu : Nat → Nat} (h : INV row n m T X par pl cu) (hk : k < n) (hc : c ≤ 9999) : INV (wm1 k (nI c) row) n m T X par pl cu := by
  have hn := h.n10
  obtain ⟨e, e1, e2, e3, e4, e5⟩ := h.bl
  have fr : ∀ j, j ≠ 57 + k → j ≠ 67 + k → j ≠ 77 + k → wm1 k (nI c) row j = row j := fun j h1 h2 h3 => wm1_fr h1 h2 h3
  refine INV.mk (h.P.mv (fr 4 (by omega) (by omega) (by omega)) (fun i hi => fr _ (by omega) (by omega) (by omega)) (fun j hj => by rw [fr 7 (by omega) (by omega) (by omega)]; exact h.P.2.2.2.2 j hj)) (h.Q.mv (fr 5 (by omega) (by omega) (by omega)) (fun j h1 h2 => fr j (by omega) (by omega) (by omega))) (fun i hi => by rw [fr 6 (by omega) (by omega) (by omega)]; exact h.on i hi) h.cs (by rw [fr 3 (by omega) (by omega) (by omega)]; exact h.tm) (by rw [fr 0 (by omega) (by omega) (by omega)]; exact h.arc) (by rw [fr 1 (by omega) (by omega) (by omega)]; exact h.coo) (fun i hi => by rw [fr _ (by omega) (by omega) (by omega)]; exact h.rt i hi) (fun i hi => by rw [fr _ (by omega) (by omega) (by omega), fr 7 (by omega) (by omega) (by omega)]; exact h.af i hi) (fun i hi => ?_) (fun i hi => ?_) ⟨e, e1, by rw [fr 8 (by omega) (by omega) (by omega)]; exact e2, fun i hi => by rw [fr _ (by omega) (by omega) (by omega)]; exact e3 i hi, fun i hi hc => by rw [fr 7 (by omega) (by omega) (by omega), fr _ (by omega) (by omega) (by omega)] at hc; exact e4 i hi hc, fun r hr hr2 => by rw [fr _ (by omega) (by omega) (by omega)]; exact e5 r hr hr2⟩ (fun i h1 h2 => by rw [fr _ (by omega) (by omega) (by omega)]; exact h.ze i h1 h2) (fun j hj => by rw [fr j (by omega) (by omega) (by omega)]; exact h.far j hj) (by rw [fr 2 (by omega) (by omega) (by omega)]; exact h.ag)
  · by_cases hik : i = k
    · subst hik
      obtain ⟨r, hr1, hr2, er⟩ := h.rt i hi
      obtain ⟨t, ht, et⟩ := h.ht i hi
      obtain ⟨co, hco1, hco2, eco⟩ := h.coo
      obtain ⟨q, hq, eq⟩ := htf_ok hc hr2 ht hco1 hco2
      exact ⟨q, hq, by rw [wm1_h, er, et, eco]; exact eq⟩
    · rw [fr _ (by omega) (by omega) (by omega)]
      exact h.ht i hi
  · rw [fr (37 + i) (by omega) (by omega) (by omega)]
    intro h2
    by_cases hik : i = k
    · subst hik
      rw [wm1_s h2]
      exact h.sp i hi h2
    · rw [fr _ (by omega) (by omega) (by omega)]
      exact h.sp i hi h2
theorem htT_inv {row : zA} {n m T X : Nat} {par pl cu C : Nat → Nat} (hC : ∀ k, C k ≤ 9999) (h : INV row n m T X par pl cu) : ∀ k, k ≤ n → INV (htT C k row) n m T X par pl cu
  | 0, _ => h
  | k + 1, hk => by
    have ih := htT_inv hC h k (by omega)
    show INV (ht1 C k (htT C k row)) n m T X par pl cu
    unfold ht1
    split
    · exact wm1_inv ih (by omega) (hC k)
    · exact ih
