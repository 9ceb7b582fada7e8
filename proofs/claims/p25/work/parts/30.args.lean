/-! Arguments are looked at alike -/
def rng (x : Int32) (l h : Int) : Bool := decide (l ≤ x.toInt ∧ x.toInt ≤ h)
theorem lgn (x y : Int64) : (lg_cmp x y < 0) = (x.toInt < y.toInt) := by
  have e1 : ∀ x y : Int64, x < y ↔ x.toInt < y.toInt := fun x y => Int64.lt_iff_toInt_lt
  unfold lg_cmp
  by_cases h1 : x > y
  · have h2 := (e1 _ _).mp h1
    rw [if_pos h1]
    refine propext ⟨fun q => absurd q (by decide), fun q => by omega⟩
  · rw [if_neg h1]
    have h2 : ¬ y.toInt < x.toInt := fun q => h1 ((e1 _ _).mpr q)
    by_cases h3 : x = y
    · rw [if_pos h3]
      refine propext ⟨fun q => absurd q (by decide), fun q => by rw [h3] at q; omega⟩
    · rw [if_neg h3]
      have h4 : ¬ x.toInt = y.toInt := fun q => h3 (Int64.toInt_inj.mp q)
      exact propext ⟨fun _ => by omega, fun _ => by decide⟩
theorem lgp (x y : Int64) : (0 < lg_cmp x y) = (y.toInt < x.toInt) := by
  have e1 : ∀ x y : Int64, x < y ↔ x.toInt < y.toInt := fun x y => Int64.lt_iff_toInt_lt
  unfold lg_cmp
  by_cases h1 : x > y
  · have h2 := (e1 _ _).mp h1
    rw [if_pos h1]
    exact propext ⟨fun _ => h2, fun _ => by decide⟩
  · rw [if_neg h1]
    have h2 : ¬ y.toInt < x.toInt := fun q => h1 ((e1 _ _).mpr q)
    by_cases h3 : x = y
    · rw [if_pos h3]
      exact propext ⟨fun q => absurd q (by decide), fun q => absurd q h2⟩
    · rw [if_neg h3]
      exact propext ⟨fun q => absurd q (by decide), fun q => absurd q h2⟩
theorem rng_ex {x : Int32} {n : Nat} (hn : n < 2 ^ 31) : rng x 0 ((n : Int) - 1) = true ↔ ∃ k, k < n ∧ x = nI k := by
  unfold rng
  rw [decide_eq_true_eq]
  constructor
  · intro ⟨h1, h2⟩
    have h0 : ¬ x < 0 := fun q => by
      rw [Int32.lt_iff_toInt_lt, Int32.toInt_zero] at q
      omega
    obtain ⟨k, hk, rfl⟩ := nI_of h0
    rw [nI_toInt hk] at h2
    exact ⟨k, by omega, rfl⟩
  · rintro ⟨k, hk, rfl⟩
    rw [nI_toInt (by omega)]
    omega
theorem rng_nI {x : Int32} {l h : Nat} (hh : h < 2 ^ 31) : rng x l h = true ↔ ∃ k, l ≤ k ∧ k ≤ h ∧ x = nI k := by
  unfold rng
  rw [decide_eq_true_eq]
  constructor
  · intro ⟨h1, h2⟩
    have h0 : ¬ x < 0 := fun q => by
      rw [Int32.lt_iff_toInt_lt, Int32.toInt_zero] at q
      omega
    obtain ⟨k, hk, rfl⟩ := nI_of h0
    rw [nI_toInt hk] at h1 h2
    exact ⟨k, by omega, by omega, rfl⟩
  · rintro ⟨k, h1, h2, rfl⟩
    rw [nI_toInt (by omega)]
    omega
theorem nI_m1_toInt {n : Nat} (hn : n < 2 ^ 30) : (nI n - 1).toInt = (n : Int) - 1 := by
  rw [L1, pk_sub_toInt hn (by omega)]
  rfl
theorem zbo_if (c : Prop) [Decidable c] : (zbo (if c then (1 : Int32) else 0) (some (if c then (1 : Int32) else 0))) = some (if c then 1 else 0) := by
  by_cases h : c
  · rw [if_pos h]; rfl
  · rw [if_neg h]; rfl
theorem d_isIn {a : Int32} {n : Nat} (hn : n < 2 ^ 31) : (if a < 0 then some (0 : Int32) else if nI n ≤ a then some 0 else some 1) = some (if rng a 0 ((n : Int) - 1) then 1 else 0) := by
  unfold rng
  simp only [Int32.lt_iff_toInt_lt, Int32.le_iff_toInt_le, nI_toInt hn, Int32.toInt_zero]
  by_cases h1 : a.toInt < 0
  · rw [if_pos h1, if_neg]
    simp only [decide_eq_true_eq]
    omega
  · rw [if_neg h1]
    by_cases h2 : (n : Int) ≤ a.toInt
    · rw [if_pos h2, if_neg]
      simp only [decide_eq_true_eq]
      omega
    · rw [if_neg h2, if_pos]
      simp only [decide_eq_true_eq]
      omega
theorem d_isBoard {a : Int32} {row : zA} {n : Nat} (hn : n ≤ 10) (h4 : row 4 = nI n) : f_X0_isBoard a row = some (if rng a 0 ((n : Int) - 1) then 1 else 0) := by
  unfold f_X0_isBoard
  rw [h4]
  exact d_isIn (by omega)
theorem d_isLoad {a : Int32} {row : zA} {m : Nat} (hm : m ≤ 14) (h5 : row 5 = nI m) : f_X0_isLoad a row = some (if rng a 0 ((m : Int) - 1) then 1 else 0) := by
  unfold f_X0_isLoad
  rw [h5]
  exact d_isIn (by omega)
/-- looking at a number by two comparisons -/
theorem two_cmp {γ : Type} {x lo hi : Int32} {L H : Int} (hl : lo.toInt = L) (hh : hi.toInt = H) (A B : γ) : (if x < lo then B else if x ≤ hi then A else B) = if rng x L H then A else B := by
  unfold rng
  simp only [Int32.lt_iff_toInt_lt, Int32.le_iff_toInt_le, hl, hh]
  by_cases h1 : x.toInt < L
  · rw [if_pos h1, if_neg]
    simp only [decide_eq_true_eq]
    omega
  · rw [if_neg h1]
    by_cases h2 : x.toInt ≤ H
    · rw [if_pos h2, if_pos]
      simp only [decide_eq_true_eq]
      omega
    · rw [if_neg h2, if_neg]
      simp only [decide_eq_true_eq]
      omega
theorem two_cmp2 {γ : Type} {x lo hi : Int32} {L H : Int} (hl : lo.toInt = L) (hh : hi.toInt = H) (A B : γ) : (if x < lo then B else if hi < x then B else A) = if rng x L H then A else B := by
  rw [← two_cmp hl hh]
  by_cases h1 : x < lo
  · rw [if_pos h1, if_pos h1]
  · rw [if_neg h1, if_neg h1]
    by_cases h2 : hi < x
    · rw [if_pos h2, if_neg (Int32.not_le.mpr h2)]
    · rw [if_neg h2, if_pos (Int32.not_lt.mp h2)]
theorem d_isFuse (r k : Int32) : f_X0_isFuse r k = some (if rng r 1 100 && rng k 0 2 then 1 else 0) := by
  unfold f_X0_isFuse
  rw [two_cmp2 (x := k) (lo := 0) (hi := 2) (L := 0) (H := 2) (by decide) (by decide), two_cmp2 (x := r) (lo := 1) (hi := 100) (L := 1) (H := 100) (by decide) (by decide)]
  cases rng r 1 100 <;> cases rng k 0 2 <;> rfl
theorem s01 (c : Prop) [Decidable c] {γ : Type} (A B : γ) : (if (if c then (1 : Int32) else 0) = 0 then A else B) = if c then B else A := by
  by_cases h : c
  · rw [if_pos h, if_pos h, if_neg (by decide)]
  · rw [if_neg h, if_neg h, if_pos rfl]
theorem d_puts {k : Nat} (hk : k < 10) (r q : Int32) (row : zA) : ∃ row', f_X0_putNewFuse (nI k) r q row = some row' ∧ row' (27 + k) = r ∧ row' (37 + k) = q ∧ row' (47 + k) = 0 ∧ row' (57 + k) = 0 ∧ row' (67 + k) = 0 ∧ row' (77 + k) = 0 ∧ (∀ j, bt (row' 7) j = (bt (row 7) j && !decide (j = k))) ∧ (∀ j, j ≠ 7 → j ≠ 27 + k → j ≠ 37 + k → j ≠ 47 + k → j ≠ 57 + k → j ≠ 67 + k → j ≠ 77 + k → row' j = row j) := by
  have e7 : upd (upd (upd (upd (upd (upd row (27 + k) r) (37 + k) q) (47 + k) 0) (57 + k) 0) (67 + k) 0) (77 + k) 0 7 = row 7 := by
    rw [upd_ne (by omega), upd_ne (by omega), upd_ne (by omega), upd_ne (by omega), upd_ne (by omega), upd_ne (by omega)]
  refine ⟨_, by unfold f_X0_putNewFuse; simp (disch := omega) only [nmI, la27, la37, la47, la57, la67, la77, gd_nI]; rfl, ?_, ?_, ?_, ?_, ?_, ?_, fun j => ?_, fun j h7 h1 h2 h3 h4 h5 h6 => ?_⟩
  · rw [upd_ne (by omega), upd_ne (by omega), upd_ne (by omega), upd_ne (by omega), upd_ne (by omega), upd_ne (by omega), upd_eq]
  · rw [upd_ne (by omega), upd_ne (by omega), upd_ne (by omega), upd_ne (by omega), upd_ne (by omega), upd_eq]
  · rw [upd_ne (by omega), upd_ne (by omega), upd_ne (by omega), upd_ne (by omega), upd_eq]
  · rw [upd_ne (by omega), upd_ne (by omega), upd_ne (by omega), upd_eq]
  · rw [upd_ne (by omega), upd_ne (by omega), upd_eq]
  · rw [upd_ne (by omega), upd_eq]
  · rw [upd_eq, e7, bt_and]
    by_cases hj : j < 32
    · rw [bt_xor, bt_shl1 (by omega) hj, bt_m1 j hj]
      simp
    · rw [bt_big _ (by omega)]
      simp
  · rw [upd_ne h7, upd_ne h6, upd_ne h5, upd_ne h4, upd_ne h3, upd_ne h2, upd_ne h1]
