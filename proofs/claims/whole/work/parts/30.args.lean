/-! Arguments are looked at alike -/
def rng (x : Int32) (l h : Int) : Bool := decide (l ≤ x.toInt ∧ x.toInt ≤ h)
theorem lgn (x y : Int64) : (lg_cmp x y < 0) = (x.toInt < y.toInt) := by
  have e1 : ∀ x y : Int64, x < y ↔ x.toInt < y.toInt := fun x y => Int64.lt_iff_toInt_lt
  unfold lg_cmp
  by_cases h1 : x > y
  · have h2 := (e1 _ _).mp h1
    rw [if_pos h1]
    refine propext ⟨fun q => absurd q (by decide), fun q => by omega⟩
  · rw [if_neg h1]
    have h2 : ¬ y.toInt < x.toInt := fun q => h1 ((e1 _ _).mpr q)
    by_cases h3 : x = y
    · rw [if_pos h3]
      refine propext ⟨fun q => absurd q (by decide), fun q => by rw [h3] at q; omega⟩
    · rw [if_neg h3]
      have h4 : ¬ x.toInt = y.toInt := fun q => h3 (Int64.toInt_inj.mp q)
      exact propext ⟨fun _ => by omega, fun _ => by decide⟩
theorem lgp (x y : Int64) : (0 < lg_cmp x y) = (y.toInt < x.toInt) := by
  have e1 : ∀ x y : Int64, x < y ↔ x.toInt < y.toInt := fun x y => Int64.lt_iff_toInt_lt
  unfold lg_cmp
  by_cases h1 : x > y
  · have h2 := (e1 _ _).mp h1
    rw [if_pos h1]
    exact propext ⟨fun _ => h2, fun _ => by decide⟩
  · rw [if_neg h1]
    have h2 : ¬ y.toInt < x.toInt := fun q => h1 ((e1 _ _).mpr q)
    by_cases h3 : x = y
    · rw [if_pos h3]
      exact propext ⟨fun q => absurd q (by decide), fun q => absurd q h2⟩
    · rw [if_neg h3]
      exact propext ⟨fun q => absurd q (by decide), fun q => absurd q h2⟩
theorem r_in (a l h : Int64) : f_X3_in a l h = some (if l.toInt ≤ a.toInt ∧ a.toInt ≤ h.toInt then 1 else 0) := by
  unfold f_X3_in
  simp only [lgn, lgp]
  by_cases h1 : a.toInt < l.toInt
  · have h2 : ¬ (l.toInt ≤ a.toInt ∧ a.toInt ≤ h.toInt) := by omega
    simp only [h1, h2, if_true, if_false]
  · by_cases h3 : h.toInt < a.toInt
    · have h2 : ¬ (l.toInt ≤ a.toInt ∧ a.toInt ≤ h.toInt) := by omega
      simp only [h1, h2, h3, if_true, if_false]
    · have h2 : l.toInt ≤ a.toInt ∧ a.toInt ≤ h.toInt := by omega
      simp only [h1, h2, h3, if_true, if_false, and_self]
theorem r_inI (x : Int32) (l h : Int64) : f_X3_in (Int32.toInt64 x) l h = some (if rng x l.toInt h.toInt then 1 else 0) := by
  rw [r_in, Int32.toInt_toInt64]
  unfold rng
  by_cases q : l.toInt ≤ x.toInt ∧ x.toInt ≤ h.toInt
  · rw [if_pos q, if_pos (by simpa using q)]
  · rw [if_neg q, if_neg (by simpa using q)]
theorem r_rng {x : Int32} {l h : Int64} {L H : Int} (hl : l.toInt = L) (hh : h.toInt = H) : f_X3_in (Int32.toInt64 x) l h = some (if rng x L H then 1 else 0) := by rw [r_inI, hl, hh]
theorem rng_ex {x : Int32} {n : Nat} (hn : n < 2 ^ 31) : rng x 0 ((n : Int) - 1) = true ↔ ∃ k, k < n ∧ x = nI k := by
  unfold rng
  rw [decide_eq_true_eq]
  constructor
  · intro ⟨h1, h2⟩
    have h0 : ¬ x < 0 := fun q => by
      rw [Int32.lt_iff_toInt_lt, Int32.toInt_zero] at q
      omega
    obtain ⟨k, hk, rfl⟩ := nI_of h0
    rw [nI_toInt hk] at h2
    exact ⟨k, by omega, rfl⟩
  · rintro ⟨k, hk, rfl⟩
    rw [nI_toInt (by omega)]
    omega
theorem rng_nI {x : Int32} {l h : Nat} (hh : h < 2 ^ 31) : rng x l h = true ↔ ∃ k, l ≤ k ∧ k ≤ h ∧ x = nI k := by
  unfold rng
  rw [decide_eq_true_eq]
  constructor
  · intro ⟨h1, h2⟩
    have h0 : ¬ x < 0 := fun q => by
      rw [Int32.lt_iff_toInt_lt, Int32.toInt_zero] at q
      omega
    obtain ⟨k, hk, rfl⟩ := nI_of h0
    rw [nI_toInt hk] at h1 h2
    exact ⟨k, by omega, by omega, rfl⟩
  · rintro ⟨k, h1, h2, rfl⟩
    rw [nI_toInt (by omega)]
    omega
theorem nI_m1_toInt {n : Nat} (hn : n < 2 ^ 30) : (nI n - 1).toInt = (n : Int) - 1 := by
  rw [L1, pk_sub_toInt hn (by omega)]
  rfl
theorem zbo_if (c : Prop) [Decidable c] : (zbo (if c then (1 : Int32) else 0) (some (if c then (1 : Int32) else 0))) = some (if c then 1 else 0) := by
  by_cases h : c
  · rw [if_pos h]; rfl
  · rw [if_neg h]; rfl
theorem r_isBoard {a : Int32} {s : zA} {n : Nat} (hn : n ≤ 10) (h4 : s 4 = nI n) : f_X3_isBoard a s = some (if rng a 0 ((n : Int) - 1) then 1 else 0) := by
  unfold f_X3_isBoard
  rw [h4, r_rng (L := 0) (H := (n : Int) - 1) rfl (by rw [Int32.toInt_toInt64, nI_m1_toInt (by omega)])]
  simp only [b1s]
  exact zbo_if _
theorem r_isLoad {a : Int32} {s : zA} {m : Nat} (hm : m ≤ 14) (h5 : s 5 = nI m) : f_X3_isLoad a s = some (if rng a 0 ((m : Int) - 1) then 1 else 0) := by
  unfold f_X3_isLoad
  rw [h5, r_rng (L := 0) (H := (m : Int) - 1) rfl (by rw [Int32.toInt_toInt64, nI_m1_toInt (by omega)])]
  simp only [b1s]
  exact zbo_if _
theorem d_isIn {a : Int32} {n : Nat} (hn : n < 2 ^ 31) : (if a < 0 then some (0 : Int32) else if nI n ≤ a then some 0 else some 1) = some (if rng a 0 ((n : Int) - 1) then 1 else 0) := by
  unfold rng
  simp only [Int32.lt_iff_toInt_lt, Int32.le_iff_toInt_le, nI_toInt hn, Int32.toInt_zero]
  by_cases h1 : a.toInt < 0
  · rw [if_pos h1, if_neg]
    simp only [decide_eq_true_eq]
    omega
  · rw [if_neg h1]
    by_cases h2 : (n : Int) ≤ a.toInt
    · rw [if_pos h2, if_neg]
      simp only [decide_eq_true_eq]
      omega
    · rw [if_neg h2, if_pos]
      simp only [decide_eq_true_eq]
      omega
theorem d_isBoard {a : Int32} {row : zA} {n : Nat} (hn : n ≤ 10) (h4 : row 4 = nI n) : f_X0_isBoard a row = some (if rng a 0 ((n : Int) - 1) then 1 else 0) := by
  unfold f_X0_isBoard
  rw [h4]
  exact d_isIn (by omega)
theorem d_isLoad {a : Int32} {row : zA} {m : Nat} (hm : m ≤ 14) (h5 : row 5 = nI m) : f_X0_isLoad a row = some (if rng a 0 ((m : Int) - 1) then 1 else 0) := by
  unfold f_X0_isLoad
  rw [h5]
  exact d_isIn (by omega)
/-- looking at a number by two comparisons -/
theorem two_cmp {γ : Type} {x lo hi : Int32} {L H : Int} (hl : lo.toInt = L) (hh : hi.toInt = H) (A B : γ) : (if x < lo then B else if x ≤ hi then A else B) = if rng x L H then A else B := by
  unfold rng
  simp only [Int32.lt_iff_toInt_lt, Int32.le_iff_toInt_le, hl, hh]
  by_cases h1 : x.toInt < L
  · rw [if_pos h1, if_neg]
    simp only [decide_eq_true_eq]
    omega
  · rw [if_neg h1]
    by_cases h2 : x.toInt ≤ H
    · rw [if_pos h2, if_pos]
      simp only [decide_eq_true_eq]
      omega
    · rw [if_neg h2, if_neg]
      simp only [decide_eq_true_eq]
      omega
theorem two_cmp2 {γ : Type} {x lo hi : Int32} {L H : Int} (hl : lo.toInt = L) (hh : hi.toInt = H) (A B : γ) : (if x < lo then B else if hi < x then B else A) = if rng x L H then A else B := by
  rw [← two_cmp hl hh]
  by_cases h1 : x < lo
  · rw [if_pos h1, if_pos h1]
  · rw [if_neg h1, if_neg h1]
    by_cases h2 : hi < x
    · rw [if_pos h2, if_neg (Int32.not_le.mpr h2)]
    · rw [if_neg h2, if_pos (Int32.not_lt.mp h2)]
theorem d_isFuse (r k : Int32) : f_X0_isFuse r k = some (if rng r 1 100 && rng k 0 2 then 1 else 0) := by
  unfold f_X0_isFuse
  rw [two_cmp2 (x := k) (lo := 0) (hi := 2) (L := 0) (H := 2) (by decide) (by decide), two_cmp2 (x := r) (lo := 1) (hi := 100) (L := 1) (H := 100) (by decide) (by decide)]
  cases rng r 1 100 <;> cases rng k 0 2 <;> rfl
theorem r_isFuse (r k : Int32) : f_X3_isFuse r k = some (if rng r 1 100 && rng k 0 2 then 1 else 0) := by
  unfold f_X3_isFuse
  rw [r_rng (x := r) (L := 1) (H := 100) (by decide) (by decide), r_rng (x := k) (L := 0) (H := 2) (by decide) (by decide)]
  cases rng r 1 100 <;> cases rng k 0 2 <;> rfl
theorem bA (b k : Nat) : f_X3_boardAt (nI b) (nI k) = some (nI (b + 16 + 9 * k)) := by
  unfold f_X3_boardAt
  rw [ra16, lm9, nI_add]
theorem bA0 (k : Nat) : f_X3_boardAt 0 (nI k) = some (nI (0 + 16 + 9 * k)) := bA 0 k
theorem lA (b i : Nat) : f_X3_loadAt (nI b) (nI i) = some (nI (b + 106 + 3 * i)) := by
  unfold f_X3_loadAt
  rw [ra106, lm3, nI_add]
theorem lA0 (i : Nat) : f_X3_loadAt 0 (nI i) = some (nI (0 + 106 + 3 * i)) := lA 0 i
theorem s01 (c : Prop) [Decidable c] {γ : Type} (A B : γ) : (if (if c then (1 : Int32) else 0) = 0 then A else B) = if c then B else A := by
  by_cases h : c
  · rw [if_pos h, if_pos h, if_neg (by decide)]
  · rw [if_neg h, if_neg h, if_pos rfl]
/-- a new fuse is put in -/
theorem puts_loop {p : Nat} (hp : p + 8 ≤ 1480) (r q : Int32) : ∀ (j k fuel : Nat) (s : zA), 8 = k + j → 1 ≤ k → j < fuel → ∃ s', B_X3_puts_10 fuel r q (nI p) (nI k) s = some s' ∧ ∀ x, s' x = if p + k ≤ x ∧ x < p + 8 then (if x = p + 1 then r else if x = p + 2 then q else 0) else s x := by
  intro j
  induction j with
  | zero =>
    intro k fuel s hk h1 hf
    obtain ⟨f, rfl⟩ : ∃ f, fuel = f + 1 := ⟨fuel - 1, by omega⟩
    refine ⟨s, ?_, fun x => by rw [if_neg (by omega)]⟩
    rw [B_X3_puts_10]
    simp (disch := omega) only [gd_nI, nmI, b1s, b2s, b3s, b4s, b5s, b6s, b7s, le_nI, lt_nI, eq_nI, nI_add, Nat.add_zero, la9, la17, la27, la37, la47, la57, la67, la77, la87, la97, la111, la16, la106, la8, ra0, ra1, ra2, ra3, ra4, ra5, ra6, ra7, ra8, ra16, ra106, lm2, lm3, lm8, lm9, lm10, lm20, lm148, le0, ge0, lt0, gt0, eq0, le1, ge1, lt1, gt1, eq1, le2, ge2, lt2, gt2, eq2, le3, ge3, lt3, gt3, eq3, le4, ge4, lt4, gt4, eq4, le5, ge5, lt5, gt5, eq5, le6, ge6, lt6, gt6, eq6, le7, ge7, lt7, gt7, eq7, le8, ge8, lt8, gt8, eq8, le9, ge9, lt9, gt9, eq9, le10, ge10, lt10, gt10, eq10, le14, ge14, lt14, gt14, eq14, le16, ge16, lt16, gt16, eq16, le17, ge17, lt17, gt17, eq17, le20, ge20, lt20, gt20, eq20, le27, ge27, lt27, gt27, eq27, le37, ge37, lt37, gt37, eq37, le47, ge47, lt47, gt47, eq47, le50, ge50, lt50, gt50, eq50, le57, ge57, lt57, gt57, eq57, le67, ge67, lt67, gt67, eq67, le77, ge77, lt77, gt77, eq77, le80, ge80, lt80, gt80, eq80, le87, ge87, lt87, gt87, eq87, le97, ge97, lt97, gt97, eq97, le99, ge99, lt99, gt99, eq99, le100, ge100, lt100, gt100, eq100, le106, ge106, lt106, gt106, eq106, le111, ge111, lt111, gt111, eq111, le125, ge125, lt125, gt125, eq125, le148, ge148, lt148, gt148, eq148, le200, ge200, lt200, gt200, eq200, le300, ge300, lt300, gt300, eq300, le1332, ge1332, lt1332, gt1332, eq1332, le9999, ge9999, lt9999, gt9999, eq9999, le1000000, ge1000000, lt1000000, gt1000000, eq1000000, ]
    rw [if_pos (by omega)]
  | succ j ih =>
    intro k fuel s hk h1 hf
    obtain ⟨f, rfl⟩ : ∃ f, fuel = f + 1 := ⟨fuel - 1, by omega⟩
    obtain ⟨s', h1', h2⟩ := ih (k + 1) f (upd s (p + k) (if k = 1 then r else if k = 2 then q else 0)) (by omega) (by omega) (by omega)
    refine ⟨s', ?_, fun x => ?_⟩
    · rw [B_X3_puts_10]
      simp (disch := omega) only [gd_nI, nmI, b1s, b2s, b3s, b4s, b5s, b6s, b7s, le_nI, lt_nI, eq_nI, nI_add, Nat.add_zero, la9, la17, la27, la37, la47, la57, la67, la77, la87, la97, la111, la16, la106, la8, ra0, ra1, ra2, ra3, ra4, ra5, ra6, ra7, ra8, ra16, ra106, lm2, lm3, lm8, lm9, lm10, lm20, lm148, le0, ge0, lt0, gt0, eq0, le1, ge1, lt1, gt1, eq1, le2, ge2, lt2, gt2, eq2, le3, ge3, lt3, gt3, eq3, le4, ge4, lt4, gt4, eq4, le5, ge5, lt5, gt5, eq5, le6, ge6, lt6, gt6, eq6, le7, ge7, lt7, gt7, eq7, le8, ge8, lt8, gt8, eq8, le9, ge9, lt9, gt9, eq9, le10, ge10, lt10, gt10, eq10, le14, ge14, lt14, gt14, eq14, le16, ge16, lt16, gt16, eq16, le17, ge17, lt17, gt17, eq17, le20, ge20, lt20, gt20, eq20, le27, ge27, lt27, gt27, eq27, le37, ge37, lt37, gt37, eq37, le47, ge47, lt47, gt47, eq47, le50, ge50, lt50, gt50, eq50, le57, ge57, lt57, gt57, eq57, le67, ge67, lt67, gt67, eq67, le77, ge77, lt77, gt77, eq77, le80, ge80, lt80, gt80, eq80, le87, ge87, lt87, gt87, eq87, le97, ge97, lt97, gt97, eq97, le99, ge99, lt99, gt99, eq99, le100, ge100, lt100, gt100, eq100, le106, ge106, lt106, gt106, eq106, le111, ge111, lt111, gt111, eq111, le125, ge125, lt125, gt125, eq125, le148, ge148, lt148, gt148, eq148, le200, ge200, lt200, gt200, eq200, le300, ge300, lt300, gt300, eq300, le1332, ge1332, lt1332, gt1332, eq1332, le9999, ge9999, lt9999, gt9999, eq9999, le1000000, ge1000000, lt1000000, gt1000000, eq1000000,  B_X3_puts_47]
      rw [if_neg (by omega)]
      by_cases k1 : k = 1
      · rw [if_pos k1] at h1' ⊢
        exact h1'
      · rw [if_neg k1] at h1' ⊢
        by_cases k2 : k = 2
        · rw [if_pos k2] at h1' ⊢
          exact h1'
        · rw [if_neg k2] at h1' ⊢
          exact h1'
    · rw [h2 x]
      by_cases hx : x = p + k
      · subst hx
        rw [if_neg (by omega), upd_eq, if_pos (show p + k ≤ p + k ∧ p + k < p + 8 by omega)]
        by_cases k1 : k = 1
        · rw [if_pos k1, if_pos (show p + k = p + 1 by omega)]
        · rw [if_neg k1, if_neg (show ¬ p + k = p + 1 by omega)]
          by_cases k2 : k = 2
          · rw [if_pos k2, if_pos (show p + k = p + 2 by omega)]
          · rw [if_neg k2, if_neg (show ¬ p + k = p + 2 by omega)]
      · by_cases hx2 : p + (k + 1) ≤ x ∧ x < p + 8
        · rw [if_pos hx2, if_pos (show p + k ≤ x ∧ x < p + 8 by omega)]
        · rw [if_neg hx2, if_neg (show ¬ (p + k ≤ x ∧ x < p + 8) by omega), upd_ne hx]
theorem r_puts {k : Nat} (hk : k < 10) (r q : Int32) (s : zA) : ∃ s', f_X3_puts (nI k) r q s = some s' ∧ ∀ x, s' x = if 0 + 16 + 9 * k + 1 ≤ x ∧ x < 0 + 16 + 9 * k + 8 then (if x = 0 + 16 + 9 * k + 1 then r else if x = 0 + 16 + 9 * k + 2 then q else 0) else s x := by
  unfold f_X3_puts
  rw [bA0]
  simp only [b1s]
  exact puts_loop (by omega) r q 7 1 FU s (by omega) (by omega) (FU_lt (by omega))
theorem d_puts {k : Nat} (hk : k < 10) (r q : Int32) (row : zA) : ∃ row', f_X0_putNewFuse (nI k) r q row = some row' ∧ row' (27 + k) = r ∧ row' (37 + k) = q ∧ row' (47 + k) = 0 ∧ row' (57 + k) = 0 ∧ row' (67 + k) = 0 ∧ row' (77 + k) = 0 ∧ (∀ j, bt (row' 7) j = (bt (row 7) j && !decide (j = k))) ∧ (∀ j, j ≠ 7 → j ≠ 27 + k → j ≠ 37 + k → j ≠ 47 + k → j ≠ 57 + k → j ≠ 67 + k → j ≠ 77 + k → row' j = row j) := by
  have e7 : upd (upd (upd (upd (upd (upd row (27 + k) r) (37 + k) q) (47 + k) 0) (57 + k) 0) (67 + k) 0) (77 + k) 0 7 = row 7 := by
    rw [upd_ne (by omega), upd_ne (by omega), upd_ne (by omega), upd_ne (by omega), upd_ne (by omega), upd_ne (by omega)]
  refine ⟨_, by unfold f_X0_putNewFuse; simp (disch := omega) only [nmI, la27, la37, la47, la57, la67, la77, gd_nI]; rfl, ?_, ?_, ?_, ?_, ?_, ?_, fun j => ?_, fun j h7 h1 h2 h3 h4 h5 h6 => ?_⟩
  · rw [upd_ne (by omega), upd_ne (by omega), upd_ne (by omega), upd_ne (by omega), upd_ne (by omega), upd_ne (by omega), upd_eq]
  · rw [upd_ne (by omega), upd_ne (by omega), upd_ne (by omega), upd_ne (by omega), upd_ne (by omega), upd_eq]
  · rw [upd_ne (by omega), upd_ne (by omega), upd_ne (by omega), upd_ne (by omega), upd_eq]
  · rw [upd_ne (by omega), upd_ne (by omega), upd_ne (by omega), upd_eq]
  · rw [upd_ne (by omega), upd_ne (by omega), upd_eq]
  · rw [upd_ne (by omega), upd_eq]
  · rw [upd_eq, e7, bt_and]
    by_cases hj : j < 32
    · rw [bt_xor, bt_shl1 (by omega) hj, bt_m1 j hj]
      simp
    · rw [bt_big _ (by omega)]
      simp
  · rw [upd_ne h7, upd_ne h6, upd_ne h5, upd_ne h4, upd_ne h3, upd_ne h2, upd_ne h1]
