/-! A tick: fuses blow -/
noncomputable def bl1 (k : Nat) (row : zA) : zA := (f_X0_blow (nI k) row).getD row
theorem bl1_all {row : zA} {k : Nat} (hk : k < 10) : f_X0_blow (nI k) row = some (bl1 k row) ∧ (∀ j, j ≠ 47 + k → j ≠ 7 → j ≠ 8 → j ≠ 87 + k → (j < 9 ∨ 16 < j) → bl1 k row j = row j) ∧ bl1 k row (47 + k) = row 0 ∧ bl1 k row 7 = (if row 0 = 0 then row 7 ||| ((1 : Int32) <<< (nI k &&& 31)) else row 7) ∧ bl1 k row 8 = row 8 + 1 ∧ bl1 k row (87 + k) = row (87 + k) + 1 ∧ bl1 k row 9 = nI k ∧ ∀ r, 1 ≤ r → r < 8 → bl1 k row (9 + r) = row (9 + r - 1) := by
  obtain ⟨row', h1, h2⟩ := d_blow (row := row) hk
  have e : bl1 k row = row' := by
    unfold bl1
    rw [h1]
    rfl
  rw [e]
  exact ⟨h1, h2⟩
theorem bl1_o {row : zA} {k j : Nat} (hk : k < 10) (hj : j < 32) : bt (bl1 k row 7) j = (bt (row 7) j || (decide (j = k) && decide (row 0 = 0))) := by
  rw [(bl1_all hk).2.2.2.1]
  by_cases h : row 0 = 0
  · rw [if_pos h, bt_set _ (by omega) hj]
    simp [h]
  · rw [if_neg h]
    simp [h]
theorem bl1_inv {row : zA} {n m T X k : Nat} {par pl cu : Nat → Nat} (h : INV row n m T X par pl cu) (hk : k < n) (hw : ws row k = true) : INV (bl1 k row) n m T (X + 1) par pl cu := by
  have hn := h.n10
  obtain ⟨-, fr, f47, -, f8, f87, f9, fl⟩ := bl1_all (row := row) (k := k) (by omega)
  obtain ⟨a, ha, ea⟩ := h.arc
  obtain ⟨e, e1, e2, e3, e4, e5⟩ := h.bl
  have hw2 := hw
  unfold ws at hw2
  rw [Bool.and_eq_true] at hw2
  obtain ⟨w1, -⟩ := hw2
  have w1' : bt (row 7) k = false := by simpa using w1
  have o : ∀ j, j < 32 → bt (bl1 k row 7) j = (bt (row 7) j || (decide (j = k) && decide (row 0 = 0))) := fun j hj => bl1_o (by omega) hj
  have o0 : ∀ j, j ≠ k → bt (bl1 k row 7) j = bt (row 7) j := fun j hj => by
    by_cases h32 : j < 32
    · rw [o j h32]
      simp [hj]
    · rw [bt_big _ (by omega), bt_big _ (by omega)]
  have su := sm_upd e k n
  rw [if_pos hk] at su
  refine INV.mk (h.P.mv (fr 4 (by omega) (by omega) (by omega) (by omega) (by omega)) (fun i hi => fr _ (by omega) (by omega) (by omega) (by omega) (by omega)) (fun j hj => ?_)) (h.Q.mv (fr 5 (by omega) (by omega) (by omega) (by omega) (by omega)) (fun j h1 h2 => fr j (by omega) (by omega) (by omega) (by omega) (by omega))) (fun i hi => by rw [fr 6 (by omega) (by omega) (by omega) (by omega) (by omega)]; exact h.on i hi) h.cs (by rw [fr 3 (by omega) (by omega) (by omega) (by omega) (by omega)]; exact h.tm) (by rw [fr 0 (by omega) (by omega) (by omega) (by omega) (by omega)]; exact h.arc) (by rw [fr 1 (by omega) (by omega) (by omega) (by omega) (by omega)]; exact h.coo) (fun i hi => by rw [fr _ (by omega) (by omega) (by omega) (by omega) (by omega)]; exact h.rt i hi) (fun i hi => ?_) (fun i hi => by rw [fr _ (by omega) (by omega) (by omega) (by omega) (by omega)]; exact h.ht i hi) (fun i hi => by rw [fr _ (by omega) (by omega) (by omega) (by omega) (by omega), fr _ (by omega) (by omega) (by omega) (by omega) (by omega)]; exact h.sp i hi) ⟨fun i => if i = k then e i + 1 else e i, by omega, by rw [f8, e2, su, L1, nI_add], fun i hi => ?_, fun i hi hc => ?_, fun r hr hr2 => ?_⟩ (fun i h1 h2 => by rw [fr _ (by omega) (by omega) (by omega) (by omega) (by omega)]; exact h.ze i h1 h2) (fun j hj => by rw [fr j (by omega) (by omega) (by omega) (by omega) (by omega)]; exact h.far j hj) (by rw [fr 2 (by omega) (by omega) (by omega) (by omega) (by omega)]; exact h.ag)
  · rw [o0 j (by omega)]
    exact h.P.2.2.2.2 j hj
  · by_cases hik : i = k
    · subst hik
      refine ⟨a, ha, f47.trans ea, fun q => ?_⟩
      rw [o i (by omega), w1', ea]
      have : ¬ nI a = 0 := by rw [eq0 (by omega)]; omega
      simp [this]
    · rw [fr _ (by omega) (by omega) (by omega) (by omega) (by omega), o0 i hik]
      exact h.af i hi
  · show bl1 k row (87 + i) = nI (if i = k then e i + 1 else e i)
    by_cases hik : i = k
    · subst hik
      rw [if_pos rfl, f87, e3 i hi, L1, nI_add]
    · rw [if_neg hik, fr _ (by omega) (by omega) (by omega) (by omega) (by omega)]
      exact e3 i hi
  · show 0 < if i = k then e i + 1 else e i
    by_cases hik : i = k
    · rw [if_pos hik]
      omega
    · rw [if_neg hik]
      rw [o0 i hik, fr _ (by omega) (by omega) (by omega) (by omega) (by omega)] at hc
      exact e4 i hi hc
  · rw [su] at hr2
    by_cases h0 : r = 0
    · subst h0
      refine ⟨k, hk, f9, ?_⟩
      show 0 < if k = k then e k + 1 else e k
      rw [if_pos rfl]
      omega
    · obtain ⟨b, b1, b2, b3⟩ := e5 (r - 1) (by omega) (by omega)
      refine ⟨b, b1, ?_, ?_⟩
      · rw [fl r (by omega) hr, ← b2]
        congr 1
        omega
      · show 0 < if b = k then e b + 1 else e b
        split
        · omega
        · exact b3
noncomputable def blT (mk : Int32) : Nat → zA → zA
  | 0, row => row
  | k + 1, row => if bt mk k then bl1 k (blT mk k row) else blT mk k row
theorem blT_fr {mk : Int32} {row : zA} : ∀ (k : Nat), k ≤ 10 → ∀ j, (j < 7 ∨ (17 ≤ j ∧ j < 47) ∨ (57 ≤ j ∧ j < 87) ∨ 97 ≤ j) → blT mk k row j = row j
  | 0, _, _, _ => rfl
  | k + 1, hk, j, h1 => by
    show (if bt mk k then bl1 k (blT mk k row) else blT mk k row) j = row j
    split
    · rw [(bl1_all (by omega)).2.1 j (by omega) (by omega) (by omega) (by omega) (by omega), blT_fr k (by omega) j h1]
    · exact blT_fr k (by omega) j h1
theorem blT_a {mk : Int32} {row : zA} : ∀ (k : Nat), k ≤ 10 → ∀ i, i < 10 → blT mk k row (47 + i) = if i < k ∧ bt mk i = true then row 0 else row (47 + i)
  | 0, _, i, _ => by rw [if_neg (fun q : i < 0 ∧ bt mk i = true => absurd q.1 (by omega))]; rfl
  | k + 1, hk, i, hi => by
    have ih := blT_a (mk := mk) (row := row) k (by omega) i hi
    show (if bt mk k then bl1 k (blT mk k row) else blT mk k row) (47 + i) = _
    by_cases hik : i = k
    · subst hik
      rw [if_neg (fun q : i < i ∧ bt mk i = true => absurd q.1 (by omega))] at ih
      by_cases hb : bt mk i = true
      · rw [if_pos hb, if_pos (show i < i + 1 ∧ bt mk i = true from ⟨by omega, hb⟩), (bl1_all (by omega)).2.2.1, blT_fr i (by omega) 0 (by omega)]
      · rw [if_neg hb, if_neg (fun q : i < i + 1 ∧ bt mk i = true => hb q.2)]
        exact ih
    · have e : (i < k ∧ bt mk i = true) = (i < k + 1 ∧ bt mk i = true) := propext ⟨fun q => ⟨by omega, q.2⟩, fun q => ⟨by omega, q.2⟩⟩
      simp only [e] at ih
      rw [← ih]
      split
      · exact (bl1_all (by omega)).2.1 _ (by omega) (by omega) (by omega) (by omega) (by omega)
      · rfl
theorem blT_e {mk : Int32} {row : zA} : ∀ (k : Nat), k ≤ 10 → ∀ i, i < 10 → blT mk k row (87 + i) = if i < k ∧ bt mk i = true then row (87 + i) + 1 else row (87 + i)
  | 0, _, i, _ => by rw [if_neg (fun q : i < 0 ∧ bt mk i = true => absurd q.1 (by omega))]; rfl
  | k + 1, hk, i, hi => by
    have ih := blT_e (mk := mk) (row := row) k (by omega) i hi
    show (if bt mk k then bl1 k (blT mk k row) else blT mk k row) (87 + i) = _
    by_cases hik : i = k
    · subst hik
      rw [if_neg (fun q : i < i ∧ bt mk i = true => absurd q.1 (by omega))] at ih
      by_cases hb : bt mk i = true
      · rw [if_pos hb, if_pos (show i < i + 1 ∧ bt mk i = true from ⟨by omega, hb⟩), (bl1_all (by omega)).2.2.2.2.2.1, ih]
      · rw [if_neg hb, if_neg (fun q : i < i + 1 ∧ bt mk i = true => hb q.2)]
        exact ih
    · have e : (i < k ∧ bt mk i = true) = (i < k + 1 ∧ bt mk i = true) := propext ⟨fun q => ⟨by omega, q.2⟩, fun q => ⟨by omega, q.2⟩⟩
      simp only [e] at ih
      rw [← ih]
      split
      · exact (bl1_all (by omega)).2.1 _ (by omega) (by omega) (by omega) (by omega) (by omega)
      · rfl
theorem blT_o {mk : Int32} {row : zA} : ∀ (k : Nat), k ≤ 10 → ∀ j, j < 32 → bt (blT mk k row 7) j = (bt (row 7) j || (decide (j < k) && (bt mk j && decide (row 0 = 0))))
  | 0, _, j, _ => by simp [blT]
  | k + 1, hk, j, hj => by
    have ih := blT_o (mk := mk) (row := row) k (by omega) j hj
    show bt ((if bt mk k then bl1 k (blT mk k row) else blT mk k row) 7) j = _
    have e0 : blT mk k row 0 = row 0 := blT_fr k (by omega) 0 (by omega)
    by_cases hjk : j = k
    · subst hjk
      by_cases hb : bt mk j = true
      · rw [if_pos hb, bl1_o (by omega) hj, ih, e0]
        simp [hb]
      · rw [if_neg hb, ih]
        simp [hb]
    · have e : decide (j < k + 1) = decide (j < k) := by
        have : (j < k + 1) = (j < k) := propext ⟨fun q => by omega, fun q => by omega⟩
        simp only [this]
      rw [e, ← ih]
      split
      · rw [bl1_o (by omega) hj]
        simp [hjk]
      · rfl
theorem blT_ws {mk : Int32} {row : zA} {k i : Nat} (hk : k ≤ 10) (hki : k ≤ i) (hi : i < 10) : ws (blT mk k row) i = ws row i := by
  unfold ws
  rw [blT_o k hk i (by omega), blT_a k hk i hi, if_neg (fun q : i < k ∧ bt mk i = true => absurd q.1 (by omega))]
  have : ¬ i < k := by omega
  simp [this]
theorem blT_inv {row : zA} {n m T X : Nat} {par pl cu : Nat → Nat} {mk : Int32} (h : INV row n m T X par pl cu) (hmk : ∀ i, i < n → bt mk i = true → ws row i = true) : ∀ k, k ≤ n → INV (blT mk k row) n m T (X + k) par pl cu
  | 0, _ => h
  | k + 1, hk => by
    have hn := h.n10
    have ih := blT_inv h hmk k (by omega)
    show INV (if bt mk k then bl1 k (blT mk k row) else blT mk k row) n m T (X + (k + 1)) par pl cu
    split
    · rename_i hb
      exact bl1_inv ih (by omega) (by rw [blT_ws (by omega) (Nat.le_refl _) (by omega)]; exact hmk k (by omega) hb)
    · exact ih.more (by omega)
theorem blT_0 {row : zA} : ∀ k, blT 0 k row = row
  | 0 => rfl
  | k + 1 => by
    show (if bt 0 k then bl1 k (blT 0 k row) else blT 0 k row) = row
    rw [bt_0, if_neg (by decide), blT_0 k]
theorem blow_loop {row flow : zA} {n : Nat} {mk : Int32} (hn : n ≤ 10) (h4 : row 4 = nI n) : ∀ (j k fuel : Nat), n = k + j → j < fuel → B_X0_tick_56 fuel mk (nI k) (blT mk k row) flow = some (mk, upd (blT mk n row) 3 (blT mk n row 3 + 1), flow) := by
  intro j
  induction j with
  | zero =>
    intro k fuel hk hf
    obtain ⟨f, rfl⟩ : ∃ f, fuel = f + 1 := ⟨fuel - 1, by omega⟩
    rw [B_X0_tick_56, blT_fr k (by omega) 4 (by omega), h4]
    rw [if_pos ((nI_leI (by omega) (by omega)).mpr (by omega)), show n = k by omega]
    rfl
  | succ j ih =>
    intro k fuel hk hf
    obtain ⟨f, rfl⟩ : ∃ f, fuel = f + 1 := ⟨fuel - 1, by omega⟩
    have ih2 := ih (k + 1) f (by omega) (by omega)
    rw [show blT mk (k + 1) row = if bt mk k then bl1 k (blT mk k row) else blT mk k row from rfl] at ih2
    rw [B_X0_tick_56, blT_fr k (by omega) 4 (by omega), h4]
    rw [if_neg (fun q => absurd ((nI_leI (by omega) (by omega)).mp q) (by omega))]
    simp only [bt_is0 mk (show k < 32 by omega)]
    by_cases h : bt mk k = false
    · rw [if_neg (show ¬ bt mk k = true by rw [h]; decide)] at ih2
      rw [if_pos h]
      simp only [nmI, ra1]
      exact ih2
    · rw [if_pos (show bt mk k = true by simpa using h)] at ih2
      rw [if_neg h, (bl1_all (by omega)).1]
      simp only [b1s, nmI, ra1]
      exact ih2
