/-! Reads of many bits -/
theorem all_mask : ∀ n, n ≤ 10 → ((1 : Int32) <<< (nI n &&& 31)) - 1 = mask (fun _ => true) n := by decide +kernel
theorem bt_not (x : Int32) {j : Nat} (hj : j < 32) : bt (x ^^^ (-1)) j = !bt x j := by
  rw [bt_xor, bt_m1 j hj]
  cases bt x j <;> rfl
theorem wla_loop {row : zA} {n m : Nat} {pl cu : Nat → Nat} (Q : PL row n m pl cu) (hn : n ≤ 10) (A : Int32) : ∀ (j i fuel : Nat), m = i + j → j < fuel → B_X0_workingLoadsAt_14 fuel A (mask (fun i => bt A (pl i)) i) (nI i) row = some (mask (fun i => bt A (pl i)) m &&& row 6) := by
  have hm := Q.1
  intro j
  induction j with
  | zero =>
    intro i fuel hi hf
    obtain ⟨f, rfl⟩ : ∃ f, fuel = f + 1 := ⟨fuel - 1, by omega⟩
    have : i = m := by omega
    subst this
    rw [B_X0_workingLoadsAt_14, Q.2.1, if_pos (Int32.le_refl _)]
  | succ j ih =>
    intro i fuel hi hf
    obtain ⟨f, rfl⟩ : ∃ f, fuel = f + 1 := ⟨fuel - 1, by omega⟩
    obtain ⟨q1, q2, q3⟩ := Q.2.2 i (by omega)
    rw [B_X0_workingLoadsAt_14, Q.2.1, if_neg (by rw [le_nI (by omega) (by omega)]; omega), la97, gd_nI (by omega) (by omega), q2]
    simp only [nmI, bt_is0 _ (show pl i < 32 by omega), ra1]
    have step : (if bt A (pl i) = false then mask (fun i => bt A (pl i)) i else mask (fun i => bt A (pl i)) i ||| ((1 : Int32) <<< (nI i &&& 31))) = mask (fun i => bt A (pl i)) (i + 1) := by
      show _ = if bt A (pl i) then mask (fun i => bt A (pl i)) i ||| ((1 : Int32) <<< (nI i &&& 31)) else mask (fun i => bt A (pl i)) i
      cases bt A (pl i) <;> rfl
    cases hb : bt A (pl i) with
    | false =>
      rw [if_pos rfl]
      rw [hb, if_pos rfl] at step
      rw [step]
      exact ih (i + 1) f (by omega) (by omega)
    | true =>
      rw [if_neg (by simp)]
      rw [hb, if_neg (by simp)] at step
      rw [step]
      exact ih (i + 1) f (by omega) (by omega)
theorem d_wla {row : zA} {n m : Nat} {par : Nat → Nat} {pl cu : Nat → Nat} (P : PR row n par) (Q : PL row n m pl cu) (x : Int32) : f_X0_workingLoadsAt x row = some (mask (fun i => bt (row 6) i && (bt x (pl i) && !ded par (bt (row 7)) (pl i))) m) := by
  have hn := P.1
  have hm := Q.1
  unfold f_X0_workingLoadsAt
  rw [d_dead P]
  simp only [b1s, nmI]
  have := wla_loop Q hn (x &&& (mask (ded par (bt (row 7))) n ^^^ (-1))) m 0 FU (by omega) (FU_lt (by omega))
  rw [show mask (fun i => bt (x &&& (mask (ded par (bt (row 7))) n ^^^ (-1))) (pl i)) 0 = 0 from rfl, show nI 0 = (0 : Int32) from rfl] at this
  rw [this]
  refine congrArg some (mask_is (by omega) fun j hj => ?_)
  rw [bt_and, bt_mask _ (by omega) hj]
  by_cases hjm : j < m
  · obtain ⟨q1, q2, q3⟩ := Q.2.2 j hjm
    rw [bt_and, bt_not _ (by omega), bt_mask _ (by omega) (by omega)]
    simp only [hjm, q1, decide_true, Bool.true_and]
    cases bt (row 6) j <;> simp
  · simp [hjm]
theorem r_works {s : zA} {n m : Nat} {par : Nat → Nat} {op on : Nat → Bool} {pl cu : Nat → Nat} (P : PS s 0 n par) (hop : ∀ k, k < n → op k = decide (s (0 + 16 + 9 * k + 3) = 2)) (Q : PM s 0 n m pl cu on) {i : Nat} (hi : i < m) : f_X3_works (nI i) s = some (if on i && !ded par op (pl i) then 1 else 0) := by
  have hn := P.2.1
  have hm := Q.1
  obtain ⟨q1, q2, q3, q4⟩ := Q.2.2 i hi
  have rd := r_dead P hop q1
  rw [show nI 0 = (0 : Int32) from rfl] at rd
  unfold f_X3_works
  rw [lA0]
  simp only [b1s, ra2]
  rw [gd_nI (by omega) (by omega), gd_nI (by omega) (by omega), q4, q2, rd]
  simp only [b1s, s01, ite01]
  cases on i <;> cases ded par op (pl i) <;> rfl
theorem mask_or {f : Nat → Bool} {n : Nat} (hn : n < 32) {c : Prop} [Decidable c] (h : c ↔ f n = true) : mask f n ||| ((if c then (1 : Int32) else 0) <<< (nI n &&& 31)) = mask f (n + 1) := mask_step f (by
  by_cases hc : c
  · rw [if_pos hc, if_pos (h.mp hc)]
  · rw [if_neg hc, if_neg (fun z => hc (h.mpr z))]) hn
theorem r_working {s : zA} {n m : Nat} {par : Nat → Nat} {op on : Nat → Bool} {pl cu : Nat → Nat} (P : PS s 0 n par) (hop : ∀ k, k < n → op k = decide (s (0 + 16 + 9 * k + 3) = 2)) (Q : PM s 0 n m pl cu on) : ∀ (j i fuel : Nat), m = i + j → j < fuel → B_X3_working_4 fuel (mask (fun i => on i && !ded par op (pl i)) i) (nI i) s = some (mask (fun i => on i && !ded par op (pl i)) m) := by
  have hm := Q.1
  have h5 := Q.2.1
  rw [Nat.zero_add] at h5
  intro j
  induction j with
  | zero =>
    intro i fuel hi hf
    obtain ⟨f, rfl⟩ : ∃ f, fuel = f + 1 := ⟨fuel - 1, by omega⟩
    have : i = m := by omega
    subst this
    rw [B_X3_working_4, h5, if_pos (Int32.le_refl _)]
  | succ j ih =>
    intro i fuel hi hf
    obtain ⟨f, rfl⟩ : ∃ f, fuel = f + 1 := ⟨fuel - 1, by omega⟩
    rw [B_X3_working_4, h5, if_neg (by rw [le_nI (by omega) (by omega)]; omega), r_works P hop Q (show i < m by omega)]
    simp only [b1s, flag01, nmI, ra1]
    rw [mask_or (f := fun i => on i && !ded par op (pl i)) (by omega) Iff.rfl]
    exact ih (i + 1) f (by omega) (by omega)
theorem r_fed_mask {s : zA} {n x : Nat} {par : Nat → Nat} (P : PS s 0 n par) (hx : x < n) : ∀ (j i fuel : Nat), n = i + j → j < fuel → B_X3_fed_14 fuel (nI x) (mask (fun i => fed par i x) i) (nI i) s = some (mask (fun i => fed par i x) n) := by
  have hn := P.2.1
  have h4 := P.2.2.1
  rw [Nat.zero_add] at h4
  intro j
  induction j with
  | zero =>
    intro i fuel hi hf
    obtain ⟨f, rfl⟩ : ∃ f, fuel = f + 1 := ⟨fuel - 1, by omega⟩
    have : i = n := by omega
    subst this
    rw [B_X3_fed_14, h4, if_pos (Int32.le_refl _)]
  | succ j ih =>
    intro i fuel hi hf
    obtain ⟨f, rfl⟩ : ∃ f, fuel = f + 1 := ⟨fuel - 1, by omega⟩
    have rf := r_fed P (x := i) (k := x) (by omega) (by omega)
    rw [show nI 0 = (0 : Int32) from rfl] at rf
    rw [B_X3_fed_14, h4, if_neg (by rw [le_nI (by omega) (by omega)]; omega), rf]
    simp only [b1s, flag01, nmI, ra1]
    rw [mask_or (f := fun i => fed par i x) (by omega) Iff.rfl]
    exact ih (i + 1) f (by omega) (by omega)
theorem sim_fed {nr s : zA} (h : HR nr s 0) (a : Int32) : ∃ v : Int32, f_X2_fed a nr = some v ∧ f_X3_fed a s = some v := by
  obtain ⟨n, m, T, par, hT, hg, hB, hl⟩ := h
  have hn := hB.n10
  have s4 : s 4 = nI n := by have := hB.s4; rw [Nat.zero_add] at this; exact this
  unfold f_X2_fed f_X3_fed
  rw [d_isBoard hn hB.r4, r_isBoard hn s4]
  simp only [b1s, s01]
  by_cases h1 : rng a 0 ((n : Int) - 1) = true
  · rw [if_pos h1, if_pos h1]
    obtain ⟨k, hk, rfl⟩ := (rng_ex (by omega)).mp h1
    have := r_fed_mask hB.PS hk n 0 FU (by omega) (FU_lt (by omega))
    rw [show mask (fun i => fed par i k) 0 = 0 from rfl, show nI 0 = (0 : Int32) from rfl] at this
    rw [d_fed hB.PR hk, this]
    exact ⟨_, rfl, rfl⟩
  · rw [if_neg h1, if_neg h1]
    exact ⟨_, rfl, rfl⟩
theorem sim_blown {nr s : zA} (h : HR nr s 0) (a : Int32) : ∃ v : Int32, f_X2_blown a nr = some v ∧ f_X3_blown a s = some v := by
  obtain ⟨n, m, T, par, hT, hg, hB, hl⟩ := h
  obtain ⟨B, hB1, b1', b2', b3'⟩ := hB.bl
  rw [Nat.zero_add] at b3'
  unfold f_X2_blown f_X3_blown f_X0_latestBlown
  rw [b3', r_rng (x := a) (L := 0) (H := ((min 8 B : Nat) : Int) - 1) (by decide) (by
    rw [Int32.toInt_toInt64, nI_m1_toInt (by omega)]), b1']
  simp only [b1s, s01]
  have e : (if a < 0 then some (-1 : Int32) else if 8 ≤ a then some (-1) else if a < nI B then gd (9 + a) 125 fun k1 => some (nr k1) else some (-1)) = if rng a 0 (((min 8 B : Nat) : Int) - 1) = true then gd (9 + a) 125 fun k1 => some (nr k1) else some (-1) := by
    have := two_cmp2 (x := a) (lo := 0) (hi := nI 7) (L := 0) (H := 7) (by decide) (by decide) (if a < nI B then gd (9 + a) 125 fun k1 => some (nr k1) else some (-1)) (some (-1 : Int32))
    have e8 : (8 ≤ a) = (nI 7 < a) := by
      rw [Int32.le_iff_toInt_le, Int32.lt_iff_toInt_lt]
      rw [show (8 : Int32).toInt = 8 from rfl, show (nI 7).toInt = 7 from rfl]
      exact propext ⟨fun z => by omega, fun z => by omega⟩
    simp only [e8]
    rw [this]
    by_cases h7 : rng a 0 7 = true
    · rw [if_pos h7]
      obtain ⟨k, -, hk, rfl⟩ := (rng_nI (l := 0) (h := 7) (by omega)).mp h7
      simp only [lt_nI (show k < 2 ^ 31 by omega) (show B < 2 ^ 31 by omega)]
      by_cases hkB : k < B
      · rw [if_pos hkB, if_pos ((rng_ex (by omega)).mpr ⟨k, by omega, rfl⟩)]
      · rw [if_neg hkB, if_neg]
        intro z
        obtain ⟨k', z1, z2⟩ := (rng_ex (by omega)).mp z
        have := (nI_eq (by omega) (by omega)).mp z2
        omega
    · rw [if_neg h7, if_neg]
      intro z
      obtain ⟨k', z1, rfl⟩ := (rng_ex (by omega)).mp z
      exact h7 ((rng_nI (l := 0) (h := 7) (by omega)).mpr ⟨k', by omega, by omega, rfl⟩)
  rw [e]
  by_cases h1 : rng a 0 (((min 8 B : Nat) : Int) - 1) = true
  · rw [if_pos h1, if_pos h1]
    obtain ⟨k, hk, rfl⟩ := (rng_ex (by omega)).mp h1
    have := hB.lat k (by omega)
    rw [la9, gd_nI (by omega) (by omega), la8, gd_nI (by omega) (by omega), this]
    rw [show 0 + 8 + k = 8 + k by omega]
    exact ⟨_, rfl, rfl⟩
  · rw [if_neg h1, if_neg h1]
    exact ⟨_, rfl, rfl⟩
