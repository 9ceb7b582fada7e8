/-! Reads of many bits -/
theorem all_mask : ∀ n, n ≤ 10 → ((1 : Int32) <<< (nI n &&& 31)) - 1 = mask (fun _ => true) n := by decide +kernel
theorem bt_not (x : Int32) {j : Nat} (hj : j < 32) : bt (x ^^^ (-1)) j = !bt x j := by
  rw [bt_xor, bt_m1 j hj]
  cases bt x j <;> rfl
theorem wla_loop {row : zA} {n m : Nat} {pl cu : Nat → Nat} (Q : PL row n m pl cu) (hn : n ≤ 10) (A : Int32) : ∀ (j i fuel : Nat), m = i + j → j < fuel → B_X0_workingLoadsAt_14 fuel A (mask (fun i => bt A (pl i)) i) (nI i) row = some (mask (fun i => bt A (pl i)) m &&& row 6) := by
  have hm := Q.1
  intro j
  induction j with
  | zero =>
    intro i fuel hi hf
    obtain ⟨f, rfl⟩ : ∃ f, fuel = f + 1 := ⟨fuel - 1, by omega⟩
    have : i = m := by omega
    subst this
    rw [B_X0_workingLoadsAt_14, Q.2.1, if_pos (Int32.le_refl _)]
  | succ j ih =>
    intro i fuel hi hf
    obtain ⟨f, rfl⟩ : ∃ f, fuel = f + 1 := ⟨fuel - 1, by omega⟩
    obtain ⟨q1, q2, q3⟩ := Q.2.2 i (by omega)
    rw [B_X0_workingLoadsAt_14, Q.2.1, if_neg (by rw [le_nI (by omega) (by omega)]; omega), la97, gd_nI (by omega) (by omega), q2]
    simp only [nmI, bt_is0 _ (show pl i < 32 by omega), ra1]
    have step : (if bt A (pl i) = false then mask (fun i => bt A (pl i)) i else mask (fun i => bt A (pl i)) i ||| ((1 : Int32) <<< (nI i &&& 31))) = mask (fun i => bt A (pl i)) (i + 1) := by
      show _ = if bt A (pl i) then mask (fun i => bt A (pl i)) i ||| ((1 : Int32) <<< (nI i &&& 31)) else mask (fun i => bt A (pl i)) i
      cases bt A (pl i) <;> rfl
    cases hb : bt A (pl i) with
    | false =>
      rw [if_pos rfl]
      rw [hb, if_pos rfl] at step
      rw [step]
      exact ih (i + 1) f (by omega) (by omega)
    | true =>
      rw [if_neg (by simp)]
      rw [hb, if_neg (by simp)] at step
      rw [step]
      exact ih (i + 1) f (by omega) (by omega)
theorem d_wla {row : zA} {n m : Nat} {par : Nat → Nat} {pl cu : Nat → Nat} (P : PR row n par) (Q : PL row n m pl cu) (x : Int32) : f_X0_workingLoadsAt x row = some (mask (fun i => bt (row 6) i && (bt x (pl i) && !ded par (bt (row 7)) (pl i))) m) := by
  have hn := P.1
  have hm := Q.1
  unfold f_X0_workingLoadsAt
  rw [d_dead P]
  simp only [b1s, nmI]
  have := wla_loop Q hn (x &&& (mask (ded par (bt (row 7))) n ^^^ (-1))) m 0 FU (by omega) (FU_lt (by omega))
  rw [show mask (fun i => bt (x &&& (mask (ded par (bt (row 7))) n ^^^ (-1))) (pl i)) 0 = 0 from rfl, show nI 0 = (0 : Int32) from rfl] at this
  rw [this]
  refine congrArg some (mask_is (by omega) fun j hj => ?_)
  rw [bt_and, bt_mask _ (by omega) hj]
  by_cases hjm : j < m
  · obtain ⟨q1, q2, q3⟩ := Q.2.2 j hjm
    rw [bt_and, bt_not _ (by omega), bt_mask _ (by omega) (by omega)]
    simp only [hjm, q1, decide_true, Bool.true_and]
    cases bt (row 6) j <;> simp
  · simp [hjm]
theorem mask_or {f : Nat → Bool} {n : Nat} (hn : n < 32) {c : Prop} [Decidable c] (h : c ↔ f n = true) : mask f n ||| ((if c then (1 : Int32) else 0) <<< (nI n &&& 31)) = mask f (n + 1) := mask_step f (by
  by_cases hc : c
  · rw [if_pos hc, if_pos (h.mp hc)]
  · rw [if_neg hc, if_neg (fun z => hc (h.mpr z))]) hn
