/-! Boards that feed one another: par b is the board from which b is fed -/
def fed (par : Nat → Nat) : Nat → Nat → Bool
  | 0, k => decide (k = 0)
  | x + 1, k => decide (k = x + 1) || fed par (min (par (x + 1)) x) k
termination_by x _ => x
decreasing_by exact Nat.lt_succ_of_le (Nat.min_le_right _ _)
def ded (par : Nat → Nat) (op : Nat → Bool) : Nat → Bool
  | 0 => op 0
  | x + 1 => op (x + 1) || ded par op (min (par (x + 1)) x)
termination_by x => x
decreasing_by exact Nat.lt_succ_of_le (Nat.min_le_right _ _)
def dpt (par : Nat → Nat) : Nat → Nat
  | 0 => 0
  | x + 1 => dpt par (min (par (x + 1)) x) + 1
termination_by x => x
decreasing_by exact Nat.lt_succ_of_le (Nat.min_le_right _ _)
def okp (par : Nat → Nat) (n : Nat) : Prop := ∀ k, 0 < k → k < n → par k < k
theorem fed_0 (par : Nat → Nat) (k : Nat) : fed par 0 k = decide (k = 0) := by rw [fed]
theorem fed_s {par : Nat → Nat} {x : Nat} (h0 : 0 < x) (h : par x < x) (k : Nat) : fed par x k = (decide (k = x) || fed par (par x) k) := by
  obtain ⟨y, rfl⟩ : ∃ y, x = y + 1 := ⟨x - 1, by omega⟩
  rw [fed, Nat.min_eq_left (by omega)]
theorem ded_0 (par : Nat → Nat) (op : Nat → Bool) : ded par op 0 = op 0 := by rw [ded]
theorem ded_s {par : Nat → Nat} {op : Nat → Bool} {x : Nat} (h0 : 0 < x) (h : par x < x) : ded par op x = (op x || ded par op (par x)) := by
  obtain ⟨y, rfl⟩ : ∃ y, x = y + 1 := ⟨x - 1, by omega⟩
  rw [ded, Nat.min_eq_left (by omega)]
theorem dpt_0 (par : Nat → Nat) : dpt par 0 = 0 := by rw [dpt]
theorem dpt_s {par : Nat → Nat} {x : Nat} (h0 : 0 < x) (h : par x < x) : dpt par x = dpt par (par x) + 1 := by
  obtain ⟨y, rfl⟩ : ∃ y, x = y + 1 := ⟨x - 1, by omega⟩
  rw [dpt, Nat.min_eq_left (by omega)]
theorem fed_self (par : Nat → Nat) (x : Nat) : fed par x x = true := by
  cases x with
  | zero => rw [fed]; rfl
  | succ x => rw [fed]; simp
theorem fed_le {par : Nat → Nat} : ∀ (x k : Nat), fed par x k = true → k ≤ x
  | 0, k, h => by
    rw [fed] at h
    simp at h
    omega
  | x + 1, k, h => by
    rw [fed] at h
    simp at h
    rcases h with h | h
    · omega
    · have := fed_le _ _ h
      have h2 : min (par (x + 1)) x ≤ x := Nat.min_le_right _ _
      omega
termination_by x => x
decreasing_by exact Nat.lt_succ_of_le (Nat.min_le_right _ _)
theorem fed_gt {par : Nat → Nat} {x k : Nat} (h : x < k) : fed par x k = false := by
  cases hf : fed par x k with
  | false => rfl
  | true => have := fed_le _ _ hf; omega
theorem dpt_le {par : Nat → Nat} : ∀ (x : Nat), dpt par x ≤ x
  | 0 => by rw [dpt]; omega
  | x + 1 => by
    rw [dpt]
    have := dpt_le (par := par) (min (par (x + 1)) x)
    have h2 : min (par (x + 1)) x ≤ x := Nat.min_le_right _ _
    omega
termination_by x => x
decreasing_by exact Nat.lt_succ_of_le (Nat.min_le_right _ _)
theorem ded_congr {par : Nat → Nat} {op op' : Nat → Bool} {n : Nat} (hp : okp par n) (h : ∀ k, k < n → op k = op' k) : ∀ x, x < n → ded par op x = ded par op' x := by
  intro x
  induction x using Nat.strongRecOn with
  | ind x ih =>
    intro hx
    by_cases h0 : x = 0
    · subst h0
      rw [ded_0, ded_0, h 0 hx]
    · have hp' := hp x (by omega) hx
      rw [ded_s (by omega) hp', ded_s (by omega) hp', h x hx, ih _ hp' (by omega)]
theorem sm_z {f : Nat → Nat} {n : Nat} (h : ∀ k, k < n → f k = 0) : sm f n = 0 := (sm_congr h).trans (sm_0 n)
/-- one is fed through k: it is k, or it is fed through just one of those that are fed from k -/
def ind (b : Bool) : Nat := if b then 1 else 0
theorem fed_sum {par : Nat → Nat} {n : Nat} (hp : okp par n) (k : Nat) : ∀ x, x < n → ind (fed par x k) = (if x = k then 1 else 0) + sm (fun c => if 0 < c ∧ par c = k then ind (fed par x c) else 0) n := by
  intro x
  induction x using Nat.strongRecOn with
  | ind x ih =>
    intro hx
    by_cases h0 : x = 0
    · subst h0
      have h1 : sm (fun c => if 0 < c ∧ par c = k then ind (fed par 0 c) else 0) n = 0 := by
        apply sm_z
        intro c _
        split
        · rename_i hc
          rw [fed_gt hc.1]
          rfl
        · rfl
      rw [h1, fed_0]
      by_cases h2 : k = 0
      · subst h2; rfl
      · have : ¬ 0 = k := by omega
        simp [ind, h2, this]
    · have hpx := hp x (by omega) hx
      have ihx := ih _ hpx (by omega)
      by_cases hk : x = k
      · subst hk
        rw [fed_self, if_pos rfl]
        have h1 : sm (fun c => if 0 < c ∧ par c = x then ind (fed par x c) else 0) n = 0 := by
          apply sm_z
          intro c hc
          split
          · rename_i h3
            have := hp c h3.1 hc
            rw [fed_gt (by omega)]
            rfl
          · rfl
        rw [h1]
        rfl
      · rw [if_neg hk, fed_s (by omega) hpx]
        have hkx : ¬ k = x := fun q => hk q.symm
        have e1 : (decide (k = x) || fed par (par x) k) = fed par (par x) k := by simp [hkx]
        rw [e1, ihx]
        have h1 : sm (fun c => if 0 < c ∧ par c = k then ind (fed par x c) else 0) n = sm (fun c => (if c = x then (if par x = k then 1 else 0) else 0) + (if 0 < c ∧ par c = k then ind (fed par (par x) c) else 0)) n := by
          apply sm_congr
          intro c hc
          by_cases hcx : c = x
          · subst hcx
            rw [if_pos rfl, fed_self, fed_gt hpx]
            by_cases h4 : par c = k
            · rw [if_pos ⟨by omega, h4⟩, if_pos h4, if_pos ⟨by omega, h4⟩]
              rfl
            · rw [if_neg (fun q => h4 q.2), if_neg h4, if_neg (fun q => h4 q.2)]
          · rw [if_neg hcx, fed_s (by omega) hpx]
            have : (decide (c = x) || fed par (par x) c) = fed par (par x) c := by simp [hcx]
            rw [this]
            omega
        rw [h1, sm_add, sm_one, if_pos hx]
        omega
/-- the current of k: of all loads that work, those at boards that are fed through k -/
def crt (par : Nat → Nat) (w pl : Nat → Nat) (m k : Nat) : Nat := sm (fun i => w i * ind (fed par (pl i) k)) m
theorem crt_rec {par : Nat → Nat} {n : Nat} (hp : okp par n) {w pl : Nat → Nat} {m : Nat} (hpl : ∀ i, i < m → pl i < n) (k : Nat) : crt par w pl m k = sm (fun i => if pl i = k then w i else 0) m + sm (fun c => if 0 < c ∧ par c = k then crt par w pl m c else 0) n := by
  have h1 : crt par w pl m k = sm (fun i => (if pl i = k then w i else 0) + sm (fun c => if 0 < c ∧ par c = k then w i * ind (fed par (pl i) c) else 0) n) m := by
    apply sm_congr
    intro i hi
    rw [fed_sum hp k (pl i) (hpl i hi), Nat.mul_add, ← sm_mul]
    congr 1
    · by_cases h : pl i = k
      · rw [if_pos h, if_pos h, Nat.mul_one]
      · rw [if_neg h, if_neg h, Nat.mul_zero]
    · apply sm_congr
      intro c _
      by_cases h : 0 < c ∧ par c = k
      · rw [if_pos h, if_pos h]
      · rw [if_neg h, if_neg h, Nat.mul_zero]
  rw [h1, sm_add, sm_swap]
  congr 1
  apply sm_congr
  intro c _
  by_cases h : 0 < c ∧ par c = k
  · rw [if_pos h]
    apply sm_congr
    intro i _
    rw [if_pos h]
  · rw [if_neg h]
    apply sm_z
    intro i _
    rw [if_neg h]
