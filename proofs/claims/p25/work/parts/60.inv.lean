/-! What holds of the class's row: n boards, m loads, time T, no more than X blows -/
def BLW (row : zA) (n X : Nat) : Prop := ∃ e : Nat → Nat, sm e n ≤ X ∧ row 8 = nI (sm e n) ∧ (∀ k, k < n → row (87 + k) = nI (e k)) ∧ (∀ k, k < n → bt (row 7) k = true ∨ row (47 + k) ≠ 0 → 0 < e k) ∧ ∀ r, r < 8 → r < sm e n → ∃ b, b < n ∧ row (9 + r) = nI b ∧ 0 < e b
def INV (row : zA) (n m T X : Nat) (par pl cu : Nat → Nat) : Prop := (PR row n par) ∧ (PL row n m pl cu) ∧ (∀ i, m ≤ i → bt (row 6) i = false) ∧ (sm cu m ≤ 9999) ∧ (row 3 = nI T) ∧ (∃ a, a ≤ 9 ∧ row 0 = nI a) ∧ (∃ c, 1 ≤ c ∧ c ≤ 9 ∧ row 1 = nI c) ∧ (∀ k, k < n → ∃ r, 1 ≤ r ∧ r ≤ 100 ∧ row (27 + k) = nI r) ∧ (∀ k, k < n → ∃ a, a ≤ 9 ∧ row (47 + k) = nI a ∧ (0 < a → bt (row 7) k = false)) ∧ (∀ k, k < n → ∃ h, h ≤ 1000000 ∧ row (57 + k) = nI h) ∧ (∀ k, k < n → row (37 + k) ≠ 2 → row (67 + k) = 0) ∧ (BLW row n X) ∧ (∀ k, n ≤ k → k < 10 → row (87 + k) = 0) ∧ (∀ j, 125 ≤ j → row j = 0) ∧ (∃ g, g ≤ 50 ∧ row 2 = nI g)
theorem INV.P {row : zA} {n m T X : Nat} {par pl cu : Nat → Nat} (h : INV row n m T X par pl cu) : PR row n par := h.1
theorem INV.Q {row : zA} {n m T X : Nat} {par pl cu : Nat → Nat} (h : INV row n m T X par pl cu) : PL row n m pl cu := h.2.1
theorem INV.on {row : zA} {n m T X : Nat} {par pl cu : Nat → Nat} (h : INV row n m T X par pl cu) : ∀ i, m ≤ i → bt (row 6) i = false := h.2.2.1
theorem INV.cs {row : zA} {n m T X : Nat} {par pl cu : Nat → Nat} (h : INV row n m T X par pl cu) : sm cu m ≤ 9999 := h.2.2.2.1
theorem INV.tm {row : zA} {n m T X : Nat} {par pl cu : Nat → Nat} (h : INV row n m T X par pl cu) : row 3 = nI T := h.2.2.2.2.1
theorem INV.arc {row : zA} {n m T X : Nat} {par pl cu : Nat → Nat} (h : INV row n m T X par pl cu) : ∃ a, a ≤ 9 ∧ row 0 = nI a := h.2.2.2.2.2.1
theorem INV.coo {row : zA} {n m T X : Nat} {par pl cu : Nat → Nat} (h : INV row n m T X par pl cu) : ∃ c, 1 ≤ c ∧ c ≤ 9 ∧ row 1 = nI c := h.2.2.2.2.2.2.1
theorem INV.rt {row : zA} {n m T X : Nat} {par pl cu : Nat → Nat} (h : INV row n m T X par pl cu) : ∀ k, k < n → ∃ r, 1 ≤ r ∧ r ≤ 100 ∧ row (27 + k) = nI r := h.2.2.2.2.2.2.2.1
theorem INV.af {row : zA} {n m T X : Nat} {par pl cu : Nat → Nat} (h : INV row n m T X par pl cu) : ∀ k, k < n → ∃ a, a ≤ 9 ∧ row (47 + k) = nI a ∧ (0 < a → bt (row 7) k = false) := h.2.2.2.2.2.2.2.2.1
theorem INV.ht {row : zA} {n m T X : Nat} {par pl cu : Nat → Nat} (h : INV row n m T X par pl cu) : ∀ k, k < n → ∃ h, h ≤ 1000000 ∧ row (57 + k) = nI h := h.2.2.2.2.2.2.2.2.2.1
theorem INV.sp {row : zA} {n m T X : Nat} {par pl cu : Nat → Nat} (h : INV row n m T X par pl cu) : ∀ k, k < n → row (37 + k) ≠ 2 → row (67 + k) = 0 := h.2.2.2.2.2.2.2.2.2.2.1
theorem INV.bl {row : zA} {n m T X : Nat} {par pl cu : Nat → Nat} (h : INV row n m T X par pl cu) : BLW row n X := h.2.2.2.2.2.2.2.2.2.2.2.1
theorem INV.ze {row : zA} {n m T X : Nat} {par pl cu : Nat → Nat} (h : INV row n m T X par pl cu) : ∀ k, n ≤ k → k < 10 → row (87 + k) = 0 := h.2.2.2.2.2.2.2.2.2.2.2.2.1
theorem INV.far {row : zA} {n m T X : Nat} {par pl cu : Nat → Nat} (h : INV row n m T X par pl cu) : ∀ j, 125 ≤ j → row j = 0 := h.2.2.2.2.2.2.2.2.2.2.2.2.2.1
theorem INV.ag {row : zA} {n m T X : Nat} {par pl cu : Nat → Nat} (h : INV row n m T X par pl cu) : ∃ g, g ≤ 50 ∧ row 2 = nI g := h.2.2.2.2.2.2.2.2.2.2.2.2.2.2
theorem INV.mk {row : zA} {n m T X : Nat} {par pl cu : Nat → Nat} (h_P : PR row n par) (h_Q : PL row n m pl cu) (h_on : ∀ i, m ≤ i → bt (row 6) i = false) (h_cs : sm cu m ≤ 9999) (h_tm : row 3 = nI T) (h_arc : ∃ a, a ≤ 9 ∧ row 0 = nI a) (h_coo : ∃ c, 1 ≤ c ∧ c ≤ 9 ∧ row 1 = nI c) (h_rt : ∀ k, k < n → ∃ r, 1 ≤ r ∧ r ≤ 100 ∧ row (27 + k) = nI r) (h_af : ∀ k, k < n → ∃ a, a ≤ 9 ∧ row (47 + k) = nI a ∧ (0 < a → bt (row 7) k = false)) (h_ht : ∀ k, k < n → ∃ h, h ≤ 1000000 ∧ row (57 + k) = nI h) (h_sp : ∀ k, k < n → row (37 + k) ≠ 2 → row (67 + k) = 0) (h_bl : BLW row n X) (h_ze : ∀ k, n ≤ k → k < 10 → row (87 + k) = 0) (h_far : ∀ j, 125 ≤ j → row j = 0) (h_ag : ∃ g, g ≤ 50 ∧ row 2 = nI g) : INV row n m T X par pl cu := ⟨h_P, h_Q, h_on, h_cs, h_tm, h_arc, h_coo, h_rt, h_af, h_ht, h_sp, h_bl, h_ze, h_far, h_ag⟩
theorem INV.n10 {row : zA} {n m T X : Nat} {par pl cu : Nat → Nat} (h : INV row n m T X par pl cu) : n ≤ 10 := h.P.1
theorem INV.m14 {row : zA} {n m T X : Nat} {par pl cu : Nat → Nat} (h : INV row n m T X par pl cu) : m ≤ 14 := h.Q.1
theorem INV.r4 {row : zA} {n m T X : Nat} {par pl cu : Nat → Nat} (h : INV row n m T X par pl cu) : row 4 = nI n := h.P.2.1
theorem INV.r5 {row : zA} {n m T X : Nat} {par pl cu : Nat → Nat} (h : INV row n m T X par pl cu) : row 5 = nI m := h.Q.2.1
theorem INV.more {row : zA} {n m T X Y : Nat} {par pl cu : Nat → Nat} (h : INV row n m T X par pl cu) (hXY : X ≤ Y) : INV row n m T Y par pl cu := by
  obtain ⟨e, e1, e2⟩ := h.bl
  exact INV.mk h.P h.Q h.on h.cs h.tm h.arc h.coo h.rt h.af h.ht h.sp ⟨e, Nat.le_trans e1 hXY, e2⟩ h.ze h.far h.ag
/-- the reads of PR and PL, moved -/
theorem PR.mv {row row' : zA} {n : Nat} {par : Nat → Nat} (P : PR row n par) (h4 : row' 4 = row 4) (hf : ∀ k, k < n → row' (17 + k) = row (17 + k)) (h7 : ∀ k, n ≤ k → bt (row' 7) k = false) : PR row' n par := by
  obtain ⟨p1, p2, p3, p4, p5⟩ := P
  exact ⟨p1, h4.trans p2, p3, fun k h0 hk => (hf k hk).trans (p4 k h0 hk), h7⟩
theorem PL.mv {row row' : zA} {n m : Nat} {pl cu : Nat → Nat} (Q : PL row n m pl cu) (h5 : row' 5 = row 5) (hf : ∀ j, 97 ≤ j → j < 125 → row' j = row j) : PL row' n m pl cu := by
  obtain ⟨q1, q2, q3⟩ := Q
  refine ⟨q1, h5.trans q2, fun i hi => ?_⟩
  obtain ⟨c1, c2, c3⟩ := q3 i hi
  exact ⟨c1, (hf _ (by omega) (by omega)).trans c2, (hf _ (by omega) (by omega)).trans c3⟩
theorem sm_mono {f g : Nat → Nat} : ∀ {n : Nat}, (∀ k, k < n → f k ≤ g k) → sm f n ≤ sm g n
  | 0, _ => Nat.le_refl _
  | n + 1, h => by
    unfold sm
    exact Nat.add_le_add (sm_mono (fun k hk => h k (by omega))) (h n (by omega))
/-- the current of k -/
def Cc (row : zA) (m : Nat) (par pl cu : Nat → Nat) (k : Nat) : Nat := crt par (wgt (bt (row 6)) (ded par (bt (row 7))) pl cu) pl m k
theorem Cc_le (row : zA) (m : Nat) (par pl cu : Nat → Nat) (k : Nat) : Cc row m par pl cu k ≤ sm cu m := by
  unfold Cc crt
  refine sm_mono fun i _ => ?_
  have h1 : wgt (bt (row 6)) (ded par (bt (row 7))) pl cu i ≤ cu i := by
    unfold wgt
    split <;> omega
  exact Nat.le_trans (Nat.mul_le_mul h1 (ind_le _)) (by omega)
theorem sm_upd (e : Nat → Nat) (k : Nat) : ∀ n : Nat, sm (fun i => if i = k then e i + 1 else e i) n = sm e n + (if k < n then 1 else 0)
  | 0 => rfl
  | n + 1 => by
    show sm (fun i => if i = k then e i + 1 else e i) n + (if n = k then e n + 1 else e n) = sm e n + e n + _
    rw [sm_upd e k n]
    by_cases h : n = k
    · subst h
      rw [if_pos rfl, if_neg (by omega), if_pos (by omega)]
      omega
    · rw [if_neg h]
      by_cases h2 : k < n
      · rw [if_pos h2, if_pos (by omega)]
        omega
      · rw [if_neg h2, if_neg (by omega)]
        omega
